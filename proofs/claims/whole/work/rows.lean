section
-- ===== PART A: goes FIRST, ahead of the names: the tables' words, and 'selects' of the private methods out of them =====
/-- a private method of a class that the tables say can be made, by its rows of tables_1 -/
def lw_okq (q : MethodName × Nat) : Prop := (q.1.cls ≠ "java/lang/invoke/MethodHandle" ∧ q.1.cls ≠ "java/lang/invoke/VarHandle") ∧ Cond.instantiable q.1.cls q.2 ∈ tables_1 ∧ Cond.privateMethod q.1 ∈ tables_1 ∧ Cond.instanceMethod q.1 ∈ tables_1
theorem lw_p0 : lw_okq (⟨"FireDrill", "refuse", "(I)I"⟩, 18) := ⟨⟨by decide +kernel, by decide +kernel⟩, List.mem_of_getElem? (i := 22) (by decide +kernel), List.mem_of_getElem? (i := 511) (by decide +kernel), List.mem_of_getElem? (i := 512) (by decide +kernel)⟩
theorem lw_p1 : lw_okq (⟨"FireDrill", "deny", "(I)Z"⟩, 18) := ⟨⟨by decide +kernel, by decide +kernel⟩, List.mem_of_getElem? (i := 22) (by decide +kernel), List.mem_of_getElem? (i := 523) (by decide +kernel), List.mem_of_getElem? (i := 524) (by decide +kernel)⟩
theorem lw_p2 : lw_okq (⟨"FireDrill$Text", "kindAt", "(I)I"⟩, 10) := ⟨⟨by decide +kernel, by decide +kernel⟩, List.mem_of_getElem? (i := 30) (by decide +kernel), List.mem_of_getElem? (i := 544) (by decide +kernel), List.mem_of_getElem? (i := 545) (by decide +kernel)⟩
theorem lw_p3 : lw_okq (⟨"FireDrill$HouseReader", "readStatement", "(LFireDrill$House;)Z"⟩, 3) := ⟨⟨by decide +kernel, by decide +kernel⟩, List.mem_of_getElem? (i := 126) (by decide +kernel), List.mem_of_getElem? (i := 548) (by decide +kernel), List.mem_of_getElem? (i := 549) (by decide +kernel)⟩
theorem lw_p4 : lw_okq (⟨"FireDrill$HouseReader", "readRoom", "(LFireDrill$House;)Z"⟩, 3) := ⟨⟨by decide +kernel, by decide +kernel⟩, List.mem_of_getElem? (i := 126) (by decide +kernel), List.mem_of_getElem? (i := 612) (by decide +kernel), List.mem_of_getElem? (i := 613) (by decide +kernel)⟩
theorem lw_p5 : lw_okq (⟨"FireDrill$HouseReader", "takeNewName", "(LFireDrill$House;)Z"⟩, 3) := ⟨⟨by decide +kernel, by decide +kernel⟩, List.mem_of_getElem? (i := 126) (by decide +kernel), List.mem_of_getElem? (i := 616) (by decide +kernel), List.mem_of_getElem? (i := 617) (by decide +kernel)⟩
theorem lw_p6 : lw_okq (⟨"FireDrill$HouseReader", "readStair", "(LFireDrill$House;)Z"⟩, 3) := ⟨⟨by decide +kernel, by decide +kernel⟩, List.mem_of_getElem? (i := 126) (by decide +kernel), List.mem_of_getElem? (i := 634) (by decide +kernel), List.mem_of_getElem? (i := 635) (by decide +kernel)⟩
theorem lw_p7 : lw_okq (⟨"FireDrill$HouseReader", "takeOldName", "([II)I"⟩, 3) := ⟨⟨by decide +kernel, by decide +kernel⟩, List.mem_of_getElem? (i := 126) (by decide +kernel), List.mem_of_getElem? (i := 638) (by decide +kernel), List.mem_of_getElem? (i := 639) (by decide +kernel)⟩
theorem lw_p8 : lw_okq (⟨"FireDrill$HouseReader", "takeSetting", "(Ljava/lang/String;II)Z"⟩, 3) := ⟨⟨by decide +kernel, by decide +kernel⟩, List.mem_of_getElem? (i := 126) (by decide +kernel), List.mem_of_getElem? (i := 657) (by decide +kernel), List.mem_of_getElem? (i := 658) (by decide +kernel)⟩
theorem lw_p9 : lw_okq (⟨"FireDrill$HouseReader", "readSection", "(LFireDrill$House;)Z"⟩, 3) := ⟨⟨by decide +kernel, by decide +kernel⟩, List.mem_of_getElem? (i := 126) (by decide +kernel), List.mem_of_getElem? (i := 665) (by decide +kernel), List.mem_of_getElem? (i := 666) (by decide +kernel)⟩
theorem lw_p10 : lw_okq (⟨"FireDrill$HouseReader", "readClerk", "(LFireDrill$House;)Z"⟩, 3) := ⟨⟨by decide +kernel, by decide +kernel⟩, List.mem_of_getElem? (i := 126) (by decide +kernel), List.mem_of_getElem? (i := 670) (by decide +kernel), List.mem_of_getElem? (i := 671) (by decide +kernel)⟩
theorem lw_p11 : lw_okq (⟨"FireDrill$Formula", "readBoth", "(I)Z"⟩, 4) := ⟨⟨by decide +kernel, by decide +kernel⟩, List.mem_of_getElem? (i := 105) (by decide +kernel), List.mem_of_getElem? (i := 687) (by decide +kernel), List.mem_of_getElem? (i := 688) (by decide +kernel)⟩
theorem lw_p12 : lw_okq (⟨"FireDrill$Formula", "readFact", "(I)Z"⟩, 4) := ⟨⟨by decide +kernel, by decide +kernel⟩, List.mem_of_getElem? (i := 105) (by decide +kernel), List.mem_of_getElem? (i := 691) (by decide +kernel), List.mem_of_getElem? (i := 692) (by decide +kernel)⟩
theorem lw_p13 : lw_okq (⟨"FireDrill$Formula", "opens", "(I)Z"⟩, 4) := ⟨⟨by decide +kernel, by decide +kernel⟩, List.mem_of_getElem? (i := 105) (by decide +kernel), List.mem_of_getElem? (i := 700) (by decide +kernel), List.mem_of_getElem? (i := 701) (by decide +kernel)⟩
theorem lw_p14 : lw_okq (⟨"FireDrill$Formula", "readProduct", "(I)Z"⟩, 4) := ⟨⟨by decide +kernel, by decide +kernel⟩, List.mem_of_getElem? (i := 105) (by decide +kernel), List.mem_of_getElem? (i := 722) (by decide +kernel), List.mem_of_getElem? (i := 723) (by decide +kernel)⟩
theorem lw_p15 : lw_okq (⟨"FireDrill$Formula", "readPart", "(I)Z"⟩, 4) := ⟨⟨by decide +kernel, by decide +kernel⟩, List.mem_of_getElem? (i := 105) (by decide +kernel), List.mem_of_getElem? (i := 726) (by decide +kernel), List.mem_of_getElem? (i := 727) (by decide +kernel)⟩
def lw_privs_1 : List (MethodName × Nat) := [(⟨"FireDrill", "refuse", "(I)I"⟩, 18), (⟨"FireDrill", "deny", "(I)Z"⟩, 18), (⟨"FireDrill$Text", "kindAt", "(I)I"⟩, 10), (⟨"FireDrill$HouseReader", "readStatement", "(LFireDrill$House;)Z"⟩, 3), (⟨"FireDrill$HouseReader", "readRoom", "(LFireDrill$House;)Z"⟩, 3), (⟨"FireDrill$HouseReader", "takeNewName", "(LFireDrill$House;)Z"⟩, 3), (⟨"FireDrill$HouseReader", "readStair", "(LFireDrill$House;)Z"⟩, 3), (⟨"FireDrill$HouseReader", "takeOldName", "([II)I"⟩, 3), (⟨"FireDrill$HouseReader", "takeSetting", "(Ljava/lang/String;II)Z"⟩, 3), (⟨"FireDrill$HouseReader", "readSection", "(LFireDrill$House;)Z"⟩, 3), (⟨"FireDrill$HouseReader", "readClerk", "(LFireDrill$House;)Z"⟩, 3), (⟨"FireDrill$Formula", "readBoth", "(I)Z"⟩, 4), (⟨"FireDrill$Formula", "readFact", "(I)Z"⟩, 4), (⟨"FireDrill$Formula", "opens", "(I)Z"⟩, 4), (⟨"FireDrill$Formula", "readProduct", "(I)Z"⟩, 4), (⟨"FireDrill$Formula", "readPart", "(I)Z"⟩, 4)]
theorem lw_r1 : ∀ q ∈ lw_privs_1, lw_okq q := List.forall_mem_cons.mpr ⟨lw_p0, List.forall_mem_cons.mpr ⟨lw_p1, List.forall_mem_cons.mpr ⟨lw_p2, List.forall_mem_cons.mpr ⟨lw_p3, List.forall_mem_cons.mpr ⟨lw_p4, List.forall_mem_cons.mpr ⟨lw_p5, List.forall_mem_cons.mpr ⟨lw_p6, List.forall_mem_cons.mpr ⟨lw_p7, List.forall_mem_cons.mpr ⟨lw_p8, List.forall_mem_cons.mpr ⟨lw_p9, List.forall_mem_cons.mpr ⟨lw_p10, List.forall_mem_cons.mpr ⟨lw_p11, List.forall_mem_cons.mpr ⟨lw_p12, List.forall_mem_cons.mpr ⟨lw_p13, List.forall_mem_cons.mpr ⟨lw_p14, List.forall_mem_cons.mpr ⟨lw_p15, fun _ h => absurd h List.not_mem_nil⟩⟩⟩⟩⟩⟩⟩⟩⟩⟩⟩⟩⟩⟩⟩⟩
theorem lw_p16 : lw_okq (⟨"FireDrill$Formula", "readLesserOrGreater", "(I)Z"⟩, 4) := ⟨⟨by decide +kernel, by decide +kernel⟩, List.mem_of_getElem? (i := 105) (by decide +kernel), List.mem_of_getElem? (i := 733) (by decide +kernel), List.mem_of_getElem? (i := 734) (by decide +kernel)⟩
theorem lw_p17 : lw_okq (⟨"FireDrill$Formula", "comparisonHere", "()I"⟩, 4) := ⟨⟨by decide +kernel, by decide +kernel⟩, List.mem_of_getElem? (i := 105) (by decide +kernel), List.mem_of_getElem? (i := 739) (by decide +kernel), List.mem_of_getElem? (i := 740) (by decide +kernel)⟩
theorem lw_p18 : lw_okq (⟨"FireDrill$HouseReader", "readHears", "(LFireDrill$House;)Z"⟩, 3) := ⟨⟨by decide +kernel, by decide +kernel⟩, List.mem_of_getElem? (i := 126) (by decide +kernel), List.mem_of_getElem? (i := 747) (by decide +kernel), List.mem_of_getElem? (i := 748) (by decide +kernel)⟩
theorem lw_p19 : lw_okq (⟨"FireDrill$HouseReader", "readSigns", "(LFireDrill$House;)Z"⟩, 3) := ⟨⟨by decide +kernel, by decide +kernel⟩, List.mem_of_getElem? (i := 126) (by decide +kernel), List.mem_of_getElem? (i := 751) (by decide +kernel), List.mem_of_getElem? (i := 752) (by decide +kernel)⟩
theorem lw_p20 : lw_okq (⟨"FireDrill$HouseReader", "readSmoke", "(LFireDrill$House;)Z"⟩, 3) := ⟨⟨by decide +kernel, by decide +kernel⟩, List.mem_of_getElem? (i := 126) (by decide +kernel), List.mem_of_getElem? (i := 755) (by decide +kernel), List.mem_of_getElem? (i := 756) (by decide +kernel)⟩
theorem lw_p21 : lw_okq (⟨"FireDrill$Drill", "reach", "(III)V"⟩, 11) := ⟨⟨by decide +kernel, by decide +kernel⟩, List.mem_of_getElem? (i := 326) (by decide +kernel), List.mem_of_getElem? (i := 798) (by decide +kernel), List.mem_of_getElem? (i := 799) (by decide +kernel)⟩
theorem lw_p22 : lw_okq (⟨"FireDrill", "areTwo", "(II)Z"⟩, 18) := ⟨⟨by decide +kernel, by decide +kernel⟩, List.mem_of_getElem? (i := 22) (by decide +kernel), List.mem_of_getElem? (i := 835) (by decide +kernel), List.mem_of_getElem? (i := 836) (by decide +kernel)⟩
theorem lw_p23 : lw_okq (⟨"FireDrill", "runThisDrill", "()V"⟩, 18) := ⟨⟨by decide +kernel, by decide +kernel⟩, List.mem_of_getElem? (i := 22) (by decide +kernel), List.mem_of_getElem? (i := 844) (by decide +kernel), List.mem_of_getElem? (i := 845) (by decide +kernel)⟩
theorem lw_p24 : lw_okq (⟨"FireDrill$Drill", "goToRooms", "(LFireDrill$House;)V"⟩, 11) := ⟨⟨by decide +kernel, by decide +kernel⟩, List.mem_of_getElem? (i := 326) (by decide +kernel), List.mem_of_getElem? (i := 853) (by decide +kernel), List.mem_of_getElem? (i := 854) (by decide +kernel)⟩
theorem lw_p25 : lw_okq (⟨"FireDrill$Drill", "areAllOut", "(LFireDrill$House;)Z"⟩, 11) := ⟨⟨by decide +kernel, by decide +kernel⟩, List.mem_of_getElem? (i := 326) (by decide +kernel), List.mem_of_getElem? (i := 857) (by decide +kernel), List.mem_of_getElem? (i := 858) (by decide +kernel)⟩
theorem lw_p26 : lw_okq (⟨"FireDrill$Drill", "isOut", "(I)Z"⟩, 11) := ⟨⟨by decide +kernel, by decide +kernel⟩, List.mem_of_getElem? (i := 326) (by decide +kernel), List.mem_of_getElem? (i := 861) (by decide +kernel), List.mem_of_getElem? (i := 862) (by decide +kernel)⟩
theorem lw_p27 : lw_okq (⟨"FireDrill$Drill", "runMinute", "(LFireDrill$House;LFireDrill$State;I)V"⟩, 11) := ⟨⟨by decide +kernel, by decide +kernel⟩, List.mem_of_getElem? (i := 326) (by decide +kernel), List.mem_of_getElem? (i := 865) (by decide +kernel), List.mem_of_getElem? (i := 866) (by decide +kernel)⟩
theorem lw_p28 : lw_okq (⟨"FireDrill$Drill", "turns", "(LFireDrill$House;III)Z"⟩, 11) := ⟨⟨by decide +kernel, by decide +kernel⟩, List.mem_of_getElem? (i := 326) (by decide +kernel), List.mem_of_getElem? (i := 872) (by decide +kernel), List.mem_of_getElem? (i := 873) (by decide +kernel)⟩
theorem lw_p29 : lw_okq (⟨"FireDrill$Drill", "walk", "(LFireDrill$House;II)V"⟩, 11) := ⟨⟨by decide +kernel, by decide +kernel⟩, List.mem_of_getElem? (i := 326) (by decide +kernel), List.mem_of_getElem? (i := 898) (by decide +kernel), List.mem_of_getElem? (i := 899) (by decide +kernel)⟩
theorem lw_p30 : lw_okq (⟨"FireDrill$Drill", "stairFrom", "(LFireDrill$House;I)I"⟩, 11) := ⟨⟨by decide +kernel, by decide +kernel⟩, List.mem_of_getElem? (i := 326) (by decide +kernel), List.mem_of_getElem? (i := 902) (by decide +kernel), List.mem_of_getElem? (i := 903) (by decide +kernel)⟩
theorem lw_p31 : lw_okq (⟨"FireDrill$Drill", "countMeetings", "(LFireDrill$House;LFireDrill$State;)V"⟩, 11) := ⟨⟨by decide +kernel, by decide +kernel⟩, List.mem_of_getElem? (i := 326) (by decide +kernel), List.mem_of_getElem? (i := 907) (by decide +kernel), List.mem_of_getElem? (i := 908) (by decide +kernel)⟩
def lw_privs_2 : List (MethodName × Nat) := [(⟨"FireDrill$Formula", "readLesserOrGreater", "(I)Z"⟩, 4), (⟨"FireDrill$Formula", "comparisonHere", "()I"⟩, 4), (⟨"FireDrill$HouseReader", "readHears", "(LFireDrill$House;)Z"⟩, 3), (⟨"FireDrill$HouseReader", "readSigns", "(LFireDrill$House;)Z"⟩, 3), (⟨"FireDrill$HouseReader", "readSmoke", "(LFireDrill$House;)Z"⟩, 3), (⟨"FireDrill$Drill", "reach", "(III)V"⟩, 11), (⟨"FireDrill", "areTwo", "(II)Z"⟩, 18), (⟨"FireDrill", "runThisDrill", "()V"⟩, 18), (⟨"FireDrill$Drill", "goToRooms", "(LFireDrill$House;)V"⟩, 11), (⟨"FireDrill$Drill", "areAllOut", "(LFireDrill$House;)Z"⟩, 11), (⟨"FireDrill$Drill", "isOut", "(I)Z"⟩, 11), (⟨"FireDrill$Drill", "runMinute", "(LFireDrill$House;LFireDrill$State;I)V"⟩, 11), (⟨"FireDrill$Drill", "turns", "(LFireDrill$House;III)Z"⟩, 11), (⟨"FireDrill$Drill", "walk", "(LFireDrill$House;II)V"⟩, 11), (⟨"FireDrill$Drill", "stairFrom", "(LFireDrill$House;I)I"⟩, 11), (⟨"FireDrill$Drill", "countMeetings", "(LFireDrill$House;LFireDrill$State;)V"⟩, 11)]
theorem lw_r2 : ∀ q ∈ lw_privs_2, lw_okq q := List.forall_mem_cons.mpr ⟨lw_p16, List.forall_mem_cons.mpr ⟨lw_p17, List.forall_mem_cons.mpr ⟨lw_p18, List.forall_mem_cons.mpr ⟨lw_p19, List.forall_mem_cons.mpr ⟨lw_p20, List.forall_mem_cons.mpr ⟨lw_p21, List.forall_mem_cons.mpr ⟨lw_p22, List.forall_mem_cons.mpr ⟨lw_p23, List.forall_mem_cons.mpr ⟨lw_p24, List.forall_mem_cons.mpr ⟨lw_p25, List.forall_mem_cons.mpr ⟨lw_p26, List.forall_mem_cons.mpr ⟨lw_p27, List.forall_mem_cons.mpr ⟨lw_p28, List.forall_mem_cons.mpr ⟨lw_p29, List.forall_mem_cons.mpr ⟨lw_p30, List.forall_mem_cons.mpr ⟨lw_p31, fun _ h => absurd h List.not_mem_nil⟩⟩⟩⟩⟩⟩⟩⟩⟩⟩⟩⟩⟩⟩⟩⟩
theorem lw_p32 : lw_okq (⟨"FireDrill$Posting", "search", "(LFireDrill$House;LFireDrill$State;LFireDrill$Drill;II)V"⟩, 3) := ⟨⟨by decide +kernel, by decide +kernel⟩, List.mem_of_getElem? (i := 377) (by decide +kernel), List.mem_of_getElem? (i := 949) (by decide +kernel), List.mem_of_getElem? (i := 950) (by decide +kernel)⟩
theorem lw_p33 : lw_okq (⟨"FireDrill$Posting", "count", "(LFireDrill$House;LFireDrill$State;LFireDrill$Drill;)I"⟩, 3) := ⟨⟨by decide +kernel, by decide +kernel⟩, List.mem_of_getElem? (i := 377) (by decide +kernel), List.mem_of_getElem? (i := 953) (by decide +kernel), List.mem_of_getElem? (i := 954) (by decide +kernel)⟩
theorem lw_p34 : lw_okq (⟨"FireDrill$Posting", "keepIfMore", "(LFireDrill$House;I)V"⟩, 3) := ⟨⟨by decide +kernel, by decide +kernel⟩, List.mem_of_getElem? (i := 377) (by decide +kernel), List.mem_of_getElem? (i := 958) (by decide +kernel), List.mem_of_getElem? (i := 959) (by decide +kernel)⟩
theorem lw_p35 : lw_okq (⟨"FireDrill", "touchesAll", "(I)Z"⟩, 18) := ⟨⟨by decide +kernel, by decide +kernel⟩, List.mem_of_getElem? (i := 22) (by decide +kernel), List.mem_of_getElem? (i := 977) (by decide +kernel), List.mem_of_getElem? (i := 978) (by decide +kernel)⟩
theorem lw_p36 : lw_okq (⟨"FireDrill$Drill", "dearnessTo", "(LFireDrill$House;III)I"⟩, 11) := ⟨⟨by decide +kernel, by decide +kernel⟩, List.mem_of_getElem? (i := 326) (by decide +kernel), List.mem_of_getElem? (i := 990) (by decide +kernel), List.mem_of_getElem? (i := 991) (by decide +kernel)⟩
theorem lw_p37 : lw_okq (⟨"FireDrill$Coupling", "search", "(IIJ)V"⟩, 4) := ⟨⟨by decide +kernel, by decide +kernel⟩, List.mem_of_getElem? (i := 395) (by decide +kernel), List.mem_of_getElem? (i := 1005) (by decide +kernel), List.mem_of_getElem? (i := 1006) (by decide +kernel)⟩
theorem lw_p38 : lw_okq (⟨"FireDrill", "mayCome", "(I)Z"⟩, 18) := ⟨⟨by decide +kernel, by decide +kernel⟩, List.mem_of_getElem? (i := 22) (by decide +kernel), List.mem_of_getElem? (i := 1018) (by decide +kernel), List.mem_of_getElem? (i := 1019) (by decide +kernel)⟩
theorem lw_p39 : lw_okq (⟨"FireDrill", "holdDrills", "(I)I"⟩, 18) := ⟨⟨by decide +kernel, by decide +kernel⟩, List.mem_of_getElem? (i := 22) (by decide +kernel), List.mem_of_getElem? (i := 1027) (by decide +kernel), List.mem_of_getElem? (i := 1028) (by decide +kernel)⟩
theorem lw_p40 : lw_okq (⟨"FireDrill$Suspects", "isAsSeen", "([I)Z"⟩, 7) := ⟨⟨by decide +kernel, by decide +kernel⟩, List.mem_of_getElem? (i := 419) (by decide +kernel), List.mem_of_getElem? (i := 1060) (by decide +kernel), List.mem_of_getElem? (i := 1061) (by decide +kernel)⟩
theorem lw_p41 : lw_okq (⟨"FireDrill$Suspects", "mostLeft", "(I)I"⟩, 7) := ⟨⟨by decide +kernel, by decide +kernel⟩, List.mem_of_getElem? (i := 419) (by decide +kernel), List.mem_of_getElem? (i := 1076) (by decide +kernel), List.mem_of_getElem? (i := 1077) (by decide +kernel)⟩
theorem lw_p42 : lw_okq (⟨"FireDrill", "draw", "(I)I"⟩, 18) := ⟨⟨by decide +kernel, by decide +kernel⟩, List.mem_of_getElem? (i := 22) (by decide +kernel), List.mem_of_getElem? (i := 1103) (by decide +kernel), List.mem_of_getElem? (i := 1104) (by decide +kernel)⟩
theorem lw_p43 : lw_okq (⟨"FireDrill", "readQuestion", "()I"⟩, 18) := ⟨⟨by decide +kernel, by decide +kernel⟩, List.mem_of_getElem? (i := 22) (by decide +kernel), List.mem_of_getElem? (i := 1128) (by decide +kernel), List.mem_of_getElem? (i := 1129) (by decide +kernel)⟩
theorem lw_p44 : lw_okq (⟨"FireDrill", "answerTest", "(I)J"⟩, 18) := ⟨⟨by decide +kernel, by decide +kernel⟩, List.mem_of_getElem? (i := 22) (by decide +kernel), List.mem_of_getElem? (i := 1141) (by decide +kernel), List.mem_of_getElem? (i := 1142) (by decide +kernel)⟩
theorem lw_p45 : lw_okq (⟨"FireDrill", "valueFor", "(I)I"⟩, 18) := ⟨⟨by decide +kernel, by decide +kernel⟩, List.mem_of_getElem? (i := 22) (by decide +kernel), List.mem_of_getElem? (i := 1145) (by decide +kernel), List.mem_of_getElem? (i := 1146) (by decide +kernel)⟩
theorem lw_p46 : lw_okq (⟨"FireDrill", "answerSum", "(I)J"⟩, 18) := ⟨⟨by decide +kernel, by decide +kernel⟩, List.mem_of_getElem? (i := 22) (by decide +kernel), List.mem_of_getElem? (i := 1150) (by decide +kernel), List.mem_of_getElem? (i := 1151) (by decide +kernel)⟩
theorem lw_p47 : lw_okq (⟨"FireDrillModel", "look", "()I"⟩, 121) := ⟨⟨by decide +kernel, by decide +kernel⟩, List.mem_of_getElem? (i := 1193) (by decide +kernel), List.mem_of_getElem? (i := 1577) (by decide +kernel), List.mem_of_getElem? (i := 1578) (by decide +kernel)⟩
def lw_privs_3 : List (MethodName × Nat) := [(⟨"FireDrill$Posting", "search", "(LFireDrill$House;LFireDrill$State;LFireDrill$Drill;II)V"⟩, 3), (⟨"FireDrill$Posting", "count", "(LFireDrill$House;LFireDrill$State;LFireDrill$Drill;)I"⟩, 3), (⟨"FireDrill$Posting", "keepIfMore", "(LFireDrill$House;I)V"⟩, 3), (⟨"FireDrill", "touchesAll", "(I)Z"⟩, 18), (⟨"FireDrill$Drill", "dearnessTo", "(LFireDrill$House;III)I"⟩, 11), (⟨"FireDrill$Coupling", "search", "(IIJ)V"⟩, 4), (⟨"FireDrill", "mayCome", "(I)Z"⟩, 18), (⟨"FireDrill", "holdDrills", "(I)I"⟩, 18), (⟨"FireDrill$Suspects", "isAsSeen", "([I)Z"⟩, 7), (⟨"FireDrill$Suspects", "mostLeft", "(I)I"⟩, 7), (⟨"FireDrill", "draw", "(I)I"⟩, 18), (⟨"FireDrill", "readQuestion", "()I"⟩, 18), (⟨"FireDrill", "answerTest", "(I)J"⟩, 18), (⟨"FireDrill", "valueFor", "(I)I"⟩, 18), (⟨"FireDrill", "answerSum", "(I)J"⟩, 18), (⟨"FireDrillModel", "look", "()I"⟩, 121)]
theorem lw_r3 : ∀ q ∈ lw_privs_3, lw_okq q := List.forall_mem_cons.mpr ⟨lw_p32, List.forall_mem_cons.mpr ⟨lw_p33, List.forall_mem_cons.mpr ⟨lw_p34, List.forall_mem_cons.mpr ⟨lw_p35, List.forall_mem_cons.mpr ⟨lw_p36, List.forall_mem_cons.mpr ⟨lw_p37, List.forall_mem_cons.mpr ⟨lw_p38, List.forall_mem_cons.mpr ⟨lw_p39, List.forall_mem_cons.mpr ⟨lw_p40, List.forall_mem_cons.mpr ⟨lw_p41, List.forall_mem_cons.mpr ⟨lw_p42, List.forall_mem_cons.mpr ⟨lw_p43, List.forall_mem_cons.mpr ⟨lw_p44, List.forall_mem_cons.mpr ⟨lw_p45, List.forall_mem_cons.mpr ⟨lw_p46, List.forall_mem_cons.mpr ⟨lw_p47, fun _ h => absurd h List.not_mem_nil⟩⟩⟩⟩⟩⟩⟩⟩⟩⟩⟩⟩⟩⟩⟩⟩
theorem lw_p48 : lw_okq (⟨"FireDrillModel", "statementTold", "()V"⟩, 121) := ⟨⟨by decide +kernel, by decide +kernel⟩, List.mem_of_getElem? (i := 1193) (by decide +kernel), List.mem_of_getElem? (i := 1581) (by decide +kernel), List.mem_of_getElem? (i := 1582) (by decide +kernel)⟩
theorem lw_p49 : lw_okq (⟨"FireDrillModel", "fail", "(II)V"⟩, 121) := ⟨⟨by decide +kernel, by decide +kernel⟩, List.mem_of_getElem? (i := 1193) (by decide +kernel), List.mem_of_getElem? (i := 1585) (by decide +kernel), List.mem_of_getElem? (i := 1586) (by decide +kernel)⟩
theorem lw_p50 : lw_okq (⟨"FireDrillModel", "takes", "([C)Z"⟩, 121) := ⟨⟨by decide +kernel, by decide +kernel⟩, List.mem_of_getElem? (i := 1193) (by decide +kernel), List.mem_of_getElem? (i := 1589) (by decide +kernel), List.mem_of_getElem? (i := 1590) (by decide +kernel)⟩
theorem lw_p51 : lw_okq (⟨"FireDrillModel", "isHere", "([C)Z"⟩, 121) := ⟨⟨by decide +kernel, by decide +kernel⟩, List.mem_of_getElem? (i := 1193) (by decide +kernel), List.mem_of_getElem? (i := 1593) (by decide +kernel), List.mem_of_getElem? (i := 1594) (by decide +kernel)⟩
theorem lw_p52 : lw_okq (⟨"FireDrillModel", "roomTold", "(I)V"⟩, 121) := ⟨⟨by decide +kernel, by decide +kernel⟩, List.mem_of_getElem? (i := 1193) (by decide +kernel), List.mem_of_getElem? (i := 1600) (by decide +kernel), List.mem_of_getElem? (i := 1601) (by decide +kernel)⟩
theorem lw_p53 : lw_okq (⟨"FireDrillModel", "isFull", "(III)Z"⟩, 121) := ⟨⟨by decide +kernel, by decide +kernel⟩, List.mem_of_getElem? (i := 1193) (by decide +kernel), List.mem_of_getElem? (i := 1604) (by decide +kernel), List.mem_of_getElem? (i := 1605) (by decide +kernel)⟩
theorem lw_p54 : lw_okq (⟨"FireDrillModel", "newName", "()J"⟩, 121) := ⟨⟨by decide +kernel, by decide +kernel⟩, List.mem_of_getElem? (i := 1193) (by decide +kernel), List.mem_of_getElem? (i := 1608) (by decide +kernel), List.mem_of_getElem? (i := 1609) (by decide +kernel)⟩
theorem lw_p55 : lw_okq (⟨"FireDrillModel", "name", "()J"⟩, 121) := ⟨⟨by decide +kernel, by decide +kernel⟩, List.mem_of_getElem? (i := 1193) (by decide +kernel), List.mem_of_getElem? (i := 1612) (by decide +kernel), List.mem_of_getElem? (i := 1613) (by decide +kernel)⟩
theorem lw_p56 : lw_okq (⟨"FireDrillModel", "isOwnHere", "()Z"⟩, 121) := ⟨⟨by decide +kernel, by decide +kernel⟩, List.mem_of_getElem? (i := 1193) (by decide +kernel), List.mem_of_getElem? (i := 1616) (by decide +kernel), List.mem_of_getElem? (i := 1617) (by decide +kernel)⟩
theorem lw_p57 : lw_okq (⟨"FireDrillModel", "nameOf", "(IJ)I"⟩, 121) := ⟨⟨by decide +kernel, by decide +kernel⟩, List.mem_of_getElem? (i := 1193) (by decide +kernel), List.mem_of_getElem? (i := 1622) (by decide +kernel), List.mem_of_getElem? (i := 1623) (by decide +kernel)⟩
theorem lw_p58 : lw_okq (⟨"FireDrillModel", "adds", "(IJ)I"⟩, 121) := ⟨⟨by decide +kernel, by decide +kernel⟩, List.mem_of_getElem? (i := 1193) (by decide +kernel), List.mem_of_getElem? (i := 1626) (by decide +kernel), List.mem_of_getElem? (i := 1627) (by decide +kernel)⟩
theorem lw_p59 : lw_okq (⟨"FireDrillModel", "stairTold", "(I)V"⟩, 121) := ⟨⟨by decide +kernel, by decide +kernel⟩, List.mem_of_getElem? (i := 1193) (by decide +kernel), List.mem_of_getElem? (i := 1630) (by decide +kernel), List.mem_of_getElem? (i := 1631) (by decide +kernel)⟩
theorem lw_p60 : lw_okq (⟨"FireDrillModel", "oneOf", "(I)I"⟩, 121) := ⟨⟨by decide +kernel, by decide +kernel⟩, List.mem_of_getElem? (i := 1193) (by decide +kernel), List.mem_of_getElem? (i := 1634) (by decide +kernel), List.mem_of_getElem? (i := 1635) (by decide +kernel)⟩
theorem lw_p61 : lw_okq (⟨"FireDrillModel", "asks", "([C)V"⟩, 121) := ⟨⟨by decide +kernel, by decide +kernel⟩, List.mem_of_getElem? (i := 1193) (by decide +kernel), List.mem_of_getElem? (i := 1638) (by decide +kernel), List.mem_of_getElem? (i := 1639) (by decide +kernel)⟩
theorem lw_p62 : lw_okq (⟨"FireDrillModel", "number", "(II)I"⟩, 121) := ⟨⟨by decide +kernel, by decide +kernel⟩, List.mem_of_getElem? (i := 1193) (by decide +kernel), List.mem_of_getElem? (i := 1642) (by decide +kernel), List.mem_of_getElem? (i := 1643) (by decide +kernel)⟩
theorem lw_p63 : lw_okq (⟨"FireDrillModel", "sectionTold", "(I)V"⟩, 121) := ⟨⟨by decide +kernel, by decide +kernel⟩, List.mem_of_getElem? (i := 1193) (by decide +kernel), List.mem_of_getElem? (i := 1652) (by decide +kernel), List.mem_of_getElem? (i := 1653) (by decide +kernel)⟩
def lw_privs_4 : List (MethodName × Nat) := [(⟨"FireDrillModel", "statementTold", "()V"⟩, 121), (⟨"FireDrillModel", "fail", "(II)V"⟩, 121), (⟨"FireDrillModel", "takes", "([C)Z"⟩, 121), (⟨"FireDrillModel", "isHere", "([C)Z"⟩, 121), (⟨"FireDrillModel", "roomTold", "(I)V"⟩, 121), (⟨"FireDrillModel", "isFull", "(III)Z"⟩, 121), (⟨"FireDrillModel", "newName", "()J"⟩, 121), (⟨"FireDrillModel", "name", "()J"⟩, 121), (⟨"FireDrillModel", "isOwnHere", "()Z"⟩, 121), (⟨"FireDrillModel", "nameOf", "(IJ)I"⟩, 121), (⟨"FireDrillModel", "adds", "(IJ)I"⟩, 121), (⟨"FireDrillModel", "stairTold", "(I)V"⟩, 121), (⟨"FireDrillModel", "oneOf", "(I)I"⟩, 121), (⟨"FireDrillModel", "asks", "([C)V"⟩, 121), (⟨"FireDrillModel", "number", "(II)I"⟩, 121), (⟨"FireDrillModel", "sectionTold", "(I)V"⟩, 121)]
theorem lw_r4 : ∀ q ∈ lw_privs_4, lw_okq q := List.forall_mem_cons.mpr ⟨lw_p48, List.forall_mem_cons.mpr ⟨lw_p49, List.forall_mem_cons.mpr ⟨lw_p50, List.forall_mem_cons.mpr ⟨lw_p51, List.forall_mem_cons.mpr ⟨lw_p52, List.forall_mem_cons.mpr ⟨lw_p53, List.forall_mem_cons.mpr ⟨lw_p54, List.forall_mem_cons.mpr ⟨lw_p55, List.forall_mem_cons.mpr ⟨lw_p56, List.forall_mem_cons.mpr ⟨lw_p57, List.forall_mem_cons.mpr ⟨lw_p58, List.forall_mem_cons.mpr ⟨lw_p59, List.forall_mem_cons.mpr ⟨lw_p60, List.forall_mem_cons.mpr ⟨lw_p61, List.forall_mem_cons.mpr ⟨lw_p62, List.forall_mem_cons.mpr ⟨lw_p63, fun _ h => absurd h List.not_mem_nil⟩⟩⟩⟩⟩⟩⟩⟩⟩⟩⟩⟩⟩⟩⟩⟩
theorem lw_p64 : lw_okq (⟨"FireDrillModel", "clerkTold", "(I)V"⟩, 121) := ⟨⟨by decide +kernel, by decide +kernel⟩, List.mem_of_getElem? (i := 1193) (by decide +kernel), List.mem_of_getElem? (i := 1656) (by decide +kernel), List.mem_of_getElem? (i := 1657) (by decide +kernel)⟩
theorem lw_p65 : lw_okq (⟨"FireDrillModel", "codesTold", "(II)V"⟩, 121) := ⟨⟨by decide +kernel, by decide +kernel⟩, List.mem_of_getElem? (i := 1193) (by decide +kernel), List.mem_of_getElem? (i := 1660) (by decide +kernel), List.mem_of_getElem? (i := 1661) (by decide +kernel)⟩
theorem lw_p66 : lw_okq (⟨"FireDrillModel", "qTest", "()V"⟩, 121) := ⟨⟨by decide +kernel, by decide +kernel⟩, List.mem_of_getElem? (i := 1193) (by decide +kernel), List.mem_of_getElem? (i := 1664) (by decide +kernel), List.mem_of_getElem? (i := 1665) (by decide +kernel)⟩
theorem lw_p67 : lw_okq (⟨"FireDrillModel", "qOpens", "(II)V"⟩, 121) := ⟨⟨by decide +kernel, by decide +kernel⟩, List.mem_of_getElem? (i := 1193) (by decide +kernel), List.mem_of_getElem? (i := 1668) (by decide +kernel), List.mem_of_getElem? (i := 1669) (by decide +kernel)⟩
theorem lw_p68 : lw_okq (⟨"FireDrillModel", "qFact", "()V"⟩, 121) := ⟨⟨by decide +kernel, by decide +kernel⟩, List.mem_of_getElem? (i := 1193) (by decide +kernel), List.mem_of_getElem? (i := 1672) (by decide +kernel), List.mem_of_getElem? (i := 1673) (by decide +kernel)⟩
theorem lw_p69 : lw_okq (⟨"FireDrillModel", "qCode", "(I)V"⟩, 121) := ⟨⟨by decide +kernel, by decide +kernel⟩, List.mem_of_getElem? (i := 1193) (by decide +kernel), List.mem_of_getElem? (i := 1676) (by decide +kernel), List.mem_of_getElem? (i := 1677) (by decide +kernel)⟩
theorem lw_p70 : lw_okq (⟨"FireDrillModel", "qSums", "()V"⟩, 121) := ⟨⟨by decide +kernel, by decide +kernel⟩, List.mem_of_getElem? (i := 1193) (by decide +kernel), List.mem_of_getElem? (i := 1680) (by decide +kernel), List.mem_of_getElem? (i := 1681) (by decide +kernel)⟩
theorem lw_p71 : lw_okq (⟨"FireDrillModel", "qPartTold", "()V"⟩, 121) := ⟨⟨by decide +kernel, by decide +kernel⟩, List.mem_of_getElem? (i := 1193) (by decide +kernel), List.mem_of_getElem? (i := 1684) (by decide +kernel), List.mem_of_getElem? (i := 1685) (by decide +kernel)⟩
theorem lw_p72 : lw_okq (⟨"FireDrillModel", "qWordOf", "(II)I"⟩, 121) := ⟨⟨by decide +kernel, by decide +kernel⟩, List.mem_of_getElem? (i := 1193) (by decide +kernel), List.mem_of_getElem? (i := 1688) (by decide +kernel), List.mem_of_getElem? (i := 1689) (by decide +kernel)⟩
theorem lw_p73 : lw_okq (⟨"FireDrillModel", "qWordHere", "()I"⟩, 121) := ⟨⟨by decide +kernel, by decide +kernel⟩, List.mem_of_getElem? (i := 1193) (by decide +kernel), List.mem_of_getElem? (i := 1692) (by decide +kernel), List.mem_of_getElem? (i := 1693) (by decide +kernel)⟩
theorem lw_p74 : lw_okq (⟨"FireDrillModel", "isAllowed", "(I)Z"⟩, 121) := ⟨⟨by decide +kernel, by decide +kernel⟩, List.mem_of_getElem? (i := 1193) (by decide +kernel), List.mem_of_getElem? (i := 1696) (by decide +kernel), List.mem_of_getElem? (i := 1697) (by decide +kernel)⟩
theorem lw_p75 : lw_okq (⟨"FireDrillModel", "asksSign", "(I)V"⟩, 121) := ⟨⟨by decide +kernel, by decide +kernel⟩, List.mem_of_getElem? (i := 1193) (by decide +kernel), List.mem_of_getElem? (i := 1702) (by decide +kernel), List.mem_of_getElem? (i := 1703) (by decide +kernel)⟩
theorem lw_p76 : lw_okq (⟨"FireDrillModel", "takesSign", "(I)Z"⟩, 121) := ⟨⟨by decide +kernel, by decide +kernel⟩, List.mem_of_getElem? (i := 1193) (by decide +kernel), List.mem_of_getElem? (i := 1706) (by decide +kernel), List.mem_of_getElem? (i := 1707) (by decide +kernel)⟩
theorem lw_p77 : lw_okq (⟨"FireDrillModel", "qAsksWord", "(I)V"⟩, 121) := ⟨⟨by decide +kernel, by decide +kernel⟩, List.mem_of_getElem? (i := 1193) (by decide +kernel), List.mem_of_getElem? (i := 1710) (by decide +kernel), List.mem_of_getElem? (i := 1711) (by decide +kernel)⟩
theorem lw_p78 : lw_okq (⟨"FireDrillModel", "qEndsPart", "()V"⟩, 121) := ⟨⟨by decide +kernel, by decide +kernel⟩, List.mem_of_getElem? (i := 1193) (by decide +kernel), List.mem_of_getElem? (i := 1714) (by decide +kernel), List.mem_of_getElem? (i := 1715) (by decide +kernel)⟩
theorem lw_p79 : lw_okq (⟨"FireDrillModel", "qDrops", "()V"⟩, 121) := ⟨⟨by decide +kernel, by decide +kernel⟩, List.mem_of_getElem? (i := 1193) (by decide +kernel), List.mem_of_getElem? (i := 1718) (by decide +kernel), List.mem_of_getElem? (i := 1719) (by decide +kernel)⟩
def lw_privs_5 : List (MethodName × Nat) := [(⟨"FireDrillModel", "clerkTold", "(I)V"⟩, 121), (⟨"FireDrillModel", "codesTold", "(II)V"⟩, 121), (⟨"FireDrillModel", "qTest", "()V"⟩, 121), (⟨"FireDrillModel", "qOpens", "(II)V"⟩, 121), (⟨"FireDrillModel", "qFact", "()V"⟩, 121), (⟨"FireDrillModel", "qCode", "(I)V"⟩, 121), (⟨"FireDrillModel", "qSums", "()V"⟩, 121), (⟨"FireDrillModel", "qPartTold", "()V"⟩, 121), (⟨"FireDrillModel", "qWordOf", "(II)I"⟩, 121), (⟨"FireDrillModel", "qWordHere", "()I"⟩, 121), (⟨"FireDrillModel", "isAllowed", "(I)Z"⟩, 121), (⟨"FireDrillModel", "asksSign", "(I)V"⟩, 121), (⟨"FireDrillModel", "takesSign", "(I)Z"⟩, 121), (⟨"FireDrillModel", "qAsksWord", "(I)V"⟩, 121), (⟨"FireDrillModel", "qEndsPart", "()V"⟩, 121), (⟨"FireDrillModel", "qDrops", "()V"⟩, 121)]
theorem lw_r5 : ∀ q ∈ lw_privs_5, lw_okq q := List.forall_mem_cons.mpr ⟨lw_p64, List.forall_mem_cons.mpr ⟨lw_p65, List.forall_mem_cons.mpr ⟨lw_p66, List.forall_mem_cons.mpr ⟨lw_p67, List.forall_mem_cons.mpr ⟨lw_p68, List.forall_mem_cons.mpr ⟨lw_p69, List.forall_mem_cons.mpr ⟨lw_p70, List.forall_mem_cons.mpr ⟨lw_p71, List.forall_mem_cons.mpr ⟨lw_p72, List.forall_mem_cons.mpr ⟨lw_p73, List.forall_mem_cons.mpr ⟨lw_p74, List.forall_mem_cons.mpr ⟨lw_p75, List.forall_mem_cons.mpr ⟨lw_p76, List.forall_mem_cons.mpr ⟨lw_p77, List.forall_mem_cons.mpr ⟨lw_p78, List.forall_mem_cons.mpr ⟨lw_p79, fun _ h => absurd h List.not_mem_nil⟩⟩⟩⟩⟩⟩⟩⟩⟩⟩⟩⟩⟩⟩⟩⟩
theorem lw_p80 : lw_okq (⟨"FireDrillModel", "qGoesOn", "()Z"⟩, 121) := ⟨⟨by decide +kernel, by decide +kernel⟩, List.mem_of_getElem? (i := 1193) (by decide +kernel), List.mem_of_getElem? (i := 1722) (by decide +kernel), List.mem_of_getElem? (i := 1723) (by decide +kernel)⟩
theorem lw_p81 : lw_okq (⟨"FireDrillModel", "qBracket", "()I"⟩, 121) := ⟨⟨by decide +kernel, by decide +kernel⟩, List.mem_of_getElem? (i := 1193) (by decide +kernel), List.mem_of_getElem? (i := 1726) (by decide +kernel), List.mem_of_getElem? (i := 1727) (by decide +kernel)⟩
theorem lw_p82 : lw_okq (⟨"FireDrillModel", "qDropsToBracket", "()V"⟩, 121) := ⟨⟨by decide +kernel, by decide +kernel⟩, List.mem_of_getElem? (i := 1193) (by decide +kernel), List.mem_of_getElem? (i := 1733) (by decide +kernel), List.mem_of_getElem? (i := 1734) (by decide +kernel)⟩
theorem lw_p83 : lw_okq (⟨"FireDrillModel", "qIsOn", "(I)Z"⟩, 121) := ⟨⟨by decide +kernel, by decide +kernel⟩, List.mem_of_getElem? (i := 1193) (by decide +kernel), List.mem_of_getElem? (i := 1737) (by decide +kernel), List.mem_of_getElem? (i := 1738) (by decide +kernel)⟩
theorem lw_p84 : lw_okq (⟨"FireDrillModel", "qDropsNots", "()V"⟩, 121) := ⟨⟨by decide +kernel, by decide +kernel⟩, List.mem_of_getElem? (i := 1193) (by decide +kernel), List.mem_of_getElem? (i := 1741) (by decide +kernel), List.mem_of_getElem? (i := 1742) (by decide +kernel)⟩
theorem lw_p85 : lw_okq (⟨"FireDrillModel", "qGoesOnTest", "()Z"⟩, 121) := ⟨⟨by decide +kernel, by decide +kernel⟩, List.mem_of_getElem? (i := 1193) (by decide +kernel), List.mem_of_getElem? (i := 1745) (by decide +kernel), List.mem_of_getElem? (i := 1746) (by decide +kernel)⟩
theorem lw_p86 : lw_okq (⟨"FireDrillModel", "qHasSquare", "()Z"⟩, 121) := ⟨⟨by decide +kernel, by decide +kernel⟩, List.mem_of_getElem? (i := 1193) (by decide +kernel), List.mem_of_getElem? (i := 1749) (by decide +kernel), List.mem_of_getElem? (i := 1750) (by decide +kernel)⟩
theorem lw_p87 : lw_okq (⟨"FireDrillModel", "stands", "()V"⟩, 121) := ⟨⟨by decide +kernel, by decide +kernel⟩, List.mem_of_getElem? (i := 1193) (by decide +kernel), List.mem_of_getElem? (i := 1753) (by decide +kernel), List.mem_of_getElem? (i := 1754) (by decide +kernel)⟩
theorem lw_p88 : lw_okq (⟨"FireDrillModel", "roomMany", "()I"⟩, 121) := ⟨⟨by decide +kernel, by decide +kernel⟩, List.mem_of_getElem? (i := 1193) (by decide +kernel), List.mem_of_getElem? (i := 1765) (by decide +kernel), List.mem_of_getElem? (i := 1766) (by decide +kernel)⟩
theorem lw_p89 : lw_okq (⟨"FireDrillModel", "stairMany", "()I"⟩, 121) := ⟨⟨by decide +kernel, by decide +kernel⟩, List.mem_of_getElem? (i := 1193) (by decide +kernel), List.mem_of_getElem? (i := 1769) (by decide +kernel), List.mem_of_getElem? (i := 1770) (by decide +kernel)⟩
theorem lw_p90 : lw_okq (⟨"FireDrillModel", "sectionMany", "()I"⟩, 121) := ⟨⟨by decide +kernel, by decide +kernel⟩, List.mem_of_getElem? (i := 1193) (by decide +kernel), List.mem_of_getElem? (i := 1773) (by decide +kernel), List.mem_of_getElem? (i := 1774) (by decide +kernel)⟩
theorem lw_p91 : lw_okq (⟨"FireDrillModel", "clerkMany", "()I"⟩, 121) := ⟨⟨by decide +kernel, by decide +kernel⟩, List.mem_of_getElem? (i := 1193) (by decide +kernel), List.mem_of_getElem? (i := 1777) (by decide +kernel), List.mem_of_getElem? (i := 1778) (by decide +kernel)⟩
theorem lw_p92 : lw_okq (⟨"FireDrillModel", "shutMany", "()I"⟩, 121) := ⟨⟨by decide +kernel, by decide +kernel⟩, List.mem_of_getElem? (i := 1193) (by decide +kernel), List.mem_of_getElem? (i := 1781) (by decide +kernel), List.mem_of_getElem? (i := 1782) (by decide +kernel)⟩
theorem lw_p93 : lw_okq (⟨"FireDrillModel", "isShut", "(I)Z"⟩, 121) := ⟨⟨by decide +kernel, by decide +kernel⟩, List.mem_of_getElem? (i := 1193) (by decide +kernel), List.mem_of_getElem? (i := 1785) (by decide +kernel), List.mem_of_getElem? (i := 1786) (by decide +kernel)⟩
theorem lw_p94 : lw_okq (⟨"FireDrillModel", "signedAll", "()I"⟩, 121) := ⟨⟨by decide +kernel, by decide +kernel⟩, List.mem_of_getElem? (i := 1193) (by decide +kernel), List.mem_of_getElem? (i := 1789) (by decide +kernel), List.mem_of_getElem? (i := 1790) (by decide +kernel)⟩
theorem lw_p95 : lw_okq (⟨"FireDrillModel", "laysFars", "()V"⟩, 121) := ⟨⟨by decide +kernel, by decide +kernel⟩, List.mem_of_getElem? (i := 1193) (by decide +kernel), List.mem_of_getElem? (i := 1802) (by decide +kernel), List.mem_of_getElem? (i := 1803) (by decide +kernel)⟩
def lw_privs_6 : List (MethodName × Nat) := [(⟨"FireDrillModel", "qGoesOn", "()Z"⟩, 121), (⟨"FireDrillModel", "qBracket", "()I"⟩, 121), (⟨"FireDrillModel", "qDropsToBracket", "()V"⟩, 121), (⟨"FireDrillModel", "qIsOn", "(I)Z"⟩, 121), (⟨"FireDrillModel", "qDropsNots", "()V"⟩, 121), (⟨"FireDrillModel", "qGoesOnTest", "()Z"⟩, 121), (⟨"FireDrillModel", "qHasSquare", "()Z"⟩, 121), (⟨"FireDrillModel", "stands", "()V"⟩, 121), (⟨"FireDrillModel", "roomMany", "()I"⟩, 121), (⟨"FireDrillModel", "stairMany", "()I"⟩, 121), (⟨"FireDrillModel", "sectionMany", "()I"⟩, 121), (⟨"FireDrillModel", "clerkMany", "()I"⟩, 121), (⟨"FireDrillModel", "shutMany", "()I"⟩, 121), (⟨"FireDrillModel", "isShut", "(I)Z"⟩, 121), (⟨"FireDrillModel", "signedAll", "()I"⟩, 121), (⟨"FireDrillModel", "laysFars", "()V"⟩, 121)]
theorem lw_r6 : ∀ q ∈ lw_privs_6, lw_okq q := List.forall_mem_cons.mpr ⟨lw_p80, List.forall_mem_cons.mpr ⟨lw_p81, List.forall_mem_cons.mpr ⟨lw_p82, List.forall_mem_cons.mpr ⟨lw_p83, List.forall_mem_cons.mpr ⟨lw_p84, List.forall_mem_cons.mpr ⟨lw_p85, List.forall_mem_cons.mpr ⟨lw_p86, List.forall_mem_cons.mpr ⟨lw_p87, List.forall_mem_cons.mpr ⟨lw_p88, List.forall_mem_cons.mpr ⟨lw_p89, List.forall_mem_cons.mpr ⟨lw_p90, List.forall_mem_cons.mpr ⟨lw_p91, List.forall_mem_cons.mpr ⟨lw_p92, List.forall_mem_cons.mpr ⟨lw_p93, List.forall_mem_cons.mpr ⟨lw_p94, List.forall_mem_cons.mpr ⟨lw_p95, fun _ h => absurd h List.not_mem_nil⟩⟩⟩⟩⟩⟩⟩⟩⟩⟩⟩⟩⟩⟩⟩⟩
theorem lw_p96 : lw_okq (⟨"FireDrillModel", "isClosed", "(I)Z"⟩, 121) := ⟨⟨by decide +kernel, by decide +kernel⟩, List.mem_of_getElem? (i := 1193) (by decide +kernel), List.mem_of_getElem? (i := 1806) (by decide +kernel), List.mem_of_getElem? (i := 1807) (by decide +kernel)⟩
theorem lw_p97 : lw_okq (⟨"FireDrillModel", "isStair", "(I)Z"⟩, 121) := ⟨⟨by decide +kernel, by decide +kernel⟩, List.mem_of_getElem? (i := 1193) (by decide +kernel), List.mem_of_getElem? (i := 1814) (by decide +kernel), List.mem_of_getElem? (i := 1815) (by decide +kernel)⟩
theorem lw_p98 : lw_okq (⟨"FireDrillModel", "isSection", "(I)Z"⟩, 121) := ⟨⟨by decide +kernel, by decide +kernel⟩, List.mem_of_getElem? (i := 1193) (by decide +kernel), List.mem_of_getElem? (i := 1822) (by decide +kernel), List.mem_of_getElem? (i := 1823) (by decide +kernel)⟩
theorem lw_p99 : lw_okq (⟨"FireDrillModel", "sectionOf", "(I)I"⟩, 121) := ⟨⟨by decide +kernel, by decide +kernel⟩, List.mem_of_getElem? (i := 1193) (by decide +kernel), List.mem_of_getElem? (i := 1826) (by decide +kernel), List.mem_of_getElem? (i := 1827) (by decide +kernel)⟩
theorem lw_p100 : lw_okq (⟨"FireDrillModel", "isClerk", "(I)Z"⟩, 121) := ⟨⟨by decide +kernel, by decide +kernel⟩, List.mem_of_getElem? (i := 1193) (by decide +kernel), List.mem_of_getElem? (i := 1834) (by decide +kernel), List.mem_of_getElem? (i := 1835) (by decide +kernel)⟩
theorem lw_p101 : lw_okq (⟨"FireDrillModel", "signedBy", "(I)I"⟩, 121) := ⟨⟨by decide +kernel, by decide +kernel⟩, List.mem_of_getElem? (i := 1193) (by decide +kernel), List.mem_of_getElem? (i := 1839) (by decide +kernel), List.mem_of_getElem? (i := 1840) (by decide +kernel)⟩
theorem lw_p102 : lw_okq (⟨"FireDrillModel", "areTwo", "(II)Z"⟩, 121) := ⟨⟨by decide +kernel, by decide +kernel⟩, List.mem_of_getElem? (i := 1193) (by decide +kernel), List.mem_of_getElem? (i := 1850) (by decide +kernel), List.mem_of_getElem? (i := 1851) (by decide +kernel)⟩
theorem lw_p103 : lw_okq (⟨"FireDrillModel", "drillNow", "()V"⟩, 121) := ⟨⟨by decide +kernel, by decide +kernel⟩, List.mem_of_getElem? (i := 1193) (by decide +kernel), List.mem_of_getElem? (i := 1858) (by decide +kernel), List.mem_of_getElem? (i := 1859) (by decide +kernel)⟩
theorem lw_p104 : lw_okq (⟨"FireDrillModel", "drillGoes", "()V"⟩, 121) := ⟨⟨by decide +kernel, by decide +kernel⟩, List.mem_of_getElem? (i := 1193) (by decide +kernel), List.mem_of_getElem? (i := 1862) (by decide +kernel), List.mem_of_getElem? (i := 1863) (by decide +kernel)⟩
theorem lw_p105 : lw_okq (⟨"FireDrillModel", "homeOf", "(I)I"⟩, 121) := ⟨⟨by decide +kernel, by decide +kernel⟩, List.mem_of_getElem? (i := 1193) (by decide +kernel), List.mem_of_getElem? (i := 1866) (by decide +kernel), List.mem_of_getElem? (i := 1867) (by decide +kernel)⟩
theorem lw_p106 : lw_okq (⟨"FireDrillModel", "areAllOut", "()Z"⟩, 121) := ⟨⟨by decide +kernel, by decide +kernel⟩, List.mem_of_getElem? (i := 1193) (by decide +kernel), List.mem_of_getElem? (i := 1870) (by decide +kernel), List.mem_of_getElem? (i := 1871) (by decide +kernel)⟩
theorem lw_p107 : lw_okq (⟨"FireDrillModel", "isOnLawn", "(I)Z"⟩, 121) := ⟨⟨by decide +kernel, by decide +kernel⟩, List.mem_of_getElem? (i := 1193) (by decide +kernel), List.mem_of_getElem? (i := 1874) (by decide +kernel), List.mem_of_getElem? (i := 1875) (by decide +kernel)⟩
theorem lw_p108 : lw_okq (⟨"FireDrillModel", "minuteOf", "(II)V"⟩, 121) := ⟨⟨by decide +kernel, by decide +kernel⟩, List.mem_of_getElem? (i := 1193) (by decide +kernel), List.mem_of_getElem? (i := 1878) (by decide +kernel), List.mem_of_getElem? (i := 1879) (by decide +kernel)⟩
theorem lw_p109 : lw_okq (⟨"FireDrillModel", "crowdBut", "(I)I"⟩, 121) := ⟨⟨by decide +kernel, by decide +kernel⟩, List.mem_of_getElem? (i := 1193) (by decide +kernel), List.mem_of_getElem? (i := 1882) (by decide +kernel), List.mem_of_getElem? (i := 1883) (by decide +kernel)⟩
theorem lw_p110 : lw_okq (⟨"FireDrillModel", "codesTell", "(II)J"⟩, 121) := ⟨⟨by decide +kernel, by decide +kernel⟩, List.mem_of_getElem? (i := 1193) (by decide +kernel), List.mem_of_getElem? (i := 1886) (by decide +kernel), List.mem_of_getElem? (i := 1887) (by decide +kernel)⟩
theorem lw_p111 : lw_okq (⟨"FireDrillModel", "qPuts", "(J)V"⟩, 121) := ⟨⟨by decide +kernel, by decide +kernel⟩, List.mem_of_getElem? (i := 1193) (by decide +kernel), List.mem_of_getElem? (i := 1890) (by decide +kernel), List.mem_of_getElem? (i := 1891) (by decide +kernel)⟩
def lw_privs_7 : List (MethodName × Nat) := [(⟨"FireDrillModel", "isClosed", "(I)Z"⟩, 121), (⟨"FireDrillModel", "isStair", "(I)Z"⟩, 121), (⟨"FireDrillModel", "isSection", "(I)Z"⟩, 121), (⟨"FireDrillModel", "sectionOf", "(I)I"⟩, 121), (⟨"FireDrillModel", "isClerk", "(I)Z"⟩, 121), (⟨"FireDrillModel", "signedBy", "(I)I"⟩, 121), (⟨"FireDrillModel", "areTwo", "(II)Z"⟩, 121), (⟨"FireDrillModel", "drillNow", "()V"⟩, 121), (⟨"FireDrillModel", "drillGoes", "()V"⟩, 121), (⟨"FireDrillModel", "homeOf", "(I)I"⟩, 121), (⟨"FireDrillModel", "areAllOut", "()Z"⟩, 121), (⟨"FireDrillModel", "isOnLawn", "(I)Z"⟩, 121), (⟨"FireDrillModel", "minuteOf", "(II)V"⟩, 121), (⟨"FireDrillModel", "crowdBut", "(I)I"⟩, 121), (⟨"FireDrillModel", "codesTell", "(II)J"⟩, 121), (⟨"FireDrillModel", "qPuts", "(J)V"⟩, 121)]
theorem lw_r7 : ∀ q ∈ lw_privs_7, lw_okq q := List.forall_mem_cons.mpr ⟨lw_p96, List.forall_mem_cons.mpr ⟨lw_p97, List.forall_mem_cons.mpr ⟨lw_p98, List.forall_mem_cons.mpr ⟨lw_p99, List.forall_mem_cons.mpr ⟨lw_p100, List.forall_mem_cons.mpr ⟨lw_p101, List.forall_mem_cons.mpr ⟨lw_p102, List.forall_mem_cons.mpr ⟨lw_p103, List.forall_mem_cons.mpr ⟨lw_p104, List.forall_mem_cons.mpr ⟨lw_p105, List.forall_mem_cons.mpr ⟨lw_p106, List.forall_mem_cons.mpr ⟨lw_p107, List.forall_mem_cons.mpr ⟨lw_p108, List.forall_mem_cons.mpr ⟨lw_p109, List.forall_mem_cons.mpr ⟨lw_p110, List.forall_mem_cons.mpr ⟨lw_p111, fun _ h => absurd h List.not_mem_nil⟩⟩⟩⟩⟩⟩⟩⟩⟩⟩⟩⟩⟩⟩⟩⟩
theorem lw_p112 : lw_okq (⟨"FireDrillModel", "qPartOf", "(II)J"⟩, 121) := ⟨⟨by decide +kernel, by decide +kernel⟩, List.mem_of_getElem? (i := 1193) (by decide +kernel), List.mem_of_getElem? (i := 1894) (by decide +kernel), List.mem_of_getElem? (i := 1895) (by decide +kernel)⟩
theorem lw_p113 : lw_okq (⟨"FireDrillModel", "qJoins", "(I)V"⟩, 121) := ⟨⟨by decide +kernel, by decide +kernel⟩, List.mem_of_getElem? (i := 1193) (by decide +kernel), List.mem_of_getElem? (i := 1898) (by decide +kernel), List.mem_of_getElem? (i := 1899) (by decide +kernel)⟩
theorem lw_p114 : lw_okq (⟨"FireDrillModel", "goesStair", "(I)Z"⟩, 121) := ⟨⟨by decide +kernel, by decide +kernel⟩, List.mem_of_getElem? (i := 1193) (by decide +kernel), List.mem_of_getElem? (i := 1910) (by decide +kernel), List.mem_of_getElem? (i := 1911) (by decide +kernel)⟩
theorem lw_p115 : lw_okq (⟨"FireDrillModel", "stairBetween", "(II)I"⟩, 121) := ⟨⟨by decide +kernel, by decide +kernel⟩, List.mem_of_getElem? (i := 1193) (by decide +kernel), List.mem_of_getElem? (i := 1914) (by decide +kernel), List.mem_of_getElem? (i := 1915) (by decide +kernel)⟩
theorem lw_p116 : lw_okq (⟨"FireDrillModel", "isPassable", "(I)Z"⟩, 121) := ⟨⟨by decide +kernel, by decide +kernel⟩, List.mem_of_getElem? (i := 1193) (by decide +kernel), List.mem_of_getElem? (i := 1918) (by decide +kernel), List.mem_of_getElem? (i := 1919) (by decide +kernel)⟩
theorem lw_p117 : lw_okq (⟨"FireDrillModel", "meetBehind", "()V"⟩, 121) := ⟨⟨by decide +kernel, by decide +kernel⟩, List.mem_of_getElem? (i := 1193) (by decide +kernel), List.mem_of_getElem? (i := 1922) (by decide +kernel), List.mem_of_getElem? (i := 1923) (by decide +kernel)⟩
theorem lw_p118 : lw_okq (⟨"FireDrillModel", "signMany", "()I"⟩, 121) := ⟨⟨by decide +kernel, by decide +kernel⟩, List.mem_of_getElem? (i := 1193) (by decide +kernel), List.mem_of_getElem? (i := 1947) (by decide +kernel), List.mem_of_getElem? (i := 1948) (by decide +kernel)⟩
theorem lw_p119 : lw_okq (⟨"FireDrillModel", "doSign", "(II)Z"⟩, 121) := ⟨⟨by decide +kernel, by decide +kernel⟩, List.mem_of_getElem? (i := 1193) (by decide +kernel), List.mem_of_getElem? (i := 1951) (by decide +kernel), List.mem_of_getElem? (i := 1952) (by decide +kernel)⟩
theorem lw_p120 : lw_okq (⟨"FireDrillModel", "isNextRow", "()Z"⟩, 121) := ⟨⟨by decide +kernel, by decide +kernel⟩, List.mem_of_getElem? (i := 1193) (by decide +kernel), List.mem_of_getElem? (i := 1959) (by decide +kernel), List.mem_of_getElem? (i := 1960) (by decide +kernel)⟩
theorem lw_p121 : lw_okq (⟨"FireDrillModel", "doTouch", "(I)Z"⟩, 121) := ⟨⟨by decide +kernel, by decide +kernel⟩, List.mem_of_getElem? (i := 1193) (by decide +kernel), List.mem_of_getElem? (i := 1974) (by decide +kernel), List.mem_of_getElem? (i := 1975) (by decide +kernel)⟩
theorem lw_p122 : lw_okq (⟨"FireDrillModel", "dearOf", "(II)J"⟩, 121) := ⟨⟨by decide +kernel, by decide +kernel⟩, List.mem_of_getElem? (i := 1193) (by decide +kernel), List.mem_of_getElem? (i := 1983) (by decide +kernel), List.mem_of_getElem? (i := 1984) (by decide +kernel)⟩
theorem lw_p123 : lw_okq (⟨"FireDrillModel", "dearTo", "(II)J"⟩, 121) := ⟨⟨by decide +kernel, by decide +kernel⟩, List.mem_of_getElem? (i := 1193) (by decide +kernel), List.mem_of_getElem? (i := 1987) (by decide +kernel), List.mem_of_getElem? (i := 1988) (by decide +kernel)⟩
theorem lw_p124 : lw_okq (⟨"FireDrillModel", "laysCouples", "()V"⟩, 121) := ⟨⟨by decide +kernel, by decide +kernel⟩, List.mem_of_getElem? (i := 1193) (by decide +kernel), List.mem_of_getElem? (i := 1995) (by decide +kernel), List.mem_of_getElem? (i := 1996) (by decide +kernel)⟩
theorem lw_p125 : lw_okq (⟨"FireDrillModel", "canPair", "(II)Z"⟩, 121) := ⟨⟨by decide +kernel, by decide +kernel⟩, List.mem_of_getElem? (i := 1193) (by decide +kernel), List.mem_of_getElem? (i := 2002) (by decide +kernel), List.mem_of_getElem? (i := 2003) (by decide +kernel)⟩
theorem lw_p126 : lw_okq (⟨"FireDrillModel", "matesOf", "(IIJ)I"⟩, 121) := ⟨⟨by decide +kernel, by decide +kernel⟩, List.mem_of_getElem? (i := 1193) (by decide +kernel), List.mem_of_getElem? (i := 2006) (by decide +kernel), List.mem_of_getElem? (i := 2007) (by decide +kernel)⟩
theorem lw_p127 : lw_okq (⟨"FireDrillModel", "isAhead", "(III)Z"⟩, 121) := ⟨⟨by decide +kernel, by decide +kernel⟩, List.mem_of_getElem? (i := 1193) (by decide +kernel), List.mem_of_getElem? (i := 2018) (by decide +kernel), List.mem_of_getElem? (i := 2019) (by decide +kernel)⟩
def lw_privs_8 : List (MethodName × Nat) := [(⟨"FireDrillModel", "qPartOf", "(II)J"⟩, 121), (⟨"FireDrillModel", "qJoins", "(I)V"⟩, 121), (⟨"FireDrillModel", "goesStair", "(I)Z"⟩, 121), (⟨"FireDrillModel", "stairBetween", "(II)I"⟩, 121), (⟨"FireDrillModel", "isPassable", "(I)Z"⟩, 121), (⟨"FireDrillModel", "meetBehind", "()V"⟩, 121), (⟨"FireDrillModel", "signMany", "()I"⟩, 121), (⟨"FireDrillModel", "doSign", "(II)Z"⟩, 121), (⟨"FireDrillModel", "isNextRow", "()Z"⟩, 121), (⟨"FireDrillModel", "doTouch", "(I)Z"⟩, 121), (⟨"FireDrillModel", "dearOf", "(II)J"⟩, 121), (⟨"FireDrillModel", "dearTo", "(II)J"⟩, 121), (⟨"FireDrillModel", "laysCouples", "()V"⟩, 121), (⟨"FireDrillModel", "canPair", "(II)Z"⟩, 121), (⟨"FireDrillModel", "matesOf", "(IIJ)I"⟩, 121), (⟨"FireDrillModel", "isAhead", "(III)Z"⟩, 121)]
theorem lw_r8 : ∀ q ∈ lw_privs_8, lw_okq q := List.forall_mem_cons.mpr ⟨lw_p112, List.forall_mem_cons.mpr ⟨lw_p113, List.forall_mem_cons.mpr ⟨lw_p114, List.forall_mem_cons.mpr ⟨lw_p115, List.forall_mem_cons.mpr ⟨lw_p116, List.forall_mem_cons.mpr ⟨lw_p117, List.forall_mem_cons.mpr ⟨lw_p118, List.forall_mem_cons.mpr ⟨lw_p119, List.forall_mem_cons.mpr ⟨lw_p120, List.forall_mem_cons.mpr ⟨lw_p121, List.forall_mem_cons.mpr ⟨lw_p122, List.forall_mem_cons.mpr ⟨lw_p123, List.forall_mem_cons.mpr ⟨lw_p124, List.forall_mem_cons.mpr ⟨lw_p125, List.forall_mem_cons.mpr ⟨lw_p126, List.forall_mem_cons.mpr ⟨lw_p127, fun _ h => absurd h List.not_mem_nil⟩⟩⟩⟩⟩⟩⟩⟩⟩⟩⟩⟩⟩⟩⟩⟩
theorem lw_p128 : lw_okq (⟨"FireDrillModel", "putsAside", "()V"⟩, 121) := ⟨⟨by decide +kernel, by decide +kernel⟩, List.mem_of_getElem? (i := 1193) (by decide +kernel), List.mem_of_getElem? (i := 2022) (by decide +kernel), List.mem_of_getElem? (i := 2023) (by decide +kernel)⟩
theorem lw_p129 : lw_okq (⟨"FireDrillModel", "drillsGo", "(I)I"⟩, 121) := ⟨⟨by decide +kernel, by decide +kernel⟩, List.mem_of_getElem? (i := 1193) (by decide +kernel), List.mem_of_getElem? (i := 2026) (by decide +kernel), List.mem_of_getElem? (i := 2027) (by decide +kernel)⟩
theorem lw_p130 : lw_okq (⟨"FireDrillModel", "drillEnds", "()I"⟩, 121) := ⟨⟨by decide +kernel, by decide +kernel⟩, List.mem_of_getElem? (i := 1193) (by decide +kernel), List.mem_of_getElem? (i := 2030) (by decide +kernel), List.mem_of_getElem? (i := 2031) (by decide +kernel)⟩
theorem lw_p131 : lw_okq (⟨"FireDrillModel", "takesBack", "()V"⟩, 121) := ⟨⟨by decide +kernel, by decide +kernel⟩, List.mem_of_getElem? (i := 1193) (by decide +kernel), List.mem_of_getElem? (i := 2034) (by decide +kernel), List.mem_of_getElem? (i := 2035) (by decide +kernel)⟩
theorem lw_p132 : lw_okq (⟨"FireDrillModel", "refuses", "(I)I"⟩, 121) := ⟨⟨by decide +kernel, by decide +kernel⟩, List.mem_of_getElem? (i := 1193) (by decide +kernel), List.mem_of_getElem? (i := 2042) (by decide +kernel), List.mem_of_getElem? (i := 2043) (by decide +kernel)⟩
theorem lw_p133 : lw_okq (⟨"FireDrillModel", "laysFits", "()V"⟩, 121) := ⟨⟨by decide +kernel, by decide +kernel⟩, List.mem_of_getElem? (i := 1193) (by decide +kernel), List.mem_of_getElem? (i := 2050) (by decide +kernel), List.mem_of_getElem? (i := 2051) (by decide +kernel)⟩
theorem lw_p134 : lw_okq (⟨"FireDrillModel", "isAsSeen", "()Z"⟩, 121) := ⟨⟨by decide +kernel, by decide +kernel⟩, List.mem_of_getElem? (i := 1193) (by decide +kernel), List.mem_of_getElem? (i := 2054) (by decide +kernel), List.mem_of_getElem? (i := 2055) (by decide +kernel)⟩
theorem lw_p135 : lw_okq (⟨"FireDrillModel", "alike", "(II)I"⟩, 121) := ⟨⟨by decide +kernel, by decide +kernel⟩, List.mem_of_getElem? (i := 1193) (by decide +kernel), List.mem_of_getElem? (i := 2062) (by decide +kernel), List.mem_of_getElem? (i := 2063) (by decide +kernel)⟩
theorem lw_p136 : lw_okq (⟨"FireDrillModel", "isRefused", "()Z"⟩, 121) := ⟨⟨by decide +kernel, by decide +kernel⟩, List.mem_of_getElem? (i := 1193) (by decide +kernel), List.mem_of_getElem? (i := 2075) (by decide +kernel), List.mem_of_getElem? (i := 2076) (by decide +kernel)⟩
theorem lw_p137 : lw_okq (⟨"FireDrillModel", "keeps", "()V"⟩, 121) := ⟨⟨by decide +kernel, by decide +kernel⟩, List.mem_of_getElem? (i := 1193) (by decide +kernel), List.mem_of_getElem? (i := 2079) (by decide +kernel), List.mem_of_getElem? (i := 2080) (by decide +kernel)⟩
theorem lw_p138 : lw_okq (⟨"FireDrillModel", "drawOf", "(I)I"⟩, 121) := ⟨⟨by decide +kernel, by decide +kernel⟩, List.mem_of_getElem? (i := 1193) (by decide +kernel), List.mem_of_getElem? (i := 2099) (by decide +kernel), List.mem_of_getElem? (i := 2100) (by decide +kernel)⟩
theorem lw_p139 : lw_okq (⟨"FireDrillModel", "qKind", "()I"⟩, 121) := ⟨⟨by decide +kernel, by decide +kernel⟩, List.mem_of_getElem? (i := 1193) (by decide +kernel), List.mem_of_getElem? (i := 2111) (by decide +kernel), List.mem_of_getElem? (i := 2112) (by decide +kernel)⟩
theorem lw_p140 : lw_okq (⟨"FireDrillModel", "qTold", "(I)J"⟩, 121) := ⟨⟨by decide +kernel, by decide +kernel⟩, List.mem_of_getElem? (i := 1193) (by decide +kernel), List.mem_of_getElem? (i := 2116) (by decide +kernel), List.mem_of_getElem? (i := 2117) (by decide +kernel)⟩
theorem lw_p141 : lw_okq (⟨"FireDrillModel", "qOf", "(IJI)J"⟩, 121) := ⟨⟨by decide +kernel, by decide +kernel⟩, List.mem_of_getElem? (i := 1193) (by decide +kernel), List.mem_of_getElem? (i := 2120) (by decide +kernel), List.mem_of_getElem? (i := 2121) (by decide +kernel)⟩
theorem lw_p142 : lw_okq (⟨"FireDrillModel", "qTakes", "(IJI)V"⟩, 121) := ⟨⟨by decide +kernel, by decide +kernel⟩, List.mem_of_getElem? (i := 1193) (by decide +kernel), List.mem_of_getElem? (i := 2124) (by decide +kernel), List.mem_of_getElem? (i := 2125) (by decide +kernel)⟩
theorem lw_p143 : lw_okq (⟨"FireDrillModel", "writesTwo", "(I)V"⟩, 121) := ⟨⟨by decide +kernel, by decide +kernel⟩, List.mem_of_getElem? (i := 1193) (by decide +kernel), List.mem_of_getElem? (i := 2132) (by decide +kernel), List.mem_of_getElem? (i := 2133) (by decide +kernel)⟩
def lw_privs_9 : List (MethodName × Nat) := [(⟨"FireDrillModel", "putsAside", "()V"⟩, 121), (⟨"FireDrillModel", "drillsGo", "(I)I"⟩, 121), (⟨"FireDrillModel", "drillEnds", "()I"⟩, 121), (⟨"FireDrillModel", "takesBack", "()V"⟩, 121), (⟨"FireDrillModel", "refuses", "(I)I"⟩, 121), (⟨"FireDrillModel", "laysFits", "()V"⟩, 121), (⟨"FireDrillModel", "isAsSeen", "()Z"⟩, 121), (⟨"FireDrillModel", "alike", "(II)I"⟩, 121), (⟨"FireDrillModel", "isRefused", "()Z"⟩, 121), (⟨"FireDrillModel", "keeps", "()V"⟩, 121), (⟨"FireDrillModel", "drawOf", "(I)I"⟩, 121), (⟨"FireDrillModel", "qKind", "()I"⟩, 121), (⟨"FireDrillModel", "qTold", "(I)J"⟩, 121), (⟨"FireDrillModel", "qOf", "(IJI)J"⟩, 121), (⟨"FireDrillModel", "qTakes", "(IJI)V"⟩, 121), (⟨"FireDrillModel", "writesTwo", "(I)V"⟩, 121)]
theorem lw_r9 : ∀ q ∈ lw_privs_9, lw_okq q := List.forall_mem_cons.mpr ⟨lw_p128, List.forall_mem_cons.mpr ⟨lw_p129, List.forall_mem_cons.mpr ⟨lw_p130, List.forall_mem_cons.mpr ⟨lw_p131, List.forall_mem_cons.mpr ⟨lw_p132, List.forall_mem_cons.mpr ⟨lw_p133, List.forall_mem_cons.mpr ⟨lw_p134, List.forall_mem_cons.mpr ⟨lw_p135, List.forall_mem_cons.mpr ⟨lw_p136, List.forall_mem_cons.mpr ⟨lw_p137, List.forall_mem_cons.mpr ⟨lw_p138, List.forall_mem_cons.mpr ⟨lw_p139, List.forall_mem_cons.mpr ⟨lw_p140, List.forall_mem_cons.mpr ⟨lw_p141, List.forall_mem_cons.mpr ⟨lw_p142, List.forall_mem_cons.mpr ⟨lw_p143, fun _ h => absurd h List.not_mem_nil⟩⟩⟩⟩⟩⟩⟩⟩⟩⟩⟩⟩⟩⟩⟩⟩
theorem lw_p144 : lw_okq (⟨"FireDrillModel", "writes", "(I)V"⟩, 121) := ⟨⟨by decide +kernel, by decide +kernel⟩, List.mem_of_getElem? (i := 1193) (by decide +kernel), List.mem_of_getElem? (i := 2136) (by decide +kernel), List.mem_of_getElem? (i := 2137) (by decide +kernel)⟩
theorem lw_p145 : lw_okq (⟨"FireDrillModel", "isImage", "(I)Z"⟩, 121) := ⟨⟨by decide +kernel, by decide +kernel⟩, List.mem_of_getElem? (i := 1193) (by decide +kernel), List.mem_of_getElem? (i := 2151) (by decide +kernel), List.mem_of_getElem? (i := 2152) (by decide +kernel)⟩
theorem lw_p146 : lw_okq (⟨"FireDrillModel", "twoAt", "(I)I"⟩, 121) := ⟨⟨by decide +kernel, by decide +kernel⟩, List.mem_of_getElem? (i := 1193) (by decide +kernel), List.mem_of_getElem? (i := 2155) (by decide +kernel), List.mem_of_getElem? (i := 2156) (by decide +kernel)⟩
def lw_privs_10 : List (MethodName × Nat) := [(⟨"FireDrillModel", "writes", "(I)V"⟩, 121), (⟨"FireDrillModel", "isImage", "(I)Z"⟩, 121), (⟨"FireDrillModel", "twoAt", "(I)I"⟩, 121)]
theorem lw_r10 : ∀ q ∈ lw_privs_10, lw_okq q := List.forall_mem_cons.mpr ⟨lw_p144, List.forall_mem_cons.mpr ⟨lw_p145, List.forall_mem_cons.mpr ⟨lw_p146, fun _ h => absurd h List.not_mem_nil⟩⟩⟩
def lw_privs : List (MethodName × Nat) := lw_privs_1 ++ (lw_privs_2 ++ (lw_privs_3 ++ (lw_privs_4 ++ (lw_privs_5 ++ (lw_privs_6 ++ (lw_privs_7 ++ (lw_privs_8 ++ (lw_privs_9 ++ (lw_privs_10)))))))))
def lw_tbl : List Cond := k2_sels lw_privs ++ tables_1
theorem lw_privs_ok : ∀ q ∈ lw_privs, lw_okq q := by
  show ∀ q ∈ lw_privs_1 ++ (lw_privs_2 ++ (lw_privs_3 ++ (lw_privs_4 ++ (lw_privs_5 ++ (lw_privs_6 ++ (lw_privs_7 ++ (lw_privs_8 ++ (lw_privs_9 ++ (lw_privs_10))))))))), lw_okq q
  exact List.forall_mem_append.mpr ⟨lw_r1, List.forall_mem_append.mpr ⟨lw_r2, List.forall_mem_append.mpr ⟨lw_r3, List.forall_mem_append.mpr ⟨lw_r4, List.forall_mem_append.mpr ⟨lw_r5, List.forall_mem_append.mpr ⟨lw_r6, List.forall_mem_append.mpr ⟨lw_r7, List.forall_mem_append.mpr ⟨lw_r8, List.forall_mem_append.mpr ⟨lw_r9, lw_r10⟩⟩⟩⟩⟩⟩⟩⟩⟩
end
section
/-! The small machine: values with a tag (0 int, 1 long, 2 reference, 3 nothing), a store of whole numbers, resolved instructions. -/
abbrev ax_V : Type := Nat × Int
abbrev ax_O : Type := Nat × Nat × Nat × Int
abbrev ax_H : Type := Nat × Nat × Nat
abbrev ax_M : Type := Nat → Nat → Int
abbrev ax_S : Type := Nat × List ax_V × List ax_V × List ax_H × ax_M
abbrev ax_i (x : Int) : Prop := -2147483648 ≤ x ∧ x < 2147483648
abbrev ax_l (x : Int) : Prop := -9223372036854775808 ≤ x ∧ x < 9223372036854775808
def ax_up (M : ax_M) (a k : Nat) (x : Int) : ax_M := fun b j => if b = a ∧ j = k then x else M b j
/-- a local gets a value: a long takes the next place too, a long just ahead is lost -/
def ax_set (ll : List ax_V) (i : Nat) (v : ax_V) : List ax_V :=
  let l1 := ll.set i v
  let l2 := if v.1 = 1 then l1.set (i + 1) (3, 0) else l1
  match i with
  | 0 => l2
  | k + 1 => match ll[k]? with
    | some (1, _) => l2.set k (3, 0)
    | _ => l2
/-- whole numbers of 32 bits: 0 + 1 - 2 * 3 / 4 % 5 and 6 or 7 xor 8 shl 9 shr 10 ushr -/
def ax_ib (f : Nat) (x y : Int) : Option Int := match f with
  | 0 => if ax_i (x + y) then some (x + y) else none
  | 1 => if ax_i (x - y) then some (x - y) else none
  | 2 => if ax_i (x * y) then some (x * y) else none
  | 3 => if y ≠ 0 ∧ ax_i (x.tdiv y) then some (x.tdiv y) else none
  | 4 => if y ≠ 0 ∧ ax_i (x.tdiv y) then some (x.tmod y) else none
  | 5 => some (Int32.ofInt x &&& Int32.ofInt y).toInt
  | 6 => some (Int32.ofInt x ||| Int32.ofInt y).toInt
  | 7 => some (Int32.ofInt x ^^^ Int32.ofInt y).toInt
  | 8 => some (Int32.ofInt x <<< (Int32.ofInt y &&& 31)).toInt
  | 9 => some (Int32.ofInt x >>> (Int32.ofInt y &&& 31)).toInt
  | 10 => some ((Int32.ofInt x).toUInt32 >>> ((Int32.ofInt y).toUInt32 &&& Int32.toUInt32 31)).toInt32.toInt
  | _ => none
def ax_lb (f : Nat) (x y : Int) : Option Int := match f with
  | 0 => if ax_l (x + y) then some (x + y) else none
  | 1 => if ax_l (x - y) then some (x - y) else none
  | 2 => if ax_l (x * y) then some (x * y) else none
  | 3 => if y ≠ 0 ∧ ax_l (x.tdiv y) then some (x.tdiv y) else none
  | 4 => if y ≠ 0 ∧ ax_l (x.tdiv y) then some (x.tmod y) else none
  | 5 => some (Int64.ofInt x &&& Int64.ofInt y).toInt
  | _ => none
/-- 0 = 1 ≠ 2 < 3 ≥ 4 > 5 ≤ -/
def ax_cd (c : Nat) (x y : Int) : Bool := match c with
  | 0 => decide (x = y)
  | 1 => decide (¬ x = y)
  | 2 => decide (x < y)
  | 3 => decide (y ≤ x)
  | 4 => decide (y < x)
  | _ => decide (x ≤ y)
def ax_cmp (x y : Int) : Int := if y < x then 1 else if x = y then 0 else -1
/-- the tag of an element: 0 int 1 long 2 char 3 boolean 4 int[] 5 long[] -/
def ax_et (t : Nat) : Nat := match t with
  | 1 => 1
  | 4 => 2
  | 5 => 2
  | _ => 0
/-- the tag of a field: 0 int 1 long 2 reference 3 boolean -/
def ax_ft (t : Nat) : Nat := match t with
  | 1 => 1
  | 2 => 2
  | _ => 0
/-- what may be stored as an element -/
def ax_es (t : Nat) (v : ax_V) : Bool := match t with
  | 0 => decide (v.1 = 0)
  | 1 => decide (v.1 = 1)
  | 2 => decide (v.1 = 0 ∧ 0 ≤ v.2 ∧ v.2 < 65536)
  | 3 => decide (v.1 = 0 ∧ 0 ≤ v.2 ∧ v.2 < 2)
  | _ => false
def ax_fs (t : Nat) (v : ax_V) : Bool := match t with
  | 0 => decide (v.1 = 0)
  | 1 => decide (v.1 = 1)
  | 2 => decide (v.1 = 2)
  | 3 => decide (v.1 = 0 ∧ 0 ≤ v.2 ∧ v.2 < 2)
  | _ => false
def ax_cat (vs : List ax_V) : Nat := (vs.map (fun v => if v.1 = 1 then 2 else 1)).sum
/-- a method's locals at its entry -/
def ax_ent : List ax_V → List ax_V
  | [] => []
  | v :: vs => if v.1 = 1 then v :: (3, 0) :: ax_ent vs else v :: ax_ent vs
def ax_loc (vs : List ax_V) (n : Nat) : List ax_V := ax_ent vs ++ List.replicate (n - (ax_ent vs).length) (3, 0)
end
section
def RX0 : String := "FireDrill$Coupling"
def TX0 : u_T := fun k => match k with
  | 0 => ("FireDrill$Coupling", "best", "[I", true)
  | 1 => ("FireDrill$Coupling", "most", "J", false)
  | 2 => ("FireDrill$Coupling", "row", "[I", true)
  | _ => ("FireDrill$Coupling", "worth", "[[J", true)
def tyX0 : Nat → FieldType := fun k => match k with
  | 0 => .array .int
  | 1 => .long
  | 2 => .array .int
  | _ => .array (.array .long)
abbrev wsX00 : List Cond := u_ws RX0 TX0 4
theorem nmX0 : ∀ a, a < 4 → ∀ b, b < 4 → a ≠ b → (TX0 a).2.1 ≠ (TX0 b).2.1 := by decide +kernel
theorem tyX0_ok : ∀ k, k < 4 → parseFieldDescriptor (TX0 k).2.2.1 = some (tyX0 k) := by decide +kernel
def RX1 : String := "FireDrill$Drill"
def TX1 : u_T := fun k => match k with
  | 0 => ("FireDrill$Drill", "fars", "[I", true)
  | 1 => ("FireDrill$Drill", "outs", "[I", true)
  | 2 => ("FireDrill$Drill", "backs", "[I", true)
  | 3 => ("FireDrill$Drill", "places", "[[I", true)
  | 4 => ("FireDrill$Drill", "together", "[[I", true)
  | 5 => ("FireDrill$Drill", "met", "[[I", true)
  | 6 => ("FireDrill$Drill", "emptied", "I", false)
  | 7 => ("FireDrill$Drill", "at", "[I", true)
  | 8 => ("FireDrill$Drill", "widths", "[I", true)
  | 9 => ("FireDrill$Drill", "free", "[I", true)
  | _ => ("FireDrill$Drill", "leafValues", "[I", true)
def tyX1 : Nat → FieldType := fun k => match k with
  | 0 => .array .int
  | 1 => .array .int
  | 2 => .array .int
  | 3 => .array (.array .int)
  | 4 => .array (.array .int)
  | 5 => .array (.array .int)
  | 6 => .int
  | 7 => .array .int
  | 8 => .array .int
  | 9 => .array .int
  | _ => .array .int
abbrev wsX10 : List Cond := u_ws RX1 TX1 11
theorem nmX1 : ∀ a, a < 11 → ∀ b, b < 11 → a ≠ b → (TX1 a).2.1 ≠ (TX1 b).2.1 := by decide +kernel
theorem tyX1_ok : ∀ k, k < 11 → parseFieldDescriptor (TX1 k).2.2.1 = some (tyX1 k) := by decide +kernel
def RX2 : String := "FireDrill$Formula"
def TX2 : u_T := fun k => match k with
  | 0 => ("FireDrill$Formula", "text", "LFireDrill$Text;", true)
  | 1 => ("FireDrill$Formula", "program", "LFireDrill$Program;", false)
  | 2 => ("FireDrill$Formula", "leafWords", "Ljava/lang/String;", false)
  | _ => ("FireDrill$Formula", "withMeets", "Z", false)
def tyX2 : Nat → FieldType := fun k => match k with
  | 0 => .object "FireDrill$Text"
  | 1 => .object "FireDrill$Program"
  | 2 => .object "java/lang/String"
  | _ => .boolean
abbrev wsX20 : List Cond := u_ws RX2 TX2 4
theorem nmX2 : ∀ a, a < 4 → ∀ b, b < 4 → a ≠ b → (TX2 a).2.1 ≠ (TX2 b).2.1 := by decide +kernel
theorem tyX2_ok : ∀ k, k < 4 → parseFieldDescriptor (TX2 k).2.2.1 = some (tyX2 k) := by decide +kernel
def RX3 : String := "FireDrill$History"
def TX3 : u_T := fun k => match k with
  | 0 => ("FireDrill$History", "rows", "[[I", true)
  | 1 => ("FireDrill$History", "next", "I", false)
  | _ => ("FireDrill$History", "count", "I", false)
def tyX3 : Nat → FieldType := fun k => match k with
  | 0 => .array (.array .int)
  | 1 => .int
  | _ => .int
abbrev wsX30 : List Cond := u_ws RX3 TX3 3
theorem nmX3 : ∀ a, a < 3 → ∀ b, b < 3 → a ≠ b → (TX3 a).2.1 ≠ (TX3 b).2.1 := by decide +kernel
theorem tyX3_ok : ∀ k, k < 3 → parseFieldDescriptor (TX3 k).2.2.1 = some (tyX3 k) := by decide +kernel
def RX4 : String := "FireDrill$House"
def TX4 : u_T := fun k => match k with
  | 0 => ("FireDrill$House", "rooms", "I", false)
  | 1 => ("FireDrill$House", "stairs", "I", false)
  | 2 => ("FireDrill$House", "sections", "I", false)
  | 3 => ("FireDrill$House", "clerks", "I", false)
  | 4 => ("FireDrill$House", "roomNames", "[I", true)
  | 5 => ("FireDrill$House", "sectionNames", "[I", true)
  | 6 => ("FireDrill$House", "clerkNames", "[I", true)
  | 7 => ("FireDrill$House", "stairOne", "[I", true)
  | 8 => ("FireDrill$House", "stairOther", "[I", true)
  | 9 => ("FireDrill$House", "stairWide", "[I", true)
  | 10 => ("FireDrill$House", "firstPosts", "[I", true)
  | 11 => ("FireDrill$House", "clerkRoom", "[I", true)
  | 12 => ("FireDrill$House", "clerkSection", "[I", true)
  | 13 => ("FireDrill$House", "clerkPace", "[I", true)
  | 14 => ("FireDrill$House", "clerkBag", "[I", true)
  | 15 => ("FireDrill$House", "turns", "LFireDrill$Program;", true)
  | 16 => ("FireDrill$House", "dear", "LFireDrill$Program;", true)
  | 17 => ("FireDrill$House", "hears", "I", false)
  | 18 => ("FireDrill$House", "signs", "I", false)
  | _ => ("FireDrill$House", "smoke", "I", false)
def tyX4 : Nat → FieldType := fun k => match k with
  | 0 => .int
  | 1 => .int
  | 2 => .int
  | 3 => .int
  | 4 => .array .int
  | 5 => .array .int
  | 6 => .array .int
  | 7 => .array .int
  | 8 => .array .int
  | 9 => .array .int
  | 10 => .array .int
  | 11 => .array .int
  | 12 => .array .int
  | 13 => .array .int
  | 14 => .array .int
  | 15 => .object "FireDrill$Program"
  | 16 => .object "FireDrill$Program"
  | 17 => .int
  | 18 => .int
  | _ => .int
abbrev wsX40 : List Cond := u_ws RX4 TX4 20
theorem nmX4 : ∀ a, a < 20 → ∀ b, b < 20 → a ≠ b → (TX4 a).2.1 ≠ (TX4 b).2.1 := by decide +kernel
theorem tyX4_ok : ∀ k, k < 20 → parseFieldDescriptor (TX4 k).2.2.1 = some (tyX4 k) := by decide +kernel
def RX5 : String := "FireDrill$HouseReader"
def TX5 : u_T := fun k => match k with
  | 0 => ("FireDrill$HouseReader", "text", "LFireDrill$Text;", true)
  | 1 => ("FireDrill$HouseReader", "formula", "LFireDrill$Formula;", true)
  | _ => ("FireDrill$HouseReader", "told", "[I", true)
def tyX5 : Nat → FieldType := fun k => match k with
  | 0 => .object "FireDrill$Text"
  | 1 => .object "FireDrill$Formula"
  | _ => .array .int
abbrev wsX50 : List Cond := u_ws RX5 TX5 3
theorem nmX5 : ∀ a, a < 3 → ∀ b, b < 3 → a ≠ b → (TX5 a).2.1 ≠ (TX5 b).2.1 := by decide +kernel
theorem tyX5_ok : ∀ k, k < 3 → parseFieldDescriptor (TX5 k).2.2.1 = some (tyX5 k) := by decide +kernel
def RX6 : String := "FireDrill$Posting"
def TX6 : u_T := fun k => match k with
  | 0 => ("FireDrill$Posting", "best", "[I", true)
  | 1 => ("FireDrill$Posting", "most", "I", false)
  | _ => ("FireDrill$Posting", "row", "[I", true)
def tyX6 : Nat → FieldType := fun k => match k with
  | 0 => .array .int
  | 1 => .int
  | _ => .array .int
abbrev wsX60 : List Cond := u_ws RX6 TX6 3
theorem nmX6 : ∀ a, a < 3 → ∀ b, b < 3 → a ≠ b → (TX6 a).2.1 ≠ (TX6 b).2.1 := by decide +kernel
theorem tyX6_ok : ∀ k, k < 3 → parseFieldDescriptor (TX6 k).2.2.1 = some (tyX6 k) := by decide +kernel
def RX7 : String := "FireDrill$Program"
def TX7 : u_T := fun k => match k with
  | 0 => ("FireDrill$Program", "code", "[I", true)
  | 1 => ("FireDrill$Program", "size", "I", false)
  | _ => ("FireDrill$Program", "stack", "[I", true)
def tyX7 : Nat → FieldType := fun k => match k with
  | 0 => .array .int
  | 1 => .int
  | _ => .array .int
abbrev wsX70 : List Cond := u_ws RX7 TX7 3
theorem nmX7 : ∀ a, a < 3 → ∀ b, b < 3 → a ≠ b → (TX7 a).2.1 ≠ (TX7 b).2.1 := by decide +kernel
theorem tyX7_ok : ∀ k, k < 3 → parseFieldDescriptor (TX7 k).2.2.1 = some (tyX7 k) := by decide +kernel
def RX8 : String := "FireDrill$State"
def TX8 : u_T := fun k => match k with
  | 0 => ("FireDrill$State", "drills", "I", false)
  | 1 => ("FireDrill$State", "posts", "[I", true)
  | 2 => ("FireDrill$State", "shut", "[I", true)
  | _ => ("FireDrill$State", "signed", "[I", true)
def tyX8 : Nat → FieldType := fun k => match k with
  | 0 => .int
  | 1 => .array .int
  | 2 => .array .int
  | _ => .array .int
abbrev wsX80 : List Cond := u_ws RX8 TX8 4
theorem nmX8 : ∀ a, a < 4 → ∀ b, b < 4 → a ≠ b → (TX8 a).2.1 ≠ (TX8 b).2.1 := by decide +kernel
theorem tyX8_ok : ∀ k, k < 4 → parseFieldDescriptor (TX8 k).2.2.1 = some (tyX8 k) := by decide +kernel
def RX9 : String := "FireDrill$Suspects"
def TX9 : u_T := fun k => match k with
  | 0 => ("FireDrill$Suspects", "rows", "I", false)
  | 1 => ("FireDrill$Suspects", "seenClerks", "[I", true)
  | 2 => ("FireDrill$Suspects", "seenOuts", "[I", true)
  | 3 => ("FireDrill$Suspects", "fits", "[I", true)
  | 4 => ("FireDrill$Suspects", "outs", "[[I", true)
  | 5 => ("FireDrill$Suspects", "asked", "I", false)
  | _ => ("FireDrill$Suspects", "left", "I", false)
def tyX9 : Nat → FieldType := fun k => match k with
  | 0 => .int
  | 1 => .array .int
  | 2 => .array .int
  | 3 => .array .int
  | 4 => .array (.array .int)
  | 5 => .int
  | _ => .int
abbrev wsX90 : List Cond := u_ws RX9 TX9 7
theorem nmX9 : ∀ a, a < 7 → ∀ b, b < 7 → a ≠ b → (TX9 a).2.1 ≠ (TX9 b).2.1 := by decide +kernel
theorem tyX9_ok : ∀ k, k < 7 → parseFieldDescriptor (TX9 k).2.2.1 = some (tyX9 k) := by decide +kernel
def RX10 : String := "FireDrill$Text"
def TX10 : u_T := fun k => match k with
  | 0 => ("FireDrill$Text", "bytes", "[I", true)
  | 1 => ("FireDrill$Text", "length", "I", false)
  | 2 => ("FireDrill$Text", "kind", "I", false)
  | 3 => ("FireDrill$Text", "start", "I", false)
  | 4 => ("FireDrill$Text", "after", "I", false)
  | 5 => ("FireDrill$Text", "nameAt", "I", false)
  | 6 => ("FireDrill$Text", "number", "I", false)
  | 7 => ("FireDrill$Text", "name", "I", false)
  | 8 => ("FireDrill$Text", "fault", "I", false)
  | _ => ("FireDrill$Text", "place", "I", false)
def tyX10 : Nat → FieldType := fun k => match k with
  | 0 => .array .int
  | 1 => .int
  | 2 => .int
  | 3 => .int
  | 4 => .int
  | 5 => .int
  | 6 => .int
  | 7 => .int
  | 8 => .int
  | _ => .int
abbrev wsX100 : List Cond := u_ws RX10 TX10 10
theorem nmX10 : ∀ a, a < 10 → ∀ b, b < 10 → a ≠ b → (TX10 a).2.1 ≠ (TX10 b).2.1 := by decide +kernel
theorem tyX10_ok : ∀ k, k < 10 → parseFieldDescriptor (TX10 k).2.2.1 = some (tyX10 k) := by decide +kernel
def RX11 : String := "FireDrill"
def TX11 : u_T := fun k => match k with
  | 0 => ("FireDrill", "text", "LFireDrill$Text;", true)
  | 1 => ("FireDrill", "formula", "LFireDrill$Formula;", true)
  | 2 => ("FireDrill", "reader", "LFireDrill$HouseReader;", true)
  | 3 => ("FireDrill", "house", "LFireDrill$House;", false)
  | 4 => ("FireDrill", "spare", "LFireDrill$House;", false)
  | 5 => ("FireDrill", "now", "LFireDrill$State;", true)
  | 6 => ("FireDrill", "history", "LFireDrill$History;", true)
  | 7 => ("FireDrill", "drill", "LFireDrill$Drill;", true)
  | 8 => ("FireDrill", "posting", "LFireDrill$Posting;", true)
  | 9 => ("FireDrill", "coupling", "LFireDrill$Coupling;", true)
  | 10 => ("FireDrill", "suspects", "LFireDrill$Suspects;", true)
  | 11 => ("FireDrill", "question", "LFireDrill$Program;", true)
  | 12 => ("FireDrill", "leaves", "[I", true)
  | 13 => ("FireDrill", "octets", "[I", true)
  | 14 => ("FireDrill", "octetCount", "I", false)
  | 15 => ("FireDrill", "refused", "[I", true)
  | 16 => ("FireDrill", "seedNow", "I", false)
  | _ => ("FireDrill", "kept", "[I", true)
def tyX11 : Nat → FieldType := fun k => match k with
  | 0 => .object "FireDrill$Text"
  | 1 => .object "FireDrill$Formula"
  | 2 => .object "FireDrill$HouseReader"
  | 3 => .object "FireDrill$House"
  | 4 => .object "FireDrill$House"
  | 5 => .object "FireDrill$State"
  | 6 => .object "FireDrill$History"
  | 7 => .object "FireDrill$Drill"
  | 8 => .object "FireDrill$Posting"
  | 9 => .object "FireDrill$Coupling"
  | 10 => .object "FireDrill$Suspects"
  | 11 => .object "FireDrill$Program"
  | 12 => .array .int
  | 13 => .array .int
  | 14 => .int
  | 15 => .array .int
  | 16 => .int
  | _ => .array .int
abbrev wsX110 : List Cond := u_ws RX11 TX11 18
theorem nmX11 : ∀ a, a < 18 → ∀ b, b < 18 → a ≠ b → (TX11 a).2.1 ≠ (TX11 b).2.1 := by decide +kernel
theorem tyX11_ok : ∀ k, k < 18 → parseFieldDescriptor (TX11 k).2.2.1 = some (tyX11 k) := by decide +kernel
def RX12 : String := "FireDrillModel"
def TX12 : u_T := fun k => match k with
  | 0 => ("FireDrillModel", "tape", "[I", true)
  | 1 => ("FireDrillModel", "taped", "I", false)
  | 2 => ("FireDrillModel", "at", "I", false)
  | 3 => ("FireDrillModel", "end", "I", false)
  | 4 => ("FireDrillModel", "ended", "I", false)
  | 5 => ("FireDrillModel", "bad", "I", false)
  | 6 => ("FireDrillModel", "badPlace", "I", false)
  | 7 => ("FireDrillModel", "fault", "I", false)
  | 8 => ("FireDrillModel", "faultPlace", "I", false)
  | 9 => ("FireDrillModel", "refused", "[I", true)
  | 10 => ("FireDrillModel", "roomWord", "[C", true)
  | 11 => ("FireDrillModel", "stairWord", "[C", true)
  | 12 => ("FireDrillModel", "toWord", "[C", true)
  | 13 => ("FireDrillModel", "wideWord", "[C", true)
  | 14 => ("FireDrillModel", "partWord", "[C", true)
  | 15 => ("FireDrillModel", "postWord", "[C", true)
  | 16 => ("FireDrillModel", "clerkWord", "[C", true)
  | 17 => ("FireDrillModel", "inWord", "[C", true)
  | 18 => ("FireDrillModel", "ofWord", "[C", true)
  | 19 => ("FireDrillModel", "paceWord", "[C", true)
  | 20 => ("FireDrillModel", "bagWord", "[C", true)
  | 21 => ("FireDrillModel", "turnsWord", "[C", true)
  | 22 => ("FireDrillModel", "dearWord", "[C", true)
  | 23 => ("FireDrillModel", "hearsWord", "[C", true)
  | 24 => ("FireDrillModel", "signsWord", "[C", true)
  | 25 => ("FireDrillModel", "smokeWord", "[C", true)
  | 26 => ("FireDrillModel", "drillWord", "[C", true)
  | 27 => ("FireDrillModel", "minuteWord", "[C", true)
  | 28 => ("FireDrillModel", "crowdWord", "[C", true)
  | 29 => ("FireDrillModel", "otherWord", "[C", true)
  | 30 => ("FireDrillModel", "longWord", "[C", true)
  | 31 => ("FireDrillModel", "numberWord", "[C", true)
  | 32 => ("FireDrillModel", "outWord", "[C", true)
  | 33 => ("FireDrillModel", "signedWord", "[C", true)
  | 34 => ("FireDrillModel", "meetsWord", "[C", true)
  | 35 => ("FireDrillModel", "orWord", "[C", true)
  | 36 => ("FireDrillModel", "andWord", "[C", true)
  | 37 => ("FireDrillModel", "notWord", "[C", true)
  | 38 => ("FireDrillModel", "allWord", "[C", true)
  | 39 => ("FireDrillModel", "minWord", "[C", true)
  | 40 => ("FireDrillModel", "maxWord", "[C", true)
  | 41 => ("FireDrillModel", "namePlace", "I", false)
  | 42 => ("FireDrillModel", "many", "[I", true)
  | 43 => ("FireDrillModel", "names", "[J", true)
  | 44 => ("FireDrillModel", "stairs", "[I", true)
  | 45 => ("FireDrillModel", "begins", "[I", true)
  | 46 => ("FireDrillModel", "clerks", "[I", true)
  | 47 => ("FireDrillModel", "settings", "[I", true)
  | 48 => ("FireDrillModel", "codeFrom", "[I", true)
  | 49 => ("FireDrillModel", "codeEnd", "[I", true)
  | 50 => ("FireDrillModel", "codes", "[I", true)
  | 51 => ("FireDrillModel", "coded", "I", false)
  | 52 => ("FireDrillModel", "statements", "I", false)
  | 53 => ("FireDrillModel", "textKind", "I", false)
  | 54 => ("FireDrillModel", "now", "[I", true)
  | 55 => ("FireDrillModel", "aside", "[I", true)
  | 56 => ("FireDrillModel", "askMinute", "I", false)
  | 57 => ("FireDrillModel", "askCrowd", "I", false)
  | 58 => ("FireDrillModel", "askOther", "I", false)
  | 59 => ("FireDrillModel", "askLong", "I", false)
  | 60 => ("FireDrillModel", "fars", "[I", true)
  | 61 => ("FireDrillModel", "gone", "[I", true)
  | 62 => ("FireDrillModel", "rooms", "[I", true)
  | 63 => ("FireDrillModel", "outAt", "[I", true)
  | 64 => ("FireDrillModel", "turnedAt", "[I", true)
  | 65 => ("FireDrillModel", "behind", "[I", true)
  | 66 => ("FireDrillModel", "met", "[I", true)
  | 67 => ("FireDrillModel", "emptyAt", "I", false)
  | 68 => ("FireDrillModel", "posts0", "[I", true)
  | 69 => ("FireDrillModel", "shutToo", "I", false)
  | 70 => ("FireDrillModel", "widened", "I", false)
  | 71 => ("FireDrillModel", "row", "[I", true)
  | 72 => ("FireDrillModel", "best", "[I", true)
  | 73 => ("FireDrillModel", "dears", "[J", true)
  | 74 => ("FireDrillModel", "sums", "[J", true)
  | 75 => ("FireDrillModel", "mates", "[I", true)
  | 76 => ("FireDrillModel", "rowMany", "I", false)
  | 77 => ("FireDrillModel", "rows", "[I", true)
  | 78 => ("FireDrillModel", "outs", "[I", true)
  | 79 => ("FireDrillModel", "fits", "[Z", true)
  | 80 => ("FireDrillModel", "fitMany", "I", false)
  | 81 => ("FireDrillModel", "kept0", "[I", true)
  | 82 => ("FireDrillModel", "undoable", "I", false)
  | 83 => ("FireDrillModel", "newest", "I", false)
  | 84 => ("FireDrillModel", "seeded", "J", false)
  | 85 => ("FireDrillModel", "firstAsked", "[C", true)
  | 86 => ("FireDrillModel", "lastAsked", "[C", true)
  | 87 => ("FireDrillModel", "oftenAsked", "[C", true)
  | 88 => ("FireDrillModel", "totalAsked", "[C", true)
  | 89 => ("FireDrillModel", "mostAsked", "[C", true)
  | 90 => ("FireDrillModel", "leastAsked", "[C", true)
  | 91 => ("FireDrillModel", "notAsked", "[C", true)
  | 92 => ("FireDrillModel", "andAsked", "[C", true)
  | 93 => ("FireDrillModel", "orAsked", "[C", true)
  | 94 => ("FireDrillModel", "allAsked", "[C", true)
  | 95 => ("FireDrillModel", "minAsked", "[C", true)
  | 96 => ("FireDrillModel", "maxAsked", "[C", true)
  | 97 => ("FireDrillModel", "paceAsked", "[C", true)
  | 98 => ("FireDrillModel", "bagAsked", "[C", true)
  | 99 => ("FireDrillModel", "drillAsked", "[C", true)
  | 100 => ("FireDrillModel", "minuteAsked", "[C", true)
  | 101 => ("FireDrillModel", "crowdAsked", "[C", true)
  | 102 => ("FireDrillModel", "otherAsked", "[C", true)
  | 103 => ("FireDrillModel", "longAsked", "[C", true)
  | 104 => ("FireDrillModel", "numberAsked", "[C", true)
  | 105 => ("FireDrillModel", "postAsked", "[C", true)
  | 106 => ("FireDrillModel", "outAsked", "[C", true)
  | 107 => ("FireDrillModel", "signedAsked", "[C", true)
  | 108 => ("FireDrillModel", "meetsAsked", "[C", true)
  | 109 => ("FireDrillModel", "qCodes", "[I", true)
  | 110 => ("FireDrillModel", "qCoded", "I", false)
  | 111 => ("FireDrillModel", "qWait", "[I", true)
  | 112 => ("FireDrillModel", "qWaits", "I", false)
  | 113 => ("FireDrillModel", "qOpened", "I", false)
  | 114 => ("FireDrillModel", "qBase", "I", false)
  | 115 => ("FireDrillModel", "qPile", "[J", true)
  | 116 => ("FireDrillModel", "qPiled", "I", false)
  | 117 => ("FireDrillModel", "qAnswer", "J", false)
  | 118 => ("FireDrillModel", "qIsNew", "Z", false)
  | 119 => ("FireDrillModel", "octet", "[I", true)
  | _ => ("FireDrillModel", "octets", "I", false)
def tyX12 : Nat → FieldType := fun k => match k with
  | 0 => .array .int
  | 1 => .int
  | 2 => .int
  | 3 => .int
  | 4 => .int
  | 5 => .int
  | 6 => .int
  | 7 => .int
  | 8 => .int
  | 9 => .array .int
  | 10 => .array .char
  | 11 => .array .char
  | 12 => .array .char
  | 13 => .array .char
  | 14 => .array .char
  | 15 => .array .char
  | 16 => .array .char
  | 17 => .array .char
  | 18 => .array .char
  | 19 => .array .char
  | 20 => .array .char
  | 21 => .array .char
  | 22 => .array .char
  | 23 => .array .char
  | 24 => .array .char
  | 25 => .array .char
  | 26 => .array .char
  | 27 => .array .char
  | 28 => .array .char
  | 29 => .array .char
  | 30 => .array .char
  | 31 => .array .char
  | 32 => .array .char
  | 33 => .array .char
  | 34 => .array .char
  | 35 => .array .char
  | 36 => .array .char
  | 37 => .array .char
  | 38 => .array .char
  | 39 => .array .char
  | 40 => .array .char
  | 41 => .int
  | 42 => .array .int
  | 43 => .array .long
  | 44 => .array .int
  | 45 => .array .int
  | 46 => .array .int
  | 47 => .array .int
  | 48 => .array .int
  | 49 => .array .int
  | 50 => .array .int
  | 51 => .int
  | 52 => .int
  | 53 => .int
  | 54 => .array .int
  | 55 => .array .int
  | 56 => .int
  | 57 => .int
  | 58 => .int
  | 59 => .int
  | 60 => .array .int
  | 61 => .array .int
  | 62 => .array .int
  | 63 => .array .int
  | 64 => .array .int
  | 65 => .array .int
  | 66 => .array .int
  | 67 => .int
  | 68 => .array .int
  | 69 => .int
  | 70 => .int
  | 71 => .array .int
  | 72 => .array .int
  | 73 => .array .long
  | 74 => .array .long
  | 75 => .array .int
  | 76 => .int
  | 77 => .array .int
  | 78 => .array .int
  | 79 => .array .boolean
  | 80 => .int
  | 81 => .array .int
  | 82 => .int
  | 83 => .int
  | 84 => .long
  | 85 => .array .char
  | 86 => .array .char
  | 87 => .array .char
  | 88 => .array .char
  | 89 => .array .char
  | 90 => .array .char
  | 91 => .array .char
  | 92 => .array .char
  | 93 => .array .char
  | 94 => .array .char
  | 95 => .array .char
  | 96 => .array .char
  | 97 => .array .char
  | 98 => .array .char
  | 99 => .array .char
  | 100 => .array .char
  | 101 => .array .char
  | 102 => .array .char
  | 103 => .array .char
  | 104 => .array .char
  | 105 => .array .char
  | 106 => .array .char
  | 107 => .array .char
  | 108 => .array .char
  | 109 => .array .int
  | 110 => .int
  | 111 => .array .int
  | 112 => .int
  | 113 => .int
  | 114 => .int
  | 115 => .array .long
  | 116 => .int
  | 117 => .long
  | 118 => .boolean
  | 119 => .array .int
  | _ => .int
abbrev wsX120 : List Cond := u_ws RX12 TX12 121
theorem nmX12 : ∀ a, a < 121 → ∀ b, b < 121 → a ≠ b → (TX12 a).2.1 ≠ (TX12 b).2.1 := by decide +kernel
theorem tyX12_ok : ∀ k, k < 121 → parseFieldDescriptor (TX12 k).2.2.1 = some (tyX12 k) := by decide +kernel
abbrev vwCl : List vw_C := [(RX0, TX0, 4), (RX1, TX1, 11), (RX2, TX2, 4), (RX3, TX3, 3), (RX4, TX4, 20), (RX5, TX5, 3), (RX6, TX6, 3), (RX7, TX7, 3), (RX8, TX8, 4), (RX9, TX9, 7), (RX10, TX10, 10), (RX11, TX11, 18), (RX12, TX12, 121)]
/-- kinds of fields: 0 int 1 long 2 reference 3 boolean -/
def ax_fk : List (List Nat) := [[2, 1, 2, 2], [2, 2, 2, 2, 2, 2, 0, 2, 2, 2, 2], [2, 2, 2, 3], [2, 0, 0], [0, 0, 0, 0, 2, 2, 2, 2, 2, 2, 2, 2, 2, 2, 2, 2, 2, 0, 0, 0], [2, 2, 2], [2, 0, 2], [2, 0, 2], [0, 2, 2, 2], [0, 2, 2, 2, 2, 0, 0], [2, 0, 0, 0, 0, 0, 0, 0, 0, 0], [2, 2, 2, 2, 2, 2, 2, 2, 2, 2, 2, 2, 2, 2, 0, 2, 0, 2], [2, 0, 0, 0, 0, 0, 0, 0, 0, 2, 2, 2, 2, 2, 2, 2, 2, 2, 2, 2, 2, 2, 2, 2, 2, 2, 2, 2, 2, 2, 2, 2, 2, 2, 2, 2, 2, 2, 2, 2, 2, 0, 2, 2, 2, 2, 2, 2, 2, 2, 2, 0, 0, 0, 2, 2, 0, 0, 0, 0, 2, 2, 2, 2, 2, 2, 2, 0, 2, 0, 0, 2, 2, 2, 2, 2, 0, 2, 2, 2, 0, 2, 0, 0, 1, 2, 2, 2, 2, 2, 2, 2, 2, 2, 2, 2, 2, 2, 2, 2, 2, 2, 2, 2, 2, 2, 2, 2, 2, 2, 0, 2, 0, 0, 0, 2, 0, 1, 3, 2, 0]]
def ax_nm : List String := ["FireDrill$Coupling", "FireDrill$Drill", "FireDrill$Formula", "FireDrill$History", "FireDrill$House", "FireDrill$HouseReader", "FireDrill$Posting", "FireDrill$Program", "FireDrill$State", "FireDrill$Suspects", "FireDrill$Text", "FireDrill", "FireDrillModel", "FireDrillLaw", "java/lang/String", "java/lang/StringLatin1", "jdk/internal/util/Preconditions", "java/lang/Integer", "java/lang/Math"]
def ax_tx : List (String × List Int) := [("", []), ("room stair part clerk turns dear hears signs smoke", [114, 111, 111, 109, 32, 115, 116, 97, 105, 114, 32, 112, 97, 114, 116, 32, 99, 108, 101, 114, 107, 32, 116, 117, 114, 110, 115, 32, 100, 101, 97, 114, 32, 104, 101, 97, 114, 115, 32, 115, 105, 103, 110, 115, 32, 115, 109, 111, 107, 101]), ("room stair to wide part post clerk in of pace bag turns dear hears signs smoke drill minute crowd other long number out signed meets or and not all min max", [114, 111, 111, 109, 32, 115, 116, 97, 105, 114, 32, 116, 111, 32, 119, 105, 100, 101, 32, 112, 97, 114, 116, 32, 112, 111, 115, 116, 32, 99, 108, 101, 114, 107, 32, 105, 110, 32, 111, 102, 32, 112, 97, 99, 101, 32, 98, 97, 103, 32, 116, 117, 114, 110, 115, 32, 100, 101, 97, 114, 32, 104, 101, 97, 114, 115, 32, 115, 105, 103, 110, 115, 32, 115, 109, 111, 107, 101, 32, 100, 114, 105, 108, 108, 32, 109, 105, 110, 117, 116, 101, 32, 99, 114, 111, 119, 100, 32, 111, 116, 104, 101, 114, 32, 108, 111, 110, 103, 32, 110, 117, 109, 98, 101, 114, 32, 111, 117, 116, 32, 115, 105, 103, 110, 101, 100, 32, 109, 101, 101, 116, 115, 32, 111, 114, 32, 97, 110, 100, 32, 110, 111, 116, 32, 97, 108, 108, 32, 109, 105, 110, 32, 109, 97, 120]), ("to", [116, 111]), ("wide", [119, 105, 100, 101]), ("post", [112, 111, 115, 116]), ("in", [105, 110]), ("of", [111, 102]), ("pace", [112, 97, 99, 101]), ("bag", [98, 97, 103]), ("pace bag drill minute crowd", [112, 97, 99, 101, 32, 98, 97, 103, 32, 100, 114, 105, 108, 108, 32, 109, 105, 110, 117, 116, 101, 32, 99, 114, 111, 119, 100]), ("not", [110, 111, 116]), ("all", [97, 108, 108]), ("min", [109, 105, 110]), ("max", [109, 97, 120]), ("meets", [109, 101, 101, 116, 115]), ("and", [97, 110, 100]), ("or", [111, 114]), ("pace bag drill other long", [112, 97, 99, 101, 32, 98, 97, 103, 32, 100, 114, 105, 108, 108, 32, 111, 116, 104, 101, 114, 32, 108, 111, 110, 103]), ("pace bag drill number post out signed", [112, 97, 99, 101, 32, 98, 97, 103, 32, 100, 114, 105, 108, 108, 32, 110, 117, 109, 98, 101, 114, 32, 112, 111, 115, 116, 32, 111, 117, 116, 32, 115, 105, 103, 110, 101, 100]), ("first last often total most least", [102, 105, 114, 115, 116, 32, 108, 97, 115, 116, 32, 111, 102, 116, 101, 110, 32, 116, 111, 116, 97, 108, 32, 109, 111, 115, 116, 32, 108, 101, 97, 115, 116])]
def ax_mo : List Int := [8, 10, 5, 8, 1, 1, 80, 80, 80]
abbrev ax_I : Type := Nat × MethodName × ByteArray × Nat × Option FieldType × Nat × Nat × Nat
/-- own class, name, code, locals, answer, parameters, 0 static 1 instance 2 constructor, kind of answer -/
def ax_T0 : List ax_I := [(0, ⟨"FireDrill$Coupling", "<init>", "()V"⟩, prog_2_method_1_code, 1, none, 0, 2, 2), (0, ⟨"FireDrill$Coupling", "find", "(LFireDrill$House;LFireDrill$State;LFireDrill$Drill;)V"⟩, prog_2_method_2_code, 7, none, 3, 1, 2), (0, ⟨"FireDrill$Coupling", "search", "(IIJ)V"⟩, prog_2_method_3_code, 6, none, 3, 1, 2), (1, ⟨"FireDrill$Drill", "<init>", "()V"⟩, prog_3_method_1_code, 1, none, 0, 2, 2), (1, ⟨"FireDrill$Drill", "run", "(LFireDrill$House;LFireDrill$State;II)V"⟩, prog_3_method_2_code, 6, none, 4, 1, 2), (1, ⟨"FireDrill$Drill", "prepare", "(LFireDrill$House;LFireDrill$State;II)V"⟩, prog_3_method_3_code, 8, none, 4, 1, 2), (1, ⟨"FireDrill$Drill", "reach", "(III)V"⟩, prog_3_method_4_code, 4, none, 3, 1, 2), (1, ⟨"FireDrill$Drill", "goToRooms", "(LFireDrill$House;)V"⟩, prog_3_method_5_code, 4, none, 1, 1, 2), (1, ⟨"FireDrill$Drill", "isOut", "(I)Z"⟩, prog_3_method_6_code, 2, (some .boolean), 1, 1, 3), (1, ⟨"FireDrill$Drill", "areAllOut", "(LFireDrill$House;)Z"⟩, prog_3_method_7_code, 3, (some .boolean), 1, 1, 3), (1, ⟨"FireDrill$Drill", "runMinute", "(LFireDrill$House;LFireDrill$State;I)V"⟩, prog_3_method_8_code, 6, none, 3, 1, 2), (1, ⟨"FireDrill$Drill", "turns", "(LFireDrill$House;III)Z"⟩, prog_3_method_9_code, 7, (some .boolean), 4, 1, 3), (1, ⟨"FireDrill$Drill", "walk", "(LFireDrill$House;II)V"⟩, prog_3_method_10_code, 6, none, 3, 1, 2), (1, ⟨"FireDrill$Drill", "stairFrom", "(LFireDrill$House;I)I"⟩, prog_3_method_11_code, 7, (some .int), 2, 1, 0), (1, ⟨"FireDrill$Drill", "countMeetings", "(LFireDrill$House;LFireDrill$State;)V"⟩, prog_3_method_12_code, 6, none, 2, 1, 2), (1, ⟨"FireDrill$Drill", "apart", "(LFireDrill$House;LFireDrill$State;II)I"⟩, prog_3_method_13_code, 4, (some .int), 4, 0, 0), (1, ⟨"FireDrill$Drill", "countSigning", "(LFireDrill$House;)I"⟩, prog_3_method_14_code, 5, (some .int), 1, 1, 0), (1, ⟨"FireDrill$Drill", "dearness", "(LFireDrill$House;LFireDrill$State;II)J"⟩, prog_3_method_15_code, 5, (some .long), 4, 1, 1), (1, ⟨"FireDrill$Drill", "dearnessTo", "(LFireDrill$House;III)I"⟩, prog_3_method_16_code, 5, (some .int), 4, 1, 0), (2, ⟨"FireDrill$Formula", "<init>", "(LFireDrill$Text;LFireDrill$Program;)V"⟩, prog_4_method_1_code, 3, none, 2, 2, 2), (2, ⟨"FireDrill$Formula", "begin", "(LFireDrill$Program;Ljava/lang/String;Z)V"⟩, prog_4_method_2_code, 4, none, 3, 1, 2), (2, ⟨"FireDrill$Formula", "readTest", "(I)Z"⟩, prog_4_method_3_code, 3, (some .boolean), 1, 1, 3), (2, ⟨"FireDrill$Formula", "readBoth", "(I)Z"⟩, prog_4_method_4_code, 3, (some .boolean), 1, 1, 3), (2, ⟨"FireDrill$Formula", "readFact", "(I)Z"⟩, prog_4_method_5_code, 3, (some .boolean), 1, 1, 3), (2, ⟨"FireDrill$Formula", "comparisonHere", "()I"⟩, prog_4_method_6_code, 1, (some .int), 0, 1, 0), (2, ⟨"FireDrill$Formula", "readSum", "(I)Z"⟩, prog_4_method_7_code, 4, (some .boolean), 1, 1, 3), (2, ⟨"FireDrill$Formula", "readProduct", "(I)Z"⟩, prog_4_method_8_code, 4, (some .boolean), 1, 1, 3), (2, ⟨"FireDrill$Formula", "readPart", "(I)Z"⟩, prog_4_method_9_code, 3, (some .boolean), 1, 1, 3), (2, ⟨"FireDrill$Formula", "readLesserOrGreater", "(I)Z"⟩, prog_4_method_10_code, 3, (some .boolean), 1, 1, 3), (2, ⟨"FireDrill$Formula", "opens", "(I)Z"⟩, prog_4_method_11_code, 2, (some .boolean), 1, 1, 3), (3, ⟨"FireDrill$History", "<init>", "()V"⟩, prog_5_method_1_code, 1, none, 0, 2, 2), (3, ⟨"FireDrill$History", "add", "(LFireDrill$State;)V"⟩, prog_5_method_2_code, 2, none, 1, 1, 2), (3, ⟨"FireDrill$History", "takeBack", "(LFireDrill$State;)V"⟩, prog_5_method_3_code, 2, none, 1, 1, 2), (4, ⟨"FireDrill$House", "<init>", "()V"⟩, prog_6_method_1_code, 1, none, 0, 2, 2), (4, ⟨"FireDrill$House", "clear", "()V"⟩, prog_6_method_2_code, 1, none, 0, 1, 2), (4, ⟨"FireDrill$House", "find", "([III)I"⟩, prog_6_method_3_code, 4, (some .int), 3, 0, 0), (4, ⟨"FireDrill$House", "isNamed", "(I)Z"⟩, prog_6_method_4_code, 2, (some .boolean), 1, 1, 3), (4, ⟨"FireDrill$House", "hasStair", "(II)Z"⟩, prog_6_method_5_code, 4, (some .boolean), 2, 1, 3), (4, ⟨"FireDrill$House", "leadsTo", "(II)I"⟩, prog_6_method_6_code, 3, (some .int), 2, 1, 0), (4, ⟨"FireDrill$House", "clerksOf", "(I)I"⟩, prog_6_method_7_code, 4, (some .int), 1, 1, 0)]
def ax_T1 : List ax_I := [(5, ⟨"FireDrill$HouseReader", "<init>", "(LFireDrill$Text;LFireDrill$Formula;)V"⟩, prog_7_method_1_code, 3, none, 2, 2, 2), (5, ⟨"FireDrill$HouseReader", "readHouse", "(LFireDrill$House;)I"⟩, prog_7_method_2_code, 3, (some .int), 1, 1, 0), (5, ⟨"FireDrill$HouseReader", "readStatement", "(LFireDrill$House;)Z"⟩, prog_7_method_3_code, 3, (some .boolean), 1, 1, 3), (5, ⟨"FireDrill$HouseReader", "takeNewName", "(LFireDrill$House;)Z"⟩, prog_7_method_4_code, 2, (some .boolean), 1, 1, 3), (5, ⟨"FireDrill$HouseReader", "takeOldName", "([II)I"⟩, prog_7_method_5_code, 4, (some .int), 2, 1, 0), (5, ⟨"FireDrill$HouseReader", "takeSetting", "(Ljava/lang/String;II)Z"⟩, prog_7_method_6_code, 4, (some .boolean), 3, 1, 3), (5, ⟨"FireDrill$HouseReader", "readRoom", "(LFireDrill$House;)Z"⟩, prog_7_method_7_code, 2, (some .boolean), 1, 1, 3), (5, ⟨"FireDrill$HouseReader", "readStair", "(LFireDrill$House;)Z"⟩, prog_7_method_8_code, 4, (some .boolean), 1, 1, 3), (5, ⟨"FireDrill$HouseReader", "readSection", "(LFireDrill$House;)Z"⟩, prog_7_method_9_code, 3, (some .boolean), 1, 1, 3), (5, ⟨"FireDrill$HouseReader", "readClerk", "(LFireDrill$House;)Z"⟩, prog_7_method_10_code, 5, (some .boolean), 1, 1, 3), (5, ⟨"FireDrill$HouseReader", "readHears", "(LFireDrill$House;)Z"⟩, prog_7_method_11_code, 2, (some .boolean), 1, 1, 3), (5, ⟨"FireDrill$HouseReader", "readSigns", "(LFireDrill$House;)Z"⟩, prog_7_method_12_code, 2, (some .boolean), 1, 1, 3), (5, ⟨"FireDrill$HouseReader", "readSmoke", "(LFireDrill$House;)Z"⟩, prog_7_method_13_code, 2, (some .boolean), 1, 1, 3), (6, ⟨"FireDrill$Posting", "<init>", "()V"⟩, prog_8_method_1_code, 1, none, 0, 2, 2), (6, ⟨"FireDrill$Posting", "find", "(LFireDrill$House;LFireDrill$State;LFireDrill$Drill;)V"⟩, prog_8_method_2_code, 4, none, 3, 1, 2), (6, ⟨"FireDrill$Posting", "search", "(LFireDrill$House;LFireDrill$State;LFireDrill$Drill;II)V"⟩, prog_8_method_3_code, 7, none, 5, 1, 2), (6, ⟨"FireDrill$Posting", "keepIfMore", "(LFireDrill$House;I)V"⟩, prog_8_method_4_code, 3, none, 2, 1, 2), (6, ⟨"FireDrill$Posting", "count", "(LFireDrill$House;LFireDrill$State;LFireDrill$Drill;)I"⟩, prog_8_method_5_code, 9, (some .int), 3, 1, 0), (7, ⟨"FireDrill$Program", "<init>", "()V"⟩, prog_9_method_1_code, 1, none, 0, 2, 2), (7, ⟨"FireDrill$Program", "add", "(I)V"⟩, prog_9_method_2_code, 2, none, 1, 1, 2), (7, ⟨"FireDrill$Program", "valueFor", "([I[I)I"⟩, prog_9_method_3_code, 7, (some .int), 2, 1, 0), (7, ⟨"FireDrill$Program", "valueAt", "([II)I"⟩, prog_9_method_4_code, 2, (some .int), 2, 0, 0), (7, ⟨"FireDrill$Program", "join", "(III)I"⟩, prog_9_method_5_code, 3, (some .int), 3, 0, 0), (7, ⟨"FireDrill$Program", "bounded", "(J)I"⟩, prog_9_method_6_code, 2, (some .int), 1, 0, 0), (8, ⟨"FireDrill$State", "<init>", "()V"⟩, prog_10_method_1_code, 1, none, 0, 2, 2), (8, ⟨"FireDrill$State", "begin", "(LFireDrill$House;)V"⟩, prog_10_method_2_code, 3, none, 1, 1, 2), (8, ⟨"FireDrill$State", "pairOf", "(II)I"⟩, prog_10_method_3_code, 4, (some .int), 2, 0, 0), (8, ⟨"FireDrill$State", "countShut", "()I"⟩, prog_10_method_4_code, 3, (some .int), 0, 1, 0), (8, ⟨"FireDrill$State", "countSigned", "()I"⟩, prog_10_method_5_code, 3, (some .int), 0, 1, 0), (8, ⟨"FireDrill$State", "signedOf", "(II)I"⟩, prog_10_method_6_code, 5, (some .int), 2, 1, 0), (8, ⟨"FireDrill$State", "addDrill", "(LFireDrill$House;LFireDrill$Drill;)I"⟩, prog_10_method_7_code, 7, (some .int), 2, 1, 0), (8, ⟨"FireDrill$State", "copyTo", "([I)V"⟩, prog_10_method_8_code, 2, none, 1, 1, 2), (8, ⟨"FireDrill$State", "copyFrom", "([I)V"⟩, prog_10_method_9_code, 2, none, 1, 1, 2), (8, ⟨"FireDrill$State", "imageLength", "(LFireDrill$House;)I"⟩, prog_10_method_10_code, 1, (some .int), 1, 0, 0), (8, ⟨"FireDrill$State", "checkOf", "([II)I"⟩, prog_10_method_11_code, 4, (some .int), 2, 0, 0), (8, ⟨"FireDrill$State", "writeImage", "(LFireDrill$House;[I)I"⟩, prog_10_method_12_code, 6, (some .int), 2, 1, 0), (8, ⟨"FireDrill$State", "isImage", "(LFireDrill$House;LFireDrill$Text;)Z"⟩, prog_10_method_13_code, 8, (some .boolean), 2, 0, 3), (8, ⟨"FireDrill$State", "readImage", "(LFireDrill$House;[I)V"⟩, prog_10_method_14_code, 6, none, 2, 1, 2), (9, ⟨"FireDrill$Suspects", "<init>", "()V"⟩, prog_11_method_1_code, 1, none, 0, 2, 2), (9, ⟨"FireDrill$Suspects", "takeSeen", "(LFireDrill$Text;I)Z"⟩, prog_11_method_2_code, 5, (some .boolean), 2, 1, 3)]
def ax_T2 : List ax_I := [(9, ⟨"FireDrill$Suspects", "isMinute", "(I)Z"⟩, prog_11_method_3_code, 1, (some .boolean), 1, 0, 3), (9, ⟨"FireDrill$Suspects", "gather", "(LFireDrill$House;LFireDrill$State;LFireDrill$Drill;)V"⟩, prog_11_method_4_code, 6, none, 3, 1, 2), (9, ⟨"FireDrill$Suspects", "isAsSeen", "([I)Z"⟩, prog_11_method_5_code, 3, (some .boolean), 1, 1, 3), (9, ⟨"FireDrill$Suspects", "bits", "()I"⟩, prog_11_method_6_code, 3, (some .int), 0, 1, 0), (9, ⟨"FireDrill$Suspects", "choose", "(I)V"⟩, prog_11_method_7_code, 4, none, 1, 1, 2), (9, ⟨"FireDrill$Suspects", "mostLeft", "(I)I"⟩, prog_11_method_8_code, 6, (some .int), 1, 1, 0), (10, ⟨"FireDrill$Text", "<init>", "()V"⟩, prog_12_method_1_code, 1, none, 0, 2, 2), (10, ⟨"FireDrill$Text", "add", "(I)V"⟩, prog_12_method_2_code, 3, none, 1, 1, 2), (10, ⟨"FireDrill$Text", "open", "()V"⟩, prog_12_method_3_code, 1, none, 0, 1, 2), (10, ⟨"FireDrill$Text", "fail", "(II)Z"⟩, prog_12_method_4_code, 3, (some .boolean), 2, 1, 3), (10, ⟨"FireDrill$Text", "step", "()V"⟩, prog_12_method_5_code, 5, none, 0, 1, 2), (10, ⟨"FireDrill$Text", "kindAt", "(I)I"⟩, prog_12_method_6_code, 3, (some .int), 1, 1, 0), (10, ⟨"FireDrill$Text", "placeIn", "(Ljava/lang/String;)I"⟩, prog_12_method_7_code, 8, (some .int), 1, 1, 0), (10, ⟨"FireDrill$Text", "isWord", "(Ljava/lang/String;)Z"⟩, prog_12_method_8_code, 2, (some .boolean), 1, 1, 3), (10, ⟨"FireDrill$Text", "isSign", "(C)Z"⟩, prog_12_method_9_code, 2, (some .boolean), 1, 1, 3), (10, ⟨"FireDrill$Text", "takeWord", "(Ljava/lang/String;)Z"⟩, prog_12_method_10_code, 2, (some .boolean), 1, 1, 3), (10, ⟨"FireDrill$Text", "takeSign", "(C)Z"⟩, prog_12_method_11_code, 2, (some .boolean), 1, 1, 3), (10, ⟨"FireDrill$Text", "takeNumber", "(II)Z"⟩, prog_12_method_12_code, 4, (some .boolean), 2, 1, 3), (10, ⟨"FireDrill$Text", "takeName", "()Z"⟩, prog_12_method_13_code, 2, (some .boolean), 0, 1, 3), (11, ⟨"FireDrill", "<init>", "()V"⟩, prog_1_method_1_code, 1, none, 0, 2, 2), (11, ⟨"FireDrill", "feed", "(IIIII)I"⟩, prog_1_method_2_code, 6, (some .int), 5, 1, 0), (11, ⟨"FireDrill", "end", "(I)Z"⟩, prog_1_method_3_code, 2, (some .boolean), 1, 1, 3), (11, ⟨"FireDrill", "house", "()I"⟩, prog_1_method_4_code, 3, (some .int), 0, 1, 0), (11, ⟨"FireDrill", "fault", "(I)I"⟩, prog_1_method_5_code, 2, (some .int), 1, 1, 0), (11, ⟨"FireDrill", "has", "(I)I"⟩, prog_1_method_6_code, 2, (some .int), 1, 1, 0), (11, ⟨"FireDrill", "letter", "(III)I"⟩, prog_1_method_7_code, 4, (some .int), 3, 1, 0), (11, ⟨"FireDrill", "far", "(I)I"⟩, prog_1_method_8_code, 2, (some .int), 1, 1, 0), (11, ⟨"FireDrill", "stair", "(II)I"⟩, prog_1_method_9_code, 3, (some .int), 2, 1, 0), (11, ⟨"FireDrill", "section", "(II)I"⟩, prog_1_method_10_code, 3, (some .int), 2, 1, 0), (11, ⟨"FireDrill", "clerk", "(II)I"⟩, prog_1_method_11_code, 3, (some .int), 2, 1, 0), (11, ⟨"FireDrill", "signed", "(II)I"⟩, prog_1_method_12_code, 3, (some .int), 2, 1, 0), (11, ⟨"FireDrill", "out", "(I)I"⟩, prog_1_method_13_code, 2, (some .int), 1, 1, 0), (11, ⟨"FireDrill", "back", "(I)I"⟩, prog_1_method_14_code, 2, (some .int), 1, 1, 0), (11, ⟨"FireDrill", "where", "(II)I"⟩, prog_1_method_15_code, 3, (some .int), 2, 1, 0), (11, ⟨"FireDrill", "meets", "(II)I"⟩, prog_1_method_16_code, 3, (some .int), 2, 1, 0), (11, ⟨"FireDrill", "empty", "()I"⟩, prog_1_method_17_code, 1, (some .int), 0, 1, 0), (11, ⟨"FireDrill", "signs", "()I"⟩, prog_1_method_18_code, 1, (some .int), 0, 1, 0), (11, ⟨"FireDrill", "posts", "(I)I"⟩, prog_1_method_19_code, 2, (some .int), 1, 1, 0), (11, ⟨"FireDrill", "wider", "()I"⟩, prog_1_method_20_code, 4, (some .int), 0, 1, 0), (11, ⟨"FireDrill", "wardens", "()I"⟩, prog_1_method_21_code, 3, (some .int), 0, 1, 0)]
def ax_T3 : List ax_I := [(11, ⟨"FireDrill", "dear", "(II)J"⟩, prog_1_method_22_code, 3, (some .long), 2, 1, 1), (11, ⟨"FireDrill", "couples", "()J"⟩, prog_1_method_23_code, 1, (some .long), 0, 1, 1), (11, ⟨"FireDrill", "with", "(I)I"⟩, prog_1_method_24_code, 2, (some .int), 1, 1, 0), (11, ⟨"FireDrill", "later", "(I)I"⟩, prog_1_method_25_code, 3, (some .int), 1, 1, 0), (11, ⟨"FireDrill", "see", "()I"⟩, prog_1_method_26_code, 2, (some .int), 0, 1, 0), (11, ⟨"FireDrill", "shuts", "(I)I"⟩, prog_1_method_27_code, 2, (some .int), 1, 1, 0), (11, ⟨"FireDrill", "whom", "(I)I"⟩, prog_1_method_28_code, 2, (some .int), 1, 1, 0), (11, ⟨"FireDrill", "post", "(II)Z"⟩, prog_1_method_29_code, 3, (some .boolean), 2, 1, 3), (11, ⟨"FireDrill", "shut", "(II)Z"⟩, prog_1_method_30_code, 3, (some .boolean), 2, 1, 3), (11, ⟨"FireDrill", "drills", "(I)I"⟩, prog_1_method_31_code, 2, (some .int), 1, 1, 0), (11, ⟨"FireDrill", "chance", "(I)I"⟩, prog_1_method_32_code, 5, (some .int), 1, 1, 0), (11, ⟨"FireDrill", "undo", "()Z"⟩, prog_1_method_33_code, 1, (some .boolean), 0, 1, 3), (11, ⟨"FireDrill", "seed", "(I)Z"⟩, prog_1_method_34_code, 2, (some .boolean), 1, 1, 3), (11, ⟨"FireDrill", "ask", "()J"⟩, prog_1_method_35_code, 2, (some .long), 0, 1, 1), (11, ⟨"FireDrill", "image", "()I"⟩, prog_1_method_36_code, 1, (some .int), 0, 1, 0), (11, ⟨"FireDrill", "octet", "(I)I"⟩, prog_1_method_37_code, 2, (some .int), 1, 1, 0), (11, ⟨"FireDrill", "on", "()Z"⟩, prog_1_method_38_code, 2, (some .boolean), 0, 1, 3), (11, ⟨"FireDrill", "status", "(I)I"⟩, prog_1_method_39_code, 2, (some .int), 1, 1, 0), (11, ⟨"FireDrill", "refuse", "(I)I"⟩, prog_1_method_40_code, 2, (some .int), 1, 1, 0), (11, ⟨"FireDrill", "deny", "(I)Z"⟩, prog_1_method_41_code, 2, (some .boolean), 1, 1, 3), (11, ⟨"FireDrill", "isIn", "(II)Z"⟩, prog_1_method_42_code, 2, (some .boolean), 2, 0, 3), (11, ⟨"FireDrill", "areTwo", "(II)Z"⟩, prog_1_method_43_code, 3, (some .boolean), 2, 1, 3), (11, ⟨"FireDrill", "letterOf", "(II)I"⟩, prog_1_method_44_code, 2, (some .int), 2, 0, 0), (11, ⟨"FireDrill", "runThisDrill", "()V"⟩, prog_1_method_45_code, 1, none, 0, 1, 2), (11, ⟨"FireDrill", "touchesAll", "(I)Z"⟩, prog_1_method_46_code, 4, (some .boolean), 1, 1, 3), (11, ⟨"FireDrill", "mayCome", "(I)Z"⟩, prog_1_method_47_code, 2, (some .boolean), 1, 1, 3), (11, ⟨"FireDrill", "holdDrills", "(I)I"⟩, prog_1_method_48_code, 4, (some .int), 1, 1, 0), (11, ⟨"FireDrill", "draw", "(I)I"⟩, prog_1_method_49_code, 4, (some .int), 1, 1, 0), (11, ⟨"FireDrill", "readQuestion", "()I"⟩, prog_1_method_50_code, 3, (some .int), 0, 1, 0), (11, ⟨"FireDrill", "valueFor", "(I)I"⟩, prog_1_method_51_code, 2, (some .int), 1, 1, 0), (11, ⟨"FireDrill", "answerTest", "(I)J"⟩, prog_1_method_52_code, 6, (some .long), 1, 1, 1), (11, ⟨"FireDrill", "answerSum", "(I)J"⟩, prog_1_method_53_code, 11, (some .long), 1, 1, 1), (12, ⟨"FireDrillModel", "<init>", "()V"⟩, prog_14_method_1_code, 1, none, 0, 2, 2), (12, ⟨"FireDrillModel", "isIn", "(JJJ)Z"⟩, prog_14_method_2_code, 6, (some .boolean), 3, 0, 3), (12, ⟨"FireDrillModel", "feed", "(IIIII)I"⟩, prog_14_method_3_code, 8, (some .int), 5, 1, 0), (12, ⟨"FireDrillModel", "end", "(I)Z"⟩, prog_14_method_4_code, 2, (some .boolean), 1, 1, 3), (12, ⟨"FireDrillModel", "fail", "(II)V"⟩, prog_14_method_5_code, 3, none, 2, 1, 2), (12, ⟨"FireDrillModel", "isLetter", "(I)Z"⟩, prog_14_method_6_code, 1, (some .boolean), 1, 0, 3), (12, ⟨"FireDrillModel", "isDigit", "(I)Z"⟩, prog_14_method_7_code, 1, (some .boolean), 1, 0, 3), (12, ⟨"FireDrillModel", "look", "()I"⟩, prog_14_method_8_code, 1, (some .int), 0, 1, 0)]
def ax_T4 : List ax_I := [(12, ⟨"FireDrillModel", "isHere", "([C)Z"⟩, prog_14_method_9_code, 4, (some .boolean), 1, 1, 3), (12, ⟨"FireDrillModel", "takes", "([C)Z"⟩, prog_14_method_10_code, 2, (some .boolean), 1, 1, 3), (12, ⟨"FireDrillModel", "asks", "([C)V"⟩, prog_14_method_11_code, 2, none, 1, 1, 2), (12, ⟨"FireDrillModel", "takesSign", "(I)Z"⟩, prog_14_method_12_code, 2, (some .boolean), 1, 1, 3), (12, ⟨"FireDrillModel", "asksSign", "(I)V"⟩, prog_14_method_13_code, 2, none, 1, 1, 2), (12, ⟨"FireDrillModel", "number", "(II)I"⟩, prog_14_method_14_code, 5, (some .int), 2, 1, 0), (12, ⟨"FireDrillModel", "isOwnHere", "()Z"⟩, prog_14_method_15_code, 2, (some .boolean), 0, 1, 3), (12, ⟨"FireDrillModel", "name", "()J"⟩, prog_14_method_16_code, 3, (some .long), 0, 1, 1), (12, ⟨"FireDrillModel", "isAllowed", "(I)Z"⟩, prog_14_method_17_code, 2, (some .boolean), 1, 1, 3), (12, ⟨"FireDrillModel", "isFull", "(III)Z"⟩, prog_14_method_18_code, 4, (some .boolean), 3, 1, 3), (12, ⟨"FireDrillModel", "nameOf", "(IJ)I"⟩, prog_14_method_19_code, 5, (some .int), 2, 1, 0), (12, ⟨"FireDrillModel", "newName", "()J"⟩, prog_14_method_20_code, 4, (some .long), 0, 1, 1), (12, ⟨"FireDrillModel", "oneOf", "(I)I"⟩, prog_14_method_21_code, 5, (some .int), 1, 1, 0), (12, ⟨"FireDrillModel", "adds", "(IJ)I"⟩, prog_14_method_22_code, 4, (some .int), 2, 1, 0), (12, ⟨"FireDrillModel", "roomTold", "(I)V"⟩, prog_14_method_23_code, 4, none, 1, 1, 2), (12, ⟨"FireDrillModel", "stairTold", "(I)V"⟩, prog_14_method_24_code, 7, none, 1, 1, 2), (12, ⟨"FireDrillModel", "sectionTold", "(I)V"⟩, prog_14_method_25_code, 5, none, 1, 1, 2), (12, ⟨"FireDrillModel", "clerkTold", "(I)V"⟩, prog_14_method_26_code, 9, none, 1, 1, 2), (12, ⟨"FireDrillModel", "codesTold", "(II)V"⟩, prog_14_method_27_code, 4, none, 2, 1, 2), (12, ⟨"FireDrillModel", "statementTold", "()V"⟩, prog_14_method_28_code, 2, none, 0, 1, 2), (12, ⟨"FireDrillModel", "house", "()I"⟩, prog_14_method_29_code, 2, (some .int), 0, 1, 0), (12, ⟨"FireDrillModel", "stands", "()V"⟩, prog_14_method_30_code, 2, none, 0, 1, 2), (12, ⟨"FireDrillModel", "fault", "(I)I"⟩, prog_14_method_31_code, 2, (some .int), 1, 1, 0), (12, ⟨"FireDrillModel", "roomMany", "()I"⟩, prog_14_method_32_code, 1, (some .int), 0, 1, 0), (12, ⟨"FireDrillModel", "stairMany", "()I"⟩, prog_14_method_33_code, 1, (some .int), 0, 1, 0), (12, ⟨"FireDrillModel", "sectionMany", "()I"⟩, prog_14_method_34_code, 1, (some .int), 0, 1, 0), (12, ⟨"FireDrillModel", "clerkMany", "()I"⟩, prog_14_method_35_code, 1, (some .int), 0, 1, 0), (12, ⟨"FireDrillModel", "isStair", "(I)Z"⟩, prog_14_method_36_code, 2, (some .boolean), 1, 1, 3), (12, ⟨"FireDrillModel", "isSection", "(I)Z"⟩, prog_14_method_37_code, 2, (some .boolean), 1, 1, 3), (12, ⟨"FireDrillModel", "isClerk", "(I)Z"⟩, prog_14_method_38_code, 2, (some .boolean), 1, 1, 3), (12, ⟨"FireDrillModel", "homeOf", "(I)I"⟩, prog_14_method_39_code, 2, (some .int), 1, 1, 0), (12, ⟨"FireDrillModel", "sectionOf", "(I)I"⟩, prog_14_method_40_code, 2, (some .int), 1, 1, 0), (12, ⟨"FireDrillModel", "isShut", "(I)Z"⟩, prog_14_method_41_code, 2, (some .boolean), 1, 1, 3), (12, ⟨"FireDrillModel", "pairAt", "(II)I"⟩, prog_14_method_42_code, 4, (some .int), 2, 0, 0), (12, ⟨"FireDrillModel", "signedBy", "(I)I"⟩, prog_14_method_43_code, 4, (some .int), 1, 1, 0), (12, ⟨"FireDrillModel", "signedAll", "()I"⟩, prog_14_method_44_code, 3, (some .int), 0, 1, 0), (12, ⟨"FireDrillModel", "codesTell", "(II)J"⟩, prog_14_method_45_code, 5, (some .long), 2, 1, 1), (12, ⟨"FireDrillModel", "isClosed", "(I)Z"⟩, prog_14_method_46_code, 2, (some .boolean), 1, 1, 3), (12, ⟨"FireDrillModel", "laysFars", "()V"⟩, prog_14_method_47_code, 5, none, 0, 1, 2), (12, ⟨"FireDrillModel", "stairBetween", "(II)I"⟩, prog_14_method_48_code, 6, (some .int), 2, 1, 0)]
def ax_T5 : List ax_I := [(12, ⟨"FireDrillModel", "isPassable", "(I)Z"⟩, prog_14_method_49_code, 2, (some .boolean), 1, 1, 3), (12, ⟨"FireDrillModel", "goesStair", "(I)Z"⟩, prog_14_method_50_code, 5, (some .boolean), 1, 1, 3), (12, ⟨"FireDrillModel", "isOnLawn", "(I)Z"⟩, prog_14_method_51_code, 2, (some .boolean), 1, 1, 3), (12, ⟨"FireDrillModel", "crowdBut", "(I)I"⟩, prog_14_method_52_code, 4, (some .int), 1, 1, 0), (12, ⟨"FireDrillModel", "minuteOf", "(II)V"⟩, prog_14_method_53_code, 5, none, 2, 1, 2), (12, ⟨"FireDrillModel", "areAllOut", "()Z"⟩, prog_14_method_54_code, 2, (some .boolean), 0, 1, 3), (12, ⟨"FireDrillModel", "meetBehind", "()V"⟩, prog_14_method_55_code, 4, none, 0, 1, 2), (12, ⟨"FireDrillModel", "drillGoes", "()V"⟩, prog_14_method_56_code, 3, none, 0, 1, 2), (12, ⟨"FireDrillModel", "drillNow", "()V"⟩, prog_14_method_57_code, 2, none, 0, 1, 2), (12, ⟨"FireDrillModel", "doSign", "(II)Z"⟩, prog_14_method_58_code, 3, (some .boolean), 2, 1, 3), (12, ⟨"FireDrillModel", "signMany", "()I"⟩, prog_14_method_59_code, 4, (some .int), 0, 1, 0), (12, ⟨"FireDrillModel", "drillEnds", "()I"⟩, prog_14_method_60_code, 3, (some .int), 0, 1, 0), (12, ⟨"FireDrillModel", "drillsGo", "(I)I"⟩, prog_14_method_61_code, 4, (some .int), 1, 1, 0), (12, ⟨"FireDrillModel", "putsAside", "()V"⟩, prog_14_method_62_code, 2, none, 0, 1, 2), (12, ⟨"FireDrillModel", "takesBack", "()V"⟩, prog_14_method_63_code, 2, none, 0, 1, 2), (12, ⟨"FireDrillModel", "isAhead", "(III)Z"⟩, prog_14_method_64_code, 4, (some .boolean), 3, 1, 3), (12, ⟨"FireDrillModel", "shutMany", "()I"⟩, prog_14_method_65_code, 3, (some .int), 0, 1, 0), (12, ⟨"FireDrillModel", "has", "(I)I"⟩, prog_14_method_66_code, 2, (some .int), 1, 1, 0), (12, ⟨"FireDrillModel", "letter", "(III)I"⟩, prog_14_method_67_code, 9, (some .int), 3, 1, 0), (12, ⟨"FireDrillModel", "far", "(I)I"⟩, prog_14_method_68_code, 2, (some .int), 1, 1, 0), (12, ⟨"FireDrillModel", "stair", "(II)I"⟩, prog_14_method_69_code, 3, (some .int), 2, 1, 0), (12, ⟨"FireDrillModel", "section", "(II)I"⟩, prog_14_method_70_code, 5, (some .int), 2, 1, 0), (12, ⟨"FireDrillModel", "clerk", "(II)I"⟩, prog_14_method_71_code, 3, (some .int), 2, 1, 0), (12, ⟨"FireDrillModel", "areTwo", "(II)Z"⟩, prog_14_method_72_code, 3, (some .boolean), 2, 1, 3), (12, ⟨"FireDrillModel", "signed", "(II)I"⟩, prog_14_method_73_code, 3, (some .int), 2, 1, 0), (12, ⟨"FireDrillModel", "out", "(I)I"⟩, prog_14_method_74_code, 2, (some .int), 1, 1, 0), (12, ⟨"FireDrillModel", "back", "(I)I"⟩, prog_14_method_75_code, 2, (some .int), 1, 1, 0), (12, ⟨"FireDrillModel", "where", "(II)I"⟩, prog_14_method_76_code, 3, (some .int), 2, 1, 0), (12, ⟨"FireDrillModel", "meets", "(II)I"⟩, prog_14_method_77_code, 3, (some .int), 2, 1, 0), (12, ⟨"FireDrillModel", "empty", "()I"⟩, prog_14_method_78_code, 1, (some .int), 0, 1, 0), (12, ⟨"FireDrillModel", "signs", "()I"⟩, prog_14_method_79_code, 1, (some .int), 0, 1, 0), (12, ⟨"FireDrillModel", "isNextRow", "()Z"⟩, prog_14_method_80_code, 7, (some .boolean), 0, 1, 3), (12, ⟨"FireDrillModel", "posts", "(I)I"⟩, prog_14_method_81_code, 6, (some .int), 1, 1, 0), (12, ⟨"FireDrillModel", "wider", "()I"⟩, prog_14_method_82_code, 4, (some .int), 0, 1, 0), (12, ⟨"FireDrillModel", "bits", "(I)I"⟩, prog_14_method_83_code, 3, (some .int), 1, 0, 0), (12, ⟨"FireDrillModel", "doTouch", "(I)Z"⟩, prog_14_method_84_code, 3, (some .boolean), 1, 1, 3), (12, ⟨"FireDrillModel", "wardens", "()I"⟩, prog_14_method_85_code, 3, (some .int), 0, 1, 0), (12, ⟨"FireDrillModel", "dearTo", "(II)J"⟩, prog_14_method_86_code, 3, (some .long), 2, 1, 1), (12, ⟨"FireDrillModel", "dearOf", "(II)J"⟩, prog_14_method_87_code, 3, (some .long), 2, 1, 1), (12, ⟨"FireDrillModel", "dear", "(II)J"⟩, prog_14_method_88_code, 3, (some .long), 2, 1, 1)]
def ax_T6 : List ax_I := [(12, ⟨"FireDrillModel", "firstIn", "(I)I"⟩, prog_14_method_89_code, 2, (some .int), 1, 0, 0), (12, ⟨"FireDrillModel", "canPair", "(II)Z"⟩, prog_14_method_90_code, 3, (some .boolean), 2, 1, 3), (12, ⟨"FireDrillModel", "laysCouples", "()V"⟩, prog_14_method_91_code, 8, none, 0, 1, 2), (12, ⟨"FireDrillModel", "matesOf", "(IIJ)I"⟩, prog_14_method_92_code, 6, (some .int), 3, 1, 0), (12, ⟨"FireDrillModel", "couples", "()J"⟩, prog_14_method_93_code, 1, (some .long), 0, 1, 1), (12, ⟨"FireDrillModel", "with", "(I)I"⟩, prog_14_method_94_code, 2, (some .int), 1, 1, 0), (12, ⟨"FireDrillModel", "later", "(I)I"⟩, prog_14_method_95_code, 3, (some .int), 1, 1, 0), (12, ⟨"FireDrillModel", "refuses", "(I)I"⟩, prog_14_method_96_code, 2, (some .int), 1, 1, 0), (12, ⟨"FireDrillModel", "see", "()I"⟩, prog_14_method_97_code, 4, (some .int), 0, 1, 0), (12, ⟨"FireDrillModel", "isAsSeen", "()Z"⟩, prog_14_method_98_code, 2, (some .boolean), 0, 1, 3), (12, ⟨"FireDrillModel", "laysFits", "()V"⟩, prog_14_method_99_code, 3, none, 0, 1, 2), (12, ⟨"FireDrillModel", "shuts", "(I)I"⟩, prog_14_method_100_code, 4, (some .int), 1, 1, 0), (12, ⟨"FireDrillModel", "alike", "(II)I"⟩, prog_14_method_101_code, 5, (some .int), 2, 1, 0), (12, ⟨"FireDrillModel", "whom", "(I)I"⟩, prog_14_method_102_code, 7, (some .int), 1, 1, 0), (12, ⟨"FireDrillModel", "keeps", "()V"⟩, prog_14_method_103_code, 2, none, 0, 1, 2), (12, ⟨"FireDrillModel", "undo", "()Z"⟩, prog_14_method_104_code, 2, (some .boolean), 0, 1, 3), (12, ⟨"FireDrillModel", "isRefused", "()Z"⟩, prog_14_method_105_code, 1, (some .boolean), 0, 1, 3), (12, ⟨"FireDrillModel", "post", "(II)Z"⟩, prog_14_method_106_code, 3, (some .boolean), 2, 1, 3), (12, ⟨"FireDrillModel", "shut", "(II)Z"⟩, prog_14_method_107_code, 3, (some .boolean), 2, 1, 3), (12, ⟨"FireDrillModel", "drills", "(I)I"⟩, prog_14_method_108_code, 2, (some .int), 1, 1, 0), (12, ⟨"FireDrillModel", "seed", "(I)Z"⟩, prog_14_method_109_code, 2, (some .boolean), 1, 1, 3), (12, ⟨"FireDrillModel", "drawOf", "(I)I"⟩, prog_14_method_110_code, 2, (some .int), 1, 1, 0), (12, ⟨"FireDrillModel", "chance", "(I)I"⟩, prog_14_method_111_code, 4, (some .int), 1, 1, 0), (12, ⟨"FireDrillModel", "qCode", "(I)V"⟩, prog_14_method_112_code, 2, none, 1, 1, 2), (12, ⟨"FireDrillModel", "qOpens", "(II)V"⟩, prog_14_method_113_code, 3, none, 2, 1, 2), (12, ⟨"FireDrillModel", "qIsOn", "(I)Z"⟩, prog_14_method_114_code, 2, (some .boolean), 1, 1, 3), (12, ⟨"FireDrillModel", "qDrops", "()V"⟩, prog_14_method_115_code, 1, none, 0, 1, 2), (12, ⟨"FireDrillModel", "qIsBracket", "(I)Z"⟩, prog_14_method_116_code, 1, (some .boolean), 1, 0, 3), (12, ⟨"FireDrillModel", "qBracket", "()I"⟩, prog_14_method_117_code, 2, (some .int), 0, 1, 0), (12, ⟨"FireDrillModel", "qDropsToBracket", "()V"⟩, prog_14_method_118_code, 1, none, 0, 1, 2), (12, ⟨"FireDrillModel", "qWordHere", "()I"⟩, prog_14_method_119_code, 1, (some .int), 0, 1, 0), (12, ⟨"FireDrillModel", "qWordOf", "(II)I"⟩, prog_14_method_120_code, 4, (some .int), 2, 1, 0), (12, ⟨"FireDrillModel", "qAsksWord", "(I)V"⟩, prog_14_method_121_code, 2, none, 1, 1, 2), (12, ⟨"FireDrillModel", "qEndsPart", "()V"⟩, prog_14_method_122_code, 1, none, 0, 1, 2), (12, ⟨"FireDrillModel", "qPartTold", "()V"⟩, prog_14_method_123_code, 6, none, 0, 1, 2), (12, ⟨"FireDrillModel", "qGoesOn", "()Z"⟩, prog_14_method_124_code, 2, (some .boolean), 0, 1, 3), (12, ⟨"FireDrillModel", "qSums", "()V"⟩, prog_14_method_125_code, 3, none, 0, 1, 2), (12, ⟨"FireDrillModel", "qFact", "()V"⟩, prog_14_method_126_code, 2, none, 0, 1, 2), (12, ⟨"FireDrillModel", "qHasSquare", "()Z"⟩, prog_14_method_127_code, 2, (some .boolean), 0, 1, 3), (12, ⟨"FireDrillModel", "qDropsNots", "()V"⟩, prog_14_method_128_code, 1, none, 0, 1, 2)]
def ax_T7 : List ax_I := [(12, ⟨"FireDrillModel", "qTest", "()V"⟩, prog_14_method_129_code, 3, none, 0, 1, 2), (12, ⟨"FireDrillModel", "qGoesOnTest", "()Z"⟩, prog_14_method_130_code, 1, (some .boolean), 0, 1, 3), (12, ⟨"FireDrillModel", "qClip", "(J)J"⟩, prog_14_method_131_code, 2, (some .long), 1, 0, 1), (12, ⟨"FireDrillModel", "qFloor", "(JJ)J"⟩, prog_14_method_132_code, 6, (some .long), 2, 0, 1), (12, ⟨"FireDrillModel", "qPuts", "(J)V"⟩, prog_14_method_133_code, 3, none, 1, 1, 2), (12, ⟨"FireDrillModel", "qJoins", "(I)V"⟩, prog_14_method_134_code, 6, none, 1, 1, 2), (12, ⟨"FireDrillModel", "qPartOf", "(II)J"⟩, prog_14_method_135_code, 3, (some .long), 2, 1, 1), (12, ⟨"FireDrillModel", "qOf", "(IJI)J"⟩, prog_14_method_136_code, 5, (some .long), 3, 1, 1), (12, ⟨"FireDrillModel", "qTold", "(I)J"⟩, prog_14_method_137_code, 4, (some .long), 1, 1, 1), (12, ⟨"FireDrillModel", "qKind", "()I"⟩, prog_14_method_138_code, 2, (some .int), 0, 1, 0), (12, ⟨"FireDrillModel", "qTakes", "(IJI)V"⟩, prog_14_method_139_code, 6, none, 3, 1, 2), (12, ⟨"FireDrillModel", "ask", "()J"⟩, prog_14_method_140_code, 3, (some .long), 0, 1, 1), (12, ⟨"FireDrillModel", "checked", "([II)I"⟩, prog_14_method_141_code, 4, (some .int), 2, 0, 0), (12, ⟨"FireDrillModel", "writes", "(I)V"⟩, prog_14_method_142_code, 2, none, 1, 1, 2), (12, ⟨"FireDrillModel", "writesTwo", "(I)V"⟩, prog_14_method_143_code, 2, none, 1, 1, 2), (12, ⟨"FireDrillModel", "image", "()I"⟩, prog_14_method_144_code, 3, (some .int), 0, 1, 0), (12, ⟨"FireDrillModel", "octet", "(I)I"⟩, prog_14_method_145_code, 2, (some .int), 1, 1, 0), (12, ⟨"FireDrillModel", "twoAt", "(I)I"⟩, prog_14_method_146_code, 2, (some .int), 1, 1, 0), (12, ⟨"FireDrillModel", "isImage", "(I)Z"⟩, prog_14_method_147_code, 5, (some .boolean), 1, 1, 3), (12, ⟨"FireDrillModel", "on", "()Z"⟩, prog_14_method_148_code, 5, (some .boolean), 0, 1, 3), (12, ⟨"FireDrillModel", "status", "(I)I"⟩, prog_14_method_149_code, 2, (some .int), 1, 1, 0), (17, ⟨"java/lang/Integer", "bitCount", "(I)I"⟩, prog_15_method_49_code, 1, (some .int), 1, 0, 0), (18, ⟨"java/lang/Math", "floorDiv", "(II)I"⟩, prog_16_method_47_code, 3, (some .int), 2, 0, 0), (18, ⟨"java/lang/Math", "abs", "(I)I"⟩, prog_16_method_59_code, 1, (some .int), 1, 0, 0), (18, ⟨"java/lang/Math", "max", "(II)I"⟩, prog_16_method_65_code, 2, (some .int), 2, 0, 0), (18, ⟨"java/lang/Math", "max", "(JJ)J"⟩, prog_16_method_66_code, 4, (some .long), 2, 0, 1), (18, ⟨"java/lang/Math", "min", "(II)I"⟩, prog_16_method_69_code, 2, (some .int), 2, 0, 0), (18, ⟨"java/lang/Math", "min", "(JJ)J"⟩, prog_16_method_70_code, 4, (some .long), 2, 0, 1), (14, ⟨"java/lang/String", "length", "()I"⟩, prog_17_method_54_code, 1, (some .int), 0, 1, 0), (14, ⟨"java/lang/String", "charAt", "(I)C"⟩, prog_17_method_56_code, 2, (some .char), 1, 1, 4), (14, ⟨"java/lang/String", "coder", "()B"⟩, prog_17_method_152_code, 1, (some .byte), 0, 1, 5), (14, ⟨"java/lang/String", "isLatin1", "()Z"⟩, prog_17_method_154_code, 1, (some .boolean), 0, 1, 3), (14, ⟨"java/lang/String", "checkIndex", "(II)V"⟩, prog_17_method_155_code, 2, none, 2, 0, 2), (15, ⟨"java/lang/StringLatin1", "charAt", "([BI)C"⟩, prog_18_method_2_code, 2, (some .char), 2, 0, 4), (16, ⟨"jdk/internal/util/Preconditions", "checkIndex", "(IILjava/util/function/BiFunction;)I"⟩, prog_21_method_11_code, 3, (some .int), 3, 0, 0), (13, ⟨"FireDrillLaw", "law", "([I)Z"⟩, code, 4, (some .boolean), 1, 0, 3)]
def ax_T : List ax_I := ax_T0 ++ ax_T1 ++ ax_T2 ++ ax_T3 ++ ax_T4 ++ ax_T5 ++ ax_T6 ++ ax_T7
/-- links of a class: kind, place, what -/
def ax_K0 : List (Nat × Nat × Nat × Int) := [(11,3,0,0), (4,9,0,0), (4,15,0,2), (7,18,1,0), (4,20,0,3), (4,23,4,3), (4,29,1,5), (8,35,17,0), (1,39,0,(-1000000000000000)), (1,41,0,(-1)), (4,43,0,1), (8,47,2,0), (10,51,0,0)]
def ax_K1 : List (Nat × Nat × Nat × Int) := [(11,3,0,0), (4,9,1,0), (4,15,1,1), (4,18,1,2), (7,21,0,0), (4,23,1,3), (4,26,1,4), (4,29,1,5), (4,32,1,7), (4,35,1,8), (4,38,1,9), (4,41,1,10), (8,44,5,0), (8,48,7,0), (8,52,9,0), (4,56,1,6), (8,60,10,0), (8,64,14,0), (4,68,4,1), (4,73,8,2), (4,78,4,9), (4,81,4,7), (4,84,4,8), (8,87,6,0), (4,91,4,3), (4,94,4,11), (8,97,8,0), (10,101,0,0), (4,107,8,0), (8,110,11,0), (8,114,12,0), (4,118,4,13), (4,121,4,14), (4,124,4,15), (8,127,60,0), (8,133,13,0), (8,137,38,0), (8,141,15,0), (4,145,4,17), (4,148,8,1), (4,151,4,12), (8,154,303,0), (4,160,4,18), (8,163,18,0), (4,167,4,16)]
def ax_K2 : List (Nat × Nat × Nat × Int) := [(11,3,0,0), (2,9,0,(-10)), (4,11,2,2), (4,17,2,0), (4,21,2,1), (4,25,2,3), (8,29,22,0), (2,33,0,(-44)), (8,35,93,0), (8,41,90,0), (8,46,59,0), (8,50,23,0), (2,53,0,(-42)), (2,55,0,(-32)), (8,57,29,0), (8,60,94,0), (8,64,21,0), (8,67,96,0), (2,70,0,(-34)), (8,72,25,0), (8,75,24,0), (4,79,10,3), (8,83,89,0), (8,87,26,0), (8,90,27,0), (4,93,10,2), (8,96,97,0), (4,99,10,6), (2,102,0,(-36)), (2,104,0,(-38)), (8,106,28,0), (2,109,0,(-40)), (8,111,92,0)]
def ax_K3 : List (Nat × Nat × Nat × Int) := [(11,1,0,0), (7,11,0,0), (4,13,3,0), (4,16,3,1), (8,20,71,0), (4,24,3,2), (8,27,306,0), (8,33,72,0)]
def ax_K4 : List (Nat × Nat × Nat × Int) := [(11,3,0,0), (4,9,4,4), (4,15,4,5), (4,18,4,6), (4,21,4,7), (4,24,4,8), (4,27,4,9), (4,30,4,10), (4,33,4,11), (4,36,4,12), (4,39,4,13), (4,42,4,14), (6,45,7,0), (9,47,58,0), (4,48,4,15), (4,52,4,16), (8,55,34,0), (4,58,4,0), (4,62,4,1), (4,65,4,2), (4,68,4,3), (4,71,7,1), (8,74,59,0), (4,78,4,17), (4,81,4,18), (4,84,4,19), (8,87,35,0), (8,91,38,0)]
def ax_K5 : List (Nat × Nat × Nat × Int) := [(11,3,0,0), (4,11,5,2), (4,15,5,0), (4,19,5,1), (8,23,34,0), (8,28,88,0), (4,33,10,2), (8,37,42,0), (8,41,96,0), (4,45,10,3), (8,48,89,0), (2,52,0,(-12)), (8,54,92,0), (3,58,0,(-3)), (8,61,90,0), (8,64,46,0), (8,67,47,0), (8,70,48,0), (8,73,49,0), (4,76,4,15), (2,80,0,(-30)), (8,82,20,0), (8,88,21,0), (4,92,4,16), (4,95,7,1), (2,100,0,(-46)), (8,102,25,0), (8,105,50,0), (8,108,51,0), (8,111,52,0), (8,114,98,0), (4,118,10,7), (8,121,36,0), (4,124,10,5), (8,127,35,0), (8,131,95,0), (8,135,97,0), (8,138,43,0), (4,141,4,0), (4,144,4,4), (8,147,44,0), (2,151,0,(-16)), (8,153,37,0), (2,156,0,(-18)), (8,158,45,0), (4,162,4,1), (4,165,4,7), (4,168,4,8), (4,171,4,9), (4,174,10,6), (2,177,0,(-20)), (4,179,4,2), (4,182,4,5), (4,185,4,10), (4,188,4,3), (4,191,4,6), (2,194,0,(-22)), (2,196,0,(-24)), (2,198,0,(-26)), (4,200,4,13), (2,203,0,(-28)), (4,205,4,14), (4,208,4,11), (4,211,4,12), (4,214,4,17), (4,217,4,18), (4,220,4,19)]
def ax_K6 : List (Nat × Nat × Nat × Int) := [(11,3,0,0), (4,9,6,0), (4,15,6,2), (4,18,6,1), (8,22,55,0), (4,26,4,2), (8,31,57,0), (8,35,56,0), (10,39,0,0), (4,45,4,3), (4,48,8,1), (4,53,4,12), (8,56,303,0), (4,62,4,17), (4,65,1,4), (4,71,4,18)]
def ax_K7 : List (Nat × Nat × Nat × Int) := [(11,3,0,0), (4,9,7,0), (4,15,7,2), (4,18,7,1), (8,22,61,0), (8,26,62,0), (8,30,63,0), (8,34,302,0), (8,40,306,0), (8,43,304,0), (1,46,0,1000000), (0,48,0,1000000), (1,49,0,(-1000000)), (0,51,0,(-1000000))]
def ax_K8 : List (Nat × Nat × Nat × Int) := [(11,3,0,0), (4,9,8,1), (4,15,8,2), (4,18,8,3), (4,21,8,0), (4,25,4,2), (4,30,4,10), (8,33,306,0), (8,39,304,0), (8,42,66,0), (4,45,4,3), (4,48,1,5), (4,54,4,18), (10,57,0,0), (4,63,4,1), (8,66,74,0), (8,70,73,0), (4,74,10,0), (4,79,10,1)]
def ax_K9 : List (Nat × Nat × Nat × Int) := [(11,3,0,0), (4,11,9,1), (4,15,9,2), (4,18,9,3), (7,21,0,0), (4,23,9,4), (4,26,10,1), (4,32,10,0), (8,35,80,0), (4,39,9,0), (4,42,4,1), (4,47,8,2), (8,52,4,0), (4,58,1,1), (10,60,0,0), (8,66,82,0), (4,70,9,5), (4,73,9,6), (8,76,85,0), (8,80,304,0)]
def ax_K10 : List (Nat × Nat × Nat × Int) := [(11,3,0,0), (4,9,10,0), (4,15,10,9), (4,19,10,1), (4,22,10,2), (4,25,10,4), (4,28,10,8), (8,31,90,0), (4,34,10,3), (8,37,91,0), (8,41,308,0), (8,46,309,0), (8,50,92,0), (8,54,89,0), (8,58,94,0), (4,62,10,6), (2,65,0,(-14)), (4,67,10,7), (4,70,10,5)]
def ax_K11 : List (Nat × Nat × Nat × Int) := [(11,1,0,0), (6,7,10,0), (9,9,86,0), (4,10,11,0), (6,16,7,0), (9,18,58,0), (4,19,11,11), (6,23,2,0), (8,25,19,0), (4,28,11,1), (6,32,5,0), (8,34,40,0), (4,37,11,2), (6,41,4,0), (8,43,33,0), (4,44,11,3), (4,48,11,4), (6,51,8,0), (9,53,64,0), (4,54,11,5), (6,58,3,0), (9,60,30,0), (4,61,11,6), (6,65,1,0), (9,67,3,0), (4,68,11,7), (6,72,6,0), (9,74,53,0), (4,75,11,8), (6,79,0,0), (9,81,0,0), (4,82,11,9), (6,86,9,0), (9,88,78,0), (4,89,11,10), (4,93,11,12), (4,97,11,13), (4,100,11,15), (4,103,11,16), (4,107,11,17), (4,110,10,1), (8,113,138,0), (8,117,87,0), (8,121,139,0), (8,125,41,0), (8,129,65,0), (4,133,3,2), (4,136,9,0), (4,139,10,8), (4,142,10,9), (4,145,4,0), (4,148,4,1), (4,151,4,2), (4,154,4,3), (4,157,8,0), (8,160,67,0), (8,164,68,0), (8,167,140,0), (4,171,4,4), (8,174,142,0), (4,178,4,5), (4,181,4,6), (8,184,5,0), (4,188,1,0), (4,191,4,7), (4,194,4,8), (4,197,4,9), (4,200,8,2), (4,203,8,1), (8,206,39,0), (4,209,4,11), (4,212,4,12), (4,215,4,13), (4,218,4,14), (8,221,69,0), (8,224,141,0), (4,227,8,3), (8,230,66,0), (8,233,143,0), (4,236,1,1), (4,239,1,2), (4,242,1,3), (4,246,1,5), (4,249,1,6), (8,252,16,0), (8,255,54,0), (4,259,6,1), (4,262,6,0), (8,265,4,0), (8,268,301,0), (8,273,144,0), (1,276,0,(-1000000000000000)), (8,278,17,0), (8,282,1,0), (4,283,0,1), (4,286,0,0), (8,287,145,0), (8,290,71,0), (8,294,146,0), (8,297,72,0), (8,300,79,0), (8,304,81,0), (8,307,83,0), (4,310,9,3), (8,313,84,0), (4,316,9,5), (4,319,9,6), (8,322,31,0), (8,325,147,0), (4,328,4,19), (8,331,70,0), (8,335,32,0), (8,338,148,0), (8,341,150,0), (8,345,151,0), (8,348,75,0), (4,352,11,14), (8,355,76,0), (4,359,10,0), (8,362,77,0), (1,366,0,1103515245), (1,368,0,12345), (1,370,0,2147483647), (1,372,0,64), (8,374,88,0), (4,377,7,1), (2,380,0,(-48)), (8,382,20,0), (2,385,0,(-50)), (8,387,92,0), (4,391,10,3), (8,394,89,0), (8,397,90,0), (8,400,21,0), (8,403,25,0), (4,406,10,2), (8,409,60,0), (8,413,149,0), (8,415,305,0), (8,421,307,0)]
def ax_K12 : List (Nat × Nat × Nat × Int) := [(11,1,0,0), (4,7,12,0), (4,13,12,8), (4,17,12,9), (4,20,12,10), (4,24,12,11), (4,27,12,12), (4,30,12,13), (4,33,12,14), (4,36,12,15), (4,39,12,16), (4,42,12,17), (4,45,12,18), (4,48,12,19), (4,51,12,20), (4,54,12,21), (4,57,12,22), (4,60,12,23), (4,63,12,24), (4,66,12,25), (4,69,12,26), (4,72,12,27), (4,75,12,28), (4,78,12,29), (4,81,12,30), (4,84,12,31), (4,87,12,32), (4,90,12,33), (4,93,12,34), (4,96,12,35), (4,99,12,36), (4,102,12,37), (4,105,12,38), (4,108,12,39), (4,111,12,40), (4,114,12,42), (4,117,12,43), (4,121,12,44), (4,124,12,45), (4,127,12,46), (4,130,12,47), (4,133,12,48), (4,136,12,49), (4,139,12,50), (4,142,12,54), (4,145,12,55), (4,148,12,60), (4,151,12,61), (4,154,12,62), (4,157,12,63), (4,160,12,64), (4,163,12,65), (4,166,12,66), (4,169,12,68), (4,172,12,69), (4,175,12,70), (4,178,12,71), (4,181,12,72), (4,184,12,73), (4,187,12,74), (4,190,12,75), (4,193,12,77), (4,196,12,78), (4,199,12,79), (4,203,12,81), (4,206,12,84), (4,210,12,85), (4,213,12,86), (4,216,12,87), (4,219,12,88), (4,222,12,89), (4,225,12,90), (4,228,12,91), (4,231,12,92), (4,234,12,93), (4,237,12,94), (4,240,12,95), (4,243,12,96), (4,246,12,97), (4,249,12,98), (4,252,12,99), (4,255,12,100), (4,258,12,101), (4,261,12,102), (4,264,12,103), (4,267,12,104), (4,270,12,105), (4,273,12,106), (4,276,12,107), (4,279,12,108), (4,282,12,109), (4,285,12,111), (4,288,12,115), (4,291,12,119), (4,294,12,1), (4,297,12,5), (4,300,12,6), (4,303,12,2), (4,306,12,3), (8,309,159,0), (8,313,157,0), (4,317,12,4), (8,320,160,0), (8,324,161,0), (8,327,156,0), (8,331,163,0), (8,334,158,0), (8,337,153,0), (8,341,166,0), (4,345,12,41), (1,348,0,27), (1,350,0,97), (4,352,12,53), (1,355,0,5), (1,357,0,6), (8,359,167,0), (8,363,170,0), (8,367,169,0), (8,371,171,0), (8,374,173,0), (8,377,172,0), (8,381,162,0), (8,385,165,0), (4,389,12,110), (4,392,12,112), (4,395,12,113), (4,398,12,114), (8,401,280,0), (8,404,276,0), (4,407,12,51), (4,410,12,52), (8,413,174,0), (8,417,175,0), (8,420,176,0), (8,423,177,0), (8,426,178,0), (8,429,164,0), (8,432,179,0), (4,435,12,7), (8,438,181,0), (4,441,12,82), (4,444,12,76), (8,447,184,0), (8,450,185,0), (8,453,186,0), (8,456,193,0), (4,459,12,116), (8,462,284,0), (8,466,286,0), (8,470,285,0), (8,473,192,0), (8,476,183,0), (8,479,197,0), (8,482,199,0), (8,485,200,0), (8,488,202,0), (4,491,12,56), (8,494,203,0), (4,497,12,57), (8,500,196,0), (8,503,201,0), (8,506,191,0), (8,509,198,0), (8,512,190,0), (8,515,205,0), (4,518,12,67), (8,521,204,0), (8,524,206,0), (8,527,207,0), (8,530,209,0), (8,534,208,0), (8,537,210,0), (8,540,211,0), (8,543,216,0), (8,546,195,0), (1,549,0,2), (8,551,187,0), (8,554,188,0), (8,557,189,0), (1,560,0,3), (8,562,194,0), (8,565,223,0), (1,568,0,8), (8,570,231,0), (8,573,234,0), (8,576,235,0), (4,579,12,59), (4,582,12,58), (8,585,237,0), (1,588,0,(-1000000000000000)), (8,590,238,0), (8,593,240,0), (8,596,241,0), (8,599,243,0), (8,603,242,0), (8,606,215,0), (8,609,213,0), (8,612,212,0), (8,615,214,0), (8,618,247,0), (4,621,12,80), (8,624,249,0), (8,627,250,0), (8,630,252,0), (4,633,12,83), (1,636,0,20), (8,638,256,0), (8,641,254,0), (1,644,0,1103515245), (1,646,0,12345), (1,648,0,2147483648), (1,650,0,64), (8,652,261,0), (8,655,263,0), (8,658,267,0), (8,661,266,0), (8,664,270,0), (8,667,168,0), (8,670,271,0), (8,673,264,0), (8,676,272,0), (8,679,273,0), (8,682,268,0), (8,685,269,0), (8,688,265,0), (8,691,274,0), (8,694,275,0), (8,697,277,0), (8,700,279,0), (8,703,281,0), (8,706,278,0), (1,709,0,1000000), (1,711,0,(-1000000)), (8,713,282,0), (8,717,283,0), (8,721,287,0), (4,725,12,117), (1,728,0,(-1)), (4,730,12,118), (8,734,289,0), (8,737,288,0), (8,741,290,0), (4,745,12,120), (8,748,293,0), (8,751,294,0), (8,754,292,0), (8,758,297,0), (8,761,298,0)]
def ax_K13 : List (Nat × Nat × Nat × Int) := [(6,7,11,0), (8,9,99,0), (6,10,12,0), (8,12,152,0), (8,13,100,0), (8,17,154,0), (8,18,101,0), (8,22,155,0), (8,23,102,0), (8,27,180,0), (8,28,103,0), (8,32,182,0), (8,33,104,0), (8,36,217,0), (8,37,105,0), (8,41,218,0), (8,42,106,0), (8,45,219,0), (8,46,107,0), (8,50,220,0), (8,51,108,0), (8,54,221,0), (8,55,109,0), (8,58,222,0), (8,59,110,0), (8,62,224,0), (8,63,111,0), (8,66,225,0), (8,67,112,0), (8,70,226,0), (8,71,113,0), (8,74,227,0), (8,75,114,0), (8,78,228,0), (8,79,115,0), (8,82,229,0), (8,83,116,0), (8,86,230,0), (8,87,117,0), (8,90,232,0), (8,91,118,0), (8,94,233,0), (8,95,119,0), (8,98,236,0), (8,99,120,0), (8,103,239,0), (8,104,121,0), (8,108,244,0), (8,109,122,0), (8,112,245,0), (8,113,123,0), (8,116,246,0), (8,117,124,0), (8,120,248,0), (8,121,125,0), (8,124,251,0), (8,125,126,0), (8,128,253,0), (8,129,127,0), (8,133,257,0), (8,134,128,0), (8,137,258,0), (8,138,129,0), (8,141,259,0), (8,142,130,0), (8,145,262,0), (8,146,131,0), (8,150,255,0), (8,151,132,0), (8,154,260,0), (8,155,133,0), (8,158,291,0), (8,159,134,0), (8,162,295,0), (8,163,135,0), (8,166,296,0), (8,167,136,0), (8,170,299,0), (8,171,137,0), (8,174,300,0)]
def ax_K14 : List (Nat × Nat × Nat × Int) := [(5,9,13,0), (8,335,310,0), (8,492,311,0), (8,495,313,0), (3,38,0,1), (5,15,13,1), (3,1053,0,(-4)), (8,1059,314,0)]
def ax_K15 : List (Nat × Nat × Nat × Int) := [(8,9,312,0)]
def ax_K16 : List (Nat × Nat × Nat × Int) := []
def ax_K17 : List (Nat × Nat × Nat × Int) := [(0,265,0,1431655765), (0,266,0,858993459), (0,267,0,252645135)]
def ax_K18 : List (Nat × Nat × Nat × Int) := []
def ax_lk : List (List (Nat × Nat × Nat × Int)) := [ax_K0, ax_K1, ax_K2, ax_K3, ax_K4, ax_K5, ax_K6, ax_K7, ax_K8, ax_K9, ax_K10, ax_K11, ax_K12, ax_K13, ax_K14, ax_K15, ax_K16, ax_K17, ax_K18]
/-- switches: 0 table 1 none, low, high, where to, else, length -/
def ax_sw : List (Nat × Int × Int × List Nat × Nat × Nat) := [(0, (0), (7), [45, 49, 53, 57, 61, 73, 89, 93], 97, 45), (0, (-11), (-1), [64, 60, 56, 52, 45, 38, 31, 23, 16, 9, 2], 68, 59), (0, (0), (8), [2, 6, 10, 14, 18, 22, 26, 30, 34], 38, 51), (0, (0), (2), [9, 25, 41], 57, 27), (0, (0), (3), [10, 16, 22, 28], 34, 31), (0, (0), (4), [10, 16, 22, 28, 34], 42, 35), (0, (0), (8), [2, 5, 8, 11, 14, 19, 22, 25, 28], 31, 51), (0, (0), (10), [2, 7, 12, 17, 22, 27, 32, 37, 42, 47, 52], 57, 59), (0, (1), (10), [24, 31, 38, 45, 51, 61, 71, 81, 91, 101], 107, 56), (0, (0), (9), [2, 12, 22, 28, 32, 36, 40, 44, 47, 57], 63, 55), (1, (0), (-1), [], 2, 11), (0, (0), (37), [22, 79, 96, 103, 120, 137, 174, 191, 218, 245, 272, 299, 316, 333, 360, 387, 394, 401, 418, 425, 432, 460, 468, 485, 502, 509, 526, 543, 570, 597, 614, 631, 638, 655, 663, 670, 687, 694], 711, 167)]
/-- FireDrill$Coupling.<init>()V -/
def ax_p0 : List Nat := [0, 1, 4, 5, 7, 9, 12, 13, 15, 17, 20, 21, 23, 25, 29, 32]
def ax_c0 : List ax_O := [(3,2,0,0), (30,0,0,3), (3,2,0,0), (0,1,0,8), (24,0,0,0), (20,0,0,9), (3,2,0,0), (0,1,0,8), (24,0,0,0), (20,0,2,15), (3,2,0,0), (0,1,0,8), (0,1,0,8), (26,1,0,18), (20,0,3,20), (28,2,0,0)]
/-- FireDrill$Coupling.find(LFireDrill$House;LFireDrill$State;LFireDrill$Drill;)V -/
def ax_p1 : List Nat := [0, 1, 3, 5, 6, 9, 12, 13, 16, 18, 19, 20, 22, 23, 24, 26, 28, 29, 32, 35, 36, 39, 41, 42, 44, 45, 48, 49, 52, 53, 55, 56, 59, 61, 62, 64, 66, 69, 70, 71, 72, 74, 76, 79, 82, 85, 86, 89, 92, 95, 98, 99, 102, 105, 106, 107, 110, 111, 112, 115]
def ax_c1 : List ax_O := [(0,0,0,0), (4,0,4,1), (3,0,4,1), (3,2,1,0), (19,4,3,23), (13,3,50,0), (3,2,0,0), (19,0,2,15), (3,0,4,1), (0,0,0,(-1)), (22,0,0,0), (3,0,4,1), (0,0,0,1), (6,0,0,0), (4,0,5,1), (3,0,5,1), (3,2,1,0), (19,4,3,23), (13,3,48,0), (3,2,3,0), (19,1,5,29), (3,0,4,1), (21,4,0,0), (3,0,5,1), (21,0,0,0), (12,5,28,0), (0,0,0,1), (14,0,29,0), (0,0,0,0), (4,0,6,1), (3,2,0,0), (19,0,3,20), (3,0,4,1), (21,4,0,0), (3,0,5,1), (3,0,6,1), (12,0,44,0), (3,2,3,0), (3,2,1,0), (3,2,2,0), (3,0,4,1), (3,0,5,1), (27,17,5,35), (14,0,45,0), (1,1,39,(-1000000000000000)), (22,1,0,0), (5,5,0,1), (14,0,15,0), (5,4,0,1), (14,0,2,0), (3,2,0,0), (1,1,41,(-1)), (20,0,1,43), (3,2,0,0), (3,2,1,0), (19,4,3,23), (0,0,0,0), (1,0,0,0), (27,2,4,47), (28,2,0,0)]
/-- FireDrill$Coupling.search(IIJ)V -/
def ax_p2 : List Nat := [0, 1, 2, 5, 6, 8, 11, 12, 13, 16, 17, 20, 21, 22, 25, 26, 29, 30, 31, 34, 35, 36, 39, 40, 41, 42, 43, 44, 45, 46, 49, 50, 51, 52, 54, 55, 58, 59, 60, 61, 64, 66, 67, 70, 71, 74, 76, 77, 78, 81, 82, 85, 86, 87, 89, 90, 93, 94, 97, 98, 101, 102, 104, 105, 106, 109, 111, 112, 113, 114, 115, 116, 117, 118, 119, 120, 123, 124, 125, 127, 128, 129, 132, 133, 136, 137, 138, 139, 140, 143, 145, 146, 147, 150, 153]
def ax_c2 : List ax_O := [(3,0,2,0), (3,0,1,0), (13,3,6,0), (3,0,2,0), (0,1,0,8), (13,2,23,0), (3,1,3,0), (3,2,0,0), (19,0,1,43), (11,0,0,0), (12,5,22,0), (3,2,0,0), (3,1,3,0), (20,0,1,43), (3,2,0,0), (19,0,2,15), (0,0,0,0), (3,2,0,0), (19,0,0,9), (0,0,0,0), (3,0,1,0), (29,0,0,51), (28,2,0,0), (3,2,0,0), (3,0,1,0), (3,0,2,0), (0,0,0,1), (6,0,0,0), (3,1,3,0), (27,2,4,47), (3,0,2,0), (0,0,0,1), (6,0,0,0), (4,0,5,1), (3,2,0,0), (19,0,2,15), (3,0,2,0), (21,0,0,0), (0,0,0,(-1)), (13,1,94,0), (3,0,5,1), (3,0,1,0), (13,3,94,0), (3,2,0,0), (19,0,2,15), (3,0,5,1), (21,0,0,0), (0,0,0,(-1)), (13,1,92,0), (3,2,0,0), (19,0,3,20), (3,0,2,0), (21,4,0,0), (3,0,5,1), (21,1,0,0), (1,1,39,(-1000000000000000)), (11,0,0,0), (12,0,92,0), (3,2,0,0), (19,0,2,15), (3,0,2,0), (3,0,5,1), (22,0,0,0), (3,2,0,0), (19,0,2,15), (3,0,5,1), (3,0,2,0), (22,0,0,0), (3,2,0,0), (3,0,1,0), (3,0,2,0), (0,0,0,1), (6,0,0,0), (3,1,3,0), (3,2,0,0), (19,0,3,20), (3,0,2,0), (21,4,0,0), (3,0,5,1), (21,1,0,0), (7,0,0,0), (27,2,4,47), (3,2,0,0), (19,0,2,15), (3,0,2,0), (0,0,0,(-1)), (22,0,0,0), (3,2,0,0), (19,0,2,15), (3,0,5,1), (0,0,0,(-1)), (22,0,0,0), (5,5,0,1), (14,0,34,0), (28,2,0,0)]
/-- FireDrill$Drill.<init>()V -/
def ax_p3 : List Nat := [0, 1, 4, 5, 7, 9, 12, 13, 15, 17, 20, 21, 23, 25, 28, 29, 31, 33, 37, 40, 41, 43, 45, 49, 52, 53, 55, 57, 61, 64, 65, 67, 69, 72, 73, 75, 77, 80, 81, 83, 85, 88, 89, 90, 92, 95]
def ax_c3 : List ax_O := [(3,2,0,0), (30,0,0,3), (3,2,0,0), (0,1,0,8), (24,0,0,0), (20,1,0,9), (3,2,0,0), (0,1,0,8), (24,0,0,0), (20,1,1,15), (3,2,0,0), (0,1,0,8), (24,0,0,0), (20,1,2,18), (3,2,0,0), (0,1,0,9), (0,1,0,8), (26,0,0,21), (20,1,3,23), (3,2,0,0), (0,1,0,8), (0,1,0,8), (26,0,0,21), (20,1,4,26), (3,2,0,0), (0,1,0,8), (0,1,0,8), (26,0,0,21), (20,1,5,29), (3,2,0,0), (0,1,0,8), (24,0,0,0), (20,1,7,32), (3,2,0,0), (0,1,0,10), (24,0,0,0), (20,1,8,35), (3,2,0,0), (0,1,0,10), (24,0,0,0), (20,1,9,38), (3,2,0,0), (0,0,0,5), (24,0,0,0), (20,1,10,41), (28,2,0,0)]
/-- FireDrill$Drill.run(LFireDrill$House;LFireDrill$State;II)V -/
def ax_p4 : List Nat := [0, 1, 2, 3, 4, 6, 9, 10, 11, 14, 15, 16, 17, 20, 23, 24, 27, 29, 32, 33, 35, 37, 39, 42, 43, 44, 45, 47, 50, 51, 54, 56, 59, 60, 61, 64, 67, 68, 70, 73, 76, 79, 80, 81, 82, 85]
def ax_c4 : List ax_O := [(3,2,0,0), (3,2,1,0), (3,2,2,0), (3,0,3,0), (3,0,4,1), (27,5,5,44), (3,2,0,0), (3,2,1,0), (27,7,2,48), (3,2,0,0), (3,2,0,0), (3,2,1,0), (27,9,2,52), (12,0,16,0), (0,0,0,(-1)), (14,0,17,0), (0,1,0,99), (20,1,6,56), (0,0,0,0), (4,0,5,1), (3,0,5,1), (0,1,0,9), (13,3,41,0), (3,2,0,0), (3,2,1,0), (3,2,2,0), (3,0,5,1), (27,10,4,60), (3,2,0,0), (19,1,6,56), (0,1,0,99), (13,1,39,0), (3,2,0,0), (3,2,1,0), (27,9,2,52), (12,0,39,0), (3,2,0,0), (3,0,5,1), (20,1,6,56), (5,5,0,1), (14,0,20,0), (3,2,0,0), (3,2,1,0), (3,2,2,0), (27,14,3,64), (28,2,0,0)]
/-- FireDrill$Drill.prepare(LFireDrill$House;LFireDrill$State;II)V -/
def ax_p5 : List Nat := [0, 1, 3, 5, 6, 9, 12, 13, 16, 18, 19, 20, 23, 25, 26, 29, 30, 33, 34, 36, 37, 40, 42, 43, 45, 47, 50, 51, 54, 55, 56, 58, 59, 62, 64, 66, 69, 70, 73, 75, 76, 79, 82, 83, 85, 87, 89, 92, 93, 96, 98, 100, 103, 104, 107, 108, 109, 112, 115, 116, 118, 120, 122, 125, 126, 128, 130, 131, 134, 137, 138, 141, 143, 144, 147, 148, 149, 152, 154, 155, 156, 159, 161, 162, 164, 167, 168, 169, 172, 174, 175, 176, 179, 181, 182, 184, 187, 190, 193, 196, 199]
def ax_c5 : List ax_O := [(0,0,0,0), (4,0,5,1), (3,0,5,1), (3,2,1,0), (19,4,1,68), (13,3,42,0), (3,2,2,0), (19,8,2,73), (3,0,5,1), (21,0,0,0), (0,0,0,1), (13,0,15,0), (3,0,5,1), (3,0,3,0), (13,1,17,0), (0,0,0,1), (14,0,18,0), (0,0,0,0), (4,0,6,1), (3,2,1,0), (19,4,9,78), (3,0,5,1), (21,0,0,0), (3,0,5,1), (3,0,4,1), (13,1,28,0), (0,0,0,1), (14,0,29,0), (0,0,0,0), (6,0,0,0), (4,0,7,1), (3,2,0,0), (19,1,8,35), (3,0,5,1), (3,0,6,1), (12,0,38,0), (0,0,0,0), (14,0,39,0), (3,0,7,1), (22,0,0,0), (5,5,0,1), (14,0,2,0), (0,0,0,0), (4,0,5,1), (3,0,5,1), (0,1,0,8), (13,3,58,0), (3,2,0,0), (19,1,0,9), (3,0,5,1), (3,0,5,1), (12,1,54,0), (0,0,0,0), (14,0,55,0), (0,0,0,(-1)), (22,0,0,0), (5,5,0,1), (14,0,44,0), (0,0,0,0), (4,0,5,1), (3,0,5,1), (0,1,0,8), (13,3,100,0), (0,0,0,0), (4,0,6,1), (3,0,6,1), (3,2,1,0), (19,4,1,68), (13,3,98,0), (3,2,0,0), (19,1,8,35), (3,0,6,1), (21,0,0,0), (12,5,96,0), (3,2,0,0), (3,2,1,0), (19,4,7,81), (3,0,6,1), (21,0,0,0), (3,2,1,0), (19,4,8,84), (3,0,6,1), (21,0,0,0), (3,0,5,1), (27,6,4,87), (3,2,0,0), (3,2,1,0), (19,4,8,84), (3,0,6,1), (21,0,0,0), (3,2,1,0), (19,4,7,81), (3,0,6,1), (21,0,0,0), (3,0,5,1), (27,6,4,87), (5,6,0,1), (14,0,65,0), (5,5,0,1), (14,0,60,0), (28,2,0,0)]
/-- FireDrill$Drill.reach(III)V -/
def ax_p6 : List Nat := [0, 1, 4, 5, 6, 7, 10, 11, 14, 15, 16, 17, 20, 21, 24, 25, 26, 27, 28, 29]
def ax_c6 : List ax_O := [(3,2,0,0), (19,1,0,9), (3,0,1,0), (21,0,0,0), (3,0,3,0), (13,1,19,0), (3,2,0,0), (19,1,0,9), (3,0,2,0), (21,0,0,0), (0,0,0,(-1)), (13,1,19,0), (3,2,0,0), (19,1,0,9), (3,0,2,0), (3,0,3,0), (0,0,0,1), (6,0,0,0), (22,0,0,0), (28,2,0,0)]
/-- FireDrill$Drill.goToRooms(LFireDrill$House;)V -/
def ax_p7 : List Nat := [0, 1, 2, 3, 4, 7, 10, 11, 14, 15, 16, 19, 20, 21, 22, 23, 26, 27, 28, 31, 32, 33, 36, 37, 40, 42, 43, 44, 47, 48, 49, 50, 51, 52, 53, 55, 58, 59, 62, 63, 64, 65, 66, 67, 70, 73, 76, 79]
def ax_c7 : List ax_O := [(0,0,0,0), (4,0,2,0), (3,0,2,0), (3,2,1,0), (19,4,3,91), (13,3,47,0), (3,2,0,0), (19,1,7,32), (3,0,2,0), (3,2,1,0), (19,4,11,94), (3,0,2,0), (21,0,0,0), (22,0,0,0), (3,2,0,0), (19,1,1,15), (3,0,2,0), (3,2,0,0), (19,1,7,32), (3,0,2,0), (21,0,0,0), (12,1,24,0), (0,0,0,(-1)), (14,0,25,0), (0,1,0,99), (22,0,0,0), (3,2,0,0), (19,1,2,18), (3,0,2,0), (0,0,0,(-1)), (22,0,0,0), (0,0,0,0), (4,0,3,0), (3,0,3,0), (0,1,0,8), (13,3,45,0), (3,2,0,0), (19,1,4,26), (3,0,2,0), (21,4,0,0), (3,0,3,0), (0,0,0,0), (22,0,0,0), (5,3,0,1), (14,0,33,0), (5,2,0,1), (14,0,2,0), (28,2,0,0)]
/-- FireDrill$Drill.isOut(I)Z -/
def ax_p8 : List Nat := [0, 1, 4, 5, 6, 9, 10, 13, 14, 15, 16, 19, 20, 23, 24]
def ax_c8 : List ax_O := [(3,2,0,0), (19,1,7,32), (3,0,1,0), (21,0,0,0), (12,1,13,0), (3,2,0,0), (19,1,2,18), (3,0,1,0), (21,0,0,0), (0,0,0,(-1)), (13,1,13,0), (0,0,0,1), (14,0,14,0), (0,0,0,0), (28,3,0,0)]
/-- FireDrill$Drill.areAllOut(LFireDrill$House;)Z -/
def ax_p9 : List Nat := [0, 1, 2, 3, 4, 7, 10, 11, 12, 15, 18, 19, 20, 23, 26, 27]
def ax_c9 : List ax_O := [(0,0,0,0), (4,0,2,0), (3,0,2,0), (3,2,1,0), (19,4,3,91), (13,3,14,0), (3,2,0,0), (3,0,2,0), (27,8,2,97), (12,1,12,0), (0,0,0,0), (28,3,0,0), (5,2,0,1), (14,0,2,0), (0,0,0,1), (28,3,0,0)]
/-- FireDrill$Drill.runMinute(LFireDrill$House;LFireDrill$State;I)V -/
def ax_p10 : List Nat := [0, 1, 4, 5, 6, 9, 10, 12, 15, 16, 18, 20, 21, 24, 27, 28, 30, 33, 36, 37, 38, 39, 42, 44, 45, 48, 51, 52, 55, 57, 58, 59, 60, 63, 65, 66, 69, 71, 72, 73, 76, 77, 80, 82, 83, 84, 87, 88, 89, 91, 92, 95, 98, 101, 102, 104, 106, 107, 110, 113, 114, 117, 118, 119, 121, 122, 125, 127, 128, 129, 130, 132, 134, 135, 138, 141, 143, 145, 148, 149, 151, 154, 157, 158, 160, 163, 166, 167, 170, 172, 173, 175, 176, 177, 178, 179, 180, 183, 186, 189, 192]
def ax_c10 : List ax_O := [(3,2,0,0), (19,1,8,35), (0,0,0,0), (3,2,0,0), (19,1,9,38), (0,0,0,0), (0,1,0,10), (29,0,0,101), (0,0,0,0), (4,0,4,1), (3,0,4,1), (3,2,1,0), (19,4,3,91), (13,3,53,0), (3,2,0,0), (3,0,4,1), (27,8,2,97), (12,0,40,0), (3,2,0,0), (3,2,1,0), (3,2,2,0), (19,8,0,107), (3,0,4,1), (3,0,3,0), (27,11,5,110), (12,0,51,0), (3,2,0,0), (19,1,2,18), (3,0,4,1), (3,0,3,0), (22,0,0,0), (3,2,0,0), (19,1,7,32), (3,0,4,1), (3,2,1,0), (19,4,11,94), (3,0,4,1), (21,0,0,0), (22,0,0,0), (14,0,51,0), (3,2,0,0), (19,1,2,18), (3,0,4,1), (21,0,0,0), (0,0,0,(-1)), (13,1,51,0), (3,2,0,0), (3,2,1,0), (3,0,4,1), (3,0,3,0), (27,12,4,114), (5,4,0,1), (14,0,10,0), (0,0,0,0), (4,0,4,1), (3,0,4,1), (3,2,1,0), (19,4,3,91), (13,3,100,0), (3,2,0,0), (19,1,3,23), (3,0,3,0), (21,4,0,0), (3,0,4,1), (3,2,0,0), (19,1,7,32), (3,0,4,1), (21,0,0,0), (22,0,0,0), (0,0,0,0), (4,0,5,1), (3,0,5,1), (3,2,1,0), (19,4,3,91), (13,3,98,0), (3,0,5,1), (3,0,4,1), (13,0,96,0), (3,2,0,0), (3,0,4,1), (27,8,2,97), (12,0,96,0), (3,2,0,0), (3,0,5,1), (27,8,2,97), (12,0,96,0), (3,2,0,0), (19,1,4,26), (3,0,4,1), (21,4,0,0), (3,0,5,1), (17,0,0,0), (21,0,0,0), (0,0,0,1), (6,0,0,0), (22,0,0,0), (5,5,0,1), (14,0,71,0), (5,4,0,1), (14,0,55,0), (28,2,0,0)]
/-- FireDrill$Drill.turns(LFireDrill$House;III)Z -/
def ax_p11 : List Nat := [0, 1, 3, 4, 6, 8, 9, 12, 15, 17, 18, 21, 22, 24, 27, 30, 33, 36, 39, 40, 43, 44, 45, 48, 49, 50, 51, 52, 55, 56, 57, 60, 61, 62, 63, 64, 67, 68, 69, 70, 71, 74, 75, 77, 78, 79, 82, 83, 85, 86, 87, 90, 91, 94, 95, 98, 99, 100, 103, 106, 107, 110, 111]
def ax_c11 : List ax_O := [(0,0,0,0), (4,0,5,1), (0,0,0,0), (4,0,6,1), (3,0,6,1), (3,2,1,0), (19,4,3,91), (13,3,18,0), (3,0,6,1), (3,0,3,0), (13,0,16,0), (3,2,0,0), (3,0,6,1), (27,8,2,97), (12,0,16,0), (5,5,0,1), (5,6,0,1), (14,0,4,0), (3,2,0,0), (19,1,10,41), (0,0,0,0), (3,2,1,0), (19,4,13,118), (3,0,3,0), (21,0,0,0), (22,0,0,0), (3,2,0,0), (19,1,10,41), (0,0,0,1), (3,2,1,0), (19,4,14,121), (3,0,3,0), (21,0,0,0), (22,0,0,0), (3,2,0,0), (19,1,10,41), (0,0,0,2), (3,0,2,0), (22,0,0,0), (3,2,0,0), (19,1,10,41), (0,0,0,3), (3,0,4,1), (22,0,0,0), (3,2,0,0), (19,1,10,41), (0,0,0,4), (3,0,5,1), (22,0,0,0), (3,2,1,0), (19,4,15,124), (3,2,0,0), (19,1,10,41), (3,2,0,0), (19,1,5,29), (3,0,3,0), (21,4,0,0), (27,60,3,127), (12,0,61,0), (0,0,0,1), (14,0,62,0), (0,0,0,0), (28,3,0,0)]
/-- FireDrill$Drill.walk(LFireDrill$House;II)V -/
def ax_p12 : List Nat := [0, 1, 3, 5, 6, 9, 10, 11, 14, 15, 18, 19, 20, 23, 24, 25, 26, 29, 30, 31, 34, 36, 38, 39, 42, 43, 44, 47, 49, 50, 51, 52, 53, 54, 55, 58, 59, 60, 62, 63, 66, 67, 68, 71, 72, 75, 78, 79, 82, 83, 84, 87, 88, 89, 92, 93, 96, 98, 99]
def ax_c12 : List ax_O := [(0,0,0,0), (4,0,4,1), (3,0,4,1), (3,2,1,0), (19,4,13,118), (3,0,2,0), (21,0,0,0), (13,3,46,0), (3,2,0,0), (19,1,7,32), (3,0,2,0), (21,0,0,0), (12,0,46,0), (3,2,0,0), (3,2,1,0), (3,2,0,0), (19,1,7,32), (3,0,2,0), (21,0,0,0), (27,13,3,133), (4,0,5,1), (3,0,5,1), (0,0,0,(-1)), (13,1,25,0), (28,2,0,0), (3,2,0,0), (19,1,9,38), (3,0,5,1), (17,0,0,0), (21,0,0,0), (0,0,0,1), (6,1,0,0), (22,0,0,0), (3,2,0,0), (19,1,7,32), (3,0,2,0), (3,2,1,0), (3,0,5,1), (3,2,0,0), (19,1,7,32), (3,0,2,0), (21,0,0,0), (27,38,3,137), (22,0,0,0), (5,4,0,1), (14,0,2,0), (3,2,0,0), (19,1,1,15), (3,0,2,0), (3,2,0,0), (19,1,7,32), (3,0,2,0), (21,0,0,0), (12,1,56,0), (3,0,3,0), (14,0,57,0), (0,1,0,99), (22,0,0,0), (28,2,0,0)]
/-- FireDrill$Drill.stairFrom(LFireDrill$House;I)I -/
def ax_p13 : List Nat := [0, 1, 2, 4, 6, 7, 9, 11, 12, 15, 18, 19, 21, 22, 25, 27, 29, 30, 33, 35, 37, 40, 41, 44, 46, 47, 50, 51, 54, 56, 57, 58, 61, 62, 65, 67, 68, 69, 72, 73, 74, 75, 76, 79, 81, 83, 85, 86, 89, 92, 93]
def ax_c13 : List ax_O := [(0,0,0,(-1)), (4,0,3,0), (0,1,0,8), (4,0,4,1), (0,0,0,0), (4,0,5,1), (3,0,5,1), (3,2,1,0), (19,4,1,68), (13,3,49,0), (3,2,1,0), (3,0,5,1), (3,0,2,0), (27,38,3,137), (4,0,6,1), (3,0,6,1), (0,0,0,(-1)), (13,0,47,0), (3,0,6,1), (3,0,4,1), (13,3,47,0), (3,2,0,0), (19,1,9,38), (3,0,5,1), (21,0,0,0), (12,5,47,0), (3,2,0,0), (19,1,0,9), (3,0,6,1), (21,0,0,0), (0,0,0,(-1)), (13,0,47,0), (3,2,0,0), (19,1,0,9), (3,0,6,1), (21,0,0,0), (3,2,0,0), (19,1,0,9), (3,0,2,0), (21,0,0,0), (0,0,0,1), (6,1,0,0), (13,1,47,0), (3,0,6,1), (4,0,4,1), (3,0,5,1), (4,0,3,0), (5,5,0,1), (14,0,6,0), (3,0,3,0), (28,0,0,0)]
/-- FireDrill$Drill.countMeetings(LFireDrill$House;LFireDrill$State;)V -/
def ax_p14 : List Nat := [0, 1, 2, 3, 5, 8, 9, 11, 13, 15, 18, 19, 20, 23, 26, 28, 29, 32, 35, 36, 37, 38, 40, 43, 44, 47, 50, 51, 54, 55, 57, 58, 61, 62, 63, 65, 67, 70, 71, 74, 75, 76, 78, 79, 82, 83, 84, 87, 90, 93, 96]
def ax_c14 : List ax_O := [(0,0,0,0), (4,0,3,0), (3,0,3,0), (0,1,0,8), (13,3,50,0), (0,0,0,0), (4,0,4,1), (3,0,4,1), (0,1,0,8), (13,3,48,0), (3,0,3,0), (3,2,1,0), (19,4,3,91), (13,3,28,0), (3,0,4,1), (3,2,1,0), (19,4,3,91), (13,3,28,0), (3,2,1,0), (3,2,2,0), (3,0,3,0), (3,0,4,1), (27,15,4,141), (3,2,1,0), (19,4,17,145), (13,4,28,0), (0,0,0,1), (14,0,29,0), (0,0,0,0), (4,0,5,1), (3,2,0,0), (19,1,5,29), (3,0,3,0), (21,4,0,0), (3,0,4,1), (3,0,5,1), (12,0,44,0), (3,2,0,0), (19,1,4,26), (3,0,3,0), (21,4,0,0), (3,0,4,1), (21,0,0,0), (14,0,45,0), (0,0,0,0), (22,0,0,0), (5,4,0,1), (14,0,7,0), (5,3,0,1), (14,0,2,0), (28,2,0,0)]
/-- FireDrill$Drill.apart(LFireDrill$House;LFireDrill$State;II)I -/
def ax_p15 : List Nat := [0, 1, 4, 5, 8, 9, 10, 11, 12, 15, 16, 19, 20, 21, 22, 23, 26]
def ax_c15 : List ax_O := [(3,2,1,0), (19,8,1,148), (3,2,0,0), (19,4,12,151), (3,0,2,0), (21,0,0,0), (21,0,0,0), (3,2,1,0), (19,8,1,148), (3,2,0,0), (19,4,12,151), (3,0,3,0), (21,0,0,0), (21,0,0,0), (6,1,0,0), (27,303,1,154), (28,0,0,0)]
/-- FireDrill$Drill.countSigning(LFireDrill$House;)I -/
def ax_p16 : List Nat := [0, 1, 2, 3, 4, 5, 6, 9, 12, 13, 14, 15, 17, 19, 20, 23, 26, 27, 30, 31, 32, 34, 35, 36, 39, 42, 45, 48, 51, 54, 57, 58]
def ax_c16 : List ax_O := [(0,0,0,0), (4,0,2,0), (0,0,0,0), (4,0,3,0), (3,0,3,0), (3,2,1,0), (19,4,3,91), (13,3,30,0), (3,0,3,0), (0,0,0,1), (6,0,0,0), (4,0,4,1), (3,0,4,1), (3,2,1,0), (19,4,3,91), (13,3,28,0), (3,2,0,0), (19,1,5,29), (3,0,3,0), (21,4,0,0), (3,0,4,1), (21,0,0,0), (3,2,1,0), (19,4,18,160), (13,2,26,0), (5,2,0,1), (5,4,0,1), (14,0,12,0), (5,3,0,1), (14,0,4,0), (3,0,2,0), (28,0,0,0)]
/-- FireDrill$Drill.dearness(LFireDrill$House;LFireDrill$State;II)J -/
def ax_p17 : List Nat := [0, 1, 2, 3, 6, 7, 9, 12, 13, 14, 15, 16, 19, 21, 22, 25, 26, 27]
def ax_c17 : List ax_O := [(3,2,0,0), (3,2,1,0), (3,2,2,0), (19,8,0,107), (3,0,3,0), (3,0,4,1), (27,18,5,163), (9,0,0,0), (3,2,0,0), (3,2,1,0), (3,2,2,0), (19,8,0,107), (3,0,4,1), (3,0,3,0), (27,18,5,163), (9,0,0,0), (7,0,0,0), (28,1,0,0)]
/-- FireDrill$Drill.dearnessTo(LFireDrill$House;III)I -/
def ax_p18 : List Nat := [0, 1, 4, 5, 6, 9, 10, 11, 12, 13, 16, 17, 18, 21, 22, 23, 24, 25, 28, 29, 30, 31, 32, 35, 36, 37, 40, 42, 43, 44, 45, 48, 49, 50, 53, 54, 55, 57, 58, 59, 60, 63, 64, 67, 68, 71, 72, 73, 76]
def ax_c18 : List ax_O := [(3,2,0,0), (19,1,10,41), (0,0,0,0), (3,2,1,0), (19,4,13,118), (3,0,3,0), (21,0,0,0), (22,0,0,0), (3,2,0,0), (19,1,10,41), (0,0,0,1), (3,2,1,0), (19,4,14,121), (3,0,3,0), (21,0,0,0), (22,0,0,0), (3,2,0,0), (19,1,10,41), (0,0,0,2), (3,0,2,0), (22,0,0,0), (3,2,0,0), (19,1,10,41), (0,0,0,3), (3,2,1,0), (19,4,14,121), (3,0,4,1), (21,0,0,0), (22,0,0,0), (3,2,0,0), (19,1,10,41), (0,0,0,4), (3,2,0,0), (19,1,5,29), (3,0,3,0), (21,4,0,0), (3,0,4,1), (21,0,0,0), (22,0,0,0), (3,2,1,0), (19,4,16,167), (3,2,0,0), (19,1,10,41), (3,2,0,0), (19,1,5,29), (3,0,3,0), (21,4,0,0), (27,60,3,127), (28,0,0,0)]
/-- FireDrill$Formula.<init>(LFireDrill$Text;LFireDrill$Program;)V -/
def ax_p19 : List Nat := [0, 1, 4, 5, 7, 10, 11, 12, 15, 16, 17, 20]
def ax_c19 : List ax_O := [(3,2,0,0), (30,0,0,3), (3,2,0,0), (2,0,9,(-10)), (20,2,2,11), (3,2,0,0), (3,2,1,0), (20,2,0,17), (3,2,0,0), (3,2,2,0), (20,2,1,21), (28,2,0,0)]
/-- FireDrill$Formula.begin(LFireDrill$Program;Ljava/lang/String;Z)V -/
def ax_p20 : List Nat := [0, 1, 2, 5, 6, 7, 10, 11, 12, 15]
def ax_c20 : List ax_O := [(3,2,0,0), (3,2,1,0), (20,2,1,21), (3,2,0,0), (3,2,2,0), (20,2,2,11), (3,2,0,0), (3,0,3,0), (20,2,3,25), (28,2,0,0)]
/-- FireDrill$Formula.readTest(I)Z -/
def ax_p21 : List Nat := [0, 1, 2, 5, 8, 9, 10, 11, 12, 13, 16, 19, 20, 23, 25, 28, 31, 32, 35, 38, 39, 40, 43, 46, 47, 48, 49, 52, 54, 57, 60, 63, 64]
def ax_c21 : List ax_O := [(3,2,0,0), (3,0,1,0), (27,22,2,29), (12,1,6,0), (0,0,0,0), (28,3,0,0), (0,0,0,0), (4,0,2,0), (3,0,2,0), (0,2,0,1600), (13,3,31,0), (3,2,0,0), (19,2,0,17), (2,0,33,(-44)), (27,93,2,35), (12,0,31,0), (3,2,0,0), (19,2,0,17), (27,90,1,41), (3,2,0,0), (3,0,1,0), (27,22,2,29), (12,1,25,0), (0,0,0,0), (28,3,0,0), (3,2,0,0), (19,2,1,21), (0,1,0,(-9)), (27,59,2,46), (5,2,0,1), (14,0,8,0), (0,0,0,1), (28,3,0,0)]
/-- FireDrill$Formula.readBoth(I)Z -/
def ax_p22 : List Nat := [0, 1, 2, 5, 8, 9, 10, 11, 12, 13, 16, 19, 20, 23, 25, 28, 31, 32, 35, 38, 39, 40, 43, 46, 47, 48, 49, 52, 54, 57, 60, 63, 64]
def ax_c22 : List ax_O := [(3,2,0,0), (3,0,1,0), (27,23,2,50), (12,1,6,0), (0,0,0,0), (28,3,0,0), (0,0,0,0), (4,0,2,0), (3,0,2,0), (0,2,0,1600), (13,3,31,0), (3,2,0,0), (19,2,0,17), (2,0,53,(-42)), (27,93,2,35), (12,0,31,0), (3,2,0,0), (19,2,0,17), (27,90,1,41), (3,2,0,0), (3,0,1,0), (27,23,2,50), (12,1,25,0), (0,0,0,0), (28,3,0,0), (3,2,0,0), (19,2,1,21), (0,1,0,(-8)), (27,59,2,46), (5,2,0,1), (14,0,8,0), (0,0,0,1), (28,3,0,0)]
/-- FireDrill$Formula.readFact(I)Z -/
def ax_p23 : List Nat := [0, 1, 4, 6, 9, 12, 13, 14, 17, 20, 21, 22, 23, 24, 27, 30, 31, 32, 33, 36, 38, 41, 42, 43, 44, 47, 49, 52, 55, 56, 57, 60, 63, 64, 65, 66, 67, 70, 73, 74, 77, 79, 82, 85, 86, 89, 90, 91, 92, 95, 97, 100, 103, 104, 107, 110, 111, 114, 115, 118, 119, 120, 121, 122, 125, 128, 129, 130, 131, 134, 135, 136, 139, 140, 143, 144, 145, 148, 151, 154, 155, 156, 159, 162, 163, 164, 167, 170, 171, 172, 173, 176, 177, 180, 181]
def ax_c23 : List ax_O := [(3,2,0,0), (19,2,0,17), (2,0,55,(-32)), (27,93,2,35), (12,0,23,0), (3,2,0,0), (3,0,1,0), (27,29,2,57), (12,0,15,0), (3,2,0,0), (3,0,1,0), (0,0,0,1), (6,0,0,0), (27,23,2,50), (12,1,17,0), (0,0,0,0), (28,3,0,0), (3,2,0,0), (19,2,1,21), (0,1,0,(-12)), (27,59,2,46), (0,0,0,1), (28,3,0,0), (3,2,0,0), (19,2,0,17), (0,1,0,91), (27,94,2,60), (12,0,47,0), (3,2,0,0), (3,0,1,0), (27,29,2,57), (12,0,45,0), (3,2,0,0), (3,0,1,0), (0,0,0,1), (6,0,0,0), (27,21,2,64), (12,0,45,0), (3,2,0,0), (19,2,0,17), (0,1,0,93), (27,96,2,67), (12,0,45,0), (0,0,0,1), (14,0,46,0), (0,0,0,0), (28,3,0,0), (3,2,0,0), (19,2,0,17), (2,0,70,(-34)), (27,93,2,35), (12,0,61,0), (3,2,0,0), (19,2,0,17), (27,90,1,41), (3,2,0,0), (19,2,1,21), (0,0,0,1), (27,59,2,46), (0,0,0,1), (28,3,0,0), (3,2,0,0), (3,0,1,0), (27,25,2,72), (12,1,67,0), (0,0,0,0), (28,3,0,0), (3,2,0,0), (27,24,1,75), (4,0,2,0), (3,0,2,0), (12,1,80,0), (3,2,0,0), (19,2,0,17), (0,0,0,1), (3,2,0,0), (19,2,0,17), (19,10,3,79), (27,89,3,83), (28,3,0,0), (3,2,0,0), (19,2,0,17), (27,90,1,41), (3,2,0,0), (3,0,1,0), (27,25,2,72), (12,1,89,0), (0,0,0,0), (28,3,0,0), (3,2,0,0), (19,2,1,21), (3,0,2,0), (27,59,2,46), (0,0,0,1), (28,3,0,0)]
/-- FireDrill$Formula.comparisonHere()I -/
def ax_p24 : List Nat := [0, 1, 4, 6, 9, 12, 14, 15, 16, 19, 21, 24, 27, 29, 30, 31, 34, 36, 39, 42, 44, 47, 48]
def ax_c24 : List ax_O := [(3,2,0,0), (19,2,0,17), (0,1,0,60), (27,94,2,60), (12,0,7,0), (0,1,0,(-5)), (28,0,0,0), (3,2,0,0), (19,2,0,17), (0,1,0,62), (27,94,2,60), (12,0,14,0), (0,1,0,(-6)), (28,0,0,0), (3,2,0,0), (19,2,0,17), (0,1,0,61), (27,94,2,60), (12,0,21,0), (0,1,0,(-7)), (14,0,22,0), (0,0,0,0), (28,0,0,0)]
/-- FireDrill$Formula.readSum(I)Z -/
def ax_p25 : List Nat := [0, 1, 2, 5, 8, 9, 10, 11, 12, 13, 16, 19, 20, 23, 25, 28, 31, 32, 35, 37, 40, 43, 44, 47, 49, 52, 55, 56, 59, 61, 62, 63, 66, 69, 70, 71, 74, 77, 78, 79, 80, 83, 84, 87, 90, 93, 94]
def ax_c25 : List ax_O := [(3,2,0,0), (3,0,1,0), (27,26,2,87), (12,1,6,0), (0,0,0,0), (28,3,0,0), (0,0,0,0), (4,0,2,0), (3,0,2,0), (0,2,0,1600), (13,3,45,0), (3,2,0,0), (19,2,0,17), (0,1,0,43), (27,94,2,60), (12,1,21,0), (3,2,0,0), (19,2,0,17), (0,1,0,45), (27,94,2,60), (12,0,45,0), (3,2,0,0), (19,2,0,17), (0,1,0,43), (27,94,2,60), (12,0,28,0), (0,0,0,(-1)), (14,0,29,0), (0,1,0,(-2)), (4,0,3,0), (3,2,0,0), (19,2,0,17), (27,90,1,41), (3,2,0,0), (3,0,1,0), (27,26,2,87), (12,1,39,0), (0,0,0,0), (28,3,0,0), (3,2,0,0), (19,2,1,21), (3,0,3,0), (27,59,2,46), (5,2,0,1), (14,0,8,0), (0,0,0,1), (28,3,0,0)]
/-- FireDrill$Formula.readProduct(I)Z -/
def ax_p26 : List Nat := [0, 1, 2, 5, 8, 9, 10, 11, 12, 13, 16, 19, 20, 23, 25, 28, 31, 32, 35, 37, 40, 43, 44, 47, 49, 52, 55, 57, 60, 62, 63, 64, 67, 70, 71, 72, 75, 78, 79, 80, 81, 84, 85, 88, 91, 94, 95]
def ax_c26 : List ax_O := [(3,2,0,0), (3,0,1,0), (27,27,2,90), (12,1,6,0), (0,0,0,0), (28,3,0,0), (0,0,0,0), (4,0,2,0), (3,0,2,0), (0,2,0,1600), (13,3,45,0), (3,2,0,0), (19,2,0,17), (0,1,0,42), (27,94,2,60), (12,1,21,0), (3,2,0,0), (19,2,0,17), (0,1,0,47), (27,94,2,60), (12,0,45,0), (3,2,0,0), (19,2,0,17), (0,1,0,42), (27,94,2,60), (12,0,28,0), (0,1,0,(-3)), (14,0,29,0), (0,1,0,(-4)), (4,0,3,0), (3,2,0,0), (19,2,0,17), (27,90,1,41), (3,2,0,0), (3,0,1,0), (27,27,2,90), (12,1,39,0), (0,0,0,0), (28,3,0,0), (3,2,0,0), (19,2,1,21), (3,0,3,0), (27,59,2,46), (5,2,0,1), (14,0,8,0), (0,0,0,1), (28,3,0,0)]
/-- FireDrill$Formula.readPart(I)Z -/
def ax_p27 : List Nat := [0, 1, 4, 7, 8, 11, 12, 15, 16, 19, 22, 25, 26, 27, 28, 31, 32, 35, 38, 41, 42, 43, 44, 47, 49, 52, 55, 56, 57, 60, 63, 64, 65, 66, 67, 70, 73, 74, 77, 79, 82, 85, 86, 89, 90, 91, 92, 95, 97, 100, 103, 104, 107, 109, 112, 115, 116, 117, 120, 121, 122, 125, 128, 129, 132, 134, 137, 140, 141, 142, 145, 148, 149, 150, 151, 152, 155, 158, 159, 160, 161, 164, 166, 169, 170, 171, 172, 175, 176, 179, 182, 183, 184, 185, 188, 189, 192, 193, 194, 197, 200, 203, 204, 205, 208, 211, 212, 215, 217, 218, 219, 222, 223]
def ax_c27 : List ax_O := [(3,2,0,0), (19,2,0,17), (19,10,2,93), (0,0,0,2), (13,1,21,0), (3,2,0,0), (19,2,0,17), (0,0,0,0), (0,2,0,9999), (27,97,3,96), (12,1,13,0), (0,0,0,0), (28,3,0,0), (3,2,0,0), (19,2,1,21), (3,2,0,0), (19,2,0,17), (19,10,6,99), (27,59,2,46), (0,0,0,1), (28,3,0,0), (3,2,0,0), (19,2,0,17), (0,1,0,40), (27,94,2,60), (12,0,45,0), (3,2,0,0), (3,0,1,0), (27,29,2,57), (12,0,43,0), (3,2,0,0), (3,0,1,0), (0,0,0,1), (6,0,0,0), (27,25,2,72), (12,0,43,0), (3,2,0,0), (19,2,0,17), (0,1,0,41), (27,96,2,67), (12,0,43,0), (0,0,0,1), (14,0,44,0), (0,0,0,0), (28,3,0,0), (3,2,0,0), (19,2,0,17), (2,0,102,(-36)), (27,93,2,35), (12,1,55,0), (3,2,0,0), (19,2,0,17), (2,0,104,(-38)), (27,93,2,35), (12,0,59,0), (3,2,0,0), (3,0,1,0), (27,28,2,106), (28,3,0,0), (3,2,0,0), (19,2,3,25), (12,0,85,0), (3,2,0,0), (19,2,0,17), (2,0,109,(-40)), (27,93,2,35), (12,0,85,0), (3,2,0,0), (3,0,1,0), (27,29,2,57), (12,0,77,0), (3,2,0,0), (3,0,1,0), (0,0,0,1), (6,0,0,0), (27,27,2,90), (12,1,79,0), (0,0,0,0), (28,3,0,0), (3,2,0,0), (19,2,1,21), (0,1,0,(-13)), (27,59,2,46), (0,0,0,1), (28,3,0,0), (3,2,0,0), (19,2,0,17), (3,2,0,0), (19,2,2,11), (27,92,2,111), (4,0,2,0), (3,0,2,0), (0,0,0,(-1)), (13,1,102,0), (3,2,0,0), (19,2,0,17), (0,0,0,1), (3,2,0,0), (19,2,0,17), (19,10,3,79), (27,89,3,83), (28,3,0,0), (3,2,0,0), (19,2,0,17), (27,90,1,41), (3,2,0,0), (19,2,1,21), (0,1,0,(-100)), (3,0,2,0), (6,1,0,0), (27,59,2,46), (0,0,0,1), (28,3,0,0)]
/-- FireDrill$Formula.readLesserOrGreater(I)Z -/
def ax_p28 : List Nat := [0, 1, 4, 6, 9, 12, 14, 17, 19, 20, 21, 24, 27, 28, 31, 33, 36, 39, 40, 43, 44, 45, 48, 51, 54, 55, 56, 57, 60, 63, 64, 65, 66, 67, 70, 73, 74, 77, 79, 82, 85, 86, 87, 88, 89, 92, 95, 96, 97, 98, 101, 102, 105, 106, 109, 111, 114]
def ax_c28 : List ax_O := [(3,2,0,0), (19,2,0,17), (2,0,102,(-36)), (27,93,2,35), (12,0,7,0), (0,1,0,(-10)), (14,0,8,0), (0,1,0,(-11)), (4,0,2,0), (3,2,0,0), (19,2,0,17), (27,90,1,41), (3,2,0,0), (19,2,0,17), (0,1,0,40), (27,94,2,60), (12,1,25,0), (3,2,0,0), (19,2,0,17), (0,0,0,1), (3,2,0,0), (19,2,0,17), (19,10,3,79), (27,89,3,83), (28,3,0,0), (3,2,0,0), (3,0,1,0), (27,29,2,57), (12,0,46,0), (3,2,0,0), (3,0,1,0), (0,0,0,1), (6,0,0,0), (27,25,2,72), (12,0,46,0), (3,2,0,0), (19,2,0,17), (0,1,0,44), (27,96,2,67), (12,0,46,0), (3,2,0,0), (3,0,1,0), (0,0,0,1), (6,0,0,0), (27,25,2,72), (12,1,48,0), (0,0,0,0), (28,3,0,0), (3,2,0,0), (19,2,1,21), (3,0,2,0), (27,59,2,46), (3,2,0,0), (19,2,0,17), (0,1,0,41), (27,96,2,67), (28,3,0,0)]
/-- FireDrill$Formula.opens(I)Z -/
def ax_p29 : List Nat := [0, 1, 3, 6, 7, 10, 11, 12, 15, 18, 21, 22, 23, 26, 29, 30]
def ax_c29 : List ax_O := [(3,0,1,0), (0,1,0,6), (13,2,11,0), (3,2,0,0), (19,2,0,17), (0,0,0,4), (3,2,0,0), (19,2,0,17), (19,10,3,79), (27,89,3,83), (28,3,0,0), (3,2,0,0), (19,2,0,17), (27,90,1,41), (0,0,0,1), (28,3,0,0)]
/-- FireDrill$History.<init>()V -/
def ax_p30 : List Nat := [0, 1, 4, 5, 7, 9, 13, 16]
def ax_c30 : List ax_O := [(3,2,0,0), (30,0,0,1), (3,2,0,0), (0,1,0,20), (0,1,0,44), (26,0,0,11), (20,3,0,13), (28,2,0,0)]
/-- FireDrill$History.add(LFireDrill$State;)V -/
def ax_p31 : List Nat := [0, 1, 2, 5, 6, 9, 10, 13, 14, 15, 18, 19, 20, 22, 23, 26, 27, 29, 30, 33, 34, 35, 38, 41]
def ax_c31 : List ax_O := [(3,2,1,0), (3,2,0,0), (19,3,0,13), (3,2,0,0), (19,3,1,16), (21,4,0,0), (27,71,2,20), (3,2,0,0), (3,2,0,0), (19,3,1,16), (0,0,0,1), (6,0,0,0), (0,1,0,20), (6,4,0,0), (20,3,1,16), (3,2,0,0), (0,1,0,20), (3,2,0,0), (19,3,2,24), (0,0,0,1), (6,0,0,0), (27,306,2,27), (20,3,2,24), (28,2,0,0)]
/-- FireDrill$History.takeBack(LFireDrill$State;)V -/
def ax_p32 : List Nat := [0, 1, 2, 5, 7, 8, 9, 10, 12, 13, 16, 17, 18, 21, 22, 25, 26, 29, 30, 31, 34, 35, 36, 39]
def ax_c32 : List ax_O := [(3,2,0,0), (3,2,0,0), (19,3,1,16), (0,1,0,20), (6,0,0,0), (0,0,0,1), (6,1,0,0), (0,1,0,20), (6,4,0,0), (20,3,1,16), (3,2,1,0), (3,2,0,0), (19,3,0,13), (3,2,0,0), (19,3,1,16), (21,4,0,0), (27,72,2,33), (3,2,0,0), (16,0,0,0), (19,3,2,24), (0,0,0,1), (6,1,0,0), (20,3,2,24), (28,2,0,0)]
/-- FireDrill$House.<init>()V -/
def ax_p33 : List Nat := [0, 1, 4, 5, 7, 9, 12, 13, 14, 16, 19, 20, 22, 24, 27, 28, 30, 32, 35, 36, 38, 40, 43, 44, 46, 48, 51, 52, 53, 55, 58, 59, 61, 63, 66, 67, 69, 71, 74, 75, 77, 79, 82, 83, 85, 87, 90, 91, 94, 95, 98, 101, 102, 105, 106, 109, 112, 113, 116]
def ax_c33 : List ax_O := [(3,2,0,0), (30,0,0,3), (3,2,0,0), (0,1,0,8), (24,0,0,0), (20,4,4,9), (3,2,0,0), (0,0,0,5), (24,0,0,0), (20,4,5,15), (3,2,0,0), (0,1,0,8), (24,0,0,0), (20,4,6,18), (3,2,0,0), (0,1,0,10), (24,0,0,0), (20,4,7,21), (3,2,0,0), (0,1,0,10), (24,0,0,0), (20,4,8,24), (3,2,0,0), (0,1,0,10), (24,0,0,0), (20,4,9,27), (3,2,0,0), (0,0,0,5), (24,0,0,0), (20,4,10,30), (3,2,0,0), (0,1,0,8), (24,0,0,0), (20,4,11,33), (3,2,0,0), (0,1,0,8), (24,0,0,0), (20,4,12,36), (3,2,0,0), (0,1,0,8), (24,0,0,0), (20,4,13,39), (3,2,0,0), (0,1,0,8), (24,0,0,0), (20,4,14,42), (3,2,0,0), (25,7,0,45), (16,0,0,0), (27,58,1,47), (20,4,15,48), (3,2,0,0), (25,7,0,45), (16,0,0,0), (27,58,1,47), (20,4,16,52), (3,2,0,0), (27,34,1,55), (28,2,0,0)]
/-- FireDrill$House.clear()V -/
def ax_p34 : List Nat := [0, 1, 2, 5, 6, 7, 10, 11, 12, 15, 16, 17, 20, 21, 24, 25, 28, 29, 32, 33, 36, 37, 40, 42, 45, 46, 47, 50, 51, 52, 55, 56, 57, 60]
def ax_c34 : List ax_O := [(3,2,0,0), (0,0,0,0), (20,4,0,58), (3,2,0,0), (0,0,0,0), (20,4,1,62), (3,2,0,0), (0,0,0,0), (20,4,2,65), (3,2,0,0), (0,0,0,0), (20,4,3,68), (3,2,0,0), (19,4,15,48), (0,0,0,0), (20,7,1,71), (3,2,0,0), (19,4,16,52), (0,0,0,0), (20,7,1,71), (3,2,0,0), (19,4,16,52), (0,1,0,(-104)), (27,59,2,74), (3,2,0,0), (0,0,0,3), (20,4,17,78), (3,2,0,0), (0,0,0,2), (20,4,18,81), (3,2,0,0), (0,0,0,0), (20,4,19,84), (28,2,0,0)]
/-- FireDrill$House.find([III)I -/
def ax_p35 : List Nat := [0, 1, 2, 3, 4, 7, 8, 9, 10, 13, 14, 15, 16, 17, 20, 21, 22, 25, 28, 29]
def ax_c35 : List ax_O := [(0,0,0,0), (4,0,3,0), (3,0,3,0), (3,0,1,0), (13,3,18,0), (3,0,3,0), (3,2,0,0), (23,0,0,0), (13,3,18,0), (3,2,0,0), (3,0,3,0), (21,0,0,0), (3,0,2,0), (13,1,16,0), (3,0,3,0), (28,0,0,0), (5,3,0,1), (14,0,2,0), (0,0,0,(-1)), (28,0,0,0)]
/-- FireDrill$House.isNamed(I)Z -/
def ax_p36 : List Nat := [0, 1, 4, 5, 8, 9, 12, 13, 16, 17, 20, 21, 24, 25, 28, 29, 32, 33, 36, 37, 40, 41, 44, 45, 48, 49, 52, 53]
def ax_c36 : List ax_O := [(3,2,0,0), (19,4,4,9), (3,2,0,0), (19,4,0,58), (3,0,1,0), (27,35,3,87), (0,0,0,(-1)), (13,1,24,0), (3,2,0,0), (19,4,5,15), (3,2,0,0), (19,4,2,65), (3,0,1,0), (27,35,3,87), (0,0,0,(-1)), (13,1,24,0), (3,2,0,0), (19,4,6,18), (3,2,0,0), (19,4,3,68), (3,0,1,0), (27,35,3,87), (0,0,0,(-1)), (13,0,26,0), (0,0,0,1), (14,0,27,0), (0,0,0,0), (28,3,0,0)]
/-- FireDrill$House.hasStair(II)Z -/
def ax_p37 : List Nat := [0, 1, 2, 3, 4, 7, 10, 11, 12, 13, 16, 17, 20, 21, 22, 25, 28, 29]
def ax_c37 : List ax_O := [(0,0,0,0), (4,0,3,0), (3,0,3,0), (3,2,0,0), (19,4,1,62), (13,3,16,0), (3,2,0,0), (3,0,3,0), (3,0,1,0), (27,38,3,91), (3,0,2,0), (13,1,14,0), (0,0,0,1), (28,3,0,0), (5,3,0,1), (14,0,2,0), (0,0,0,0), (28,3,0,0)]
/-- FireDrill$House.leadsTo(II)I -/
def ax_p38 : List Nat := [0, 1, 4, 5, 6, 7, 10, 11, 14, 15, 16, 17, 18, 21, 22, 23, 24, 27, 28, 31, 32, 33, 36, 37]
def ax_c38 : List ax_O := [(3,2,0,0), (19,4,7,21), (3,0,1,0), (21,0,0,0), (3,0,2,0), (13,1,11,0), (3,2,0,0), (19,4,8,24), (3,0,1,0), (21,0,0,0), (28,0,0,0), (3,2,0,0), (19,4,8,24), (3,0,1,0), (21,0,0,0), (3,0,2,0), (13,1,22,0), (3,2,0,0), (19,4,7,21), (3,0,1,0), (21,0,0,0), (14,0,23,0), (0,0,0,(-1)), (28,0,0,0)]
/-- FireDrill$House.clerksOf(I)I -/
def ax_p39 : List Nat := [0, 1, 2, 3, 4, 5, 6, 9, 12, 13, 16, 17, 18, 19, 22, 23, 24, 25, 26, 27, 28, 31, 34, 35]
def ax_c39 : List ax_O := [(0,0,0,0), (4,0,2,0), (0,0,0,0), (4,0,3,0), (3,0,3,0), (3,2,0,0), (19,4,3,68), (13,3,22,0), (3,2,0,0), (19,4,12,36), (3,0,3,0), (21,0,0,0), (3,0,1,0), (13,1,20,0), (3,0,2,0), (0,0,0,1), (3,0,3,0), (6,8,0,0), (6,6,0,0), (4,0,2,0), (5,3,0,1), (14,0,4,0), (3,0,2,0), (28,0,0,0)]
/-- FireDrill$HouseReader.<init>(LFireDrill$Text;LFireDrill$Formula;)V -/
def ax_p40 : List Nat := [0, 1, 4, 5, 7, 9, 12, 13, 14, 17, 18, 19, 22]
def ax_c40 : List ax_O := [(3,2,0,0), (30,0,0,3), (3,2,0,0), (0,1,0,9), (24,0,0,0), (20,5,2,11), (3,2,0,0), (3,2,1,0), (20,5,0,15), (3,2,0,0), (3,2,2,0), (20,5,1,19), (28,2,0,0)]
/-- FireDrill$HouseReader.readHouse(LFireDrill$House;)I -/
def ax_p41 : List Nat := [0, 1, 4, 5, 6, 7, 8, 11, 12, 15, 16, 19, 20, 21, 22, 25, 28, 29, 32, 35, 36, 37, 38, 40, 43, 44, 47, 50, 53, 54, 55, 58, 61, 62, 65, 67, 70, 73, 74, 75, 78, 81, 82, 85, 88, 91, 92, 95, 96, 97, 100, 103, 106, 107, 108, 109, 110]
def ax_c41 : List ax_O := [(3,2,1,0), (27,34,1,23), (0,0,0,0), (4,0,2,0), (3,0,2,0), (3,2,0,0), (19,5,2,11), (23,0,0,0), (13,3,16,0), (3,2,0,0), (19,5,2,11), (3,0,2,0), (0,0,0,0), (22,0,0,0), (5,2,0,1), (14,0,4,0), (3,2,0,0), (19,5,0,15), (27,88,1,28), (0,0,0,0), (4,0,2,0), (3,0,2,0), (0,1,0,80), (13,3,41,0), (3,2,0,0), (19,5,0,15), (19,10,2,33), (12,0,41,0), (3,2,0,0), (3,2,1,0), (27,42,2,37), (12,0,37,0), (3,2,0,0), (19,5,0,15), (0,1,0,59), (27,96,2,41), (12,1,39,0), (0,0,0,(-1)), (28,0,0,0), (5,2,0,1), (14,0,21,0), (3,2,0,0), (19,5,0,15), (19,10,2,33), (12,0,55,0), (3,2,0,0), (19,5,0,15), (0,0,0,5), (3,2,0,0), (19,5,0,15), (19,10,3,45), (27,89,3,48), (18,0,0,0), (0,0,0,(-1)), (28,0,0,0), (3,0,2,0), (28,0,0,0)]
/-- FireDrill$HouseReader.readStatement(LFireDrill$House;)Z -/
def ax_p42 : List Nat := [0, 1, 4, 6, 9, 10, 11, 12, 15, 16, 19, 20, 21, 24, 27, 30, 31, 32, 35, 36, 37, 40, 41, 42, 45, 46, 49, 50, 51, 54, 57, 60, 61, 62, 65, 66, 67, 68, 69, 70, 71, 72, 75, 78, 79, 124, 125, 126, 129, 130, 131, 132, 135, 136, 137, 138, 141, 142, 143, 144, 147, 148, 149, 152, 153, 156, 158, 159, 162, 163, 166, 167, 170, 171, 172, 175, 176, 179, 180, 183, 184, 187, 189, 190, 193, 194, 197, 198, 201, 202, 203, 204, 207, 208, 209, 210, 213, 214, 215, 216, 219]
def ax_c42 : List ax_O := [(3,2,0,0), (19,5,0,15), (2,0,52,(-12)), (27,92,2,54), (4,0,2,0), (3,0,2,0), (0,0,0,(-1)), (13,1,16,0), (3,2,0,0), (19,5,0,15), (0,0,0,1), (3,2,0,0), (19,5,0,15), (19,10,3,45), (27,89,3,48), (28,3,0,0), (3,2,0,0), (19,5,2,11), (3,0,2,0), (21,0,0,0), (2,1,58,(-3)), (3,0,2,0), (21,0,0,0), (13,2,32,0), (3,2,0,0), (19,5,0,15), (0,0,0,5), (3,2,0,0), (19,5,0,15), (19,10,3,45), (27,89,3,48), (28,3,0,0), (3,2,0,0), (19,5,2,11), (3,0,2,0), (17,0,0,0), (21,0,0,0), (0,0,0,1), (6,0,0,0), (22,0,0,0), (3,2,0,0), (19,5,0,15), (27,90,1,61), (3,0,2,0), (15,0,0,0), (3,2,0,0), (3,2,1,0), (27,46,2,64), (28,3,0,0), (3,2,0,0), (3,2,1,0), (27,47,2,67), (28,3,0,0), (3,2,0,0), (3,2,1,0), (27,48,2,70), (28,3,0,0), (3,2,0,0), (3,2,1,0), (27,49,2,73), (28,3,0,0), (3,2,0,0), (19,5,1,19), (3,2,1,0), (19,4,15,76), (2,0,80,(-30)), (0,0,0,0), (27,20,4,82), (3,2,0,0), (19,5,1,19), (0,0,0,0), (27,21,2,88), (28,3,0,0), (3,2,1,0), (19,4,16,92), (0,0,0,0), (20,7,1,95), (3,2,0,0), (19,5,1,19), (3,2,1,0), (19,4,16,92), (2,0,100,(-46)), (0,0,0,0), (27,20,4,82), (3,2,0,0), (19,5,1,19), (0,0,0,0), (27,25,2,102), (28,3,0,0), (3,2,0,0), (3,2,1,0), (27,50,2,105), (28,3,0,0), (3,2,0,0), (3,2,1,0), (27,51,2,108), (28,3,0,0), (3,2,0,0), (3,2,1,0), (27,52,2,111), (28,3,0,0)]
/-- FireDrill$HouseReader.takeNewName(LFireDrill$House;)Z -/
def ax_p43 : List Nat := [0, 1, 4, 7, 10, 11, 12, 13, 14, 17, 20, 23, 26, 27, 30, 31, 32, 35, 38, 41, 44, 45, 48, 49]
def ax_c43 : List ax_O := [(3,2,0,0), (19,5,0,15), (27,98,1,114), (12,1,6,0), (0,0,0,0), (28,3,0,0), (3,2,1,0), (3,2,0,0), (19,5,0,15), (19,10,7,118), (27,36,2,121), (12,0,20,0), (3,2,0,0), (19,5,0,15), (0,0,0,3), (3,2,0,0), (19,5,0,15), (19,10,5,124), (27,89,3,48), (12,0,22,0), (0,0,0,1), (14,0,23,0), (0,0,0,0), (28,3,0,0)]
/-- FireDrill$HouseReader.takeOldName([II)I -/
def ax_p44 : List Nat := [0, 1, 4, 7, 10, 11, 12, 13, 14, 15, 18, 21, 24, 25, 26, 27, 30, 31, 34, 35, 36, 39, 42, 45, 46, 47]
def ax_c44 : List ax_O := [(3,2,0,0), (19,5,0,15), (27,98,1,114), (12,1,6,0), (0,0,0,(-1)), (28,0,0,0), (3,2,1,0), (3,0,2,0), (3,2,0,0), (19,5,0,15), (19,10,7,118), (27,35,3,127), (4,0,3,0), (3,0,3,0), (0,0,0,(-1)), (13,1,24,0), (3,2,0,0), (19,5,0,15), (0,0,0,3), (3,2,0,0), (19,5,0,15), (19,10,5,124), (27,89,3,48), (18,0,0,0), (3,0,3,0), (28,0,0,0)]
/-- FireDrill$HouseReader.takeSetting(Ljava/lang/String;II)Z -/
def ax_p45 : List Nat := [0, 1, 4, 5, 8, 11, 12, 15, 16, 17, 20, 23, 24, 27, 28]
def ax_c45 : List ax_O := [(3,2,0,0), (19,5,0,15), (3,2,1,0), (27,95,2,131), (12,0,13,0), (3,2,0,0), (19,5,0,15), (3,0,2,0), (3,0,3,0), (27,97,3,135), (12,0,13,0), (0,0,0,1), (14,0,14,0), (0,0,0,0), (28,3,0,0)]
/-- FireDrill$HouseReader.readRoom(LFireDrill$House;)Z -/
def ax_p46 : List Nat := [0, 1, 2, 5, 8, 9, 12, 14, 17, 18, 19, 20, 23, 24, 27, 28, 31, 34, 35, 36, 37, 40, 41, 42, 45, 46]
def ax_c46 : List ax_O := [(3,2,0,0), (3,2,1,0), (27,43,2,138), (12,0,8,0), (3,2,1,0), (19,4,0,141), (0,1,0,8), (13,2,10,0), (0,0,0,0), (28,3,0,0), (3,2,1,0), (19,4,4,144), (3,2,1,0), (19,4,0,141), (3,2,0,0), (19,5,0,15), (19,10,7,118), (22,0,0,0), (3,2,1,0), (16,0,0,0), (19,4,0,141), (0,0,0,1), (6,0,0,0), (20,4,0,141), (0,0,0,1), (28,3,0,0)]
/-- FireDrill$HouseReader.readStair(LFireDrill$House;)Z -/
def ax_p47 : List Nat := [0, 1, 2, 5, 6, 9, 12, 13, 14, 15, 18, 19, 22, 24, 27, 30, 31, 32, 33, 34, 37, 38, 41, 44, 45, 46, 47, 50, 51, 52, 53, 54, 57, 58, 59, 60, 63, 66, 67, 70, 71, 72, 75, 78, 81, 82, 83, 85, 86, 87, 90, 93, 94, 97, 99, 102, 103, 104, 105, 108, 109, 112, 113, 114, 115, 118, 119, 122, 123, 124, 125, 128, 129, 132, 133, 136, 139, 140, 141, 142, 145, 146, 147, 150, 151]
def ax_c47 : List ax_O := [(3,2,0,0), (3,2,1,0), (19,4,4,144), (3,2,1,0), (19,4,0,141), (27,44,3,147), (4,0,2,0), (3,0,2,0), (0,0,0,(-1)), (13,0,15,0), (3,2,0,0), (19,5,0,15), (2,0,151,(-16)), (27,95,2,131), (12,1,17,0), (0,0,0,0), (28,3,0,0), (3,2,0,0), (3,2,1,0), (19,4,4,144), (3,2,1,0), (19,4,0,141), (27,44,3,147), (4,0,3,0), (3,0,3,0), (0,0,0,(-1)), (13,1,29,0), (0,0,0,0), (28,3,0,0), (3,0,2,0), (3,0,3,0), (13,0,37,0), (3,2,1,0), (3,0,2,0), (3,0,3,0), (27,37,3,153), (12,0,45,0), (3,2,0,0), (19,5,0,15), (0,0,0,3), (3,2,0,0), (19,5,0,15), (19,10,5,124), (27,89,3,48), (28,3,0,0), (3,2,0,0), (2,0,156,(-18)), (0,0,0,1), (0,0,0,4), (27,45,4,158), (12,0,55,0), (3,2,1,0), (19,4,1,162), (0,1,0,10), (13,2,57,0), (0,0,0,0), (28,3,0,0), (3,2,1,0), (19,4,7,165), (3,2,1,0), (19,4,1,162), (3,0,2,0), (22,0,0,0), (3,2,1,0), (19,4,8,168), (3,2,1,0), (19,4,1,162), (3,0,3,0), (22,0,0,0), (3,2,1,0), (19,4,9,171), (3,2,1,0), (19,4,1,162), (3,2,0,0), (19,5,0,15), (19,10,6,174), (22,0,0,0), (3,2,1,0), (16,0,0,0), (19,4,1,162), (0,0,0,1), (6,0,0,0), (20,4,1,162), (0,0,0,1), (28,3,0,0)]
/-- FireDrill$HouseReader.readSection(LFireDrill$House;)Z -/
def ax_p48 : List Nat := [0, 1, 2, 5, 8, 9, 10, 11, 14, 17, 18, 19, 21, 22, 24, 27, 30, 31, 34, 35, 38, 39, 40, 41, 44, 45, 48, 49, 50, 51, 54, 55, 58, 59, 62, 65, 66, 67, 68, 71, 72, 73, 76, 77]
def ax_c48 : List ax_O := [(3,2,0,0), (3,2,1,0), (27,43,2,138), (12,1,6,0), (0,0,0,0), (28,3,0,0), (3,2,0,0), (19,5,0,15), (19,10,7,118), (4,0,2,0), (3,2,0,0), (2,0,177,(-20)), (0,0,0,0), (0,1,0,20), (27,45,4,158), (12,0,20,0), (3,2,1,0), (19,4,2,179), (0,0,0,5), (13,2,22,0), (0,0,0,0), (28,3,0,0), (3,2,1,0), (19,4,5,182), (3,2,1,0), (19,4,2,179), (3,0,2,0), (22,0,0,0), (3,2,1,0), (19,4,10,185), (3,2,1,0), (19,4,2,179), (3,2,0,0), (19,5,0,15), (19,10,6,174), (22,0,0,0), (3,2,1,0), (16,0,0,0), (19,4,2,179), (0,0,0,1), (6,0,0,0), (20,4,2,179), (0,0,0,1), (28,3,0,0)]
/-- FireDrill$HouseReader.readClerk(LFireDrill$House;)Z -/
def ax_p49 : List Nat := [0, 1, 4, 5, 6, 7, 10, 13, 14, 16, 19, 20, 21, 22, 25, 26, 27, 30, 33, 34, 35, 38, 40, 43, 46, 47, 48, 51, 52, 55, 58, 61, 62, 63, 64, 65, 68, 69, 70, 71, 74, 76, 79, 82, 83, 84, 87, 88, 91, 94, 97, 98, 100, 102, 103, 106, 107, 109, 110, 111, 114, 117, 118, 119, 120, 123, 124, 125, 128, 131, 132, 133, 135, 136, 138, 141, 144, 145, 146, 147, 150, 151, 152, 155, 158, 159, 160, 163, 164, 165, 166, 167, 170, 171, 173, 174, 175, 176, 179, 180, 181, 184, 185]
def ax_c49 : List ax_O := [(3,2,1,0), (19,4,3,188), (4,0,2,0), (3,2,0,0), (3,2,1,0), (27,43,2,138), (12,0,10,0), (3,0,2,0), (0,1,0,8), (13,2,12,0), (0,0,0,0), (28,3,0,0), (3,2,1,0), (19,4,6,191), (3,0,2,0), (3,2,0,0), (19,5,0,15), (19,10,7,118), (22,0,0,0), (3,2,0,0), (19,5,0,15), (2,0,194,(-22)), (27,95,2,131), (12,0,31,0), (3,2,0,0), (3,2,1,0), (19,4,4,144), (3,2,1,0), (19,4,0,141), (27,44,3,147), (14,0,32,0), (0,0,0,(-1)), (4,0,3,0), (3,0,3,0), (0,0,0,(-1)), (13,1,38,0), (0,0,0,0), (28,3,0,0), (3,2,0,0), (19,5,0,15), (2,0,196,(-24)), (27,95,2,131), (12,0,50,0), (3,2,0,0), (3,2,1,0), (19,4,5,182), (3,2,1,0), (19,4,2,179), (27,44,3,147), (14,0,51,0), (0,0,0,(-1)), (4,0,4,1), (3,0,4,1), (0,0,0,(-1)), (13,0,61,0), (3,2,0,0), (2,0,198,(-26)), (0,0,0,1), (0,0,0,3), (27,45,4,158), (12,1,63,0), (0,0,0,0), (28,3,0,0), (3,2,1,0), (19,4,13,200), (3,0,2,0), (3,2,0,0), (19,5,0,15), (19,10,6,174), (22,0,0,0), (3,2,0,0), (2,0,203,(-28)), (0,0,0,0), (0,1,0,9), (27,45,4,158), (12,1,78,0), (0,0,0,0), (28,3,0,0), (3,2,1,0), (19,4,14,205), (3,0,2,0), (3,2,0,0), (19,5,0,15), (19,10,6,174), (22,0,0,0), (3,2,1,0), (19,4,11,208), (3,0,2,0), (3,0,3,0), (22,0,0,0), (3,2,1,0), (19,4,12,211), (3,0,2,0), (3,0,4,1), (22,0,0,0), (3,2,1,0), (16,0,0,0), (19,4,3,188), (0,0,0,1), (6,0,0,0), (20,4,3,188), (0,0,0,1), (28,3,0,0)]
/-- FireDrill$HouseReader.readHears(LFireDrill$House;)Z -/
def ax_p50 : List Nat := [0, 1, 4, 5, 7, 10, 13, 14, 15, 16, 17, 20, 23, 26, 27]
def ax_c50 : List ax_O := [(3,2,0,0), (19,5,0,15), (0,0,0,0), (0,1,0,20), (27,97,3,135), (12,1,8,0), (0,0,0,0), (28,3,0,0), (3,2,1,0), (3,2,0,0), (19,5,0,15), (19,10,6,174), (20,4,17,214), (0,0,0,1), (28,3,0,0)]
/-- FireDrill$HouseReader.readSigns(LFireDrill$House;)Z -/
def ax_p51 : List Nat := [0, 1, 4, 5, 7, 10, 13, 14, 15, 16, 17, 20, 23, 26, 27]
def ax_c51 : List ax_O := [(3,2,0,0), (19,5,0,15), (0,0,0,1), (0,1,0,9), (27,97,3,135), (12,1,8,0), (0,0,0,0), (28,3,0,0), (3,2,1,0), (3,2,0,0), (19,5,0,15), (19,10,6,174), (20,4,18,217), (0,0,0,1), (28,3,0,0)]
/-- FireDrill$HouseReader.readSmoke(LFireDrill$House;)Z -/
def ax_p52 : List Nat := [0, 1, 4, 5, 7, 10, 13, 14, 15, 16, 17, 20, 23, 26, 27]
def ax_c52 : List ax_O := [(3,2,0,0), (19,5,0,15), (0,0,0,0), (0,1,0,100), (27,97,3,135), (12,1,8,0), (0,0,0,0), (28,3,0,0), (3,2,1,0), (3,2,0,0), (19,5,0,15), (19,10,6,174), (20,4,19,220), (0,0,0,1), (28,3,0,0)]
/-- FireDrill$Posting.<init>()V -/
def ax_p53 : List Nat := [0, 1, 4, 5, 6, 8, 11, 12, 13, 15, 18]
def ax_c53 : List ax_O := [(3,2,0,0), (30,0,0,3), (3,2,0,0), (0,0,0,5), (24,0,0,0), (20,6,0,9), (3,2,0,0), (0,0,0,5), (24,0,0,0), (20,6,2,15), (28,2,0,0)]
/-- FireDrill$Posting.find(LFireDrill$House;LFireDrill$State;LFireDrill$Drill;)V -/
def ax_p54 : List Nat := [0, 1, 2, 5, 6, 7, 8, 9, 10, 11, 14]
def ax_c54 : List ax_O := [(3,2,0,0), (0,0,0,(-1)), (20,6,1,18), (3,2,0,0), (3,2,1,0), (3,2,2,0), (3,2,3,0), (0,0,0,0), (0,0,0,0), (27,55,6,22), (28,2,0,0)]
/-- FireDrill$Posting.search(LFireDrill$House;LFireDrill$State;LFireDrill$Drill;II)V -/
def ax_p55 : List Nat := [0, 2, 3, 6, 9, 11, 12, 15, 16, 17, 18, 19, 20, 21, 24, 27, 28, 29, 31, 33, 34, 37, 40, 42, 44, 45, 46, 47, 50, 51, 54, 56, 58, 59, 60, 61, 62, 63, 65, 66, 67, 69, 70, 72, 73, 74, 77, 80, 83]
def ax_c55 : List ax_O := [(3,0,4,1), (3,2,1,0), (19,4,2,26), (13,3,7,0), (3,0,4,1), (0,0,0,5), (13,2,16,0), (3,2,0,0), (3,2,1,0), (3,2,0,0), (3,2,1,0), (3,2,2,0), (3,2,3,0), (27,57,4,31), (27,56,3,35), (28,2,0,0), (0,0,0,0), (4,0,6,1), (3,0,6,1), (3,2,1,0), (19,4,2,26), (13,3,48,0), (3,0,5,1), (3,0,6,1), (6,9,0,0), (0,0,0,1), (6,5,0,0), (12,1,46,0), (3,2,0,0), (19,6,2,15), (3,0,4,1), (3,0,6,1), (22,0,0,0), (3,2,0,0), (3,2,1,0), (3,2,2,0), (3,2,3,0), (3,0,4,1), (0,0,0,1), (6,0,0,0), (3,0,5,1), (0,0,0,1), (3,0,6,1), (6,8,0,0), (6,6,0,0), (27,55,6,22), (5,6,0,1), (14,0,18,0), (28,2,0,0)]
/-- FireDrill$Posting.keepIfMore(LFireDrill$House;I)V -/
def ax_p56 : List Nat := [0, 1, 2, 5, 8, 9, 10, 13, 14, 17, 18, 19, 22, 23, 24, 27, 30]
def ax_c56 : List ax_O := [(3,0,2,0), (3,2,0,0), (19,6,1,18), (13,5,16,0), (3,2,0,0), (3,0,2,0), (20,6,1,18), (3,2,0,0), (19,6,2,15), (0,0,0,0), (3,2,0,0), (19,6,0,9), (0,0,0,0), (3,2,1,0), (19,4,2,26), (29,0,0,39), (28,2,0,0)]
/-- FireDrill$Posting.count(LFireDrill$House;LFireDrill$State;LFireDrill$Drill;)I -/
def ax_p57 : List Nat := [0, 1, 3, 4, 6, 8, 9, 12, 15, 16, 19, 20, 23, 24, 27, 29, 30, 31, 32, 34, 36, 37, 38, 40, 42, 43, 46, 49, 51, 52, 55, 56, 59, 60, 63, 65, 66, 67, 68, 69, 72, 74, 76, 77, 80, 83, 84, 87, 89, 90, 92, 93, 94, 97, 100, 103, 106, 109, 112, 115, 117]
def ax_c57 : List ax_O := [(0,0,0,0), (4,0,4,1), (0,0,0,0), (4,0,5,1), (3,0,5,1), (3,2,1,0), (19,4,3,45), (13,3,59,0), (3,2,2,0), (19,8,1,48), (3,2,0,0), (19,6,2,15), (3,2,1,0), (19,4,12,53), (3,0,5,1), (21,0,0,0), (21,0,0,0), (21,0,0,0), (4,0,6,1), (3,0,5,1), (0,0,0,1), (6,0,0,0), (4,0,7,1), (3,0,7,1), (3,2,1,0), (19,4,3,45), (13,3,57,0), (3,0,6,1), (3,2,2,0), (19,8,1,48), (3,2,0,0), (19,6,2,15), (3,2,1,0), (19,4,12,53), (3,0,7,1), (21,0,0,0), (21,0,0,0), (21,0,0,0), (6,1,0,0), (27,303,1,56), (4,0,8,1), (3,0,8,1), (3,2,1,0), (19,4,17,62), (13,4,55,0), (3,2,3,0), (19,1,4,65), (3,0,5,1), (21,4,0,0), (3,0,7,1), (21,0,0,0), (3,2,1,0), (19,4,18,71), (13,2,55,0), (5,4,0,1), (5,7,0,1), (14,0,23,0), (5,5,0,1), (14,0,4,0), (3,0,4,1), (28,0,0,0)]
/-- FireDrill$Program.<init>()V -/
def ax_p58 : List Nat := [0, 1, 4, 5, 8, 10, 13, 14, 16, 18, 21]
def ax_c58 : List ax_O := [(3,2,0,0), (30,0,0,3), (3,2,0,0), (0,2,0,1600), (24,0,0,0), (20,7,0,9), (3,2,0,0), (0,1,0,64), (24,0,0,0), (20,7,2,15), (28,2,0,0)]
/-- FireDrill$Program.add(I)V -/
def ax_p59 : List Nat := [0, 1, 4, 5, 8, 9, 12, 13, 16, 17, 20, 21, 22, 23, 24, 27, 28, 29, 32]
def ax_c59 : List ax_O := [(3,2,0,0), (19,7,1,18), (3,2,0,0), (19,7,0,9), (23,0,0,0), (13,3,18,0), (3,2,0,0), (19,7,0,9), (3,2,0,0), (19,7,1,18), (3,0,1,0), (22,0,0,0), (3,2,0,0), (16,0,0,0), (19,7,1,18), (0,0,0,1), (6,0,0,0), (20,7,1,18), (28,2,0,0)]
/-- FireDrill$Program.valueFor([I[I)I -/
def ax_p60 : List Nat := [0, 1, 2, 3, 5, 7, 8, 11, 14, 15, 18, 20, 21, 23, 25, 28, 30, 32, 35, 36, 38, 41, 42, 43, 44, 47, 48, 50, 53, 55, 58, 59, 61, 63, 64, 67, 68, 71, 74, 76, 78, 81, 83, 85, 88, 89, 90, 93, 94, 95, 96, 99, 100, 101, 102, 103, 105, 106, 109, 110, 111, 112, 114, 116, 119, 120, 122, 123, 126, 127, 129, 132, 133, 136, 137, 138, 141, 142, 143, 146, 147, 150, 151, 152, 153, 155, 156, 159, 160, 161, 162, 163, 164, 167, 168, 169, 172, 173, 176, 179, 180, 183, 184, 187, 188, 189, 192, 193]
def ax_c60 : List ax_O := [(0,0,0,0), (4,0,3,0), (0,0,0,0), (4,0,4,1), (3,0,4,1), (3,2,0,0), (19,7,1,18), (13,3,99,0), (3,2,0,0), (19,7,0,9), (3,0,4,1), (21,0,0,0), (4,0,5,1), (3,0,5,1), (12,3,18,0), (3,0,5,1), (0,1,0,(-100)), (13,4,38,0), (3,0,3,0), (0,1,0,64), (13,2,23,0), (0,0,0,0), (28,0,0,0), (3,2,0,0), (19,7,2,15), (3,0,3,0), (3,0,5,1), (12,2,30,0), (3,0,5,1), (14,0,35,0), (3,2,1,0), (0,1,0,(-100)), (3,0,5,1), (6,1,0,0), (27,61,2,22), (22,0,0,0), (5,3,0,1), (14,0,97,0), (3,0,5,1), (0,1,0,(-12)), (13,0,44,0), (3,0,5,1), (0,1,0,(-13)), (13,1,73,0), (3,0,3,0), (0,0,0,1), (13,3,49,0), (0,0,0,0), (28,0,0,0), (3,2,0,0), (19,7,2,15), (3,0,3,0), (0,0,0,1), (6,1,0,0), (21,0,0,0), (4,0,6,1), (3,2,0,0), (19,7,2,15), (3,0,3,0), (0,0,0,1), (6,1,0,0), (3,0,5,1), (0,1,0,(-12)), (13,1,68,0), (0,0,0,1), (3,0,6,1), (6,1,0,0), (14,0,71,0), (3,2,2,0), (3,0,6,1), (27,61,2,22), (22,0,0,0), (14,0,97,0), (3,0,3,0), (0,0,0,2), (13,3,78,0), (0,0,0,0), (28,0,0,0), (5,3,0,(-1)), (3,2,0,0), (19,7,2,15), (3,0,3,0), (0,0,0,1), (6,1,0,0), (3,0,5,1), (3,2,0,0), (19,7,2,15), (3,0,3,0), (0,0,0,1), (6,1,0,0), (21,0,0,0), (3,2,0,0), (19,7,2,15), (3,0,3,0), (21,0,0,0), (27,62,3,26), (22,0,0,0), (5,4,0,1), (14,0,4,0), (3,0,3,0), (12,5,106,0), (3,2,0,0), (19,7,2,15), (0,0,0,0), (21,0,0,0), (14,0,107,0), (0,0,0,0), (28,0,0,0)]
/-- FireDrill$Program.valueAt([II)I -/
def ax_p61 : List Nat := [0, 1, 4, 5, 6, 7, 10, 11, 12, 13, 16, 17]
def ax_c61 : List ax_O := [(3,0,1,0), (12,2,10,0), (3,0,1,0), (3,2,0,0), (23,0,0,0), (13,3,10,0), (3,2,0,0), (3,0,1,0), (21,0,0,0), (14,0,11,0), (0,0,0,0), (28,0,0,0)]
/-- FireDrill$Program.join(III)I -/
def ax_p62 : List Nat := [0, 1, 60, 61, 62, 63, 64, 65, 68, 69, 70, 71, 72, 73, 74, 77, 78, 79, 80, 81, 82, 83, 86, 87, 88, 91, 92, 95, 96, 97, 100, 101, 102, 103, 106, 107, 110, 111, 112, 113, 114, 117, 118, 121, 122, 123, 124, 125, 128, 129, 132, 133, 134, 135, 136, 137, 138, 139, 140, 141, 142, 143, 144, 147, 148, 149, 150, 153, 154, 155]
def ax_c62 : List ax_O := [(3,0,0,0), (15,1,0,0), (3,0,1,0), (9,0,0,0), (3,0,2,0), (9,0,0,0), (7,0,0,0), (27,63,1,30), (28,0,0,0), (3,0,1,0), (9,0,0,0), (3,0,2,0), (9,0,0,0), (7,1,0,0), (27,63,1,30), (28,0,0,0), (3,0,1,0), (9,0,0,0), (3,0,2,0), (9,0,0,0), (7,2,0,0), (27,63,1,30), (28,0,0,0), (3,0,2,0), (12,1,27,0), (0,0,0,0), (14,0,30,0), (3,0,1,0), (3,0,2,0), (27,302,2,34), (28,0,0,0), (3,0,1,0), (3,0,2,0), (13,3,36,0), (0,0,0,1), (14,0,37,0), (0,0,0,0), (28,0,0,0), (3,0,1,0), (3,0,2,0), (13,5,43,0), (0,0,0,1), (14,0,44,0), (0,0,0,0), (28,0,0,0), (3,0,1,0), (3,0,2,0), (13,1,50,0), (0,0,0,1), (14,0,51,0), (0,0,0,0), (28,0,0,0), (3,0,1,0), (3,0,2,0), (6,5,0,0), (28,0,0,0), (3,0,1,0), (3,0,2,0), (6,6,0,0), (28,0,0,0), (3,0,1,0), (3,0,2,0), (27,306,2,40), (28,0,0,0), (3,0,1,0), (3,0,2,0), (27,304,2,43), (28,0,0,0), (0,0,0,0), (28,0,0,0)]
/-- FireDrill$Program.bounded(J)I -/
def ax_p63 : List Nat := [0, 1, 4, 5, 8, 10, 11, 12, 15, 16, 19, 21, 24, 25, 26]
def ax_c63 : List ax_O := [(3,1,0,0), (1,1,46,1000000), (11,0,0,0), (12,5,6,0), (0,3,48,1000000), (28,0,0,0), (3,1,0,0), (1,1,49,(-1000000)), (11,0,0,0), (12,3,12,0), (0,3,51,(-1000000)), (14,0,14,0), (3,1,0,0), (10,0,0,0), (28,0,0,0)]
/-- FireDrill$State.<init>()V -/
def ax_p64 : List Nat := [0, 1, 4, 5, 6, 8, 11, 12, 14, 16, 19, 20, 22, 24, 27]
def ax_c64 : List ax_O := [(3,2,0,0), (30,0,0,3), (3,2,0,0), (0,0,0,5), (24,0,0,0), (20,8,1,9), (3,2,0,0), (0,1,0,10), (24,0,0,0), (20,8,2,15), (3,2,0,0), (0,1,0,28), (24,0,0,0), (20,8,3,18), (28,2,0,0)]
/-- FireDrill$State.begin(LFireDrill$House;)V -/
def ax_p65 : List Nat := [0, 1, 2, 5, 6, 7, 8, 9, 12, 13, 16, 17, 18, 19, 22, 25, 26, 29, 30, 31, 34, 35, 36, 39, 42, 43, 44, 45, 47, 50, 51, 54, 55, 56, 57, 60, 63, 64, 65, 66, 68, 71, 72, 75, 76, 77, 78, 81, 84]
def ax_c65 : List ax_O := [(3,2,0,0), (0,0,0,0), (20,8,0,21), (0,0,0,0), (4,0,2,0), (3,0,2,0), (0,0,0,5), (13,3,24,0), (3,2,0,0), (19,8,1,9), (3,0,2,0), (3,0,2,0), (3,2,1,0), (19,4,2,25), (13,3,20,0), (3,2,1,0), (19,4,10,30), (3,0,2,0), (21,0,0,0), (14,0,21,0), (0,0,0,0), (22,0,0,0), (5,2,0,1), (14,0,5,0), (0,0,0,0), (4,0,2,0), (3,0,2,0), (0,1,0,10), (13,3,36,0), (3,2,0,0), (19,8,2,15), (3,0,2,0), (0,0,0,0), (22,0,0,0), (5,2,0,1), (14,0,26,0), (0,0,0,0), (4,0,2,0), (3,0,2,0), (0,1,0,28), (13,3,48,0), (3,2,0,0), (19,8,3,18), (3,0,2,0), (0,0,0,0), (22,0,0,0), (5,2,0,1), (14,0,38,0), (28,2,0,0)]
/-- FireDrill$State.pairOf(II)I -/
def ax_p66 : List Nat := [0, 1, 2, 5, 6, 7, 8, 11, 12, 13, 14, 15, 16, 17, 18, 19, 20, 21]
def ax_c66 : List ax_O := [(3,0,0,0), (3,0,1,0), (27,306,2,33), (4,0,2,0), (3,0,0,0), (3,0,1,0), (27,304,2,39), (4,0,3,0), (3,0,3,0), (3,0,3,0), (0,0,0,1), (6,1,0,0), (6,2,0,0), (0,0,0,2), (6,3,0,0), (3,0,2,0), (6,0,0,0), (28,0,0,0)]
/-- FireDrill$State.countShut()I -/
def ax_p67 : List Nat := [0, 1, 2, 3, 4, 5, 7, 10, 11, 12, 15, 16, 17, 18, 19, 22, 25, 26]
def ax_c67 : List ax_O := [(0,0,0,0), (4,0,1,0), (0,0,0,0), (4,0,2,0), (3,0,2,0), (0,1,0,10), (13,3,16,0), (3,0,1,0), (3,2,0,0), (19,8,2,15), (3,0,2,0), (21,0,0,0), (6,0,0,0), (4,0,1,0), (5,2,0,1), (14,0,4,0), (3,0,1,0), (28,0,0,0)]
/-- FireDrill$State.countSigned()I -/
def ax_p68 : List Nat := [0, 1, 2, 3, 4, 5, 7, 10, 11, 12, 15, 16, 17, 18, 19, 22, 25, 26]
def ax_c68 : List ax_O := [(0,0,0,0), (4,0,1,0), (0,0,0,0), (4,0,2,0), (3,0,2,0), (0,1,0,28), (13,3,16,0), (3,0,1,0), (3,2,0,0), (19,8,3,18), (3,0,2,0), (21,0,0,0), (6,0,0,0), (4,0,1,0), (5,2,0,1), (14,0,4,0), (3,0,1,0), (28,0,0,0)]
/-- FireDrill$State.signedOf(II)I -/
def ax_p69 : List Nat := [0, 1, 2, 3, 5, 7, 8, 11, 13, 14, 17, 18, 19, 22, 23, 25, 28, 29, 30, 31, 34, 37, 38]
def ax_c69 : List ax_O := [(0,0,0,0), (4,0,3,0), (0,0,0,0), (4,0,4,1), (3,0,4,1), (3,0,2,0), (13,3,21,0), (3,0,4,1), (3,0,1,0), (13,0,19,0), (3,0,3,0), (3,2,0,0), (19,8,3,18), (3,0,1,0), (3,0,4,1), (27,66,2,42), (21,0,0,0), (6,0,0,0), (4,0,3,0), (5,4,0,1), (14,0,4,0), (3,0,3,0), (28,0,0,0)]
/-- FireDrill$State.addDrill(LFireDrill$House;LFireDrill$Drill;)I -/
def ax_p70 : List Nat := [0, 1, 2, 3, 5, 7, 8, 11, 14, 16, 17, 18, 20, 22, 23, 26, 29, 30, 33, 35, 36, 38, 39, 40, 43, 46, 48, 50, 53, 55, 56, 59, 61, 64, 65, 68, 70, 71, 72, 73, 76, 77, 80, 83, 86, 89, 92, 93, 96, 97, 100, 101, 102, 105, 108, 109]
def ax_c70 : List ax_O := [(0,0,0,0), (4,0,3,0), (0,0,0,0), (4,0,4,1), (3,0,4,1), (3,2,1,0), (19,4,3,45), (13,3,46,0), (3,0,4,1), (0,0,0,1), (6,0,0,0), (4,0,5,1), (3,0,5,1), (3,2,1,0), (19,4,3,45), (13,3,44,0), (3,2,2,0), (19,1,5,48), (3,0,4,1), (21,4,0,0), (3,0,5,1), (21,0,0,0), (3,2,1,0), (19,4,18,54), (13,2,42,0), (3,0,4,1), (3,0,5,1), (27,66,2,42), (4,0,6,1), (3,2,0,0), (19,8,3,18), (3,0,6,1), (0,2,0,9999), (3,2,0,0), (19,8,3,18), (3,0,6,1), (21,0,0,0), (0,0,0,1), (6,0,0,0), (27,306,2,33), (22,0,0,0), (5,3,0,1), (5,5,0,1), (14,0,12,0), (5,4,0,1), (14,0,4,0), (3,2,0,0), (0,2,0,999), (3,2,0,0), (19,8,0,21), (0,0,0,1), (6,0,0,0), (27,306,2,33), (20,8,0,21), (3,0,3,0), (28,0,0,0)]
/-- FireDrill$State.copyTo([I)V -/
def ax_p71 : List Nat := [0, 1, 2, 3, 6, 7, 8, 11, 12, 13, 14, 15, 18, 19, 22, 23, 24, 26, 28, 31, 32, 35, 36, 37, 39, 41, 44]
def ax_c71 : List ax_O := [(3,2,1,0), (0,0,0,0), (3,2,0,0), (19,8,0,21), (22,0,0,0), (3,2,0,0), (19,8,1,9), (0,0,0,0), (3,2,1,0), (0,0,0,1), (0,0,0,5), (29,0,0,57), (3,2,0,0), (19,8,2,15), (0,0,0,0), (3,2,1,0), (0,1,0,6), (0,1,0,10), (29,0,0,57), (3,2,0,0), (19,8,3,18), (0,0,0,0), (3,2,1,0), (0,1,0,16), (0,1,0,28), (29,0,0,57), (28,2,0,0)]
/-- FireDrill$State.copyFrom([I)V -/
def ax_p72 : List Nat := [0, 1, 2, 3, 4, 7, 8, 9, 10, 13, 14, 15, 18, 19, 21, 22, 25, 26, 28, 31, 32, 34, 35, 38, 39, 41, 44]
def ax_c72 : List ax_O := [(3,2,0,0), (3,2,1,0), (0,0,0,0), (21,0,0,0), (20,8,0,21), (3,2,1,0), (0,0,0,1), (3,2,0,0), (19,8,1,9), (0,0,0,0), (0,0,0,5), (29,0,0,57), (3,2,1,0), (0,1,0,6), (3,2,0,0), (19,8,2,15), (0,0,0,0), (0,1,0,10), (29,0,0,57), (3,2,1,0), (0,1,0,16), (3,2,0,0), (19,8,3,18), (0,0,0,0), (0,1,0,28), (29,0,0,57), (28,2,0,0)]
/-- FireDrill$State.imageLength(LFireDrill$House;)I -/
def ax_p73 : List Nat := [0, 1, 2, 5, 6, 7, 10, 11, 12, 15, 16, 19, 20, 21, 22, 23, 24, 25]
def ax_c73 : List ax_O := [(0,0,0,2), (3,2,0,0), (19,4,2,25), (6,0,0,0), (3,2,0,0), (19,4,1,63), (6,0,0,0), (3,2,0,0), (19,4,3,45), (3,2,0,0), (19,4,3,45), (0,0,0,1), (6,1,0,0), (6,2,0,0), (6,0,0,0), (0,0,0,1), (6,0,0,0), (28,0,0,0)]
/-- FireDrill$State.checkOf([II)I -/
def ax_p74 : List Nat := [0, 2, 3, 4, 5, 6, 7, 10, 11, 12, 13, 14, 15, 16, 17, 20, 21, 22, 25, 28, 29]
def ax_c74 : List ax_O := [(0,1,0,107), (4,0,2,0), (0,0,0,0), (4,0,3,0), (3,0,3,0), (3,0,1,0), (13,3,19,0), (0,0,0,3), (3,0,2,0), (6,2,0,0), (3,2,0,0), (3,0,3,0), (21,0,0,0), (6,0,0,0), (0,2,0,251), (6,4,0,0), (4,0,2,0), (5,3,0,1), (14,0,4,0), (3,0,2,0), (28,0,0,0)]
/-- FireDrill$State.writeImage(LFireDrill$House;[I)I -/
def ax_p75 : List Nat := [0, 1, 2, 3, 6, 8, 9, 10, 11, 12, 13, 16, 19, 20, 21, 22, 23, 24, 26, 28, 29, 32, 35, 36, 37, 38, 41, 43, 44, 45, 48, 51, 54, 55, 57, 59, 60, 63, 66, 67, 68, 69, 72, 74, 75, 76, 79, 82, 85, 86, 88, 90, 91, 94, 97, 99, 100, 101, 103, 105, 106, 109, 112, 113, 114, 115, 118, 120, 122, 125, 126, 128, 129, 130, 131, 132, 133, 134, 135, 138, 140, 142, 145, 146, 149, 150, 151, 154, 157, 160, 163, 166, 167, 168, 169, 170, 173, 174, 175, 176, 177]
def ax_c75 : List ax_O := [(3,2,2,0), (0,0,0,0), (3,2,0,0), (19,8,0,21), (0,1,0,8), (6,9,0,0), (22,0,0,0), (3,2,2,0), (0,0,0,1), (3,2,0,0), (19,8,0,21), (0,2,0,255), (6,5,0,0), (22,0,0,0), (0,0,0,2), (4,0,3,0), (0,0,0,0), (4,0,4,1), (3,0,4,1), (3,2,1,0), (19,4,2,25), (13,3,32,0), (3,2,2,0), (3,0,3,0), (3,2,0,0), (19,8,1,9), (3,0,4,1), (21,0,0,0), (22,0,0,0), (5,4,0,1), (5,3,0,1), (14,0,18,0), (0,0,0,0), (4,0,4,1), (3,0,4,1), (3,2,1,0), (19,4,1,63), (13,3,48,0), (3,2,2,0), (3,0,3,0), (3,2,0,0), (19,8,2,15), (3,0,4,1), (21,0,0,0), (22,0,0,0), (5,4,0,1), (5,3,0,1), (14,0,34,0), (0,0,0,0), (4,0,4,1), (3,0,4,1), (3,2,1,0), (19,4,3,45), (13,3,91,0), (3,0,4,1), (0,0,0,1), (6,0,0,0), (4,0,5,1), (3,0,5,1), (3,2,1,0), (19,4,3,45), (13,3,89,0), (3,2,2,0), (3,0,3,0), (3,2,0,0), (19,8,3,18), (3,0,4,1), (3,0,5,1), (27,66,2,42), (21,0,0,0), (0,1,0,8), (6,9,0,0), (22,0,0,0), (3,2,2,0), (3,0,3,0), (0,0,0,1), (6,0,0,0), (3,2,0,0), (19,8,3,18), (3,0,4,1), (3,0,5,1), (27,66,2,42), (21,0,0,0), (0,2,0,255), (6,5,0,0), (22,0,0,0), (5,5,0,1), (5,3,0,2), (14,0,58,0), (5,4,0,1), (14,0,50,0), (3,2,2,0), (3,0,3,0), (3,2,2,0), (3,0,3,0), (27,74,2,66), (22,0,0,0), (3,0,3,0), (0,0,0,1), (6,0,0,0), (28,0,0,0)]
/-- FireDrill$State.isImage(LFireDrill$House;LFireDrill$Text;)Z -/
def ax_p76 : List Nat := [0, 1, 4, 5, 6, 7, 8, 11, 12, 13, 16, 17, 18, 19, 22, 23, 24, 25, 26, 27, 30, 33, 34, 35, 38, 39, 40, 41, 42, 43, 44, 45, 46, 49, 52, 53, 56, 57, 59, 60, 61, 64, 65, 67, 69, 70, 73, 74, 76, 77, 79, 81, 83, 86, 88, 91, 92, 94, 95, 97, 100, 101, 104, 105, 107, 110, 113, 115, 117, 119, 121, 124, 126, 129, 130, 132, 133, 134, 137, 138, 141, 142, 144, 147, 150, 152, 154, 156, 157, 158, 159, 162, 164, 167, 170, 171, 173, 174, 175, 176, 178, 179, 180, 181, 182, 185, 188, 189, 192, 193, 195, 198, 201, 203]
def ax_c76 : List ax_O := [(3,2,0,0), (27,73,1,70), (0,0,0,1), (6,1,0,0), (4,0,2,0), (3,2,1,0), (19,10,0,74), (4,2,3,0), (3,2,1,0), (19,10,1,79), (3,0,2,0), (0,0,0,1), (6,0,0,0), (13,1,21,0), (3,2,3,0), (3,0,2,0), (21,0,0,0), (3,2,3,0), (3,0,2,0), (27,74,2,66), (13,0,23,0), (0,0,0,0), (28,3,0,0), (0,2,0,256), (3,2,3,0), (0,0,0,0), (21,0,0,0), (6,2,0,0), (3,2,3,0), (0,0,0,1), (21,0,0,0), (6,0,0,0), (0,2,0,999), (13,4,36,0), (0,0,0,1), (14,0,37,0), (0,0,0,0), (4,0,4,1), (0,0,0,2), (3,2,0,0), (19,4,2,25), (6,0,0,0), (4,0,5,1), (3,0,5,1), (3,2,0,0), (19,4,1,63), (6,0,0,0), (4,0,6,1), (0,0,0,2), (4,0,7,1), (3,0,7,1), (3,0,5,1), (13,3,66,0), (3,0,4,1), (12,0,62,0), (3,2,3,0), (3,0,7,1), (21,0,0,0), (0,1,0,20), (13,4,62,0), (0,0,0,1), (14,0,63,0), (0,0,0,0), (4,0,4,1), (5,7,0,1), (14,0,50,0), (3,0,5,1), (4,0,7,1), (3,0,7,1), (3,0,6,1), (13,3,84,0), (3,0,4,1), (12,0,80,0), (3,2,3,0), (3,0,7,1), (21,0,0,0), (0,0,0,1), (13,4,80,0), (0,0,0,1), (14,0,81,0), (0,0,0,0), (4,0,4,1), (5,7,0,1), (14,0,68,0), (3,0,6,1), (4,0,7,1), (3,0,7,1), (0,0,0,1), (6,0,0,0), (3,0,2,0), (13,3,112,0), (3,0,4,1), (12,0,108,0), (0,2,0,256), (3,2,3,0), (3,0,7,1), (21,0,0,0), (6,2,0,0), (3,2,3,0), (3,0,7,1), (0,0,0,1), (6,0,0,0), (21,0,0,0), (6,0,0,0), (0,2,0,9999), (13,4,108,0), (0,0,0,1), (14,0,109,0), (0,0,0,0), (4,0,4,1), (5,7,0,2), (14,0,86,0), (3,0,4,1), (28,3,0,0)]
/-- FireDrill$State.readImage(LFireDrill$House;[I)V -/
def ax_p77 : List Nat := [0, 1, 4, 5, 6, 7, 8, 9, 10, 11, 12, 15, 16, 17, 18, 20, 22, 23, 26, 29, 30, 33, 35, 36, 37, 38, 39, 42, 45, 48, 49, 51, 53, 54, 57, 60, 61, 64, 66, 67, 68, 69, 70, 73, 76, 79, 80, 82, 84, 85, 88, 91, 93, 94, 95, 97, 99, 100, 103, 106, 107, 110, 112, 114, 117, 120, 121, 122, 123, 124, 125, 126, 127, 128, 129, 130, 131, 134, 137, 140, 143, 146]
def ax_c77 : List ax_O := [(3,2,0,0), (0,2,0,256), (3,2,2,0), (0,0,0,0), (21,0,0,0), (6,2,0,0), (3,2,2,0), (0,0,0,1), (21,0,0,0), (6,0,0,0), (20,8,0,21), (0,0,0,2), (4,0,3,0), (0,0,0,0), (4,0,4,1), (3,0,4,1), (3,2,1,0), (19,4,2,25), (13,3,29,0), (3,2,0,0), (19,8,1,9), (3,0,4,1), (3,2,2,0), (3,0,3,0), (21,0,0,0), (22,0,0,0), (5,4,0,1), (5,3,0,1), (14,0,15,0), (0,0,0,0), (4,0,4,1), (3,0,4,1), (3,2,1,0), (19,4,1,63), (13,3,45,0), (3,2,0,0), (19,8,2,15), (3,0,4,1), (3,2,2,0), (3,0,3,0), (21,0,0,0), (22,0,0,0), (5,4,0,1), (5,3,0,1), (14,0,31,0), (0,0,0,0), (4,0,4,1), (3,0,4,1), (3,2,1,0), (19,4,3,45), (13,3,81,0), (3,0,4,1), (0,0,0,1), (6,0,0,0), (4,0,5,1), (3,0,5,1), (3,2,1,0), (19,4,3,45), (13,3,79,0), (3,2,0,0), (19,8,3,18), (3,0,4,1), (3,0,5,1), (27,66,2,42), (0,2,0,256), (3,2,2,0), (3,0,3,0), (21,0,0,0), (6,2,0,0), (3,2,2,0), (3,0,3,0), (0,0,0,1), (6,0,0,0), (21,0,0,0), (6,0,0,0), (22,0,0,0), (5,5,0,1), (5,3,0,2), (14,0,55,0), (5,4,0,1), (14,0,47,0), (28,2,0,0)]
/-- FireDrill$Suspects.<init>()V -/
def ax_p78 : List Nat := [0, 1, 4, 5, 7, 9, 12, 13, 15, 17, 20, 21, 23, 25, 28, 29, 31, 33, 37, 40]
def ax_c78 : List ax_O := [(3,2,0,0), (30,0,0,3), (3,2,0,0), (0,1,0,16), (24,0,0,0), (20,9,1,11), (3,2,0,0), (0,1,0,16), (24,0,0,0), (20,9,2,15), (3,2,0,0), (0,1,0,11), (24,0,0,0), (20,9,3,18), (3,2,0,0), (0,1,0,11), (0,1,0,8), (26,0,0,21), (20,9,4,23), (28,2,0,0)]
/-- FireDrill$Suspects.takeSeen(LFireDrill$Text;I)Z -/
def ax_p79 : List Nat := [0, 1, 4, 5, 8, 9, 12, 14, 17, 18, 21, 22, 23, 26, 27, 28, 29, 30, 31, 32, 33, 34, 37, 40, 41, 44, 45, 46, 47, 50, 51, 54, 55, 56, 57, 58, 61, 64, 65, 66, 69, 72, 73, 74, 77, 78, 79, 82, 83, 84, 85, 86, 89, 92, 93, 96, 97, 98, 99, 100, 101, 102, 104, 105, 108, 109, 110, 113, 114, 115, 116, 117, 118, 119, 122, 123, 125, 128, 131, 132, 135, 137, 138, 141, 144, 145]
def ax_c79 : List ax_O := [(3,2,1,0), (19,10,1,26), (0,0,0,2), (13,2,13,0), (3,2,1,0), (19,10,1,26), (0,1,0,32), (13,4,13,0), (3,2,1,0), (19,10,1,26), (0,0,0,2), (6,4,0,0), (12,0,15,0), (0,0,0,0), (28,3,0,0), (0,0,0,0), (4,0,3,0), (3,0,3,0), (0,0,0,1), (6,0,0,0), (3,2,1,0), (19,10,1,26), (13,3,41,0), (3,2,1,0), (19,10,0,32), (3,0,3,0), (21,0,0,0), (3,0,2,0), (13,3,37,0), (3,2,1,0), (19,10,0,32), (3,0,3,0), (0,0,0,1), (6,0,0,0), (21,0,0,0), (27,80,1,35), (12,1,39,0), (0,0,0,0), (28,3,0,0), (5,3,0,2), (14,0,17,0), (3,2,0,0), (3,2,1,0), (19,10,1,26), (0,0,0,2), (6,3,0,0), (20,9,0,39), (0,0,0,0), (4,0,3,0), (3,0,3,0), (3,2,0,0), (19,9,0,39), (13,3,84,0), (3,2,1,0), (19,10,0,32), (0,0,0,2), (3,0,3,0), (6,2,0,0), (0,0,0,1), (6,0,0,0), (21,0,0,0), (4,0,4,1), (3,2,0,0), (19,9,1,11), (3,0,3,0), (3,2,1,0), (19,10,0,32), (0,0,0,2), (3,0,3,0), (6,2,0,0), (21,0,0,0), (22,0,0,0), (3,2,0,0), (19,9,2,15), (3,0,3,0), (3,0,4,1), (0,2,0,255), (13,1,80,0), (0,0,0,(-1)), (14,0,81,0), (3,0,4,1), (22,0,0,0), (5,3,0,1), (14,0,49,0), (0,0,0,1), (28,3,0,0)]
/-- FireDrill$Suspects.isMinute(I)Z -/
def ax_p80 : List Nat := [0, 1, 3, 6, 7, 9, 12, 13, 16, 19, 20, 23, 24]
def ax_c80 : List ax_O := [(3,0,0,0), (0,1,0,9), (13,2,9,0), (3,0,0,0), (0,1,0,99), (13,0,9,0), (3,0,0,0), (0,2,0,255), (13,1,11,0), (0,0,0,1), (14,0,12,0), (0,0,0,0), (28,3,0,0)]
/-- FireDrill$Suspects.gather(LFireDrill$House;LFireDrill$State;LFireDrill$Drill;)V -/
def ax_p81 : List Nat := [0, 1, 3, 5, 7, 10, 11, 14, 16, 17, 18, 20, 22, 25, 27, 28, 31, 34, 35, 38, 40, 41, 44, 45, 48, 49, 51, 53, 56, 57, 58, 59, 61, 63, 66, 67, 70, 72, 73, 76, 77, 80, 81, 82, 85, 87, 88, 89, 91, 94, 95, 98, 100, 101, 102, 105, 107, 108, 111, 114, 115, 118, 119, 120, 123, 126]
def ax_c81 : List ax_O := [(0,0,0,0), (4,0,4,1), (3,0,4,1), (0,1,0,10), (13,4,65,0), (3,2,0,0), (19,9,3,18), (3,0,4,1), (0,0,0,0), (22,0,0,0), (3,0,4,1), (0,1,0,10), (13,0,22,0), (3,0,4,1), (3,2,1,0), (19,4,1,42), (13,3,24,0), (3,2,2,0), (19,8,2,47), (3,0,4,1), (21,0,0,0), (12,1,24,0), (0,0,0,1), (14,0,25,0), (0,0,0,0), (4,0,5,1), (3,0,5,1), (12,0,63,0), (3,2,3,0), (3,2,1,0), (3,2,2,0), (3,0,4,1), (0,1,0,10), (13,1,36,0), (0,0,0,(-1)), (14,0,37,0), (3,0,4,1), (0,0,0,(-1)), (27,4,5,52), (3,2,3,0), (19,1,1,58), (0,0,0,0), (3,2,0,0), (19,9,4,23), (3,0,4,1), (21,4,0,0), (0,0,0,0), (0,1,0,8), (29,0,0,60), (3,2,0,0), (19,9,3,18), (3,0,4,1), (3,2,0,0), (3,2,0,0), (19,9,4,23), (3,0,4,1), (21,4,0,0), (27,82,2,66), (12,0,61,0), (0,0,0,1), (14,0,62,0), (0,0,0,0), (22,0,0,0), (5,4,0,1), (14,0,2,0), (28,2,0,0)]
/-- FireDrill$Suspects.isAsSeen([I)Z -/
def ax_p82 : List Nat := [0, 1, 2, 3, 4, 7, 10, 11, 12, 15, 16, 17, 18, 19, 22, 23, 24, 27, 28, 29, 32, 35, 36]
def ax_c82 : List ax_O := [(0,0,0,0), (4,0,2,0), (3,0,2,0), (3,2,0,0), (19,9,0,39), (13,3,21,0), (3,2,1,0), (3,2,0,0), (19,9,1,11), (3,0,2,0), (21,0,0,0), (21,0,0,0), (3,2,0,0), (19,9,2,15), (3,0,2,0), (21,0,0,0), (13,0,19,0), (0,0,0,0), (28,3,0,0), (5,2,0,1), (14,0,2,0), (0,0,0,1), (28,3,0,0)]
/-- FireDrill$Suspects.bits()I -/
def ax_p83 : List Nat := [0, 1, 2, 3, 4, 5, 7, 10, 11, 12, 15, 16, 17, 18, 19, 20, 21, 24, 27, 28]
def ax_c83 : List ax_O := [(0,0,0,0), (4,0,1,0), (0,0,0,0), (4,0,2,0), (3,0,2,0), (0,1,0,10), (13,3,18,0), (3,0,1,0), (3,2,0,0), (19,9,3,18), (3,0,2,0), (21,0,0,0), (3,0,2,0), (6,8,0,0), (6,6,0,0), (4,0,1,0), (5,2,0,1), (14,0,4,0), (3,0,1,0), (28,0,0,0)]
/-- FireDrill$Suspects.choose(I)V -/
def ax_p84 : List Nat := [0, 1, 2, 5, 6, 7, 10, 11, 12, 13, 14, 17, 18, 19, 22, 23, 24, 27, 28, 31, 32, 35, 36, 37, 40, 43, 44, 45, 48, 49, 50, 53, 56, 59]
def ax_c84 : List ax_O := [(3,2,0,0), (0,0,0,(-1)), (20,9,5,70), (3,2,0,0), (0,0,0,(-1)), (20,9,6,73), (0,0,0,0), (4,0,2,0), (3,0,2,0), (3,0,1,0), (13,3,33,0), (3,2,0,0), (3,0,2,0), (27,85,2,76), (4,0,3,0), (3,0,3,0), (12,5,31,0), (3,2,0,0), (19,9,5,70), (0,0,0,(-1)), (13,0,25,0), (3,0,3,0), (3,2,0,0), (19,9,6,73), (13,3,31,0), (3,2,0,0), (3,0,2,0), (20,9,5,70), (3,2,0,0), (3,0,3,0), (20,9,6,73), (5,2,0,1), (14,0,8,0), (28,2,0,0)]
/-- FireDrill$Suspects.mostLeft(I)I -/
def ax_p85 : List Nat := [0, 1, 2, 3, 4, 5, 7, 10, 11, 13, 14, 16, 18, 20, 23, 24, 27, 28, 29, 30, 33, 34, 37, 39, 40, 41, 44, 45, 48, 49, 50, 51, 52, 53, 56, 58, 59, 60, 61, 64, 67, 70, 73, 74, 76, 79, 80, 83, 86, 87]
def ax_c85 : List ax_O := [(0,0,0,0), (4,0,2,0), (0,0,0,0), (4,0,3,0), (3,0,3,0), (0,1,0,10), (13,4,48,0), (0,0,0,0), (4,0,4,1), (0,0,0,0), (4,0,5,1), (3,0,5,1), (0,1,0,10), (13,4,42,0), (3,2,0,0), (19,9,3,18), (3,0,3,0), (21,0,0,0), (0,0,0,1), (13,1,40,0), (3,2,0,0), (19,9,3,18), (3,0,5,1), (21,0,0,0), (0,0,0,1), (13,1,40,0), (3,2,0,0), (19,9,4,23), (3,0,3,0), (21,4,0,0), (3,0,1,0), (21,0,0,0), (3,2,0,0), (19,9,4,23), (3,0,5,1), (21,4,0,0), (3,0,1,0), (21,0,0,0), (13,1,40,0), (5,4,0,1), (5,5,0,1), (14,0,11,0), (3,0,2,0), (3,0,4,1), (27,304,2,80), (4,0,2,0), (5,3,0,1), (14,0,4,0), (3,0,2,0), (28,0,0,0)]
/-- FireDrill$Text.<init>()V -/
def ax_p86 : List Nat := [0, 1, 4, 5, 8, 10, 13, 14, 15, 18]
def ax_c86 : List ax_O := [(3,2,0,0), (30,0,0,3), (3,2,0,0), (0,2,0,1600), (24,0,0,0), (20,10,0,9), (3,2,0,0), (0,0,0,(-1)), (20,10,9,15), (28,2,0,0)]
/-- FireDrill$Text.add(I)V -/
def ax_p87 : List Nat := [0, 2, 3, 4, 7, 8, 11, 12, 15, 16, 19, 20, 23, 24, 27, 28, 29, 30, 33, 34, 35, 36, 37, 40, 41, 42, 45, 48, 51]
def ax_c87 : List ax_O := [(0,1,0,24), (4,0,2,0), (3,0,2,0), (12,2,28,0), (3,2,0,0), (19,10,1,19), (3,2,0,0), (19,10,0,9), (23,0,0,0), (13,3,28,0), (3,2,0,0), (19,10,0,9), (3,2,0,0), (19,10,1,19), (3,0,1,0), (3,0,2,0), (6,9,0,0), (0,2,0,255), (6,5,0,0), (22,0,0,0), (3,2,0,0), (16,0,0,0), (19,10,1,19), (0,0,0,1), (6,0,0,0), (20,10,1,19), (5,2,0,(-8)), (14,0,2,0), (28,2,0,0)]
/-- FireDrill$Text.open()V -/
def ax_p88 : List Nat := [0, 1, 2, 5, 6, 7, 10, 11, 12, 15, 16, 17, 20, 21, 24]
def ax_c88 : List ax_O := [(3,2,0,0), (0,0,0,3), (20,10,2,22), (3,2,0,0), (0,0,0,0), (20,10,4,25), (3,2,0,0), (0,0,0,0), (20,10,8,28), (3,2,0,0), (0,0,0,(-1)), (20,10,9,15), (3,2,0,0), (27,90,1,31), (28,2,0,0)]
/-- FireDrill$Text.fail(II)Z -/
def ax_p89 : List Nat := [0, 1, 2, 5, 6, 7, 10, 11]
def ax_c89 : List ax_O := [(3,2,0,0), (3,0,1,0), (20,10,8,28), (3,2,0,0), (3,0,2,0), (20,10,9,15), (0,0,0,0), (28,3,0,0)]
/-- FireDrill$Text.step()V -/
def ax_p90 : List Nat := [0, 1, 4, 5, 8, 9, 12, 13, 16, 17, 20, 21, 22, 23, 26, 27, 28, 29, 32, 35, 36, 39, 40, 41, 43, 46, 47, 50, 51, 52, 54, 57, 60, 63, 64, 67, 68, 69, 72, 75, 76, 79, 80, 81, 82, 83, 86, 87, 88, 89, 92, 95, 96, 99, 100, 103, 104, 107, 108, 111, 112, 115, 116, 118, 120, 123, 124, 125, 128, 131, 132, 133, 136, 137, 140, 143, 146, 149, 150, 151, 154, 155, 158, 159, 160, 161, 164, 165, 168, 170, 173, 174, 177, 178, 179, 182]
def ax_c90 : List ax_O := [(3,2,0,0), (19,10,2,22), (0,0,0,1), (13,0,8,0), (3,2,0,0), (19,10,2,22), (0,0,0,2), (13,1,10,0), (0,0,0,1), (14,0,11,0), (0,0,0,0), (4,0,1,0), (3,2,0,0), (19,10,4,25), (4,0,2,0), (3,0,2,0), (3,2,0,0), (19,10,1,19), (13,3,33,0), (3,2,0,0), (19,10,0,9), (3,0,2,0), (21,0,0,0), (0,1,0,10), (13,0,31,0), (3,2,0,0), (19,10,0,9), (3,0,2,0), (21,0,0,0), (0,1,0,32), (13,1,33,0), (5,2,0,1), (14,0,15,0), (3,0,1,0), (12,0,41,0), (3,0,2,0), (3,2,0,0), (19,10,4,25), (13,1,41,0), (0,0,0,1), (14,0,42,0), (0,0,0,0), (4,0,3,0), (3,2,0,0), (3,0,2,0), (20,10,3,34), (3,2,0,0), (3,2,0,0), (3,0,2,0), (27,91,2,37), (20,10,2,22), (3,2,0,0), (19,10,2,22), (0,0,0,1), (13,0,59,0), (3,2,0,0), (19,10,2,22), (0,0,0,2), (13,1,61,0), (0,0,0,1), (14,0,62,0), (0,0,0,0), (4,0,4,1), (3,0,4,1), (12,0,77,0), (3,0,2,0), (3,2,0,0), (19,10,1,19), (13,3,77,0), (3,2,0,0), (3,0,2,0), (27,91,2,37), (3,2,0,0), (19,10,2,22), (13,1,77,0), (5,2,0,1), (14,0,63,0), (3,2,0,0), (3,2,0,0), (19,10,2,22), (0,0,0,3), (13,1,86,0), (3,0,2,0), (0,0,0,1), (6,0,0,0), (14,0,87,0), (3,0,2,0), (20,10,4,25), (3,0,4,1), (12,0,95,0), (3,0,3,0), (12,0,95,0), (3,2,0,0), (0,0,0,4), (20,10,2,22), (28,2,0,0)]
/-- FireDrill$Text.kindAt(I)I -/
def ax_p91 : List Nat := [0, 1, 2, 5, 8, 9, 10, 11, 14, 15, 16, 17, 18, 20, 23, 24, 26, 29, 30, 31, 32, 34, 37, 38, 40, 43, 44, 47, 48]
def ax_c91 : List ax_O := [(3,0,1,0), (3,2,0,0), (19,10,1,19), (13,2,6,0), (0,0,0,0), (28,0,0,0), (3,2,0,0), (19,10,0,9), (3,0,1,0), (21,0,0,0), (4,0,2,0), (3,0,2,0), (0,1,0,97), (13,2,19,0), (3,0,2,0), (0,1,0,122), (13,4,19,0), (0,0,0,1), (28,0,0,0), (3,0,2,0), (0,1,0,48), (13,2,27,0), (3,0,2,0), (0,1,0,57), (13,4,27,0), (0,0,0,2), (14,0,28,0), (0,0,0,3), (28,0,0,0)]
/-- FireDrill$Text.placeIn(Ljava/lang/String;)I -/
def ax_p92 : List Nat := [0, 1, 2, 3, 4, 5, 8, 9, 12, 13, 16, 17, 19, 20, 22, 23, 26, 27, 30, 32, 33, 36, 39, 41, 42, 45, 48, 49, 51, 54, 56, 59, 60, 63, 64, 66, 68, 71, 73, 76, 78, 79, 80, 81, 84, 85, 88, 89, 92, 93, 94, 96, 99, 102, 104, 105, 106, 107, 108, 110, 113, 114, 117, 119, 120, 121, 122, 124, 126, 129, 131, 132, 135, 138, 139, 142, 144, 145, 146, 148, 151, 154, 155, 158, 159, 161, 164, 167, 168]
def ax_c92 : List ax_O := [(0,0,0,0), (4,0,2,0), (0,0,0,0), (4,0,3,0), (3,2,0,0), (19,10,2,22), (0,0,0,1), (13,1,10,0), (0,0,0,1), (14,0,11,0), (0,0,0,0), (4,0,4,1), (0,0,0,0), (4,0,5,1), (3,2,0,0), (19,10,2,22), (0,0,0,1), (13,1,87,0), (3,0,5,1), (3,2,1,0), (27,308,1,41), (13,4,87,0), (3,0,5,1), (3,2,1,0), (27,308,1,41), (13,0,31,0), (3,2,1,0), (3,0,5,1), (27,309,2,46), (0,1,0,32), (13,1,33,0), (0,0,0,1), (14,0,34,0), (0,0,0,0), (4,0,6,1), (3,0,6,1), (12,0,50,0), (3,0,4,1), (12,0,50,0), (3,0,5,1), (3,0,3,0), (6,1,0,0), (3,2,0,0), (19,10,4,25), (3,2,0,0), (19,10,3,34), (6,1,0,0), (13,1,50,0), (3,0,2,0), (28,0,0,0), (3,0,6,1), (12,0,60,0), (5,2,0,1), (3,0,5,1), (0,0,0,1), (6,0,0,0), (4,0,3,0), (0,0,0,1), (4,0,4,1), (14,0,85,0), (3,2,0,0), (19,10,3,34), (3,0,5,1), (6,0,0,0), (3,0,3,0), (6,1,0,0), (4,0,7,1), (3,0,4,1), (12,0,83,0), (3,0,7,1), (3,2,0,0), (19,10,4,25), (13,3,83,0), (3,2,0,0), (19,10,0,9), (3,0,7,1), (21,0,0,0), (3,2,1,0), (3,0,5,1), (27,309,2,46), (13,1,83,0), (0,0,0,1), (14,0,84,0), (0,0,0,0), (4,0,4,1), (5,5,0,1), (14,0,14,0), (0,0,0,(-1)), (28,0,0,0)]
/-- FireDrill$Text.isWord(Ljava/lang/String;)Z -/
def ax_p93 : List Nat := [0, 1, 2, 5, 8, 9, 12, 13]
def ax_c93 : List ax_O := [(3,2,0,0), (3,2,1,0), (27,92,2,50), (12,1,6,0), (0,0,0,1), (14,0,7,0), (0,0,0,0), (28,3,0,0)]
/-- FireDrill$Text.isSign(C)Z -/
def ax_p94 : List Nat := [0, 1, 4, 5, 8, 9, 12, 13, 16, 17, 18, 21, 22, 25, 26]
def ax_c94 : List ax_O := [(3,2,0,0), (19,10,2,22), (0,0,0,3), (13,1,13,0), (3,2,0,0), (19,10,0,9), (3,2,0,0), (19,10,3,34), (21,0,0,0), (3,0,1,0), (13,1,13,0), (0,0,0,1), (14,0,14,0), (0,0,0,0), (28,3,0,0)]
/-- FireDrill$Text.takeWord(Ljava/lang/String;)Z -/
def ax_p95 : List Nat := [0, 1, 2, 5, 8, 9, 10, 11, 14, 17, 18, 19, 22, 23]
def ax_c95 : List ax_O := [(3,2,0,0), (3,2,1,0), (27,92,2,50), (12,0,10,0), (3,2,0,0), (0,0,0,1), (3,2,0,0), (19,10,3,34), (27,89,3,54), (28,3,0,0), (3,2,0,0), (27,90,1,31), (0,0,0,1), (28,3,0,0)]
/-- FireDrill$Text.takeSign(C)Z -/
def ax_p96 : List Nat := [0, 1, 2, 5, 8, 9, 10, 11, 14, 17, 18, 19, 22, 23]
def ax_c96 : List ax_O := [(3,2,0,0), (3,0,1,0), (27,94,2,58), (12,1,10,0), (3,2,0,0), (0,0,0,1), (3,2,0,0), (19,10,3,34), (27,89,3,54), (28,3,0,0), (3,2,0,0), (27,90,1,31), (0,0,0,1), (28,3,0,0)]
/-- FireDrill$Text.takeNumber(II)Z -/
def ax_p97 : List Nat := [0, 1, 4, 5, 8, 9, 10, 11, 14, 17, 18, 19, 22, 23, 26, 27, 28, 31, 32, 33, 34, 37, 38, 39, 42, 43, 44, 45, 48, 49, 52, 53, 54, 55, 58, 61, 62, 64, 65, 68, 69, 70, 73, 74, 75, 76, 78, 79, 82, 85, 88, 89, 92, 93, 96, 97, 100, 101, 104, 105, 106, 107, 110, 113, 114, 115, 118, 119]
def ax_c97 : List ax_O := [(3,2,0,0), (19,10,2,22), (0,0,0,2), (13,0,10,0), (3,2,0,0), (0,0,0,1), (3,2,0,0), (19,10,3,34), (27,89,3,54), (28,3,0,0), (3,2,0,0), (19,10,4,25), (3,2,0,0), (19,10,3,34), (6,1,0,0), (0,0,0,4), (13,5,25,0), (3,2,0,0), (0,0,0,1), (3,2,0,0), (19,10,3,34), (0,0,0,4), (6,0,0,0), (27,89,3,54), (28,3,0,0), (3,2,0,0), (0,0,0,0), (20,10,6,62), (3,2,0,0), (19,10,3,34), (4,0,3,0), (3,0,3,0), (3,2,0,0), (19,10,4,25), (13,3,50,0), (3,2,0,0), (0,1,0,10), (3,2,0,0), (19,10,6,62), (6,2,0,0), (3,2,0,0), (19,10,0,9), (3,0,3,0), (21,0,0,0), (6,0,0,0), (0,1,0,48), (6,1,0,0), (20,10,6,62), (5,3,0,1), (14,0,31,0), (3,2,0,0), (19,10,6,62), (3,0,1,0), (13,2,58,0), (3,2,0,0), (19,10,6,62), (3,0,2,0), (13,5,64,0), (3,2,0,0), (0,0,0,2), (3,2,0,0), (19,10,3,34), (27,89,3,54), (28,3,0,0), (3,2,0,0), (27,90,1,31), (0,0,0,1), (28,3,0,0)]
/-- FireDrill$Text.takeName()Z -/
def ax_p98 : List Nat := [0, 1, 4, 5, 8, 9, 10, 11, 14, 17, 18, 19, 22, 23, 26, 27, 29, 32, 33, 34, 35, 38, 40, 41, 44, 45, 46, 48, 51, 52, 55, 56, 57, 58, 61, 64, 65, 66, 67, 70, 71, 74, 75, 76, 77, 80, 83, 84, 85, 88, 89, 92, 93, 94, 96, 97, 98, 99, 100, 101, 102, 105, 106, 107, 108, 109, 112, 115, 118, 119, 120, 123, 126, 127, 130, 131]
def ax_c98 : List ax_O := [(3,2,0,0), (19,10,2,22), (0,0,0,1), (13,0,10,0), (3,2,0,0), (0,0,0,1), (3,2,0,0), (19,10,3,34), (27,89,3,54), (28,3,0,0), (3,2,0,0), (19,10,4,25), (3,2,0,0), (19,10,3,34), (6,1,0,0), (0,1,0,6), (13,5,25,0), (3,2,0,0), (0,0,0,1), (3,2,0,0), (19,10,3,34), (0,1,0,6), (6,0,0,0), (27,89,3,54), (28,3,0,0), (3,2,0,0), (2,0,65,(-14)), (27,92,2,50), (0,0,0,(-1)), (13,0,36,0), (3,2,0,0), (0,0,0,1), (3,2,0,0), (19,10,3,34), (27,89,3,54), (28,3,0,0), (3,2,0,0), (0,0,0,0), (20,10,7,67), (3,2,0,0), (19,10,3,34), (4,0,1,0), (3,0,1,0), (3,2,0,0), (19,10,4,25), (13,3,68,0), (3,2,0,0), (16,0,0,0), (19,10,7,67), (3,2,0,0), (19,10,0,9), (3,0,1,0), (21,0,0,0), (0,1,0,97), (6,1,0,0), (0,0,0,1), (6,0,0,0), (0,0,0,5), (3,0,1,0), (3,2,0,0), (19,10,3,34), (6,1,0,0), (6,2,0,0), (6,8,0,0), (6,6,0,0), (20,10,7,67), (5,1,0,1), (14,0,42,0), (3,2,0,0), (3,2,0,0), (19,10,3,34), (20,10,5,70), (3,2,0,0), (27,90,1,31), (0,0,0,1), (28,3,0,0)]
/-- FireDrill.<init>()V -/
def ax_p99 : List Nat := [0, 1, 4, 5, 8, 9, 12, 15, 16, 19, 20, 23, 26, 27, 30, 31, 32, 35, 36, 39, 42, 45, 46, 49, 50, 51, 54, 55, 58, 61, 64, 65, 68, 69, 72, 75, 76, 79, 80, 83, 86, 87, 90, 91, 94, 97, 98, 101, 102, 105, 108, 109, 112, 113, 116, 119, 120, 123, 124, 127, 130, 131, 134, 135, 138, 141, 142, 145, 146, 149, 152, 153, 155, 157, 160, 161, 163, 165, 168, 169, 171, 173, 176, 177, 178, 181, 182, 184, 186, 189]
def ax_c99 : List ax_O := [(3,2,0,0), (30,0,0,1), (3,2,0,0), (25,10,0,7), (16,0,0,0), (27,86,1,9), (20,11,0,10), (3,2,0,0), (25,7,0,16), (16,0,0,0), (27,58,1,18), (20,11,11,19), (3,2,0,0), (25,2,0,23), (16,0,0,0), (3,2,0,0), (19,11,0,10), (3,2,0,0), (19,11,11,19), (27,19,3,25), (20,11,1,28), (3,2,0,0), (25,5,0,32), (16,0,0,0), (3,2,0,0), (19,11,0,10), (3,2,0,0), (19,11,1,28), (27,40,3,34), (20,11,2,37), (3,2,0,0), (25,4,0,41), (16,0,0,0), (27,33,1,43), (20,11,3,44), (3,2,0,0), (25,4,0,41), (16,0,0,0), (27,33,1,43), (20,11,4,48), (3,2,0,0), (25,8,0,51), (16,0,0,0), (27,64,1,53), (20,11,5,54), (3,2,0,0), (25,3,0,58), (16,0,0,0), (27,30,1,60), (20,11,6,61), (3,2,0,0), (25,1,0,65), (16,0,0,0), (27,3,1,67), (20,11,7,68), (3,2,0,0), (25,6,0,72), (16,0,0,0), (27,53,1,74), (20,11,8,75), (3,2,0,0), (25,0,0,79), (16,0,0,0), (27,0,1,81), (20,11,9,82), (3,2,0,0), (25,9,0,86), (16,0,0,0), (27,78,1,88), (20,11,10,89), (3,2,0,0), (0,1,0,7), (24,0,0,0), (20,11,12,93), (3,2,0,0), (0,1,0,74), (24,0,0,0), (20,11,13,97), (3,2,0,0), (0,1,0,6), (24,0,0,0), (20,11,15,100), (3,2,0,0), (0,0,0,1), (20,11,16,103), (3,2,0,0), (0,1,0,44), (24,0,0,0), (20,11,17,107), (28,2,0,0)]
/-- FireDrill.feed(IIIII)I -/
def ax_p100 : List Nat := [0, 1, 4, 7, 9, 10, 13, 16, 17, 18, 21, 22, 23, 26, 27, 30, 31, 34, 35, 38, 39, 42, 43, 46, 47, 50, 52, 55, 56, 59, 61, 64, 65, 68, 71]
def ax_c100 : List ax_O := [(3,2,0,0), (19,11,0,10), (19,10,1,110), (0,1,0,20), (6,0,0,0), (0,2,0,1600), (13,5,11,0), (3,2,0,0), (0,0,0,0), (27,138,2,113), (28,0,0,0), (3,2,0,0), (19,11,0,10), (3,0,1,0), (27,87,2,117), (3,2,0,0), (19,11,0,10), (3,0,2,0), (27,87,2,117), (3,2,0,0), (19,11,0,10), (3,0,3,0), (27,87,2,117), (3,2,0,0), (19,11,0,10), (3,0,4,1), (27,87,2,117), (3,2,0,0), (19,11,0,10), (3,0,5,1), (27,87,2,117), (3,2,0,0), (19,11,0,10), (19,10,1,110), (28,0,0,0)]
/-- FireDrill.end(I)Z -/
def ax_p101 : List Nat := [0, 1, 4, 5, 6, 9, 12, 15, 16, 17, 20, 21, 22, 25, 26, 29, 30]
def ax_c101 : List ax_O := [(3,0,1,0), (12,2,7,0), (3,0,1,0), (3,2,0,0), (19,11,0,10), (19,10,1,110), (13,5,11,0), (3,2,0,0), (0,0,0,0), (27,139,2,121), (28,3,0,0), (3,2,0,0), (19,11,0,10), (3,0,1,0), (20,10,1,110), (0,0,0,1), (28,3,0,0)]
/-- FireDrill.house()I -/
def ax_p102 : List Nat := [0, 1, 4, 5, 8, 11, 12, 13, 16, 17, 20, 21, 22, 25, 26, 27, 30, 31, 32, 35, 36, 37, 38, 41, 44, 45, 46, 49, 50, 53, 54, 57, 60, 61, 64, 65, 68, 69, 72, 73, 76, 77]
def ax_c102 : List ax_O := [(3,2,0,0), (19,11,2,37), (3,2,0,0), (19,11,4,48), (27,41,2,125), (4,0,1,0), (3,2,0,0), (19,11,0,10), (0,0,0,0), (20,10,1,110), (3,0,1,0), (0,0,0,(-1)), (13,1,17,0), (3,2,0,0), (0,0,0,1), (27,138,2,113), (28,0,0,0), (3,2,0,0), (19,11,4,48), (4,2,2,0), (3,2,0,0), (3,2,0,0), (19,11,3,44), (20,11,4,48), (3,2,0,0), (3,2,2,0), (20,11,3,44), (3,2,0,0), (19,11,5,54), (3,2,0,0), (19,11,3,44), (27,65,2,129), (3,2,0,0), (19,11,6,61), (0,0,0,0), (20,3,2,133), (3,2,0,0), (19,11,10,89), (0,0,0,0), (20,9,0,136), (3,0,1,0), (28,0,0,0)]
/-- FireDrill.fault(I)I -/
def ax_p103 : List Nat := [0, 1, 4, 5, 8, 11, 12, 13, 14, 17, 18, 21, 24, 27, 28]
def ax_c103 : List ax_O := [(3,0,1,0), (12,1,6,0), (3,2,0,0), (19,11,0,10), (19,10,8,139), (28,0,0,0), (3,0,1,0), (0,0,0,1), (13,1,13,0), (3,2,0,0), (19,11,0,10), (19,10,9,142), (14,0,14,0), (0,0,0,(-1)), (28,0,0,0)]
/-- FireDrill.has(I)I -/
def ax_p104 : List Nat := [0, 1, 52, 53, 56, 59, 60, 61, 64, 67, 68, 69, 72, 75, 76, 77, 80, 83, 84, 85, 88, 91, 92, 93, 96, 99, 100, 101, 104, 107, 108, 109, 112, 115, 116, 117, 120, 123, 124, 125]
def ax_c104 : List ax_O := [(3,0,1,0), (15,2,0,0), (3,2,0,0), (19,11,3,44), (19,4,0,145), (28,0,0,0), (3,2,0,0), (19,11,3,44), (19,4,1,148), (28,0,0,0), (3,2,0,0), (19,11,3,44), (19,4,2,151), (28,0,0,0), (3,2,0,0), (19,11,3,44), (19,4,3,154), (28,0,0,0), (3,2,0,0), (19,11,5,54), (19,8,0,157), (28,0,0,0), (3,2,0,0), (19,11,5,54), (27,67,1,160), (28,0,0,0), (3,2,0,0), (19,11,5,54), (27,68,1,164), (28,0,0,0), (3,2,0,0), (19,11,10,89), (19,9,0,136), (28,0,0,0), (3,2,0,0), (19,11,6,61), (19,3,2,133), (28,0,0,0), (0,0,0,(-1)), (28,0,0,0)]
/-- FireDrill.letter(III)I -/
def ax_p105 : List Nat := [0, 1, 4, 5, 7, 10, 11, 12, 13, 40, 41, 42, 45, 48, 51, 54, 55, 58, 61, 62, 63, 64, 67, 70, 71, 72, 73, 74, 77, 80, 83, 86, 87, 90, 93, 94, 95, 96, 99, 102, 103, 104, 105, 106, 109, 112, 115, 118, 119, 122, 125, 126, 127, 128, 131, 134, 135, 136, 137]
def ax_c105 : List ax_O := [(3,0,3,0), (12,2,5,0), (3,0,3,0), (0,1,0,6), (13,2,7,0), (0,0,0,(-1)), (28,0,0,0), (3,0,1,0), (15,3,0,0), (3,0,2,0), (3,2,0,0), (19,11,3,44), (19,4,0,145), (27,140,2,167), (12,0,23,0), (3,2,0,0), (19,11,3,44), (19,4,4,171), (3,0,2,0), (21,0,0,0), (3,0,3,0), (27,142,2,174), (14,0,24,0), (0,0,0,(-1)), (28,0,0,0), (3,0,2,0), (3,2,0,0), (19,11,3,44), (19,4,2,151), (27,140,2,167), (12,0,39,0), (3,2,0,0), (19,11,3,44), (19,4,5,178), (3,0,2,0), (21,0,0,0), (3,0,3,0), (27,142,2,174), (14,0,40,0), (0,0,0,(-1)), (28,0,0,0), (3,0,2,0), (3,2,0,0), (19,11,3,44), (19,4,3,154), (27,140,2,167), (12,0,55,0), (3,2,0,0), (19,11,3,44), (19,4,6,181), (3,0,2,0), (21,0,0,0), (3,0,3,0), (27,142,2,174), (14,0,56,0), (0,0,0,(-1)), (28,0,0,0), (0,0,0,(-1)), (28,0,0,0)]
/-- FireDrill.far(I)I -/
def ax_p106 : List Nat := [0, 1, 2, 5, 8, 11, 14, 15, 16, 17, 20, 21, 24, 25, 28, 29, 30, 33, 34, 37, 40, 41, 42]
def ax_c106 : List ax_O := [(3,0,1,0), (3,2,0,0), (19,11,3,44), (19,4,0,145), (27,140,2,167), (12,1,8,0), (0,0,0,(-1)), (28,0,0,0), (3,2,0,0), (19,11,7,68), (3,2,0,0), (19,11,3,44), (3,2,0,0), (19,11,5,54), (0,0,0,(-1)), (0,0,0,(-1)), (27,5,5,184), (3,2,0,0), (19,11,7,68), (19,1,0,188), (3,0,1,0), (21,0,0,0), (28,0,0,0)]
/-- FireDrill.stair(II)I -/
def ax_p107 : List Nat := [0, 1, 2, 5, 8, 11, 14, 15, 16, 17, 48, 49, 52, 55, 56, 57, 58, 59, 62, 65, 66, 67, 68, 69, 72, 75, 76, 77, 78, 79, 82, 85, 86, 87, 88, 89]
def ax_c107 : List ax_O := [(3,0,1,0), (3,2,0,0), (19,11,3,44), (19,4,1,148), (27,140,2,167), (12,1,8,0), (0,0,0,(-1)), (28,0,0,0), (3,0,2,0), (15,4,0,0), (3,2,0,0), (19,11,3,44), (19,4,7,191), (3,0,1,0), (21,0,0,0), (28,0,0,0), (3,2,0,0), (19,11,3,44), (19,4,8,194), (3,0,1,0), (21,0,0,0), (28,0,0,0), (3,2,0,0), (19,11,3,44), (19,4,9,197), (3,0,1,0), (21,0,0,0), (28,0,0,0), (3,2,0,0), (19,11,5,54), (19,8,2,200), (3,0,1,0), (21,0,0,0), (28,0,0,0), (0,0,0,(-1)), (28,0,0,0)]
/-- FireDrill.section(II)I -/
def ax_p108 : List Nat := [0, 1, 2, 5, 8, 11, 14, 15, 16, 17, 20, 21, 24, 27, 28, 29, 30, 31, 32, 35, 36, 39, 40, 43, 46, 47]
def ax_c108 : List ax_O := [(3,0,1,0), (3,2,0,0), (19,11,3,44), (19,4,2,151), (27,140,2,167), (12,1,8,0), (0,0,0,(-1)), (28,0,0,0), (3,0,2,0), (12,1,16,0), (3,2,0,0), (19,11,5,54), (19,8,1,203), (3,0,1,0), (21,0,0,0), (28,0,0,0), (3,0,2,0), (0,0,0,1), (13,1,24,0), (3,2,0,0), (19,11,3,44), (3,0,1,0), (27,39,2,206), (14,0,25,0), (0,0,0,(-1)), (28,0,0,0)]
/-- FireDrill.clerk(II)I -/
def ax_p109 : List Nat := [0, 1, 2, 5, 8, 11, 14, 15, 16, 17, 52, 53, 56, 59, 60, 61, 62, 63, 66, 69, 70, 71, 72, 73, 76, 79, 80, 81, 82, 83, 86, 89, 90, 91, 92, 93, 96, 97, 98, 101, 104, 107, 108, 109]
def ax_c109 : List ax_O := [(3,0,1,0), (3,2,0,0), (19,11,3,44), (19,4,3,154), (27,140,2,167), (12,1,8,0), (0,0,0,(-1)), (28,0,0,0), (3,0,2,0), (15,5,0,0), (3,2,0,0), (19,11,3,44), (19,4,11,209), (3,0,1,0), (21,0,0,0), (28,0,0,0), (3,2,0,0), (19,11,3,44), (19,4,12,212), (3,0,1,0), (21,0,0,0), (28,0,0,0), (3,2,0,0), (19,11,3,44), (19,4,13,215), (3,0,1,0), (21,0,0,0), (28,0,0,0), (3,2,0,0), (19,11,3,44), (19,4,14,218), (3,0,1,0), (21,0,0,0), (28,0,0,0), (3,2,0,0), (19,11,5,54), (3,0,1,0), (3,2,0,0), (19,11,3,44), (19,4,3,154), (27,69,3,221), (28,0,0,0), (0,0,0,(-1)), (28,0,0,0)]
/-- FireDrill.signed(II)I -/
def ax_p110 : List Nat := [0, 1, 2, 3, 6, 9, 10, 13, 16, 17, 18, 21, 22, 25, 26]
def ax_c110 : List ax_O := [(3,2,0,0), (3,0,1,0), (3,0,2,0), (27,141,3,224), (12,0,13,0), (3,2,0,0), (19,11,5,54), (19,8,3,227), (3,0,1,0), (3,0,2,0), (27,66,2,230), (21,0,0,0), (14,0,14,0), (0,0,0,(-1)), (28,0,0,0)]
/-- FireDrill.out(I)I -/
def ax_p111 : List Nat := [0, 1, 2, 5, 8, 11, 14, 16, 17, 18, 21, 22, 25, 28, 29, 30]
def ax_c111 : List ax_O := [(3,0,1,0), (3,2,0,0), (19,11,3,44), (19,4,3,154), (27,140,2,167), (12,1,8,0), (0,1,0,(-2)), (28,0,0,0), (3,2,0,0), (27,143,1,233), (3,2,0,0), (19,11,7,68), (19,1,1,236), (3,0,1,0), (21,0,0,0), (28,0,0,0)]
/-- FireDrill.back(I)I -/
def ax_p112 : List Nat := [0, 1, 2, 5, 8, 11, 14, 15, 16, 17, 20, 21, 24, 27, 28, 29]
def ax_c112 : List ax_O := [(3,0,1,0), (3,2,0,0), (19,11,3,44), (19,4,3,154), (27,140,2,167), (12,1,8,0), (0,0,0,(-1)), (28,0,0,0), (3,2,0,0), (27,143,1,233), (3,2,0,0), (19,11,7,68), (19,1,2,239), (3,0,1,0), (21,0,0,0), (28,0,0,0)]
/-- FireDrill.where(II)I -/
def ax_p113 : List Nat := [0, 1, 2, 5, 8, 11, 14, 15, 17, 20, 23, 24, 25, 26, 29, 30, 33, 36, 37, 38, 39, 40]
def ax_c113 : List ax_O := [(3,0,1,0), (3,2,0,0), (19,11,3,44), (19,4,3,154), (27,140,2,167), (12,0,10,0), (3,0,2,0), (0,1,0,9), (27,140,2,167), (12,1,12,0), (0,0,0,(-1)), (28,0,0,0), (3,2,0,0), (27,143,1,233), (3,2,0,0), (19,11,7,68), (19,1,3,242), (3,0,2,0), (21,4,0,0), (3,0,1,0), (21,0,0,0), (28,0,0,0)]
/-- FireDrill.meets(II)I -/
def ax_p114 : List Nat := [0, 1, 2, 3, 6, 9, 10, 11, 12, 15, 16, 19, 22, 23, 24, 25, 26]
def ax_c114 : List ax_O := [(3,2,0,0), (3,0,1,0), (3,0,2,0), (27,141,3,224), (12,1,7,0), (0,0,0,(-1)), (28,0,0,0), (3,2,0,0), (27,143,1,233), (3,2,0,0), (19,11,7,68), (19,1,5,246), (3,0,1,0), (21,4,0,0), (3,0,2,0), (21,0,0,0), (28,0,0,0)]
/-- FireDrill.empty()I -/
def ax_p115 : List Nat := [0, 1, 4, 5, 8, 11]
def ax_c115 : List ax_O := [(3,2,0,0), (27,143,1,233), (3,2,0,0), (19,11,7,68), (19,1,6,249), (28,0,0,0)]
/-- FireDrill.signs()I -/
def ax_p116 : List Nat := [0, 1, 4, 5, 8, 9, 12, 15]
def ax_c116 : List ax_O := [(3,2,0,0), (27,143,1,233), (3,2,0,0), (19,11,7,68), (3,2,0,0), (19,11,3,44), (27,16,2,252), (28,0,0,0)]
/-- FireDrill.posts(I)I -/
def ax_p117 : List Nat := [0, 1, 2, 5, 6, 7, 10, 13, 16, 19, 20, 21, 22, 25, 26, 29, 30, 33, 34, 37, 38, 41, 44, 45, 46, 49, 50, 53, 56, 59, 60, 63, 66, 67, 68]
def ax_c117 : List ax_O := [(3,0,1,0), (0,0,0,(-1)), (13,0,11,0), (3,0,1,0), (3,2,0,0), (19,11,3,44), (19,4,2,151), (27,140,2,167), (12,1,11,0), (0,0,0,(-1)), (28,0,0,0), (3,2,0,0), (27,143,1,233), (3,2,0,0), (19,11,8,75), (3,2,0,0), (19,11,3,44), (3,2,0,0), (19,11,5,54), (3,2,0,0), (19,11,7,68), (27,54,4,255), (3,0,1,0), (0,0,0,(-1)), (13,1,29,0), (3,2,0,0), (19,11,8,75), (19,6,1,259), (14,0,34,0), (3,2,0,0), (19,11,8,75), (19,6,0,262), (3,0,1,0), (21,0,0,0), (28,0,0,0)]
/-- FireDrill.wider()I -/
def ax_p118 : List Nat := [0, 1, 4, 5, 8, 11, 12, 13, 14, 15, 16, 17, 18, 21, 24, 27, 28, 31, 34, 35, 36, 39, 40, 43, 44, 47, 48, 51, 52, 53, 56, 57, 60, 63, 64, 67, 68, 71, 74, 75, 76, 77, 80, 83, 84]
def ax_c118 : List ax_O := [(3,2,0,0), (27,143,1,233), (3,2,0,0), (19,11,7,68), (19,1,6,249), (4,0,1,0), (0,0,0,(-1)), (4,0,2,0), (0,0,0,0), (4,0,3,0), (3,0,3,0), (3,2,0,0), (19,11,3,44), (19,4,1,148), (13,3,43,0), (3,2,0,0), (19,11,5,54), (19,8,2,200), (3,0,3,0), (21,0,0,0), (12,1,41,0), (3,2,0,0), (19,11,7,68), (3,2,0,0), (19,11,3,44), (3,2,0,0), (19,11,5,54), (0,0,0,(-1)), (3,0,3,0), (27,4,5,265), (3,2,0,0), (19,11,7,68), (19,1,6,249), (3,0,1,0), (13,3,41,0), (3,2,0,0), (19,11,7,68), (19,1,6,249), (4,0,1,0), (3,0,3,0), (4,0,2,0), (5,3,0,1), (14,0,10,0), (3,0,2,0), (28,0,0,0)]
/-- FireDrill.wardens()I -/
def ax_p119 : List Nat := [0, 1, 2, 5, 8, 9, 10, 11, 12, 13, 14, 15, 18, 19, 22, 23, 26, 29, 30, 31, 34, 37, 38, 39, 42, 45, 46]
def ax_c119 : List ax_O := [(0,0,0,1), (3,2,0,0), (19,11,3,44), (19,4,0,145), (6,8,0,0), (0,0,0,1), (6,1,0,0), (4,0,1,0), (3,0,1,0), (4,0,2,0), (3,0,2,0), (12,2,25,0), (3,0,2,0), (27,301,1,268), (3,0,1,0), (27,301,1,268), (13,4,23,0), (3,2,0,0), (3,0,2,0), (27,144,2,273), (12,0,23,0), (3,0,2,0), (4,0,1,0), (5,2,0,(-1)), (14,0,10,0), (3,0,1,0), (28,0,0,0)]
/-- FireDrill.dear(II)J -/
def ax_p120 : List Nat := [0, 1, 2, 3, 6, 9, 12, 13, 14, 17, 18, 21, 22, 25, 26, 29, 30, 31, 34]
def ax_c120 : List ax_O := [(3,2,0,0), (3,0,1,0), (3,0,2,0), (27,141,3,224), (12,1,7,0), (1,1,276,(-1000000000000000)), (28,1,0,0), (3,2,0,0), (27,143,1,233), (3,2,0,0), (19,11,7,68), (3,2,0,0), (19,11,3,44), (3,2,0,0), (19,11,5,54), (3,0,1,0), (3,0,2,0), (27,17,5,278), (28,1,0,0)]
/-- FireDrill.couples()J -/
def ax_p121 : List Nat := [0, 1, 4, 5, 8, 9, 12, 13, 16, 17, 20, 23, 24, 27, 30]
def ax_c121 : List ax_O := [(3,2,0,0), (27,143,1,233), (3,2,0,0), (19,11,9,82), (3,2,0,0), (19,11,3,44), (3,2,0,0), (19,11,5,54), (3,2,0,0), (19,11,7,68), (27,1,4,282), (3,2,0,0), (19,11,9,82), (19,0,1,283), (28,1,0,0)]
/-- FireDrill.with(I)I -/
def ax_p122 : List Nat := [0, 1, 2, 5, 8, 11, 14, 15, 16, 17, 20, 21, 24, 25, 28, 29, 32, 33, 36, 39, 40, 43, 46, 47, 48]
def ax_c122 : List ax_O := [(3,0,1,0), (3,2,0,0), (19,11,3,44), (19,4,3,154), (27,140,2,167), (12,1,8,0), (0,0,0,(-1)), (28,0,0,0), (3,2,0,0), (27,143,1,233), (3,2,0,0), (19,11,9,82), (3,2,0,0), (19,11,3,44), (3,2,0,0), (19,11,5,54), (3,2,0,0), (19,11,7,68), (27,1,4,282), (3,2,0,0), (19,11,9,82), (19,0,0,286), (3,0,1,0), (21,0,0,0), (28,0,0,0)]
/-- FireDrill.later(I)I -/
def ax_p123 : List Nat := [0, 1, 4, 5, 6, 9, 12, 13, 14, 15, 18, 19, 22, 25, 26, 27, 30, 31, 32, 35, 38, 39, 40, 43, 44, 47, 50, 51]
def ax_c123 : List ax_O := [(3,0,1,0), (12,2,6,0), (3,2,0,0), (3,0,1,0), (27,145,2,287), (12,1,8,0), (0,0,0,(-1)), (28,0,0,0), (3,2,0,0), (19,11,5,54), (3,2,0,0), (19,11,17,107), (27,71,2,290), (3,2,0,0), (3,0,1,0), (27,146,2,294), (18,0,0,0), (3,2,0,0), (19,11,5,54), (27,68,1,164), (4,0,2,0), (3,2,0,0), (19,11,5,54), (3,2,0,0), (19,11,17,107), (27,72,2,297), (3,0,2,0), (28,0,0,0)]
/-- FireDrill.see()I -/
def ax_p124 : List Nat := [0, 1, 4, 5, 8, 9, 12, 15, 18, 19, 20, 23, 24, 27, 28, 31, 32, 35, 38, 41, 42, 43, 46]
def ax_c124 : List ax_O := [(3,2,0,0), (19,11,10,89), (3,2,0,0), (19,11,0,10), (3,2,0,0), (19,11,3,44), (19,4,3,154), (27,79,3,300), (4,0,1,0), (3,2,0,0), (19,11,0,10), (0,0,0,0), (20,10,1,110), (3,0,1,0), (12,0,19,0), (3,2,0,0), (19,11,10,89), (19,9,0,136), (14,0,22,0), (3,2,0,0), (0,0,0,1), (27,138,2,113), (28,0,0,0)]
/-- FireDrill.shuts(I)I -/
def ax_p125 : List Nat := [0, 1, 4, 5, 6, 9, 10, 11, 12, 15, 16, 19, 20, 23, 24, 27, 30, 31, 34, 35, 38, 41, 44, 45, 48, 51, 53, 54]
def ax_c125 : List ax_O := [(3,0,1,0), (12,0,7,0), (3,0,1,0), (0,0,0,1), (13,0,7,0), (0,0,0,(-1)), (28,0,0,0), (3,2,0,0), (19,11,10,89), (3,2,0,0), (19,11,3,44), (3,2,0,0), (19,11,5,54), (3,2,0,0), (19,11,7,68), (27,81,4,304), (3,0,1,0), (12,1,22,0), (3,2,0,0), (19,11,10,89), (27,83,1,307), (14,0,27,0), (3,2,0,0), (19,11,10,89), (19,9,3,310), (0,1,0,10), (21,0,0,0), (28,0,0,0)]
/-- FireDrill.whom(I)I -/
def ax_p126 : List Nat := [0, 1, 4, 5, 6, 9, 10, 11, 12, 15, 16, 19, 20, 23, 24, 27, 30, 31, 34, 35, 38, 41, 44, 45, 48, 49, 52, 55, 58, 59, 62, 65]
def ax_c126 : List ax_O := [(3,0,1,0), (12,0,7,0), (3,0,1,0), (0,0,0,1), (13,0,7,0), (0,0,0,(-1)), (28,0,0,0), (3,2,0,0), (19,11,10,89), (3,2,0,0), (19,11,3,44), (3,2,0,0), (19,11,5,54), (3,2,0,0), (19,11,7,68), (27,81,4,304), (3,2,0,0), (19,11,10,89), (3,2,0,0), (19,11,3,44), (19,4,3,154), (27,84,2,313), (3,0,1,0), (12,1,28,0), (3,2,0,0), (19,11,10,89), (19,9,5,316), (14,0,31,0), (3,2,0,0), (19,11,10,89), (19,9,6,319), (28,0,0,0)]
/-- FireDrill.post(II)Z -/
def ax_p127 : List Nat := [0, 1, 2, 5, 8, 11, 14, 15, 17, 20, 23, 24, 27, 30, 31, 32, 33, 36, 37, 38, 41, 42, 43, 46, 47, 50, 53, 54, 57, 60, 61, 62, 63, 64]
def ax_c127 : List ax_O := [(3,0,1,0), (3,2,0,0), (19,11,3,44), (19,4,2,151), (27,140,2,167), (12,0,17,0), (3,0,2,0), (0,1,0,21), (27,140,2,167), (12,0,17,0), (3,2,0,0), (19,11,5,54), (19,8,1,203), (3,0,1,0), (21,0,0,0), (3,0,2,0), (13,1,21,0), (3,2,0,0), (0,0,0,2), (27,139,2,121), (28,3,0,0), (3,2,0,0), (19,11,6,61), (3,2,0,0), (19,11,5,54), (27,31,2,322), (3,2,0,0), (19,11,5,54), (19,8,1,203), (3,0,1,0), (3,0,2,0), (22,0,0,0), (0,0,0,1), (28,3,0,0)]
/-- FireDrill.shut(II)Z -/
def ax_p128 : List Nat := [0, 1, 2, 5, 8, 11, 14, 15, 16, 19, 22, 23, 26, 29, 30, 31, 32, 35, 36, 37, 40, 41, 42, 45, 46, 49, 52, 53, 56, 59, 60, 61, 62, 63]
def ax_c128 : List ax_O := [(3,0,1,0), (3,2,0,0), (19,11,3,44), (19,4,1,148), (27,140,2,167), (12,0,17,0), (3,0,2,0), (0,0,0,2), (27,140,2,167), (12,0,17,0), (3,2,0,0), (19,11,5,54), (19,8,2,200), (3,0,1,0), (21,0,0,0), (3,0,2,0), (13,1,21,0), (3,2,0,0), (0,0,0,2), (27,139,2,121), (28,3,0,0), (3,2,0,0), (19,11,6,61), (3,2,0,0), (19,11,5,54), (27,31,2,322), (3,2,0,0), (19,11,5,54), (19,8,2,200), (3,0,1,0), (3,0,2,0), (22,0,0,0), (0,0,0,1), (28,3,0,0)]
/-- FireDrill.drills(I)I -/
def ax_p129 : List Nat := [0, 1, 2, 5, 6, 7, 10, 13, 14, 15, 18, 19, 20, 23, 24, 27, 30, 31, 32, 35]
def ax_c129 : List ax_O := [(3,0,1,0), (0,0,0,1), (13,2,7,0), (3,2,0,0), (3,0,1,0), (27,145,2,287), (12,1,11,0), (3,2,0,0), (0,0,0,3), (27,138,2,113), (28,0,0,0), (3,2,0,0), (19,11,6,61), (3,2,0,0), (19,11,5,54), (27,31,2,322), (3,2,0,0), (3,0,1,0), (27,146,2,294), (28,0,0,0)]
/-- FireDrill.chance(I)I -/
def ax_p130 : List Nat := [0, 1, 2, 5, 6, 7, 10, 13, 14, 15, 18, 19, 20, 23, 24, 27, 30, 31, 32, 33, 34, 35, 36, 39, 40, 42, 45, 46, 48, 49, 52, 55, 58, 59, 61, 64, 65, 68, 71, 74, 75, 76, 79, 82, 85, 87, 90, 91, 94, 95, 98, 99, 102, 104, 105, 108, 109, 112, 113, 116, 117, 120, 123, 124, 127, 130, 131]
def ax_c130 : List ax_O := [(3,0,1,0), (0,0,0,1), (13,2,7,0), (3,2,0,0), (3,0,1,0), (27,145,2,287), (12,1,11,0), (3,2,0,0), (0,0,0,3), (27,138,2,113), (28,0,0,0), (3,2,0,0), (19,11,6,61), (3,2,0,0), (19,11,5,54), (27,31,2,322), (0,0,0,0), (4,0,2,0), (0,0,0,0), (4,0,3,0), (3,0,3,0), (3,0,1,0), (13,3,65,0), (3,0,3,0), (0,1,0,30), (13,3,65,0), (0,0,0,(-1)), (4,0,4,1), (3,2,0,0), (19,11,3,44), (19,4,1,148), (12,5,46,0), (3,2,0,0), (0,1,0,100), (27,147,2,325), (3,2,0,0), (19,11,3,44), (19,4,19,328), (13,3,46,0), (3,2,0,0), (3,2,0,0), (19,11,3,44), (19,4,1,148), (27,147,2,325), (4,0,4,1), (5,2,0,1), (3,2,0,0), (19,11,7,68), (3,2,0,0), (19,11,3,44), (3,2,0,0), (19,11,5,54), (3,0,4,1), (0,0,0,(-1)), (27,4,5,265), (3,2,0,0), (19,11,5,54), (3,2,0,0), (19,11,3,44), (3,2,0,0), (19,11,7,68), (27,70,3,331), (18,0,0,0), (5,3,0,1), (14,0,20,0), (3,0,2,0), (28,0,0,0)]
/-- FireDrill.undo()Z -/
def ax_p131 : List Nat := [0, 1, 4, 7, 10, 11, 12, 15, 16, 17, 20, 21, 24, 27, 28]
def ax_c131 : List ax_O := [(3,2,0,0), (19,11,6,61), (19,3,2,133), (12,1,8,0), (3,2,0,0), (0,0,0,4), (27,139,2,121), (28,3,0,0), (3,2,0,0), (19,11,6,61), (3,2,0,0), (19,11,5,54), (27,32,2,335), (0,0,0,1), (28,3,0,0)]
/-- FireDrill.seed(I)Z -/
def ax_p132 : List Nat := [0, 1, 4, 5, 6, 9, 10, 11, 12, 15, 16]
def ax_c132 : List ax_O := [(3,0,1,0), (12,3,6,0), (3,2,0,0), (0,0,0,5), (27,139,2,121), (28,3,0,0), (3,2,0,0), (3,0,1,0), (20,11,16,103), (0,0,0,1), (28,3,0,0)]
/-- FireDrill.ask()J -/
def ax_p133 : List Nat := [0, 1, 4, 5, 6, 9, 10, 13, 14, 15, 18, 21, 22, 23, 26, 27, 28, 31, 32, 33, 36, 39, 40, 41, 44]
def ax_c133 : List ax_O := [(3,2,0,0), (27,148,1,338), (4,0,1,0), (3,2,0,0), (19,11,0,10), (0,0,0,0), (20,10,1,110), (3,0,1,0), (0,0,0,(-1)), (13,1,12,0), (1,1,276,(-1000000000000000)), (28,1,0,0), (3,2,0,0), (27,143,1,233), (3,0,1,0), (0,0,0,2), (13,4,21,0), (3,2,0,0), (3,0,1,0), (27,150,2,341), (14,0,24,0), (3,2,0,0), (3,0,1,0), (27,151,2,345), (28,1,0,0)]
/-- FireDrill.image()I -/
def ax_p134 : List Nat := [0, 1, 2, 5, 6, 9, 10, 13, 16, 19, 20, 23]
def ax_c134 : List ax_O := [(3,2,0,0), (3,2,0,0), (19,11,5,54), (3,2,0,0), (19,11,3,44), (3,2,0,0), (19,11,13,97), (27,75,3,348), (20,11,14,352), (3,2,0,0), (19,11,14,352), (28,0,0,0)]
/-- FireDrill.octet(I)I -/
def ax_p135 : List Nat := [0, 1, 2, 5, 8, 11, 12, 15, 16, 17, 20, 21]
def ax_c135 : List ax_O := [(3,0,1,0), (3,2,0,0), (19,11,14,352), (27,140,2,167), (12,0,10,0), (3,2,0,0), (19,11,13,97), (3,0,1,0), (21,0,0,0), (14,0,11,0), (0,0,0,(-1)), (28,0,0,0)]
/-- FireDrill.on()Z -/
def ax_p136 : List Nat := [0, 1, 4, 5, 8, 11, 12, 13, 16, 17, 20, 21, 24, 25, 28, 31, 34, 35, 38, 39, 42, 43, 46, 47, 50, 51, 54, 55, 56, 59, 62, 63, 66, 67]
def ax_c136 : List ax_O := [(3,2,0,0), (19,11,3,44), (3,2,0,0), (19,11,0,10), (27,76,2,355), (4,0,1,0), (3,0,1,0), (12,0,20,0), (3,2,0,0), (19,11,5,54), (3,2,0,0), (19,11,3,44), (3,2,0,0), (19,11,0,10), (19,10,0,359), (27,77,3,362), (3,2,0,0), (19,11,6,61), (0,0,0,0), (20,3,2,133), (3,2,0,0), (19,11,0,10), (0,0,0,0), (20,10,1,110), (3,0,1,0), (12,1,30,0), (3,2,0,0), (0,0,0,5), (27,139,2,121), (12,0,32,0), (0,0,0,1), (14,0,33,0), (0,0,0,0), (28,3,0,0)]
/-- FireDrill.status(I)I -/
def ax_p137 : List Nat := [0, 1, 2, 5, 6, 9, 12, 13, 16, 17, 18, 21, 22]
def ax_c137 : List ax_O := [(3,0,1,0), (3,2,0,0), (19,11,15,100), (23,0,0,0), (27,140,2,167), (12,0,11,0), (3,2,0,0), (19,11,15,100), (3,0,1,0), (21,0,0,0), (14,0,12,0), (0,0,0,(-1)), (28,0,0,0)]
/-- FireDrill.refuse(I)I -/
def ax_p138 : List Nat := [0, 1, 4, 5, 6, 7, 8, 9, 10, 11]
def ax_c138 : List ax_O := [(3,2,0,0), (19,11,15,100), (3,0,1,0), (17,0,0,0), (21,0,0,0), (0,0,0,1), (6,0,0,0), (22,0,0,0), (0,0,0,(-1)), (28,0,0,0)]
/-- FireDrill.deny(I)Z -/
def ax_p139 : List Nat := [0, 1, 4, 5, 6, 7, 8, 9, 10, 11]
def ax_c139 : List ax_O := [(3,2,0,0), (19,11,15,100), (3,0,1,0), (17,0,0,0), (21,0,0,0), (0,0,0,1), (6,0,0,0), (22,0,0,0), (0,0,0,0), (28,3,0,0)]
/-- FireDrill.isIn(II)Z -/
def ax_p140 : List Nat := [0, 1, 4, 5, 6, 9, 10, 13, 14]
def ax_c140 : List ax_O := [(3,0,0,0), (12,2,7,0), (3,0,0,0), (3,0,1,0), (13,3,7,0), (0,0,0,1), (14,0,8,0), (0,0,0,0), (28,3,0,0)]
/-- FireDrill.areTwo(II)Z -/
def ax_p141 : List Nat := [0, 1, 2, 5, 8, 11, 14, 15, 16, 19, 22, 25, 28, 29, 30, 33, 34, 37, 38]
def ax_c141 : List ax_O := [(3,0,1,0), (3,2,0,0), (19,11,3,44), (19,4,3,154), (27,140,2,167), (12,0,17,0), (3,0,2,0), (3,2,0,0), (19,11,3,44), (19,4,3,154), (27,140,2,167), (12,0,17,0), (3,0,1,0), (3,0,2,0), (13,0,17,0), (0,0,0,1), (14,0,18,0), (0,0,0,0), (28,3,0,0)]
/-- FireDrill.letterOf(II)I -/
def ax_p142 : List Nat := [0, 1, 2, 3, 4, 5, 7, 8]
def ax_c142 : List ax_O := [(3,0,0,0), (0,0,0,5), (3,0,1,0), (6,2,0,0), (6,9,0,0), (0,1,0,31), (6,5,0,0), (28,0,0,0)]
/-- FireDrill.runThisDrill()V -/
def ax_p143 : List Nat := [0, 1, 4, 5, 8, 9, 12, 13, 14, 17]
def ax_c143 : List ax_O := [(3,2,0,0), (19,11,7,68), (3,2,0,0), (19,11,3,44), (3,2,0,0), (19,11,5,54), (0,0,0,(-1)), (0,0,0,(-1)), (27,4,5,265), (28,2,0,0)]
/-- FireDrill.touchesAll(I)Z -/
def ax_p144 : List Nat := [0, 1, 2, 3, 4, 7, 10, 13, 14, 15, 18, 21, 22, 23, 24, 25, 26, 29, 32, 33, 34, 35, 36, 37, 38, 41, 44, 45, 46, 49, 50, 51, 52, 55, 56, 57, 60, 63, 64]
def ax_c144 : List ax_O := [(0,0,0,0), (4,0,2,0), (3,0,2,0), (3,2,0,0), (19,11,3,44), (19,4,1,148), (13,3,37,0), (0,0,0,1), (3,2,0,0), (19,11,3,44), (19,4,7,191), (3,0,2,0), (21,0,0,0), (6,8,0,0), (0,0,0,1), (3,2,0,0), (19,11,3,44), (19,4,8,194), (3,0,2,0), (21,0,0,0), (6,8,0,0), (6,6,0,0), (4,0,3,0), (3,2,0,0), (19,11,5,54), (19,8,2,200), (3,0,2,0), (21,0,0,0), (12,1,35,0), (3,0,1,0), (3,0,3,0), (6,5,0,0), (12,1,35,0), (0,0,0,0), (28,3,0,0), (5,2,0,1), (14,0,2,0), (0,0,0,1), (28,3,0,0)]
/-- FireDrill.mayCome(I)Z -/
def ax_p145 : List Nat := [0, 1, 3, 6, 7, 10, 13, 14, 15, 18, 21, 22, 25, 26]
def ax_c145 : List ax_O := [(3,0,1,0), (0,1,0,30), (13,4,12,0), (3,2,0,0), (19,11,5,54), (19,8,0,157), (3,0,1,0), (6,0,0,0), (0,2,0,999), (13,4,12,0), (0,0,0,1), (14,0,13,0), (0,0,0,0), (28,3,0,0)]
/-- FireDrill.holdDrills(I)I -/
def ax_p146 : List Nat := [0, 1, 2, 3, 4, 5, 6, 9, 10, 12, 15, 16, 19, 20, 23, 24, 27, 28, 29, 32, 33, 34, 37, 38, 41, 42, 45, 48, 49, 50, 53, 56, 57]
def ax_c146 : List ax_O := [(0,0,0,0), (4,0,2,0), (0,0,0,0), (4,0,3,0), (3,0,3,0), (3,0,1,0), (13,3,31,0), (3,0,3,0), (0,1,0,30), (13,3,31,0), (3,2,0,0), (19,11,7,68), (3,2,0,0), (19,11,3,44), (3,2,0,0), (19,11,5,54), (0,0,0,(-1)), (0,0,0,(-1)), (27,4,5,265), (3,0,2,0), (3,2,0,0), (19,11,5,54), (3,2,0,0), (19,11,3,44), (3,2,0,0), (19,11,7,68), (27,70,3,331), (6,0,0,0), (4,0,2,0), (5,3,0,1), (14,0,4,0), (3,0,2,0), (28,0,0,0)]
/-- FireDrill.draw(I)I -/
def ax_p147 : List Nat := [0, 3, 4, 7, 8, 9, 12, 13, 16, 17, 18, 19, 20, 21, 24, 25, 28, 29, 32, 33, 34, 35, 36, 37, 40, 41]
def ax_c147 : List ax_O := [(1,1,366,1103515245), (3,2,0,0), (19,11,16,103), (9,0,0,0), (7,2,0,0), (1,1,368,12345), (7,0,0,0), (1,1,370,2147483647), (7,5,0,0), (4,1,2,0), (3,2,0,0), (3,1,2,0), (10,0,0,0), (20,11,16,103), (3,0,1,0), (12,5,24,0), (3,1,2,0), (1,1,372,64), (7,3,0,0), (3,0,1,0), (9,0,0,0), (7,4,0,0), (10,0,0,0), (14,0,25,0), (0,0,0,0), (28,0,0,0)]
/-- FireDrill.readQuestion()I -/
def ax_p148 : List Nat := [0, 1, 4, 7, 8, 11, 12, 15, 16, 19, 20, 23, 26, 27, 30, 31, 34, 37, 40, 41, 42, 43, 46, 47, 50, 51, 52, 55, 58, 61, 62, 63, 64, 65, 68, 71, 72, 73, 76, 77, 80, 81, 84, 87, 88, 91, 92, 95, 96, 97, 100, 101, 104, 107, 110, 111, 114, 115, 116, 119, 122, 125, 126, 127, 130, 131, 134, 135]
def ax_c148 : List ax_O := [(3,2,0,0), (19,11,0,10), (27,88,1,374), (3,2,0,0), (19,11,11,19), (0,0,0,0), (20,7,1,377), (3,2,0,0), (19,11,1,28), (3,2,0,0), (19,11,11,19), (2,3,380,(-48)), (0,0,0,1), (27,20,4,382), (3,2,0,0), (19,11,0,10), (2,3,385,(-50)), (27,92,2,387), (4,0,1,0), (3,0,1,0), (0,0,0,(-1)), (13,1,32,0), (3,2,0,0), (19,11,0,10), (0,0,0,1), (3,2,0,0), (19,11,0,10), (19,10,3,391), (27,89,3,394), (18,0,0,0), (0,0,0,(-1)), (28,0,0,0), (3,2,0,0), (19,11,0,10), (27,90,1,397), (3,0,1,0), (0,0,0,2), (13,4,43,0), (3,2,0,0), (19,11,1,28), (0,0,0,0), (27,21,2,400), (14,0,47,0), (3,2,0,0), (19,11,1,28), (0,0,0,0), (27,25,2,403), (4,0,2,0), (3,0,2,0), (12,0,62,0), (3,2,0,0), (19,11,0,10), (19,10,2,406), (12,0,62,0), (3,2,0,0), (19,11,0,10), (0,0,0,1), (3,2,0,0), (19,11,0,10), (19,10,3,391), (27,89,3,394), (4,0,2,0), (3,0,2,0), (12,0,66,0), (3,0,1,0), (14,0,67,0), (0,0,0,(-1)), (28,0,0,0)]
/-- FireDrill.valueFor(I)I -/
def ax_p149 : List Nat := [0, 1, 4, 5, 6, 9, 12, 13, 14, 15, 16, 19, 20, 21, 24, 27, 28, 29, 30, 31, 34, 35, 36, 39, 42, 43, 44, 47, 48, 49, 50, 51, 54, 55, 56, 59, 62, 63, 66, 69, 70, 71, 72, 73, 74, 77, 78, 79, 82, 85, 86, 87, 88, 89, 92, 94, 95, 98, 99, 100, 103, 106, 109, 110, 111, 114, 115, 118, 119, 122, 125, 126, 127, 130]
def ax_c149 : List ax_O := [(3,2,0,0), (19,11,12,93), (0,0,0,0), (3,2,0,0), (19,11,3,44), (19,4,13,215), (3,0,1,0), (21,0,0,0), (22,0,0,0), (3,2,0,0), (19,11,12,93), (0,0,0,1), (3,2,0,0), (19,11,3,44), (19,4,14,218), (3,0,1,0), (21,0,0,0), (22,0,0,0), (3,2,0,0), (19,11,12,93), (0,0,0,2), (3,2,0,0), (19,11,5,54), (19,8,0,157), (22,0,0,0), (3,2,0,0), (19,11,12,93), (0,0,0,3), (3,0,1,0), (22,0,0,0), (3,2,0,0), (19,11,12,93), (0,0,0,4), (3,2,0,0), (19,11,5,54), (19,8,1,203), (3,2,0,0), (19,11,3,44), (19,4,12,212), (3,0,1,0), (21,0,0,0), (21,0,0,0), (22,0,0,0), (3,2,0,0), (19,11,12,93), (0,0,0,5), (3,2,0,0), (19,11,7,68), (19,1,1,236), (3,0,1,0), (21,0,0,0), (22,0,0,0), (3,2,0,0), (19,11,12,93), (0,1,0,6), (3,2,0,0), (19,11,5,54), (3,0,1,0), (3,2,0,0), (19,11,3,44), (19,4,3,154), (27,69,3,221), (22,0,0,0), (3,2,0,0), (19,11,11,19), (3,2,0,0), (19,11,12,93), (3,2,0,0), (19,11,7,68), (19,1,5,246), (3,0,1,0), (21,4,0,0), (27,60,3,409), (28,0,0,0)]
/-- FireDrill.answerTest(I)J -/
def ax_p150 : List Nat := [0, 1, 2, 3, 4, 5, 7, 8, 10, 12, 13, 16, 19, 22, 23, 25, 28, 31, 32, 33, 36, 38, 41, 42, 43, 45, 46, 49, 52, 55, 56, 57, 60, 62, 63, 64, 65, 68, 69, 70, 73, 74, 75]
def ax_c150 : List ax_O := [(0,0,0,(-1)), (4,0,2,0), (0,0,0,(-1)), (4,0,3,0), (0,0,0,0), (4,0,4,1), (0,0,0,0), (4,0,5,1), (3,0,5,1), (3,2,0,0), (19,11,3,44), (19,4,3,154), (13,3,29,0), (3,2,0,0), (3,0,5,1), (27,149,2,413), (12,0,27,0), (3,0,2,0), (0,0,0,(-1)), (13,1,22,0), (3,0,5,1), (14,0,23,0), (3,0,2,0), (4,0,2,0), (3,0,5,1), (4,0,3,0), (5,4,0,1), (5,5,0,1), (14,0,8,0), (3,0,1,0), (0,0,0,2), (13,1,35,0), (3,0,4,1), (9,0,0,0), (28,1,0,0), (3,0,1,0), (12,1,40,0), (3,0,2,0), (9,0,0,0), (14,0,42,0), (3,0,3,0), (9,0,0,0), (28,1,0,0)]
/-- FireDrill.answerSum(I)J -/
def ax_p151 : List Nat := [0, 1, 2, 3, 5, 6, 8, 9, 11, 13, 14, 17, 20, 23, 24, 26, 29, 30, 32, 33, 35, 36, 37, 39, 42, 44, 47, 49, 51, 54, 56, 58, 61, 63, 66, 68, 70, 73, 75, 78, 81, 82, 83, 86, 87, 88, 89, 90, 93, 95, 98, 100]
def ax_c151 : List ax_O := [(1,0,0,0), (4,1,2,0), (1,0,0,0), (4,1,4,1), (1,0,0,0), (4,1,6,1), (0,0,0,0), (4,0,8,1), (3,0,8,1), (3,2,0,0), (19,11,3,44), (19,4,3,154), (13,3,40,0), (3,2,0,0), (3,0,8,1), (27,149,2,413), (9,0,0,0), (4,1,9,1), (3,1,2,0), (3,1,9,1), (7,0,0,0), (4,1,2,0), (3,0,8,1), (12,1,26,0), (3,1,9,1), (14,0,29,0), (3,1,4,1), (3,1,9,1), (27,305,2,415), (4,1,4,1), (3,0,8,1), (12,1,34,0), (3,1,9,1), (14,0,37,0), (3,1,6,1), (3,1,9,1), (27,307,2,421), (4,1,6,1), (5,8,0,1), (14,0,8,0), (3,0,1,0), (0,0,0,3), (13,1,45,0), (3,1,2,0), (28,1,0,0), (3,0,1,0), (0,0,0,4), (13,1,50,0), (3,1,4,1), (14,0,51,0), (3,1,6,1), (28,1,0,0)]
/-- FireDrillModel.<init>()V -/
def ax_p152 : List Nat := [0, 1, 4, 5, 8, 10, 13, 14, 15, 18, 19, 21, 23, 26, 27, 28, 30, 31, 32, 34, 35, 36, 37, 39, 40, 41, 42, 44, 45, 46, 47, 49, 50, 53, 54, 55, 57, 58, 59, 61, 62, 63, 64, 66, 67, 68, 69, 71, 72, 73, 74, 76, 77, 78, 79, 81, 82, 85, 86, 87, 89, 90, 91, 93, 94, 95, 96, 98, 99, 102, 103, 104, 106, 107, 108, 110, 111, 112, 113, 115, 116, 117, 118, 120, 121, 122, 123, 125, 126, 129, 130, 131, 133, 134, 135, 137, 138, 139, 140, 142, 143, 144, 145, 147, 148, 149, 150, 152, 153, 156, 157, 158, 160, 161, 162, 164, 165, 166, 167, 169, 170, 171, 172, 174, 175, 176, 177, 179, 180, 183, 184, 185, 187, 188, 189, 191, 192, 193, 194, 196, 197, 198, 199, 201, 202, 203, 204, 206, 207, 208, 209, 211, 212, 215, 216, 217, 219, 220, 221, 223, 224, 225, 226, 228, 229, 232, 233, 234, 236, 237, 238, 240, 241, 242, 243, 245, 246, 249, 250, 251, 253, 254, 255, 257, 258, 259, 260, 262, 263, 264, 265, 267, 268, 269, 270, 272, 273, 276, 277, 278, 280, 281, 282, 284, 285, 286, 287, 289, 290, 291, 292, 294, 295, 298, 299, 300, 302, 303, 304, 306, 307, 308, 309, 311, 312, 313, 314, 316, 317, 318, 319, 321, 322, 323, 324, 326, 327, 330, 331, 332, 334, 335, 336, 338, 339, 340, 341, 343, 344, 345, 346, 348, 349, 350, 351, 353, 354, 357, 358, 359, 361, 362, 363, 365, 366, 367, 368, 370, 371, 372, 373, 375, 376, 377, 378, 380, 381, 382, 383, 385, 386, 389, 390, 391, 393, 394, 395, 397, 398, 399, 400, 402, 403, 404, 405, 407, 408, 409, 410, 412, 413, 414, 415, 417, 418, 421, 422, 423, 425, 426, 427, 429, 430, 431, 432, 434, 435, 436, 437, 439, 440, 441, 442, 444, 445, 446, 447, 449, 450, 453, 454, 455, 457, 458, 459, 461, 462, 463, 464, 466, 467, 468, 469, 471, 472, 473, 474, 476, 477, 478, 479, 481, 482, 485, 486, 488, 490, 491, 492, 494, 495, 496, 497, 499, 500, 501, 502, 504, 505, 506, 507, 509, 510, 511, 512, 514, 515, 516, 517, 519, 520, 523, 524, 525, 527, 528, 529, 531, 532, 533, 534, 536, 537, 538, 539, 541, 542, 543, 544, 546, 547, 548, 549, 551, 552, 555, 556, 557, 559, 560, 561, 563, 564, 565, 566, 568, 569, 570, 571, 573, 574, 575, 576, 578, 579, 580, 581, 583, 584, 587, 588, 589, 591, 592, 593, 595, 596, 597, 598, 600, 601, 602, 603, 605, 606, 607, 608, 610, 611, 614, 615, 617, 619, 620, 621, 623, 624, 625, 626, 628, 629, 630, 631, 633, 634, 635, 636, 638, 639, 640, 641, 643, 644, 645, 646, 648, 649, 652, 653, 654, 656, 657, 658, 660, 661, 662, 663, 665, 666, 667, 668, 670, 671, 674, 675, 677, 679, 680, 681, 683, 684, 685, 686, 688, 689, 690, 691, 693, 694, 695, 696, 698, 699, 700, 701, 703, 704, 705, 706, 708, 709, 712, 713, 714, 716, 717, 718, 720, 721, 722, 723, 725, 726, 727, 728, 730, 731, 732, 733, 735, 736, 737, 738, 740, 741, 744, 745, 746, 748, 749, 750, 752, 753, 754, 755, 757, 758, 761, 762, 763, 765, 766, 767, 769, 770, 771, 772, 774, 775, 776, 777, 779, 780, 783, 784, 785, 787, 788, 789, 791, 792, 793, 794, 796, 797, 798, 799, 801, 802, 805, 806, 807, 809, 810, 811, 813, 814, 815, 816, 818, 819, 820, 821, 823, 824, 827, 828, 829, 831, 832, 833, 835, 836, 837, 838, 840, 841, 842, 843, 845, 846, 849, 850, 851, 853, 854, 855, 857, 858, 859, 860, 862, 863, 864, 865, 867, 868, 871, 872, 874, 876, 879, 880, 882, 884, 887, 888, 890, 892, 895, 896, 897, 899, 902, 903, 905, 907, 910, 911, 913, 915, 916, 917, 918, 919, 920, 921, 922, 923, 924, 925, 926, 927, 928, 929, 930, 931, 932, 933, 934, 935, 936, 937, 938, 939, 942, 943, 944, 946, 947, 948, 949, 950, 951, 952, 953, 954, 955, 956, 957, 958, 959, 960, 961, 962, 965, 966, 967, 969, 972, 973, 976, 978, 981, 982, 984, 986, 989, 990, 992, 994, 997, 998, 1000, 1002, 1005, 1006, 1008, 1010, 1013, 1014, 1016, 1018, 1021, 1022, 1024, 1026, 1029, 1030, 1032, 1034, 1037, 1038, 1040, 1042, 1045, 1046, 1048, 1050, 1053, 1054, 1055, 1057, 1060, 1061, 1062, 1065, 1066, 1067, 1070, 1071, 1072, 1074, 1077, 1078, 1079, 1081, 1084, 1085, 1087, 1089, 1092, 1093, 1096, 1098, 1101, 1102, 1104, 1106, 1109, 1110, 1112, 1114, 1117, 1118, 1120, 1122, 1125, 1126, 1128, 1130, 1133, 1134, 1137, 1139, 1142, 1143, 1144, 1147, 1148, 1149, 1151, 1152, 1153, 1155, 1156, 1157, 1158, 1160, 1161, 1162, 1163, 1165, 1166, 1167, 1168, 1170, 1171, 1172, 1173, 1175, 1176, 1179, 1180, 1181, 1183, 1184, 1185, 1187, 1188, 1189, 1190, 1192, 1193, 1194, 1195, 1197, 1198, 1199, 1200, 1202, 1203, 1206, 1207, 1208, 1210, 1211, 1212, 1214, 1215, 1216, 1217, 1219, 1220, 1221, 1222, 1224, 1225, 1226, 1227, 1229, 1230, 1231, 1232, 1234, 1235, 1238, 1239, 1240, 1242, 1243, 1244, 1246, 1247, 1248, 1249, 1251, 1252, 1253, 1254, 1256, 1257, 1258, 1259, 1261, 1262, 1263, 1264, 1266, 1267, 1270, 1271, 1272, 1274, 1275, 1276, 1278, 1279, 1280, 1281, 1283, 1284, 1285, 1286, 1288, 1289, 1290, 1291, 1293, 1294, 1297, 1298, 1299, 1301, 1302, 1303, 1305, 1306, 1307, 1308, 1310, 1311, 1312, 1313, 1315, 1316, 1317, 1318, 1320, 1321, 1322, 1323, 1325, 1326, 1329, 1330, 1331, 1333, 1334, 1335, 1337, 1338, 1339, 1340, 1342, 1343, 1344, 1345, 1347, 1348, 1351, 1352, 1353, 1355, 1356, 1357, 1359, 1360, 1361, 1362, 1364, 1365, 1366, 1367, 1369, 1370, 1373, 1374, 1375, 1377, 1378, 1379, 1381, 1382, 1383, 1384, 1386, 1387, 1390, 1391, 1392, 1394, 1395, 1396, 1398, 1399, 1400, 1401, 1403, 1404, 1405, 1406, 1408, 1409, 1412, 1413, 1414, 1416, 1417, 1418, 1420, 1421, 1422, 1423, 1425, 1426, 1427, 1428, 1430, 1431, 1434, 1435, 1436, 1438, 1439, 1440, 1442, 1443, 1444, 1445, 1447, 1448, 1449, 1450, 1452, 1453, 1456, 1457, 1458, 1460, 1461, 1462, 1464, 1465, 1466, 1467, 1469, 1470, 1471, 1472, 1474, 1475, 1476, 1477, 1479, 1480, 1483, 1484, 1485, 1487, 1488, 1489, 1491, 1492, 1493, 1494, 1496, 1497, 1498, 1499, 1501, 1502, 1505, 1506, 1507, 1509, 1510, 1511, 1513, 1514, 1515, 1516, 1518, 1519, 1520, 1521, 1523, 1524, 1525, 1526, 1528, 1529, 1530, 1531, 1533, 1534, 1537, 1538, 1540, 1542, 1543, 1544, 1546, 1547, 1548, 1549, 1551, 1552, 1553, 1554, 1556, 1557, 1558, 1559, 1561, 1562, 1563, 1564, 1566, 1567, 1568, 1569, 1571, 1572, 1575, 1576, 1577, 1579, 1580, 1581, 1583, 1584, 1585, 1586, 1588, 1589, 1590, 1591, 1593, 1594, 1595, 1596, 1598, 1599, 1600, 1601, 1603, 1604, 1607, 1608, 1609, 1611, 1612, 1613, 1615, 1616, 1617, 1618, 1620, 1621, 1622, 1623, 1625, 1626, 1627, 1628, 1630, 1631, 1632, 1633, 1635, 1636, 1639, 1640, 1641, 1643, 1644, 1645, 1647, 1648, 1649, 1650, 1652, 1653, 1654, 1655, 1657, 1658, 1659, 1660, 1662, 1663, 1666, 1667, 1669, 1671, 1672, 1673, 1675, 1676, 1677, 1678, 1680, 1681, 1682, 1683, 1685, 1686, 1687, 1688, 1690, 1691, 1692, 1693, 1695, 1696, 1697, 1698, 1700, 1701, 1704, 1705, 1706, 1708, 1709, 1710, 1712, 1713, 1714, 1715, 1717, 1718, 1719, 1720, 1722, 1723, 1724, 1725, 1727, 1728, 1731, 1732, 1733, 1735, 1736, 1737, 1739, 1740, 1741, 1742, 1744, 1745, 1746, 1747, 1749, 1750, 1753, 1754, 1756, 1758, 1759, 1760, 1762, 1763, 1764, 1765, 1767, 1768, 1769, 1770, 1772, 1773, 1774, 1775, 1777, 1778, 1779, 1780, 1782, 1783, 1784, 1785, 1787, 1788, 1791, 1792, 1793, 1795, 1796, 1797, 1799, 1800, 1801, 1802, 1804, 1805, 1806, 1807, 1809, 1810, 1811, 1812, 1814, 1815, 1816, 1817, 1819, 1820, 1823, 1824, 1827, 1829, 1832, 1833, 1836, 1838, 1841, 1842, 1845, 1847, 1850, 1851, 1853, 1855, 1858]
def ax_c152 : List ax_O := [(3,2,0,0), (30,0,0,1), (3,2,0,0), (0,2,0,1600), (24,0,0,0), (20,12,0,7), (3,2,0,0), (0,0,0,(-1)), (20,12,8,13), (3,2,0,0), (0,1,0,6), (24,0,0,0), (20,12,9,17), (3,2,0,0), (0,0,0,4), (24,2,0,0), (16,0,0,0), (0,0,0,0), (0,1,0,114), (22,2,0,0), (16,0,0,0), (0,0,0,1), (0,1,0,111), (22,2,0,0), (16,0,0,0), (0,0,0,2), (0,1,0,111), (22,2,0,0), (16,0,0,0), (0,0,0,3), (0,1,0,109), (22,2,0,0), (20,12,10,20), (3,2,0,0), (0,0,0,5), (24,2,0,0), (16,0,0,0), (0,0,0,0), (0,1,0,115), (22,2,0,0), (16,0,0,0), (0,0,0,1), (0,1,0,116), (22,2,0,0), (16,0,0,0), (0,0,0,2), (0,1,0,97), (22,2,0,0), (16,0,0,0), (0,0,0,3), (0,1,0,105), (22,2,0,0), (16,0,0,0), (0,0,0,4), (0,1,0,114), (22,2,0,0), (20,12,11,24), (3,2,0,0), (0,0,0,2), (24,2,0,0), (16,0,0,0), (0,0,0,0), (0,1,0,116), (22,2,0,0), (16,0,0,0), (0,0,0,1), (0,1,0,111), (22,2,0,0), (20,12,12,27), (3,2,0,0), (0,0,0,4), (24,2,0,0), (16,0,0,0), (0,0,0,0), (0,1,0,119), (22,2,0,0), (16,0,0,0), (0,0,0,1), (0,1,0,105), (22,2,0,0), (16,0,0,0), (0,0,0,2), (0,1,0,100), (22,2,0,0), (16,0,0,0), (0,0,0,3), (0,1,0,101), (22,2,0,0), (20,12,13,30), (3,2,0,0), (0,0,0,4), (24,2,0,0), (16,0,0,0), (0,0,0,0), (0,1,0,112), (22,2,0,0), (16,0,0,0), (0,0,0,1), (0,1,0,97), (22,2,0,0), (16,0,0,0), (0,0,0,2), (0,1,0,114), (22,2,0,0), (16,0,0,0), (0,0,0,3), (0,1,0,116), (22,2,0,0), (20,12,14,33), (3,2,0,0), (0,0,0,4), (24,2,0,0), (16,0,0,0), (0,0,0,0), (0,1,0,112), (22,2,0,0), (16,0,0,0), (0,0,0,1), (0,1,0,111), (22,2,0,0), (16,0,0,0), (0,0,0,2), (0,1,0,115), (22,2,0,0), (16,0,0,0), (0,0,0,3), (0,1,0,116), (22,2,0,0), (20,12,15,36), (3,2,0,0), (0,0,0,5), (24,2,0,0), (16,0,0,0), (0,0,0,0), (0,1,0,99), (22,2,0,0), (16,0,0,0), (0,0,0,1), (0,1,0,108), (22,2,0,0), (16,0,0,0), (0,0,0,2), (0,1,0,101), (22,2,0,0), (16,0,0,0), (0,0,0,3), (0,1,0,114), (22,2,0,0), (16,0,0,0), (0,0,0,4), (0,1,0,107), (22,2,0,0), (20,12,16,39), (3,2,0,0), (0,0,0,2), (24,2,0,0), (16,0,0,0), (0,0,0,0), (0,1,0,105), (22,2,0,0), (16,0,0,0), (0,0,0,1), (0,1,0,110), (22,2,0,0), (20,12,17,42), (3,2,0,0), (0,0,0,2), (24,2,0,0), (16,0,0,0), (0,0,0,0), (0,1,0,111), (22,2,0,0), (16,0,0,0), (0,0,0,1), (0,1,0,102), (22,2,0,0), (20,12,18,45), (3,2,0,0), (0,0,0,4), (24,2,0,0), (16,0,0,0), (0,0,0,0), (0,1,0,112), (22,2,0,0), (16,0,0,0), (0,0,0,1), (0,1,0,97), (22,2,0,0), (16,0,0,0), (0,0,0,2), (0,1,0,99), (22,2,0,0), (16,0,0,0), (0,0,0,3), (0,1,0,101), (22,2,0,0), (20,12,19,48), (3,2,0,0), (0,0,0,3), (24,2,0,0), (16,0,0,0), (0,0,0,0), (0,1,0,98), (22,2,0,0), (16,0,0,0), (0,0,0,1), (0,1,0,97), (22,2,0,0), (16,0,0,0), (0,0,0,2), (0,1,0,103), (22,2,0,0), (20,12,20,51), (3,2,0,0), (0,0,0,5), (24,2,0,0), (16,0,0,0), (0,0,0,0), (0,1,0,116), (22,2,0,0), (16,0,0,0), (0,0,0,1), (0,1,0,117), (22,2,0,0), (16,0,0,0), (0,0,0,2), (0,1,0,114), (22,2,0,0), (16,0,0,0), (0,0,0,3), (0,1,0,110), (22,2,0,0), (16,0,0,0), (0,0,0,4), (0,1,0,115), (22,2,0,0), (20,12,21,54), (3,2,0,0), (0,0,0,4), (24,2,0,0), (16,0,0,0), (0,0,0,0), (0,1,0,100), (22,2,0,0), (16,0,0,0), (0,0,0,1), (0,1,0,101), (22,2,0,0), (16,0,0,0), (0,0,0,2), (0,1,0,97), (22,2,0,0), (16,0,0,0), (0,0,0,3), (0,1,0,114), (22,2,0,0), (20,12,22,57), (3,2,0,0), (0,0,0,5), (24,2,0,0), (16,0,0,0), (0,0,0,0), (0,1,0,104), (22,2,0,0), (16,0,0,0), (0,0,0,1), (0,1,0,101), (22,2,0,0), (16,0,0,0), (0,0,0,2), (0,1,0,97), (22,2,0,0), (16,0,0,0), (0,0,0,3), (0,1,0,114), (22,2,0,0), (16,0,0,0), (0,0,0,4), (0,1,0,115), (22,2,0,0), (20,12,23,60), (3,2,0,0), (0,0,0,5), (24,2,0,0), (16,0,0,0), (0,0,0,0), (0,1,0,115), (22,2,0,0), (16,0,0,0), (0,0,0,1), (0,1,0,105), (22,2,0,0), (16,0,0,0), (0,0,0,2), (0,1,0,103), (22,2,0,0), (16,0,0,0), (0,0,0,3), (0,1,0,110), (22,2,0,0), (16,0,0,0), (0,0,0,4), (0,1,0,115), (22,2,0,0), (20,12,24,63), (3,2,0,0), (0,0,0,5), (24,2,0,0), (16,0,0,0), (0,0,0,0), (0,1,0,115), (22,2,0,0), (16,0,0,0), (0,0,0,1), (0,1,0,109), (22,2,0,0), (16,0,0,0), (0,0,0,2), (0,1,0,111), (22,2,0,0), (16,0,0,0), (0,0,0,3), (0,1,0,107), (22,2,0,0), (16,0,0,0), (0,0,0,4), (0,1,0,101), (22,2,0,0), (20,12,25,66), (3,2,0,0), (0,0,0,5), (24,2,0,0), (16,0,0,0), (0,0,0,0), (0,1,0,100), (22,2,0,0), (16,0,0,0), (0,0,0,1), (0,1,0,114), (22,2,0,0), (16,0,0,0), (0,0,0,2), (0,1,0,105), (22,2,0,0), (16,0,0,0), (0,0,0,3), (0,1,0,108), (22,2,0,0), (16,0,0,0), (0,0,0,4), (0,1,0,108), (22,2,0,0), (20,12,26,69), (3,2,0,0), (0,1,0,6), (24,2,0,0), (16,0,0,0), (0,0,0,0), (0,1,0,109), (22,2,0,0), (16,0,0,0), (0,0,0,1), (0,1,0,105), (22,2,0,0), (16,0,0,0), (0,0,0,2), (0,1,0,110), (22,2,0,0), (16,0,0,0), (0,0,0,3), (0,1,0,117), (22,2,0,0), (16,0,0,0), (0,0,0,4), (0,1,0,116), (22,2,0,0), (16,0,0,0), (0,0,0,5), (0,1,0,101), (22,2,0,0), (20,12,27,72), (3,2,0,0), (0,0,0,5), (24,2,0,0), (16,0,0,0), (0,0,0,0), (0,1,0,99), (22,2,0,0), (16,0,0,0), (0,0,0,1), (0,1,0,114), (22,2,0,0), (16,0,0,0), (0,0,0,2), (0,1,0,111), (22,2,0,0), (16,0,0,0), (0,0,0,3), (0,1,0,119), (22,2,0,0), (16,0,0,0), (0,0,0,4), (0,1,0,100), (22,2,0,0), (20,12,28,75), (3,2,0,0), (0,0,0,5), (24,2,0,0), (16,0,0,0), (0,0,0,0), (0,1,0,111), (22,2,0,0), (16,0,0,0), (0,0,0,1), (0,1,0,116), (22,2,0,0), (16,0,0,0), (0,0,0,2), (0,1,0,104), (22,2,0,0), (16,0,0,0), (0,0,0,3), (0,1,0,101), (22,2,0,0), (16,0,0,0), (0,0,0,4), (0,1,0,114), (22,2,0,0), (20,12,29,78), (3,2,0,0), (0,0,0,4), (24,2,0,0), (16,0,0,0), (0,0,0,0), (0,1,0,108), (22,2,0,0), (16,0,0,0), (0,0,0,1), (0,1,0,111), (22,2,0,0), (16,0,0,0), (0,0,0,2), (0,1,0,110), (22,2,0,0), (16,0,0,0), (0,0,0,3), (0,1,0,103), (22,2,0,0), (20,12,30,81), (3,2,0,0), (0,1,0,6), (24,2,0,0), (16,0,0,0), (0,0,0,0), (0,1,0,110), (22,2,0,0), (16,0,0,0), (0,0,0,1), (0,1,0,117), (22,2,0,0), (16,0,0,0), (0,0,0,2), (0,1,0,109), (22,2,0,0), (16,0,0,0), (0,0,0,3), (0,1,0,98), (22,2,0,0), (16,0,0,0), (0,0,0,4), (0,1,0,101), (22,2,0,0), (16,0,0,0), (0,0,0,5), (0,1,0,114), (22,2,0,0), (20,12,31,84), (3,2,0,0), (0,0,0,3), (24,2,0,0), (16,0,0,0), (0,0,0,0), (0,1,0,111), (22,2,0,0), (16,0,0,0), (0,0,0,1), (0,1,0,117), (22,2,0,0), (16,0,0,0), (0,0,0,2), (0,1,0,116), (22,2,0,0), (20,12,32,87), (3,2,0,0), (0,1,0,6), (24,2,0,0), (16,0,0,0), (0,0,0,0), (0,1,0,115), (22,2,0,0), (16,0,0,0), (0,0,0,1), (0,1,0,105), (22,2,0,0), (16,0,0,0), (0,0,0,2), (0,1,0,103), (22,2,0,0), (16,0,0,0), (0,0,0,3), (0,1,0,110), (22,2,0,0), (16,0,0,0), (0,0,0,4), (0,1,0,101), (22,2,0,0), (16,0,0,0), (0,0,0,5), (0,1,0,100), (22,2,0,0), (20,12,33,90), (3,2,0,0), (0,0,0,5), (24,2,0,0), (16,0,0,0), (0,0,0,0), (0,1,0,109), (22,2,0,0), (16,0,0,0), (0,0,0,1), (0,1,0,101), (22,2,0,0), (16,0,0,0), (0,0,0,2), (0,1,0,101), (22,2,0,0), (16,0,0,0), (0,0,0,3), (0,1,0,116), (22,2,0,0), (16,0,0,0), (0,0,0,4), (0,1,0,115), (22,2,0,0), (20,12,34,93), (3,2,0,0), (0,0,0,2), (24,2,0,0), (16,0,0,0), (0,0,0,0), (0,1,0,111), (22,2,0,0), (16,0,0,0), (0,0,0,1), (0,1,0,114), (22,2,0,0), (20,12,35,96), (3,2,0,0), (0,0,0,3), (24,2,0,0), (16,0,0,0), (0,0,0,0), (0,1,0,97), (22,2,0,0), (16,0,0,0), (0,0,0,1), (0,1,0,110), (22,2,0,0), (16,0,0,0), (0,0,0,2), (0,1,0,100), (22,2,0,0), (20,12,36,99), (3,2,0,0), (0,0,0,3), (24,2,0,0), (16,0,0,0), (0,0,0,0), (0,1,0,110), (22,2,0,0), (16,0,0,0), (0,0,0,1), (0,1,0,111), (22,2,0,0), (16,0,0,0), (0,0,0,2), (0,1,0,116), (22,2,0,0), (20,12,37,102), (3,2,0,0), (0,0,0,3), (24,2,0,0), (16,0,0,0), (0,0,0,0), (0,1,0,97), (22,2,0,0), (16,0,0,0), (0,0,0,1), (0,1,0,108), (22,2,0,0), (16,0,0,0), (0,0,0,2), (0,1,0,108), (22,2,0,0), (20,12,38,105), (3,2,0,0), (0,0,0,3), (24,2,0,0), (16,0,0,0), (0,0,0,0), (0,1,0,109), (22,2,0,0), (16,0,0,0), (0,0,0,1), (0,1,0,105), (22,2,0,0), (16,0,0,0), (0,0,0,2), (0,1,0,110), (22,2,0,0), (20,12,39,108), (3,2,0,0), (0,0,0,3), (24,2,0,0), (16,0,0,0), (0,0,0,0), (0,1,0,109), (22,2,0,0), (16,0,0,0), (0,0,0,1), (0,1,0,97), (22,2,0,0), (16,0,0,0), (0,0,0,2), (0,1,0,120), (22,2,0,0), (20,12,40,111), (3,2,0,0), (0,1,0,8), (24,0,0,0), (20,12,42,114), (3,2,0,0), (0,1,0,48), (24,1,0,0), (20,12,43,117), (3,2,0,0), (0,1,0,60), (24,0,0,0), (20,12,44,121), (3,2,0,0), (0,0,0,5), (24,0,0,0), (20,12,45,124), (3,2,0,0), (0,1,0,64), (24,0,0,0), (20,12,46,127), (3,2,0,0), (0,1,0,6), (24,0,0,0), (16,0,0,0), (0,0,0,0), (0,0,0,3), (22,0,0,0), (16,0,0,0), (0,0,0,1), (0,0,0,2), (22,0,0,0), (16,0,0,0), (0,0,0,2), (0,0,0,0), (22,0,0,0), (16,0,0,0), (0,0,0,3), (0,0,0,3), (22,0,0,0), (16,0,0,0), (0,0,0,4), (0,0,0,2), (22,0,0,0), (16,0,0,0), (0,0,0,5), (0,0,0,0), (22,0,0,0), (20,12,47,130), (3,2,0,0), (0,0,0,4), (24,0,0,0), (16,0,0,0), (0,0,0,0), (0,0,0,(-1)), (22,0,0,0), (16,0,0,0), (0,0,0,1), (0,0,0,(-1)), (22,0,0,0), (16,0,0,0), (0,0,0,2), (0,0,0,(-1)), (22,0,0,0), (16,0,0,0), (0,0,0,3), (0,0,0,(-1)), (22,0,0,0), (20,12,48,133), (3,2,0,0), (0,0,0,4), (24,0,0,0), (20,12,49,136), (3,2,0,0), (0,2,0,3200), (24,0,0,0), (20,12,50,139), (3,2,0,0), (0,1,0,44), (24,0,0,0), (20,12,54,142), (3,2,0,0), (0,1,0,44), (24,0,0,0), (20,12,55,145), (3,2,0,0), (0,1,0,8), (24,0,0,0), (20,12,60,148), (3,2,0,0), (0,1,0,10), (24,0,0,0), (20,12,61,151), (3,2,0,0), (0,1,0,8), (24,0,0,0), (20,12,62,154), (3,2,0,0), (0,1,0,8), (24,0,0,0), (20,12,63,157), (3,2,0,0), (0,1,0,8), (24,0,0,0), (20,12,64,160), (3,2,0,0), (0,1,0,72), (24,0,0,0), (20,12,65,163), (3,2,0,0), (0,1,0,64), (24,0,0,0), (20,12,66,166), (3,2,0,0), (0,0,0,5), (24,0,0,0), (20,12,68,169), (3,2,0,0), (0,0,0,(-1)), (20,12,69,172), (3,2,0,0), (0,0,0,(-1)), (20,12,70,175), (3,2,0,0), (0,0,0,5), (24,0,0,0), (20,12,71,178), (3,2,0,0), (0,0,0,5), (24,0,0,0), (20,12,72,181), (3,2,0,0), (0,1,0,64), (24,1,0,0), (20,12,73,184), (3,2,0,0), (0,2,0,256), (24,1,0,0), (20,12,74,187), (3,2,0,0), (0,1,0,8), (24,0,0,0), (20,12,75,190), (3,2,0,0), (0,1,0,32), (24,0,0,0), (20,12,77,193), (3,2,0,0), (0,1,0,88), (24,0,0,0), (20,12,78,196), (3,2,0,0), (0,1,0,11), (24,3,0,0), (20,12,79,199), (3,2,0,0), (0,2,0,880), (24,0,0,0), (20,12,81,203), (3,2,0,0), (1,0,0,1), (20,12,84,206), (3,2,0,0), (0,0,0,5), (24,2,0,0), (16,0,0,0), (0,0,0,0), (0,1,0,102), (22,2,0,0), (16,0,0,0), (0,0,0,1), (0,1,0,105), (22,2,0,0), (16,0,0,0), (0,0,0,2), (0,1,0,114), (22,2,0,0), (16,0,0,0), (0,0,0,3), (0,1,0,115), (22,2,0,0), (16,0,0,0), (0,0,0,4), (0,1,0,116), (22,2,0,0), (20,12,85,210), (3,2,0,0), (0,0,0,4), (24,2,0,0), (16,0,0,0), (0,0,0,0), (0,1,0,108), (22,2,0,0), (16,0,0,0), (0,0,0,1), (0,1,0,97), (22,2,0,0), (16,0,0,0), (0,0,0,2), (0,1,0,115), (22,2,0,0), (16,0,0,0), (0,0,0,3), (0,1,0,116), (22,2,0,0), (20,12,86,213), (3,2,0,0), (0,0,0,5), (24,2,0,0), (16,0,0,0), (0,0,0,0), (0,1,0,111), (22,2,0,0), (16,0,0,0), (0,0,0,1), (0,1,0,102), (22,2,0,0), (16,0,0,0), (0,0,0,2), (0,1,0,116), (22,2,0,0), (16,0,0,0), (0,0,0,3), (0,1,0,101), (22,2,0,0), (16,0,0,0), (0,0,0,4), (0,1,0,110), (22,2,0,0), (20,12,87,216), (3,2,0,0), (0,0,0,5), (24,2,0,0), (16,0,0,0), (0,0,0,0), (0,1,0,116), (22,2,0,0), (16,0,0,0), (0,0,0,1), (0,1,0,111), (22,2,0,0), (16,0,0,0), (0,0,0,2), (0,1,0,116), (22,2,0,0), (16,0,0,0), (0,0,0,3), (0,1,0,97), (22,2,0,0), (16,0,0,0), (0,0,0,4), (0,1,0,108), (22,2,0,0), (20,12,88,219), (3,2,0,0), (0,0,0,4), (24,2,0,0), (16,0,0,0), (0,0,0,0), (0,1,0,109), (22,2,0,0), (16,0,0,0), (0,0,0,1), (0,1,0,111), (22,2,0,0), (16,0,0,0), (0,0,0,2), (0,1,0,115), (22,2,0,0), (16,0,0,0), (0,0,0,3), (0,1,0,116), (22,2,0,0), (20,12,89,222), (3,2,0,0), (0,0,0,5), (24,2,0,0), (16,0,0,0), (0,0,0,0), (0,1,0,108), (22,2,0,0), (16,0,0,0), (0,0,0,1), (0,1,0,101), (22,2,0,0), (16,0,0,0), (0,0,0,2), (0,1,0,97), (22,2,0,0), (16,0,0,0), (0,0,0,3), (0,1,0,115), (22,2,0,0), (16,0,0,0), (0,0,0,4), (0,1,0,116), (22,2,0,0), (20,12,90,225), (3,2,0,0), (0,0,0,3), (24,2,0,0), (16,0,0,0), (0,0,0,0), (0,1,0,110), (22,2,0,0), (16,0,0,0), (0,0,0,1), (0,1,0,111), (22,2,0,0), (16,0,0,0), (0,0,0,2), (0,1,0,116), (22,2,0,0), (20,12,91,228), (3,2,0,0), (0,0,0,3), (24,2,0,0), (16,0,0,0), (0,0,0,0), (0,1,0,97), (22,2,0,0), (16,0,0,0), (0,0,0,1), (0,1,0,110), (22,2,0,0), (16,0,0,0), (0,0,0,2), (0,1,0,100), (22,2,0,0), (20,12,92,231), (3,2,0,0), (0,0,0,2), (24,2,0,0), (16,0,0,0), (0,0,0,0), (0,1,0,111), (22,2,0,0), (16,0,0,0), (0,0,0,1), (0,1,0,114), (22,2,0,0), (20,12,93,234), (3,2,0,0), (0,0,0,3), (24,2,0,0), (16,0,0,0), (0,0,0,0), (0,1,0,97), (22,2,0,0), (16,0,0,0), (0,0,0,1), (0,1,0,108), (22,2,0,0), (16,0,0,0), (0,0,0,2), (0,1,0,108), (22,2,0,0), (20,12,94,237), (3,2,0,0), (0,0,0,3), (24,2,0,0), (16,0,0,0), (0,0,0,0), (0,1,0,109), (22,2,0,0), (16,0,0,0), (0,0,0,1), (0,1,0,105), (22,2,0,0), (16,0,0,0), (0,0,0,2), (0,1,0,110), (22,2,0,0), (20,12,95,240), (3,2,0,0), (0,0,0,3), (24,2,0,0), (16,0,0,0), (0,0,0,0), (0,1,0,109), (22,2,0,0), (16,0,0,0), (0,0,0,1), (0,1,0,97), (22,2,0,0), (16,0,0,0), (0,0,0,2), (0,1,0,120), (22,2,0,0), (20,12,96,243), (3,2,0,0), (0,0,0,4), (24,2,0,0), (16,0,0,0), (0,0,0,0), (0,1,0,112), (22,2,0,0), (16,0,0,0), (0,0,0,1), (0,1,0,97), (22,2,0,0), (16,0,0,0), (0,0,0,2), (0,1,0,99), (22,2,0,0), (16,0,0,0), (0,0,0,3), (0,1,0,101), (22,2,0,0), (20,12,97,246), (3,2,0,0), (0,0,0,3), (24,2,0,0), (16,0,0,0), (0,0,0,0), (0,1,0,98), (22,2,0,0), (16,0,0,0), (0,0,0,1), (0,1,0,97), (22,2,0,0), (16,0,0,0), (0,0,0,2), (0,1,0,103), (22,2,0,0), (20,12,98,249), (3,2,0,0), (0,0,0,5), (24,2,0,0), (16,0,0,0), (0,0,0,0), (0,1,0,100), (22,2,0,0), (16,0,0,0), (0,0,0,1), (0,1,0,114), (22,2,0,0), (16,0,0,0), (0,0,0,2), (0,1,0,105), (22,2,0,0), (16,0,0,0), (0,0,0,3), (0,1,0,108), (22,2,0,0), (16,0,0,0), (0,0,0,4), (0,1,0,108), (22,2,0,0), (20,12,99,252), (3,2,0,0), (0,1,0,6), (24,2,0,0), (16,0,0,0), (0,0,0,0), (0,1,0,109), (22,2,0,0), (16,0,0,0), (0,0,0,1), (0,1,0,105), (22,2,0,0), (16,0,0,0), (0,0,0,2), (0,1,0,110), (22,2,0,0), (16,0,0,0), (0,0,0,3), (0,1,0,117), (22,2,0,0), (16,0,0,0), (0,0,0,4), (0,1,0,116), (22,2,0,0), (16,0,0,0), (0,0,0,5), (0,1,0,101), (22,2,0,0), (20,12,100,255), (3,2,0,0), (0,0,0,5), (24,2,0,0), (16,0,0,0), (0,0,0,0), (0,1,0,99), (22,2,0,0), (16,0,0,0), (0,0,0,1), (0,1,0,114), (22,2,0,0), (16,0,0,0), (0,0,0,2), (0,1,0,111), (22,2,0,0), (16,0,0,0), (0,0,0,3), (0,1,0,119), (22,2,0,0), (16,0,0,0), (0,0,0,4), (0,1,0,100), (22,2,0,0), (20,12,101,258), (3,2,0,0), (0,0,0,5), (24,2,0,0), (16,0,0,0), (0,0,0,0), (0,1,0,111), (22,2,0,0), (16,0,0,0), (0,0,0,1), (0,1,0,116), (22,2,0,0), (16,0,0,0), (0,0,0,2), (0,1,0,104), (22,2,0,0), (16,0,0,0), (0,0,0,3), (0,1,0,101), (22,2,0,0), (16,0,0,0), (0,0,0,4), (0,1,0,114), (22,2,0,0), (20,12,102,261), (3,2,0,0), (0,0,0,4), (24,2,0,0), (16,0,0,0), (0,0,0,0), (0,1,0,108), (22,2,0,0), (16,0,0,0), (0,0,0,1), (0,1,0,111), (22,2,0,0), (16,0,0,0), (0,0,0,2), (0,1,0,110), (22,2,0,0), (16,0,0,0), (0,0,0,3), (0,1,0,103), (22,2,0,0), (20,12,103,264), (3,2,0,0), (0,1,0,6), (24,2,0,0), (16,0,0,0), (0,0,0,0), (0,1,0,110), (22,2,0,0), (16,0,0,0), (0,0,0,1), (0,1,0,117), (22,2,0,0), (16,0,0,0), (0,0,0,2), (0,1,0,109), (22,2,0,0), (16,0,0,0), (0,0,0,3), (0,1,0,98), (22,2,0,0), (16,0,0,0), (0,0,0,4), (0,1,0,101), (22,2,0,0), (16,0,0,0), (0,0,0,5), (0,1,0,114), (22,2,0,0), (20,12,104,267), (3,2,0,0), (0,0,0,4), (24,2,0,0), (16,0,0,0), (0,0,0,0), (0,1,0,112), (22,2,0,0), (16,0,0,0), (0,0,0,1), (0,1,0,111), (22,2,0,0), (16,0,0,0), (0,0,0,2), (0,1,0,115), (22,2,0,0), (16,0,0,0), (0,0,0,3), (0,1,0,116), (22,2,0,0), (20,12,105,270), (3,2,0,0), (0,0,0,3), (24,2,0,0), (16,0,0,0), (0,0,0,0), (0,1,0,111), (22,2,0,0), (16,0,0,0), (0,0,0,1), (0,1,0,117), (22,2,0,0), (16,0,0,0), (0,0,0,2), (0,1,0,116), (22,2,0,0), (20,12,106,273), (3,2,0,0), (0,1,0,6), (24,2,0,0), (16,0,0,0), (0,0,0,0), (0,1,0,115), (22,2,0,0), (16,0,0,0), (0,0,0,1), (0,1,0,105), (22,2,0,0), (16,0,0,0), (0,0,0,2), (0,1,0,103), (22,2,0,0), (16,0,0,0), (0,0,0,3), (0,1,0,110), (22,2,0,0), (16,0,0,0), (0,0,0,4), (0,1,0,101), (22,2,0,0), (16,0,0,0), (0,0,0,5), (0,1,0,100), (22,2,0,0), (20,12,107,276), (3,2,0,0), (0,0,0,5), (24,2,0,0), (16,0,0,0), (0,0,0,0), (0,1,0,109), (22,2,0,0), (16,0,0,0), (0,0,0,1), (0,1,0,101), (22,2,0,0), (16,0,0,0), (0,0,0,2), (0,1,0,101), (22,2,0,0), (16,0,0,0), (0,0,0,3), (0,1,0,116), (22,2,0,0), (16,0,0,0), (0,0,0,4), (0,1,0,115), (22,2,0,0), (20,12,108,279), (3,2,0,0), (0,2,0,1700), (24,0,0,0), (20,12,109,282), (3,2,0,0), (0,2,0,1700), (24,0,0,0), (20,12,111,285), (3,2,0,0), (0,2,0,1700), (24,1,0,0), (20,12,115,288), (3,2,0,0), (0,1,0,74), (24,0,0,0), (20,12,119,291), (28,2,0,0)]
/-- FireDrillModel.isIn(JJJ)Z -/
def ax_p153 : List Nat := [0, 1, 2, 3, 6, 7, 9, 10, 13, 14, 17, 18]
def ax_c153 : List ax_O := [(3,1,0,0), (3,1,2,0), (11,0,0,0), (12,2,10,0), (3,1,0,0), (3,1,4,1), (11,0,0,0), (12,4,10,0), (0,0,0,1), (14,0,11,0), (0,0,0,0), (28,3,0,0)]
/-- FireDrillModel.feed(IIIII)I -/
def ax_p154 : List Nat := [0, 1, 4, 6, 7, 10, 13, 14, 17, 18, 19, 20, 21, 22, 23, 24, 25, 26, 28, 30, 32, 35, 37, 38, 41, 42, 45, 47, 49, 52, 53, 56, 58, 60, 63, 64, 67, 69, 71, 74, 76, 79, 81, 83, 84, 87, 88, 91, 93, 95, 96, 98, 99, 100, 101, 102, 103, 106, 107, 108, 109, 110, 113, 114, 115, 118, 121, 124, 125, 128]
def ax_c154 : List ax_O := [(3,2,0,0), (19,12,1,294), (0,1,0,20), (6,0,0,0), (0,2,0,1600), (13,5,16,0), (3,2,0,0), (19,12,9,17), (0,0,0,0), (17,0,0,0), (21,0,0,0), (0,0,0,1), (6,0,0,0), (22,0,0,0), (0,0,0,(-1)), (28,0,0,0), (0,0,0,0), (4,0,6,1), (3,0,6,1), (0,1,0,20), (13,3,67,0), (3,0,6,1), (0,0,0,4), (13,3,26,0), (3,0,1,0), (14,0,42,0), (3,0,6,1), (0,1,0,8), (13,3,31,0), (3,0,2,0), (14,0,42,0), (3,0,6,1), (0,1,0,12), (13,3,36,0), (3,0,3,0), (14,0,42,0), (3,0,6,1), (0,1,0,16), (13,3,41,0), (3,0,4,1), (14,0,42,0), (3,0,5,1), (4,0,7,1), (3,2,0,0), (19,12,0,7), (3,2,0,0), (19,12,1,294), (3,0,7,1), (0,1,0,8), (0,0,0,3), (3,0,6,1), (0,0,0,4), (6,4,0,0), (6,1,0,0), (6,2,0,0), (6,9,0,0), (0,2,0,255), (6,5,0,0), (22,0,0,0), (3,2,0,0), (16,0,0,0), (19,12,1,294), (0,0,0,1), (6,0,0,0), (20,12,1,294), (5,6,0,1), (14,0,18,0), (3,2,0,0), (19,12,1,294), (28,0,0,0)]
/-- FireDrillModel.end(I)Z -/
def ax_p155 : List Nat := [0, 1, 4, 5, 6, 9, 12, 13, 16, 17, 18, 19, 20, 21, 22, 23, 24, 25, 26, 29, 30]
def ax_c155 : List ax_O := [(3,0,1,0), (12,2,6,0), (3,0,1,0), (3,2,0,0), (19,12,1,294), (13,5,16,0), (3,2,0,0), (19,12,9,17), (0,0,0,0), (17,0,0,0), (21,0,0,0), (0,0,0,1), (6,0,0,0), (22,0,0,0), (0,0,0,0), (28,3,0,0), (3,2,0,0), (3,0,1,0), (20,12,1,294), (0,0,0,1), (28,3,0,0)]
/-- FireDrillModel.fail(II)V -/
def ax_p156 : List Nat := [0, 1, 4, 7, 8, 9, 10, 13, 14, 15, 18]
def ax_c156 : List ax_O := [(3,2,0,0), (19,12,5,297), (12,0,4,0), (28,2,0,0), (3,2,0,0), (3,0,1,0), (20,12,5,297), (3,2,0,0), (3,0,2,0), (20,12,6,300), (28,2,0,0)]
/-- FireDrillModel.isLetter(I)Z -/
def ax_p157 : List Nat := [0, 1, 3, 6, 7, 9, 12, 13, 16, 17]
def ax_c157 : List ax_O := [(3,0,0,0), (0,1,0,97), (13,2,8,0), (3,0,0,0), (0,1,0,122), (13,4,8,0), (0,0,0,1), (14,0,9,0), (0,0,0,0), (28,3,0,0)]
/-- FireDrillModel.isDigit(I)Z -/
def ax_p158 : List Nat := [0, 1, 3, 6, 7, 9, 12, 13, 16, 17]
def ax_c158 : List ax_O := [(3,0,0,0), (0,1,0,48), (13,2,8,0), (3,0,0,0), (0,1,0,57), (13,4,8,0), (0,0,0,1), (14,0,9,0), (0,0,0,0), (28,3,0,0)]
/-- FireDrillModel.look()I -/
def ax_p159 : List Nat := [0, 1, 4, 5, 8, 11, 12, 15, 16, 19, 20, 22, 25, 26, 29, 30, 33, 34, 36, 39, 40, 41, 44, 45, 46, 49, 52, 53, 56, 57, 60, 63, 64, 67, 68, 71, 72, 75, 76]
def ax_c159 : List ax_O := [(3,2,0,0), (19,12,2,303), (3,2,0,0), (19,12,3,306), (13,3,26,0), (3,2,0,0), (19,12,0,7), (3,2,0,0), (19,12,2,303), (21,0,0,0), (0,1,0,10), (13,0,19,0), (3,2,0,0), (19,12,0,7), (3,2,0,0), (19,12,2,303), (21,0,0,0), (0,1,0,32), (13,1,26,0), (3,2,0,0), (16,0,0,0), (19,12,2,303), (0,0,0,1), (6,0,0,0), (20,12,2,303), (14,0,0,0), (3,2,0,0), (19,12,2,303), (3,2,0,0), (19,12,3,306), (13,3,37,0), (3,2,0,0), (19,12,0,7), (3,2,0,0), (19,12,2,303), (21,0,0,0), (14,0,38,0), (0,0,0,(-1)), (28,0,0,0)]
/-- FireDrillModel.isHere([C)Z -/
def ax_p160 : List Nat := [0, 1, 4, 7, 8, 11, 14, 17, 18, 21, 22, 25, 28, 29, 30, 31, 34, 35, 36, 37, 40, 43, 44, 47, 48, 49, 52, 55, 58, 61, 62, 63, 66, 67, 68, 69, 72, 73, 74, 75, 76, 77, 78, 79, 82, 83, 86, 87, 90, 91, 92, 93, 94, 95, 96, 99, 100, 101, 104, 107, 108]
def ax_c160 : List ax_O := [(3,2,0,0), (19,12,5,297), (12,1,12,0), (3,2,0,0), (27,159,1,309), (27,157,1,313), (12,0,12,0), (3,2,0,0), (19,12,2,303), (3,2,0,0), (19,12,4,317), (13,1,14,0), (0,0,0,0), (28,3,0,0), (3,2,0,0), (19,12,2,303), (4,0,2,0), (3,0,2,0), (3,2,0,0), (19,12,3,306), (13,3,29,0), (3,2,0,0), (19,12,0,7), (3,0,2,0), (21,0,0,0), (27,157,1,313), (12,0,29,0), (5,2,0,1), (14,0,17,0), (3,0,2,0), (3,2,0,0), (19,12,2,303), (6,1,0,0), (3,2,1,0), (23,0,0,0), (13,0,38,0), (0,0,0,0), (28,3,0,0), (0,0,0,0), (4,0,3,0), (3,0,3,0), (3,2,1,0), (23,0,0,0), (13,3,59,0), (3,2,0,0), (19,12,0,7), (3,2,0,0), (19,12,2,303), (3,0,3,0), (6,0,0,0), (21,0,0,0), (3,2,1,0), (3,0,3,0), (21,2,0,0), (13,0,57,0), (0,0,0,0), (28,3,0,0), (5,3,0,1), (14,0,40,0), (0,0,0,1), (28,3,0,0)]
/-- FireDrillModel.takes([C)Z -/
def ax_p161 : List Nat := [0, 1, 2, 5, 8, 9, 10, 11, 12, 15, 16, 17, 18, 21, 22, 23, 26, 29, 30]
def ax_c161 : List ax_O := [(3,2,0,0), (3,2,1,0), (27,160,2,320), (12,1,6,0), (0,0,0,0), (28,3,0,0), (3,2,0,0), (16,0,0,0), (19,12,2,303), (3,2,1,0), (23,0,0,0), (6,0,0,0), (20,12,2,303), (3,2,0,0), (3,2,0,0), (19,12,2,303), (20,12,4,317), (0,0,0,1), (28,3,0,0)]
/-- FireDrillModel.asks([C)V -/
def ax_p162 : List Nat := [0, 1, 4, 7, 8, 9, 12, 15, 16, 17, 18, 21, 24]
def ax_c162 : List ax_O := [(3,2,0,0), (19,12,5,297), (12,1,12,0), (3,2,0,0), (3,2,1,0), (27,161,2,324), (12,1,12,0), (3,2,0,0), (0,0,0,1), (3,2,0,0), (19,12,2,303), (27,156,3,327), (28,2,0,0)]
/-- FireDrillModel.takesSign(I)Z -/
def ax_p163 : List Nat := [0, 1, 4, 7, 8, 11, 12, 15, 16, 17, 18, 19, 22, 23, 24, 27, 28]
def ax_c163 : List ax_O := [(3,2,0,0), (19,12,5,297), (12,1,7,0), (3,2,0,0), (27,159,1,309), (3,0,1,0), (13,0,9,0), (0,0,0,0), (28,3,0,0), (3,2,0,0), (16,0,0,0), (19,12,2,303), (0,0,0,1), (6,0,0,0), (20,12,2,303), (0,0,0,1), (28,3,0,0)]
/-- FireDrillModel.asksSign(I)V -/
def ax_p164 : List Nat := [0, 1, 4, 7, 8, 9, 12, 15, 16, 17, 18, 21, 24]
def ax_c164 : List ax_O := [(3,2,0,0), (19,12,5,297), (12,1,12,0), (3,2,0,0), (3,0,1,0), (27,163,2,331), (12,1,12,0), (3,2,0,0), (0,0,0,1), (3,2,0,0), (19,12,2,303), (27,156,3,327), (28,2,0,0)]
/-- FireDrillModel.number(II)I -/
def ax_p165 : List Nat := [0, 1, 4, 7, 8, 9, 10, 13, 16, 19, 20, 23, 24, 27, 30, 31, 32, 33, 36, 39, 40, 41, 42, 45, 46, 47, 49, 50, 53, 54, 57, 60, 61, 64, 65, 68, 69, 72, 75, 76, 79, 80, 81, 82, 85, 86, 87, 88, 91, 94, 95, 96, 98, 100, 101, 102, 105, 106, 109, 110, 111, 113, 114, 116, 117, 118, 121, 122, 123, 126, 129, 130, 131, 134, 137, 139, 140, 141, 142, 143, 144, 147, 150, 151, 152, 153, 156, 158]
def ax_c165 : List ax_O := [(3,2,0,0), (19,12,5,297), (12,0,5,0), (0,0,0,0), (28,0,0,0), (3,2,0,0), (27,159,1,309), (27,158,1,334), (12,0,14,0), (3,2,0,0), (19,12,2,303), (3,2,0,0), (19,12,4,317), (13,1,21,0), (3,2,0,0), (0,0,0,1), (3,2,0,0), (19,12,2,303), (27,156,3,327), (0,0,0,0), (28,0,0,0), (3,2,0,0), (19,12,2,303), (4,0,3,0), (0,0,0,0), (4,0,4,1), (3,2,0,0), (19,12,2,303), (3,2,0,0), (19,12,3,306), (13,3,70,0), (3,2,0,0), (19,12,0,7), (3,2,0,0), (19,12,2,303), (21,0,0,0), (27,158,1,334), (12,0,70,0), (3,2,0,0), (19,12,2,303), (3,0,3,0), (6,1,0,0), (0,0,0,4), (13,1,51,0), (3,2,0,0), (0,0,0,1), (3,2,0,0), (19,12,2,303), (27,156,3,327), (0,0,0,0), (28,0,0,0), (0,1,0,10), (3,0,4,1), (6,2,0,0), (3,2,0,0), (19,12,0,7), (3,2,0,0), (19,12,2,303), (21,0,0,0), (6,0,0,0), (0,1,0,48), (6,1,0,0), (4,0,4,1), (3,2,0,0), (16,0,0,0), (19,12,2,303), (0,0,0,1), (6,0,0,0), (20,12,2,303), (14,0,26,0), (3,2,0,0), (3,2,0,0), (19,12,2,303), (20,12,4,317), (3,0,4,1), (9,0,0,0), (3,0,1,0), (9,0,0,0), (3,0,2,0), (9,0,0,0), (27,153,3,337), (12,1,86,0), (3,2,0,0), (0,0,0,2), (3,0,3,0), (27,156,3,327), (3,0,4,1), (28,0,0,0)]
/-- FireDrillModel.isOwnHere()Z -/
def ax_p166 : List Nat := [0, 1, 2, 5, 8, 11, 12, 13, 16, 19, 22, 23, 24, 27, 30, 33, 34, 35, 38, 41, 44, 45, 46, 49, 52, 55, 56, 57, 60, 63, 66, 67, 70, 71, 72, 73, 76, 77, 78, 81, 84, 87, 88, 89, 92, 95, 98, 99, 100, 103, 106, 109, 110, 111, 114, 117, 120, 121, 122, 125, 128, 131, 132, 133, 136, 139, 142, 143, 146, 147, 148, 149, 152, 153, 154, 157, 160, 163, 164, 165, 168, 171, 174, 175, 176, 179, 182, 185, 186, 187, 190, 193, 196, 197, 198, 201, 204, 207, 208, 209, 212, 215, 218, 219, 222, 223, 224, 225, 228, 229, 230, 233, 236, 239, 240, 241, 244, 247, 250, 251, 252, 255, 258, 261, 262, 263, 266, 269, 272, 273, 274, 277, 280, 283, 284, 285, 288, 291, 294, 295, 298, 299, 300, 301, 304, 305, 306, 309, 312, 315, 316, 317, 320, 323, 326, 327, 328, 331, 334, 337, 338, 339, 342, 345, 348, 349, 350, 353, 356, 359, 360, 361, 364, 367, 370, 371, 374, 375, 376, 377, 380, 381, 382, 385, 388, 391, 392, 395, 396, 397, 398]
def ax_c166 : List ax_O := [(3,2,0,0), (3,2,0,0), (19,12,10,20), (27,160,2,320), (12,1,30,0), (3,2,0,0), (3,2,0,0), (19,12,11,24), (27,160,2,320), (12,1,30,0), (3,2,0,0), (3,2,0,0), (19,12,12,27), (27,160,2,320), (12,1,30,0), (3,2,0,0), (3,2,0,0), (19,12,13,30), (27,160,2,320), (12,1,30,0), (3,2,0,0), (3,2,0,0), (19,12,14,33), (27,160,2,320), (12,1,30,0), (3,2,0,0), (3,2,0,0), (19,12,15,36), (27,160,2,320), (12,0,32,0), (0,0,0,1), (14,0,33,0), (0,0,0,0), (4,0,1,0), (3,0,1,0), (12,1,66,0), (3,2,0,0), (3,2,0,0), (19,12,16,39), (27,160,2,320), (12,1,66,0), (3,2,0,0), (3,2,0,0), (19,12,17,42), (27,160,2,320), (12,1,66,0), (3,2,0,0), (3,2,0,0), (19,12,18,45), (27,160,2,320), (12,1,66,0), (3,2,0,0), (3,2,0,0), (19,12,19,48), (27,160,2,320), (12,1,66,0), (3,2,0,0), (3,2,0,0), (19,12,20,51), (27,160,2,320), (12,1,66,0), (3,2,0,0), (3,2,0,0), (19,12,21,54), (27,160,2,320), (12,0,68,0), (0,0,0,1), (14,0,69,0), (0,0,0,0), (4,0,1,0), (3,0,1,0), (12,1,102,0), (3,2,0,0), (3,2,0,0), (19,12,22,57), (27,160,2,320), (12,1,102,0), (3,2,0,0), (3,2,0,0), (19,12,23,60), (27,160,2,320), (12,1,102,0), (3,2,0,0), (3,2,0,0), (19,12,24,63), (27,160,2,320), (12,1,102,0), (3,2,0,0), (3,2,0,0), (19,12,25,66), (27,160,2,320), (12,1,102,0), (3,2,0,0), (3,2,0,0), (19,12,26,69), (27,160,2,320), (12,1,102,0), (3,2,0,0), (3,2,0,0), (19,12,27,72), (27,160,2,320), (12,0,104,0), (0,0,0,1), (14,0,105,0), (0,0,0,0), (4,0,1,0), (3,0,1,0), (12,1,138,0), (3,2,0,0), (3,2,0,0), (19,12,28,75), (27,160,2,320), (12,1,138,0), (3,2,0,0), (3,2,0,0), (19,12,29,78), (27,160,2,320), (12,1,138,0), (3,2,0,0), (3,2,0,0), (19,12,30,81), (27,160,2,320), (12,1,138,0), (3,2,0,0), (3,2,0,0), (19,12,31,84), (27,160,2,320), (12,1,138,0), (3,2,0,0), (3,2,0,0), (19,12,32,87), (27,160,2,320), (12,1,138,0), (3,2,0,0), (3,2,0,0), (19,12,33,90), (27,160,2,320), (12,0,140,0), (0,0,0,1), (14,0,141,0), (0,0,0,0), (4,0,1,0), (3,0,1,0), (12,1,174,0), (3,2,0,0), (3,2,0,0), (19,12,34,93), (27,160,2,320), (12,1,174,0), (3,2,0,0), (3,2,0,0), (19,12,35,96), (27,160,2,320), (12,1,174,0), (3,2,0,0), (3,2,0,0), (19,12,36,99), (27,160,2,320), (12,1,174,0), (3,2,0,0), (3,2,0,0), (19,12,37,102), (27,160,2,320), (12,1,174,0), (3,2,0,0), (3,2,0,0), (19,12,38,105), (27,160,2,320), (12,1,174,0), (3,2,0,0), (3,2,0,0), (19,12,39,108), (27,160,2,320), (12,0,176,0), (0,0,0,1), (14,0,177,0), (0,0,0,0), (4,0,1,0), (3,0,1,0), (12,1,185,0), (3,2,0,0), (3,2,0,0), (19,12,40,111), (27,160,2,320), (12,0,187,0), (0,0,0,1), (14,0,188,0), (0,0,0,0), (4,0,1,0), (3,0,1,0), (28,3,0,0)]
/-- FireDrillModel.name()J -/
def ax_p167 : List Nat := [0, 1, 4, 7, 8, 9, 10, 13, 16, 19, 20, 23, 24, 27, 30, 31, 34, 37, 38, 39, 40, 43, 46, 47, 48, 49, 50, 53, 56, 57, 58, 59, 62, 63, 66, 69, 70, 73, 74, 77, 78, 81, 84, 85, 88, 89, 92, 93, 95, 98, 99, 100, 101, 104, 107, 108, 109, 112, 113, 114, 115, 118, 119, 122, 123, 124, 125, 128, 129, 130, 131, 132, 133, 134, 137, 138, 139, 142, 145, 146, 147, 150, 153, 154]
def ax_c167 : List ax_O := [(3,2,0,0), (19,12,5,297), (12,0,5,0), (1,0,0,0), (28,1,0,0), (3,2,0,0), (27,159,1,309), (27,157,1,313), (12,0,17,0), (3,2,0,0), (19,12,2,303), (3,2,0,0), (19,12,4,317), (13,0,17,0), (3,2,0,0), (27,166,1,341), (12,0,24,0), (3,2,0,0), (0,0,0,1), (3,2,0,0), (19,12,2,303), (27,156,3,327), (1,0,0,0), (28,1,0,0), (3,2,0,0), (3,2,0,0), (19,12,2,303), (20,12,41,345), (1,0,0,0), (4,1,1,0), (3,2,0,0), (19,12,2,303), (3,2,0,0), (19,12,3,306), (13,3,78,0), (3,2,0,0), (19,12,0,7), (3,2,0,0), (19,12,2,303), (21,0,0,0), (27,157,1,313), (12,0,78,0), (3,2,0,0), (19,12,2,303), (3,2,0,0), (19,12,41,345), (6,1,0,0), (0,1,0,6), (13,1,56,0), (3,2,0,0), (0,0,0,1), (3,2,0,0), (19,12,2,303), (27,156,3,327), (1,0,0,0), (28,1,0,0), (1,1,348,27), (3,1,1,0), (7,2,0,0), (3,2,0,0), (19,12,0,7), (3,2,0,0), (19,12,2,303), (21,0,0,0), (9,0,0,0), (7,0,0,0), (1,1,350,97), (7,1,0,0), (1,0,0,1), (7,0,0,0), (4,1,1,0), (3,2,0,0), (16,0,0,0), (19,12,2,303), (0,0,0,1), (6,0,0,0), (20,12,2,303), (14,0,30,0), (3,2,0,0), (3,2,0,0), (19,12,2,303), (20,12,4,317), (3,1,1,0), (28,1,0,0)]
/-- FireDrillModel.isAllowed(I)Z -/
def ax_p168 : List Nat := [0, 1, 2, 5, 6, 9, 12, 13, 14, 17, 20, 21, 24, 25, 28, 29, 30, 33, 36, 39, 42, 45, 46, 48, 51, 52, 55, 56]
def ax_c168 : List ax_O := [(3,0,1,0), (0,0,0,3), (13,2,24,0), (3,2,0,0), (19,12,53,352), (12,1,10,0), (3,0,1,0), (0,0,0,5), (13,3,26,0), (14,0,24,0), (3,2,0,0), (19,12,53,352), (0,0,0,1), (13,1,21,0), (3,0,1,0), (9,0,0,0), (1,1,355,5), (1,1,357,6), (27,153,3,337), (12,0,26,0), (14,0,24,0), (3,0,1,0), (0,1,0,6), (13,5,26,0), (0,0,0,1), (14,0,27,0), (0,0,0,0), (28,3,0,0)]
/-- FireDrillModel.isFull(III)Z -/
def ax_p169 : List Nat := [0, 1, 4, 7, 8, 11, 12, 13, 14, 17, 18, 19, 20, 23, 24, 27, 30, 31, 34, 35]
def ax_c169 : List ax_O := [(3,2,0,0), (19,12,5,297), (12,1,13,0), (3,2,0,0), (19,12,42,114), (3,0,1,0), (21,0,0,0), (3,0,2,0), (13,1,13,0), (3,2,0,0), (0,0,0,5), (3,0,3,0), (27,156,3,327), (3,2,0,0), (19,12,5,297), (12,0,18,0), (0,0,0,1), (14,0,19,0), (0,0,0,0), (28,3,0,0)]
/-- FireDrillModel.nameOf(IJ)I -/
def ax_p170 : List Nat := [0, 1, 3, 5, 6, 9, 10, 11, 14, 15, 18, 20, 21, 22, 24, 25, 26, 27, 28, 31, 33, 34, 37, 40, 41]
def ax_c170 : List ax_O := [(0,0,0,0), (4,0,4,1), (3,0,4,1), (3,2,0,0), (19,12,42,114), (3,0,1,0), (21,0,0,0), (13,3,23,0), (3,2,0,0), (19,12,43,117), (0,1,0,8), (3,0,1,0), (6,2,0,0), (3,0,4,1), (6,0,0,0), (21,1,0,0), (3,1,2,0), (11,0,0,0), (12,1,21,0), (3,0,4,1), (28,0,0,0), (5,4,0,1), (14,0,2,0), (0,0,0,(-1)), (28,0,0,0)]
/-- FireDrillModel.newName()J -/
def ax_p171 : List Nat := [0, 1, 4, 5, 6, 7, 8, 9, 12, 13, 16, 19, 20, 21, 22, 25, 26, 29, 30, 31, 32, 35, 38, 41, 44, 45]
def ax_c171 : List ax_O := [(3,2,0,0), (27,167,1,359), (4,1,1,0), (0,0,0,0), (4,0,3,0), (3,0,3,0), (0,0,0,3), (13,3,24,0), (3,2,0,0), (19,12,5,297), (12,1,22,0), (3,2,0,0), (3,0,3,0), (3,1,1,0), (27,170,3,363), (0,0,0,(-1)), (13,0,22,0), (3,2,0,0), (0,0,0,3), (3,2,0,0), (19,12,41,345), (27,156,3,327), (5,3,0,1), (14,0,5,0), (3,1,1,0), (28,1,0,0)]
/-- FireDrillModel.oneOf(I)I -/
def ax_p172 : List Nat := [0, 1, 4, 5, 6, 7, 8, 11, 13, 14, 17, 20, 22, 23, 26, 27, 28, 29, 32, 35, 36, 39, 42, 44, 47, 48]
def ax_c172 : List ax_O := [(3,2,0,0), (27,167,1,359), (4,1,2,0), (3,2,0,0), (3,0,1,0), (3,1,2,0), (27,170,3,363), (4,0,4,1), (3,2,0,0), (19,12,5,297), (12,1,19,0), (3,0,4,1), (0,0,0,(-1)), (13,1,19,0), (3,2,0,0), (0,0,0,3), (3,2,0,0), (19,12,41,345), (27,156,3,327), (3,2,0,0), (19,12,5,297), (12,1,24,0), (3,0,4,1), (14,0,25,0), (0,0,0,0), (28,0,0,0)]
/-- FireDrillModel.adds(IJ)I -/
def ax_p173 : List Nat := [0, 1, 4, 6, 7, 8, 9, 12, 13, 14, 15, 16, 17, 18, 21, 22, 23, 24, 25, 26, 27, 28, 31, 32, 33, 34, 35]
def ax_c173 : List ax_O := [(3,2,0,0), (19,12,43,117), (0,1,0,8), (3,0,1,0), (6,2,0,0), (3,2,0,0), (19,12,42,114), (3,0,1,0), (21,0,0,0), (6,0,0,0), (3,1,2,0), (22,1,0,0), (3,2,0,0), (19,12,42,114), (3,0,1,0), (17,0,0,0), (21,0,0,0), (0,0,0,1), (6,0,0,0), (22,0,0,0), (3,2,0,0), (19,12,42,114), (3,0,1,0), (21,0,0,0), (0,0,0,1), (6,1,0,0), (28,0,0,0)]
/-- FireDrillModel.roomTold(I)V -/
def ax_p174 : List Nat := [0, 1, 2, 4, 5, 8, 11, 12, 13, 16, 17, 18, 21, 24, 25, 26, 27, 30, 31]
def ax_c174 : List ax_O := [(3,2,0,0), (0,0,0,0), (0,1,0,8), (3,0,1,0), (27,169,4,367), (12,0,7,0), (28,2,0,0), (3,2,0,0), (27,171,1,371), (4,1,2,0), (3,2,0,0), (19,12,5,297), (12,1,18,0), (3,2,0,0), (0,0,0,0), (3,1,2,0), (27,173,3,374), (18,0,0,0), (28,2,0,0)]
/-- FireDrillModel.stairTold(I)V -/
def ax_p175 : List Nat := [0, 1, 2, 4, 5, 8, 11, 12, 13, 14, 17, 18, 19, 20, 23, 26, 27, 28, 31, 32, 33, 34, 37, 38, 41, 42, 44, 45, 47, 49, 50, 53, 54, 55, 58, 60, 63, 64, 67, 68, 70, 71, 72, 73, 76, 77, 80, 81, 83, 84, 85, 86, 87, 88, 91, 92, 95, 96, 98, 99, 100, 101, 104, 105, 108, 109, 111, 112, 113, 114, 115, 116, 119, 120, 123, 124, 126, 129, 132, 133, 136, 139, 141, 144, 145, 146, 147, 150, 153, 154, 155, 158, 161, 162, 163, 164, 167, 169, 170, 173, 176, 177, 178, 179, 182, 183, 184, 185, 187, 188, 191, 193, 194, 195, 196, 199, 201, 202, 203, 204, 205, 206, 209, 211, 212, 213, 215, 216, 217, 220, 221, 222, 223, 224, 225, 226]
def ax_c175 : List ax_O := [(3,2,0,0), (0,0,0,3), (0,1,0,10), (3,0,1,0), (27,169,4,367), (12,0,7,0), (28,2,0,0), (3,2,0,0), (0,0,0,0), (27,172,2,377), (4,0,2,0), (3,2,0,0), (3,2,0,0), (19,12,12,27), (27,162,2,381), (3,2,0,0), (0,0,0,0), (27,172,2,377), (4,0,3,0), (3,0,2,0), (3,0,3,0), (13,1,24,0), (0,0,0,1), (14,0,25,0), (0,0,0,0), (4,0,4,1), (0,0,0,0), (4,0,5,1), (3,0,5,1), (3,2,0,0), (19,12,42,114), (0,0,0,3), (21,0,0,0), (13,3,78,0), (3,0,4,1), (12,1,72,0), (3,2,0,0), (19,12,44,121), (0,0,0,3), (3,0,5,1), (6,2,0,0), (21,0,0,0), (3,0,2,0), (13,1,54,0), (3,2,0,0), (19,12,44,121), (0,0,0,3), (3,0,5,1), (6,2,0,0), (0,0,0,1), (6,0,0,0), (21,0,0,0), (3,0,3,0), (13,0,72,0), (3,2,0,0), (19,12,44,121), (0,0,0,3), (3,0,5,1), (6,2,0,0), (21,0,0,0), (3,0,3,0), (13,1,74,0), (3,2,0,0), (19,12,44,121), (0,0,0,3), (3,0,5,1), (6,2,0,0), (0,0,0,1), (6,0,0,0), (21,0,0,0), (3,0,2,0), (13,1,74,0), (0,0,0,1), (14,0,75,0), (0,0,0,0), (4,0,4,1), (5,5,0,1), (14,0,28,0), (3,2,0,0), (19,12,5,297), (12,1,88,0), (3,0,4,1), (12,0,88,0), (3,2,0,0), (0,0,0,3), (3,2,0,0), (19,12,41,345), (27,156,3,327), (3,2,0,0), (3,2,0,0), (19,12,13,30), (27,162,2,381), (3,2,0,0), (0,0,0,1), (0,0,0,4), (27,165,3,385), (4,0,5,1), (3,2,0,0), (19,12,5,297), (12,0,101,0), (28,2,0,0), (0,0,0,3), (3,2,0,0), (19,12,42,114), (0,0,0,3), (21,0,0,0), (6,2,0,0), (4,0,6,1), (3,2,0,0), (19,12,44,121), (3,0,6,1), (3,0,2,0), (22,0,0,0), (3,2,0,0), (19,12,44,121), (3,0,6,1), (0,0,0,1), (6,0,0,0), (3,0,3,0), (22,0,0,0), (3,2,0,0), (19,12,44,121), (3,0,6,1), (0,0,0,2), (6,0,0,0), (3,0,5,1), (22,0,0,0), (3,2,0,0), (19,12,42,114), (0,0,0,3), (17,0,0,0), (21,0,0,0), (0,0,0,1), (6,0,0,0), (22,0,0,0), (28,2,0,0)]
/-- FireDrillModel.sectionTold(I)V -/
def ax_p176 : List Nat := [0, 1, 2, 3, 4, 7, 10, 11, 12, 15, 16, 17, 18, 21, 24, 25, 26, 28, 31, 33, 34, 37, 40, 41, 44, 45, 46, 47, 50, 52, 53]
def ax_c176 : List ax_O := [(3,2,0,0), (0,0,0,1), (0,0,0,5), (3,0,1,0), (27,169,4,367), (12,0,7,0), (28,2,0,0), (3,2,0,0), (27,171,1,371), (4,1,2,0), (3,2,0,0), (3,2,0,0), (19,12,15,36), (27,162,2,381), (3,2,0,0), (0,0,0,0), (0,1,0,20), (27,165,3,385), (4,0,4,1), (3,2,0,0), (19,12,5,297), (12,1,30,0), (3,2,0,0), (19,12,45,124), (3,2,0,0), (0,0,0,1), (3,1,2,0), (27,173,3,374), (3,0,4,1), (22,0,0,0), (28,2,0,0)]
/-- FireDrillModel.clerkTold(I)V -/
def ax_p177 : List Nat := [0, 1, 2, 4, 5, 8, 11, 12, 13, 16, 17, 18, 19, 22, 25, 26, 27, 30, 32, 33, 34, 37, 40, 41, 42, 45, 47, 48, 49, 52, 55, 56, 57, 58, 61, 63, 64, 65, 68, 71, 72, 73, 75, 78, 80, 81, 84, 87, 88, 89, 90, 91, 92, 95, 96, 98, 99, 102, 104, 106, 107, 108, 111, 113, 114, 115, 117, 118, 119, 122, 124, 125, 126, 128, 129, 130, 133, 135, 136, 137, 139, 140]
def ax_c177 : List ax_O := [(3,2,0,0), (0,0,0,2), (0,1,0,8), (3,0,1,0), (27,169,4,367), (12,0,7,0), (28,2,0,0), (3,2,0,0), (27,171,1,371), (4,1,2,0), (3,2,0,0), (3,2,0,0), (19,12,17,42), (27,162,2,381), (3,2,0,0), (0,0,0,0), (27,172,2,377), (4,0,4,1), (3,2,0,0), (3,2,0,0), (19,12,18,45), (27,162,2,381), (3,2,0,0), (0,0,0,1), (27,172,2,377), (4,0,5,1), (3,2,0,0), (3,2,0,0), (19,12,19,48), (27,162,2,381), (3,2,0,0), (0,0,0,1), (0,0,0,3), (27,165,3,385), (4,0,6,1), (3,2,0,0), (3,2,0,0), (19,12,20,51), (27,162,2,381), (3,2,0,0), (0,0,0,0), (0,1,0,9), (27,165,3,385), (4,0,7,1), (3,2,0,0), (19,12,5,297), (12,0,48,0), (28,2,0,0), (0,0,0,4), (3,2,0,0), (0,0,0,2), (3,1,2,0), (27,173,3,374), (6,2,0,0), (4,0,8,1), (3,2,0,0), (19,12,46,127), (3,0,8,1), (3,0,4,1), (22,0,0,0), (3,2,0,0), (19,12,46,127), (3,0,8,1), (0,0,0,1), (6,0,0,0), (3,0,5,1), (22,0,0,0), (3,2,0,0), (19,12,46,127), (3,0,8,1), (0,0,0,2), (6,0,0,0), (3,0,6,1), (22,0,0,0), (3,2,0,0), (19,12,46,127), (3,0,8,1), (0,0,0,3), (6,0,0,0), (3,0,7,1), (22,0,0,0), (28,2,0,0)]
/-- FireDrillModel.codesTold(II)V -/
def ax_p178 : List Nat := [0, 1, 4, 7, 8, 11, 12, 13, 14, 17, 18, 19, 20, 23, 24, 27, 30, 31, 32, 33, 36, 37, 38, 41, 42, 43, 46, 47, 48, 51, 52, 53, 56, 57, 60, 61, 64, 67, 68, 71, 72, 75, 78, 79, 80, 83, 84, 85, 88, 89, 90, 91, 92, 93, 96, 99, 100, 103, 104, 107, 108, 111, 112, 113, 114, 115, 116, 119, 120, 121, 124, 127, 130, 131, 134, 135, 136, 139, 140]
def ax_c178 : List ax_O := [(3,2,0,0), (19,12,5,297), (12,1,13,0), (3,2,0,0), (19,12,48,133), (3,0,1,0), (21,0,0,0), (0,0,0,(-1)), (13,0,13,0), (3,2,0,0), (0,0,0,5), (3,0,2,0), (27,156,3,327), (3,2,0,0), (19,12,5,297), (12,0,17,0), (28,2,0,0), (3,2,0,0), (3,0,1,0), (20,12,53,352), (3,2,0,0), (0,0,0,0), (20,12,110,389), (3,2,0,0), (0,0,0,0), (20,12,112,392), (3,2,0,0), (0,0,0,0), (20,12,113,395), (3,2,0,0), (0,0,0,0), (20,12,114,398), (3,0,1,0), (12,1,37,0), (3,2,0,0), (27,280,1,401), (14,0,39,0), (3,2,0,0), (27,276,1,404), (3,2,0,0), (19,12,5,297), (12,0,43,0), (28,2,0,0), (3,2,0,0), (19,12,48,133), (3,0,1,0), (3,2,0,0), (19,12,51,407), (22,0,0,0), (0,0,0,0), (4,0,3,0), (3,0,3,0), (3,2,0,0), (19,12,110,389), (13,3,72,0), (3,2,0,0), (19,12,50,139), (3,2,0,0), (19,12,51,407), (3,2,0,0), (19,12,109,282), (3,0,3,0), (21,0,0,0), (22,0,0,0), (3,2,0,0), (16,0,0,0), (19,12,51,407), (0,0,0,1), (6,0,0,0), (20,12,51,407), (5,3,0,1), (14,0,51,0), (3,2,0,0), (19,12,49,136), (3,0,1,0), (3,2,0,0), (19,12,51,407), (22,0,0,0), (28,2,0,0)]
/-- FireDrillModel.statementTold()V -/
def ax_p179 : List Nat := [0, 1, 4, 5, 6, 9, 11, 14, 15, 16, 17, 20, 21, 22, 23, 26, 29, 32, 33, 34, 37, 40, 41, 42, 45, 48, 51, 52, 53, 56, 59, 60, 61, 64, 67, 70, 71, 72, 75, 78, 79, 80, 83, 86, 89, 90, 91, 94, 97, 98, 99, 102, 105, 108, 109, 110, 111, 114, 117, 118, 119, 122, 125, 128, 129, 130, 131, 134, 137, 138, 139, 142, 145, 148, 149, 152, 153, 154, 155, 157, 160, 161, 164, 165, 166, 169, 172, 175, 176, 179, 180, 181, 182, 184, 187, 188, 191, 192, 193, 196, 199, 200, 203, 204, 205, 206, 208, 211, 212, 213, 215, 218, 219, 220, 223, 224, 225, 228]
def ax_c179 : List ax_O := [(3,2,0,0), (19,12,2,303), (4,0,1,0), (3,2,0,0), (19,12,52,410), (0,1,0,80), (13,1,12,0), (3,2,0,0), (0,0,0,5), (3,0,1,0), (27,156,3,327), (28,2,0,0), (3,2,0,0), (3,2,0,0), (19,12,10,20), (27,161,2,324), (12,0,21,0), (3,2,0,0), (3,0,1,0), (27,174,2,413), (14,0,108,0), (3,2,0,0), (3,2,0,0), (19,12,11,24), (27,161,2,324), (12,0,30,0), (3,2,0,0), (3,0,1,0), (27,175,2,417), (14,0,108,0), (3,2,0,0), (3,2,0,0), (19,12,14,33), (27,161,2,324), (12,0,39,0), (3,2,0,0), (3,0,1,0), (27,176,2,420), (14,0,108,0), (3,2,0,0), (3,2,0,0), (19,12,16,39), (27,161,2,324), (12,0,48,0), (3,2,0,0), (3,0,1,0), (27,177,2,423), (14,0,108,0), (3,2,0,0), (3,2,0,0), (19,12,21,54), (27,161,2,324), (12,0,58,0), (3,2,0,0), (0,0,0,0), (3,0,1,0), (27,178,3,426), (14,0,108,0), (3,2,0,0), (3,2,0,0), (19,12,22,57), (27,161,2,324), (12,0,68,0), (3,2,0,0), (0,0,0,1), (3,0,1,0), (27,178,3,426), (14,0,108,0), (3,2,0,0), (3,2,0,0), (19,12,23,60), (27,161,2,324), (12,0,82,0), (3,2,0,0), (19,12,47,130), (0,0,0,0), (3,2,0,0), (0,0,0,0), (0,1,0,20), (27,165,3,385), (22,0,0,0), (14,0,108,0), (3,2,0,0), (3,2,0,0), (19,12,24,63), (27,161,2,324), (12,0,96,0), (3,2,0,0), (19,12,47,130), (0,0,0,1), (3,2,0,0), (0,0,0,1), (0,1,0,9), (27,165,3,385), (22,0,0,0), (14,0,108,0), (3,2,0,0), (3,2,0,0), (19,12,25,66), (27,162,2,381), (3,2,0,0), (19,12,47,130), (0,0,0,2), (3,2,0,0), (0,0,0,0), (0,1,0,100), (27,165,3,385), (22,0,0,0), (3,2,0,0), (0,1,0,59), (27,164,2,429), (3,2,0,0), (16,0,0,0), (19,12,52,410), (0,0,0,1), (6,0,0,0), (20,12,52,410), (28,2,0,0)]
/-- FireDrillModel.house()I -/
def ax_p180 : List Nat := [0, 1, 2, 5, 8, 9, 10, 13, 14, 15, 18, 19, 20, 23, 24, 25, 28, 29, 30, 33, 34, 35, 38, 39, 40, 43, 44, 45, 46, 47, 50, 51, 54, 55, 56, 57, 60, 63, 64, 67, 68, 69, 70, 71, 74, 75, 76, 77, 78, 81, 82, 83, 84, 85, 88, 89, 90, 91, 92, 95, 96, 97, 98, 99, 102, 105, 106, 109, 110, 113, 114, 117, 120, 121, 122, 125, 128, 129, 130, 133, 136, 137, 140, 143, 144, 147, 148, 149, 150, 151, 152, 153, 154, 155, 156, 159, 160, 163]
def ax_c180 : List ax_O := [(3,2,0,0), (3,2,0,0), (19,12,1,294), (20,12,3,306), (3,2,0,0), (0,0,0,0), (20,12,1,294), (3,2,0,0), (0,0,0,0), (20,12,2,303), (3,2,0,0), (0,0,0,(-1)), (20,12,4,317), (3,2,0,0), (0,0,0,0), (20,12,5,297), (3,2,0,0), (0,0,0,(-1)), (20,12,6,300), (3,2,0,0), (0,0,0,0), (20,12,52,410), (3,2,0,0), (0,0,0,0), (20,12,51,407), (0,0,0,0), (4,0,1,0), (3,0,1,0), (0,0,0,4), (13,3,37,0), (3,2,0,0), (19,12,42,114), (3,0,1,0), (0,0,0,0), (22,0,0,0), (5,1,0,1), (14,0,27,0), (3,2,0,0), (19,12,48,133), (0,0,0,0), (0,0,0,(-1)), (22,0,0,0), (3,2,0,0), (19,12,48,133), (0,0,0,1), (0,0,0,(-1)), (22,0,0,0), (3,2,0,0), (19,12,47,130), (0,0,0,0), (0,0,0,3), (22,0,0,0), (3,2,0,0), (19,12,47,130), (0,0,0,1), (0,0,0,2), (22,0,0,0), (3,2,0,0), (19,12,47,130), (0,0,0,2), (0,0,0,0), (22,0,0,0), (3,2,0,0), (19,12,5,297), (12,1,72,0), (3,2,0,0), (27,159,1,309), (0,0,0,(-1)), (13,0,72,0), (3,2,0,0), (27,179,1,432), (14,0,62,0), (3,2,0,0), (3,2,0,0), (19,12,5,297), (20,12,7,435), (3,2,0,0), (3,2,0,0), (19,12,6,300), (20,12,8,13), (3,2,0,0), (19,12,5,297), (12,0,93,0), (3,2,0,0), (19,12,9,17), (0,0,0,1), (17,0,0,0), (21,0,0,0), (0,0,0,1), (6,0,0,0), (22,0,0,0), (0,0,0,(-1)), (28,0,0,0), (3,2,0,0), (27,181,1,438), (3,2,0,0), (19,12,52,410), (28,0,0,0)]
/-- FireDrillModel.stands()V -/
def ax_p181 : List Nat := [0, 1, 2, 3, 4, 7, 8, 11, 12, 13, 14, 15, 18, 19, 20, 21, 24, 27, 28, 29, 30, 32, 35, 36, 39, 41, 42, 43, 44, 47, 48, 49, 50, 53, 56, 57, 58, 59, 61, 64, 65, 68, 70, 71, 72, 73, 76, 77, 78, 79, 82, 85, 86, 87, 88, 90, 93, 94, 97, 99, 100, 101, 102, 105, 106, 107, 108, 111, 114, 115, 116, 117, 118, 121, 122, 125, 126, 127, 128, 129, 132, 133, 134, 135, 138, 141, 142, 143, 144, 145, 148, 149, 152, 153, 154, 155, 156, 159, 160, 161, 162, 163, 166, 167, 168, 169, 170, 173, 174, 175, 176, 179, 182, 183, 184, 185, 186, 189, 192, 193, 196, 199, 200, 201, 202, 205, 206, 207, 208, 211, 214, 215, 216, 217, 219, 222, 223, 226, 227, 228, 229, 232, 235, 236, 237, 238, 239, 242, 243, 244, 247, 248, 251, 252, 253, 254, 255, 258, 259, 260, 261, 264, 267, 268, 269, 272, 273, 274, 277]
def ax_c181 : List ax_O := [(0,0,0,0), (4,0,1,0), (3,0,1,0), (0,0,0,4), (13,3,17,0), (3,2,0,0), (19,12,42,114), (0,0,0,4), (3,0,1,0), (6,0,0,0), (3,2,0,0), (19,12,42,114), (3,0,1,0), (21,0,0,0), (22,0,0,0), (5,1,0,1), (14,0,2,0), (0,0,0,0), (4,0,1,0), (3,0,1,0), (0,1,0,24), (13,3,34,0), (3,2,0,0), (19,12,43,117), (0,1,0,24), (3,0,1,0), (6,0,0,0), (3,2,0,0), (19,12,43,117), (3,0,1,0), (21,1,0,0), (22,1,0,0), (5,1,0,1), (14,0,19,0), (0,0,0,0), (4,0,1,0), (3,0,1,0), (0,1,0,30), (13,3,51,0), (3,2,0,0), (19,12,44,121), (0,1,0,30), (3,0,1,0), (6,0,0,0), (3,2,0,0), (19,12,44,121), (3,0,1,0), (21,0,0,0), (22,0,0,0), (5,1,0,1), (14,0,36,0), (0,0,0,0), (4,0,1,0), (3,0,1,0), (0,1,0,32), (13,3,68,0), (3,2,0,0), (19,12,46,127), (0,1,0,32), (3,0,1,0), (6,0,0,0), (3,2,0,0), (19,12,46,127), (3,0,1,0), (21,0,0,0), (22,0,0,0), (5,1,0,1), (14,0,53,0), (0,0,0,0), (4,0,1,0), (3,0,1,0), (0,0,0,3), (13,3,85,0), (3,2,0,0), (19,12,47,130), (0,0,0,3), (3,0,1,0), (6,0,0,0), (3,2,0,0), (19,12,47,130), (3,0,1,0), (21,0,0,0), (22,0,0,0), (5,1,0,1), (14,0,70,0), (0,0,0,0), (4,0,1,0), (3,0,1,0), (0,0,0,2), (13,3,112,0), (3,2,0,0), (19,12,48,133), (0,0,0,2), (3,0,1,0), (6,0,0,0), (3,2,0,0), (19,12,48,133), (3,0,1,0), (21,0,0,0), (22,0,0,0), (3,2,0,0), (19,12,49,136), (0,0,0,2), (3,0,1,0), (6,0,0,0), (3,2,0,0), (19,12,49,136), (3,0,1,0), (21,0,0,0), (22,0,0,0), (5,1,0,1), (14,0,87,0), (0,0,0,0), (4,0,1,0), (3,0,1,0), (3,2,0,0), (19,12,51,407), (13,3,130,0), (3,2,0,0), (19,12,50,139), (0,2,0,1600), (3,0,1,0), (6,0,0,0), (3,2,0,0), (19,12,50,139), (3,0,1,0), (21,0,0,0), (22,0,0,0), (5,1,0,1), (14,0,114,0), (0,0,0,0), (4,0,1,0), (3,0,1,0), (0,1,0,44), (13,3,142,0), (3,2,0,0), (19,12,54,142), (3,0,1,0), (0,0,0,0), (22,0,0,0), (5,1,0,1), (14,0,132,0), (0,0,0,0), (4,0,1,0), (3,0,1,0), (3,2,0,0), (19,12,42,114), (0,0,0,1), (21,0,0,0), (13,3,162,0), (3,2,0,0), (19,12,54,142), (0,0,0,1), (3,0,1,0), (6,0,0,0), (3,2,0,0), (19,12,45,124), (3,0,1,0), (21,0,0,0), (22,0,0,0), (5,1,0,1), (14,0,144,0), (3,2,0,0), (0,0,0,0), (20,12,82,441), (3,2,0,0), (0,0,0,0), (20,12,76,444), (28,2,0,0)]
/-- FireDrillModel.fault(I)I -/
def ax_p182 : List Nat := [0, 1, 4, 5, 8, 11, 12, 13, 16, 17, 20, 23, 24]
def ax_c182 : List ax_O := [(3,0,1,0), (12,1,5,0), (3,2,0,0), (19,12,7,435), (14,0,12,0), (3,0,1,0), (0,0,0,1), (13,1,11,0), (3,2,0,0), (19,12,8,13), (14,0,12,0), (0,0,0,(-1)), (28,0,0,0)]
/-- FireDrillModel.roomMany()I -/
def ax_p183 : List Nat := [0, 1, 4, 5, 6]
def ax_c183 : List ax_O := [(3,2,0,0), (19,12,42,114), (0,0,0,4), (21,0,0,0), (28,0,0,0)]
/-- FireDrillModel.stairMany()I -/
def ax_p184 : List Nat := [0, 1, 4, 6, 7]
def ax_c184 : List ax_O := [(3,2,0,0), (19,12,42,114), (0,1,0,7), (21,0,0,0), (28,0,0,0)]
/-- FireDrillModel.sectionMany()I -/
def ax_p185 : List Nat := [0, 1, 4, 5, 6]
def ax_c185 : List ax_O := [(3,2,0,0), (19,12,42,114), (0,0,0,5), (21,0,0,0), (28,0,0,0)]
/-- FireDrillModel.clerkMany()I -/
def ax_p186 : List Nat := [0, 1, 4, 6, 7]
def ax_c186 : List ax_O := [(3,2,0,0), (19,12,42,114), (0,1,0,6), (21,0,0,0), (28,0,0,0)]
/-- FireDrillModel.isStair(I)Z -/
def ax_p187 : List Nat := [0, 1, 2, 3, 4, 7, 8, 9, 10, 13]
def ax_c187 : List ax_O := [(3,0,1,0), (9,0,0,0), (1,0,0,0), (3,2,0,0), (27,184,1,447), (0,0,0,1), (6,1,0,0), (9,0,0,0), (27,153,3,337), (28,3,0,0)]
/-- FireDrillModel.isSection(I)Z -/
def ax_p188 : List Nat := [0, 1, 2, 3, 4, 7, 8, 9, 10, 13]
def ax_c188 : List ax_O := [(3,0,1,0), (9,0,0,0), (1,0,0,0), (3,2,0,0), (27,185,1,450), (0,0,0,1), (6,1,0,0), (9,0,0,0), (27,153,3,337), (28,3,0,0)]
/-- FireDrillModel.isClerk(I)Z -/
def ax_p189 : List Nat := [0, 1, 2, 3, 4, 7, 8, 9, 10, 13]
def ax_c189 : List ax_O := [(3,0,1,0), (9,0,0,0), (1,0,0,0), (3,2,0,0), (27,186,1,453), (0,0,0,1), (6,1,0,0), (9,0,0,0), (27,153,3,337), (28,3,0,0)]
/-- FireDrillModel.homeOf(I)I -/
def ax_p190 : List Nat := [0, 1, 4, 6, 7, 8, 9, 10, 11]
def ax_c190 : List ax_O := [(3,2,0,0), (19,12,46,127), (0,1,0,32), (0,0,0,4), (3,0,1,0), (6,2,0,0), (6,0,0,0), (21,0,0,0), (28,0,0,0)]
/-- FireDrillModel.sectionOf(I)I -/
def ax_p191 : List Nat := [0, 1, 4, 6, 7, 8, 9, 10, 11]
def ax_c191 : List ax_O := [(3,2,0,0), (19,12,46,127), (0,1,0,33), (0,0,0,4), (3,0,1,0), (6,2,0,0), (6,0,0,0), (21,0,0,0), (28,0,0,0)]
/-- FireDrillModel.isShut(I)Z -/
def ax_p192 : List Nat := [0, 1, 4, 6, 7, 8, 9, 10, 13, 14, 17, 18]
def ax_c192 : List ax_O := [(3,2,0,0), (19,12,54,142), (0,1,0,6), (3,0,1,0), (6,0,0,0), (21,0,0,0), (0,0,0,1), (13,1,10,0), (0,0,0,1), (14,0,11,0), (0,0,0,0), (28,3,0,0)]
/-- FireDrillModel.pairAt(II)I -/
def ax_p193 : List Nat := [0, 1, 2, 5, 6, 9, 10, 11, 12, 13, 16, 17, 20, 21, 22, 24, 25, 27, 28, 29, 30, 31, 32, 33, 34, 35, 36, 37, 38, 39]
def ax_c193 : List ax_O := [(3,0,0,0), (3,0,1,0), (13,3,5,0), (3,0,0,0), (14,0,6,0), (3,0,1,0), (4,0,2,0), (3,0,0,0), (3,0,1,0), (13,3,12,0), (3,0,1,0), (14,0,13,0), (3,0,0,0), (4,0,3,0), (0,1,0,16), (3,0,2,0), (0,1,0,15), (3,0,2,0), (6,1,0,0), (6,2,0,0), (0,0,0,2), (6,3,0,0), (6,0,0,0), (3,0,3,0), (6,0,0,0), (3,0,2,0), (6,1,0,0), (0,0,0,1), (6,1,0,0), (28,0,0,0)]
/-- FireDrillModel.signedBy(I)I -/
def ax_p194 : List Nat := [0, 1, 2, 3, 4, 5, 6, 9, 12, 13, 14, 17, 18, 19, 22, 23, 24, 27, 28, 29, 30, 33, 36, 37]
def ax_c194 : List ax_O := [(0,0,0,0), (4,0,2,0), (0,0,0,0), (4,0,3,0), (3,0,3,0), (3,2,0,0), (27,186,1,453), (13,3,22,0), (3,0,3,0), (3,0,1,0), (13,0,20,0), (3,0,2,0), (3,2,0,0), (19,12,54,142), (3,0,1,0), (3,0,3,0), (27,193,2,456), (21,0,0,0), (6,0,0,0), (4,0,2,0), (5,3,0,1), (14,0,4,0), (3,0,2,0), (28,0,0,0)]
/-- FireDrillModel.signedAll()I -/
def ax_p195 : List Nat := [0, 1, 2, 3, 4, 5, 7, 10, 11, 12, 15, 17, 18, 19, 20, 21, 22, 25, 28, 29]
def ax_c195 : List ax_O := [(0,0,0,0), (4,0,1,0), (0,0,0,0), (4,0,2,0), (3,0,2,0), (0,1,0,28), (13,3,18,0), (3,0,1,0), (3,2,0,0), (19,12,54,142), (0,1,0,16), (3,0,2,0), (6,0,0,0), (21,0,0,0), (6,0,0,0), (4,0,1,0), (5,2,0,1), (14,0,4,0), (3,0,1,0), (28,0,0,0)]
/-- FireDrillModel.codesTell(II)J -/
def ax_p196 : List Nat := [0, 1, 2, 5, 6, 7, 10, 11, 14, 15, 16, 17, 18, 19, 20, 21, 24, 25, 26, 27, 28, 31, 32, 35, 38, 39, 40, 41, 43, 45, 48, 51, 52, 54, 57, 58, 59, 62, 65, 67, 69, 72, 73, 74, 76, 78, 79, 80, 83, 86, 89, 91, 93, 96, 97, 98, 101, 104, 106, 108, 111, 112, 115, 116, 119, 120, 121, 122, 123, 126, 127, 130, 131, 132, 133, 134, 135, 138, 139, 141, 144, 147, 150, 151, 154, 155, 156]
def ax_c196 : List ax_O := [(3,2,0,0), (3,0,1,0), (20,12,53,352), (3,2,0,0), (0,0,0,0), (20,12,116,459), (3,2,0,0), (19,12,48,133), (0,0,0,2), (3,0,1,0), (6,0,0,0), (21,0,0,0), (4,0,3,0), (3,0,3,0), (3,2,0,0), (19,12,49,136), (0,0,0,2), (3,0,1,0), (6,0,0,0), (21,0,0,0), (13,3,82,0), (3,2,0,0), (19,12,50,139), (0,2,0,1600), (3,0,3,0), (6,0,0,0), (21,0,0,0), (4,0,4,1), (3,0,4,1), (0,2,0,1000), (13,2,38,0), (3,2,0,0), (3,0,4,1), (0,2,0,1000), (6,1,0,0), (9,0,0,0), (27,284,2,462), (14,0,80,0), (3,0,4,1), (0,1,0,40), (13,2,50,0), (3,2,0,0), (3,2,0,0), (3,0,4,1), (0,1,0,40), (6,1,0,0), (3,0,2,0), (27,286,3,466), (27,284,2,462), (14,0,80,0), (3,0,4,1), (0,1,0,13), (13,1,57,0), (3,2,0,0), (1,0,0,1), (27,284,2,462), (14,0,80,0), (3,0,4,1), (0,1,0,12), (13,1,77,0), (3,2,0,0), (19,12,115,288), (3,2,0,0), (19,12,116,459), (0,0,0,1), (6,1,0,0), (1,0,0,1), (3,2,0,0), (19,12,115,288), (3,2,0,0), (19,12,116,459), (0,0,0,1), (6,1,0,0), (21,1,0,0), (7,1,0,0), (22,1,0,0), (14,0,80,0), (3,2,0,0), (3,0,4,1), (27,285,2,470), (5,3,0,1), (14,0,13,0), (3,2,0,0), (19,12,115,288), (0,0,0,0), (21,1,0,0), (28,1,0,0)]
/-- FireDrillModel.isClosed(I)Z -/
def ax_p197 : List Nat := [0, 1, 2, 5, 8, 9, 10, 13, 16, 17, 20, 21]
def ax_c197 : List ax_O := [(3,2,0,0), (3,0,1,0), (27,192,2,473), (12,1,8,0), (3,0,1,0), (3,2,0,0), (19,12,69,172), (13,1,10,0), (0,0,0,1), (14,0,11,0), (0,0,0,0), (28,3,0,0)]
/-- FireDrillModel.laysFars()V -/
def ax_p198 : List Nat := [0, 1, 2, 3, 5, 8, 9, 12, 13, 14, 15, 18, 21, 22, 25, 28, 29, 32, 33, 34, 35, 36, 37, 38, 40, 43, 44, 45, 46, 47, 50, 53, 54, 55, 58, 61, 64, 65, 68, 70, 71, 72, 73, 74, 75, 76, 77, 80, 82, 83, 84, 85, 86, 87, 89, 90, 93, 94, 95, 96, 99, 100, 103, 105, 106, 107, 110, 111, 114, 116, 117, 118, 119, 120, 121, 124, 126, 127, 128, 131, 132, 135, 136, 137, 138, 141, 142, 145, 146, 147, 148, 149, 150, 153, 156, 159, 162]
def ax_c198 : List ax_O := [(0,0,0,0), (4,0,1,0), (3,0,1,0), (0,1,0,8), (13,3,12,0), (3,2,0,0), (19,12,60,148), (3,0,1,0), (0,0,0,(-1)), (22,0,0,0), (5,1,0,1), (14,0,2,0), (3,2,0,0), (27,183,1,476), (12,5,20,0), (3,2,0,0), (19,12,60,148), (0,0,0,0), (0,0,0,0), (22,0,0,0), (0,0,0,0), (4,0,1,0), (3,0,1,0), (0,1,0,8), (13,3,96,0), (0,0,0,0), (4,0,2,0), (3,0,2,0), (3,2,0,0), (27,184,1,447), (13,3,94,0), (3,2,0,0), (3,0,2,0), (27,197,2,479), (12,0,36,0), (14,0,92,0), (3,2,0,0), (19,12,44,121), (0,1,0,30), (0,0,0,3), (3,0,2,0), (6,2,0,0), (6,0,0,0), (21,0,0,0), (4,0,3,0), (3,2,0,0), (19,12,44,121), (0,1,0,31), (0,0,0,3), (3,0,2,0), (6,2,0,0), (6,0,0,0), (21,0,0,0), (4,0,4,1), (3,2,0,0), (19,12,60,148), (3,0,3,0), (21,0,0,0), (3,0,1,0), (13,1,73,0), (3,2,0,0), (19,12,60,148), (3,0,4,1), (21,0,0,0), (0,0,0,(-1)), (13,1,73,0), (3,2,0,0), (19,12,60,148), (3,0,4,1), (3,0,1,0), (0,0,0,1), (6,0,0,0), (22,0,0,0), (3,2,0,0), (19,12,60,148), (3,0,4,1), (21,0,0,0), (3,0,1,0), (13,1,92,0), (3,2,0,0), (19,12,60,148), (3,0,3,0), (21,0,0,0), (0,0,0,(-1)), (13,1,92,0), (3,2,0,0), (19,12,60,148), (3,0,3,0), (3,0,1,0), (0,0,0,1), (6,0,0,0), (22,0,0,0), (5,2,0,1), (14,0,27,0), (5,1,0,1), (14,0,22,0), (28,2,0,0)]
/-- FireDrillModel.stairBetween(II)I -/
def ax_p199 : List Nat := [0, 1, 2, 3, 4, 7, 10, 11, 14, 16, 17, 18, 19, 20, 21, 23, 24, 27, 29, 30, 31, 32, 33, 34, 36, 38, 39, 42, 44, 45, 48, 50, 51, 54, 56, 57, 60, 61, 62, 65, 68, 69]
def ax_c199 : List ax_O := [(0,0,0,0), (4,0,3,0), (3,0,3,0), (3,2,0,0), (27,184,1,447), (13,3,40,0), (3,2,0,0), (19,12,44,121), (0,1,0,30), (0,0,0,3), (3,0,3,0), (6,2,0,0), (6,0,0,0), (21,0,0,0), (4,0,4,1), (3,2,0,0), (19,12,44,121), (0,1,0,31), (0,0,0,3), (3,0,3,0), (6,2,0,0), (6,0,0,0), (21,0,0,0), (4,0,5,1), (3,0,4,1), (3,0,1,0), (13,1,30,0), (3,0,5,1), (3,0,2,0), (13,0,36,0), (3,0,4,1), (3,0,2,0), (13,1,38,0), (3,0,5,1), (3,0,1,0), (13,1,38,0), (3,0,3,0), (28,0,0,0), (5,3,0,1), (14,0,2,0), (0,0,0,(-1)), (28,0,0,0)]
/-- FireDrillModel.isPassable(I)Z -/
def ax_p200 : List Nat := [0, 1, 2, 5, 8, 9, 12, 13, 14, 15, 18, 20, 21, 22, 23, 24, 25, 26, 27, 30, 33, 34, 37, 38, 39, 42, 43, 46, 47]
def ax_c200 : List ax_O := [(3,2,0,0), (3,0,1,0), (27,197,2,479), (12,1,27,0), (3,2,0,0), (19,12,61,151), (3,0,1,0), (21,0,0,0), (3,2,0,0), (19,12,44,121), (0,1,0,32), (0,0,0,3), (3,0,1,0), (6,2,0,0), (6,0,0,0), (21,0,0,0), (3,0,1,0), (3,2,0,0), (19,12,70,175), (13,1,22,0), (0,0,0,1), (14,0,23,0), (0,0,0,0), (6,0,0,0), (13,3,27,0), (0,0,0,1), (14,0,28,0), (0,0,0,0), (28,3,0,0)]
/-- FireDrillModel.goesStair(I)Z -/
def ax_p201 : List Nat := [0, 1, 4, 5, 6, 7, 8, 11, 12, 15, 16, 17, 18, 21, 22, 23, 24, 25, 26, 27, 30, 33, 34, 37, 38, 39, 40, 43, 44, 45, 46, 47, 50, 53, 54, 55, 56, 59, 61, 63, 64, 67, 68, 70, 73, 76, 79, 80, 83, 85, 86, 87, 88, 89, 90, 91, 94, 95, 96, 97, 98, 99, 102, 105, 106]
def ax_c201 : List ax_O := [(3,2,0,0), (19,12,62,154), (3,0,1,0), (21,0,0,0), (4,0,2,0), (3,0,2,0), (12,0,13,0), (3,2,0,0), (19,12,60,148), (3,0,2,0), (21,0,0,0), (0,0,0,(-1)), (13,1,15,0), (0,0,0,0), (28,3,0,0), (0,0,0,0), (4,0,3,0), (3,0,3,0), (3,2,0,0), (27,183,1,476), (13,3,63,0), (3,2,0,0), (19,12,60,148), (3,0,3,0), (21,0,0,0), (3,2,0,0), (19,12,60,148), (3,0,2,0), (21,0,0,0), (0,0,0,1), (6,1,0,0), (13,0,33,0), (14,0,61,0), (3,2,0,0), (3,0,2,0), (3,0,3,0), (27,199,3,482), (4,0,4,1), (3,0,4,1), (0,0,0,(-1)), (13,0,61,0), (3,2,0,0), (3,0,4,1), (27,200,2,485), (12,1,46,0), (14,0,61,0), (3,2,0,0), (19,12,61,151), (3,0,4,1), (17,0,0,0), (21,0,0,0), (0,0,0,1), (6,0,0,0), (22,0,0,0), (3,2,0,0), (19,12,62,154), (3,0,1,0), (3,0,3,0), (22,0,0,0), (0,0,0,1), (28,3,0,0), (5,3,0,1), (14,0,17,0), (0,0,0,0), (28,3,0,0)]
/-- FireDrillModel.isOnLawn(I)Z -/
def ax_p202 : List Nat := [0, 1, 4, 5, 6, 9, 10, 13, 14, 15, 16, 19, 20, 23, 24]
def ax_c202 : List ax_O := [(3,2,0,0), (19,12,62,154), (3,0,1,0), (21,0,0,0), (12,1,13,0), (3,2,0,0), (19,12,64,160), (3,0,1,0), (21,0,0,0), (0,0,0,(-1)), (13,1,13,0), (0,0,0,1), (14,0,14,0), (0,0,0,0), (28,3,0,0)]
/-- FireDrillModel.crowdBut(I)I -/
def ax_p203 : List Nat := [0, 1, 2, 3, 4, 5, 6, 9, 12, 13, 14, 17, 18, 19, 22, 25, 28, 31, 34, 35]
def ax_c203 : List ax_O := [(0,0,0,0), (4,0,2,0), (0,0,0,0), (4,0,3,0), (3,0,3,0), (3,2,0,0), (27,186,1,453), (13,3,18,0), (3,0,3,0), (3,0,1,0), (13,0,16,0), (3,2,0,0), (3,0,3,0), (27,202,2,488), (12,0,16,0), (5,2,0,1), (5,3,0,1), (14,0,4,0), (3,0,2,0), (28,0,0,0)]
/-- FireDrillModel.minuteOf(II)V -/
def ax_p204 : List Nat := [0, 1, 4, 5, 6, 7, 10, 11, 12, 15, 16, 17, 20, 21, 22, 25, 26, 27, 28, 31, 34, 35, 38, 39, 40, 41, 44, 45, 46, 47, 50, 51, 52, 55, 56, 59, 60, 61, 62, 63, 64, 65, 66, 68, 70, 71, 74, 76, 77, 78, 79, 80, 81, 84, 85, 88, 89, 90, 93, 94, 97, 100, 101, 104, 105, 106, 109, 110, 113, 114, 115, 116]
def ax_c204 : List ax_O := [(3,2,0,0), (19,12,64,160), (3,0,1,0), (21,0,0,0), (0,0,0,(-1)), (13,0,7,0), (28,2,0,0), (3,2,0,0), (19,12,62,154), (3,0,1,0), (21,0,0,0), (12,1,39,0), (3,2,0,0), (3,0,2,0), (20,12,56,491), (3,2,0,0), (3,2,0,0), (3,0,1,0), (27,203,2,494), (20,12,57,497), (3,2,0,0), (19,12,48,133), (0,0,0,2), (21,0,0,0), (0,0,0,(-1)), (13,0,38,0), (3,2,0,0), (0,0,0,0), (3,0,1,0), (27,196,3,500), (1,0,0,1), (11,0,0,0), (12,1,38,0), (3,2,0,0), (19,12,64,160), (3,0,1,0), (3,0,2,0), (22,0,0,0), (28,2,0,0), (0,0,0,1), (4,0,3,0), (0,0,0,0), (4,0,4,1), (3,0,4,1), (3,2,0,0), (19,12,46,127), (0,1,0,34), (0,0,0,4), (3,0,1,0), (6,2,0,0), (6,0,0,0), (21,0,0,0), (13,3,61,0), (3,0,3,0), (12,0,61,0), (3,2,0,0), (3,0,1,0), (27,201,2,503), (4,0,3,0), (5,4,0,1), (14,0,43,0), (3,2,0,0), (19,12,62,154), (3,0,1,0), (21,0,0,0), (12,1,71,0), (3,2,0,0), (19,12,63,157), (3,0,1,0), (3,0,2,0), (22,0,0,0), (28,2,0,0)]
/-- FireDrillModel.areAllOut()Z -/
def ax_p205 : List Nat := [0, 1, 2, 3, 4, 7, 10, 11, 12, 15, 18, 19, 20, 23, 26, 27]
def ax_c205 : List ax_O := [(0,0,0,0), (4,0,1,0), (3,0,1,0), (3,2,0,0), (27,186,1,453), (13,3,14,0), (3,2,0,0), (3,0,1,0), (27,202,2,488), (12,1,12,0), (0,0,0,0), (28,3,0,0), (5,1,0,1), (14,0,2,0), (0,0,0,1), (28,3,0,0)]
/-- FireDrillModel.meetBehind()V -/
def ax_p206 : List Nat := [0, 1, 2, 3, 4, 7, 10, 11, 12, 13, 14, 17, 18, 19, 22, 25, 26, 27, 30, 33, 36, 37, 40, 41, 42, 45, 46, 47, 50, 51, 52, 55, 56, 57, 58, 59, 62, 63, 64, 67, 68, 69, 72, 73, 74, 77, 80, 81, 84, 86, 87, 88, 89, 90, 91, 92, 93, 94, 95, 96, 99, 101, 102, 103, 104, 105, 106, 107, 108, 109, 110, 113, 116, 119, 122]
def ax_c206 : List ax_O := [(0,0,0,0), (4,0,1,0), (3,0,1,0), (3,2,0,0), (27,186,1,453), (13,3,74,0), (0,0,0,0), (4,0,2,0), (3,0,2,0), (3,0,1,0), (13,3,72,0), (3,2,0,0), (3,0,1,0), (27,202,2,488), (12,0,70,0), (3,2,0,0), (3,0,2,0), (27,202,2,488), (12,1,20,0), (14,0,70,0), (3,2,0,0), (19,12,68,169), (3,2,0,0), (3,0,1,0), (27,191,2,506), (21,0,0,0), (3,2,0,0), (19,12,68,169), (3,2,0,0), (3,0,2,0), (27,191,2,506), (21,0,0,0), (6,1,0,0), (4,0,3,0), (3,0,3,0), (12,3,39,0), (3,0,3,0), (8,0,0,0), (14,0,40,0), (3,0,3,0), (3,2,0,0), (19,12,47,130), (0,0,0,3), (21,0,0,0), (13,5,46,0), (14,0,70,0), (3,2,0,0), (19,12,66,166), (0,1,0,8), (3,0,1,0), (6,2,0,0), (3,0,2,0), (6,0,0,0), (17,0,0,0), (21,0,0,0), (0,0,0,1), (6,0,0,0), (22,0,0,0), (3,2,0,0), (19,12,66,166), (0,1,0,8), (3,0,2,0), (6,2,0,0), (3,0,1,0), (6,0,0,0), (17,0,0,0), (21,0,0,0), (0,0,0,1), (6,0,0,0), (22,0,0,0), (5,2,0,1), (14,0,8,0), (5,1,0,1), (14,0,2,0), (28,2,0,0)]
/-- FireDrillModel.drillGoes()V -/
def ax_p207 : List Nat := [0, 1, 4, 5, 6, 7, 8, 11, 14, 15, 18, 19, 20, 21, 24, 25, 26, 29, 30, 31, 34, 35, 36, 39, 40, 43, 45, 46, 47, 50, 51, 52, 53, 56, 59, 60, 61, 62, 64, 67, 68, 71, 72, 73, 74, 77, 80, 81, 82, 85, 88, 89, 92, 94, 97, 98, 99, 100, 102, 105, 106, 107, 108, 110, 113, 114, 117, 118, 119, 120, 123, 126, 127, 128, 129, 130, 133, 136, 137, 138, 139, 142, 145, 148, 149, 150, 151, 152, 155, 158, 159, 162, 164, 165, 166, 167, 168, 169, 172, 173, 174, 175, 178, 179, 182, 183, 184, 187, 188, 189, 192, 193, 196, 199, 200, 203, 205, 208, 209, 212, 215, 216, 217, 220, 221, 224, 227, 230]
def ax_c207 : List ax_O := [(3,2,0,0), (27,198,1,509), (0,0,0,0), (4,0,1,0), (3,0,1,0), (3,2,0,0), (27,186,1,453), (13,3,34,0), (3,2,0,0), (19,12,62,154), (3,0,1,0), (3,2,0,0), (3,0,1,0), (27,190,2,512), (22,0,0,0), (3,2,0,0), (19,12,63,157), (3,0,1,0), (3,2,0,0), (19,12,62,154), (3,0,1,0), (21,0,0,0), (12,1,25,0), (0,0,0,(-1)), (14,0,26,0), (0,1,0,99), (22,0,0,0), (3,2,0,0), (19,12,64,160), (3,0,1,0), (0,0,0,(-1)), (22,0,0,0), (5,1,0,1), (14,0,4,0), (0,0,0,0), (4,0,1,0), (3,0,1,0), (0,1,0,64), (13,3,46,0), (3,2,0,0), (19,12,66,166), (3,0,1,0), (0,0,0,0), (22,0,0,0), (5,1,0,1), (14,0,36,0), (3,2,0,0), (3,2,0,0), (27,205,1,515), (12,0,52,0), (0,0,0,(-1)), (14,0,53,0), (0,1,0,99), (20,12,67,518), (0,0,0,0), (4,0,1,0), (3,0,1,0), (0,1,0,9), (13,3,127,0), (0,0,0,0), (4,0,2,0), (3,0,2,0), (0,1,0,10), (13,3,71,0), (3,2,0,0), (19,12,61,151), (3,0,2,0), (0,0,0,0), (22,0,0,0), (5,2,0,1), (14,0,61,0), (0,0,0,0), (4,0,2,0), (3,0,2,0), (3,2,0,0), (27,186,1,453), (13,3,83,0), (3,2,0,0), (3,0,2,0), (3,0,1,0), (27,204,3,521), (5,2,0,1), (14,0,73,0), (0,0,0,0), (4,0,2,0), (3,0,2,0), (3,2,0,0), (27,186,1,453), (13,3,113,0), (3,2,0,0), (19,12,65,163), (0,1,0,8), (3,0,1,0), (6,2,0,0), (3,0,2,0), (6,0,0,0), (3,2,0,0), (19,12,64,160), (3,0,2,0), (21,0,0,0), (0,0,0,(-1)), (13,1,107,0), (3,2,0,0), (19,12,62,154), (3,0,2,0), (21,0,0,0), (14,0,110,0), (3,2,0,0), (3,0,2,0), (27,190,2,512), (22,0,0,0), (5,2,0,1), (14,0,85,0), (3,2,0,0), (19,12,67,518), (0,1,0,99), (13,1,123,0), (3,2,0,0), (27,205,1,515), (12,0,123,0), (3,2,0,0), (3,0,1,0), (20,12,67,518), (3,2,0,0), (27,206,1,524), (5,1,0,1), (14,0,56,0), (28,2,0,0)]
/-- FireDrillModel.drillNow()V -/
def ax_p208 : List Nat := [0, 1, 2, 3, 4, 7, 8, 11, 12, 13, 16, 17, 18, 19, 20, 21, 24, 27, 28, 31]
def ax_c208 : List ax_O := [(0,0,0,0), (4,0,1,0), (3,0,1,0), (0,0,0,5), (13,3,17,0), (3,2,0,0), (19,12,68,169), (3,0,1,0), (3,2,0,0), (19,12,54,142), (0,0,0,1), (3,0,1,0), (6,0,0,0), (21,0,0,0), (22,0,0,0), (5,1,0,1), (14,0,2,0), (3,2,0,0), (27,207,1,527), (28,2,0,0)]
/-- FireDrillModel.doSign(II)Z -/
def ax_p209 : List Nat := [0, 1, 4, 6, 7, 8, 9, 10, 11, 12, 15, 16, 17, 20, 21, 24, 25]
def ax_c209 : List ax_O := [(3,2,0,0), (19,12,66,166), (0,1,0,8), (3,0,1,0), (6,2,0,0), (3,0,2,0), (6,0,0,0), (21,0,0,0), (3,2,0,0), (19,12,47,130), (0,0,0,4), (21,0,0,0), (13,2,15,0), (0,0,0,1), (14,0,16,0), (0,0,0,0), (28,3,0,0)]
/-- FireDrillModel.signMany()I -/
def ax_p210 : List Nat := [0, 1, 2, 3, 4, 5, 6, 9, 12, 13, 14, 15, 16, 19, 20, 21, 22, 25, 28, 31, 34, 37, 40, 43, 44]
def ax_c210 : List ax_O := [(0,0,0,0), (4,0,1,0), (0,0,0,0), (4,0,2,0), (3,0,2,0), (3,2,0,0), (27,186,1,453), (13,3,23,0), (0,0,0,0), (4,0,3,0), (3,0,3,0), (3,0,2,0), (13,3,21,0), (3,2,0,0), (3,0,2,0), (3,0,3,0), (27,209,3,530), (12,0,19,0), (5,1,0,1), (5,3,0,1), (14,0,10,0), (5,2,0,1), (14,0,4,0), (3,0,1,0), (28,0,0,0)]
/-- FireDrillModel.drillEnds()I -/
def ax_p211 : List Nat := [0, 1, 4, 5, 6, 7, 8, 11, 14, 15, 16, 17, 18, 21, 22, 23, 24, 27, 30, 31, 34, 35, 36, 39, 40, 43, 46, 47, 50, 51, 52, 55, 56, 57, 58, 59, 60, 63, 66, 69, 72, 73, 76, 77, 78, 79, 80, 81, 82, 83, 86]
def ax_c211 : List ax_O := [(3,2,0,0), (27,208,1,534), (0,0,0,0), (4,0,1,0), (3,0,1,0), (3,2,0,0), (27,186,1,453), (13,3,40,0), (0,0,0,0), (4,0,2,0), (3,0,2,0), (3,0,1,0), (13,3,38,0), (3,2,0,0), (3,0,1,0), (3,0,2,0), (27,209,3,530), (12,0,36,0), (3,2,0,0), (19,12,54,142), (3,0,1,0), (3,0,2,0), (27,193,2,456), (21,0,0,0), (0,2,0,9999), (13,3,36,0), (3,2,0,0), (19,12,54,142), (3,0,1,0), (3,0,2,0), (27,193,2,456), (17,0,0,0), (21,0,0,0), (0,0,0,1), (6,0,0,0), (22,0,0,0), (5,2,0,1), (14,0,10,0), (5,1,0,1), (14,0,4,0), (3,2,0,0), (19,12,54,142), (0,0,0,0), (17,0,0,0), (21,0,0,0), (0,0,0,1), (6,0,0,0), (22,0,0,0), (3,2,0,0), (27,210,1,537), (28,0,0,0)]
/-- FireDrillModel.drillsGo(I)I -/
def ax_p212 : List Nat := [0, 1, 2, 3, 4, 5, 6, 9, 10, 11, 14, 15, 16, 19, 22, 23]
def ax_c212 : List ax_O := [(0,0,0,0), (4,0,2,0), (0,0,0,0), (4,0,3,0), (3,0,3,0), (3,0,1,0), (13,3,14,0), (3,0,2,0), (3,2,0,0), (27,211,1,540), (6,0,0,0), (4,0,2,0), (5,3,0,1), (14,0,4,0), (3,0,2,0), (28,0,0,0)]
/-- FireDrillModel.putsAside()V -/
def ax_p213 : List Nat := [0, 1, 2, 3, 5, 8, 9, 12, 13, 14, 17, 18, 19, 20, 23, 26]
def ax_c213 : List ax_O := [(0,0,0,0), (4,0,1,0), (3,0,1,0), (0,1,0,44), (13,3,15,0), (3,2,0,0), (19,12,55,145), (3,0,1,0), (3,2,0,0), (19,12,54,142), (3,0,1,0), (21,0,0,0), (22,0,0,0), (5,1,0,1), (14,0,2,0), (28,2,0,0)]
/-- FireDrillModel.takesBack()V -/
def ax_p214 : List Nat := [0, 1, 2, 3, 5, 8, 9, 12, 13, 14, 17, 18, 19, 20, 23, 26]
def ax_c214 : List ax_O := [(0,0,0,0), (4,0,1,0), (3,0,1,0), (0,1,0,44), (13,3,15,0), (3,2,0,0), (19,12,54,142), (3,0,1,0), (3,2,0,0), (19,12,55,145), (3,0,1,0), (21,0,0,0), (22,0,0,0), (5,1,0,1), (14,0,2,0), (28,2,0,0)]
/-- FireDrillModel.isAhead(III)Z -/
def ax_p215 : List Nat := [0, 1, 2, 3, 4, 5, 6, 9, 12, 13, 16, 17, 18, 19, 20, 23, 26, 27, 30, 31]
def ax_c215 : List ax_O := [(3,0,1,0), (9,0,0,0), (3,0,2,0), (9,0,0,0), (3,0,3,0), (9,0,0,0), (27,153,3,337), (12,0,18,0), (3,2,0,0), (19,12,54,142), (0,0,0,0), (21,0,0,0), (3,0,1,0), (6,0,0,0), (0,2,0,999), (13,4,18,0), (0,0,0,1), (14,0,19,0), (0,0,0,0), (28,3,0,0)]
/-- FireDrillModel.shutMany()I -/
def ax_p216 : List Nat := [0, 1, 2, 3, 4, 5, 6, 9, 12, 13, 14, 17, 20, 23, 26, 29, 30]
def ax_c216 : List ax_O := [(0,0,0,0), (4,0,1,0), (0,0,0,0), (4,0,2,0), (3,0,2,0), (3,2,0,0), (27,184,1,447), (13,3,15,0), (3,2,0,0), (3,0,2,0), (27,192,2,473), (12,0,13,0), (5,1,0,1), (5,2,0,1), (14,0,4,0), (3,0,1,0), (28,0,0,0)]
/-- FireDrillModel.has(I)I -/
def ax_p217 : List Nat := [0, 1, 52, 53, 56, 57, 58, 61, 62, 63, 66, 67, 68, 71, 72, 73, 76, 77, 78, 79, 80, 83, 84, 85, 88, 89, 90, 93, 94, 95, 98, 99, 100]
def ax_c217 : List ax_O := [(3,0,1,0), (15,6,0,0), (3,2,0,0), (27,183,1,476), (28,0,0,0), (3,2,0,0), (27,184,1,447), (28,0,0,0), (3,2,0,0), (27,185,1,450), (28,0,0,0), (3,2,0,0), (27,186,1,453), (28,0,0,0), (3,2,0,0), (19,12,54,142), (0,0,0,0), (21,0,0,0), (28,0,0,0), (3,2,0,0), (27,216,1,543), (28,0,0,0), (3,2,0,0), (27,195,1,546), (28,0,0,0), (3,2,0,0), (19,12,76,444), (28,0,0,0), (3,2,0,0), (19,12,82,441), (28,0,0,0), (0,0,0,(-1)), (28,0,0,0)]
/-- FireDrillModel.letter(III)I -/
def ax_p218 : List Nat := [0, 1, 2, 3, 6, 9, 12, 13, 14, 15, 16, 19, 20, 21, 22, 23, 24, 25, 26, 29, 32, 33, 34, 35, 38, 41, 44, 45, 46, 47, 50, 52, 54, 55, 56, 57, 58, 59, 60, 62, 63, 65, 67, 69, 71, 72, 73, 76, 79, 81, 84, 85, 87, 90, 91, 93, 96, 97, 98, 100, 101, 102, 104, 106, 107, 110, 112, 115, 116, 118, 121, 124, 126, 129, 130, 131]
def ax_c218 : List ax_O := [(3,0,1,0), (9,0,0,0), (1,0,0,0), (1,1,549,2), (27,153,3,337), (12,0,26,0), (3,0,2,0), (9,0,0,0), (1,0,0,0), (3,2,0,0), (19,12,42,114), (0,0,0,4), (3,0,1,0), (6,0,0,0), (21,0,0,0), (0,0,0,1), (6,1,0,0), (9,0,0,0), (27,153,3,337), (12,0,26,0), (3,0,3,0), (9,0,0,0), (1,0,0,0), (1,1,355,5), (27,153,3,337), (12,1,28,0), (0,0,0,(-1)), (28,0,0,0), (3,2,0,0), (19,12,43,117), (0,1,0,24), (0,1,0,8), (3,0,1,0), (6,2,0,0), (6,0,0,0), (3,0,2,0), (6,0,0,0), (21,1,0,0), (4,1,4,1), (0,0,0,0), (4,0,6,1), (3,1,4,1), (4,1,7,1), (3,1,7,1), (1,0,0,0), (11,0,0,0), (12,5,53,0), (5,6,0,1), (3,1,7,1), (1,1,348,27), (7,3,0,0), (4,1,7,1), (14,0,43,0), (3,0,3,0), (3,0,6,1), (13,2,58,0), (0,0,0,0), (28,0,0,0), (3,0,6,1), (0,0,0,1), (6,1,0,0), (4,0,7,1), (3,0,7,1), (3,0,3,0), (13,5,71,0), (3,1,4,1), (1,1,348,27), (7,3,0,0), (4,1,4,1), (5,7,0,(-1)), (14,0,62,0), (3,1,4,1), (1,1,348,27), (7,4,0,0), (10,0,0,0), (28,0,0,0)]
/-- FireDrillModel.far(I)I -/
def ax_p219 : List Nat := [0, 1, 2, 3, 4, 7, 8, 9, 10, 13, 16, 17, 18, 19, 22, 23, 26, 27, 28]
def ax_c219 : List ax_O := [(3,0,1,0), (9,0,0,0), (1,0,0,0), (3,2,0,0), (27,183,1,476), (0,0,0,1), (6,1,0,0), (9,0,0,0), (27,153,3,337), (12,1,12,0), (0,0,0,(-1)), (28,0,0,0), (3,2,0,0), (27,198,1,509), (3,2,0,0), (19,12,60,148), (3,0,1,0), (21,0,0,0), (28,0,0,0)]
/-- FireDrillModel.stair(II)I -/
def ax_p220 : List Nat := [0, 1, 2, 5, 8, 9, 10, 11, 12, 13, 16, 19, 22, 23, 26, 28, 29, 30, 31, 32, 33, 34, 35, 38, 39, 40, 43, 44, 47, 49, 50, 51, 52, 55, 56]
def ax_c220 : List ax_O := [(3,2,0,0), (3,0,1,0), (27,187,2,551), (12,1,6,0), (0,0,0,(-1)), (28,0,0,0), (3,0,2,0), (9,0,0,0), (1,0,0,0), (1,1,549,2), (27,153,3,337), (12,0,23,0), (3,2,0,0), (19,12,44,121), (0,1,0,30), (0,0,0,3), (3,0,1,0), (6,2,0,0), (6,0,0,0), (3,0,2,0), (6,0,0,0), (21,0,0,0), (14,0,34,0), (3,0,2,0), (0,0,0,3), (13,1,33,0), (3,2,0,0), (19,12,54,142), (0,1,0,6), (3,0,1,0), (6,0,0,0), (21,0,0,0), (14,0,34,0), (0,0,0,(-1)), (28,0,0,0)]
/-- FireDrillModel.section(II)I -/
def ax_p221 : List Nat := [0, 1, 2, 5, 8, 9, 10, 11, 12, 13, 15, 17, 18, 21, 24, 25, 27, 30, 31, 34, 35, 36, 38, 39, 40, 41, 44, 47, 48, 51, 52, 55, 56, 57, 58, 59, 62, 63, 64, 67, 68, 71, 72]
def ax_c221 : List ax_O := [(3,2,0,0), (3,0,1,0), (27,188,2,554), (12,1,6,0), (0,0,0,(-1)), (28,0,0,0), (0,0,0,0), (4,0,3,0), (0,0,0,0), (4,0,4,1), (3,0,4,1), (3,2,0,0), (27,186,1,453), (13,3,27,0), (3,2,0,0), (3,0,4,1), (27,191,2,506), (3,0,1,0), (13,1,25,0), (3,0,3,0), (0,0,0,1), (3,0,4,1), (6,8,0,0), (6,6,0,0), (4,0,3,0), (5,4,0,1), (14,0,10,0), (3,0,2,0), (12,1,36,0), (3,2,0,0), (19,12,54,142), (0,0,0,1), (3,0,1,0), (6,0,0,0), (21,0,0,0), (14,0,42,0), (3,0,2,0), (0,0,0,1), (13,1,41,0), (3,0,3,0), (14,0,42,0), (0,0,0,(-1)), (28,0,0,0)]
/-- FireDrillModel.clerk(II)I -/
def ax_p222 : List Nat := [0, 1, 2, 5, 8, 9, 10, 11, 12, 13, 16, 19, 22, 23, 26, 28, 29, 30, 31, 32, 33, 34, 35, 38, 39, 40, 43, 44, 45, 48, 51, 52]
def ax_c222 : List ax_O := [(3,2,0,0), (3,0,1,0), (27,189,2,557), (12,1,6,0), (0,0,0,(-1)), (28,0,0,0), (3,0,2,0), (9,0,0,0), (1,0,0,0), (1,1,560,3), (27,153,3,337), (12,0,23,0), (3,2,0,0), (19,12,46,127), (0,1,0,32), (0,0,0,4), (3,0,1,0), (6,2,0,0), (6,0,0,0), (3,0,2,0), (6,0,0,0), (21,0,0,0), (14,0,31,0), (3,0,2,0), (0,0,0,4), (13,1,30,0), (3,2,0,0), (3,0,1,0), (27,194,2,562), (14,0,31,0), (0,0,0,(-1)), (28,0,0,0)]
/-- FireDrillModel.areTwo(II)Z -/
def ax_p223 : List Nat := [0, 1, 2, 5, 8, 9, 10, 13, 16, 17, 18, 21, 22, 25, 26]
def ax_c223 : List ax_O := [(3,2,0,0), (3,0,1,0), (27,189,2,557), (12,0,13,0), (3,2,0,0), (3,0,2,0), (27,189,2,557), (12,0,13,0), (3,0,1,0), (3,0,2,0), (13,0,13,0), (0,0,0,1), (14,0,14,0), (0,0,0,0), (28,3,0,0)]
/-- FireDrillModel.signed(II)I -/
def ax_p224 : List Nat := [0, 1, 2, 3, 6, 9, 10, 13, 14, 15, 18, 19, 22, 23]
def ax_c224 : List ax_O := [(3,2,0,0), (3,0,1,0), (3,0,2,0), (27,223,3,565), (12,0,12,0), (3,2,0,0), (19,12,54,142), (3,0,1,0), (3,0,2,0), (27,193,2,456), (21,0,0,0), (14,0,13,0), (0,0,0,(-1)), (28,0,0,0)]
/-- FireDrillModel.out(I)I -/
def ax_p225 : List Nat := [0, 1, 2, 5, 8, 10, 11, 12, 15, 16, 19, 20, 21]
def ax_c225 : List ax_O := [(3,2,0,0), (3,0,1,0), (27,189,2,557), (12,1,6,0), (0,1,0,(-2)), (28,0,0,0), (3,2,0,0), (27,208,1,534), (3,2,0,0), (19,12,63,157), (3,0,1,0), (21,0,0,0), (28,0,0,0)]
/-- FireDrillModel.back(I)I -/
def ax_p226 : List Nat := [0, 1, 2, 5, 8, 9, 10, 11, 14, 15, 18, 19, 20]
def ax_c226 : List ax_O := [(3,2,0,0), (3,0,1,0), (27,189,2,557), (12,1,6,0), (0,0,0,(-1)), (28,0,0,0), (3,2,0,0), (27,208,1,534), (3,2,0,0), (19,12,64,160), (3,0,1,0), (21,0,0,0), (28,0,0,0)]
/-- FireDrillModel.where(II)I -/
def ax_p227 : List Nat := [0, 1, 2, 5, 8, 9, 10, 11, 14, 17, 20, 21, 22, 23, 26, 27, 30, 32, 33, 34, 35, 36, 37]
def ax_c227 : List ax_O := [(3,2,0,0), (3,0,1,0), (27,189,2,557), (12,0,10,0), (3,0,2,0), (9,0,0,0), (1,0,0,0), (1,1,568,8), (27,153,3,337), (12,1,12,0), (0,0,0,(-1)), (28,0,0,0), (3,2,0,0), (27,208,1,534), (3,2,0,0), (19,12,65,163), (0,1,0,8), (3,0,2,0), (6,2,0,0), (3,0,1,0), (6,0,0,0), (21,0,0,0), (28,0,0,0)]
/-- FireDrillModel.meets(II)I -/
def ax_p228 : List Nat := [0, 1, 2, 3, 6, 9, 10, 11, 12, 15, 16, 19, 21, 22, 23, 24, 25, 26]
def ax_c228 : List ax_O := [(3,2,0,0), (3,0,1,0), (3,0,2,0), (27,223,3,565), (12,1,7,0), (0,0,0,(-1)), (28,0,0,0), (3,2,0,0), (27,208,1,534), (3,2,0,0), (19,12,66,166), (0,1,0,8), (3,0,1,0), (6,2,0,0), (3,0,2,0), (6,0,0,0), (21,0,0,0), (28,0,0,0)]
/-- FireDrillModel.empty()I -/
def ax_p229 : List Nat := [0, 1, 4, 5, 8]
def ax_c229 : List ax_O := [(3,2,0,0), (27,208,1,534), (3,2,0,0), (19,12,67,518), (28,0,0,0)]
/-- FireDrillModel.signs()I -/
def ax_p230 : List Nat := [0, 1, 4, 5, 8]
def ax_c230 : List ax_O := [(3,2,0,0), (27,208,1,534), (3,2,0,0), (27,210,1,537), (28,0,0,0)]
/-- FireDrillModel.isNextRow()Z -/
def ax_p231 : List Nat := [0, 1, 4, 5, 6, 7, 8, 9, 10, 13, 14, 17, 18, 19, 20, 23, 24, 25, 26, 27, 30, 33, 36, 37, 40, 41, 42, 43, 44, 45, 46, 47, 50, 51, 52, 53, 56, 57, 58, 61, 64, 67, 68, 71, 72, 73, 75, 76, 79, 80, 81, 84, 85, 86, 87, 88, 91, 92, 94, 95, 96, 97, 98, 100, 101, 102, 103, 105, 107, 109, 112, 113, 116, 118, 119, 121, 122, 125, 127, 128, 131, 133, 134, 135, 136, 139, 141, 143, 144, 147, 150, 153, 154]
def ax_c231 : List ax_O := [(3,2,0,0), (27,185,1,450), (4,0,1,0), (3,0,1,0), (0,0,0,2), (6,1,0,0), (4,0,2,0), (3,0,2,0), (12,2,22,0), (3,2,0,0), (19,12,71,178), (3,0,2,0), (21,0,0,0), (3,2,0,0), (19,12,71,178), (3,0,2,0), (0,0,0,1), (6,0,0,0), (21,0,0,0), (13,5,22,0), (5,2,0,(-1)), (14,0,7,0), (3,0,2,0), (12,3,26,0), (0,0,0,0), (28,3,0,0), (3,0,1,0), (0,0,0,1), (6,1,0,0), (4,0,3,0), (3,2,0,0), (19,12,71,178), (3,0,3,0), (21,0,0,0), (3,2,0,0), (19,12,71,178), (3,0,2,0), (21,0,0,0), (13,3,41,0), (5,3,0,(-1)), (14,0,30,0), (3,2,0,0), (19,12,71,178), (3,0,2,0), (21,0,0,0), (4,0,4,1), (3,2,0,0), (19,12,71,178), (3,0,2,0), (3,2,0,0), (19,12,71,178), (3,0,3,0), (21,0,0,0), (22,0,0,0), (3,2,0,0), (19,12,71,178), (3,0,3,0), (3,0,4,1), (22,0,0,0), (3,0,2,0), (0,0,0,1), (6,0,0,0), (4,0,5,1), (3,0,1,0), (0,0,0,1), (6,1,0,0), (4,0,6,1), (3,0,5,1), (3,0,6,1), (13,3,91,0), (3,2,0,0), (19,12,71,178), (3,0,5,1), (21,0,0,0), (4,0,4,1), (3,2,0,0), (19,12,71,178), (3,0,5,1), (3,2,0,0), (19,12,71,178), (3,0,6,1), (21,0,0,0), (22,0,0,0), (3,2,0,0), (19,12,71,178), (3,0,6,1), (3,0,4,1), (22,0,0,0), (5,5,0,1), (5,6,0,(-1)), (14,0,67,0), (0,0,0,1), (28,3,0,0)]
/-- FireDrillModel.posts(I)I -/
def ax_p232 : List Nat := [0, 1, 2, 5, 6, 7, 10, 13, 14, 15, 16, 17, 18, 19, 20, 22, 24, 25, 28, 29, 32, 34, 36, 37, 40, 43, 44, 47, 48, 50, 52, 53, 56, 59, 60, 63, 65, 66, 69, 70, 71, 74, 76, 77, 78, 79, 80, 83, 86, 87, 90, 91, 94, 96, 98, 99, 102, 104, 105, 106, 108, 110, 111, 114, 115, 118, 120, 121, 124, 126, 127, 128, 131, 134, 135, 138, 139, 142, 143, 144, 147, 148, 151, 152, 155, 156, 157]
def ax_c232 : List ax_O := [(3,0,1,0), (0,0,0,(-1)), (13,0,9,0), (3,2,0,0), (3,0,1,0), (27,188,2,554), (12,1,9,0), (0,0,0,(-1)), (28,0,0,0), (0,0,0,(-1)), (4,0,2,0), (0,0,0,1), (4,0,3,0), (0,0,0,0), (4,0,4,1), (3,0,4,1), (0,0,0,5), (13,3,25,0), (3,2,0,0), (19,12,71,178), (3,0,4,1), (3,0,4,1), (22,0,0,0), (5,4,0,1), (14,0,15,0), (3,0,3,0), (12,0,77,0), (0,0,0,0), (4,0,4,1), (3,0,4,1), (3,2,0,0), (27,185,1,450), (13,3,48,0), (3,2,0,0), (19,12,68,169), (3,0,4,1), (3,2,0,0), (19,12,54,142), (0,0,0,1), (3,2,0,0), (19,12,71,178), (3,0,4,1), (21,0,0,0), (6,0,0,0), (21,0,0,0), (22,0,0,0), (5,4,0,1), (14,0,29,0), (3,2,0,0), (27,207,1,527), (3,2,0,0), (27,210,1,537), (4,0,4,1), (3,0,4,1), (3,0,2,0), (13,5,73,0), (3,0,4,1), (4,0,2,0), (0,0,0,0), (4,0,5,1), (3,0,5,1), (0,0,0,5), (13,3,73,0), (3,2,0,0), (19,12,72,181), (3,0,5,1), (3,2,0,0), (19,12,71,178), (3,0,5,1), (21,0,0,0), (22,0,0,0), (5,5,0,1), (14,0,60,0), (3,2,0,0), (27,231,1,570), (4,0,3,0), (14,0,25,0), (3,0,1,0), (0,0,0,(-1)), (13,1,82,0), (3,0,2,0), (14,0,86,0), (3,2,0,0), (19,12,72,181), (3,0,1,0), (21,0,0,0), (28,0,0,0)]
/-- FireDrillModel.wider()I -/
def ax_p233 : List Nat := [0, 1, 4, 5, 8, 9, 10, 11, 12, 13, 14, 15, 18, 21, 22, 23, 26, 29, 32, 33, 34, 37, 38, 41, 42, 43, 46, 47, 50, 51, 54, 57, 58, 61, 62, 63, 64, 67, 70, 71]
def ax_c233 : List ax_O := [(3,2,0,0), (27,208,1,534), (3,2,0,0), (19,12,67,518), (4,0,1,0), (0,0,0,(-1)), (4,0,2,0), (0,0,0,0), (4,0,3,0), (3,0,3,0), (3,2,0,0), (27,184,1,447), (13,3,38,0), (3,2,0,0), (3,0,3,0), (27,192,2,473), (12,0,18,0), (14,0,36,0), (3,2,0,0), (3,0,3,0), (20,12,70,175), (3,2,0,0), (27,208,1,534), (3,2,0,0), (0,0,0,(-1)), (20,12,70,175), (3,2,0,0), (19,12,67,518), (3,0,1,0), (13,2,31,0), (14,0,36,0), (3,2,0,0), (19,12,67,518), (4,0,1,0), (3,0,3,0), (4,0,2,0), (5,3,0,1), (14,0,9,0), (3,0,2,0), (28,0,0,0)]
/-- FireDrillModel.bits(I)I -/
def ax_p234 : List Nat := [0, 1, 2, 3, 4, 5, 8, 11, 12, 13, 14, 15, 16, 17, 20, 21]
def ax_c234 : List ax_O := [(0,0,0,0), (4,0,1,0), (3,0,0,0), (4,0,2,0), (3,0,2,0), (12,0,14,0), (5,1,0,1), (3,0,2,0), (3,0,2,0), (0,0,0,1), (6,1,0,0), (6,5,0,0), (4,0,2,0), (14,0,4,0), (3,0,1,0), (28,0,0,0)]
/-- FireDrillModel.doTouch(I)Z -/
def ax_p235 : List Nat := [0, 1, 2, 3, 4, 7, 10, 11, 12, 15, 18, 19, 20, 23, 25, 26, 27, 28, 29, 30, 31, 32, 33, 36, 37, 38, 41, 43, 44, 45, 46, 47, 48, 49, 50, 51, 54, 55, 56, 59, 62, 63]
def ax_c235 : List ax_O := [(0,0,0,0), (4,0,2,0), (3,0,2,0), (3,2,0,0), (27,184,1,447), (13,3,40,0), (3,2,0,0), (3,0,2,0), (27,192,2,473), (12,1,38,0), (3,0,1,0), (3,2,0,0), (19,12,44,121), (0,1,0,30), (0,0,0,3), (3,0,2,0), (6,2,0,0), (6,0,0,0), (21,0,0,0), (6,9,0,0), (0,0,0,1), (6,5,0,0), (12,1,38,0), (3,0,1,0), (3,2,0,0), (19,12,44,121), (0,1,0,31), (0,0,0,3), (3,0,2,0), (6,2,0,0), (6,0,0,0), (21,0,0,0), (6,9,0,0), (0,0,0,1), (6,5,0,0), (12,1,38,0), (0,0,0,0), (28,3,0,0), (5,2,0,1), (14,0,2,0), (0,0,0,1), (28,3,0,0)]
/-- FireDrillModel.wardens()I -/
def ax_p236 : List Nat := [0, 1, 2, 3, 4, 5, 6, 7, 10, 11, 14, 15, 16, 19, 20, 23, 24, 27, 30, 31, 32, 35, 38, 39, 40, 43, 46, 47]
def ax_c236 : List ax_O := [(0,0,0,(-1)), (4,0,1,0), (0,0,0,0), (4,0,2,0), (3,0,2,0), (0,0,0,1), (3,2,0,0), (27,183,1,476), (6,8,0,0), (13,3,26,0), (3,0,1,0), (0,0,0,(-1)), (13,0,18,0), (3,0,2,0), (27,234,1,573), (3,0,1,0), (27,234,1,573), (13,3,24,0), (3,2,0,0), (3,0,2,0), (27,235,2,576), (12,0,24,0), (3,0,2,0), (4,0,1,0), (5,2,0,1), (14,0,4,0), (3,0,1,0), (28,0,0,0)]
/-- FireDrillModel.dearTo(II)J -/
def ax_p237 : List Nat := [0, 1, 2, 5, 7, 8, 9, 10, 11, 12, 15, 16, 19, 20, 21, 22, 25, 26, 29, 30, 31, 32, 33, 36, 38, 39, 40, 41, 42, 43, 46, 47, 48, 49, 52]
def ax_c237 : List ax_O := [(3,2,0,0), (3,2,0,0), (19,12,66,166), (0,1,0,8), (3,0,1,0), (6,2,0,0), (3,0,2,0), (6,0,0,0), (21,0,0,0), (20,12,59,579), (3,2,0,0), (19,12,48,133), (0,0,0,3), (21,0,0,0), (0,0,0,(-1)), (13,1,20,0), (3,2,0,0), (19,12,59,579), (9,0,0,0), (28,1,0,0), (3,2,0,0), (3,2,0,0), (19,12,46,127), (0,1,0,35), (0,0,0,4), (3,0,2,0), (6,2,0,0), (6,0,0,0), (21,0,0,0), (20,12,58,582), (3,2,0,0), (0,0,0,1), (3,0,1,0), (27,196,3,500), (28,1,0,0)]
/-- FireDrillModel.dearOf(II)J -/
def ax_p238 : List Nat := [0, 1, 2, 3, 6, 7, 8, 9, 12, 13]
def ax_c238 : List ax_O := [(3,2,0,0), (3,0,1,0), (3,0,2,0), (27,237,3,585), (3,2,0,0), (3,0,2,0), (3,0,1,0), (27,237,3,585), (7,0,0,0), (28,1,0,0)]
/-- FireDrillModel.dear(II)J -/
def ax_p239 : List Nat := [0, 1, 2, 3, 6, 9, 12, 13, 14, 17, 18, 19, 20, 23]
def ax_c239 : List ax_O := [(3,2,0,0), (3,0,1,0), (3,0,2,0), (27,223,3,565), (12,1,7,0), (1,1,588,(-1000000000000000)), (28,1,0,0), (3,2,0,0), (27,208,1,534), (3,2,0,0), (3,0,1,0), (3,0,2,0), (27,238,3,590), (28,1,0,0)]
/-- FireDrillModel.firstIn(I)I -/
def ax_p240 : List Nat := [0, 1, 2, 3, 4, 5, 6, 7, 10, 13, 16, 17]
def ax_c240 : List ax_O := [(0,0,0,0), (4,0,1,0), (3,0,0,0), (3,0,1,0), (6,9,0,0), (0,0,0,1), (6,5,0,0), (12,1,10,0), (5,1,0,1), (14,0,2,0), (3,0,1,0), (28,0,0,0)]
/-- FireDrillModel.canPair(II)Z -/
def ax_p241 : List Nat := [0, 1, 4, 6, 7, 8, 9, 10, 11, 14, 15, 18, 19]
def ax_c241 : List ax_O := [(3,2,0,0), (19,12,66,166), (0,1,0,8), (3,0,1,0), (6,2,0,0), (3,0,2,0), (6,0,0,0), (21,0,0,0), (12,5,11,0), (0,0,0,1), (14,0,12,0), (0,0,0,0), (28,3,0,0)]
/-- FireDrillModel.laysCouples()V -/
def ax_p242 : List Nat := [0, 1, 4, 5, 6, 7, 8, 11, 14, 15, 16, 17, 18, 21, 24, 25, 26, 29, 30, 33, 35, 36, 37, 38, 39, 40, 41, 42, 45, 46, 49, 52, 55, 58, 59, 60, 63, 64, 65, 66, 67, 68, 71, 72, 73, 74, 75, 76, 77, 78, 81, 82, 85, 86, 87, 88, 89, 90, 91, 92, 93, 95, 96, 99, 100, 101, 104, 106, 107, 108, 109, 110, 111, 113, 115, 116, 119, 122, 124, 126, 127, 128, 129, 132, 133, 134, 136, 139, 142, 145, 146, 149, 151, 152, 153, 155, 156, 157, 158, 161, 163, 164, 166, 167, 168, 169, 170, 171, 172, 174, 176, 177, 180, 181, 182, 183, 186, 187, 190, 191, 193, 194, 197, 200, 203, 206, 207, 208, 209, 212, 213, 216, 217, 218, 219, 220, 221, 222, 223, 224, 226, 227, 230, 231, 232, 233, 234, 235, 237, 238, 241, 242, 243, 246, 247, 250]
def ax_c242 : List ax_O := [(3,2,0,0), (27,208,1,534), (0,0,0,0), (4,0,1,0), (3,0,1,0), (3,2,0,0), (27,186,1,453), (13,3,33,0), (0,0,0,0), (4,0,2,0), (3,0,2,0), (3,2,0,0), (27,186,1,453), (13,3,31,0), (3,0,1,0), (3,0,2,0), (13,0,29,0), (3,2,0,0), (19,12,73,184), (0,1,0,8), (3,0,1,0), (6,2,0,0), (3,0,2,0), (6,0,0,0), (3,2,0,0), (3,0,1,0), (3,0,2,0), (27,238,3,590), (22,1,0,0), (5,2,0,1), (14,0,10,0), (5,1,0,1), (14,0,4,0), (0,0,0,1), (3,2,0,0), (27,186,1,453), (6,8,0,0), (0,0,0,1), (6,1,0,0), (4,0,1,0), (3,2,0,0), (19,12,74,187), (0,0,0,0), (1,0,0,0), (22,1,0,0), (0,0,0,1), (4,0,2,0), (3,0,2,0), (3,0,1,0), (13,4,125,0), (3,0,2,0), (27,240,1,593), (4,0,3,0), (3,0,2,0), (0,0,0,1), (3,0,3,0), (6,8,0,0), (0,0,0,(-1)), (6,7,0,0), (6,5,0,0), (4,0,4,1), (3,2,0,0), (19,12,74,187), (3,0,2,0), (3,2,0,0), (19,12,74,187), (3,0,4,1), (21,1,0,0), (22,1,0,0), (3,0,3,0), (0,0,0,1), (6,0,0,0), (4,0,5,1), (3,0,5,1), (3,2,0,0), (27,186,1,453), (13,3,123,0), (3,0,4,1), (3,0,5,1), (6,9,0,0), (0,0,0,1), (6,5,0,0), (12,0,121,0), (3,2,0,0), (3,0,3,0), (3,0,5,1), (27,241,3,596), (12,1,89,0), (14,0,121,0), (3,2,0,0), (19,12,73,184), (0,1,0,8), (3,0,3,0), (6,2,0,0), (3,0,5,1), (6,0,0,0), (21,1,0,0), (3,2,0,0), (19,12,74,187), (3,0,4,1), (0,0,0,1), (3,0,5,1), (6,8,0,0), (0,0,0,(-1)), (6,7,0,0), (6,5,0,0), (21,1,0,0), (7,0,0,0), (4,1,6,1), (3,1,6,1), (3,2,0,0), (19,12,74,187), (3,0,2,0), (21,1,0,0), (11,0,0,0), (12,5,121,0), (3,2,0,0), (19,12,74,187), (3,0,2,0), (3,1,6,1), (22,1,0,0), (5,5,0,1), (14,0,73,0), (5,2,0,1), (14,0,47,0), (3,0,1,0), (4,0,2,0), (3,0,2,0), (12,0,155,0), (3,0,2,0), (27,240,1,593), (4,0,3,0), (3,0,2,0), (0,0,0,1), (3,0,3,0), (6,8,0,0), (0,0,0,(-1)), (6,7,0,0), (6,5,0,0), (4,0,4,1), (3,2,0,0), (19,12,75,190), (3,0,3,0), (0,0,0,(-1)), (22,0,0,0), (3,2,0,0), (3,0,3,0), (3,0,4,1), (3,2,0,0), (19,12,74,187), (3,0,2,0), (21,1,0,0), (27,243,4,599), (4,0,2,0), (14,0,127,0), (28,2,0,0)]
/-- FireDrillModel.matesOf(IIJ)I -/
def ax_p243 : List Nat := [0, 1, 4, 5, 6, 7, 8, 11, 12, 13, 14, 15, 16, 18, 20, 21, 24, 27, 28, 30, 31, 32, 33, 36, 37, 38, 40, 43, 46, 47, 50, 52, 53, 54, 56, 57, 58, 59, 62, 63, 64, 66, 67, 68, 69, 70, 71, 72, 73, 74, 77, 80, 81, 84, 85, 87, 88, 89, 92, 94, 95, 96, 97, 98, 100, 101, 102, 103, 104, 105, 108, 111, 112]
def ax_c243 : List ax_O := [(3,2,0,0), (19,12,74,187), (3,0,2,0), (21,1,0,0), (3,1,3,0), (11,0,0,0), (12,1,9,0), (3,0,2,0), (28,0,0,0), (3,0,1,0), (0,0,0,1), (6,0,0,0), (4,0,5,1), (3,0,5,1), (3,2,0,0), (27,186,1,453), (13,3,71,0), (3,0,2,0), (3,0,5,1), (6,9,0,0), (0,0,0,1), (6,5,0,0), (12,0,69,0), (3,2,0,0), (3,0,1,0), (3,0,5,1), (27,241,3,596), (12,0,69,0), (3,2,0,0), (19,12,73,184), (0,1,0,8), (3,0,1,0), (6,2,0,0), (3,0,5,1), (6,0,0,0), (21,1,0,0), (3,2,0,0), (19,12,74,187), (3,0,2,0), (0,0,0,1), (3,0,5,1), (6,8,0,0), (0,0,0,(-1)), (6,7,0,0), (6,5,0,0), (21,1,0,0), (7,0,0,0), (3,1,3,0), (11,0,0,0), (12,0,51,0), (14,0,69,0), (3,2,0,0), (19,12,75,190), (3,0,1,0), (3,0,5,1), (22,0,0,0), (3,2,0,0), (19,12,75,190), (3,0,5,1), (3,0,1,0), (22,0,0,0), (3,0,2,0), (0,0,0,1), (3,0,5,1), (6,8,0,0), (0,0,0,(-1)), (6,7,0,0), (6,5,0,0), (28,0,0,0), (5,5,0,1), (14,0,13,0), (3,0,2,0), (28,0,0,0)]
/-- FireDrillModel.couples()J -/
def ax_p244 : List Nat := [0, 1, 4, 5, 8, 9, 10, 13, 14, 15, 16, 17]
def ax_c244 : List ax_O := [(3,2,0,0), (27,242,1,603), (3,2,0,0), (19,12,74,187), (0,0,0,1), (3,2,0,0), (27,186,1,453), (6,8,0,0), (0,0,0,1), (6,1,0,0), (21,1,0,0), (28,1,0,0)]
/-- FireDrillModel.with(I)I -/
def ax_p245 : List Nat := [0, 1, 2, 5, 8, 9, 10, 11, 14, 15, 18, 19, 20]
def ax_c245 : List ax_O := [(3,2,0,0), (3,0,1,0), (27,189,2,557), (12,1,6,0), (0,0,0,(-1)), (28,0,0,0), (3,2,0,0), (27,242,1,603), (3,2,0,0), (19,12,75,190), (3,0,1,0), (21,0,0,0), (28,0,0,0)]
/-- FireDrillModel.later(I)I -/
def ax_p246 : List Nat := [0, 1, 2, 3, 5, 8, 11, 12, 13, 14, 17, 18, 19, 22, 23, 24, 27, 28, 29, 32, 33]
def ax_c246 : List ax_O := [(3,2,0,0), (3,0,1,0), (0,0,0,0), (0,1,0,30), (27,215,4,606), (12,1,8,0), (0,0,0,(-1)), (28,0,0,0), (3,2,0,0), (27,213,1,609), (3,2,0,0), (3,0,1,0), (27,212,2,612), (18,0,0,0), (3,2,0,0), (27,195,1,546), (4,0,2,0), (3,2,0,0), (27,214,1,615), (3,0,2,0), (28,0,0,0)]
/-- FireDrillModel.refuses(I)I -/
def ax_p247 : List Nat := [0, 1, 4, 5, 6, 7, 8, 9, 10, 11]
def ax_c247 : List ax_O := [(3,2,0,0), (19,12,9,17), (3,0,1,0), (17,0,0,0), (21,0,0,0), (0,0,0,1), (6,0,0,0), (22,0,0,0), (0,0,0,(-1)), (28,0,0,0)]
/-- FireDrillModel.see()I -/
def ax_p248 : List Nat := [0, 1, 4, 5, 6, 7, 10, 11, 14, 15, 16, 17, 20, 21, 22, 23, 25, 28, 29, 32, 33, 34, 35, 36, 37, 38, 41, 42, 45, 46, 47, 50, 51, 52, 55, 58, 59, 62, 63, 64, 65, 66, 68, 71, 72, 75, 76, 77, 78, 79, 81, 84, 85, 88, 89, 90, 91, 92, 95, 98, 99, 102, 103, 104, 107, 110, 111, 114, 115, 116, 119, 120, 121, 122, 123, 124, 127, 128, 131, 132, 133, 136, 137, 138, 139, 140, 143, 144, 145, 146, 147, 150, 151, 152, 153, 154, 157, 160, 161, 164, 165, 168, 169, 170, 171, 172, 173, 176, 179, 180, 181, 182, 183, 186, 187, 190]
def ax_c248 : List ax_O := [(3,2,0,0), (19,12,1,294), (4,0,1,0), (3,2,0,0), (0,0,0,0), (20,12,1,294), (3,0,1,0), (12,5,19,0), (3,0,1,0), (0,0,0,2), (6,4,0,0), (12,1,19,0), (3,0,1,0), (0,0,0,2), (6,3,0,0), (0,1,0,16), (13,4,19,0), (0,0,0,1), (14,0,20,0), (0,0,0,0), (4,0,2,0), (0,0,0,0), (4,0,3,0), (3,0,3,0), (3,0,1,0), (13,3,65,0), (3,0,2,0), (12,0,65,0), (3,2,0,0), (3,2,0,0), (19,12,0,7), (3,0,3,0), (21,0,0,0), (27,189,2,557), (12,0,61,0), (3,2,0,0), (19,12,0,7), (3,0,3,0), (0,0,0,1), (6,0,0,0), (21,0,0,0), (0,1,0,9), (13,2,59,0), (3,2,0,0), (19,12,0,7), (3,0,3,0), (0,0,0,1), (6,0,0,0), (21,0,0,0), (0,1,0,99), (13,0,59,0), (3,2,0,0), (19,12,0,7), (3,0,3,0), (0,0,0,1), (6,0,0,0), (21,0,0,0), (0,2,0,255), (13,1,61,0), (0,0,0,1), (14,0,62,0), (0,0,0,0), (4,0,2,0), (5,3,0,2), (14,0,23,0), (3,0,2,0), (12,1,71,0), (3,2,0,0), (0,0,0,1), (27,247,2,618), (28,0,0,0), (0,0,0,0), (4,0,3,0), (3,0,3,0), (3,0,1,0), (13,3,108,0), (3,2,0,0), (19,12,77,193), (3,0,3,0), (3,2,0,0), (19,12,0,7), (3,0,3,0), (21,0,0,0), (22,0,0,0), (3,2,0,0), (19,12,77,193), (3,0,3,0), (0,0,0,1), (6,0,0,0), (3,2,0,0), (19,12,0,7), (3,0,3,0), (0,0,0,1), (6,0,0,0), (21,0,0,0), (0,2,0,255), (13,1,99,0), (0,0,0,(-1)), (14,0,105,0), (3,2,0,0), (19,12,0,7), (3,0,3,0), (0,0,0,1), (6,0,0,0), (21,0,0,0), (22,0,0,0), (5,3,0,2), (14,0,73,0), (3,2,0,0), (3,0,1,0), (0,0,0,2), (6,3,0,0), (20,12,76,444), (3,2,0,0), (19,12,76,444), (28,0,0,0)]
/-- FireDrillModel.isAsSeen()Z -/
def ax_p249 : List Nat := [0, 1, 2, 3, 4, 7, 10, 11, 14, 15, 18, 19, 20, 21, 22, 23, 24, 27, 28, 29, 30, 31, 32, 33, 36, 37, 38, 41, 44, 45]
def ax_c249 : List ax_O := [(0,0,0,0), (4,0,1,0), (3,0,1,0), (3,2,0,0), (19,12,76,444), (13,3,28,0), (3,2,0,0), (19,12,63,157), (3,2,0,0), (19,12,77,193), (0,0,0,2), (3,0,1,0), (6,2,0,0), (21,0,0,0), (21,0,0,0), (3,2,0,0), (19,12,77,193), (0,0,0,2), (3,0,1,0), (6,2,0,0), (0,0,0,1), (6,0,0,0), (21,0,0,0), (13,0,26,0), (0,0,0,0), (28,3,0,0), (5,1,0,1), (14,0,2,0), (0,0,0,1), (28,3,0,0)]
/-- FireDrillModel.laysFits()V -/
def ax_p250 : List Nat := [0, 1, 2, 5, 6, 7, 8, 10, 13, 14, 17, 18, 19, 20, 21, 23, 26, 27, 28, 31, 34, 35, 36, 39, 42, 45, 46, 47, 49, 52, 53, 56, 57, 60, 61, 64, 65, 66, 69, 70, 71, 72, 74, 77, 78, 81, 83, 84, 85, 86, 87, 88, 91, 92, 93, 94, 97, 100, 101, 104, 105, 106, 109, 110, 111, 114, 115, 116, 119, 120, 121, 124, 125, 126, 129, 132, 135]
def ax_c250 : List ax_O := [(3,2,0,0), (0,0,0,0), (20,12,80,621), (0,0,0,0), (4,0,1,0), (3,0,1,0), (0,1,0,10), (13,4,76,0), (3,2,0,0), (19,12,79,199), (3,0,1,0), (0,0,0,0), (22,3,0,0), (3,0,1,0), (0,1,0,10), (13,3,25,0), (3,2,0,0), (3,0,1,0), (27,187,2,551), (12,0,74,0), (3,2,0,0), (3,0,1,0), (27,192,2,473), (12,0,25,0), (14,0,74,0), (3,2,0,0), (3,0,1,0), (0,1,0,10), (13,3,31,0), (3,0,1,0), (14,0,32,0), (0,0,0,(-1)), (20,12,69,172), (3,2,0,0), (27,208,1,534), (3,2,0,0), (0,0,0,(-1)), (20,12,69,172), (0,0,0,0), (4,0,2,0), (3,0,2,0), (0,1,0,8), (13,3,57,0), (3,2,0,0), (19,12,78,196), (0,1,0,8), (3,0,1,0), (6,2,0,0), (3,0,2,0), (6,0,0,0), (3,2,0,0), (19,12,63,157), (3,0,2,0), (21,0,0,0), (22,0,0,0), (5,2,0,1), (14,0,40,0), (3,2,0,0), (19,12,79,199), (3,0,1,0), (3,2,0,0), (27,249,1,624), (22,3,0,0), (3,2,0,0), (19,12,79,199), (3,0,1,0), (21,3,0,0), (12,0,74,0), (3,2,0,0), (16,0,0,0), (19,12,80,621), (0,0,0,1), (6,0,0,0), (20,12,80,621), (5,1,0,1), (14,0,5,0), (28,2,0,0)]
/-- FireDrillModel.shuts(I)I -/
def ax_p251 : List Nat := [0, 1, 2, 3, 4, 7, 10, 11, 12, 13, 16, 17, 18, 19, 20, 21, 23, 26, 27, 30, 31, 32, 35, 36, 37, 38, 39, 40, 41, 44, 47, 48, 51, 52, 55, 56, 59, 61, 62, 65, 66, 69, 70]
def ax_c251 : List ax_O := [(3,0,1,0), (9,0,0,0), (1,0,0,0), (1,0,0,1), (27,153,3,337), (12,1,8,0), (0,0,0,(-1)), (28,0,0,0), (3,2,0,0), (27,250,1,627), (0,0,0,0), (4,0,2,0), (0,0,0,0), (4,0,3,0), (3,0,3,0), (0,1,0,10), (13,3,30,0), (3,2,0,0), (19,12,79,199), (3,0,3,0), (21,3,0,0), (12,0,28,0), (3,0,2,0), (0,0,0,1), (3,0,3,0), (6,8,0,0), (6,6,0,0), (4,0,2,0), (5,3,0,1), (14,0,14,0), (3,0,1,0), (12,1,34,0), (3,0,2,0), (14,0,42,0), (3,2,0,0), (19,12,79,199), (0,1,0,10), (21,3,0,0), (12,0,41,0), (0,0,0,1), (14,0,42,0), (0,0,0,0), (28,0,0,0)]
/-- FireDrillModel.alike(II)I -/
def ax_p252 : List Nat := [0, 1, 2, 3, 5, 7, 9, 12, 13, 16, 18, 19, 22, 23, 26, 28, 30, 31, 32, 33, 34, 35, 38, 40, 41, 42, 43, 44, 45, 48, 51, 54, 57, 58]
def ax_c252 : List ax_O := [(0,0,0,0), (4,0,3,0), (0,0,0,0), (4,0,4,1), (3,0,4,1), (0,1,0,10), (13,4,32,0), (3,2,0,0), (19,12,79,199), (3,0,4,1), (21,3,0,0), (12,0,30,0), (3,2,0,0), (19,12,78,196), (0,1,0,8), (3,0,4,1), (6,2,0,0), (3,0,1,0), (6,0,0,0), (21,0,0,0), (3,2,0,0), (19,12,78,196), (0,1,0,8), (3,0,2,0), (6,2,0,0), (3,0,1,0), (6,0,0,0), (21,0,0,0), (13,1,30,0), (5,3,0,1), (5,4,0,1), (14,0,4,0), (3,0,3,0), (28,0,0,0)]
/-- FireDrillModel.whom(I)I -/
def ax_p253 : List Nat := [0, 1, 2, 3, 4, 7, 10, 11, 12, 13, 16, 17, 18, 19, 20, 21, 23, 25, 26, 29, 32, 33, 36, 39, 40, 42, 43, 45, 47, 49, 52, 53, 56, 58, 59, 62, 63, 65, 67, 70, 72, 75, 76, 78, 80, 83, 85, 88, 91, 92, 93, 96, 98, 99, 102, 105, 107, 108, 110, 111, 114, 117, 118, 119, 122, 123, 126, 127, 130, 131, 134, 135]
def ax_c253 : List ax_O := [(3,0,1,0), (9,0,0,0), (1,0,0,0), (1,0,0,1), (27,153,3,337), (12,1,8,0), (0,0,0,(-1)), (28,0,0,0), (3,2,0,0), (27,250,1,627), (0,0,0,(-1)), (4,0,2,0), (0,0,0,0), (4,0,3,0), (0,0,0,0), (4,0,4,1), (3,0,4,1), (3,2,0,0), (27,186,1,453), (13,3,61,0), (3,2,0,0), (19,12,80,621), (12,5,61,0), (0,0,0,0), (4,0,5,1), (0,0,0,0), (4,0,6,1), (3,0,6,1), (0,1,0,10), (13,4,48,0), (3,2,0,0), (19,12,79,199), (3,0,6,1), (21,3,0,0), (12,0,46,0), (3,2,0,0), (3,0,4,1), (3,0,6,1), (27,252,3,630), (3,0,5,1), (13,5,46,0), (3,2,0,0), (3,0,4,1), (3,0,6,1), (27,252,3,630), (4,0,5,1), (5,6,0,1), (14,0,27,0), (3,0,2,0), (0,0,0,(-1)), (13,0,55,0), (3,0,5,1), (3,0,3,0), (13,2,55,0), (14,0,59,0), (3,0,4,1), (4,0,2,0), (3,0,5,1), (4,0,3,0), (5,4,0,1), (14,0,16,0), (3,0,2,0), (0,0,0,(-1)), (13,1,66,0), (0,0,0,(-1)), (14,0,71,0), (3,0,1,0), (12,1,70,0), (3,0,2,0), (14,0,71,0), (3,0,3,0), (28,0,0,0)]
/-- FireDrillModel.keeps()V -/
def ax_p254 : List Nat := [0, 1, 2, 5, 6, 7, 9, 10, 13, 14, 15, 16, 18, 21, 22, 25, 27, 28, 31, 32, 33, 34, 35, 38, 39, 40, 41, 44, 47, 48, 51, 53, 56, 57, 58, 61, 62, 63, 66]
def ax_c254 : List ax_O := [(3,2,0,0), (3,2,0,0), (19,12,83,633), (0,0,0,1), (6,0,0,0), (0,1,0,20), (6,4,0,0), (20,12,83,633), (0,0,0,0), (4,0,1,0), (3,0,1,0), (0,1,0,44), (13,3,28,0), (3,2,0,0), (19,12,81,203), (0,1,0,44), (3,2,0,0), (19,12,83,633), (6,2,0,0), (3,0,1,0), (6,0,0,0), (3,2,0,0), (19,12,54,142), (3,0,1,0), (21,0,0,0), (22,0,0,0), (5,1,0,1), (14,0,10,0), (3,2,0,0), (19,12,82,441), (0,1,0,20), (13,3,38,0), (3,2,0,0), (16,0,0,0), (19,12,82,441), (0,0,0,1), (6,0,0,0), (20,12,82,441), (28,2,0,0)]
/-- FireDrillModel.undo()Z -/
def ax_p255 : List Nat := [0, 1, 4, 7, 8, 11, 12, 13, 14, 15, 16, 17, 18, 19, 20, 21, 22, 24, 27, 28, 31, 32, 33, 36, 38, 39, 42, 43, 44, 45, 46, 47, 50, 53, 54, 55, 58, 60, 61, 62, 63, 65, 66, 69, 70, 71, 74, 75, 76, 79, 80]
def ax_c255 : List ax_O := [(3,2,0,0), (19,12,82,441), (12,1,13,0), (3,2,0,0), (19,12,9,17), (0,0,0,4), (17,0,0,0), (21,0,0,0), (0,0,0,1), (6,0,0,0), (22,0,0,0), (0,0,0,0), (28,3,0,0), (0,0,0,0), (4,0,1,0), (3,0,1,0), (0,1,0,44), (13,3,33,0), (3,2,0,0), (19,12,54,142), (3,0,1,0), (3,2,0,0), (19,12,81,203), (0,1,0,44), (3,2,0,0), (19,12,83,633), (6,2,0,0), (3,0,1,0), (6,0,0,0), (21,0,0,0), (22,0,0,0), (5,1,0,1), (14,0,15,0), (3,2,0,0), (3,2,0,0), (19,12,83,633), (0,1,0,20), (6,0,0,0), (0,0,0,1), (6,1,0,0), (0,1,0,20), (6,4,0,0), (20,12,83,633), (3,2,0,0), (16,0,0,0), (19,12,82,441), (0,0,0,1), (6,1,0,0), (20,12,82,441), (0,0,0,1), (28,3,0,0)]
/-- FireDrillModel.isRefused()Z -/
def ax_p256 : List Nat := [0, 1, 4, 5, 6, 7, 8, 9, 10, 11]
def ax_c256 : List ax_O := [(3,2,0,0), (19,12,9,17), (0,0,0,2), (17,0,0,0), (21,0,0,0), (0,0,0,1), (6,0,0,0), (22,0,0,0), (0,0,0,0), (28,3,0,0)]
/-- FireDrillModel.post(II)Z -/
def ax_p257 : List Nat := [0, 1, 2, 5, 8, 9, 10, 11, 14, 17, 20, 21, 24, 25, 26, 27, 28, 29, 32, 33, 36, 37, 38, 41, 42, 45, 46, 47, 48, 49, 50, 51]
def ax_c257 : List ax_O := [(3,2,0,0), (3,0,1,0), (27,188,2,554), (12,0,18,0), (3,0,2,0), (9,0,0,0), (1,0,0,0), (1,1,636,20), (27,153,3,337), (12,0,18,0), (3,2,0,0), (19,12,54,142), (0,0,0,1), (3,0,1,0), (6,0,0,0), (21,0,0,0), (3,0,2,0), (13,1,21,0), (3,2,0,0), (27,256,1,638), (28,3,0,0), (3,2,0,0), (27,254,1,641), (3,2,0,0), (19,12,54,142), (0,0,0,1), (3,0,1,0), (6,0,0,0), (3,0,2,0), (22,0,0,0), (0,0,0,1), (28,3,0,0)]
/-- FireDrillModel.shut(II)Z -/
def ax_p258 : List Nat := [0, 1, 2, 5, 8, 9, 10, 11, 12, 15, 18, 19, 22, 24, 25, 26, 27, 28, 31, 32, 35, 36, 37, 40, 41, 44, 46, 47, 48, 49, 50, 51]
def ax_c258 : List ax_O := [(3,2,0,0), (3,0,1,0), (27,187,2,551), (12,0,18,0), (3,0,2,0), (9,0,0,0), (1,0,0,0), (1,0,0,1), (27,153,3,337), (12,0,18,0), (3,2,0,0), (19,12,54,142), (0,1,0,6), (3,0,1,0), (6,0,0,0), (21,0,0,0), (3,0,2,0), (13,1,21,0), (3,2,0,0), (27,256,1,638), (28,3,0,0), (3,2,0,0), (27,254,1,641), (3,2,0,0), (19,12,54,142), (0,1,0,6), (3,0,1,0), (6,0,0,0), (3,0,2,0), (22,0,0,0), (0,0,0,1), (28,3,0,0)]
/-- FireDrillModel.drills(I)I -/
def ax_p259 : List Nat := [0, 1, 2, 3, 5, 8, 11, 12, 13, 16, 17, 18, 21, 22, 23, 26]
def ax_c259 : List ax_O := [(3,2,0,0), (3,0,1,0), (0,0,0,1), (0,1,0,30), (27,215,4,606), (12,1,10,0), (3,2,0,0), (0,0,0,3), (27,247,2,618), (28,0,0,0), (3,2,0,0), (27,254,1,641), (3,2,0,0), (3,0,1,0), (27,212,2,612), (28,0,0,0)]
/-- FireDrillModel.seed(I)Z -/
def ax_p260 : List Nat := [0, 1, 4, 5, 8, 9, 10, 11, 12, 13, 14, 15, 16, 17, 18, 19, 22, 23]
def ax_c260 : List ax_O := [(3,0,1,0), (12,3,12,0), (3,2,0,0), (19,12,9,17), (0,0,0,5), (17,0,0,0), (21,0,0,0), (0,0,0,1), (6,0,0,0), (22,0,0,0), (0,0,0,0), (28,3,0,0), (3,2,0,0), (3,0,1,0), (9,0,0,0), (20,12,84,206), (0,0,0,1), (28,3,0,0)]
/-- FireDrillModel.drawOf(I)I -/
def ax_p261 : List Nat := [0, 1, 4, 5, 8, 9, 12, 13, 16, 17, 20, 21, 24, 27, 28, 29, 30, 31, 32]
def ax_c261 : List ax_O := [(3,2,0,0), (1,1,644,1103515245), (3,2,0,0), (19,12,84,206), (7,2,0,0), (1,1,646,12345), (7,0,0,0), (1,1,648,2147483648), (7,4,0,0), (20,12,84,206), (3,2,0,0), (19,12,84,206), (1,1,650,64), (7,3,0,0), (3,0,1,0), (9,0,0,0), (7,4,0,0), (10,0,0,0), (28,0,0,0)]
/-- FireDrillModel.chance(I)I -/
def ax_p262 : List Nat := [0, 1, 2, 3, 5, 8, 11, 12, 13, 16, 17, 18, 21, 22, 23, 24, 25, 26, 27, 30, 31, 34, 37, 38, 40, 43, 44, 47, 48, 49, 52, 53, 54, 55, 58, 61, 64, 67, 68, 71, 72, 73, 74, 77, 80, 83, 84]
def ax_c262 : List ax_O := [(3,2,0,0), (3,0,1,0), (0,0,0,1), (0,1,0,30), (27,215,4,606), (12,1,10,0), (3,2,0,0), (0,0,0,3), (27,247,2,618), (28,0,0,0), (3,2,0,0), (27,254,1,641), (0,0,0,0), (4,0,2,0), (0,0,0,0), (4,0,3,0), (3,0,3,0), (3,0,1,0), (13,3,45,0), (3,2,0,0), (27,184,1,447), (12,5,37,0), (3,2,0,0), (0,1,0,100), (27,261,2,652), (3,2,0,0), (19,12,47,130), (0,0,0,5), (21,0,0,0), (13,3,37,0), (3,2,0,0), (3,2,0,0), (3,2,0,0), (27,184,1,447), (27,261,2,652), (20,12,69,172), (5,2,0,1), (3,2,0,0), (27,211,1,540), (18,0,0,0), (3,2,0,0), (0,0,0,(-1)), (20,12,69,172), (5,3,0,1), (14,0,16,0), (3,0,2,0), (28,0,0,0)]
/-- FireDrillModel.qCode(I)V -/
def ax_p263 : List Nat := [0, 1, 4, 5, 8, 9, 10, 11, 12, 15, 16, 17, 20]
def ax_c263 : List ax_O := [(3,2,0,0), (19,12,109,282), (3,2,0,0), (19,12,110,389), (3,0,1,0), (22,0,0,0), (3,2,0,0), (16,0,0,0), (19,12,110,389), (0,0,0,1), (6,0,0,0), (20,12,110,389), (28,2,0,0)]
/-- FireDrillModel.qOpens(II)V -/
def ax_p264 : List Nat := [0, 1, 4, 7, 8, 9, 12, 14, 17, 18, 19, 20, 23, 24, 25, 26, 29, 30, 31, 34, 35, 38, 39, 42, 43, 44, 45, 46, 49, 50, 51, 54]
def ax_c264 : List ax_O := [(3,2,0,0), (19,12,5,297), (12,0,4,0), (28,2,0,0), (3,2,0,0), (19,12,113,395), (0,1,0,6), (13,1,13,0), (3,2,0,0), (0,0,0,4), (3,0,2,0), (27,156,3,327), (28,2,0,0), (3,2,0,0), (16,0,0,0), (19,12,113,395), (0,0,0,1), (6,0,0,0), (20,12,113,395), (3,2,0,0), (19,12,111,285), (3,2,0,0), (19,12,112,392), (3,0,1,0), (22,0,0,0), (3,2,0,0), (16,0,0,0), (19,12,112,392), (0,0,0,1), (6,0,0,0), (20,12,112,392), (28,2,0,0)]
/-- FireDrillModel.qIsOn(I)Z -/
def ax_p265 : List Nat := [0, 1, 4, 7, 8, 11, 12, 15, 16, 17, 18, 19, 22, 23, 26, 27]
def ax_c265 : List ax_O := [(3,2,0,0), (19,12,112,392), (12,5,14,0), (3,2,0,0), (19,12,111,285), (3,2,0,0), (19,12,112,392), (0,0,0,1), (6,1,0,0), (21,0,0,0), (3,0,1,0), (13,1,14,0), (0,0,0,1), (14,0,15,0), (0,0,0,0), (28,3,0,0)]
/-- FireDrillModel.qDrops()V -/
def ax_p266 : List Nat := [0, 1, 2, 5, 6, 7, 10, 11, 12, 15, 16, 19, 20, 23]
def ax_c266 : List ax_O := [(3,2,0,0), (16,0,0,0), (19,12,112,392), (0,0,0,1), (6,1,0,0), (20,12,112,392), (3,2,0,0), (3,2,0,0), (19,12,111,285), (3,2,0,0), (19,12,112,392), (21,0,0,0), (27,263,2,655), (28,2,0,0)]
/-- FireDrillModel.qIsBracket(I)Z -/
def ax_p267 : List Nat := [0, 1, 3, 6, 7, 9, 12, 13, 16, 17]
def ax_c267 : List ax_O := [(3,0,0,0), (0,1,0,20), (13,2,8,0), (3,0,0,0), (0,1,0,24), (13,4,8,0), (0,0,0,1), (14,0,9,0), (0,0,0,0), (28,3,0,0)]
/-- FireDrillModel.qBracket()I -/
def ax_p268 : List Nat := [0, 1, 4, 5, 6, 7, 8, 9, 12, 15, 16, 19, 20, 21, 24, 27, 30, 33, 34, 35, 38, 41, 42, 45, 46, 47, 50, 51]
def ax_c268 : List ax_O := [(3,2,0,0), (19,12,112,392), (0,0,0,1), (6,1,0,0), (4,0,1,0), (3,0,1,0), (3,2,0,0), (19,12,114,398), (13,2,17,0), (3,2,0,0), (19,12,111,285), (3,0,1,0), (21,0,0,0), (27,267,1,658), (12,1,17,0), (5,1,0,(-1)), (14,0,5,0), (3,0,1,0), (3,2,0,0), (19,12,114,398), (13,2,26,0), (3,2,0,0), (19,12,111,285), (3,0,1,0), (21,0,0,0), (14,0,27,0), (0,0,0,(-1)), (28,0,0,0)]
/-- FireDrillModel.qDropsToBracket()V -/
def ax_p269 : List Nat := [0, 1, 4, 5, 8, 11, 12, 15, 16, 19, 20, 21, 22, 25, 28, 29, 32, 35]
def ax_c269 : List ax_O := [(3,2,0,0), (19,12,112,392), (3,2,0,0), (19,12,114,398), (13,5,17,0), (3,2,0,0), (19,12,111,285), (3,2,0,0), (19,12,112,392), (0,0,0,1), (6,1,0,0), (21,0,0,0), (27,267,1,658), (12,1,17,0), (3,2,0,0), (27,266,1,661), (14,0,0,0), (28,2,0,0)]
/-- FireDrillModel.qWordHere()I -/
def ax_p270 : List Nat := [0, 1, 2, 5, 8, 11, 12, 13, 14, 15, 18, 21, 24, 25, 26, 27, 28, 31, 34, 37, 38, 39, 40, 41, 44, 47, 50, 51, 52, 53, 54, 57, 60, 63, 64, 65, 66, 67, 70, 73, 76, 77, 78, 79, 80, 83, 86, 89, 91, 92, 93, 94, 97, 100, 103, 105, 106, 107, 108, 111, 114, 117, 119, 120, 121, 122, 125, 128, 131, 133, 134, 135, 136, 139, 142, 145, 147, 148, 149, 150, 153, 156, 159, 161, 162, 163]
def ax_c270 : List ax_O := [(3,2,0,0), (3,2,0,0), (19,12,97,246), (27,160,2,320), (12,0,7,0), (0,0,0,0), (28,0,0,0), (3,2,0,0), (3,2,0,0), (19,12,98,249), (27,160,2,320), (12,0,14,0), (0,0,0,1), (28,0,0,0), (3,2,0,0), (3,2,0,0), (19,12,99,252), (27,160,2,320), (12,0,21,0), (0,0,0,2), (28,0,0,0), (3,2,0,0), (3,2,0,0), (19,12,100,255), (27,160,2,320), (12,0,28,0), (0,0,0,3), (28,0,0,0), (3,2,0,0), (3,2,0,0), (19,12,101,258), (27,160,2,320), (12,0,35,0), (0,0,0,4), (28,0,0,0), (3,2,0,0), (3,2,0,0), (19,12,102,261), (27,160,2,320), (12,0,42,0), (0,0,0,5), (28,0,0,0), (3,2,0,0), (3,2,0,0), (19,12,103,264), (27,160,2,320), (12,0,49,0), (0,1,0,6), (28,0,0,0), (3,2,0,0), (3,2,0,0), (19,12,104,267), (27,160,2,320), (12,0,56,0), (0,1,0,7), (28,0,0,0), (3,2,0,0), (3,2,0,0), (19,12,105,270), (27,160,2,320), (12,0,63,0), (0,1,0,8), (28,0,0,0), (3,2,0,0), (3,2,0,0), (19,12,106,273), (27,160,2,320), (12,0,70,0), (0,1,0,9), (28,0,0,0), (3,2,0,0), (3,2,0,0), (19,12,107,276), (27,160,2,320), (12,0,77,0), (0,1,0,10), (28,0,0,0), (3,2,0,0), (3,2,0,0), (19,12,108,279), (27,160,2,320), (12,0,84,0), (0,1,0,11), (28,0,0,0), (0,0,0,(-1)), (28,0,0,0)]
/-- FireDrillModel.qWordOf(II)I -/
def ax_p271 : List Nat := [0, 1, 4, 5, 6, 7, 10, 11, 12, 15, 16, 17, 20, 23, 24, 27, 28]
def ax_c271 : List ax_O := [(3,2,0,0), (27,270,1,664), (4,0,3,0), (3,0,3,0), (3,0,1,0), (13,2,15,0), (3,0,3,0), (3,0,2,0), (13,3,15,0), (3,2,0,0), (3,0,3,0), (27,168,2,667), (12,0,15,0), (3,0,3,0), (14,0,16,0), (0,0,0,(-1)), (28,0,0,0)]
/-- FireDrillModel.qAsksWord(I)V -/
def ax_p272 : List Nat := [0, 1, 60, 61, 62, 65, 68, 71, 72, 73, 76, 79, 82, 83, 84, 87, 90, 93, 94, 95, 98, 101, 104, 105, 106, 109, 112, 115, 116, 117, 120, 123, 126, 127, 128, 131, 134, 137, 138, 139, 142, 145, 148, 149, 150, 153, 156, 159, 160, 161, 164, 167, 170, 171, 172, 175, 178, 181, 182, 183, 186, 189]
def ax_c272 : List ax_O := [(3,0,1,0), (15,7,0,0), (3,2,0,0), (3,2,0,0), (19,12,97,246), (27,162,2,381), (14,0,61,0), (3,2,0,0), (3,2,0,0), (19,12,98,249), (27,162,2,381), (14,0,61,0), (3,2,0,0), (3,2,0,0), (19,12,99,252), (27,162,2,381), (14,0,61,0), (3,2,0,0), (3,2,0,0), (19,12,100,255), (27,162,2,381), (14,0,61,0), (3,2,0,0), (3,2,0,0), (19,12,101,258), (27,162,2,381), (14,0,61,0), (3,2,0,0), (3,2,0,0), (19,12,102,261), (27,162,2,381), (14,0,61,0), (3,2,0,0), (3,2,0,0), (19,12,103,264), (27,162,2,381), (14,0,61,0), (3,2,0,0), (3,2,0,0), (19,12,104,267), (27,162,2,381), (14,0,61,0), (3,2,0,0), (3,2,0,0), (19,12,105,270), (27,162,2,381), (14,0,61,0), (3,2,0,0), (3,2,0,0), (19,12,106,273), (27,162,2,381), (14,0,61,0), (3,2,0,0), (3,2,0,0), (19,12,107,276), (27,162,2,381), (14,0,61,0), (3,2,0,0), (3,2,0,0), (19,12,108,279), (27,162,2,381), (28,2,0,0)]
/-- FireDrillModel.qEndsPart()V -/
def ax_p273 : List Nat := [0, 1, 4, 7, 8, 11, 12, 15, 18, 19, 22, 23, 26, 27, 28, 29, 31, 34, 35, 36, 39, 40, 41, 44, 45, 48, 51]
def ax_c273 : List ax_O := [(3,2,0,0), (19,12,5,297), (12,1,26,0), (3,2,0,0), (19,12,112,392), (3,2,0,0), (19,12,114,398), (13,5,26,0), (3,2,0,0), (19,12,111,285), (3,2,0,0), (19,12,112,392), (0,0,0,1), (6,1,0,0), (21,0,0,0), (0,1,0,60), (13,2,26,0), (3,2,0,0), (16,0,0,0), (19,12,113,395), (0,0,0,1), (6,1,0,0), (20,12,113,395), (3,2,0,0), (27,266,1,661), (14,0,0,0), (28,2,0,0)]
/-- FireDrillModel.qPartTold()V -/
def ax_p274 : List Nat := [0, 1, 2, 3, 6, 7, 10, 13, 14, 17, 18, 19, 21, 23, 26, 27, 28, 30, 33, 34, 36, 37, 40, 43, 44, 45, 48, 49, 50, 53, 56, 57, 58, 61, 64, 67, 68, 69, 72, 75, 78, 79, 80, 83, 86, 88, 90, 93, 94, 95, 98, 101, 102, 105, 107, 110, 111, 114, 117, 118, 120, 122, 123, 126, 127, 129, 132, 134, 137, 139, 141, 144, 145, 147, 150, 153, 154, 155, 158, 159, 161, 162, 163, 165, 166, 167, 170, 173, 174, 175, 178, 181, 182, 183, 186, 187, 190, 193, 194, 195, 196, 198, 201, 202, 203, 204, 207, 208, 209, 212, 213, 214, 215, 218, 220, 221, 222, 225, 228, 229, 230, 233, 236, 237, 240, 241, 244]
def ax_c274 : List ax_O := [(0,0,0,1), (4,0,1,0), (3,0,1,0), (12,0,94,0), (3,2,0,0), (19,12,5,297), (12,1,94,0), (3,2,0,0), (27,159,1,309), (4,0,2,0), (3,2,0,0), (0,1,0,11), (0,1,0,12), (27,271,3,670), (4,0,3,0), (3,0,2,0), (0,1,0,40), (13,1,30,0), (3,2,0,0), (0,1,0,20), (3,2,0,0), (19,12,2,303), (27,264,3,673), (3,2,0,0), (16,0,0,0), (19,12,2,303), (0,0,0,1), (6,0,0,0), (20,12,2,303), (14,0,93,0), (3,2,0,0), (3,2,0,0), (19,12,95,240), (27,160,2,320), (12,1,40,0), (3,2,0,0), (3,2,0,0), (19,12,96,243), (27,160,2,320), (12,0,75,0), (3,2,0,0), (3,2,0,0), (19,12,95,240), (27,161,2,324), (4,0,4,1), (3,0,4,1), (12,1,51,0), (3,2,0,0), (3,2,0,0), (19,12,96,243), (27,162,2,381), (3,2,0,0), (27,159,1,309), (0,1,0,40), (13,1,58,0), (3,2,0,0), (19,12,2,303), (14,0,59,0), (0,0,0,(-1)), (4,0,5,1), (3,0,5,1), (0,0,0,(-1)), (13,0,71,0), (3,2,0,0), (3,0,4,1), (12,0,68,0), (0,1,0,21), (14,0,69,0), (0,1,0,22), (3,0,5,1), (27,264,3,673), (3,2,0,0), (0,1,0,40), (27,164,2,429), (14,0,93,0), (3,0,3,0), (0,0,0,(-1)), (13,0,91,0), (3,2,0,0), (0,1,0,60), (3,0,3,0), (6,0,0,0), (0,1,0,11), (6,1,0,0), (3,2,0,0), (19,12,2,303), (27,264,3,673), (3,2,0,0), (3,0,3,0), (27,272,2,676), (14,0,93,0), (0,0,0,0), (4,0,1,0), (14,0,2,0), (3,2,0,0), (19,12,5,297), (12,0,98,0), (28,2,0,0), (3,2,0,0), (0,0,0,0), (0,1,0,11), (27,271,3,670), (4,0,2,0), (3,0,2,0), (0,0,0,(-1)), (13,0,109,0), (3,2,0,0), (3,0,2,0), (27,272,2,676), (3,2,0,0), (3,0,2,0), (0,0,0,(-1)), (13,0,117,0), (0,1,0,40), (3,0,2,0), (6,0,0,0), (14,0,123,0), (0,2,0,1000), (3,2,0,0), (0,0,0,0), (0,2,0,9999), (27,165,3,385), (6,0,0,0), (27,263,2,655), (3,2,0,0), (27,273,1,679), (28,2,0,0)]
/-- FireDrillModel.qGoesOn()Z -/
def ax_p275 : List Nat := [0, 1, 4, 7, 8, 11, 13, 16, 17, 20, 22, 25, 26, 29, 31, 34, 35, 38, 40, 43, 44, 45, 48, 49, 50, 53, 54, 57, 58, 59, 62, 63, 64, 67, 68, 69, 72, 73, 74, 77, 78, 81, 82, 85, 86, 88, 91, 92, 93, 96, 97, 100, 101, 103, 106, 107, 110, 112, 115, 116, 119, 122, 123, 125, 128, 131, 132, 134, 137, 140, 141, 144, 145, 148, 149, 150, 151, 153, 156, 157, 160, 161, 162, 163, 164, 167, 170, 171, 172, 175, 178, 179, 182, 185, 186, 189, 190, 193, 194, 195, 196, 197, 200, 201, 202, 205, 206, 207, 208, 210, 213, 216, 217, 219, 222, 225, 226, 229, 230, 233, 234, 235, 236, 238, 241, 242, 245, 246, 247, 248, 249, 252, 255, 256, 257, 260, 263, 264, 265, 268, 271, 272, 273, 276, 279, 280, 283, 286, 287, 290, 291, 294, 295, 296, 297, 298, 301, 302, 303, 306, 307, 308, 309, 312, 314, 317, 318, 321, 323, 326, 327, 329, 332, 333, 336, 339, 340, 341, 342, 345, 346, 349, 350, 353, 354, 355, 356, 357, 358, 359, 360, 361, 362, 363, 366, 367, 370, 371, 374, 377, 378, 379, 380, 383, 386, 387]
def ax_c275 : List ax_O := [(3,2,0,0), (19,12,5,297), (12,1,61,0), (3,2,0,0), (27,159,1,309), (0,1,0,41), (13,1,61,0), (3,2,0,0), (27,268,1,682), (0,1,0,20), (13,0,19,0), (3,2,0,0), (27,268,1,682), (0,1,0,23), (13,0,19,0), (3,2,0,0), (27,268,1,682), (0,1,0,24), (13,1,61,0), (3,2,0,0), (16,0,0,0), (19,12,2,303), (0,0,0,1), (6,0,0,0), (20,12,2,303), (3,2,0,0), (27,269,1,685), (3,2,0,0), (16,0,0,0), (19,12,112,392), (0,0,0,1), (6,1,0,0), (20,12,112,392), (3,2,0,0), (16,0,0,0), (19,12,113,395), (0,0,0,1), (6,1,0,0), (20,12,113,395), (3,2,0,0), (19,12,111,285), (3,2,0,0), (19,12,112,392), (21,0,0,0), (0,1,0,20), (13,0,58,0), (3,2,0,0), (3,2,0,0), (19,12,111,285), (3,2,0,0), (19,12,112,392), (21,0,0,0), (0,1,0,23), (13,1,56,0), (0,0,0,5), (14,0,57,0), (0,1,0,6), (27,263,2,655), (3,2,0,0), (27,273,1,679), (14,0,0,0), (3,2,0,0), (0,1,0,42), (27,163,2,331), (12,1,69,0), (3,2,0,0), (0,1,0,47), (27,163,2,331), (12,0,107,0), (3,2,0,0), (19,12,0,7), (3,2,0,0), (19,12,2,303), (0,0,0,1), (6,1,0,0), (21,0,0,0), (0,1,0,42), (13,1,80,0), (0,0,0,3), (14,0,81,0), (0,0,0,4), (4,0,1,0), (3,2,0,0), (0,0,0,3), (27,265,2,688), (12,1,90,0), (3,2,0,0), (0,0,0,4), (27,265,2,688), (12,0,93,0), (3,2,0,0), (27,266,1,661), (14,0,82,0), (3,2,0,0), (19,12,111,285), (3,2,0,0), (19,12,112,392), (3,0,1,0), (22,0,0,0), (3,2,0,0), (16,0,0,0), (19,12,112,392), (0,0,0,1), (6,0,0,0), (20,12,112,392), (0,0,0,1), (28,3,0,0), (3,2,0,0), (0,1,0,43), (27,163,2,331), (12,1,115,0), (3,2,0,0), (0,1,0,45), (27,163,2,331), (12,0,161,0), (3,2,0,0), (19,12,0,7), (3,2,0,0), (19,12,2,303), (0,0,0,1), (6,1,0,0), (21,0,0,0), (0,1,0,43), (13,1,126,0), (0,0,0,1), (14,0,127,0), (0,0,0,2), (4,0,1,0), (3,2,0,0), (0,0,0,3), (27,265,2,688), (12,1,144,0), (3,2,0,0), (0,0,0,4), (27,265,2,688), (12,1,144,0), (3,2,0,0), (0,0,0,1), (27,265,2,688), (12,1,144,0), (3,2,0,0), (0,0,0,2), (27,265,2,688), (12,0,147,0), (3,2,0,0), (27,266,1,661), (14,0,128,0), (3,2,0,0), (19,12,111,285), (3,2,0,0), (19,12,112,392), (3,0,1,0), (22,0,0,0), (3,2,0,0), (16,0,0,0), (19,12,112,392), (0,0,0,1), (6,0,0,0), (20,12,112,392), (0,0,0,1), (28,3,0,0), (3,2,0,0), (27,268,1,682), (0,1,0,21), (13,0,169,0), (3,2,0,0), (27,268,1,682), (0,1,0,22), (13,1,192,0), (3,2,0,0), (0,1,0,44), (27,164,2,429), (3,2,0,0), (19,12,5,297), (12,0,177,0), (0,0,0,0), (28,3,0,0), (3,2,0,0), (27,269,1,685), (3,2,0,0), (19,12,111,285), (3,2,0,0), (19,12,112,392), (0,0,0,1), (6,1,0,0), (17,0,0,0), (21,0,0,0), (0,0,0,2), (6,0,0,0), (22,0,0,0), (0,0,0,1), (28,3,0,0), (3,2,0,0), (27,268,1,682), (0,0,0,(-1)), (13,0,204,0), (3,2,0,0), (19,12,5,297), (12,1,204,0), (3,2,0,0), (0,0,0,1), (3,2,0,0), (19,12,2,303), (27,156,3,327), (0,0,0,0), (28,3,0,0)]
/-- FireDrillModel.qSums()V -/
def ax_p276 : List Nat := [0, 1, 4, 5, 6, 7, 10, 13, 14, 15, 16, 19, 20, 23, 26, 27, 30, 31, 34, 37, 38, 41, 44, 45, 48, 49, 50, 53, 54, 57, 60, 61, 64, 65, 68, 71, 72, 75, 78, 79, 80, 83]
def ax_c276 : List ax_O := [(3,2,0,0), (19,12,114,398), (4,0,1,0), (3,2,0,0), (3,2,0,0), (19,12,112,392), (20,12,114,398), (0,0,0,1), (4,0,2,0), (3,0,2,0), (12,0,27,0), (3,2,0,0), (19,12,5,297), (12,1,27,0), (3,2,0,0), (27,274,1,691), (3,2,0,0), (19,12,5,297), (12,1,24,0), (3,2,0,0), (27,275,1,694), (12,0,24,0), (0,0,0,1), (14,0,25,0), (0,0,0,0), (4,0,2,0), (14,0,9,0), (3,2,0,0), (19,12,5,297), (12,1,38,0), (3,2,0,0), (19,12,112,392), (3,2,0,0), (19,12,114,398), (13,5,38,0), (3,2,0,0), (27,266,1,661), (14,0,27,0), (3,2,0,0), (3,0,1,0), (20,12,114,398), (28,2,0,0)]
/-- FireDrillModel.qFact()V -/
def ax_p277 : List Nat := [0, 1, 2, 5, 8, 11, 12, 14, 17, 18, 19, 22, 23, 26, 29, 30, 31, 34, 35, 36, 38, 41, 42, 44, 47, 48, 50, 53, 54, 55, 56, 59, 62, 63, 64, 65, 68, 69, 70, 73, 74, 77, 78, 79, 81, 84, 86, 89, 90, 92, 95, 97, 100, 102, 105]
def ax_c277 : List ax_O := [(3,2,0,0), (3,2,0,0), (19,12,94,237), (27,161,2,324), (12,0,9,0), (3,2,0,0), (0,1,0,13), (27,263,2,655), (28,2,0,0), (3,2,0,0), (27,276,1,404), (3,2,0,0), (19,12,5,297), (12,0,15,0), (28,2,0,0), (3,2,0,0), (27,159,1,309), (4,0,1,0), (3,0,1,0), (0,1,0,60), (13,0,33,0), (3,0,1,0), (0,1,0,62), (13,0,33,0), (3,0,1,0), (0,1,0,61), (13,0,33,0), (3,2,0,0), (0,0,0,1), (3,2,0,0), (19,12,2,303), (27,156,3,327), (28,2,0,0), (3,2,0,0), (16,0,0,0), (19,12,2,303), (0,0,0,1), (6,0,0,0), (20,12,2,303), (3,2,0,0), (27,276,1,404), (3,2,0,0), (3,0,1,0), (0,1,0,60), (13,1,47,0), (0,1,0,7), (14,0,53,0), (3,0,1,0), (0,1,0,62), (13,1,52,0), (0,1,0,8), (14,0,53,0), (0,1,0,9), (27,263,2,655), (28,2,0,0)]
/-- FireDrillModel.qHasSquare()Z -/
def ax_p278 : List Nat := [0, 1, 2, 3, 4, 7, 10, 11, 14, 15, 16, 18, 21, 22, 23, 26, 29, 30]
def ax_c278 : List ax_O := [(0,0,0,0), (4,0,1,0), (3,0,1,0), (3,2,0,0), (19,12,112,392), (13,3,16,0), (3,2,0,0), (19,12,111,285), (3,0,1,0), (21,0,0,0), (0,1,0,25), (13,1,14,0), (0,0,0,1), (28,3,0,0), (5,1,0,1), (14,0,2,0), (0,0,0,0), (28,3,0,0)]
/-- FireDrillModel.qDropsNots()V -/
def ax_p279 : List Nat := [0, 1, 4, 7, 8, 10, 13, 16, 17, 18, 21, 22, 23, 26, 27, 30, 33]
def ax_c279 : List ax_O := [(3,2,0,0), (19,12,5,297), (12,1,16,0), (3,2,0,0), (0,1,0,12), (27,265,2,688), (12,0,16,0), (3,2,0,0), (16,0,0,0), (19,12,113,395), (0,0,0,1), (6,1,0,0), (20,12,113,395), (3,2,0,0), (27,266,1,661), (14,0,0,0), (28,2,0,0)]
/-- FireDrillModel.qTest()V -/
def ax_p280 : List Nat := [0, 1, 2, 3, 6, 7, 10, 13, 14, 17, 18, 19, 21, 24, 25, 27, 28, 31, 34, 35, 36, 39, 40, 41, 44, 47, 48, 49, 52, 55, 58, 59, 61, 62, 65, 68, 69, 70, 73, 76, 79, 80, 83, 84, 87, 88, 91, 94, 95, 98, 101, 102, 105, 106, 107, 110, 111, 114, 117, 118, 121, 124, 125, 128, 131]
def ax_c280 : List ax_O := [(0,0,0,1), (4,0,1,0), (3,0,1,0), (12,0,55,0), (3,2,0,0), (19,12,5,297), (12,1,55,0), (3,2,0,0), (27,159,1,309), (4,0,2,0), (3,0,2,0), (0,1,0,91), (13,1,25,0), (3,2,0,0), (0,1,0,25), (3,2,0,0), (19,12,2,303), (27,264,3,673), (3,2,0,0), (16,0,0,0), (19,12,2,303), (0,0,0,1), (6,0,0,0), (20,12,2,303), (14,0,2,0), (3,2,0,0), (3,2,0,0), (19,12,91,228), (27,160,2,320), (12,0,40,0), (3,2,0,0), (0,1,0,12), (3,2,0,0), (19,12,2,303), (27,264,3,673), (3,2,0,0), (3,2,0,0), (19,12,91,228), (27,162,2,381), (14,0,2,0), (3,2,0,0), (27,277,1,697), (3,2,0,0), (27,279,1,700), (3,2,0,0), (19,12,5,297), (12,1,52,0), (3,2,0,0), (27,281,1,703), (12,0,52,0), (0,0,0,1), (14,0,53,0), (0,0,0,0), (4,0,1,0), (14,0,2,0), (3,2,0,0), (19,12,5,297), (12,1,64,0), (3,2,0,0), (19,12,112,392), (12,5,64,0), (3,2,0,0), (27,266,1,661), (14,0,55,0), (28,2,0,0)]
/-- FireDrillModel.qGoesOnTest()Z -/
def ax_p281 : List Nat := [0, 1, 4, 7, 8, 11, 13, 16, 17, 20, 23, 24, 25, 28, 29, 30, 33, 34, 36, 39, 42, 43, 46, 49, 50, 51, 54, 55, 56, 59, 60, 61, 64, 65, 66, 69, 70, 73, 76, 77, 78, 81, 84, 87, 88, 90, 93, 96, 97, 100, 103, 104, 107, 108, 111, 113, 114, 115, 116, 119, 120, 121, 124, 125, 126, 127, 128, 131, 134, 137, 138, 140, 143, 146, 147, 149, 152, 155, 156, 159, 162, 163, 166, 167, 170, 172, 173, 174, 175, 178, 179, 180, 183, 184, 185, 186, 189, 192, 193, 196, 199, 200, 201, 202, 205, 208, 209]
def ax_c281 : List ax_O := [(3,2,0,0), (19,12,5,297), (12,1,38,0), (3,2,0,0), (27,159,1,309), (0,1,0,93), (13,1,38,0), (3,2,0,0), (27,278,1,706), (12,0,38,0), (3,2,0,0), (16,0,0,0), (19,12,2,303), (0,0,0,1), (6,0,0,0), (20,12,2,303), (3,2,0,0), (0,1,0,25), (27,265,2,688), (12,1,23,0), (3,2,0,0), (27,266,1,661), (14,0,16,0), (3,2,0,0), (16,0,0,0), (19,12,112,392), (0,0,0,1), (6,1,0,0), (20,12,112,392), (3,2,0,0), (16,0,0,0), (19,12,113,395), (0,0,0,1), (6,1,0,0), (20,12,113,395), (3,2,0,0), (27,279,1,700), (14,0,0,0), (3,2,0,0), (3,2,0,0), (19,12,92,231), (27,161,2,324), (12,0,64,0), (3,2,0,0), (0,1,0,10), (27,265,2,688), (12,0,50,0), (3,2,0,0), (27,266,1,661), (14,0,43,0), (3,2,0,0), (19,12,111,285), (3,2,0,0), (19,12,112,392), (0,1,0,10), (22,0,0,0), (3,2,0,0), (16,0,0,0), (19,12,112,392), (0,0,0,1), (6,0,0,0), (20,12,112,392), (0,0,0,1), (28,3,0,0), (3,2,0,0), (3,2,0,0), (19,12,93,234), (27,161,2,324), (12,0,94,0), (3,2,0,0), (0,1,0,10), (27,265,2,688), (12,1,77,0), (3,2,0,0), (0,1,0,11), (27,265,2,688), (12,0,80,0), (3,2,0,0), (27,266,1,661), (14,0,69,0), (3,2,0,0), (19,12,111,285), (3,2,0,0), (19,12,112,392), (0,1,0,11), (22,0,0,0), (3,2,0,0), (16,0,0,0), (19,12,112,392), (0,0,0,1), (6,0,0,0), (20,12,112,392), (0,0,0,1), (28,3,0,0), (3,2,0,0), (19,12,5,297), (12,1,105,0), (3,2,0,0), (27,278,1,706), (12,0,105,0), (3,2,0,0), (0,0,0,1), (3,2,0,0), (19,12,2,303), (27,156,3,327), (0,0,0,0), (28,3,0,0)]
/-- FireDrillModel.qClip(J)J -/
def ax_p282 : List Nat := [0, 1, 4, 5, 8, 11, 14, 15, 18, 19, 22, 25, 28, 29]
def ax_c282 : List ax_O := [(3,1,0,0), (1,1,709,1000000), (11,0,0,0), (12,5,6,0), (1,1,709,1000000), (14,0,13,0), (3,1,0,0), (1,1,711,(-1000000)), (11,0,0,0), (12,3,12,0), (1,1,711,(-1000000)), (14,0,13,0), (3,1,0,0), (28,1,0,0)]
/-- FireDrillModel.qFloor(JJ)J -/
def ax_p283 : List Nat := [0, 1, 2, 3, 6, 7, 8, 9, 10, 11, 13, 14, 15, 16, 17, 18, 21, 22, 23, 24, 27, 28, 31, 32, 33, 34, 35, 38, 39, 42, 43, 46, 48, 49, 50, 53, 55]
def ax_c283 : List ax_O := [(3,1,2,0), (1,0,0,0), (11,0,0,0), (12,1,6,0), (1,0,0,0), (28,1,0,0), (3,1,0,0), (3,1,2,0), (7,3,0,0), (4,1,4,1), (3,1,0,0), (3,1,2,0), (7,4,0,0), (1,0,0,0), (11,0,0,0), (12,0,35,0), (3,1,0,0), (1,0,0,0), (11,0,0,0), (12,3,22,0), (0,0,0,1), (14,0,23,0), (0,0,0,0), (3,1,2,0), (1,0,0,0), (11,0,0,0), (12,3,29,0), (0,0,0,1), (14,0,30,0), (0,0,0,0), (13,0,35,0), (3,1,4,1), (1,0,0,1), (7,1,0,0), (14,0,36,0), (3,1,4,1), (28,1,0,0)]
/-- FireDrillModel.qPuts(J)V -/
def ax_p284 : List Nat := [0, 1, 4, 5, 8, 9, 10, 11, 12, 15, 16, 17, 20]
def ax_c284 : List ax_O := [(3,2,0,0), (19,12,115,288), (3,2,0,0), (19,12,116,459), (3,1,1,0), (22,1,0,0), (3,2,0,0), (16,0,0,0), (19,12,116,459), (0,0,0,1), (6,0,0,0), (20,12,116,459), (28,2,0,0)]
/-- FireDrillModel.qJoins(I)V -/
def ax_p285 : List Nat := [0, 1, 4, 5, 8, 9, 10, 11, 12, 13, 16, 17, 20, 21, 22, 23, 25, 26, 27, 30, 31, 32, 35, 36, 92, 93, 95, 96, 97, 100, 103, 106, 107, 109, 110, 111, 114, 117, 120, 121, 123, 124, 125, 128, 131, 134, 135, 137, 138, 141, 144, 147, 148, 150, 151, 152, 155, 157, 160, 161, 164, 167, 168, 170, 171, 172, 175, 177, 180, 181, 184, 187, 188, 190, 191, 192, 195, 196, 199, 200, 203, 206, 207, 209, 210, 211, 214, 215, 218, 219, 222, 225, 226, 228, 229, 230, 233, 234, 237, 238, 241, 244, 245, 247, 248, 249, 252, 255, 256, 258, 259, 260, 261, 262, 265, 266, 269, 270, 273]
def ax_c285 : List ax_O := [(3,2,0,0), (19,12,115,288), (3,2,0,0), (19,12,116,459), (0,0,0,1), (6,1,0,0), (21,1,0,0), (4,1,2,0), (3,2,0,0), (19,12,115,288), (3,2,0,0), (19,12,116,459), (0,0,0,2), (6,1,0,0), (21,1,0,0), (4,1,4,1), (3,2,0,0), (16,0,0,0), (19,12,116,459), (0,0,0,2), (6,1,0,0), (20,12,116,459), (3,0,1,0), (15,8,0,0), (3,2,0,0), (3,1,4,1), (3,1,2,0), (7,0,0,0), (27,282,1,713), (27,284,2,462), (14,0,118,0), (3,2,0,0), (3,1,4,1), (3,1,2,0), (7,1,0,0), (27,282,1,713), (27,284,2,462), (14,0,118,0), (3,2,0,0), (3,1,4,1), (3,1,2,0), (7,2,0,0), (27,282,1,713), (27,284,2,462), (14,0,118,0), (3,2,0,0), (3,1,4,1), (3,1,2,0), (27,283,2,717), (27,284,2,462), (14,0,118,0), (3,2,0,0), (3,1,4,1), (3,1,2,0), (11,0,0,0), (12,3,58,0), (3,1,4,1), (14,0,59,0), (3,1,2,0), (27,284,2,462), (14,0,118,0), (3,2,0,0), (3,1,4,1), (3,1,2,0), (11,0,0,0), (12,5,68,0), (3,1,4,1), (14,0,69,0), (3,1,2,0), (27,284,2,462), (14,0,118,0), (3,2,0,0), (3,1,4,1), (3,1,2,0), (11,0,0,0), (12,3,78,0), (1,0,0,1), (14,0,79,0), (1,0,0,0), (27,284,2,462), (14,0,118,0), (3,2,0,0), (3,1,4,1), (3,1,2,0), (11,0,0,0), (12,5,88,0), (1,0,0,1), (14,0,89,0), (1,0,0,0), (27,284,2,462), (14,0,118,0), (3,2,0,0), (3,1,4,1), (3,1,2,0), (11,0,0,0), (12,1,98,0), (1,0,0,1), (14,0,99,0), (1,0,0,0), (27,284,2,462), (14,0,118,0), (3,2,0,0), (3,1,4,1), (3,1,2,0), (7,2,0,0), (27,284,2,462), (14,0,118,0), (3,2,0,0), (3,1,4,1), (3,1,2,0), (7,0,0,0), (1,0,0,0), (11,0,0,0), (12,5,116,0), (1,0,0,1), (14,0,117,0), (1,0,0,0), (27,284,2,462), (28,2,0,0)]
/-- FireDrillModel.qPartOf(II)J -/
def ax_p286 : List Nat := [0, 1, 56, 57, 60, 62, 63, 64, 65, 66, 67, 68, 69, 70, 73, 75, 76, 77, 78, 79, 80, 81, 82, 83, 86, 87, 88, 89, 90, 91, 94, 95, 96, 97, 100, 101, 102, 103, 106, 107, 108, 109, 112, 113, 114, 115, 116, 117, 118, 121, 122, 123, 124, 127, 128, 129, 130, 131, 132, 135, 136, 137, 138, 139, 140, 141, 144, 145]
def ax_c286 : List ax_O := [(3,0,1,0), (15,9,0,0), (3,2,0,0), (19,12,46,127), (0,1,0,34), (0,0,0,4), (3,0,2,0), (6,2,0,0), (6,0,0,0), (21,0,0,0), (9,0,0,0), (28,1,0,0), (3,2,0,0), (19,12,46,127), (0,1,0,35), (0,0,0,4), (3,0,2,0), (6,2,0,0), (6,0,0,0), (21,0,0,0), (9,0,0,0), (28,1,0,0), (3,2,0,0), (19,12,54,142), (0,0,0,0), (21,0,0,0), (9,0,0,0), (28,1,0,0), (3,2,0,0), (19,12,56,491), (9,0,0,0), (28,1,0,0), (3,2,0,0), (19,12,57,497), (9,0,0,0), (28,1,0,0), (3,2,0,0), (19,12,58,582), (9,0,0,0), (28,1,0,0), (3,2,0,0), (19,12,59,579), (9,0,0,0), (28,1,0,0), (3,0,2,0), (9,0,0,0), (28,1,0,0), (3,2,0,0), (19,12,54,142), (0,0,0,1), (3,2,0,0), (3,0,2,0), (27,191,2,506), (6,0,0,0), (21,0,0,0), (9,0,0,0), (28,1,0,0), (3,2,0,0), (19,12,63,157), (3,0,2,0), (21,0,0,0), (9,0,0,0), (28,1,0,0), (3,2,0,0), (3,0,2,0), (27,194,2,562), (9,0,0,0), (28,1,0,0)]
/-- FireDrillModel.qOf(IJI)J -/
def ax_p287 : List Nat := [0, 1, 12, 13, 14, 15, 18, 19, 20, 21, 24, 27, 28, 30, 31, 32, 35, 36, 39, 41, 43, 44, 45, 46, 47, 48, 49, 52, 53]
def ax_c287 : List ax_O := [(3,0,1,0), (15,10,0,0), (3,1,2,0), (1,0,0,0), (3,2,0,0), (27,186,1,453), (0,0,0,1), (6,1,0,0), (9,0,0,0), (27,153,3,337), (12,0,27,0), (3,1,2,0), (3,0,4,1), (9,0,0,0), (11,0,0,0), (12,0,27,0), (3,2,0,0), (19,12,66,166), (0,1,0,8), (3,0,4,1), (6,2,0,0), (3,1,2,0), (10,0,0,0), (6,0,0,0), (21,0,0,0), (9,0,0,0), (14,0,28,0), (1,0,0,0), (28,1,0,0)]
/-- FireDrillModel.qTold(I)J -/
def ax_p288 : List Nat := [0, 1, 2, 5, 6, 7, 8, 9, 12, 15, 16, 19, 20, 21, 22, 23, 26, 29, 30, 31, 34, 35, 36, 39, 42, 43, 45, 48, 49, 52, 53, 56, 57, 58, 59, 60, 62, 63, 64, 67, 68, 71, 72, 73, 74, 75, 78, 81, 82, 85, 86, 88, 91, 92, 93, 94, 96, 97, 98, 101, 104, 107, 110, 111, 113, 116, 117, 118, 121, 124, 125, 127, 130, 131, 134, 135, 138, 139, 140, 141, 142, 145, 146, 149, 150, 151, 152, 153, 154, 157, 158, 159, 162, 165, 168, 169, 172, 173, 174]
def ax_c288 : List ax_O := [(3,2,0,0), (0,0,0,0), (20,12,116,459), (0,0,0,0), (4,0,2,0), (3,0,2,0), (3,2,0,0), (19,12,110,389), (13,3,94,0), (3,2,0,0), (19,12,109,282), (3,0,2,0), (21,0,0,0), (4,0,3,0), (3,0,3,0), (0,2,0,1000), (13,2,24,0), (3,2,0,0), (3,0,3,0), (0,2,0,1000), (6,1,0,0), (9,0,0,0), (27,284,2,462), (14,0,92,0), (3,0,3,0), (0,1,0,60), (13,2,49,0), (3,2,0,0), (19,12,115,288), (3,2,0,0), (19,12,116,459), (0,0,0,1), (6,1,0,0), (3,2,0,0), (3,0,3,0), (0,1,0,60), (6,1,0,0), (3,2,0,0), (19,12,115,288), (3,2,0,0), (19,12,116,459), (0,0,0,1), (6,1,0,0), (21,1,0,0), (3,0,1,0), (27,287,4,721), (27,282,1,713), (22,1,0,0), (14,0,92,0), (3,0,3,0), (0,1,0,40), (13,2,62,0), (3,2,0,0), (3,2,0,0), (3,0,3,0), (0,1,0,40), (6,1,0,0), (3,0,1,0), (27,286,3,466), (27,282,1,713), (27,284,2,462), (14,0,92,0), (3,0,3,0), (0,1,0,13), (13,1,69,0), (3,2,0,0), (1,0,0,1), (27,284,2,462), (14,0,92,0), (3,0,3,0), (0,1,0,12), (13,1,89,0), (3,2,0,0), (19,12,115,288), (3,2,0,0), (19,12,116,459), (0,0,0,1), (6,1,0,0), (1,0,0,1), (3,2,0,0), (19,12,115,288), (3,2,0,0), (19,12,116,459), (0,0,0,1), (6,1,0,0), (21,1,0,0), (7,1,0,0), (22,1,0,0), (14,0,92,0), (3,2,0,0), (3,0,3,0), (27,285,2,470), (5,2,0,1), (14,0,5,0), (3,2,0,0), (19,12,115,288), (0,0,0,0), (21,1,0,0), (28,1,0,0)]
/-- FireDrillModel.qKind()I -/
def ax_p289 : List Nat := [0, 1, 2, 5, 8, 11, 12, 15, 16, 17, 20, 23, 26, 27, 30, 31, 32, 35, 38, 41, 42, 45, 46, 47, 50, 53, 56, 57, 60, 61, 62, 65, 68, 71, 72, 75, 76, 77, 78, 79, 82, 83, 84, 87, 90, 91]
def ax_c289 : List ax_O := [(3,2,0,0), (3,2,0,0), (19,12,85,210), (27,161,2,324), (12,0,7,0), (0,0,0,0), (14,0,36,0), (3,2,0,0), (3,2,0,0), (19,12,86,213), (27,161,2,324), (12,0,14,0), (0,0,0,1), (14,0,36,0), (3,2,0,0), (3,2,0,0), (19,12,87,216), (27,161,2,324), (12,0,21,0), (0,0,0,2), (14,0,36,0), (3,2,0,0), (3,2,0,0), (19,12,88,219), (27,161,2,324), (12,0,28,0), (0,0,0,3), (14,0,36,0), (3,2,0,0), (3,2,0,0), (19,12,89,222), (27,161,2,324), (12,0,35,0), (0,0,0,4), (14,0,36,0), (0,0,0,5), (4,0,1,0), (3,0,1,0), (0,0,0,5), (13,1,44,0), (3,2,0,0), (3,2,0,0), (19,12,90,225), (27,162,2,381), (3,0,1,0), (28,0,0,0)]
/-- FireDrillModel.qTakes(IJI)V -/
def ax_p290 : List Nat := [0, 1, 2, 5, 6, 7, 8, 11, 12, 15, 16, 18, 19, 22, 24, 27, 28, 31, 34, 35, 38, 39, 40, 43, 45, 48, 49, 51, 52, 55, 56, 57, 60, 62, 65, 66, 67, 70, 71, 72, 75, 76, 77, 80, 81, 82, 85, 86, 87, 90, 91, 92, 95, 96, 99, 102, 103, 104, 107, 108, 109, 112, 113, 116, 119, 120, 121, 124, 125, 128, 129, 130, 133, 134, 135, 138]
def ax_c290 : List ax_O := [(3,0,1,0), (0,0,0,3), (13,3,9,0), (3,1,2,0), (1,0,0,1), (11,0,0,0), (12,1,9,0), (0,0,0,1), (14,0,10,0), (0,0,0,0), (4,0,5,1), (3,0,1,0), (12,1,20,0), (3,0,5,1), (12,0,20,0), (3,2,0,0), (19,12,117,725), (1,1,728,(-1)), (11,0,0,0), (12,0,25,0), (3,0,1,0), (0,0,0,1), (13,1,29,0), (3,0,5,1), (12,0,29,0), (3,2,0,0), (3,0,4,1), (9,0,0,0), (20,12,117,725), (3,0,1,0), (0,0,0,2), (13,1,40,0), (3,0,5,1), (12,0,40,0), (3,2,0,0), (16,0,0,0), (19,12,117,725), (1,0,0,1), (7,0,0,0), (20,12,117,725), (3,0,1,0), (0,0,0,3), (13,1,49,0), (3,2,0,0), (16,0,0,0), (19,12,117,725), (3,1,2,0), (7,0,0,0), (20,12,117,725), (3,0,1,0), (0,0,0,3), (13,5,72,0), (3,2,0,0), (19,12,118,730), (12,1,69,0), (3,0,1,0), (0,0,0,4), (13,1,64,0), (3,1,2,0), (3,2,0,0), (19,12,117,725), (11,0,0,0), (12,5,72,0), (14,0,69,0), (3,1,2,0), (3,2,0,0), (19,12,117,725), (11,0,0,0), (12,3,72,0), (3,2,0,0), (3,1,2,0), (20,12,117,725), (3,2,0,0), (0,0,0,0), (20,12,118,730), (28,2,0,0)]
/-- FireDrillModel.ask()J -/
def ax_p291 : List Nat := [0, 1, 2, 5, 8, 9, 10, 13, 14, 15, 18, 19, 20, 23, 24, 25, 28, 29, 30, 33, 34, 35, 38, 39, 40, 43, 44, 45, 48, 49, 50, 53, 54, 55, 58, 59, 62, 63, 64, 67, 70, 71, 72, 75, 76, 79, 82, 83, 86, 89, 90, 93, 94, 97, 100, 101, 104, 105, 108, 109, 110, 111, 114, 117, 118, 119, 122, 125, 126, 127, 130, 133, 134, 137, 140, 143, 144, 145, 146, 147, 150, 153, 156, 157, 160, 161, 162, 165, 166, 169, 170, 171, 174, 175, 176, 177, 178, 181, 184, 185, 186, 187, 188, 191, 192, 195, 198, 201, 202, 205]
def ax_c291 : List ax_O := [(3,2,0,0), (3,2,0,0), (19,12,1,294), (20,12,3,306), (3,2,0,0), (0,0,0,0), (20,12,1,294), (3,2,0,0), (0,0,0,0), (20,12,2,303), (3,2,0,0), (0,0,0,(-1)), (20,12,4,317), (3,2,0,0), (0,0,0,0), (20,12,5,297), (3,2,0,0), (0,0,0,(-1)), (20,12,6,300), (3,2,0,0), (0,0,0,2), (20,12,53,352), (3,2,0,0), (0,0,0,0), (20,12,110,389), (3,2,0,0), (0,0,0,0), (20,12,112,392), (3,2,0,0), (0,0,0,0), (20,12,113,395), (3,2,0,0), (0,0,0,0), (20,12,114,398), (3,2,0,0), (27,289,1,734), (4,0,1,0), (3,2,0,0), (19,12,5,297), (12,1,46,0), (3,0,1,0), (0,0,0,3), (13,3,46,0), (3,2,0,0), (27,280,1,401), (14,0,51,0), (3,2,0,0), (19,12,5,297), (12,1,51,0), (3,2,0,0), (27,276,1,404), (3,2,0,0), (19,12,5,297), (12,1,63,0), (3,2,0,0), (27,159,1,309), (0,0,0,(-1)), (13,0,63,0), (3,2,0,0), (0,0,0,1), (3,2,0,0), (19,12,2,303), (27,156,3,327), (3,2,0,0), (3,2,0,0), (19,12,5,297), (20,12,7,435), (3,2,0,0), (3,2,0,0), (19,12,6,300), (20,12,8,13), (3,2,0,0), (19,12,5,297), (12,0,76,0), (1,1,588,(-1000000000000000)), (28,1,0,0), (3,2,0,0), (3,0,1,0), (0,0,0,2), (13,3,82,0), (1,1,728,(-1)), (14,0,83,0), (1,0,0,0), (20,12,117,725), (3,2,0,0), (0,0,0,1), (20,12,118,730), (3,2,0,0), (27,208,1,534), (3,2,0,0), (0,0,0,2), (20,12,53,352), (0,0,0,0), (4,0,2,0), (3,0,2,0), (3,2,0,0), (27,186,1,453), (13,3,107,0), (3,2,0,0), (3,0,1,0), (3,2,0,0), (3,0,2,0), (27,288,2,737), (3,0,2,0), (27,290,4,741), (5,2,0,1), (14,0,94,0), (3,2,0,0), (19,12,117,725), (28,1,0,0)]
/-- FireDrillModel.checked([II)I -/
def ax_p292 : List Nat := [0, 2, 3, 4, 5, 6, 7, 10, 11, 12, 13, 14, 15, 16, 17, 20, 21, 22, 25, 28, 29]
def ax_c292 : List ax_O := [(0,1,0,107), (4,0,2,0), (0,0,0,0), (4,0,3,0), (3,0,3,0), (3,0,1,0), (13,3,19,0), (0,0,0,3), (3,0,2,0), (6,2,0,0), (3,2,0,0), (3,0,3,0), (21,0,0,0), (6,0,0,0), (0,2,0,251), (6,4,0,0), (4,0,2,0), (5,3,0,1), (14,0,4,0), (3,0,2,0), (28,0,0,0)]
/-- FireDrillModel.writes(I)V -/
def ax_p293 : List Nat := [0, 1, 4, 5, 8, 9, 10, 11, 12, 15, 16, 17, 20]
def ax_c293 : List ax_O := [(3,2,0,0), (19,12,119,291), (3,2,0,0), (19,12,120,745), (3,0,1,0), (22,0,0,0), (3,2,0,0), (16,0,0,0), (19,12,120,745), (0,0,0,1), (6,0,0,0), (20,12,120,745), (28,2,0,0)]
/-- FireDrillModel.writesTwo(I)V -/
def ax_p294 : List Nat := [0, 1, 2, 5, 6, 9, 10, 11, 14, 15, 18]
def ax_c294 : List ax_O := [(3,2,0,0), (3,0,1,0), (0,2,0,256), (6,3,0,0), (27,293,2,748), (3,2,0,0), (3,0,1,0), (0,2,0,256), (6,4,0,0), (27,293,2,748), (28,2,0,0)]
/-- FireDrillModel.image()I -/
def ax_p295 : List Nat := [0, 1, 2, 5, 6, 7, 10, 11, 12, 15, 16, 17, 18, 19, 22, 25, 26, 27, 30, 31, 32, 33, 34, 37, 40, 43, 44, 45, 46, 47, 50, 53, 54, 55, 58, 60, 61, 62, 63, 66, 69, 72, 73, 74, 75, 76, 79, 82, 83, 84, 85, 86, 87, 88, 91, 94, 95, 96, 99, 100, 101, 104, 105, 108, 111, 114, 117, 120, 121, 122, 125, 126, 129, 132, 135, 136, 139]
def ax_c295 : List ax_O := [(3,2,0,0), (0,0,0,0), (20,12,120,745), (3,2,0,0), (3,2,0,0), (19,12,54,142), (0,0,0,0), (21,0,0,0), (27,294,2,751), (0,0,0,0), (4,0,1,0), (3,0,1,0), (3,2,0,0), (27,185,1,450), (13,3,25,0), (3,2,0,0), (3,2,0,0), (19,12,54,142), (0,0,0,1), (3,0,1,0), (6,0,0,0), (21,0,0,0), (27,293,2,748), (5,1,0,1), (14,0,11,0), (0,0,0,0), (4,0,1,0), (3,0,1,0), (3,2,0,0), (27,184,1,447), (13,3,41,0), (3,2,0,0), (3,2,0,0), (19,12,54,142), (0,1,0,6), (3,0,1,0), (6,0,0,0), (21,0,0,0), (27,293,2,748), (5,1,0,1), (14,0,27,0), (0,0,0,0), (4,0,1,0), (3,0,1,0), (3,2,0,0), (27,186,1,453), (13,3,67,0), (3,0,1,0), (0,0,0,1), (6,0,0,0), (4,0,2,0), (3,0,2,0), (3,2,0,0), (27,186,1,453), (13,3,65,0), (3,2,0,0), (3,2,0,0), (19,12,54,142), (3,0,1,0), (3,0,2,0), (27,193,2,456), (21,0,0,0), (27,294,2,751), (5,2,0,1), (14,0,51,0), (5,1,0,1), (14,0,43,0), (3,2,0,0), (3,2,0,0), (19,12,119,291), (3,2,0,0), (19,12,120,745), (27,292,2,754), (27,293,2,748), (3,2,0,0), (19,12,120,745), (28,0,0,0)]
/-- FireDrillModel.octet(I)I -/
def ax_p296 : List Nat := [0, 1, 4, 5, 6, 9, 12, 13, 16, 17, 18, 21, 22]
def ax_c296 : List ax_O := [(3,0,1,0), (12,2,11,0), (3,0,1,0), (3,2,0,0), (19,12,120,745), (13,3,11,0), (3,2,0,0), (19,12,119,291), (3,0,1,0), (21,0,0,0), (14,0,12,0), (0,0,0,(-1)), (28,0,0,0)]
/-- FireDrillModel.twoAt(I)I -/
def ax_p297 : List Nat := [0, 3, 4, 7, 8, 9, 10, 11, 14, 15, 16, 17, 18, 19]
def ax_c297 : List ax_O := [(0,2,0,256), (3,2,0,0), (19,12,0,7), (3,0,1,0), (21,0,0,0), (6,2,0,0), (3,2,0,0), (19,12,0,7), (3,0,1,0), (0,0,0,1), (6,0,0,0), (21,0,0,0), (6,0,0,0), (28,0,0,0)]
/-- FireDrillModel.isImage(I)Z -/
def ax_p298 : List Nat := [0, 1, 2, 5, 6, 7, 8, 9, 12, 13, 14, 15, 16, 17, 20, 21, 24, 25, 26, 27, 28, 29, 30, 33, 34, 37, 38, 39, 40, 41, 42, 45, 46, 47, 48, 51, 54, 55, 56, 59, 62, 65, 66, 67, 68, 70, 72, 73, 76, 77, 80, 82, 83, 85, 88, 89, 90, 93, 96, 97, 99, 101, 102, 105, 106, 109, 111, 112, 113, 116, 117, 118, 121, 124, 125, 127, 129, 130, 131, 132, 135, 136, 138, 141, 144, 147, 148, 149, 152, 155, 156]
def ax_c298 : List ax_O := [(0,0,0,2), (3,2,0,0), (27,185,1,450), (6,0,0,0), (4,0,2,0), (3,0,2,0), (3,2,0,0), (27,184,1,447), (6,0,0,0), (4,0,3,0), (3,0,1,0), (3,0,3,0), (3,2,0,0), (27,186,1,453), (3,2,0,0), (27,186,1,453), (0,0,0,1), (6,1,0,0), (6,2,0,0), (6,0,0,0), (0,0,0,1), (6,0,0,0), (13,1,41,0), (3,2,0,0), (19,12,0,7), (3,0,1,0), (0,0,0,1), (6,1,0,0), (21,0,0,0), (3,2,0,0), (19,12,0,7), (3,0,1,0), (0,0,0,1), (6,1,0,0), (27,292,2,754), (13,1,41,0), (3,2,0,0), (0,0,0,0), (27,297,2,758), (0,2,0,999), (13,5,43,0), (0,0,0,0), (28,3,0,0), (0,0,0,2), (4,0,4,1), (3,0,4,1), (3,0,2,0), (13,3,58,0), (3,2,0,0), (19,12,0,7), (3,0,4,1), (21,0,0,0), (0,1,0,20), (13,5,56,0), (0,0,0,0), (28,3,0,0), (5,4,0,1), (14,0,45,0), (3,0,2,0), (4,0,4,1), (3,0,4,1), (3,0,3,0), (13,3,73,0), (3,2,0,0), (19,12,0,7), (3,0,4,1), (21,0,0,0), (0,0,0,1), (13,5,71,0), (0,0,0,0), (28,3,0,0), (5,4,0,1), (14,0,60,0), (3,0,3,0), (4,0,4,1), (3,0,4,1), (3,0,1,0), (0,0,0,1), (6,1,0,0), (13,3,89,0), (3,2,0,0), (3,0,4,1), (27,297,2,758), (0,2,0,9999), (13,5,87,0), (0,0,0,0), (28,3,0,0), (5,4,0,2), (14,0,75,0), (0,0,0,1), (28,3,0,0)]
/-- FireDrillModel.on()Z -/
def ax_p299 : List Nat := [0, 1, 4, 5, 6, 7, 10, 11, 12, 15, 18, 19, 22, 23, 24, 25, 26, 27, 28, 29, 30, 31, 34, 35, 36, 37, 40, 41, 42, 43, 44, 45, 46, 47, 50, 53, 54, 57, 58, 59, 60, 61, 64, 65, 66, 67, 68, 69, 72, 75, 76, 77, 80, 81, 82, 83, 84, 85, 86, 89, 92, 93, 96, 98, 99, 100, 101, 104, 105, 106, 107, 108, 109, 112, 115, 116, 117, 120, 121, 122, 123, 124, 125, 126, 129, 132, 133, 134, 135, 137, 139, 140, 143, 146, 147, 150, 151, 153, 156, 157, 158, 161, 162, 165, 168, 171, 174, 177, 178, 179, 182, 183]
def ax_c299 : List ax_O := [(3,2,0,0), (19,12,1,294), (4,0,1,0), (3,2,0,0), (0,0,0,0), (20,12,1,294), (3,2,0,0), (3,0,1,0), (27,298,2,761), (12,1,20,0), (3,2,0,0), (19,12,9,17), (0,0,0,5), (17,0,0,0), (21,0,0,0), (0,0,0,1), (6,0,0,0), (22,0,0,0), (0,0,0,0), (28,3,0,0), (3,2,0,0), (19,12,54,142), (0,0,0,0), (3,2,0,0), (0,0,0,0), (27,297,2,758), (22,0,0,0), (0,0,0,2), (4,0,2,0), (0,0,0,0), (4,0,3,0), (3,0,3,0), (3,2,0,0), (27,185,1,450), (13,3,49,0), (3,2,0,0), (19,12,54,142), (0,0,0,1), (3,0,3,0), (6,0,0,0), (3,2,0,0), (19,12,0,7), (3,0,2,0), (3,0,3,0), (6,0,0,0), (21,0,0,0), (22,0,0,0), (5,3,0,1), (14,0,31,0), (3,0,2,0), (3,2,0,0), (27,185,1,450), (6,0,0,0), (4,0,2,0), (0,0,0,0), (4,0,3,0), (3,0,3,0), (3,2,0,0), (27,184,1,447), (13,3,74,0), (3,2,0,0), (19,12,54,142), (0,1,0,6), (3,0,3,0), (6,0,0,0), (3,2,0,0), (19,12,0,7), (3,0,2,0), (3,0,3,0), (6,0,0,0), (21,0,0,0), (22,0,0,0), (5,3,0,1), (14,0,56,0), (3,0,2,0), (3,2,0,0), (27,184,1,447), (6,0,0,0), (4,0,2,0), (0,0,0,0), (4,0,3,0), (3,0,3,0), (3,2,0,0), (27,186,1,453), (13,3,107,0), (3,0,3,0), (0,0,0,1), (6,0,0,0), (4,0,4,1), (3,0,4,1), (3,2,0,0), (27,186,1,453), (13,3,105,0), (3,2,0,0), (19,12,54,142), (3,0,3,0), (3,0,4,1), (27,193,2,456), (3,2,0,0), (3,0,2,0), (27,297,2,758), (22,0,0,0), (5,2,0,2), (5,4,0,1), (14,0,89,0), (5,3,0,1), (14,0,81,0), (3,2,0,0), (0,0,0,0), (20,12,82,441), (0,0,0,1), (28,3,0,0)]
/-- FireDrillModel.status(I)I -/
def ax_p300 : List Nat := [0, 1, 2, 3, 6, 9, 12, 13, 16, 17, 18, 21, 22]
def ax_c300 : List ax_O := [(3,0,1,0), (9,0,0,0), (1,0,0,0), (1,1,355,5), (27,153,3,337), (12,0,11,0), (3,2,0,0), (19,12,9,17), (3,0,1,0), (21,0,0,0), (14,0,12,0), (0,0,0,(-1)), (28,0,0,0)]
/-- java/lang/Integer.bitCount(I)I -/
def ax_p301 : List Nat := [0, 1, 2, 3, 4, 7, 8, 9, 10, 11, 14, 15, 16, 17, 18, 21, 22, 23, 24, 25, 26, 27, 28, 29, 32, 33, 34, 35, 36, 38, 39, 40, 41, 42, 43, 45, 46, 47, 48, 49, 51, 52]
def ax_c301 : List ax_O := [(3,0,0,0), (3,0,0,0), (0,0,0,1), (6,10,0,0), (0,4,265,1431655765), (6,5,0,0), (6,1,0,0), (4,0,0,0), (3,0,0,0), (0,4,266,858993459), (6,5,0,0), (3,0,0,0), (0,0,0,2), (6,10,0,0), (0,4,266,858993459), (6,5,0,0), (6,0,0,0), (4,0,0,0), (3,0,0,0), (3,0,0,0), (0,0,0,4), (6,10,0,0), (6,0,0,0), (0,4,267,252645135), (6,5,0,0), (4,0,0,0), (3,0,0,0), (3,0,0,0), (0,1,0,8), (6,10,0,0), (6,0,0,0), (4,0,0,0), (3,0,0,0), (3,0,0,0), (0,1,0,16), (6,10,0,0), (6,0,0,0), (4,0,0,0), (3,0,0,0), (0,1,0,63), (6,5,0,0), (28,0,0,0)]
/-- java/lang/Math.floorDiv(II)I -/
def ax_p302 : List Nat := [0, 1, 2, 3, 4, 5, 6, 7, 10, 11, 12, 13, 14, 17, 18, 19, 20, 21, 22]
def ax_c302 : List ax_O := [(3,0,0,0), (3,0,1,0), (6,3,0,0), (4,0,2,0), (3,0,0,0), (3,0,1,0), (6,7,0,0), (12,3,17,0), (3,0,2,0), (3,0,1,0), (6,2,0,0), (3,0,0,0), (13,0,17,0), (3,0,2,0), (0,0,0,1), (6,1,0,0), (28,0,0,0), (3,0,2,0), (28,0,0,0)]
/-- java/lang/Math.abs(I)I -/
def ax_p303 : List Nat := [0, 1, 4, 5, 6, 9, 10]
def ax_c303 : List ax_O := [(3,0,0,0), (12,3,5,0), (3,0,0,0), (8,0,0,0), (14,0,6,0), (3,0,0,0), (28,0,0,0)]
/-- java/lang/Math.max(II)I -/
def ax_p304 : List Nat := [0, 1, 2, 5, 6, 9, 10]
def ax_c304 : List ax_O := [(3,0,0,0), (3,0,1,0), (13,2,5,0), (3,0,0,0), (14,0,6,0), (3,0,1,0), (28,0,0,0)]
/-- java/lang/Math.max(JJ)J -/
def ax_p305 : List Nat := [0, 1, 2, 3, 6, 7, 10, 11]
def ax_c305 : List ax_O := [(3,1,0,0), (3,1,2,0), (11,0,0,0), (12,2,6,0), (3,1,0,0), (14,0,7,0), (3,1,2,0), (28,1,0,0)]
/-- java/lang/Math.min(II)I -/
def ax_p306 : List Nat := [0, 1, 2, 5, 6, 9, 10]
def ax_c306 : List ax_O := [(3,0,0,0), (3,0,1,0), (13,4,5,0), (3,0,0,0), (14,0,6,0), (3,0,1,0), (28,0,0,0)]
/-- java/lang/Math.min(JJ)J -/
def ax_p307 : List Nat := [0, 1, 2, 3, 6, 7, 10, 11]
def ax_c307 : List ax_O := [(3,1,0,0), (3,1,2,0), (11,0,0,0), (12,4,6,0), (3,1,0,0), (14,0,7,0), (3,1,2,0), (28,1,0,0)]
/-- java/lang/String.length()I -/
def ax_p308 : List Nat := [0, 1, 4, 5, 6, 9, 10]
def ax_c308 : List ax_O := [(3,2,0,0), (19,13,0,9), (23,0,0,0), (3,2,0,0), (27,310,1,335), (6,9,0,0), (28,0,0,0)]
/-- java/lang/String.charAt(I)C -/
def ax_p309 : List Nat := [0, 1, 4, 7, 8, 11, 12, 15, 16, 17, 20, 21, 24]
def ax_c309 : List ax_O := [(3,2,0,0), (27,311,1,492), (12,0,8,0), (3,2,0,0), (19,13,0,9), (3,0,1,0), (27,313,2,495), (28,4,0,0), (3,2,0,0), (19,13,0,9), (3,0,1,0), (99,0,0,0), (28,4,0,0)]
/-- java/lang/String.coder()B -/
def ax_p310 : List Nat := [0, 3, 6, 7, 10, 13, 14]
def ax_c310 : List ax_O := [(0,5,38,1), (12,0,5,0), (3,2,0,0), (19,13,1,15), (14,0,6,0), (0,0,0,1), (28,5,0,0)]
/-- java/lang/String.isLatin1()Z -/
def ax_p311 : List Nat := [0, 3, 6, 7, 10, 13, 14, 17, 18]
def ax_c311 : List ax_O := [(0,5,38,1), (12,0,7,0), (3,2,0,0), (19,13,1,15), (12,1,7,0), (0,0,0,1), (14,0,8,0), (0,0,0,0), (28,3,0,0)]
/-- java/lang/String.checkIndex(II)V -/
def ax_p312 : List Nat := [0, 1, 2, 5, 8, 9]
def ax_c312 : List ax_O := [(3,0,0,0), (3,0,1,0), (2,2,1053,(-4)), (27,314,3,1059), (18,0,0,0), (28,2,0,0)]
/-- java/lang/StringLatin1.charAt([BI)C -/
def ax_p313 : List Nat := [0, 1, 2, 3, 6, 7, 8, 9, 12, 13, 14]
def ax_c313 : List ax_O := [(3,0,1,0), (3,2,0,0), (23,0,0,0), (27,312,2,9), (3,2,0,0), (3,0,1,0), (21,3,0,0), (0,2,0,255), (6,5,0,0), (31,0,0,0), (28,4,0,0)]
/-- jdk/internal/util/Preconditions.checkIndex(IILjava/util/function/BiFunction;)I -/
def ax_p314 : List Nat := [0, 1, 4, 5, 6, 9, 10, 11, 12, 15, 16, 17]
def ax_c314 : List ax_O := [(3,0,0,0), (12,2,5,0), (3,0,0,0), (3,0,1,0), (13,2,10,0), (3,2,2,0), (3,0,0,0), (3,0,1,0), (99,0,0,0), (99,0,0,0), (3,0,0,0), (28,0,0,0)]
/-- FireDrillLaw.law([I)Z -/
def ax_p315 : List Nat := [0, 3, 4, 7, 8, 11, 12, 15, 16, 17, 18, 19, 20, 21, 23, 24, 27, 28, 29, 30, 32, 33, 200, 201, 202, 203, 204, 205, 206, 207, 208, 209, 210, 211, 212, 213, 214, 215, 216, 217, 218, 219, 220, 221, 222, 223, 224, 225, 226, 229, 230, 231, 232, 233, 234, 235, 236, 237, 238, 239, 240, 241, 242, 243, 244, 245, 246, 247, 248, 249, 250, 251, 252, 253, 254, 255, 258, 261, 262, 263, 264, 265, 266, 267, 268, 269, 272, 273, 274, 275, 276, 277, 278, 281, 284, 285, 286, 287, 290, 291, 294, 297, 298, 299, 300, 301, 302, 303, 304, 305, 308, 309, 310, 311, 312, 313, 314, 317, 320, 321, 322, 323, 324, 325, 326, 327, 328, 331, 332, 333, 334, 335, 336, 337, 340, 343, 344, 345, 346, 347, 348, 349, 350, 351, 352, 353, 354, 355, 356, 357, 358, 359, 360, 361, 364, 365, 366, 367, 368, 369, 370, 371, 372, 373, 374, 375, 376, 377, 378, 379, 380, 383, 386, 387, 388, 389, 390, 391, 392, 393, 394, 397, 398, 399, 400, 401, 402, 403, 406, 409, 410, 411, 412, 413, 414, 415, 416, 417, 418, 419, 420, 421, 422, 425, 426, 427, 428, 429, 430, 431, 432, 433, 434, 435, 436, 439, 442, 443, 444, 445, 446, 447, 448, 449, 450, 451, 452, 453, 454, 455, 458, 459, 460, 461, 462, 463, 464, 465, 466, 467, 468, 469, 472, 475, 476, 477, 478, 479, 480, 481, 482, 483, 484, 485, 486, 487, 488, 491, 492, 493, 494, 495, 496, 497, 498, 499, 500, 501, 502, 505, 508, 509, 510, 511, 512, 513, 514, 515, 516, 517, 518, 519, 520, 521, 524, 525, 526, 527, 528, 529, 530, 531, 532, 533, 534, 535, 538, 541, 542, 543, 544, 545, 546, 547, 548, 549, 552, 553, 554, 555, 556, 557, 558, 561, 564, 565, 566, 567, 568, 569, 570, 571, 572, 575, 576, 577, 578, 579, 580, 581, 584, 587, 588, 589, 590, 591, 592, 593, 594, 595, 596, 597, 598, 599, 600, 603, 604, 605, 606, 607, 608, 609, 610, 611, 612, 613, 614, 617, 620, 621, 622, 623, 624, 625, 626, 627, 628, 629, 630, 631, 632, 633, 636, 637, 638, 639, 640, 641, 642, 643, 644, 645, 646, 647, 650, 653, 654, 655, 656, 659, 660, 663, 666, 667, 668, 669, 672, 673, 676, 679, 680, 681, 682, 683, 684, 685, 686, 687, 690, 691, 692, 693, 694, 695, 696, 699, 702, 703, 704, 705, 708, 709, 712, 715, 716, 717, 718, 721, 722, 725, 728, 729, 730, 731, 732, 733, 734, 735, 736, 737, 738, 739, 740, 741, 744, 745, 746, 747, 748, 749, 750, 751, 752, 753, 754, 755, 758, 759, 762, 763, 764, 765, 768, 769, 772, 773, 776, 777, 778, 779, 780, 781, 782, 783, 784, 787, 788, 789, 790, 791, 792, 793, 796, 799, 800, 801, 802, 803, 804, 805, 806, 807, 810, 811, 812, 813, 814, 815, 816, 819, 822, 823, 824, 825, 828, 829, 832, 835, 836, 837, 838, 839, 840, 841, 842, 843, 846, 847, 848, 849, 850, 851, 852, 855, 858, 859, 860, 861, 862, 863, 864, 865, 866, 869, 870, 871, 872, 873, 874, 875, 878, 881, 882, 883, 884, 885, 886, 887, 888, 889, 890, 891, 892, 893, 894, 897, 898, 899, 900, 901, 902, 903, 904, 905, 906, 907, 908, 911, 914, 915, 916, 917, 918, 919, 920, 921, 922, 923, 924, 925, 926, 927, 930, 931, 932, 933, 934, 935, 936, 937, 938, 939, 940, 941, 944, 947, 948, 949, 950, 951, 952, 953, 954, 955, 958, 959, 960, 961, 962, 963, 964, 967, 970, 971, 972, 973, 974, 975, 976, 977, 978, 981, 982, 983, 984, 985, 986, 987, 990, 993, 994, 995, 996, 999, 1000, 1003, 1006, 1007, 1008, 1009, 1010, 1011, 1012, 1013, 1014, 1017, 1018, 1019, 1020, 1021, 1022, 1023, 1026, 1029, 1030, 1031, 1032, 1035, 1036, 1039, 1040, 1043, 1044, 1045, 1046, 1049, 1050, 1053, 1056, 1057, 1058, 1059, 1060, 1061, 1062, 1063, 1064, 1067, 1068, 1069, 1070, 1071, 1072, 1073, 1076, 1079, 1080, 1081, 1082, 1085, 1086, 1089, 1092, 1093, 1094, 1095, 1096, 1097, 1098, 1099, 1100, 1103, 1104, 1105, 1106, 1107, 1108, 1109, 1112, 1115, 1116, 1117, 1120, 1123, 1124]
def ax_c315 : List ax_O := [(25,11,0,7), (16,0,0,0), (27,99,1,9), (4,2,1,0), (25,12,0,10), (16,0,0,0), (27,152,1,12), (4,2,2,0), (0,0,0,0), (4,0,3,0), (3,0,3,0), (3,2,0,0), (23,0,0,0), (0,1,0,6), (6,1,0,0), (13,4,713,0), (3,2,0,0), (3,0,3,0), (21,0,0,0), (0,1,0,63), (6,5,0,0), (15,11,0,0), (3,2,1,0), (3,2,0,0), (3,0,3,0), (0,0,0,1), (6,0,0,0), (21,0,0,0), (3,2,0,0), (3,0,3,0), (0,0,0,2), (6,0,0,0), (21,0,0,0), (3,2,0,0), (3,0,3,0), (0,0,0,3), (6,0,0,0), (21,0,0,0), (3,2,0,0), (3,0,3,0), (0,0,0,4), (6,0,0,0), (21,0,0,0), (3,2,0,0), (3,0,3,0), (0,0,0,5), (6,0,0,0), (21,0,0,0), (27,100,6,13), (3,2,2,0), (3,2,0,0), (3,0,3,0), (0,0,0,1), (6,0,0,0), (21,0,0,0), (3,2,0,0), (3,0,3,0), (0,0,0,2), (6,0,0,0), (21,0,0,0), (3,2,0,0), (3,0,3,0), (0,0,0,3), (6,0,0,0), (21,0,0,0), (3,2,0,0), (3,0,3,0), (0,0,0,4), (6,0,0,0), (21,0,0,0), (3,2,0,0), (3,0,3,0), (0,0,0,5), (6,0,0,0), (21,0,0,0), (27,154,6,17), (13,0,711,0), (0,0,0,0), (28,3,0,0), (3,2,1,0), (3,2,0,0), (3,0,3,0), (0,0,0,1), (6,0,0,0), (21,0,0,0), (27,101,2,18), (3,2,2,0), (3,2,0,0), (3,0,3,0), (0,0,0,1), (6,0,0,0), (21,0,0,0), (27,155,2,22), (13,0,711,0), (0,0,0,0), (28,3,0,0), (3,2,1,0), (27,102,1,23), (3,2,2,0), (27,180,1,27), (13,0,711,0), (0,0,0,0), (28,3,0,0), (3,2,1,0), (3,2,0,0), (3,0,3,0), (0,0,0,1), (6,0,0,0), (21,0,0,0), (27,103,2,28), (3,2,2,0), (3,2,0,0), (3,0,3,0), (0,0,0,1), (6,0,0,0), (21,0,0,0), (27,182,2,32), (13,0,711,0), (0,0,0,0), (28,3,0,0), (3,2,1,0), (3,2,0,0), (3,0,3,0), (0,0,0,1), (6,0,0,0), (21,0,0,0), (27,104,2,33), (3,2,2,0), (3,2,0,0), (3,0,3,0), (0,0,0,1), (6,0,0,0), (21,0,0,0), (27,217,2,36), (13,0,711,0), (0,0,0,0), (28,3,0,0), (3,2,1,0), (3,2,0,0), (3,0,3,0), (0,0,0,1), (6,0,0,0), (21,0,0,0), (3,2,0,0), (3,0,3,0), (0,0,0,2), (6,0,0,0), (21,0,0,0), (3,2,0,0), (3,0,3,0), (0,0,0,3), (6,0,0,0), (21,0,0,0), (27,105,4,37), (3,2,2,0), (3,2,0,0), (3,0,3,0), (0,0,0,1), (6,0,0,0), (21,0,0,0), (3,2,0,0), (3,0,3,0), (0,0,0,2), (6,0,0,0), (21,0,0,0), (3,2,0,0), (3,0,3,0), (0,0,0,3), (6,0,0,0), (21,0,0,0), (27,218,4,41), (13,0,711,0), (0,0,0,0), (28,3,0,0), (3,2,1,0), (3,2,0,0), (3,0,3,0), (0,0,0,1), (6,0,0,0), (21,0,0,0), (27,106,2,42), (3,2,2,0), (3,2,0,0), (3,0,3,0), (0,0,0,1), (6,0,0,0), (21,0,0,0), (27,219,2,45), (13,0,711,0), (0,0,0,0), (28,3,0,0), (3,2,1,0), (3,2,0,0), (3,0,3,0), (0,0,0,1), (6,0,0,0), (21,0,0,0), (3,2,0,0), (3,0,3,0), (0,0,0,2), (6,0,0,0), (21,0,0,0), (27,107,3,46), (3,2,2,0), (3,2,0,0), (3,0,3,0), (0,0,0,1), (6,0,0,0), (21,0,0,0), (3,2,0,0), (3,0,3,0), (0,0,0,2), (6,0,0,0), (21,0,0,0), (27,220,3,50), (13,0,711,0), (0,0,0,0), (28,3,0,0), (3,2,1,0), (3,2,0,0), (3,0,3,0), (0,0,0,1), (6,0,0,0), (21,0,0,0), (3,2,0,0), (3,0,3,0), (0,0,0,2), (6,0,0,0), (21,0,0,0), (27,108,3,51), (3,2,2,0), (3,2,0,0), (3,0,3,0), (0,0,0,1), (6,0,0,0), (21,0,0,0), (3,2,0,0), (3,0,3,0), (0,0,0,2), (6,0,0,0), (21,0,0,0), (27,221,3,54), (13,0,711,0), (0,0,0,0), (28,3,0,0), (3,2,1,0), (3,2,0,0), (3,0,3,0), (0,0,0,1), (6,0,0,0), (21,0,0,0), (3,2,0,0), (3,0,3,0), (0,0,0,2), (6,0,0,0), (21,0,0,0), (27,109,3,55), (3,2,2,0), (3,2,0,0), (3,0,3,0), (0,0,0,1), (6,0,0,0), (21,0,0,0), (3,2,0,0), (3,0,3,0), (0,0,0,2), (6,0,0,0), (21,0,0,0), (27,222,3,58), (13,0,711,0), (0,0,0,0), (28,3,0,0), (3,2,1,0), (3,2,0,0), (3,0,3,0), (0,0,0,1), (6,0,0,0), (21,0,0,0), (3,2,0,0), (3,0,3,0), (0,0,0,2), (6,0,0,0), (21,0,0,0), (27,110,3,59), (3,2,2,0), (3,2,0,0), (3,0,3,0), (0,0,0,1), (6,0,0,0), (21,0,0,0), (3,2,0,0), (3,0,3,0), (0,0,0,2), (6,0,0,0), (21,0,0,0), (27,224,3,62), (13,0,711,0), (0,0,0,0), (28,3,0,0), (3,2,1,0), (3,2,0,0), (3,0,3,0), (0,0,0,1), (6,0,0,0), (21,0,0,0), (27,111,2,63), (3,2,2,0), (3,2,0,0), (3,0,3,0), (0,0,0,1), (6,0,0,0), (21,0,0,0), (27,225,2,66), (13,0,711,0), (0,0,0,0), (28,3,0,0), (3,2,1,0), (3,2,0,0), (3,0,3,0), (0,0,0,1), (6,0,0,0), (21,0,0,0), (27,112,2,67), (3,2,2,0), (3,2,0,0), (3,0,3,0), (0,0,0,1), (6,0,0,0), (21,0,0,0), (27,226,2,70), (13,0,711,0), (0,0,0,0), (28,3,0,0), (3,2,1,0), (3,2,0,0), (3,0,3,0), (0,0,0,1), (6,0,0,0), (21,0,0,0), (3,2,0,0), (3,0,3,0), (0,0,0,2), (6,0,0,0), (21,0,0,0), (27,113,3,71), (3,2,2,0), (3,2,0,0), (3,0,3,0), (0,0,0,1), (6,0,0,0), (21,0,0,0), (3,2,0,0), (3,0,3,0), (0,0,0,2), (6,0,0,0), (21,0,0,0), (27,227,3,74), (13,0,711,0), (0,0,0,0), (28,3,0,0), (3,2,1,0), (3,2,0,0), (3,0,3,0), (0,0,0,1), (6,0,0,0), (21,0,0,0), (3,2,0,0), (3,0,3,0), (0,0,0,2), (6,0,0,0), (21,0,0,0), (27,114,3,75), (3,2,2,0), (3,2,0,0), (3,0,3,0), (0,0,0,1), (6,0,0,0), (21,0,0,0), (3,2,0,0), (3,0,3,0), (0,0,0,2), (6,0,0,0), (21,0,0,0), (27,228,3,78), (13,0,711,0), (0,0,0,0), (28,3,0,0), (3,2,1,0), (27,115,1,79), (3,2,2,0), (27,229,1,82), (13,0,711,0), (0,0,0,0), (28,3,0,0), (3,2,1,0), (27,116,1,83), (3,2,2,0), (27,230,1,86), (13,0,711,0), (0,0,0,0), (28,3,0,0), (3,2,1,0), (3,2,0,0), (3,0,3,0), (0,0,0,1), (6,0,0,0), (21,0,0,0), (27,117,2,87), (3,2,2,0), (3,2,0,0), (3,0,3,0), (0,0,0,1), (6,0,0,0), (21,0,0,0), (27,232,2,90), (13,0,711,0), (0,0,0,0), (28,3,0,0), (3,2,1,0), (27,118,1,91), (3,2,2,0), (27,233,1,94), (13,0,711,0), (0,0,0,0), (28,3,0,0), (3,2,1,0), (27,119,1,95), (3,2,2,0), (27,236,1,98), (13,0,711,0), (0,0,0,0), (28,3,0,0), (3,2,1,0), (3,2,0,0), (3,0,3,0), (0,0,0,1), (6,0,0,0), (21,0,0,0), (3,2,0,0), (3,0,3,0), (0,0,0,2), (6,0,0,0), (21,0,0,0), (27,120,3,99), (3,2,2,0), (3,2,0,0), (3,0,3,0), (0,0,0,1), (6,0,0,0), (21,0,0,0), (3,2,0,0), (3,0,3,0), (0,0,0,2), (6,0,0,0), (21,0,0,0), (27,239,3,103), (11,0,0,0), (12,0,711,0), (0,0,0,0), (28,3,0,0), (3,2,1,0), (27,121,1,104), (3,2,2,0), (27,244,1,108), (11,0,0,0), (12,0,711,0), (0,0,0,0), (28,3,0,0), (3,2,1,0), (3,2,0,0), (3,0,3,0), (0,0,0,1), (6,0,0,0), (21,0,0,0), (27,122,2,109), (3,2,2,0), (3,2,0,0), (3,0,3,0), (0,0,0,1), (6,0,0,0), (21,0,0,0), (27,245,2,112), (13,0,711,0), (0,0,0,0), (28,3,0,0), (3,2,1,0), (3,2,0,0), (3,0,3,0), (0,0,0,1), (6,0,0,0), (21,0,0,0), (27,123,2,113), (3,2,2,0), (3,2,0,0), (3,0,3,0), (0,0,0,1), (6,0,0,0), (21,0,0,0), (27,246,2,116), (13,0,711,0), (0,0,0,0), (28,3,0,0), (3,2,1,0), (27,124,1,117), (3,2,2,0), (27,248,1,120), (13,0,711,0), (0,0,0,0), (28,3,0,0), (3,2,1,0), (3,2,0,0), (3,0,3,0), (0,0,0,1), (6,0,0,0), (21,0,0,0), (27,125,2,121), (3,2,2,0), (3,2,0,0), (3,0,3,0), (0,0,0,1), (6,0,0,0), (21,0,0,0), (27,251,2,124), (13,0,711,0), (0,0,0,0), (28,3,0,0), (3,2,1,0), (3,2,0,0), (3,0,3,0), (0,0,0,1), (6,0,0,0), (21,0,0,0), (27,126,2,125), (3,2,2,0), (3,2,0,0), (3,0,3,0), (0,0,0,1), (6,0,0,0), (21,0,0,0), (27,253,2,128), (13,0,711,0), (0,0,0,0), (28,3,0,0), (3,2,1,0), (3,2,0,0), (3,0,3,0), (0,0,0,1), (6,0,0,0), (21,0,0,0), (3,2,0,0), (3,0,3,0), (0,0,0,2), (6,0,0,0), (21,0,0,0), (27,127,3,129), (3,2,2,0), (3,2,0,0), (3,0,3,0), (0,0,0,1), (6,0,0,0), (21,0,0,0), (3,2,0,0), (3,0,3,0), (0,0,0,2), (6,0,0,0), (21,0,0,0), (27,257,3,133), (13,0,711,0), (0,0,0,0), (28,3,0,0), (3,2,1,0), (3,2,0,0), (3,0,3,0), (0,0,0,1), (6,0,0,0), (21,0,0,0), (3,2,0,0), (3,0,3,0), (0,0,0,2), (6,0,0,0), (21,0,0,0), (27,128,3,134), (3,2,2,0), (3,2,0,0), (3,0,3,0), (0,0,0,1), (6,0,0,0), (21,0,0,0), (3,2,0,0), (3,0,3,0), (0,0,0,2), (6,0,0,0), (21,0,0,0), (27,258,3,137), (13,0,711,0), (0,0,0,0), (28,3,0,0), (3,2,1,0), (3,2,0,0), (3,0,3,0), (0,0,0,1), (6,0,0,0), (21,0,0,0), (27,129,2,138), (3,2,2,0), (3,2,0,0), (3,0,3,0), (0,0,0,1), (6,0,0,0), (21,0,0,0), (27,259,2,141), (13,0,711,0), (0,0,0,0), (28,3,0,0), (3,2,1,0), (3,2,0,0), (3,0,3,0), (0,0,0,1), (6,0,0,0), (21,0,0,0), (27,130,2,142), (3,2,2,0), (3,2,0,0), (3,0,3,0), (0,0,0,1), (6,0,0,0), (21,0,0,0), (27,262,2,145), (13,0,711,0), (0,0,0,0), (28,3,0,0), (3,2,1,0), (27,131,1,146), (3,2,2,0), (27,255,1,150), (13,0,711,0), (0,0,0,0), (28,3,0,0), (3,2,1,0), (3,2,0,0), (3,0,3,0), (0,0,0,1), (6,0,0,0), (21,0,0,0), (27,132,2,151), (3,2,2,0), (3,2,0,0), (3,0,3,0), (0,0,0,1), (6,0,0,0), (21,0,0,0), (27,260,2,154), (13,0,711,0), (0,0,0,0), (28,3,0,0), (3,2,1,0), (27,133,1,155), (3,2,2,0), (27,291,1,158), (11,0,0,0), (12,0,711,0), (0,0,0,0), (28,3,0,0), (3,2,1,0), (27,134,1,159), (3,2,2,0), (27,295,1,162), (13,0,711,0), (0,0,0,0), (28,3,0,0), (3,2,1,0), (3,2,0,0), (3,0,3,0), (0,0,0,1), (6,0,0,0), (21,0,0,0), (27,135,2,163), (3,2,2,0), (3,2,0,0), (3,0,3,0), (0,0,0,1), (6,0,0,0), (21,0,0,0), (27,296,2,166), (13,0,711,0), (0,0,0,0), (28,3,0,0), (3,2,1,0), (27,136,1,167), (3,2,2,0), (27,299,1,170), (13,0,711,0), (0,0,0,0), (28,3,0,0), (3,2,1,0), (3,2,0,0), (3,0,3,0), (0,0,0,1), (6,0,0,0), (21,0,0,0), (27,137,2,171), (3,2,2,0), (3,2,0,0), (3,0,3,0), (0,0,0,1), (6,0,0,0), (21,0,0,0), (27,300,2,174), (13,0,711,0), (0,0,0,0), (28,3,0,0), (5,3,0,6), (14,0,10,0), (0,0,0,1), (28,3,0,0)]
def ax_pcs : List (List Nat) := [ax_p0, ax_p1, ax_p2, ax_p3, ax_p4, ax_p5, ax_p6, ax_p7, ax_p8, ax_p9, ax_p10, ax_p11, ax_p12, ax_p13, ax_p14, ax_p15, ax_p16, ax_p17, ax_p18, ax_p19, ax_p20, ax_p21, ax_p22, ax_p23, ax_p24, ax_p25, ax_p26, ax_p27, ax_p28, ax_p29, ax_p30, ax_p31, ax_p32, ax_p33, ax_p34, ax_p35, ax_p36, ax_p37, ax_p38, ax_p39, ax_p40, ax_p41, ax_p42, ax_p43, ax_p44, ax_p45, ax_p46, ax_p47, ax_p48, ax_p49, ax_p50, ax_p51, ax_p52, ax_p53, ax_p54, ax_p55, ax_p56, ax_p57, ax_p58, ax_p59, ax_p60, ax_p61, ax_p62, ax_p63, ax_p64, ax_p65, ax_p66, ax_p67, ax_p68, ax_p69, ax_p70, ax_p71, ax_p72, ax_p73, ax_p74, ax_p75, ax_p76, ax_p77, ax_p78, ax_p79, ax_p80, ax_p81, ax_p82, ax_p83, ax_p84, ax_p85, ax_p86, ax_p87, ax_p88, ax_p89, ax_p90, ax_p91, ax_p92, ax_p93, ax_p94, ax_p95, ax_p96, ax_p97, ax_p98, ax_p99, ax_p100, ax_p101, ax_p102, ax_p103, ax_p104, ax_p105, ax_p106, ax_p107, ax_p108, ax_p109, ax_p110, ax_p111, ax_p112, ax_p113, ax_p114, ax_p115, ax_p116, ax_p117, ax_p118, ax_p119, ax_p120, ax_p121, ax_p122, ax_p123, ax_p124, ax_p125, ax_p126, ax_p127, ax_p128, ax_p129, ax_p130, ax_p131, ax_p132, ax_p133, ax_p134, ax_p135, ax_p136, ax_p137, ax_p138, ax_p139, ax_p140, ax_p141, ax_p142, ax_p143, ax_p144, ax_p145, ax_p146, ax_p147, ax_p148, ax_p149, ax_p150, ax_p151, ax_p152, ax_p153, ax_p154, ax_p155, ax_p156, ax_p157, ax_p158, ax_p159, ax_p160, ax_p161, ax_p162, ax_p163, ax_p164, ax_p165, ax_p166, ax_p167, ax_p168, ax_p169, ax_p170, ax_p171, ax_p172, ax_p173, ax_p174, ax_p175, ax_p176, ax_p177, ax_p178, ax_p179, ax_p180, ax_p181, ax_p182, ax_p183, ax_p184, ax_p185, ax_p186, ax_p187, ax_p188, ax_p189, ax_p190, ax_p191, ax_p192, ax_p193, ax_p194, ax_p195, ax_p196, ax_p197, ax_p198, ax_p199, ax_p200, ax_p201, ax_p202, ax_p203, ax_p204, ax_p205, ax_p206, ax_p207, ax_p208, ax_p209, ax_p210, ax_p211, ax_p212, ax_p213, ax_p214, ax_p215, ax_p216, ax_p217, ax_p218, ax_p219, ax_p220, ax_p221, ax_p222, ax_p223, ax_p224, ax_p225, ax_p226, ax_p227, ax_p228, ax_p229, ax_p230, ax_p231, ax_p232, ax_p233, ax_p234, ax_p235, ax_p236, ax_p237, ax_p238, ax_p239, ax_p240, ax_p241, ax_p242, ax_p243, ax_p244, ax_p245, ax_p246, ax_p247, ax_p248, ax_p249, ax_p250, ax_p251, ax_p252, ax_p253, ax_p254, ax_p255, ax_p256, ax_p257, ax_p258, ax_p259, ax_p260, ax_p261, ax_p262, ax_p263, ax_p264, ax_p265, ax_p266, ax_p267, ax_p268, ax_p269, ax_p270, ax_p271, ax_p272, ax_p273, ax_p274, ax_p275, ax_p276, ax_p277, ax_p278, ax_p279, ax_p280, ax_p281, ax_p282, ax_p283, ax_p284, ax_p285, ax_p286, ax_p287, ax_p288, ax_p289, ax_p290, ax_p291, ax_p292, ax_p293, ax_p294, ax_p295, ax_p296, ax_p297, ax_p298, ax_p299, ax_p300, ax_p301, ax_p302, ax_p303, ax_p304, ax_p305, ax_p306, ax_p307, ax_p308, ax_p309, ax_p310, ax_p311, ax_p312, ax_p313, ax_p314, ax_p315]
def ax_code : List (List ax_O) := [ax_c0, ax_c1, ax_c2, ax_c3, ax_c4, ax_c5, ax_c6, ax_c7, ax_c8, ax_c9, ax_c10, ax_c11, ax_c12, ax_c13, ax_c14, ax_c15, ax_c16, ax_c17, ax_c18, ax_c19, ax_c20, ax_c21, ax_c22, ax_c23, ax_c24, ax_c25, ax_c26, ax_c27, ax_c28, ax_c29, ax_c30, ax_c31, ax_c32, ax_c33, ax_c34, ax_c35, ax_c36, ax_c37, ax_c38, ax_c39, ax_c40, ax_c41, ax_c42, ax_c43, ax_c44, ax_c45, ax_c46, ax_c47, ax_c48, ax_c49, ax_c50, ax_c51, ax_c52, ax_c53, ax_c54, ax_c55, ax_c56, ax_c57, ax_c58, ax_c59, ax_c60, ax_c61, ax_c62, ax_c63, ax_c64, ax_c65, ax_c66, ax_c67, ax_c68, ax_c69, ax_c70, ax_c71, ax_c72, ax_c73, ax_c74, ax_c75, ax_c76, ax_c77, ax_c78, ax_c79, ax_c80, ax_c81, ax_c82, ax_c83, ax_c84, ax_c85, ax_c86, ax_c87, ax_c88, ax_c89, ax_c90, ax_c91, ax_c92, ax_c93, ax_c94, ax_c95, ax_c96, ax_c97, ax_c98, ax_c99, ax_c100, ax_c101, ax_c102, ax_c103, ax_c104, ax_c105, ax_c106, ax_c107, ax_c108, ax_c109, ax_c110, ax_c111, ax_c112, ax_c113, ax_c114, ax_c115, ax_c116, ax_c117, ax_c118, ax_c119, ax_c120, ax_c121, ax_c122, ax_c123, ax_c124, ax_c125, ax_c126, ax_c127, ax_c128, ax_c129, ax_c130, ax_c131, ax_c132, ax_c133, ax_c134, ax_c135, ax_c136, ax_c137, ax_c138, ax_c139, ax_c140, ax_c141, ax_c142, ax_c143, ax_c144, ax_c145, ax_c146, ax_c147, ax_c148, ax_c149, ax_c150, ax_c151, ax_c152, ax_c153, ax_c154, ax_c155, ax_c156, ax_c157, ax_c158, ax_c159, ax_c160, ax_c161, ax_c162, ax_c163, ax_c164, ax_c165, ax_c166, ax_c167, ax_c168, ax_c169, ax_c170, ax_c171, ax_c172, ax_c173, ax_c174, ax_c175, ax_c176, ax_c177, ax_c178, ax_c179, ax_c180, ax_c181, ax_c182, ax_c183, ax_c184, ax_c185, ax_c186, ax_c187, ax_c188, ax_c189, ax_c190, ax_c191, ax_c192, ax_c193, ax_c194, ax_c195, ax_c196, ax_c197, ax_c198, ax_c199, ax_c200, ax_c201, ax_c202, ax_c203, ax_c204, ax_c205, ax_c206, ax_c207, ax_c208, ax_c209, ax_c210, ax_c211, ax_c212, ax_c213, ax_c214, ax_c215, ax_c216, ax_c217, ax_c218, ax_c219, ax_c220, ax_c221, ax_c222, ax_c223, ax_c224, ax_c225, ax_c226, ax_c227, ax_c228, ax_c229, ax_c230, ax_c231, ax_c232, ax_c233, ax_c234, ax_c235, ax_c236, ax_c237, ax_c238, ax_c239, ax_c240, ax_c241, ax_c242, ax_c243, ax_c244, ax_c245, ax_c246, ax_c247, ax_c248, ax_c249, ax_c250, ax_c251, ax_c252, ax_c253, ax_c254, ax_c255, ax_c256, ax_c257, ax_c258, ax_c259, ax_c260, ax_c261, ax_c262, ax_c263, ax_c264, ax_c265, ax_c266, ax_c267, ax_c268, ax_c269, ax_c270, ax_c271, ax_c272, ax_c273, ax_c274, ax_c275, ax_c276, ax_c277, ax_c278, ax_c279, ax_c280, ax_c281, ax_c282, ax_c283, ax_c284, ax_c285, ax_c286, ax_c287, ax_c288, ax_c289, ax_c290, ax_c291, ax_c292, ax_c293, ax_c294, ax_c295, ax_c296, ax_c297, ax_c298, ax_c299, ax_c300, ax_c301, ax_c302, ax_c303, ax_c304, ax_c305, ax_c306, ax_c307, ax_c308, ax_c309, ax_c310, ax_c311, ax_c312, ax_c313, ax_c314, ax_c315]
end
section
def ax_at (j i : Nat) : Option ax_O := (ax_code.getD j [])[i]?
def ax_inf (j : Nat) : ax_I := ax_T.getD j (0, ⟨"", "", ""⟩, ⟨#[]⟩, 0, none, 0, 0, 0)
def ax_ml (j : Nat) : Nat := (ax_inf j).2.2.2.1
def ax_kd (j : Nat) : Nat := (ax_inf j).2.2.2.2.2.2.1
def ax_own (j : Nat) : Nat := (ax_inf j).1
def ax_fty (c k : Nat) : Nat := (ax_fk.getD c []).getD k 0
/-- a constant text by its reference: -10, -12, ..; its bytes one lower -/
def ax_sx (a : Int) : Nat := ((-10 - a) / 2).toNat
def ax_isS (a : Int) : Bool := decide (a ≤ -10 ∧ a % 2 = 0 ∧ ax_sx a < 21)
def ax_isB (a : Int) : Bool := decide (a ≤ -11 ∧ a % 2 = 1 ∧ ax_sx (a + 1) < 21)
def ax_by (a : Int) : List Int := (ax_tx.getD (ax_sx (a + 1)) ("", [])).2
/-- an element, read -/
def ax_ald (L : Nat) (X : Nat → Int) (sh : List ax_H) (M : ax_M) (et : Nat) (a i : Int) : Option ax_V :=
  if 0 ≤ a then match sh[a.toNat]? with
    | some (1, t, n) => if (t = et ∨ (et = 4 ∧ t = 5)) ∧ 0 ≤ i ∧ i < n then some (ax_et et, M a.toNat i.toNat) else none
    | _ => none
  else if a = -2 then (if et = 0 ∧ 0 ≤ i ∧ i < L ∧ L ≤ 3072 then some (0, X i.toNat) else none)
  else if a = -3 then (if et = 0 ∧ 0 ≤ i ∧ i < 9 then some (0, ax_mo.getD i.toNat 0) else none)
  else if ax_isB a = true then (if et = 3 ∧ 0 ≤ i ∧ i < (ax_by a).length then some (0, (ax_by a).getD i.toNat 0) else none)
  else none
def ax_aln (L : Nat) (sh : List ax_H) (a : Int) : Option Int :=
  if 0 ≤ a then match sh[a.toNat]? with
    | some (1, _, n) => some n
    | _ => none
  else if a = -2 then (if L ≤ 3072 then some (L : Int) else none)
  else if ax_isB a = true then some (ax_by a).length
  else none
def ax_get (sh : List ax_H) (M : ax_M) (c k : Nat) (a : Int) : Option ax_V :=
  if 0 ≤ a then match sh[a.toNat]? with
    | some (0, c', n) => if c' = c ∧ k < n then some (ax_ft (ax_fty c k), M a.toNat k) else none
    | _ => none
  else if c = 13 ∧ ax_isS a = true then (if k = 0 then some (2, a - 1) else if k = 1 then some (0, 0) else none)
  else none
def ax_fl (c : Nat) : Nat := (ax_fk.getD c []).length
/-- a new object's fields -/
def ax_df (c k : Nat) : Int := if ax_fty c k = 2 then -1 else 0
def ax_nw (M : ax_M) (o : Nat) (f : Nat → Int) : ax_M := fun b j => if b = o then f j else M b j
/-- rows behind an array of arrays -/
def ax_nr (M : ax_M) (o n : Nat) : ax_M := fun b j => if b = o then (if j < n then ((o + 1 + j : Nat) : Int) else -1) else if o < b then 0 else M b j
def ax_cpy (M : ax_M) (a sp b dp n : Nat) : ax_M := fun c k => if c = b ∧ dp ≤ k ∧ k < dp + n then M a (sp + (k - dp)) else M c k
/-! one instruction that is neither a call nor a return, kind by kind -/
def ax_x3 (t k i : Nat) (ll st : List ax_V) (sh : List ax_H) (M : ax_M) : Option ax_S := match ll[k]? with
  | some v => if v.1 = t then some (i + 1, ll, v :: st, sh, M) else none
  | none => none
def ax_x4 (t k i : Nat) (ll st : List ax_V) (sh : List ax_H) (M : ax_M) : Option ax_S := match st with
  | v :: st0 => if v.1 = t ∧ k + (if v.1 = 1 then 1 else 0) < ll.length then some (i + 1, ax_set ll k v, st0, sh, M) else none
  | [] => none
def ax_x5 (k : Nat) (c : Int) (i : Nat) (ll st : List ax_V) (sh : List ax_H) (M : ax_M) : Option ax_S := match ll[k]? with
  | some (0, x) => if ax_i (x + c) then some (i + 1, ax_set ll k (0, x + c), st, sh, M) else none
  | _ => none
def ax_x6 (f i : Nat) (ll st : List ax_V) (sh : List ax_H) (M : ax_M) : Option ax_S := match st with
  | (0, y) :: (0, x) :: st0 => (match ax_ib f x y with
    | some z => some (i + 1, ll, (0, z) :: st0, sh, M)
    | none => none)
  | _ => none
def ax_x7 (f i : Nat) (ll st : List ax_V) (sh : List ax_H) (M : ax_M) : Option ax_S := match st with
  | (1, y) :: (1, x) :: st0 => (match ax_lb f x y with
    | some z => some (i + 1, ll, (1, z) :: st0, sh, M)
    | none => none)
  | _ => none
def ax_x8 (i : Nat) (ll st : List ax_V) (sh : List ax_H) (M : ax_M) : Option ax_S := match st with
  | (0, x) :: st0 => if ax_i (-x) then some (i + 1, ll, (0, -x) :: st0, sh, M) else none
  | _ => none
def ax_x9 (i : Nat) (ll st : List ax_V) (sh : List ax_H) (M : ax_M) : Option ax_S := match st with
  | (0, x) :: st0 => some (i + 1, ll, (1, x) :: st0, sh, M)
  | _ => none
def ax_x10 (i : Nat) (ll st : List ax_V) (sh : List ax_H) (M : ax_M) : Option ax_S := match st with
  | (1, x) :: st0 => if ax_i x then some (i + 1, ll, (0, x) :: st0, sh, M) else none
  | _ => none
def ax_x11 (i : Nat) (ll st : List ax_V) (sh : List ax_H) (M : ax_M) : Option ax_S := match st with
  | (1, y) :: (1, x) :: st0 => some (i + 1, ll, (0, ax_cmp x y) :: st0, sh, M)
  | _ => none
def ax_x12 (c tg i : Nat) (ll st : List ax_V) (sh : List ax_H) (M : ax_M) : Option ax_S := match st with
  | (0, x) :: st0 => some (if ax_cd c x 0 = true then tg else i + 1, ll, st0, sh, M)
  | _ => none
def ax_x13 (c tg i : Nat) (ll st : List ax_V) (sh : List ax_H) (M : ax_M) : Option ax_S := match st with
  | (0, y) :: (0, x) :: st0 => some (if ax_cd c x y = true then tg else i + 1, ll, st0, sh, M)
  | _ => none
def ax_x15 (w : Nat) (ll st : List ax_V) (sh : List ax_H) (M : ax_M) : Option ax_S := match st with
  | (0, x) :: st0 => (match ax_sw[w]? with
    | some w => some (if w.2.1 ≤ x ∧ x ≤ w.2.2.1 then w.2.2.2.1.getD (x - w.2.1).toNat 0 else w.2.2.2.2.1, ll, st0, sh, M)
    | none => none)
  | _ => none
def ax_x16 (i : Nat) (ll st : List ax_V) (sh : List ax_H) (M : ax_M) : Option ax_S := match st with
  | v :: st0 => if v.1 = 0 ∨ v.1 = 2 then some (i + 1, ll, v :: v :: st0, sh, M) else none
  | [] => none
def ax_x17 (i : Nat) (ll st : List ax_V) (sh : List ax_H) (M : ax_M) : Option ax_S := match st with
  | v :: w :: st0 => if (v.1 = 0 ∨ v.1 = 2) ∧ (w.1 = 0 ∨ w.1 = 2) then some (i + 1, ll, v :: w :: v :: w :: st0, sh, M) else none
  | _ => none
def ax_x18 (i : Nat) (ll st : List ax_V) (sh : List ax_H) (M : ax_M) : Option ax_S := match st with
  | v :: st0 => if v.1 = 0 ∨ v.1 = 2 then some (i + 1, ll, st0, sh, M) else none
  | [] => none
def ax_x19 (c k i : Nat) (ll st : List ax_V) (sh : List ax_H) (M : ax_M) : Option ax_S := match st with
  | (2, a) :: st0 => (match ax_get sh M c k a with
    | some v => some (i + 1, ll, v :: st0, sh, M)
    | none => none)
  | _ => none
def ax_x20 (c k i : Nat) (ll st : List ax_V) (sh : List ax_H) (M : ax_M) : Option ax_S := match st with
  | v :: (2, a) :: st0 => if 0 ≤ a ∧ sh[a.toNat]? = some (0, c, ax_fl c) ∧ k < ax_fl c ∧ ax_fs (ax_fty c k) v = true then some (i + 1, ll, st0, sh, ax_up M a.toNat k v.2) else none
  | _ => none
def ax_x21 (L : Nat) (X : Nat → Int) (t i : Nat) (ll st : List ax_V) (sh : List ax_H) (M : ax_M) : Option ax_S := match st with
  | (0, k) :: (2, a) :: st0 => (match ax_ald L X sh M t a k with
    | some v => some (i + 1, ll, v :: st0, sh, M)
    | none => none)
  | _ => none
def ax_x22 (t i : Nat) (ll st : List ax_V) (sh : List ax_H) (M : ax_M) : Option ax_S := match st with
  | v :: (0, k) :: (2, a) :: st0 => (match sh[a.toNat]? with
    | some (1, u, n) => if 0 ≤ a ∧ u = t ∧ ax_es t v = true ∧ 0 ≤ k ∧ k < n then some (i + 1, ll, st0, sh, ax_up M a.toNat k.toNat v.2) else none
    | _ => none)
  | _ => none
def ax_x23 (L i : Nat) (ll st : List ax_V) (sh : List ax_H) (M : ax_M) : Option ax_S := match st with
  | (2, a) :: st0 => (match ax_aln L sh a with
    | some n => some (i + 1, ll, (0, n) :: st0, sh, M)
    | none => none)
  | _ => none
def ax_x24 (t i : Nat) (ll st : List ax_V) (sh : List ax_H) (M : ax_M) : Option ax_S := match st with
  | (0, n) :: st0 => if 0 ≤ n ∧ n ≤ 10000 then some (i + 1, ll, (2, sh.length) :: st0, sh ++ [(1, t, n.toNat)], ax_nw M sh.length (fun _ => 0)) else none
  | _ => none
def ax_x26 (t i : Nat) (ll st : List ax_V) (sh : List ax_H) (M : ax_M) : Option ax_S := match st with
  | (0, k) :: (0, n) :: st0 => if 0 ≤ n ∧ n ≤ 1000 ∧ 0 ≤ k ∧ k ≤ 1000 then some (i + 1, ll, (2, sh.length) :: st0, sh ++ (1, 4 + t, n.toNat) :: List.replicate n.toNat (1, t, k.toNat), ax_nr M sh.length n.toNat) else none
  | _ => none
def ax_x29 (i : Nat) (ll st : List ax_V) (sh : List ax_H) (M : ax_M) : Option ax_S := match st with
  | (0, n) :: (0, dp) :: (2, b) :: (0, sp) :: (2, a) :: st0 => (match sh[a.toNat]?, sh[b.toNat]? with
    | some (1, 0, la), some (1, 0, lb) => if 0 ≤ a ∧ 0 ≤ b ∧ 0 ≤ sp ∧ 0 ≤ dp ∧ 0 ≤ n ∧ sp + n ≤ la ∧ dp + n ≤ lb ∧ ax_cat st0 ≤ 8 then some (i + 1, ll, st0, sh, ax_cpy M a.toNat sp.toNat b.toNat dp.toNat n.toNat) else none
    | _, _ => none)
  | _ => none
def ax_x30 (i : Nat) (ll st : List ax_V) (sh : List ax_H) (M : ax_M) : Option ax_S := match st with
  | (2, a) :: st0 => if 0 ≤ a ∧ ax_cat st0 ≤ 8 then some (i + 1, ll, st0, sh, M) else none
  | _ => none
def ax_x31 (i : Nat) (ll st : List ax_V) (sh : List ax_H) (M : ax_M) : Option ax_S := match st with
  | (0, x) :: st0 => some (i + 1, ll, (0, x % 65536) :: st0, sh, M)
  | _ => none
def ax_step (L : Nat) (X : Nat → Int) (o : ax_O) (i : Nat) (ll st : List ax_V) (sh : List ax_H) (M : ax_M) : Option ax_S :=
  match o.1 with
  | 0 => some (i + 1, ll, (0, o.2.2.2) :: st, sh, M)
  | 1 => some (i + 1, ll, (1, o.2.2.2) :: st, sh, M)
  | 2 => some (i + 1, ll, (2, o.2.2.2) :: st, sh, M)
  | 3 => ax_x3 o.2.1 o.2.2.1 i ll st sh M
  | 4 => ax_x4 o.2.1 o.2.2.1 i ll st sh M
  | 5 => ax_x5 o.2.1 o.2.2.2 i ll st sh M
  | 6 => ax_x6 o.2.1 i ll st sh M
  | 7 => ax_x7 o.2.1 i ll st sh M
  | 8 => ax_x8 i ll st sh M
  | 9 => ax_x9 i ll st sh M
  | 10 => ax_x10 i ll st sh M
  | 11 => ax_x11 i ll st sh M
  | 12 => ax_x12 o.2.1 o.2.2.1 i ll st sh M
  | 13 => ax_x13 o.2.1 o.2.2.1 i ll st sh M
  | 14 => some (o.2.2.1, ll, st, sh, M)
  | 15 => ax_x15 o.2.1 ll st sh M
  | 16 => ax_x16 i ll st sh M
  | 17 => ax_x17 i ll st sh M
  | 18 => ax_x18 i ll st sh M
  | 19 => ax_x19 o.2.1 o.2.2.1 i ll st sh M
  | 20 => ax_x20 o.2.1 o.2.2.1 i ll st sh M
  | 21 => ax_x21 L X o.2.1 i ll st sh M
  | 22 => ax_x22 o.2.1 i ll st sh M
  | 23 => ax_x23 L i ll st sh M
  | 24 => ax_x24 o.2.1 i ll st sh M
  | 25 => some (i + 1, ll, (2, sh.length) :: st, sh ++ [(0, o.2.1, ax_fl o.2.1)], ax_nw M sh.length (ax_df o.2.1))
  | 26 => ax_x26 o.2.1 i ll st sh M
  | 29 => ax_x29 i ll st sh M
  | 30 => ax_x30 i ll st sh M
  | 31 => ax_x31 i ll st sh M
  | _ => none
/-- what a return leaves: 0 int 1 long 2 nothing 3 boolean 4 char 5 byte -/
def ax_ret (k : Nat) (st : List ax_V) : Option (List ax_V) := match k, st with
  | 0, [(0, x)] => some [(0, x)]
  | 1, [(1, x)] => some [(1, x)]
  | 2, [] => some []
  | 3, [(0, x)] => if 0 ≤ x ∧ x < 2 then some [(0, x)] else none
  | 4, [(0, x)] => if 0 ≤ x ∧ x < 65536 then some [(0, x)] else none
  | 5, [(0, x)] => if -128 ≤ x ∧ x < 128 then some [(0, x)] else none
  | _, _ => none
/-- may this method be called with these arguments? -/
def ax_may (j : Nat) (sh : List ax_H) (as : List ax_V) : Bool :=
  decide ((ax_ent as).length ≤ ax_ml j) && match ax_kd j, as with
    | 0, _ => true
    | 1, (2, a) :: _ => decide (0 ≤ a ∧ sh[a.toNat]? = some (0, ax_own j, ax_fl (ax_own j))) || (decide (ax_own j = 14) && ax_isS a)
    | 2, (2, a) :: _ => decide (0 ≤ a)
    | _, _ => false
def ax_run (L : Nat) (X : Nat → Int) : Nat → Nat → Nat → Nat → List ax_V → List ax_V → List ax_H → ax_M → Option (List ax_V × List ax_H × ax_M)
  | 0, _, _, _, _, _, _, _ => none
  | n + 1, d, j, i, ll, st, sh, M => match ax_at j i with
    | none => none
    | some o =>
      if o.1 = 28 then (match ax_ret o.2.1 st with
        | some r => some (r, sh, M)
        | none => none)
      else if o.1 = 27 then (match d with
        | 0 => none
        | d' + 1 =>
          if o.2.2.1 ≤ st.length ∧ ax_cat (st.drop o.2.2.1) ≤ 8 ∧ ax_may o.2.1 sh (st.take o.2.2.1).reverse = true then
            (match ax_run L X n d' o.2.1 0 (ax_loc (st.take o.2.2.1).reverse (ax_ml o.2.1)) [] sh M with
            | none => none
            | some (r, sh1, M1) => ax_run L X n d j (i + 1) ll (r ++ st.drop o.2.2.1) sh1 M1)
          else none)
      else match ax_step L X o i ll st sh M with
        | none => none
        | some (i', ll', st', sh', M') => ax_run L X n d j i' ll' st' sh' M'
end
section
/-- the instruction of the machine that a row of the tables stands for, with its length -/
def ax_ins (pcs : List Nat) (i : Nat) (o : ax_O) : Instr × Nat :=
  let tg : Int := ((pcs.getD o.2.2.1 0 : Nat) : Int) - ((pcs.getD i 0 : Nat) : Int)
  match o.1 with
  | 0 => (match o.2.1 with
    | 0 => (.iconst o.2.2.2, 1)
    | 1 => (.bipush o.2.2.2, 2)
    | 2 => (.sipush o.2.2.2, 3)
    | 3 => (.ldc o.2.2.1, 2)
    | 4 => (.ldc_w o.2.2.1, 3)
    | _ => (.getstatic o.2.2.1, 3))
  | 1 => (match o.2.1 with
    | 0 => (.lconst (Fin.ofNat 2 o.2.2.2.toNat), 1)
    | _ => (.ldc2_w o.2.2.1, 3))
  | 2 => (match o.2.1 with
    | 0 => (.ldc o.2.2.1, 2)
    | 3 => (.ldc_w o.2.2.1, 3)
    | _ => (.getstatic o.2.2.1, 3))
  | 3 => (match o.2.1 with
    | 0 => if o.2.2.2 = 0 then (.iload_n (Fin.ofNat 4 o.2.2.1), 1) else (.iload o.2.2.1, 2)
    | 1 => if o.2.2.2 = 0 then (.lload_n (Fin.ofNat 4 o.2.2.1), 1) else (.lload o.2.2.1, 2)
    | _ => if o.2.2.2 = 0 then (.aload_n (Fin.ofNat 4 o.2.2.1), 1) else (.aload o.2.2.1, 2))
  | 4 => (match o.2.1 with
    | 0 => if o.2.2.2 = 0 then (.istore_n (Fin.ofNat 4 o.2.2.1), 1) else (.istore o.2.2.1, 2)
    | 1 => if o.2.2.2 = 0 then (.lstore_n (Fin.ofNat 4 o.2.2.1), 1) else (.lstore o.2.2.1, 2)
    | _ => if o.2.2.2 = 0 then (.astore_n (Fin.ofNat 4 o.2.2.1), 1) else (.astore o.2.2.1, 2))
  | 5 => (.iinc o.2.1 o.2.2.2, 3)
  | 6 => (match o.2.1 with
    | 0 => (.iadd, 1)
    | 1 => (.isub, 1)
    | 2 => (.imul, 1)
    | 3 => (.idiv, 1)
    | 4 => (.irem, 1)
    | 5 => (.iand, 1)
    | 6 => (.ior, 1)
    | 7 => (.ixor, 1)
    | 8 => (.ishl, 1)
    | 9 => (.ishr, 1)
    | _ => (.iushr, 1))
  | 7 => (match o.2.1 with
    | 0 => (.ladd, 1)
    | 1 => (.lsub, 1)
    | 2 => (.lmul, 1)
    | 3 => (.ldiv, 1)
    | 4 => (.lrem, 1)
    | _ => (.land, 1))
  | 8 => (.ineg, 1)
  | 9 => (.i2l, 1)
  | 10 => (.l2i, 1)
  | 11 => (.lcmp, 1)
  | 12 => (match o.2.1 with
    | 0 => (.ifCond .eq tg, 3)
    | 1 => (.ifCond .ne tg, 3)
    | 2 => (.ifCond .lt tg, 3)
    | 3 => (.ifCond .ge tg, 3)
    | 4 => (.ifCond .gt tg, 3)
    | _ => (.ifCond .le tg, 3))
  | 13 => (match o.2.1 with
    | 0 => (.if_icmp .eq tg, 3)
    | 1 => (.if_icmp .ne tg, 3)
    | 2 => (.if_icmp .lt tg, 3)
    | 3 => (.if_icmp .ge tg, 3)
    | 4 => (.if_icmp .gt tg, 3)
    | _ => (.if_icmp .le tg, 3))
  | 14 => (.goto tg, 3)
  | 15 => (match ax_sw[o.2.1]? with
    | some w =>
      let df : Int := ((pcs.getD w.2.2.2.2.1 0 : Nat) : Int) - ((pcs.getD i 0 : Nat) : Int)
      if w.1 = 0 then (.tableswitch df w.2.1 w.2.2.1 (w.2.2.2.1.map (fun k => ((pcs.getD k 0 : Nat) : Int) - ((pcs.getD i 0 : Nat) : Int))).toArray, w.2.2.2.2.2) else (.lookupswitch df #[], w.2.2.2.2.2)
    | none => (.nop, 1))
  | 16 => (.dup, 1)
  | 17 => (.dup2, 1)
  | 18 => (.pop, 1)
  | 19 => (.getfield o.2.2.2.toNat, 3)
  | 20 => (.putfield o.2.2.2.toNat, 3)
  | 21 => (match o.2.1 with
    | 0 => (.iaload, 1)
    | 1 => (.laload, 1)
    | 2 => (.caload, 1)
    | 3 => (.baload, 1)
    | _ => (.aaload, 1))
  | 22 => (match o.2.1 with
    | 0 => (.iastore, 1)
    | 1 => (.lastore, 1)
    | 2 => (.castore, 1)
    | _ => (.bastore, 1))
  | 23 => (.arraylength, 1)
  | 24 => (match o.2.1 with
    | 0 => (.newarray .int, 2)
    | 1 => (.newarray .long, 2)
    | 2 => (.newarray .char, 2)
    | _ => (.newarray .boolean, 2))
  | 25 => (.new o.2.2.2.toNat, 3)
  | 26 => (.multianewarray o.2.2.2.toNat 2, 4)
  | 27 => (match ax_kd o.2.1 with
    | 0 => (.invokestatic o.2.2.2.toNat, 3)
    | 1 => (.invokevirtual o.2.2.2.toNat, 3)
    | _ => (.invokespecial o.2.2.2.toNat, 3))
  | 28 => (match o.2.1 with
    | 1 => (.lreturn, 1)
    | 2 => (.return_, 1)
    | _ => (.ireturn, 1))
  | 29 => (.invokestatic o.2.2.2.toNat, 3)
  | 30 => (.invokespecial o.2.2.2.toNat, 3)
  | 31 => (.i2c, 1)
  | _ => (.nop, 1)
/-- the link that a row uses -/
def ax_lnk (o : ax_O) : Option (List (Nat × Nat × Nat × Int)) :=
  match o.1 with
  | 0 => if 3 ≤ o.2.1 then (if o.2.1 = 5 then some [(3, o.2.2.1, 0, 1)] else some [(0, o.2.2.1, 0, o.2.2.2)]) else none
  | 1 => if o.2.1 = 0 then none else some [(1, o.2.2.1, 0, o.2.2.2)]
  | 2 => if o.2.1 = 0 ∨ o.2.1 = 3 then some [(2, o.2.2.1, 0, o.2.2.2)] else some [(3, o.2.2.1, 0, o.2.2.2)]
  | 19 => if o.2.1 = 13 then some [(5, o.2.2.2.toNat, 13, o.2.2.1)] else some [(4, o.2.2.2.toNat, o.2.1, o.2.2.1)]
  | 20 => some [(4, o.2.2.2.toNat, o.2.1, o.2.2.1)]
  | 25 => some [(6, o.2.2.2.toNat, o.2.1, 0)]
  | 26 => some [(7, o.2.2.2.toNat, o.2.1, 0)]
  | 27 => some [(8, o.2.2.2.toNat, o.2.1, 0), (9, o.2.2.2.toNat, o.2.1, 0)]
  | 29 => some [(10, o.2.2.2.toNat, 0, 0)]
  | 30 => some [(11, o.2.2.2.toNat, 0, 0)]
  | _ => none
/-- small things that a row must keep -/
def ax_sml (j : Nat) (o : ax_O) : Bool :=
  match o.1 with
  | 0 => decide (o.2.1 ≤ 5 ∧ ax_i o.2.2.2 ∧ (o.2.1 = 1 → -128 ≤ o.2.2.2 ∧ o.2.2.2 < 128) ∧ (o.2.1 = 2 → -32768 ≤ o.2.2.2 ∧ o.2.2.2 < 32768) ∧ (o.2.1 = 5 → o.2.2.2 = 1))
  | 1 => decide (o.2.1 ≤ 1 ∧ ax_l o.2.2.2 ∧ (o.2.1 = 0 → 0 ≤ o.2.2.2 ∧ o.2.2.2 < 2))
  | 2 => decide (o.2.1 ≤ 3 ∧ o.2.2.2 < -1 ∧ (o.2.1 = 1 ∨ o.2.1 = 2 → o.2.2.2 = -3 ∨ o.2.2.2 = -4))
  | 3 => decide (o.2.1 ≤ 2 ∧ (o.2.2.2 = 0 → o.2.2.1 < 4))
  | 4 => decide (o.2.1 ≤ 2 ∧ (o.2.2.2 = 0 → o.2.2.1 < 4))
  | 5 => decide (ax_i o.2.2.2)
  | 6 => decide (o.2.1 ≤ 10)
  | 7 => decide (o.2.1 ≤ 5)
  | 12 => decide (o.2.1 ≤ 5)
  | 13 => decide (o.2.1 ≤ 5)
  | 19 => decide (o.2.1 < 14 ∧ (o.2.1 = 13 ∨ o.2.2.1 < ax_fl o.2.1))
  | 20 => decide (o.2.1 < 13 ∧ o.2.2.1 < ax_fl o.2.1 ∧ (((vwCl.getD o.2.1 ("", TX0, 0)).2.1 o.2.2.1).2.2.2 = false ∨ (ax_kd j = 2 ∧ ax_own j = o.2.1)))
  | 21 => decide (o.2.1 ≤ 4)
  | 22 => decide (o.2.1 ≤ 3)
  | 24 => decide (o.2.1 ≤ 3)
  | 25 => decide (o.2.1 < 13)
  | 26 => decide (o.2.1 ≤ 1)
  | 27 => decide (o.2.1 < 315 ∧ o.2.2.1 = (ax_inf o.2.1).2.2.2.2.2.1 + (if ax_kd o.2.1 = 0 then 0 else 1))
  | 28 => decide (o.2.1 = (ax_inf j).2.2.2.2.2.2.2)
  | _ => true
def ax_run1 (o : ax_O) : Bool := decide (o.1 = 14 ∨ o.1 = 15 ∨ o.1 = 28)
def ax_okI (j i : Nat) (o : ax_O) : Bool :=
  decide (o.1 = 99) || (decide (decode (ax_inf j).2.2.1 ((ax_pcs.getD j []).getD i 0) = .ok (ax_ins (ax_pcs.getD j []) i o)) && ax_sml j o
    && (ax_run1 o || decide ((ax_pcs.getD j [])[i + 1]? = some ((ax_pcs.getD j []).getD i 0 + (ax_ins (ax_pcs.getD j []) i o).2)))
    && match ax_lnk o with
      | none => true
      | some ls => ls.any (fun t => (ax_lk.getD (ax_own j) []).contains t))
def ax_okM (j : Nat) : Bool := (List.range (ax_code.getD j []).length).all (fun i => match ax_at j i with
  | some o => ax_okI j i o
  | none => false)
end
section
/-! every row of the tables is the instruction that stands there -/
theorem ax_ok0 : (List.range' 0 13).all ax_okM = true := by decide +kernel
theorem ax_ok1 : (List.range' 13 16).all ax_okM = true := by decide +kernel
theorem ax_ok2 : (List.range' 29 20).all ax_okM = true := by decide +kernel
theorem ax_ok3 : (List.range' 49 21).all ax_okM = true := by decide +kernel
theorem ax_ok4 : (List.range' 70 14).all ax_okM = true := by decide +kernel
theorem ax_ok5 : (List.range' 84 18).all ax_okM = true := by decide +kernel
theorem ax_ok6 : (List.range' 102 26).all ax_okM = true := by decide +kernel
theorem ax_ok7 : (List.range' 128 24).all ax_okM = true := by decide +kernel
theorem ax_ok8 : (List.range' 153 16).all ax_okM = true := by decide +kernel
theorem ax_ok9 : (List.range' 169 12).all ax_okM = true := by decide +kernel
theorem ax_ok10 : (List.range' 181 22).all ax_okM = true := by decide +kernel
theorem ax_ok11 : (List.range' 203 18).all ax_okM = true := by decide +kernel
theorem ax_ok12 : (List.range' 221 21).all ax_okM = true := by decide +kernel
theorem ax_ok13 : (List.range' 242 13).all ax_okM = true := by decide +kernel
theorem ax_ok14 : (List.range' 255 20).all ax_okM = true := by decide +kernel
theorem ax_ok15 : (List.range' 275 11).all ax_okM = true := by decide +kernel
theorem ax_ok16 : (List.range' 286 13).all ax_okM = true := by decide +kernel
theorem ax_ok17 : (List.range' 299 16).all ax_okM = true := by decide +kernel
end
section
theorem ax_okb152_0 : (List.range' 0 40).all (fun i => match ax_at 152 i with | some o => ax_okI 152 i o | none => false) = true := by decide +kernel
theorem ax_okb152_1 : (List.range' 40 40).all (fun i => match ax_at 152 i with | some o => ax_okI 152 i o | none => false) = true := by decide +kernel
theorem ax_okb152_2 : (List.range' 80 40).all (fun i => match ax_at 152 i with | some o => ax_okI 152 i o | none => false) = true := by decide +kernel
theorem ax_okb152_3 : (List.range' 120 40).all (fun i => match ax_at 152 i with | some o => ax_okI 152 i o | none => false) = true := by decide +kernel
theorem ax_okb152_4 : (List.range' 160 40).all (fun i => match ax_at 152 i with | some o => ax_okI 152 i o | none => false) = true := by decide +kernel
theorem ax_okb152_5 : (List.range' 200 40).all (fun i => match ax_at 152 i with | some o => ax_okI 152 i o | none => false) = true := by decide +kernel
theorem ax_okb152_6 : (List.range' 240 40).all (fun i => match ax_at 152 i with | some o => ax_okI 152 i o | none => false) = true := by decide +kernel
theorem ax_okb152_7 : (List.range' 280 40).all (fun i => match ax_at 152 i with | some o => ax_okI 152 i o | none => false) = true := by decide +kernel
theorem ax_okb152_8 : (List.range' 320 40).all (fun i => match ax_at 152 i with | some o => ax_okI 152 i o | none => false) = true := by decide +kernel
end
section
theorem ax_okb152_9 : (List.range' 360 40).all (fun i => match ax_at 152 i with | some o => ax_okI 152 i o | none => false) = true := by decide +kernel
theorem ax_okb152_10 : (List.range' 400 40).all (fun i => match ax_at 152 i with | some o => ax_okI 152 i o | none => false) = true := by decide +kernel
theorem ax_okb152_11 : (List.range' 440 40).all (fun i => match ax_at 152 i with | some o => ax_okI 152 i o | none => false) = true := by decide +kernel
theorem ax_okb152_12 : (List.range' 480 40).all (fun i => match ax_at 152 i with | some o => ax_okI 152 i o | none => false) = true := by decide +kernel
theorem ax_okb152_13 : (List.range' 520 40).all (fun i => match ax_at 152 i with | some o => ax_okI 152 i o | none => false) = true := by decide +kernel
theorem ax_okb152_14 : (List.range' 560 40).all (fun i => match ax_at 152 i with | some o => ax_okI 152 i o | none => false) = true := by decide +kernel
theorem ax_okb152_15 : (List.range' 600 40).all (fun i => match ax_at 152 i with | some o => ax_okI 152 i o | none => false) = true := by decide +kernel
theorem ax_okb152_16 : (List.range' 640 40).all (fun i => match ax_at 152 i with | some o => ax_okI 152 i o | none => false) = true := by decide +kernel
theorem ax_okb152_17 : (List.range' 680 40).all (fun i => match ax_at 152 i with | some o => ax_okI 152 i o | none => false) = true := by decide +kernel
end
section
theorem ax_okb152_18 : (List.range' 720 40).all (fun i => match ax_at 152 i with | some o => ax_okI 152 i o | none => false) = true := by decide +kernel
theorem ax_okb152_19 : (List.range' 760 40).all (fun i => match ax_at 152 i with | some o => ax_okI 152 i o | none => false) = true := by decide +kernel
theorem ax_okb152_20 : (List.range' 800 40).all (fun i => match ax_at 152 i with | some o => ax_okI 152 i o | none => false) = true := by decide +kernel
theorem ax_okb152_21 : (List.range' 840 40).all (fun i => match ax_at 152 i with | some o => ax_okI 152 i o | none => false) = true := by decide +kernel
theorem ax_okb152_22 : (List.range' 880 40).all (fun i => match ax_at 152 i with | some o => ax_okI 152 i o | none => false) = true := by decide +kernel
theorem ax_okb152_23 : (List.range' 920 40).all (fun i => match ax_at 152 i with | some o => ax_okI 152 i o | none => false) = true := by decide +kernel
theorem ax_okb152_24 : (List.range' 960 40).all (fun i => match ax_at 152 i with | some o => ax_okI 152 i o | none => false) = true := by decide +kernel
theorem ax_okb152_25 : (List.range' 1000 40).all (fun i => match ax_at 152 i with | some o => ax_okI 152 i o | none => false) = true := by decide +kernel
theorem ax_okb152_26 : (List.range' 1040 40).all (fun i => match ax_at 152 i with | some o => ax_okI 152 i o | none => false) = true := by decide +kernel
end
section
theorem ax_okb152_27 : (List.range' 1080 40).all (fun i => match ax_at 152 i with | some o => ax_okI 152 i o | none => false) = true := by decide +kernel
theorem ax_okb152_28 : (List.range' 1120 40).all (fun i => match ax_at 152 i with | some o => ax_okI 152 i o | none => false) = true := by decide +kernel
theorem ax_okb152_29 : (List.range' 1160 40).all (fun i => match ax_at 152 i with | some o => ax_okI 152 i o | none => false) = true := by decide +kernel
theorem ax_okb152_30 : (List.range' 1200 40).all (fun i => match ax_at 152 i with | some o => ax_okI 152 i o | none => false) = true := by decide +kernel
theorem ax_okb152_31 : (List.range' 1240 40).all (fun i => match ax_at 152 i with | some o => ax_okI 152 i o | none => false) = true := by decide +kernel
theorem ax_okb152_32 : (List.range' 1280 35).all (fun i => match ax_at 152 i with | some o => ax_okI 152 i o | none => false) = true := by decide +kernel
end
section
theorem ax_okb315_0 : (List.range' 0 40).all (fun i => match ax_at 315 i with | some o => ax_okI 315 i o | none => false) = true := by decide +kernel
theorem ax_okb315_1 : (List.range' 40 40).all (fun i => match ax_at 315 i with | some o => ax_okI 315 i o | none => false) = true := by decide +kernel
theorem ax_okb315_2 : (List.range' 80 40).all (fun i => match ax_at 315 i with | some o => ax_okI 315 i o | none => false) = true := by decide +kernel
theorem ax_okb315_3 : (List.range' 120 40).all (fun i => match ax_at 315 i with | some o => ax_okI 315 i o | none => false) = true := by decide +kernel
theorem ax_okb315_4 : (List.range' 160 40).all (fun i => match ax_at 315 i with | some o => ax_okI 315 i o | none => false) = true := by decide +kernel
theorem ax_okb315_5 : (List.range' 200 40).all (fun i => match ax_at 315 i with | some o => ax_okI 315 i o | none => false) = true := by decide +kernel
theorem ax_okb315_6 : (List.range' 240 40).all (fun i => match ax_at 315 i with | some o => ax_okI 315 i o | none => false) = true := by decide +kernel
theorem ax_okb315_7 : (List.range' 280 40).all (fun i => match ax_at 315 i with | some o => ax_okI 315 i o | none => false) = true := by decide +kernel
theorem ax_okb315_8 : (List.range' 320 40).all (fun i => match ax_at 315 i with | some o => ax_okI 315 i o | none => false) = true := by decide +kernel
end
section
theorem ax_okb315_9 : (List.range' 360 40).all (fun i => match ax_at 315 i with | some o => ax_okI 315 i o | none => false) = true := by decide +kernel
theorem ax_okb315_10 : (List.range' 400 40).all (fun i => match ax_at 315 i with | some o => ax_okI 315 i o | none => false) = true := by decide +kernel
theorem ax_okb315_11 : (List.range' 440 40).all (fun i => match ax_at 315 i with | some o => ax_okI 315 i o | none => false) = true := by decide +kernel
theorem ax_okb315_12 : (List.range' 480 40).all (fun i => match ax_at 315 i with | some o => ax_okI 315 i o | none => false) = true := by decide +kernel
theorem ax_okb315_13 : (List.range' 520 40).all (fun i => match ax_at 315 i with | some o => ax_okI 315 i o | none => false) = true := by decide +kernel
theorem ax_okb315_14 : (List.range' 560 40).all (fun i => match ax_at 315 i with | some o => ax_okI 315 i o | none => false) = true := by decide +kernel
theorem ax_okb315_15 : (List.range' 600 40).all (fun i => match ax_at 315 i with | some o => ax_okI 315 i o | none => false) = true := by decide +kernel
theorem ax_okb315_16 : (List.range' 640 40).all (fun i => match ax_at 315 i with | some o => ax_okI 315 i o | none => false) = true := by decide +kernel
theorem ax_okb315_17 : (List.range' 680 35).all (fun i => match ax_at 315 i with | some o => ax_okI 315 i o | none => false) = true := by decide +kernel
end
section
theorem ax_okM152 : ax_okM 152 = true := by
  refine List.all_eq_true.mpr (fun i hi => ?_)
  have hl : (ax_code.getD 152 []).length = 1315 := by decide +kernel
  replace hi := List.mem_range.mp hi
  rw [hl] at hi
  by_cases h0 : i < 40
  · exact List.all_eq_true.mp ax_okb152_0 i (List.mem_range'_1.mpr (by omega))
  by_cases h1 : i < 80
  · exact List.all_eq_true.mp ax_okb152_1 i (List.mem_range'_1.mpr (by omega))
  by_cases h2 : i < 120
  · exact List.all_eq_true.mp ax_okb152_2 i (List.mem_range'_1.mpr (by omega))
  by_cases h3 : i < 160
  · exact List.all_eq_true.mp ax_okb152_3 i (List.mem_range'_1.mpr (by omega))
  by_cases h4 : i < 200
  · exact List.all_eq_true.mp ax_okb152_4 i (List.mem_range'_1.mpr (by omega))
  by_cases h5 : i < 240
  · exact List.all_eq_true.mp ax_okb152_5 i (List.mem_range'_1.mpr (by omega))
  by_cases h6 : i < 280
  · exact List.all_eq_true.mp ax_okb152_6 i (List.mem_range'_1.mpr (by omega))
  by_cases h7 : i < 320
  · exact List.all_eq_true.mp ax_okb152_7 i (List.mem_range'_1.mpr (by omega))
  by_cases h8 : i < 360
  · exact List.all_eq_true.mp ax_okb152_8 i (List.mem_range'_1.mpr (by omega))
  by_cases h9 : i < 400
  · exact List.all_eq_true.mp ax_okb152_9 i (List.mem_range'_1.mpr (by omega))
  by_cases h10 : i < 440
  · exact List.all_eq_true.mp ax_okb152_10 i (List.mem_range'_1.mpr (by omega))
  by_cases h11 : i < 480
  · exact List.all_eq_true.mp ax_okb152_11 i (List.mem_range'_1.mpr (by omega))
  by_cases h12 : i < 520
  · exact List.all_eq_true.mp ax_okb152_12 i (List.mem_range'_1.mpr (by omega))
  by_cases h13 : i < 560
  · exact List.all_eq_true.mp ax_okb152_13 i (List.mem_range'_1.mpr (by omega))
  by_cases h14 : i < 600
  · exact List.all_eq_true.mp ax_okb152_14 i (List.mem_range'_1.mpr (by omega))
  by_cases h15 : i < 640
  · exact List.all_eq_true.mp ax_okb152_15 i (List.mem_range'_1.mpr (by omega))
  by_cases h16 : i < 680
  · exact List.all_eq_true.mp ax_okb152_16 i (List.mem_range'_1.mpr (by omega))
  by_cases h17 : i < 720
  · exact List.all_eq_true.mp ax_okb152_17 i (List.mem_range'_1.mpr (by omega))
  by_cases h18 : i < 760
  · exact List.all_eq_true.mp ax_okb152_18 i (List.mem_range'_1.mpr (by omega))
  by_cases h19 : i < 800
  · exact List.all_eq_true.mp ax_okb152_19 i (List.mem_range'_1.mpr (by omega))
  by_cases h20 : i < 840
  · exact List.all_eq_true.mp ax_okb152_20 i (List.mem_range'_1.mpr (by omega))
  by_cases h21 : i < 880
  · exact List.all_eq_true.mp ax_okb152_21 i (List.mem_range'_1.mpr (by omega))
  by_cases h22 : i < 920
  · exact List.all_eq_true.mp ax_okb152_22 i (List.mem_range'_1.mpr (by omega))
  by_cases h23 : i < 960
  · exact List.all_eq_true.mp ax_okb152_23 i (List.mem_range'_1.mpr (by omega))
  by_cases h24 : i < 1000
  · exact List.all_eq_true.mp ax_okb152_24 i (List.mem_range'_1.mpr (by omega))
  by_cases h25 : i < 1040
  · exact List.all_eq_true.mp ax_okb152_25 i (List.mem_range'_1.mpr (by omega))
  by_cases h26 : i < 1080
  · exact List.all_eq_true.mp ax_okb152_26 i (List.mem_range'_1.mpr (by omega))
  by_cases h27 : i < 1120
  · exact List.all_eq_true.mp ax_okb152_27 i (List.mem_range'_1.mpr (by omega))
  by_cases h28 : i < 1160
  · exact List.all_eq_true.mp ax_okb152_28 i (List.mem_range'_1.mpr (by omega))
  by_cases h29 : i < 1200
  · exact List.all_eq_true.mp ax_okb152_29 i (List.mem_range'_1.mpr (by omega))
  by_cases h30 : i < 1240
  · exact List.all_eq_true.mp ax_okb152_30 i (List.mem_range'_1.mpr (by omega))
  by_cases h31 : i < 1280
  · exact List.all_eq_true.mp ax_okb152_31 i (List.mem_range'_1.mpr (by omega))
  by_cases h32 : i < 1315
  · exact List.all_eq_true.mp ax_okb152_32 i (List.mem_range'_1.mpr (by omega))
  omega
theorem ax_okM315 : ax_okM 315 = true := by
  refine List.all_eq_true.mpr (fun i hi => ?_)
  have hl : (ax_code.getD 315 []).length = 715 := by decide +kernel
  replace hi := List.mem_range.mp hi
  rw [hl] at hi
  by_cases h0 : i < 40
  · exact List.all_eq_true.mp ax_okb315_0 i (List.mem_range'_1.mpr (by omega))
  by_cases h1 : i < 80
  · exact List.all_eq_true.mp ax_okb315_1 i (List.mem_range'_1.mpr (by omega))
  by_cases h2 : i < 120
  · exact List.all_eq_true.mp ax_okb315_2 i (List.mem_range'_1.mpr (by omega))
  by_cases h3 : i < 160
  · exact List.all_eq_true.mp ax_okb315_3 i (List.mem_range'_1.mpr (by omega))
  by_cases h4 : i < 200
  · exact List.all_eq_true.mp ax_okb315_4 i (List.mem_range'_1.mpr (by omega))
  by_cases h5 : i < 240
  · exact List.all_eq_true.mp ax_okb315_5 i (List.mem_range'_1.mpr (by omega))
  by_cases h6 : i < 280
  · exact List.all_eq_true.mp ax_okb315_6 i (List.mem_range'_1.mpr (by omega))
  by_cases h7 : i < 320
  · exact List.all_eq_true.mp ax_okb315_7 i (List.mem_range'_1.mpr (by omega))
  by_cases h8 : i < 360
  · exact List.all_eq_true.mp ax_okb315_8 i (List.mem_range'_1.mpr (by omega))
  by_cases h9 : i < 400
  · exact List.all_eq_true.mp ax_okb315_9 i (List.mem_range'_1.mpr (by omega))
  by_cases h10 : i < 440
  · exact List.all_eq_true.mp ax_okb315_10 i (List.mem_range'_1.mpr (by omega))
  by_cases h11 : i < 480
  · exact List.all_eq_true.mp ax_okb315_11 i (List.mem_range'_1.mpr (by omega))
  by_cases h12 : i < 520
  · exact List.all_eq_true.mp ax_okb315_12 i (List.mem_range'_1.mpr (by omega))
  by_cases h13 : i < 560
  · exact List.all_eq_true.mp ax_okb315_13 i (List.mem_range'_1.mpr (by omega))
  by_cases h14 : i < 600
  · exact List.all_eq_true.mp ax_okb315_14 i (List.mem_range'_1.mpr (by omega))
  by_cases h15 : i < 640
  · exact List.all_eq_true.mp ax_okb315_15 i (List.mem_range'_1.mpr (by omega))
  by_cases h16 : i < 680
  · exact List.all_eq_true.mp ax_okb315_16 i (List.mem_range'_1.mpr (by omega))
  by_cases h17 : i < 715
  · exact List.all_eq_true.mp ax_okb315_17 i (List.mem_range'_1.mpr (by omega))
  omega
theorem ax_oks : ∀ j : Nat, j < 316 → ax_okM j = true := by
  intro j hj
  by_cases h0 : j < 13
  · exact List.all_eq_true.mp ax_ok0 j (List.mem_range'_1.mpr (by omega))
  by_cases h1 : j < 29
  · exact List.all_eq_true.mp ax_ok1 j (List.mem_range'_1.mpr (by omega))
  by_cases h2 : j < 49
  · exact List.all_eq_true.mp ax_ok2 j (List.mem_range'_1.mpr (by omega))
  by_cases h3 : j < 70
  · exact List.all_eq_true.mp ax_ok3 j (List.mem_range'_1.mpr (by omega))
  by_cases h4 : j < 84
  · exact List.all_eq_true.mp ax_ok4 j (List.mem_range'_1.mpr (by omega))
  by_cases h5 : j < 102
  · exact List.all_eq_true.mp ax_ok5 j (List.mem_range'_1.mpr (by omega))
  by_cases h6 : j < 128
  · exact List.all_eq_true.mp ax_ok6 j (List.mem_range'_1.mpr (by omega))
  by_cases h7 : j < 152
  · exact List.all_eq_true.mp ax_ok7 j (List.mem_range'_1.mpr (by omega))
  by_cases h8 : j < 153
  · have e : j = 152 := by omega
    rw [e]
    exact ax_okM152
  by_cases h9 : j < 169
  · exact List.all_eq_true.mp ax_ok8 j (List.mem_range'_1.mpr (by omega))
  by_cases h10 : j < 181
  · exact List.all_eq_true.mp ax_ok9 j (List.mem_range'_1.mpr (by omega))
  by_cases h11 : j < 203
  · exact List.all_eq_true.mp ax_ok10 j (List.mem_range'_1.mpr (by omega))
  by_cases h12 : j < 221
  · exact List.all_eq_true.mp ax_ok11 j (List.mem_range'_1.mpr (by omega))
  by_cases h13 : j < 242
  · exact List.all_eq_true.mp ax_ok12 j (List.mem_range'_1.mpr (by omega))
  by_cases h14 : j < 255
  · exact List.all_eq_true.mp ax_ok13 j (List.mem_range'_1.mpr (by omega))
  by_cases h15 : j < 275
  · exact List.all_eq_true.mp ax_ok14 j (List.mem_range'_1.mpr (by omega))
  by_cases h16 : j < 286
  · exact List.all_eq_true.mp ax_ok15 j (List.mem_range'_1.mpr (by omega))
  by_cases h17 : j < 299
  · exact List.all_eq_true.mp ax_ok16 j (List.mem_range'_1.mpr (by omega))
  by_cases h18 : j < 315
  · exact List.all_eq_true.mp ax_ok17 j (List.mem_range'_1.mpr (by omega))
  by_cases h19 : j < 316
  · have e : j = 315 := by omega
    rw [e]
    exact ax_okM315
  omega
end
section
/-! numbers keep to their ranges, references to the cells that there are -/
def ax_wv (n : Nat) (v : ax_V) : Prop := (v.1 = 0 → ax_i v.2) ∧ (v.1 = 1 → ax_l v.2) ∧ (v.1 = 2 → v.2 < n)
def ax_we (n t : Nat) (x : Int) : Prop := (t = 0 → ax_i x) ∧ (t = 1 → ax_l x) ∧ (t = 2 → 0 ≤ x ∧ x < 65536) ∧ (t = 3 → 0 ≤ x ∧ x < 2) ∧ (4 ≤ t → -1 ≤ x ∧ x < n)
def ax_wf (n f : Nat) (x : Int) : Prop := (f = 0 → ax_i x) ∧ (f = 1 → ax_l x) ∧ (f = 2 → x < n) ∧ (f = 3 → 0 ≤ x ∧ x < 2)
def ax_wh (n : Nat) (h : ax_H) (f : Nat → Int) : Prop := (h.1 = 0 ∧ h.2.1 < 13 ∧ h.2.2 = ax_fl h.2.1 ∧ ∀ k, k < h.2.2 → ax_wf n (ax_fty h.2.1 k) (f k)) ∨ (h.1 = 1 ∧ h.2.1 ≤ 5 ∧ h.2.2 ≤ 10000 ∧ (∀ k, k < h.2.2 → ax_we n h.2.1 (f k)) ∧ (4 ≤ h.2.1 → ∀ k, -1 ≤ f k ∧ f k < n))
def ax_wm (sh : List ax_H) (M : ax_M) : Prop := ∀ (a : Nat) (h : ax_H), sh[a]? = some h → ax_wh sh.length h (M a)
def ax_ws (n : Nat) (vs : List ax_V) : Prop := ∀ v ∈ vs, ax_wv n v
theorem ax_ws_n {n : Nat} : ax_ws n [] := fun _ h => by cases h
theorem ax_ws_c {n : Nat} {v : ax_V} {vs : List ax_V} (h : ax_wv n v) (hs : ax_ws n vs) : ax_ws n (v :: vs) := fun w hw => by
  rcases List.mem_cons.mp hw with rfl | hw
  · exact h
  · exact hs w hw
theorem ax_ws_h {n : Nat} {v : ax_V} {vs : List ax_V} (h : ax_ws n (v :: vs)) : ax_wv n v := h v List.mem_cons_self
theorem ax_ws_t {n : Nat} {v : ax_V} {vs : List ax_V} (h : ax_ws n (v :: vs)) : ax_ws n vs := fun w hw => h w (List.mem_cons_of_mem _ hw)
theorem ax_wv_le {n m : Nat} {v : ax_V} (h : ax_wv n v) (hnm : n ≤ m) : ax_wv m v := ⟨h.1, h.2.1, fun e => by have := h.2.2 e; omega⟩
theorem ax_ws_le {n m : Nat} {vs : List ax_V} (h : ax_ws n vs) (hnm : n ≤ m) : ax_ws m vs := fun v hv => ax_wv_le (h v hv) hnm
theorem ax_wh_le {n m : Nat} {h : ax_H} {f : Nat → Int} (w : ax_wh n h f) (hnm : n ≤ m) : ax_wh m h f := by
  rcases w with ⟨a, b, c, d⟩ | ⟨a, b, c, d, d2⟩
  · exact Or.inl ⟨a, b, c, fun k hk => ⟨(d k hk).1, (d k hk).2.1, fun e => by have := (d k hk).2.2.1 e; omega, (d k hk).2.2.2⟩⟩
  · exact Or.inr ⟨a, b, c, fun k hk => ⟨(d k hk).1, (d k hk).2.1, (d k hk).2.2.1, (d k hk).2.2.2.1, fun e => by have := (d k hk).2.2.2.2 e; omega⟩, fun e k => by have := d2 e k; omega⟩
theorem ax_wI {n : Nat} {x : Int} (h : ax_i x) : ax_wv n (0, x) := ⟨fun _ => h, fun e => (by cases e), fun e => (by cases e)⟩
theorem ax_wL {n : Nat} {x : Int} (h : ax_l x) : ax_wv n (1, x) := ⟨fun e => (by cases e), fun _ => h, fun e => (by cases e)⟩
theorem ax_wR {n : Nat} {x : Int} (h : x < n) : ax_wv n (2, x) := ⟨fun e => (by cases e), fun e => (by cases e), fun _ => h⟩
theorem ax_wU {n : Nat} : ax_wv n (3, 0) := ⟨fun e => (by cases e), fun e => (by cases e), fun e => (by cases e)⟩
theorem ax_i32 (z : Int32) : ax_i z.toInt := ⟨Int32.le_toInt z, Int32.toInt_lt z⟩
theorem ax_i64 (z : Int64) : ax_l z.toInt := ⟨Int64.le_toInt z, Int64.toInt_lt z⟩
theorem ax_ws_set {n i : Nat} {v : ax_V} {vs : List ax_V} (h : ax_wv n v) (hs : ax_ws n vs) : ax_ws n (vs.set i v) := fun w hw => by
  rcases List.mem_or_eq_of_mem_set hw with hw | rfl
  · exact hs w hw
  · exact h
theorem ax_wset {n i : Nat} {v : ax_V} {vs : List ax_V} (h : ax_wv n v) (hs : ax_ws n vs) : ax_ws n (ax_set vs i v) := by
  have h1 : ax_ws n (if v.1 = 1 then (vs.set i v).set (i + 1) (3, 0) else vs.set i v) := by
    split
    · exact ax_ws_set ax_wU (ax_ws_set h hs)
    · exact ax_ws_set h hs
  unfold ax_set
  cases i with
  | zero => exact h1
  | succ k =>
    dsimp only
    split
    · exact ax_ws_set ax_wU h1
    · exact h1
theorem ax_set_len (vs : List ax_V) (i : Nat) (v : ax_V) : (ax_set vs i v).length = vs.length := by
  have h1 : (if v.1 = 1 then (vs.set i v).set (i + 1) (3, 0) else vs.set i v).length = vs.length := by split <;> simp
  unfold ax_set
  cases i with
  | zero => exact h1
  | succ k =>
    dsimp only
    split
    · rw [List.length_set]; exact h1
    · exact h1
theorem ax_tmod_le (x y : Int) (h : ax_i x) (hy : y ≠ 0) : ax_i (x.tmod y) := by
  have h1 := Int.natAbs_tmod x y
  have h2 : x.natAbs % y.natAbs ≤ x.natAbs := Nat.mod_le _ _
  rcases Int.le_total 0 x with h0 | h0
  · have h3 := Int.tmod_nonneg y h0
    constructor <;> omega
  · have h3 : x.tmod y ≤ 0 := by
      have := Int.neg_tmod (-x) y
      rw [Int.neg_neg] at this
      have h4 := Int.tmod_nonneg y (show 0 ≤ -x by omega)
      omega
    constructor <;> omega
theorem ax_tmod_lel (x y : Int) (h : ax_l x) (hy : y ≠ 0) : ax_l (x.tmod y) := by
  have h1 := Int.natAbs_tmod x y
  have h2 : x.natAbs % y.natAbs ≤ x.natAbs := Nat.mod_le _ _
  rcases Int.le_total 0 x with h0 | h0
  · have h3 := Int.tmod_nonneg y h0
    constructor <;> omega
  · have h3 : x.tmod y ≤ 0 := by
      have := Int.neg_tmod (-x) y
      rw [Int.neg_neg] at this
      have h4 := Int.tmod_nonneg y (show 0 ≤ -x by omega)
      omega
    constructor <;> omega
theorem ax_ib_w {f : Nat} {x y z : Int} (hx : ax_i x) (h : ax_ib f x y = some z) : ax_i z := by
  unfold ax_ib at h
  split at h
  · split at h
    · cases h; assumption
    · cases h
  · split at h
    · cases h; assumption
    · cases h
  · split at h
    · cases h; assumption
    · cases h
  · split at h
    · rename_i q; cases h; exact q.2
    · cases h
  · split at h
    · rename_i q; cases h; exact ax_tmod_le x y hx q.1
    · cases h
  all_goals first | (cases h; exact ax_i32 _) | cases h
theorem ax_lb_w {f : Nat} {x y z : Int} (hx : ax_l x) (h : ax_lb f x y = some z) : ax_l z := by
  unfold ax_lb at h
  split at h
  · split at h
    · cases h; assumption
    · cases h
  · split at h
    · cases h; assumption
    · cases h
  · split at h
    · cases h; assumption
    · cases h
  · split at h
    · rename_i q; cases h; exact q.2
    · cases h
  · split at h
    · rename_i q; cases h; exact ax_tmod_lel x y hx q.1
    · cases h
  all_goals first | (cases h; exact ax_i64 _) | cases h
theorem ax_by_w : ∀ q ∈ ax_tx, ∀ b ∈ q.2, 0 ≤ b ∧ b < 128 := by decide +kernel
theorem ax_by_w2 (a : Int) (k : Nat) (h : k < (ax_by a).length) : 0 ≤ (ax_by a).getD k 0 ∧ (ax_by a).getD k 0 < 128 := by
  have h1 : (ax_by a).getD k 0 ∈ ax_by a := by
    rw [List.getD_eq_getElem?_getD, List.getElem?_eq_getElem h]
    exact List.getElem_mem h
  unfold ax_by at h1 ⊢
  by_cases hq : ax_sx (a + 1) < ax_tx.length
  · refine ax_by_w (ax_tx.getD (ax_sx (a + 1)) ("", [])) ?_ _ h1
    rw [List.getD_eq_getElem?_getD, List.getElem?_eq_getElem hq]
    exact List.getElem_mem hq
  · rw [show ax_tx.getD (ax_sx (a + 1)) ("", []) = ("", []) by
      rw [List.getD_eq_getElem?_getD, List.getElem?_eq_none (by omega)]; rfl] at h1
    cases h1
theorem ax_mo_w (k : Nat) : ax_i (ax_mo.getD k 0) := by
  by_cases h : k < 9
  · have h9 : ∀ k, k < 9 → ax_i (ax_mo.getD k 0) := by decide +kernel
    exact h9 k h
  · rw [List.getD_eq_getElem?_getD, List.getElem?_eq_none (by show 9 ≤ k; omega)]
    decide
end
section
/-! a step keeps ranges -/
theorem ax_et_le (t : Nat) (h : t ≤ 3) : ax_et t = if t = 1 then 1 else 0 := by
  match t, h with
  | 0, _ => rfl
  | 1, _ => rfl
  | 2, _ => rfl
  | 3, _ => rfl
theorem ax_fk3 : ∀ l ∈ ax_fk, ∀ k ∈ l, k ≤ 3 := by decide +kernel
theorem ax_fty3 (c k : Nat) : ax_fty c k ≤ 3 := by
  unfold ax_fty
  by_cases h : k < (ax_fk.getD c []).length
  · have h1 : (ax_fk.getD c []).getD k 0 ∈ ax_fk.getD c [] := by
      rw [List.getD_eq_getElem?_getD (l := ax_fk.getD c []), List.getElem?_eq_getElem h]
      exact List.getElem_mem h
    by_cases hc : c < ax_fk.length
    · refine ax_fk3 (ax_fk.getD c []) ?_ _ h1
      rw [List.getD_eq_getElem?_getD, List.getElem?_eq_getElem hc]
      exact List.getElem_mem hc
    · rw [show ax_fk.getD c [] = [] by rw [List.getD_eq_getElem?_getD, List.getElem?_eq_none (by omega)]; rfl] at h
      simp at h
  · rw [List.getD_eq_getElem?_getD (l := ax_fk.getD c []), List.getElem?_eq_none (by omega)]
    decide
theorem ax_wE {n t : Nat} {x : Int} (ht : t ≤ 5) (h : ax_we n t x) : ax_wv n (ax_et t, x) := by
  obtain ⟨h0, h1, h2, h3, h4⟩ := h
  match t, ht with
  | 0, _ => exact ax_wI (h0 rfl)
  | 1, _ => exact ax_wL (h1 rfl)
  | 2, _ => exact ax_wI (by have := h2 rfl; constructor <;> omega)
  | 3, _ => exact ax_wI (by have := h3 rfl; constructor <;> omega)
  | 4, _ => exact ax_wR (h4 (by decide)).2
  | 5, _ => exact ax_wR (h4 (by decide)).2
theorem ax_wF {n t : Nat} {x : Int} (ht : t ≤ 3) (h : ax_wf n t x) : ax_wv n (ax_ft t, x) := by
  obtain ⟨h0, h1, h2, h3⟩ := h
  match t, ht with
  | 0, _ => exact ax_wI (h0 rfl)
  | 1, _ => exact ax_wL (h1 rfl)
  | 2, _ => exact ax_wR (h2 rfl)
  | 3, _ => exact ax_wI (by have := h3 rfl; constructor <;> omega)
theorem ax_es_w {n t : Nat} {v : ax_V} (hv : ax_wv n v) (h : ax_es t v = true) : ax_we n t v.2 := by
  match t, h with
  | 0, h => exact ⟨fun _ => hv.1 (of_decide_eq_true h), fun e => (by cases e), fun e => (by cases e), fun e => (by cases e), fun e => (by omega)⟩
  | 1, h => exact ⟨fun e => (by cases e), fun _ => hv.2.1 (of_decide_eq_true h), fun e => (by cases e), fun e => (by cases e), fun e => (by omega)⟩
  | 2, h => exact ⟨fun e => (by cases e), fun e => (by cases e), fun _ => (of_decide_eq_true h).2, fun e => (by cases e), fun e => (by omega)⟩
  | 3, h => exact ⟨fun e => (by cases e), fun e => (by cases e), fun e => (by cases e), fun _ => (of_decide_eq_true h).2, fun e => (by omega)⟩
  | t + 4, h => cases h
theorem ax_fs_w {n t : Nat} {v : ax_V} (hv : ax_wv n v) (h : ax_fs t v = true) : ax_wf n t v.2 := by
  match t, h with
  | 0, h => exact ⟨fun _ => hv.1 (of_decide_eq_true h), fun e => (by cases e), fun e => (by cases e), fun e => (by cases e)⟩
  | 1, h => exact ⟨fun e => (by cases e), fun _ => hv.2.1 (of_decide_eq_true h), fun e => (by cases e), fun e => (by cases e)⟩
  | 2, h => exact ⟨fun e => (by cases e), fun e => (by cases e), fun _ => hv.2.2 (of_decide_eq_true h), fun e => (by cases e)⟩
  | 3, h => exact ⟨fun e => (by cases e), fun e => (by cases e), fun e => (by cases e), fun _ => (of_decide_eq_true h).2⟩
  | t + 4, h => cases h
theorem ax_wm_up {sh : List ax_H} {M : ax_M} {a k : Nat} {x : Int} (hm : ax_wm sh M) (hx : ∀ h, sh[a]? = some h → (h.1 = 0 → ax_wf sh.length (ax_fty h.2.1 k) x) ∧ (h.1 = 1 → ax_we sh.length h.2.1 x)) : ax_wm sh (ax_up M a k x) := by
  intro b h hb
  rcases hm b h hb with ⟨p, q, r, w⟩ | ⟨p, q, r, w, w4⟩
  · refine Or.inl ⟨p, q, r, fun j hj => ?_⟩
    unfold ax_up
    by_cases e : b = a ∧ j = k
    · rw [if_pos e]
      obtain ⟨rfl, rfl⟩ := e
      exact (hx h hb).1 p
    · rw [if_neg e]
      exact w j hj
  · refine Or.inr ⟨p, q, r, fun j hj => ?_, fun h4 j => ?_⟩
    · unfold ax_up
      by_cases e : b = a ∧ j = k
      · rw [if_pos e]
        obtain ⟨rfl, rfl⟩ := e
        exact (hx h hb).2 p
      · rw [if_neg e]
        exact w j hj
    · unfold ax_up
      by_cases e : b = a ∧ j = k
      · rw [if_pos e]
        obtain ⟨rfl, rfl⟩ := e
        exact ((hx h hb).2 p).2.2.2.2 h4
      · rw [if_neg e]
        exact w4 h4 j
theorem ax_wm_add {sh : List ax_H} {M : ax_M} {t : List ax_H} {M' : ax_M} (hm : ax_wm sh M) (h1 : ∀ b, b < sh.length → M' b = M b) (h2 : ∀ (b : Nat) (h : ax_H), t[b]? = some h → ax_wh (sh ++ t).length h (M' (sh.length + b))) : ax_wm (sh ++ t) M' := by
  intro b h hb
  by_cases hl : b < sh.length
  · rw [List.getElem?_append_left hl] at hb
    rw [h1 b hl]
    exact ax_wh_le (hm b h hb) (by simp)
  · rw [List.getElem?_append_right (by omega)] at hb
    have := h2 (b - sh.length) h hb
    rwa [show sh.length + (b - sh.length) = b by omega] at this
theorem ax_ald_w {L : Nat} {X : Nat → Int} {sh : List ax_H} {M : ax_M} {t : Nat} {a k : Int} {v : ax_V} (hX : ∀ k, ax_i (X k)) (hm : ax_wm sh M) (h : ax_ald L X sh M t a k = some v) : ax_wv sh.length v := by
  unfold ax_ald at h
  split at h
  · split at h
    · rename_i u n hq
      split at h
      · rename_i q
        cases h
        rcases hm _ _ hq with ⟨p, -⟩ | ⟨-, p, -, w, -⟩
        · cases p
        · have hw := w k.toNat (by show k.toNat < n; omega)
          rcases q.1 with e | ⟨e1, e2⟩
          · subst e
            exact ax_wE p hw
          · subst e1; subst e2
            exact ax_wR (hw.2.2.2.2 (by show 4 ≤ 5; decide)).2
      · cases h
    · cases h
  · split at h
    · split at h
      · cases h
        exact ax_wI (hX _)
      · cases h
    · split at h
      · split at h
        · cases h
          exact ax_wI (ax_mo_w _)
        · cases h
      · split at h
        · split at h
          · rename_i q
            cases h
            have := ax_by_w2 a k.toNat (by omega)
            exact ax_wI (by constructor <;> omega)
          · cases h
        · cases h
theorem ax_get_w {sh : List ax_H} {M : ax_M} {c k : Nat} {a : Int} {v : ax_V} (hm : ax_wm sh M) (h : ax_get sh M c k a = some v) : ax_wv sh.length v := by
  unfold ax_get at h
  split at h
  · split at h
    · rename_i c' n hq
      split at h
      · rename_i q
        cases h
        rcases hm _ _ hq with ⟨-, -, -, w⟩ | ⟨p, -⟩
        · have hw := w k q.2
          rw [q.1] at hw
          exact ax_wF (ax_fty3 c k) hw
        · cases p
      · cases h
    · cases h
  · split at h
    · split at h
      · cases h
        rename_i q _
        exact ax_wR (by omega)
      · split at h
        · cases h
          exact ax_wI (by decide)
        · cases h
    · cases h
theorem ax_aln_w {L : Nat} {sh : List ax_H} {M : ax_M} {a n : Int} (hL : L ≤ 3072) (hm : ax_wm sh M) (h : ax_aln L sh a = some n) : ax_i n := by
  unfold ax_aln at h
  split at h
  · split at h
    · rename_i u m hq
      cases h
      rcases hm _ _ hq with ⟨p, -⟩ | ⟨-, -, p, -⟩
      · cases p
      · have p : m ≤ 10000 := p
        constructor <;> omega
    · cases h
  · split at h
    · have h := h
      cases h
      constructor <;> omega
    · split at h
      · cases h
        have hb : ∀ q ∈ ax_tx, q.2.length < 1000 := by decide +kernel
        have : (ax_by a).length < 1000 := by
          unfold ax_by
          by_cases hq : ax_sx (a + 1) < ax_tx.length
          · refine hb _ ?_
            rw [List.getD_eq_getElem?_getD, List.getElem?_eq_getElem hq]
            exact List.getElem_mem hq
          · rw [show ax_tx.getD (ax_sx (a + 1)) ("", []) = ("", []) by
              rw [List.getD_eq_getElem?_getD, List.getElem?_eq_none (by omega)]; rfl]
            decide
        constructor <;> omega
      · cases h
theorem ax_nw_old (M : ax_M) (o : Nat) (f : Nat → Int) {b : Nat} (h : b < o) : ax_nw M o f b = M b := by
  funext k
  unfold ax_nw
  rw [if_neg (by omega)]
theorem ax_nw_at (M : ax_M) (o : Nat) (f : Nat → Int) : ax_nw M o f (o + 0) = f := by
  funext k
  unfold ax_nw
  rw [if_pos (by omega)]
theorem ax_nr_old (M : ax_M) (o n : Nat) {b : Nat} (h : b < o) : ax_nr M o n b = M b := by
  funext k
  unfold ax_nr
  rw [if_neg (by omega), if_neg (by omega)]
theorem ax_nr_at (M : ax_M) (o n k : Nat) : ax_nr M o n (o + 0) k = if k < n then ((o + 1 + k : Nat) : Int) else -1 := by
  unfold ax_nr
  rw [if_pos (by omega)]
theorem ax_nr_row (M : ax_M) (o n b k : Nat) : ax_nr M o n (o + (b + 1)) k = 0 := by
  unfold ax_nr
  rw [if_neg (by omega), if_pos (by omega)]
def ax_fine (sh : List ax_H) (S : ax_S) : Prop := (∃ t, S.2.2.2.1 = sh ++ t) ∧ ax_wm S.2.2.2.1 S.2.2.2.2 ∧ ax_ws S.2.2.2.1.length S.2.1 ∧ ax_ws S.2.2.2.1.length S.2.2.1
theorem ax_fine0 {sh : List ax_H} {M : ax_M} {i : Nat} {ll st : List ax_V} (hm : ax_wm sh M) (hl : ax_ws sh.length ll) (hs : ax_ws sh.length st) : ax_fine sh (i, ll, st, sh, M) := ⟨⟨[], by simp⟩, hm, hl, hs⟩
theorem ax_wstep {L : Nat} {X : Nat → Int} {j i : Nat} {o : ax_O} {ll st : List ax_V} {sh : List ax_H} {M : ax_M} {S : ax_S} (hX : ∀ k, ax_i (X k)) (hL : L ≤ 3072) (ho : ax_sml j o = true) (hm : ax_wm sh M) (hl : ax_ws sh.length ll) (hs : ax_ws sh.length st) (h : ax_step L X o i ll st sh M = some S) : ax_fine sh S := by
  obtain ⟨n, f, g, b⟩ := o
  match n, h, ho with
  | 0, h, ho =>
    cases h
    have ho := of_decide_eq_true ho
    exact ax_fine0 hm hl (ax_ws_c (ax_wI ho.2.1) hs)
  | 1, h, ho =>
    cases h
    have ho := of_decide_eq_true ho
    exact ax_fine0 hm hl (ax_ws_c (ax_wL ho.2.1) hs)
  | 2, h, ho =>
    cases h
    have ho := of_decide_eq_true ho
    have h2 : b < -1 := ho.2.1
    exact ax_fine0 hm hl (ax_ws_c (ax_wR (by omega)) hs)
  | 3, h, ho =>
    have h : ax_x3 f g i ll st sh M = some S := h
    unfold ax_x3 at h
    split at h
    · rename_i v hv
      split at h
      · cases h
        exact ax_fine0 hm hl (ax_ws_c (hl v (List.mem_of_getElem? hv)) hs)
      · cases h
    · cases h
  | 4, h, ho =>
    have h : ax_x4 f g i ll st sh M = some S := h
    cases st with
    | nil => cases h
    | cons v st0 =>
      have h : (if v.1 = f ∧ g + (if v.1 = 1 then 1 else 0) < ll.length then some (i + 1, ax_set ll g v, st0, sh, M) else none) = some S := h
      by_cases q : v.1 = f ∧ g + (if v.1 = 1 then 1 else 0) < ll.length
      · rw [if_pos q] at h
        cases h
        exact ax_fine0 hm (ax_wset (ax_ws_h hs) hl) (ax_ws_t hs)
      · rw [if_neg q] at h
        cases h
  | 5, h, ho =>
    have h : ax_x5 f b i ll st sh M = some S := h
    unfold ax_x5 at h
    split at h
    · split at h
      · rename_i q
        cases h
        exact ax_fine0 hm (ax_wset (ax_wI q) hl) hs
      · cases h
    · cases h
  | 6, h, ho =>
    have h : ax_x6 f i ll st sh M = some S := h
    unfold ax_x6 at h
    split at h
    · split at h
      · rename_i z hz
        cases h
        have h1 := (ax_ws_h (ax_ws_t hs)).1 rfl
        exact ax_fine0 hm hl (ax_ws_c (ax_wI (ax_ib_w h1 hz)) (ax_ws_t (ax_ws_t hs)))
      · cases h
    · cases h
  | 7, h, ho =>
    have h : ax_x7 f i ll st sh M = some S := h
    unfold ax_x7 at h
    split at h
    · split at h
      · rename_i z hz
        cases h
        have h1 := (ax_ws_h (ax_ws_t hs)).2.1 rfl
        exact ax_fine0 hm hl (ax_ws_c (ax_wL (ax_lb_w h1 hz)) (ax_ws_t (ax_ws_t hs)))
      · cases h
    · cases h
  | 8, h, ho =>
    have h : ax_x8 i ll st sh M = some S := h
    unfold ax_x8 at h
    split at h
    · split at h
      · rename_i q
        cases h
        exact ax_fine0 hm hl (ax_ws_c (ax_wI q) (ax_ws_t hs))
      · cases h
    · cases h
  | 9, h, ho =>
    have h : ax_x9 i ll st sh M = some S := h
    unfold ax_x9 at h
    split at h
    · cases h
      have h1 := (ax_ws_h hs).1 rfl
      exact ax_fine0 hm hl (ax_ws_c (ax_wL (by obtain ⟨p, q⟩ := h1; constructor <;> (dsimp only at p q; omega))) (ax_ws_t hs))
    · cases h
  | 10, h, ho =>
    have h : ax_x10 i ll st sh M = some S := h
    unfold ax_x10 at h
    split at h
    · split at h
      · rename_i q
        cases h
        exact ax_fine0 hm hl (ax_ws_c (ax_wI q) (ax_ws_t hs))
      · cases h
    · cases h
  | 11, h, ho =>
    have h : ax_x11 i ll st sh M = some S := h
    unfold ax_x11 at h
    split at h
    · cases h
      exact ax_fine0 hm hl (ax_ws_c (ax_wI (by unfold ax_cmp; split <;> (try split) <;> decide)) (ax_ws_t (ax_ws_t hs)))
    · cases h
  | 12, h, ho =>
    have h : ax_x12 f g i ll st sh M = some S := h
    unfold ax_x12 at h
    split at h
    · cases h
      exact ax_fine0 hm hl (ax_ws_t hs)
    · cases h
  | 13, h, ho =>
    have h : ax_x13 f g i ll st sh M = some S := h
    unfold ax_x13 at h
    split at h
    · cases h
      exact ax_fine0 hm hl (ax_ws_t (ax_ws_t hs))
    · cases h
  | 14, h, ho =>
    cases h
    exact ax_fine0 hm hl hs
  | 15, h, ho =>
    have h : ax_x15 f ll st sh M = some S := h
    unfold ax_x15 at h
    split at h
    · split at h
      · cases h
        exact ax_fine0 hm hl (ax_ws_t hs)
      · cases h
    · cases h
  | 16, h, ho =>
    have h : ax_x16 i ll st sh M = some S := h
    unfold ax_x16 at h
    split at h
    · split at h
      · cases h
        exact ax_fine0 hm hl (ax_ws_c (ax_ws_h hs) hs)
      · cases h
    · cases h
  | 17, h, ho =>
    have h : ax_x17 i ll st sh M = some S := h
    unfold ax_x17 at h
    split at h
    · split at h
      · cases h
        exact ax_fine0 hm hl (ax_ws_c (ax_ws_h hs) (ax_ws_c (ax_ws_h (ax_ws_t hs)) hs))
      · cases h
    · cases h
  | 18, h, ho =>
    have h : ax_x18 i ll st sh M = some S := h
    unfold ax_x18 at h
    split at h
    · split at h
      · cases h
        exact ax_fine0 hm hl (ax_ws_t hs)
      · cases h
    · cases h
  | 19, h, ho =>
    have h : ax_x19 f g i ll st sh M = some S := h
    unfold ax_x19 at h
    split at h
    · split at h
      · rename_i v hv
        cases h
        exact ax_fine0 hm hl (ax_ws_c (ax_get_w hm hv) (ax_ws_t hs))
      · cases h
    · cases h
  | 20, h, ho =>
    have h : ax_x20 f g i ll st sh M = some S := h
    unfold ax_x20 at h
    split at h
    · split at h
      · rename_i q
        cases h
        refine ax_fine0 (ax_wm_up hm (fun z hz => ?_)) hl (ax_ws_t (ax_ws_t hs))
        rw [q.2.1] at hz
        cases hz
        exact ⟨fun _ => ax_fs_w (ax_ws_h hs) q.2.2.2, fun e => (by cases e)⟩
      · cases h
    · cases h
  | 21, h, ho =>
    have h : ax_x21 L X f i ll st sh M = some S := h
    unfold ax_x21 at h
    split at h
    · split at h
      · rename_i v hv
        cases h
        exact ax_fine0 hm hl (ax_ws_c (ax_ald_w hX hm hv) (ax_ws_t (ax_ws_t hs)))
      · cases h
    · cases h
  | 22, h, ho =>
    have h : ax_x22 f i ll st sh M = some S := h
    unfold ax_x22 at h
    split at h
    · split at h
      · rename_i u n hu
        split at h
        · rename_i q
          cases h
          refine ax_fine0 (ax_wm_up hm (fun z hz => ?_)) hl (ax_ws_t (ax_ws_t (ax_ws_t hs)))
          rw [hu] at hz
          cases hz
          refine ⟨fun e => (by cases e), fun _ => ?_⟩
          show ax_we sh.length u _
          rw [q.2.1]
          exact ax_es_w (ax_ws_h hs) q.2.2.1
        · cases h
      · cases h
    · cases h
  | 23, h, ho =>
    have h : ax_x23 L i ll st sh M = some S := h
    unfold ax_x23 at h
    split at h
    · split at h
      · rename_i v hv
        cases h
        exact ax_fine0 hm hl (ax_ws_c (ax_wI (ax_aln_w hL hm hv)) (ax_ws_t hs))
      · cases h
    · cases h
  | 24, h, ho =>
    have h : ax_x24 f i ll st sh M = some S := h
    have ho : f ≤ 3 := of_decide_eq_true ho
    unfold ax_x24 at h
    split at h
    · split at h
      · rename_i q
        cases h
        refine ⟨⟨_, rfl⟩, ax_wm_add hm (fun b hb => ?_) (fun b z hz => ?_), ax_ws_le hl (by simp), ax_ws_c (ax_wR (by simp; omega)) (ax_ws_le (ax_ws_t hs) (by simp))⟩
        · exact ax_nw_old M sh.length _ hb
        · have hb : b < 1 := (List.getElem?_eq_some_iff.mp hz).1
          rw [show b = 0 by omega] at hz ⊢
          cases hz
          refine Or.inr ⟨rfl, (by show f ≤ 5; omega), (by show Int.toNat _ ≤ 10000; omega), fun k _ => ?_, fun h4 => absurd h4 (by show ¬ 4 ≤ f; omega)⟩
          show ax_we _ f (ax_nw M sh.length (fun _ => 0) (sh.length + 0) k)
          rw [ax_nw_at]
          exact ⟨fun _ => (by decide), fun _ => (by decide), fun _ => (by decide), fun _ => (by decide), fun e => (by omega)⟩
      · cases h
    · cases h
  | 25, h, ho =>
    have ho : f < 13 := of_decide_eq_true ho
    cases h
    refine ⟨⟨_, rfl⟩, ax_wm_add hm (fun b hb => ?_) (fun b z hz => ?_), ax_ws_le hl (by simp), ax_ws_c (ax_wR (by simp; omega)) (ax_ws_le hs (by simp))⟩
    · exact ax_nw_old M sh.length _ hb
    · have hb : b < 1 := (List.getElem?_eq_some_iff.mp hz).1
      rw [show b = 0 by omega] at hz ⊢
      cases hz
      refine Or.inl ⟨rfl, ho, rfl, fun k _ => ?_⟩
      show ax_wf _ (ax_fty f k) (ax_nw M sh.length (ax_df f) (sh.length + 0) k)
      rw [ax_nw_at]
      unfold ax_df
      split
      · rename_i e
        rw [e]
        exact ⟨fun e => (by cases e), fun e => (by cases e), fun _ => (by omega), fun e => (by cases e)⟩
      · rename_i e
        exact ⟨fun _ => (by decide), fun _ => (by decide), fun e2 => absurd e2 e, fun _ => (by decide)⟩
  | 26, h, ho =>
    have h : ax_x26 f i ll st sh M = some S := h
    have ho : f ≤ 1 := of_decide_eq_true ho
    unfold ax_x26 at h
    split at h
    · split at h
      · rename_i kk nn st0 hq1 hq0 q
        cases h
        refine ⟨⟨_, rfl⟩, ax_wm_add hm (fun b hb => ?_) (fun b z hz => ?_), ax_ws_le hl (by simp), ax_ws_c (ax_wR (by simp; omega)) (ax_ws_le (ax_ws_t (ax_ws_t hs)) (by simp))⟩
        · exact ax_nr_old M sh.length _ hb
        · cases b with
          | zero =>
            cases hz
            have hk : ∀ k, -1 ≤ ax_nr M sh.length nn.toNat (sh.length + 0) k ∧ ax_nr M sh.length nn.toNat (sh.length + 0) k < ((sh ++ (1, 4 + f, nn.toNat) :: List.replicate nn.toNat (1, f, kk.toNat)).length : Int) := by
              intro k
              rw [ax_nr_at]
              simp only [List.length_append, List.length_cons, List.length_replicate]
              split <;> omega
            exact Or.inr ⟨rfl, (by show 4 + f ≤ 5; omega), (by show Int.toNat _ ≤ 10000; omega), fun k _ => ⟨fun e => (by have e : 4 + f = 0 := e; omega), fun e => (by have e : 4 + f = 1 := e; omega), fun e => (by have e : 4 + f = 2 := e; omega), fun e => (by have e : 4 + f = 3 := e; omega), fun _ => hk k⟩, fun _ => hk⟩
          | succ b =>
            have hz : (List.replicate nn.toNat ((1, f, kk.toNat) : ax_H))[b]? = some z := hz
            have hz : z = (1, f, kk.toNat) := List.eq_of_mem_replicate (List.mem_of_getElem? hz)
            subst hz
            refine Or.inr ⟨rfl, (by show f ≤ 5; omega), (by show Int.toNat _ ≤ 10000; omega), fun k _ => ?_, fun h4 => absurd h4 (by show ¬ 4 ≤ f; omega)⟩
            show ax_we _ f (ax_nr M sh.length nn.toNat (sh.length + (b + 1)) k)
            rw [ax_nr_row]
            exact ⟨fun _ => (by decide), fun _ => (by decide), fun _ => (by decide), fun _ => (by decide), fun e => (by omega)⟩
      · cases h
    · cases h
  | 27, h, ho => cases h
  | 28, h, ho => cases h
  | 29, h, ho =>
    have h : ax_x29 i ll st sh M = some S := h
    unfold ax_x29 at h
    split at h
    · split at h
      · rename_i la lb hla hlb
        split at h
        · rename_i q
          cases h
          refine ax_fine0 (fun b z hz => ?_) hl (ax_ws_t (ax_ws_t (ax_ws_t (ax_ws_t (ax_ws_t hs)))))
          rcases hm b z hz with ⟨p, r, u, w⟩ | ⟨p, r, u, w, w4⟩
          · refine Or.inl ⟨p, r, u, fun k hk => ?_⟩
            unfold ax_cpy
            split
            · rename_i q2
              rw [q2.1, hlb] at hz
              cases hz
              cases p
            · exact w k hk
          · refine Or.inr ⟨p, r, u, fun k hk => ?_, fun h4 k => ?_⟩
            · unfold ax_cpy
              split
              · rename_i q2
                rw [q2.1, hlb] at hz
                cases hz
                rcases hm _ _ hla with ⟨p2, -⟩ | ⟨-, -, -, w2, -⟩
                · cases p2
                · exact w2 _ (by show _ < la; omega)
              · exact w k hk
            · unfold ax_cpy
              split
              · rename_i q2
                rw [q2.1, hlb] at hz
                cases hz
                exact absurd h4 (by show ¬ 4 ≤ 0; decide)
              · exact w4 h4 k
        · cases h
      · cases h
    · cases h
  | 30, h, ho =>
    have h : ax_x30 i ll st sh M = some S := h
    unfold ax_x30 at h
    split at h
    · split at h
      · cases h
        exact ax_fine0 hm hl (ax_ws_t hs)
      · cases h
    · cases h
  | 31, h, ho =>
    have h : ax_x31 i ll st sh M = some S := h
    unfold ax_x31 at h
    split at h
    · cases h
      exact ax_fine0 hm hl (ax_ws_c (ax_wI (by constructor <;> omega)) (ax_ws_t hs))
    · cases h
  | n + 32, h, ho => cases h
end
section
/-! a run keeps ranges -/
theorem ax_ok_at {j i : Nat} {o : ax_O} (hj : ax_okM j = true) (h : ax_at j i = some o) : ax_okI j i o = true := by
  have hi : i < (ax_code.getD j []).length := (List.getElem?_eq_some_iff.mp h).1
  have h1 := List.all_eq_true.mp hj i (List.mem_range.mpr hi)
  rw [h] at h1
  exact h1
theorem ax_ok_sml {j i : Nat} {o : ax_O} (hj : ax_okM j = true) (h : ax_at j i = some o) (h9 : o.1 ≠ 99) : ax_sml j o = true := by
  have h1 := ax_ok_at hj h
  unfold ax_okI at h1
  rw [decide_eq_false h9, Bool.false_or] at h1
  simp only [Bool.and_eq_true] at h1
  exact h1.1.1.2
theorem ax_went {n : Nat} : ∀ {vs : List ax_V}, ax_ws n vs → ax_ws n (ax_ent vs)
  | [], _ => ax_ws_n
  | v :: vs, h => by
    unfold ax_ent
    split
    · exact ax_ws_c (ax_ws_h h) (ax_ws_c ax_wU (ax_went (ax_ws_t h)))
    · exact ax_ws_c (ax_ws_h h) (ax_went (ax_ws_t h))
theorem ax_wloc {n k : Nat} {vs : List ax_V} (h : ax_ws n vs) : ax_ws n (ax_loc vs k) := fun v hv => by
  rcases List.mem_append.mp hv with hv | hv
  · exact ax_went h v hv
  · rw [List.eq_of_mem_replicate hv]
    exact ax_wU
theorem ax_wret {n k : Nat} {st r : List ax_V} (hs : ax_ws n st) (h : ax_ret k st = some r) : ax_ws n r := by
  unfold ax_ret at h
  split at h
  · cases h; exact hs
  · cases h; exact hs
  · cases h; exact hs
  · split at h
    · cases h; exact hs
    · cases h
  · split at h
    · cases h; exact hs
    · cases h
  · split at h
    · cases h; exact hs
    · cases h
  · cases h
theorem ax_wapp {n : Nat} {as bs : List ax_V} (ha : ax_ws n as) (hb : ax_ws n bs) : ax_ws n (as ++ bs) := fun v hv => by
  rcases List.mem_append.mp hv with h | h
  · exact ha v h
  · exact hb v h
theorem ax_wtake {n k : Nat} {st : List ax_V} (hs : ax_ws n st) : ax_ws n (st.take k).reverse := fun v hv => hs v (List.mem_of_mem_take (List.mem_reverse.mp hv))
theorem ax_wdrop {n k : Nat} {st : List ax_V} (hs : ax_ws n st) : ax_ws n (st.drop k) := fun v hv => hs v (List.mem_of_mem_drop hv)
theorem ax_wrun {L : Nat} {X : Nat → Int} (hX : ∀ k, ax_i (X k)) (hL : L ≤ 3072) (hok : ∀ j : Nat, j < 316 → ax_okM j = true) : ∀ (n d j i : Nat) (ll st : List ax_V) (sh : List ax_H) (M : ax_M) (r : List ax_V) (sh' : List ax_H) (M' : ax_M), j < 316 → ax_wm sh M → ax_ws sh.length ll → ax_ws sh.length st → ax_run L X n d j i ll st sh M = some (r, sh', M') → (∃ t, sh' = sh ++ t) ∧ ax_wm sh' M' ∧ ax_ws sh'.length r := by
  intro n
  induction n with
  | zero => intro d j i ll st sh M r sh' M' hj hm hl hs h; cases h
  | succ n ih =>
    intro d j i ll st sh M r sh' M' hj hm hl hs h
    unfold ax_run at h
    cases ho : ax_at j i with
    | none => rw [ho] at h; cases h
    | some o =>
      rw [ho] at h
      dsimp only at h
      by_cases h28 : o.1 = 28
      · rw [if_pos h28] at h
        cases hr : ax_ret o.2.1 st with
        | none => rw [hr] at h; cases h
        | some r0 =>
          rw [hr] at h
          cases h
          exact ⟨⟨[], by simp⟩, hm, ax_wret hs hr⟩
      · rw [if_neg h28] at h
        by_cases h27 : o.1 = 27
        · rw [if_pos h27] at h
          cases d with
          | zero => cases h
          | succ d =>
            dsimp only at h
            have hsm : ax_sml j o = true := ax_ok_sml (hok j hj) ho (by rw [h27]; decide)
            have hc : o.2.1 < 316 := by
              obtain ⟨a, b, c, e⟩ := o
              have h27 : a = 27 := h27
              subst h27
              have h9 : b < 315 := (of_decide_eq_true hsm).1
              show b < 316
              omega
            split at h
            · cases h1 : ax_run L X n d o.2.1 0 (ax_loc (st.take o.2.2.1).reverse (ax_ml o.2.1)) [] sh M with
              | none => rw [h1] at h; cases h
              | some q =>
                obtain ⟨r1, sh1, M1⟩ := q
                rw [h1] at h
                dsimp only at h
                obtain ⟨⟨t1, e1⟩, hm1, hr1⟩ := ih d o.2.1 0 _ [] sh M r1 sh1 M1 hc hm (ax_wloc (ax_wtake hs)) ax_ws_n h1
                have hle : sh.length ≤ sh1.length := by rw [e1]; simp
                obtain ⟨⟨t2, e2⟩, hm2, hr2⟩ := ih (d + 1) j (i + 1) ll (r1 ++ st.drop o.2.2.1) sh1 M1 r sh' M' hj hm1 (ax_ws_le hl hle) (ax_wapp hr1 (ax_wdrop (ax_ws_le hs hle))) h
                exact ⟨⟨t1 ++ t2, by rw [e2, e1, List.append_assoc]⟩, hm2, hr2⟩
            · cases h
        · rw [if_neg h27] at h
          cases h1 : ax_step L X o i ll st sh M with
          | none => rw [h1] at h; cases h
          | some S =>
            obtain ⟨i', ll', st', sh1, M1⟩ := S
            rw [h1] at h
            dsimp only at h
            have h9 : o.1 ≠ 99 := fun e => by
              obtain ⟨a, b, c, f⟩ := o
              have e : a = 99 := e
              subst e
              cases h1
            obtain ⟨⟨t1, e1⟩, hm1, hl1, hs1⟩ := ax_wstep hX hL (ax_ok_sml (hok j hj) ho h9) hm hl hs h1
            obtain ⟨⟨t2, e2⟩, hm2, hr2⟩ := ih d j i' ll' st' sh1 M1 r sh' M' hj hm1 hl1 hs1 h
            have e1 : sh1 = sh ++ t1 := e1
            exact ⟨⟨t1 ++ t2, by rw [e2, e1, List.append_assoc]⟩, hm2, hr2⟩
/-! values, locals and cells of the machine that stand for those of the small one -/
def ax_cv (cad : Int → Value) (ad : Nat → Nat) (v : ax_V) : Value :=
  if v.1 = 0 then .int (Int32.ofInt v.2) else if v.1 = 1 then .long (Int64.ofInt v.2)
  else if v.1 = 2 then (if 0 ≤ v.2 then .ref (ad v.2.toNat) else if v.2 = -1 then .null else cad v.2) else .null
theorem ax_cI (cad : Int → Value) (ad : Nat → Nat) (x : Int) : ax_cv cad ad (0, x) = .int (Int32.ofInt x) := rfl
theorem ax_cL (cad : Int → Value) (ad : Nat → Nat) (x : Int) : ax_cv cad ad (1, x) = .long (Int64.ofInt x) := rfl
theorem ax_cR (cad : Int → Value) (ad : Nat → Nat) {x : Int} (h : 0 ≤ x) : ax_cv cad ad (2, x) = .ref (ad x.toNat) := by
  show (if 0 ≤ x then Value.ref (ad x.toNat) else _) = _
  rw [if_pos h]
theorem ax_cK (cad : Int → Value) (ad : Nat → Nat) {x : Int} (h : x < -1) : ax_cv cad ad (2, x) = cad x := by
  show (if 0 ≤ x then Value.ref (ad x.toNat) else if x = -1 then .null else cad x) = _
  rw [if_neg (by omega), if_neg (by omega)]
theorem ax_cref {cad : Int → Value} (hcad : ∀ x, cad x = .null ∨ ∃ q, cad x = .ref q) (ad : Nat → Nat) (x : Int) : ax_cv cad ad (2, x) = .null ∨ ∃ q, ax_cv cad ad (2, x) = .ref q := by
  show (if 0 ≤ x then Value.ref (ad x.toNat) else if x = -1 then .null else cad x) = .null ∨ ∃ q, (if 0 ≤ x then Value.ref (ad x.toNat) else if x = -1 then .null else cad x) = .ref q
  split
  · exact Or.inr ⟨_, rfl⟩
  · split
    · exact Or.inl rfl
    · exact hcad x
theorem ax_ccat {cad : Int → Value} (hcad : ∀ x, cad x = .null ∨ ∃ q, cad x = .ref q) (ad : Nat → Nat) (v : ax_V) : (ax_cv cad ad v).category = if v.1 = 1 then 2 else 1 := by
  obtain ⟨t, x⟩ := v
  by_cases h0 : t = 0
  · subst h0; rfl
  · by_cases h1 : t = 1
    · subst h1; rfl
    · show (ax_cv cad ad (t, x)).category = if t = 1 then 2 else 1
      rw [if_neg h1]
      by_cases h2 : t = 2
      · subst h2
        rcases ax_cref hcad ad x with e | ⟨q, e⟩ <;> rw [e] <;> rfl
      · have : ax_cv cad ad (t, x) = .null := by
          show (if t = 0 then _ else if t = 1 then _ else if t = 2 then _ else Value.null) = _
          rw [if_neg h0, if_neg h1, if_neg h2]
        rw [this]
        rfl
theorem ax_cv_ad {cad : Int → Value} {ad ad' : Nat → Nat} {n : Nat} {v : ax_V} (h : ∀ a, a < n → ad' a = ad a) (hv : ax_wv n v) : ax_cv cad ad' v = ax_cv cad ad v := by
  obtain ⟨t, x⟩ := v
  match t, hv with
  | 0, _ => rfl
  | 1, _ => rfl
  | t + 3, _ => rfl
  | 2, hv =>
    by_cases hx : 0 ≤ x
    · rw [ax_cR _ _ hx, ax_cR _ _ hx, h _ (by have := hv.2.2 rfl; dsimp only at this; omega)]
    · show (if 0 ≤ x then Value.ref (ad' x.toNat) else if x = -1 then .null else cad x) = (if 0 ≤ x then Value.ref (ad x.toNat) else if x = -1 then .null else cad x)
      rw [if_neg hx, if_neg hx]
def ax_lv (cad : Int → Value) (ad : Nat → Nat) (ls : Array Slot) (nL : Nat) (ll : List ax_V) : Prop := ls.size = nL ∧ lv_wf ls ∧ ll.length = nL ∧ ∀ (k : Nat) (v : ax_V), ll[k]? = some v → v.1 < 3 → ls[k]? = some (.val (ax_cv cad ad v))
def ax_as (cad : Int → Value) (ad : Nat → Nat) (ll : List ax_V) : List (Nat × Value) := (List.range ll.length).filterMap (fun k => match ll[k]? with
  | some v => if v.1 < 3 then some (k, ax_cv cad ad v) else none
  | none => none)
theorem ax_as_in {cad : Int → Value} {ad : Nat → Nat} {ll : List ax_V} {k : Nat} {v : ax_V} (h : ll[k]? = some v) (ht : v.1 < 3) : (k, ax_cv cad ad v) ∈ ax_as cad ad ll := by
  refine List.mem_filterMap.mpr ⟨k, List.mem_range.mpr (List.getElem?_eq_some_iff.mp h).1, ?_⟩
  rw [h]
  dsimp only
  rw [if_pos ht]
theorem ax_lv_as {cad : Int → Value} {ad : Nat → Nat} {ls : Array Slot} {nL : Nat} {ll : List ax_V} (h : ax_lv cad ad ls nL ll) : lv_has ls nL (ax_as cad ad ll) := by
  refine ⟨h.1, h.2.1, fun q hq => ?_⟩
  obtain ⟨k, -, hk⟩ := List.mem_filterMap.mp hq
  cases hv : ll[k]? with
  | none => rw [hv] at hk; cases hk
  | some v =>
    rw [hv] at hk
    dsimp only at hk
    split at hk
    · rename_i ht
      cases hk
      exact h.2.2.2 k v hv ht
    · cases hk
theorem ax_set_at {ll : List ax_V} {i k : Nat} {v w : ax_V} (h : (ax_set ll i v)[k]? = some w) (hw : w.1 < 3) : (k = i ∧ w = v) ∨ (k ≠ i ∧ ll[k]? = some w ∧ (v.1 = 1 → k ≠ i + 1) ∧ ¬ (k + 1 = i ∧ w.1 = 1)) := by
  have h2 : ∀ w, w.1 < 3 → (if v.1 = 1 then (ll.set i v).set (i + 1) (3, 0) else ll.set i v)[k]? = some w → (k = i ∧ w = v) ∨ (k ≠ i ∧ ll[k]? = some w ∧ (v.1 = 1 → k ≠ i + 1)) := by
    intro w hw h
    have h1 : ∀ w, (ll.set i v)[k]? = some w → (k = i ∧ w = v) ∨ (k ≠ i ∧ ll[k]? = some w) := by
      intro w h
      by_cases e : k = i
      · subst e
        left
        refine ⟨rfl, ?_⟩
        have hl : k < ll.length := by
          have := (List.getElem?_eq_some_iff.mp h).1
          simpa using this
        rw [List.getElem?_set_self hl] at h
        exact (Option.some.inj h).symm
      · rw [List.getElem?_set_ne (fun q => e q.symm)] at h
        exact Or.inr ⟨e, h⟩
    split at h
    · rename_i hv1
      by_cases e : k = i + 1
      · subst e
        have hl : i + 1 < (ll.set i v).length := by
          have := (List.getElem?_eq_some_iff.mp h).1
          simpa using this
        rw [List.getElem?_set_self hl] at h
        have := Option.some.inj h
        subst this
        exact absurd hw (by decide)
      · rw [List.getElem?_set_ne (fun q => e q.symm)] at h
        rcases h1 w h with h | h
        · exact Or.inl h
        · exact Or.inr ⟨h.1, h.2, fun _ => e⟩
    · rename_i hv1
      rcases h1 w h with h | h
      · exact Or.inl h
      · exact Or.inr ⟨h.1, h.2, fun q => absurd q hv1⟩
  cases i with
  | zero =>
    rcases h2 w hw h with h | h
    · exact Or.inl h
    · exact Or.inr ⟨h.1, h.2.1, h.2.2, fun q => by omega⟩
  | succ i0 =>
    unfold ax_set at h
    dsimp only at h
    split at h
    · rename_i x0 he
      by_cases e : k = i0
      · subst e
        have hl : k < (if v.1 = 1 then (ll.set (k + 1) v).set (k + 1 + 1) (3, 0) else ll.set (k + 1) v).length := by
          have := (List.getElem?_eq_some_iff.mp h).1
          simpa using this
        rw [List.getElem?_set_self hl] at h
        have := Option.some.inj h
        subst this
        exact absurd hw (by decide)
      · rw [List.getElem?_set_ne (fun q => e q.symm)] at h
        rcases h2 w hw h with h | h
        · exact Or.inl h
        · exact Or.inr ⟨h.1, h.2.1, h.2.2, fun q => by omega⟩
    · rename_i he
      rcases h2 w hw h with h | h
      · exact Or.inl h
      · refine Or.inr ⟨h.1, h.2.1, h.2.2, fun q => ?_⟩
        obtain ⟨t, x⟩ := w
        have q1 : k = i0 := by omega
        have q2 : t = 1 := q.2
        subst q1; subst q2
        exact he x h.2.1
theorem ax_lv_st1 {cad : Int → Value} (hcad : ∀ x, cad x = .null ∨ ∃ q, cad x = .ref q) {ad : Nat → Nat} {ls ls' : Array Slot} {nL i : Nat} {ll : List ax_V} {v : ax_V} {u : Value} (hu : ax_cv cad ad v = u) (hl : ll.length = nL) (h : lv_has ls' nL ((i, u) :: (ax_as cad ad ll).filter (fun q => !(q.1 == i) && !(q.1 + 1 == i && q.2.category == 2)))) : ax_lv cad ad ls' nL (ax_set ll i v) := by
  refine ⟨h.1, h.2.1, by rw [ax_set_len]; exact hl, fun k w hk hw => ?_⟩
  rcases ax_set_at hk hw with ⟨rfl, rfl⟩ | ⟨e1, e2, -, e4⟩
  · rw [hu]
    exact h.2.2 _ List.mem_cons_self
  · refine h.2.2 (k, ax_cv cad ad w) (List.mem_cons_of_mem _ (List.mem_filter.mpr ⟨ax_as_in e2 hw, ?_⟩))
    have h1 : (k == i) = false := by simpa using e1
    simp only [h1, Bool.not_false, Bool.true_and, Bool.not_eq_true', Bool.and_eq_false_iff, beq_eq_false_iff_ne, ne_eq]
    by_cases hk1 : k + 1 = i
    · right
      rw [ax_ccat hcad, if_neg (fun q => e4 ⟨hk1, q⟩)]
      decide
    · exact Or.inl hk1
theorem ax_lv_st2 {cad : Int → Value} (hcad : ∀ x, cad x = .null ∨ ∃ q, cad x = .ref q) {ad : Nat → Nat} {ls' : Array Slot} {nL i : Nat} {ll : List ax_V} {v : ax_V} {u : Value} (hv : v.1 = 1) (hu : ax_cv cad ad v = u) (hl : ll.length = nL) (h : lv_has ls' nL ((i, u) :: (ax_as cad ad ll).filter (fun q => !(q.1 == i) && (!(q.1 == i + 1) && !(q.1 + 1 == i && q.2.category == 2))))) : ax_lv cad ad ls' nL (ax_set ll i v) := by
  refine ⟨h.1, h.2.1, by rw [ax_set_len]; exact hl, fun k w hk hw => ?_⟩
  rcases ax_set_at hk hw with ⟨rfl, rfl⟩ | ⟨e1, e2, e3, e4⟩
  · rw [hu]
    exact h.2.2 _ List.mem_cons_self
  · refine h.2.2 (k, ax_cv cad ad w) (List.mem_cons_of_mem _ (List.mem_filter.mpr ⟨ax_as_in e2 hw, ?_⟩))
    have h1 : (k == i) = false := by simpa using e1
    have h2 : (k == i + 1) = false := by simpa using e3 hv
    simp only [h1, h2, Bool.not_false, Bool.true_and, Bool.not_eq_true', Bool.and_eq_false_iff, beq_eq_false_iff_ne, ne_eq]
    by_cases hk1 : k + 1 = i
    · right
      rw [ax_ccat hcad, if_neg (fun q => e4 ⟨hk1, q⟩)]
      decide
    · exact Or.inl hk1
end
section
/-! the words of the tables that links and methods stand on -/
/-- those of them that hold in every later state too -/
def ax_tb : List Cond := lw_tbl.filter goodWord
def ax_cn (o : Nat) : String := ax_nm.getD o ""
def ax_cl (c : Nat) : vw_C := vwCl.getD c ("", TX0, 0)
def ax_wd (o : Nat) (t : Nat × Nat × Nat × Int) : Cond :=
  match t.1 with
  | 0 => .constant (ax_cn o) t.2.1 (Int32.ofInt t.2.2.2)
  | 1 => .constantLong (ax_cn o) t.2.1 (Int64.ofInt t.2.2.2)
  | 2 => .stringRef (ax_cn o) t.2.1 (ax_tx.getD (ax_sx t.2.2.2) ("", [])).1
  | 3 => if t.2.2.2 = 1 then .fieldLink (ax_cn o) t.2.1 "java/lang/String" "COMPACT_STRINGS" "Z" else if t.2.2.2 = -3 then .fieldLink (ax_cn o) t.2.1 "FireDrill$HouseReader" "MOST_OF" "[I" else .fieldLink (ax_cn o) t.2.1 "jdk/internal/util/Preconditions" "SIOOBE_FORMATTER" "Ljava/util/function/BiFunction;"
  | 4 => .fieldLink (ax_cn o) t.2.1 ((ax_cl t.2.2.1).2.1 t.2.2.2.toNat).1 ((ax_cl t.2.2.1).2.1 t.2.2.2.toNat).2.1 ((ax_cl t.2.2.1).2.1 t.2.2.2.toNat).2.2.1
  | 5 => if t.2.2.2 = 0 then .fieldLink (ax_cn o) t.2.1 "java/lang/String" "value" "[B" else .fieldLink (ax_cn o) t.2.1 "java/lang/String" "coder" "B"
  | 6 => .classLink (ax_cn o) t.2.1 (ax_cl t.2.2.1).1
  | 7 => if t.2.2.1 = 0 then .classLink (ax_cn o) t.2.1 "[[I" else .classLink (ax_cn o) t.2.1 "[[J"
  | 8 => .methodLink (ax_cn o) t.2.1 (ax_inf t.2.2.1).2.1
  | 9 => .methodLinkNest (ax_cn o) t.2.1 (ax_inf t.2.2.1).2.1 "FireDrill"
  | 10 => .methodLink (ax_cn o) t.2.1 ⟨"java/lang/System", "arraycopy", "(Ljava/lang/Object;ILjava/lang/Object;II)V"⟩
  | _ => .methodLink (ax_cn o) t.2.1 objectInit
def ax_mw (j : Nat) : List Cond :=
  let y := (ax_inf j).2.1
  let w : List Cond := [.code y (ax_inf j).2.2.1 (ax_ml j) (ax_inf j).2.2.2.2.1, .initialized y.cls]
  match ax_kd j with
  | 0 => w ++ [.static y]
  | 1 => w ++ [.instanceMethod y, .selects y.cls y y]
  | _ => w ++ [.instanceMethod y]
/-- what is plain of a method's name -/
def ax_mp (j : Nat) : Bool :=
  let y := (ax_inf j).2.1
  plainFor y && decide (y.cls ≠ "java/lang/invoke/MethodHandle") && decide (y.cls ≠ "java/lang/invoke/VarHandle") && decide ((parseMethodDescriptor y.desc).map (fun d => d.parameters.length) = some (ax_inf j).2.2.2.2.2.1) && decide (y.cls = ax_cn (ax_own j)) && decide (ax_kd j = 2 → y.name = "<init>") && decide (ax_ml j ≤ 11) && decide (ax_kd j ≤ 2) && decide (ax_kd j = 1 → ax_own j < 13 ∨ ax_own j = 14) && decide (ax_kd j = 2 → (ax_inf j).2.2.2.2.1 = none) && (match (ax_inf j).2.2.2.2.2.2.2 with
    | 0 => decide ((ax_inf j).2.2.2.2.1 = some .int)
    | 1 => decide ((ax_inf j).2.2.2.2.1 = some .long)
    | 2 => decide ((ax_inf j).2.2.2.2.1 = none)
    | 3 => decide ((ax_inf j).2.2.2.2.1 = some .boolean)
    | 4 => decide ((ax_inf j).2.2.2.2.1 = some .char)
    | 5 => decide ((ax_inf j).2.2.2.2.1 = some .byte)
    | _ => false)
/-- the law's number among the methods -/
def ax_law : Nat := 315
/-- the kind of a field's type -/
def ax_tk (t : FieldType) : Nat := match t with
  | .int => 0
  | .long => 1
  | .boolean => 3
  | .object _ => 2
  | .array _ => 2
  | _ => 9
def ax_fT (c k : Nat) : FieldType := (parseFieldDescriptor ((ax_cl c).2.1 k).2.2.1).getD .int
/-- what was looked up of a class -/
def ax_cok (c : Nat) : Prop := (ax_cl c).2.2 = ax_fl c ∧ (ax_cl c).1 = ax_cn c ∧ (∀ w ∈ u_ws (ax_cl c).1 (ax_cl c).2.1 (ax_cl c).2.2, w ∈ ax_tb) ∧ Cond.instantiable (ax_cl c).1 (ax_cl c).2.2 ∈ ax_tb ∧ Cond.initialized (ax_cl c).1 ∈ ax_tb ∧ (∀ k, k < (ax_cl c).2.2 → parseFieldDescriptor ((ax_cl c).2.1 k).2.2.1 = some (ax_fT c k) ∧ ax_tk (ax_fT c k) = ax_fty c k ∧ ((ax_cl c).2.1 k).1 = ax_cn c) ∧ (∀ a, a < (ax_cl c).2.2 → ∀ b, b < (ax_cl c).2.2 → a ≠ b → ((ax_cl c).2.1 a).2.1 ≠ ((ax_cl c).2.1 b).2.1)
/-- words of arrays and of the JDK -/
def ax_jw : List Cond := [.arrayClass .int, .arrayClass .long, .arrayClass .char, .arrayClass .boolean, .native ⟨"java/lang/System", "arraycopy", "(Ljava/lang/Object;ILjava/lang/Object;II)V"⟩, .static ⟨"java/lang/System", "arraycopy", "(Ljava/lang/Object;ILjava/lang/Object;II)V"⟩, .initialized "java/lang/System", .instanceMethod objectInit, .code objectInit ⟨#[0xb1]⟩ 1 none]
/-- all that was looked up -/
def ax_OK : Prop := (∀ c : Nat, c < 13 → ax_cok c) ∧ (∀ w ∈ ax_jw, w ∈ ax_tb) ∧ (∀ j : Nat, j < 316 → ax_okM j = true) ∧ (∀ (o : Nat) (t : Nat × Nat × Nat × Int), t ∈ ax_lk.getD o [] → t.1 ≠ 9 → t.1 ≠ 2 → ax_wd o t ∈ ax_tb) ∧ (∀ j : Nat, j < 316 → j ≠ ax_law → ∀ w ∈ ax_mw j, w ∈ ax_tb) ∧ (∀ j : Nat, j < 316 → ax_mp j = true)
/-! numbers -/
theorem ax_n32 {x : Int} (h : ax_i x) : (Int32.ofInt x).toInt = x := Int32.toInt_ofInt_of_le (by have := h.1; omega) (by have := h.2; omega)
theorem ax_n64 {x : Int} (h : ax_l x) : (Int64.ofInt x).toInt = x := Int64.toInt_ofInt_of_le (by have := h.1; omega) (by have := h.2; omega)
theorem ax_eqI {x y : Int} (hx : ax_i x) (hy : ax_i y) : Int32.ofInt x = Int32.ofInt y ↔ x = y := by
  rw [← Int32.toInt_inj, ax_n32 hx, ax_n32 hy]
theorem ax_ltI {x y : Int} (hx : ax_i x) (hy : ax_i y) : Int32.ofInt x < Int32.ofInt y ↔ x < y := by
  rw [Int32.lt_iff_toInt_lt, ax_n32 hx, ax_n32 hy]
theorem ax_leI {x y : Int} (hx : ax_i x) (hy : ax_i y) : Int32.ofInt x ≤ Int32.ofInt y ↔ x ≤ y := by
  rw [Int32.le_iff_toInt_le, ax_n32 hx, ax_n32 hy]
theorem ax_i0 : ax_i 0 := by decide
theorem ax_z0 : (0 : Int32) = Int32.ofInt 0 := rfl
theorem ax_byte {x : Int} (h1 : -128 ≤ x) (h2 : x < 128) : (Int8.ofInt x).toInt32 = Int32.ofInt x := Int8.toInt32_ofInt (by show (-128 : Int) ≤ x; exact h1) (by show x ≤ (127 : Int); omega)
theorem ax_short {x : Int} (h1 : -32768 ≤ x) (h2 : x < 32768) : (Int16.ofInt x).toInt32 = Int32.ofInt x := Int16.toInt32_ofInt (by show (-32768 : Int) ≤ x; exact h1) (by show x ≤ (32767 : Int); omega)
theorem ax_wide {x : Int} (h : ax_i x) : (Int32.ofInt x).toInt64 = Int64.ofInt x := Int32.toInt64_ofInt (by show (-2147483648 : Int) ≤ x; exact h.1) (by show x ≤ (2147483647 : Int); have := h.2; omega)
theorem ax_divI {x y : Int} (hx : ax_i x) (hy : ax_i y) : Int32.ofInt x / Int32.ofInt y = Int32.ofInt (x.tdiv y) := (Int32.ofInt_tdiv (by show (-2147483648 : Int) ≤ x; exact hx.1) (by show x ≤ (2147483647 : Int); have := hx.2; omega) (by show (-2147483648 : Int) ≤ y; exact hy.1) (by show y ≤ (2147483647 : Int); have := hy.2; omega)).symm
theorem ax_divL {x y : Int} (hx : ax_l x) (hy : ax_l y) : Int64.ofInt x / Int64.ofInt y = Int64.ofInt (x.tdiv y) := (Int64.ofInt_tdiv (by show (-9223372036854775808 : Int) ≤ x; exact hx.1) (by show x ≤ (9223372036854775807 : Int); have := hx.2; omega) (by show (-9223372036854775808 : Int) ≤ y; exact hy.1) (by show y ≤ (9223372036854775807 : Int); have := hy.2; omega)).symm
theorem ax_remI {x y : Int} (hx : ax_i x) (hy : ax_i y) : Int32.ofInt x - Int32.ofInt x / Int32.ofInt y * Int32.ofInt y = Int32.ofInt (x.tmod y) := by
  rw [ax_divI hx hy, ← Int32.ofInt_mul, ← Int32.ofInt_sub]
  congr 1
  have := Int.mul_tdiv_add_tmod x y
  have h2 := Int.mul_comm y (x.tdiv y)
  omega
theorem ax_remL {x y : Int} (hx : ax_l x) (hy : ax_l y) : Int64.ofInt x - Int64.ofInt x / Int64.ofInt y * Int64.ofInt y = Int64.ofInt (x.tmod y) := by
  rw [ax_divL hx hy, ← Int64.ofInt_mul, ← Int64.ofInt_sub]
  congr 1
  have := Int.mul_tdiv_add_tmod x y
  have h2 := Int.mul_comm y (x.tdiv y)
  omega
theorem ax_cmpL {x y : Int} (hx : ax_l x) (hy : ax_l y) : lg_cmp (Int64.ofInt x) (Int64.ofInt y) = Int32.ofInt (ax_cmp x y) := by
  unfold lg_cmp ax_cmp
  simp only [gt_iff_lt, Int64.lt_iff_toInt_lt, ← Int64.toInt_inj, ax_n64 hx, ax_n64 hy]
  split
  · rfl
  · split
    · rfl
    · rfl
theorem ax_clamp {x : Int} (h : ax_i x) : (Int32.ofInt x).toNatClampNeg = x.toNat := Int32.toNatClampNeg_ofInt_of_le (by have := h.1; omega) (by have := h.2; omega)
theorem ax_in {x : Int} {n : Nat} (h : ax_i x) (h0 : 0 ≤ x) (hn : x < n) : vp_in (Int32.ofInt x) n := by
  rw [vp_in_iff, ax_n32 h]
  exact ⟨h0, hn⟩
end
section
/-! words by their places -/
def ax_ck (o : Nat) (ps : List Nat) : Bool := (List.range (ax_lk.getD o []).length).all (fun i => match (ax_lk.getD o [])[i]? with
  | some t => decide (t.1 = 9) || decide (t.1 = 2) || (decide (lw_tbl[ps.getD i 0]? = some (ax_wd o t)) && goodWord (ax_wd o t))
  | none => true)
theorem ax_ck_use {o : Nat} {ps : List Nat} (h : ax_ck o ps = true) {t : Nat × Nat × Nat × Int} (ht : t ∈ ax_lk.getD o []) (h9 : t.1 ≠ 9) (h2 : t.1 ≠ 2) : ax_wd o t ∈ ax_tb := by
  obtain ⟨i, hi⟩ := List.getElem?_of_mem ht
  have h1 := List.all_eq_true.mp h i (List.mem_range.mpr (List.getElem?_eq_some_iff.mp hi).1)
  rw [hi] at h1
  dsimp only at h1
  rw [decide_eq_false h9, decide_eq_false h2, Bool.false_or, Bool.false_or, Bool.and_eq_true] at h1
  exact List.mem_filter.mpr ⟨List.mem_of_getElem? (of_decide_eq_true h1.1), h1.2⟩
def bq : List UInt8 → List UInt8 → Bool
  | [], [] => true
  | x :: a, y :: b => Nat.beq x.toNat y.toNat && bq a b
  | _, _ => false
theorem bq_eq : ∀ {a b : List UInt8}, bq a b = true → a = b
  | [], [], _ => rfl
  | x :: a, y :: b, h => by
    unfold bq at h
    rw [Bool.and_eq_true] at h
    rw [UInt8.toNat_inj.mp (Nat.eq_of_beq_eq_true h.1), bq_eq h.2]
  | [], _ :: _, h => by cases h
  | _ :: _, [], h => by cases h
def cq (c d : Cond) : Bool := match c, d with
  | .code y b m r, .code y' b' m' r' => decide (y = y') && bq b.data.toList b'.data.toList && decide (m = m') && decide (r = r')
  | c, d => decide (c = d)
theorem cq_eq {c d : Cond} (h : cq c d = true) : c = d := by
  unfold cq at h
  split at h
  · rename_i y b m r y' b' m' r'
    simp only [Bool.and_eq_true, decide_eq_true_eq] at h
    obtain ⟨⟨⟨h1, h2⟩, h3⟩, h4⟩ := h
    have h5 : b = b' := by
      obtain ⟨⟨l⟩⟩ := b
      obtain ⟨⟨l'⟩⟩ := b'
      have := bq_eq h2
      dsimp only at this
      rw [this]
    rw [h1, h5, h3, h4]
  · exact of_decide_eq_true h
def ax_cw (ws : List Cond) (ps : List Nat) : Bool := (List.range ws.length).all (fun i => match ws[i]? with
  | some w => (match lw_tbl[ps.getD i 0]? with | some w' => cq w' w | none => false) && goodWord w
  | none => true)
theorem ax_cw_use {ws : List Cond} {ps : List Nat} (h : ax_cw ws ps = true) {w : Cond} (hw : w ∈ ws) : w ∈ ax_tb := by
  obtain ⟨i, hi⟩ := List.getElem?_of_mem hw
  have h1 := List.all_eq_true.mp h i (List.mem_range.mpr (List.getElem?_eq_some_iff.mp hi).1)
  rw [hi] at h1
  dsimp only at h1
  rw [Bool.and_eq_true] at h1
  obtain ⟨h2, h3⟩ := h1
  split at h2
  · rename_i w' hw'
    rw [cq_eq h2] at hw'
    exact List.mem_filter.mpr ⟨List.mem_of_getElem? hw', h3⟩
  · cases h2
theorem ax_ck0 : ax_ck 0 [546, 549, 553, 547, 554, 318, 491, 1148, 1149, 1150, 551, 1151, 1155] = true := by decide +kernel
theorem ax_ck1 : ax_ck 1 [477, 479, 481, 484, 478, 486, 488, 490, 496, 497, 498, 499, 998, 999, 1003, 494, 1011, 1053, 308, 439, 343, 335, 339, 944, 320, 350, 1007, 1015, 433, 1018, 1044, 359, 363, 368, 1022, 1048, 1052, 1057, 375, 437, 357, 1060, 380, 1136, 371] = true := by decide +kernel
theorem ax_ck2 : ax_ck 2 [256, 257, 260, 258, 259, 261, 833, 890, 842, 851, 852, 837, 889, 841, 846, 853, 857, 858, 863, 864, 885, 196, 850, 868, 872, 192, 876, 202, 877, 878, 879, 883, 884] = true := by decide +kernel
theorem ax_ck3 : ax_ck 3 [458, 459, 461, 462, 1235, 463, 1236, 1265] = true := by decide +kernel
theorem ax_ck4 : ax_ck 4 [293, 325, 328, 331, 334, 338, 342, 346, 349, 353, 358, 362, 294, 295, 366, 369, 296, 304, 307, 313, 319, 240, 300, 372, 376, 381, 777, 798] = true := by decide +kernel
theorem ax_ck5 : ax_ck 5 [277, 280, 278, 279, 681, 682, 190, 694, 905, 194, 751, 698, 699, 755, 757, 758, 780, 811, 816, 367, 824, 825, 829, 370, 241, 891, 892, 893, 897, 901, 766, 204, 773, 199, 788, 790, 807, 762, 306, 326, 784, 789, 794, 802, 803, 311, 336, 340, 344, 201, 815, 317, 330, 348, 324, 333, 820, 821, 822, 360, 823, 364, 351, 355, 374, 379, 382] = true := by decide +kernel
theorem ax_ck6 : ax_ck 6 [528, 529, 533, 531, 1095, 315, 1099, 1104, 1108, 321, 435, 354, 1103, 373, 489, 377] = true := by decide +kernel
theorem ax_ck7 : ax_ck 7 [237, 238, 243, 239, 1026, 1029, 1032, 1039, 1042, 1043, 1035, 1036, 1037, 1038] = true := by decide +kernel
theorem ax_ck8 : ax_ck 8 [430, 434, 438, 442, 431, 314, 347, 971, 974, 968, 323, 492, 378, 1172, 312, 1314, 1328, 184, 189] = true := by decide +kernel
theorem ax_ck9 : ax_ck 9 [570, 574, 575, 576, 571, 578, 186, 183, 1193, 572, 309, 440, 1204, 482, 1205, 1206, 579, 581, 1222, 1226] = true := by decide +kernel
theorem ax_ck10 : ax_ck 10 [181, 182, 208, 188, 191, 198, 206, 686, 195, 690, 703, 713, 772, 770, 862, 203, 771, 205, 200] = true := by decide +kernel
theorem ax_ck11 : ax_ck 11 [173, 176, 178, 598, 232, 234, 609, 251, 253, 599, 272, 274, 600, 288, 290, 601, 602, 425, 427, 603, 453, 455, 604, 472, 474, 605, 523, 525, 606, 541, 543, 607, 565, 567, 608, 610, 611, 613, 614, 615, 187, 657, 661, 669, 677, 906, 464, 573, 207, 209, 305, 310, 316, 322, 432, 918, 922, 930, 327, 933, 329, 332, 940, 480, 337, 341, 345, 441, 436, 956, 352, 356, 361, 365, 964, 981, 443, 985, 990, 483, 485, 487, 493, 495, 1083, 1091, 532, 530, 994, 1117, 1123, 1131, 1132, 1144, 552, 550, 1164, 1168, 1173, 1181, 1189, 1200, 1210, 577, 1218, 580, 582, 1231, 1249, 383, 1177, 1261, 1274, 1287, 1296, 1310, 612, 1325, 185, 1331, 1253, 1254, 1255, 1256, 1278, 242, 1279, 1280, 1281, 1282, 197, 1283, 1284, 1285, 1286, 193, 1295, 1291, 1300, 1303] = true := by decide +kernel
theorem ax_ck12 : ax_ck 12 [1344, 1345, 1353, 1354, 1355, 1356, 1357, 1358, 1359, 1360, 1361, 1362, 1363, 1364, 1365, 1366, 1367, 1368, 1369, 1370, 1371, 1372, 1373, 1374, 1375, 1376, 1377, 1378, 1379, 1380, 1381, 1382, 1383, 1384, 1385, 1387, 1388, 1389, 1390, 1391, 1392, 1393, 1394, 1395, 1399, 1400, 1405, 1406, 1407, 1408, 1409, 1410, 1411, 1413, 1414, 1415, 1416, 1417, 1418, 1419, 1420, 1422, 1423, 1424, 1426, 1429, 1430, 1431, 1432, 1433, 1434, 1435, 1436, 1437, 1438, 1439, 1440, 1441, 1442, 1443, 1444, 1445, 1446, 1447, 1448, 1449, 1450, 1451, 1452, 1453, 1454, 1456, 1460, 1464, 1346, 1350, 1351, 1347, 1348, 1723, 1743, 1349, 1739, 1735, 1731, 1852, 1792, 1795, 1762, 1386, 1766, 1767, 1398, 1846, 1847, 1758, 1768, 1750, 1754, 1772, 1780, 1784, 1788, 1455, 1457, 1458, 1459, 1810, 1826, 1396, 1397, 1746, 1776, 1798, 1802, 1806, 1848, 1727, 1352, 1899, 1427, 1421, 1915, 1919, 1923, 1989, 1461, 2036, 2040, 2044, 1931, 1911, 1952, 2060, 2064, 2020, 1401, 2028, 1402, 2032, 2056, 1972, 1948, 2012, 2016, 1412, 2024, 2068, 2008, 2097, 2004, 2093, 2176, 1927, 1935, 1943, 1960, 1968, 1980, 1984, 1985, 1996, 2080, 2105, 2117, 2120, 1404, 1403, 2133, 2128, 2129, 2145, 2148, 2152, 2141, 2164, 2168, 2172, 2180, 2188, 1425, 2200, 2196, 2208, 1428, 2220, 2221, 2225, 2249, 2250, 2251, 2252, 2245, 1822, 1876, 1864, 1838, 1842, 1834, 1814, 1856, 1860, 1872, 1879, 1883, 1830, 1868, 1818, 1887, 1891, 1895, 2051, 2052, 2048, 2053, 2266, 1462, 2261, 1463, 2257, 2262, 2270, 1465, 2282, 2278, 2286, 2301, 2297] = true := by decide +kernel
theorem ax_ck13 : ax_ck 13 [168, 170, 1339, 1341, 653, 1711, 665, 1715, 673, 1719, 910, 1903, 914, 1907, 926, 1939, 936, 1944, 948, 1956, 952, 1964, 960, 1976, 977, 1992, 986, 2000, 1063, 2072, 1067, 2076, 1071, 2081, 1075, 2085, 1079, 2089, 1087, 2101, 1109, 2109, 1113, 2113, 1127, 2124, 1140, 2137, 1156, 2156, 1160, 2160, 1185, 2184, 1196, 2192, 1214, 2204, 1227, 2216, 1237, 2229, 1241, 2233, 1245, 2241, 1257, 2212, 1266, 2237, 1270, 2253, 1306, 2274, 1317, 2289, 1321, 2293, 1335, 2305] = true := by decide +kernel
theorem ax_ck14 : ax_ck 14 [2309, 707, 717, 721, 711, 2310, 727, 729] = true := by decide +kernel
theorem ax_ck15 : ax_ck 15 [724] = true := by decide +kernel
theorem ax_ck16 : ax_ck 16 [] = true := by decide +kernel
theorem ax_ck17 : ax_ck 17 [1120, 1121, 1122] = true := by decide +kernel
theorem ax_ck18 : ax_ck 18 [] = true := by decide +kernel
theorem ax_cks : ∀ (o : Nat) (t : Nat × Nat × Nat × Int), t ∈ ax_lk.getD o [] → t.1 ≠ 9 → t.1 ≠ 2 → ax_wd o t ∈ ax_tb := by
  intro o t ht h9 h2
  match o, ht with
  | 0, ht => exact ax_ck_use ax_ck0 ht h9 h2
  | 1, ht => exact ax_ck_use ax_ck1 ht h9 h2
  | 2, ht => exact ax_ck_use ax_ck2 ht h9 h2
  | 3, ht => exact ax_ck_use ax_ck3 ht h9 h2
  | 4, ht => exact ax_ck_use ax_ck4 ht h9 h2
  | 5, ht => exact ax_ck_use ax_ck5 ht h9 h2
  | 6, ht => exact ax_ck_use ax_ck6 ht h9 h2
  | 7, ht => exact ax_ck_use ax_ck7 ht h9 h2
  | 8, ht => exact ax_ck_use ax_ck8 ht h9 h2
  | 9, ht => exact ax_ck_use ax_ck9 ht h9 h2
  | 10, ht => exact ax_ck_use ax_ck10 ht h9 h2
  | 11, ht => exact ax_ck_use ax_ck11 ht h9 h2
  | 12, ht => exact ax_ck_use ax_ck12 ht h9 h2
  | 13, ht => exact ax_ck_use ax_ck13 ht h9 h2
  | 14, ht => exact ax_ck_use ax_ck14 ht h9 h2
  | 15, ht => exact ax_ck_use ax_ck15 ht h9 h2
  | 16, ht => exact ax_ck_use ax_ck16 ht h9 h2
  | 17, ht => exact ax_ck_use ax_ck17 ht h9 h2
  | 18, ht => exact ax_ck_use ax_ck18 ht h9 h2
  | o + 19, ht =>
    rw [List.getD_eq_getElem?_getD, List.getElem?_eq_none (show ax_lk.length ≤ o + 19 by show 19 ≤ o + 19; omega)] at ht
    cases ht
theorem ax_cm0 : (List.range 20).all (fun i => ax_cw (ax_mw (0 + i)) (([[545, 158, 544], [1147, 158, 1145, 1146], [1154, 158, 1153, 37], [476, 156, 475], [997, 156, 995, 996], [943, 156, 941, 942], [947, 156, 946, 21], [1002, 156, 1001, 24], [1010, 156, 1009, 26], [1006, 156, 1005, 25], [1014, 156, 1013, 27], [1021, 156, 1020, 28], [1047, 156, 1046, 29], [1051, 156, 1050, 30], [1056, 156, 1055, 31], [1059, 156, 1058], [1086, 156, 1084, 1085], [1135, 156, 1133, 1134], [1139, 156, 1138, 36], [255, 151, 254]] : List (List Nat)).getD i [])) = true := by decide +kernel
theorem ax_cm1 : (List.range 20).all (fun i => ax_cw (ax_mw (20 + i)) (([[828, 151, 826, 827], [832, 151, 830, 831], [836, 151, 835, 11], [840, 151, 839, 12], [888, 151, 887, 17], [867, 151, 865, 866], [871, 151, 870, 14], [875, 151, 874, 15], [882, 151, 881, 16], [849, 151, 848, 13], [457, 155, 456], [1234, 155, 1232, 1233], [1264, 155, 1262, 1263], [292, 153, 291], [299, 153, 297, 298], [779, 153, 778], [776, 153, 774, 775], [797, 153, 795, 796], [801, 153, 799, 800], [959, 153, 957, 958]] : List (List Nat)).getD i [])) = true := by decide +kernel
theorem ax_cm2 : (List.range 20).all (fun i => ax_cw (ax_mw (40 + i)) (([[276, 152, 275], [680, 152, 678, 679], [697, 152, 696, 3], [765, 152, 764, 5], [787, 152, 786, 7], [806, 152, 805, 8], [761, 152, 760, 4], [783, 152, 782, 6], [814, 152, 813, 9], [819, 152, 818, 10], [896, 152, 895, 18], [900, 152, 899, 19], [904, 152, 903, 20], [527, 157, 526], [1094, 157, 1092, 1093], [1098, 157, 1097, 32], [1107, 157, 1106, 34], [1102, 157, 1101, 33], [236, 150, 235], [303, 150, 301, 302]] : List (List Nat)).getD i [])) = true := by decide +kernel
theorem ax_cm3 : (List.range 20).all (fun i => ax_cw (ax_mw (60 + i)) (([[1025, 150, 1023, 1024], [1028, 150, 1027], [1031, 150, 1030], [1034, 150, 1033], [429, 154, 428], [909, 154, 907, 908], [970, 154, 969], [921, 154, 919, 920], [925, 154, 923, 924], [967, 154, 965, 966], [1180, 154, 1178, 1179], [1171, 154, 1169, 1170], [1184, 154, 1182, 1183], [1330, 154, 1329], [1316, 154, 1315], [1313, 154, 1311, 1312], [1327, 154, 1326], [1334, 154, 1332, 1333], [569, 159, 568], [1192, 159, 1190, 1191]] : List (List Nat)).getD i [])) = true := by decide +kernel
theorem ax_cm4 : (List.range 20).all (fun i => ax_cw (ax_mw (80 + i)) (([[1195, 159, 1194], [1203, 159, 1201, 1202], [1209, 159, 1208, 40], [1213, 159, 1211, 1212], [1221, 159, 1219, 1220], [1225, 159, 1224, 41], [180, 149, 179], [664, 149, 662, 663], [685, 149, 683, 684], [754, 149, 752, 753], [689, 149, 687, 688], [693, 149, 692, 2], [702, 149, 700, 701], [845, 149, 843, 844], [856, 149, 854, 855], [793, 149, 791, 792], [861, 149, 859, 860], [810, 149, 808, 809], [769, 149, 767, 768], [172, 148, 171]] : List (List Nat)).getD i [])) = true := by decide +kernel
theorem ax_cm5 : (List.range 20).all (fun i => ax_cw (ax_mw (100 + i)) (([[656, 148, 654, 655], [668, 148, 666, 667], [676, 148, 674, 675], [913, 148, 911, 912], [917, 148, 915, 916], [929, 148, 927, 928], [939, 148, 937, 938], [951, 148, 949, 950], [955, 148, 953, 954], [963, 148, 961, 962], [980, 148, 978, 979], [989, 148, 987, 988], [1066, 148, 1064, 1065], [1070, 148, 1068, 1069], [1074, 148, 1072, 1073], [1078, 148, 1076, 1077], [1082, 148, 1080, 1081], [1090, 148, 1088, 1089], [1112, 148, 1110, 1111], [1116, 148, 1114, 1115]] : List (List Nat)).getD i [])) = true := by decide +kernel
theorem ax_cm6 : (List.range 20).all (fun i => ax_cw (ax_mw (120 + i)) (([[1130, 148, 1128, 1129], [1143, 148, 1141, 1142], [1159, 148, 1157, 1158], [1163, 148, 1161, 1162], [1188, 148, 1186, 1187], [1199, 148, 1197, 1198], [1217, 148, 1215, 1216], [1230, 148, 1228, 1229], [1240, 148, 1238, 1239], [1244, 148, 1242, 1243], [1248, 148, 1246, 1247], [1260, 148, 1258, 1259], [1269, 148, 1267, 1268], [1273, 148, 1271, 1272], [1309, 148, 1307, 1308], [1320, 148, 1318, 1319], [1324, 148, 1322, 1323], [1338, 148, 1336, 1337], [660, 148, 659, 0], [672, 148, 671, 1]] : List (List Nat)).getD i [])) = true := by decide +kernel
theorem ax_cm7 : (List.range 20).all (fun i => ax_cw (ax_mw (140 + i)) (([[932, 148, 931], [984, 148, 983, 22], [935, 148, 934], [993, 148, 992, 23], [1126, 148, 1125, 35], [1167, 148, 1166, 38], [1176, 148, 1175, 39], [1252, 148, 1251, 42], [1277, 148, 1276, 43], [1294, 148, 1293, 45], [1290, 148, 1289, 44], [1299, 148, 1298, 46], [1343, 160, 1342], [1797, 160, 1796], [1714, 160, 1712, 1713], [1718, 160, 1716, 1717], [1734, 160, 1733, 49], [1745, 160, 1744], [1794, 160, 1793], [1726, 160, 1725, 47]] : List (List Nat)).getD i [])) = true := by decide +kernel
theorem ax_cm8 : (List.range 20).all (fun i => ax_cw (ax_mw (160 + i)) (([[1742, 160, 1741, 51], [1738, 160, 1737, 50], [1787, 160, 1786, 61], [1855, 160, 1854, 76], [1851, 160, 1850, 75], [1791, 160, 1790, 62], [1765, 160, 1764, 56], [1761, 160, 1760, 55], [1845, 160, 1844, 74], [1753, 160, 1752, 53], [1771, 160, 1770, 57], [1757, 160, 1756, 54], [1783, 160, 1782, 60], [1775, 160, 1774, 58], [1749, 160, 1748, 52], [1779, 160, 1778, 59], [1801, 160, 1800, 63], [1805, 160, 1804, 64], [1809, 160, 1808, 65], [1730, 160, 1729, 48]] : List (List Nat)).getD i [])) = true := by decide +kernel
theorem ax_cm9 : (List.range 20).all (fun i => ax_cw (ax_mw (180 + i)) (([[1722, 160, 1720, 1721], [1902, 160, 1901, 87], [1906, 160, 1904, 1905], [1914, 160, 1913, 88], [1918, 160, 1917, 89], [1922, 160, 1921, 90], [1926, 160, 1925, 91], [1963, 160, 1962, 97], [1971, 160, 1970, 98], [1983, 160, 1982, 100], [2015, 160, 2014, 105], [1975, 160, 1974, 99], [1934, 160, 1933, 93], [1991, 160, 1990], [1988, 160, 1987, 101], [1938, 160, 1937, 94], [2035, 160, 2034, 110], [1955, 160, 1954, 96], [1951, 160, 1950, 95], [2063, 160, 2062, 115]] : List (List Nat)).getD i [])) = true := by decide +kernel
theorem ax_cm10 : (List.range 20).all (fun i => ax_cw (ax_mw (200 + i)) (([[2067, 160, 2066, 116], [2059, 160, 2058, 114], [2023, 160, 2022, 107], [2031, 160, 2030, 109], [2027, 160, 2026, 108], [2019, 160, 2018, 106], [2071, 160, 2070, 117], [2011, 160, 2010, 104], [2007, 160, 2006, 103], [2100, 160, 2099, 119], [2096, 160, 2095, 118], [2179, 160, 2178, 130], [2175, 160, 2174, 129], [2171, 160, 2170, 128], [2183, 160, 2182, 131], [2167, 160, 2166, 127], [1930, 160, 1929, 92], [1910, 160, 1908, 1909], [1942, 160, 1940, 1941], [1947, 160, 1945, 1946]] : List (List Nat)).getD i [])) = true := by decide +kernel
theorem ax_cm11 : (List.range 20).all (fun i => ax_cw (ax_mw (220 + i)) (([[1959, 160, 1957, 1958], [1967, 160, 1965, 1966], [1979, 160, 1977, 1978], [1999, 160, 1998, 102], [1995, 160, 1993, 1994], [2003, 160, 2001, 2002], [2075, 160, 2073, 2074], [2079, 160, 2077, 2078], [2084, 160, 2082, 2083], [2088, 160, 2086, 2087], [2092, 160, 2090, 2091], [2108, 160, 2107, 120], [2104, 160, 2102, 2103], [2112, 160, 2110, 2111], [2119, 160, 2118], [2123, 160, 2122, 121], [2116, 160, 2114, 2115], [2136, 160, 2135, 123], [2132, 160, 2131, 122], [2127, 160, 2125, 2126]] : List (List Nat)).getD i [])) = true := by decide +kernel
theorem ax_cm12 : (List.range 20).all (fun i => ax_cw (ax_mw (240 + i)) (([[2147, 160, 2146], [2151, 160, 2150, 125], [2144, 160, 2143, 124], [2155, 160, 2154, 126], [2140, 160, 2138, 2139], [2159, 160, 2157, 2158], [2163, 160, 2161, 2162], [2191, 160, 2190, 132], [2187, 160, 2185, 2186], [2203, 160, 2202, 134], [2199, 160, 2198, 133], [2195, 160, 2193, 2194], [2211, 160, 2210, 135], [2207, 160, 2205, 2206], [2228, 160, 2227, 137], [2215, 160, 2213, 2214], [2224, 160, 2223, 136], [2219, 160, 2217, 2218], [2232, 160, 2230, 2231], [2236, 160, 2234, 2235]] : List (List Nat)).getD i [])) = true := by decide +kernel
theorem ax_cm13 : (List.range 20).all (fun i => ax_cw (ax_mw (260 + i)) (([[2240, 160, 2238, 2239], [2248, 160, 2247, 138], [2244, 160, 2242, 2243], [1825, 160, 1824, 69], [1817, 160, 1816, 67], [1886, 160, 1885, 83], [1867, 160, 1866, 79], [1878, 160, 1877], [1875, 160, 1874, 81], [1882, 160, 1881, 82], [1841, 160, 1840, 73], [1837, 160, 1836, 72], [1859, 160, 1858, 77], [1863, 160, 1862, 78], [1833, 160, 1832, 71], [1871, 160, 1870, 80], [1829, 160, 1828, 70], [1821, 160, 1820, 68], [1898, 160, 1897, 86], [1890, 160, 1889, 84]] : List (List Nat)).getD i [])) = true := by decide +kernel
theorem ax_cm14 : (List.range 20).all (fun i => ax_cw (ax_mw (280 + i)) (([[1813, 160, 1812, 66], [1894, 160, 1893, 85], [2050, 160, 2049], [2055, 160, 2054], [2039, 160, 2038, 111], [2047, 160, 2046, 113], [2043, 160, 2042, 112], [2269, 160, 2268, 141], [2265, 160, 2264, 140], [2260, 160, 2259, 139], [2273, 160, 2272, 142], [2256, 160, 2254, 2255], [2288, 160, 2287], [2285, 160, 2284, 144], [2281, 160, 2280, 143], [2277, 160, 2275, 2276], [2292, 160, 2290, 2291], [2304, 160, 2303, 146], [2300, 160, 2299, 145], [2296, 160, 2294, 2295]] : List (List Nat)).getD i [])) = true := by decide +kernel
theorem ax_cm15 : (List.range 15).all (fun i => ax_cw (ax_mw (300 + i)) (([[2308, 160, 2306, 2307], [1119, 167, 1118], [1041, 165, 1040], [1062, 165, 1061], [976, 165, 975], [1302, 165, 1301], [973, 165, 972], [1305, 165, 1304], [706, 161, 704, 705], [716, 161, 714, 715], [710, 161, 708, 709], [720, 161, 718, 719], [726, 161, 725], [723, 162, 722], [731, 163, 730]] : List (List Nat)).getD i [])) = true := by decide +kernel
theorem ax_cms : ∀ j : Nat, j < 316 → j ≠ ax_law → ∀ w ∈ ax_mw j, w ∈ ax_tb := by
  intro j hj hjl w hw
  have hjl : j ≠ 315 := hjl
  by_cases h0 : j < 20
  · have h : ax_cw (ax_mw (0 + (j - 0))) _ = true := List.all_eq_true.mp ax_cm0 (j - 0) (List.mem_range.mpr (by omega))
    rw [show 0 + (j - 0) = j by omega] at h
    exact ax_cw_use h hw
  by_cases h1 : j < 40
  · have h : ax_cw (ax_mw (20 + (j - 20))) _ = true := List.all_eq_true.mp ax_cm1 (j - 20) (List.mem_range.mpr (by omega))
    rw [show 20 + (j - 20) = j by omega] at h
    exact ax_cw_use h hw
  by_cases h2 : j < 60
  · have h : ax_cw (ax_mw (40 + (j - 40))) _ = true := List.all_eq_true.mp ax_cm2 (j - 40) (List.mem_range.mpr (by omega))
    rw [show 40 + (j - 40) = j by omega] at h
    exact ax_cw_use h hw
  by_cases h3 : j < 80
  · have h : ax_cw (ax_mw (60 + (j - 60))) _ = true := List.all_eq_true.mp ax_cm3 (j - 60) (List.mem_range.mpr (by omega))
    rw [show 60 + (j - 60) = j by omega] at h
    exact ax_cw_use h hw
  by_cases h4 : j < 100
  · have h : ax_cw (ax_mw (80 + (j - 80))) _ = true := List.all_eq_true.mp ax_cm4 (j - 80) (List.mem_range.mpr (by omega))
    rw [show 80 + (j - 80) = j by omega] at h
    exact ax_cw_use h hw
  by_cases h5 : j < 120
  · have h : ax_cw (ax_mw (100 + (j - 100))) _ = true := List.all_eq_true.mp ax_cm5 (j - 100) (List.mem_range.mpr (by omega))
    rw [show 100 + (j - 100) = j by omega] at h
    exact ax_cw_use h hw
  by_cases h6 : j < 140
  · have h : ax_cw (ax_mw (120 + (j - 120))) _ = true := List.all_eq_true.mp ax_cm6 (j - 120) (List.mem_range.mpr (by omega))
    rw [show 120 + (j - 120) = j by omega] at h
    exact ax_cw_use h hw
  by_cases h7 : j < 160
  · have h : ax_cw (ax_mw (140 + (j - 140))) _ = true := List.all_eq_true.mp ax_cm7 (j - 140) (List.mem_range.mpr (by omega))
    rw [show 140 + (j - 140) = j by omega] at h
    exact ax_cw_use h hw
  by_cases h8 : j < 180
  · have h : ax_cw (ax_mw (160 + (j - 160))) _ = true := List.all_eq_true.mp ax_cm8 (j - 160) (List.mem_range.mpr (by omega))
    rw [show 160 + (j - 160) = j by omega] at h
    exact ax_cw_use h hw
  by_cases h9 : j < 200
  · have h : ax_cw (ax_mw (180 + (j - 180))) _ = true := List.all_eq_true.mp ax_cm9 (j - 180) (List.mem_range.mpr (by omega))
    rw [show 180 + (j - 180) = j by omega] at h
    exact ax_cw_use h hw
  by_cases h10 : j < 220
  · have h : ax_cw (ax_mw (200 + (j - 200))) _ = true := List.all_eq_true.mp ax_cm10 (j - 200) (List.mem_range.mpr (by omega))
    rw [show 200 + (j - 200) = j by omega] at h
    exact ax_cw_use h hw
  by_cases h11 : j < 240
  · have h : ax_cw (ax_mw (220 + (j - 220))) _ = true := List.all_eq_true.mp ax_cm11 (j - 220) (List.mem_range.mpr (by omega))
    rw [show 220 + (j - 220) = j by omega] at h
    exact ax_cw_use h hw
  by_cases h12 : j < 260
  · have h : ax_cw (ax_mw (240 + (j - 240))) _ = true := List.all_eq_true.mp ax_cm12 (j - 240) (List.mem_range.mpr (by omega))
    rw [show 240 + (j - 240) = j by omega] at h
    exact ax_cw_use h hw
  by_cases h13 : j < 280
  · have h : ax_cw (ax_mw (260 + (j - 260))) _ = true := List.all_eq_true.mp ax_cm13 (j - 260) (List.mem_range.mpr (by omega))
    rw [show 260 + (j - 260) = j by omega] at h
    exact ax_cw_use h hw
  by_cases h14 : j < 300
  · have h : ax_cw (ax_mw (280 + (j - 280))) _ = true := List.all_eq_true.mp ax_cm14 (j - 280) (List.mem_range.mpr (by omega))
    rw [show 280 + (j - 280) = j by omega] at h
    exact ax_cw_use h hw
  by_cases h15 : j < 315
  · have h : ax_cw (ax_mw (300 + (j - 300))) _ = true := List.all_eq_true.mp ax_cm15 (j - 300) (List.mem_range.mpr (by omega))
    rw [show 300 + (j - 300) = j by omega] at h
    exact ax_cw_use h hw
  omega
theorem ax_mps : ∀ j : Nat, j < 316 → ax_mp j = true := by
  have h : (List.range 316).all ax_mp = true := by decide +kernel
  exact fun j hj => List.all_eq_true.mp h j (List.mem_range.mpr hj)
theorem ax_cjw : ax_cw ax_jw [231, 564, 1709, 1710, 1017, 1016, 166, 174, 175] = true := by decide +kernel
theorem ax_cu0 : ax_cw (u_ws (ax_cl 0).1 (ax_cl 0).2.1 (ax_cl 0).2.2) [555, 557, 559, 561] = true := by decide +kernel
theorem ax_cv0 : ax_cw [Cond.instantiable (ax_cl 0).1 (ax_cl 0).2.2, Cond.initialized (ax_cl 0).1] [542, 158] = true := by decide +kernel
theorem ax_cq0 : ∀ k, k < 4 → parseFieldDescriptor ((ax_cl 0).2.1 k).2.2.1 = some (ax_fT 0 k) ∧ ax_tk (ax_fT 0 k) = ax_fty 0 k ∧ ((ax_cl 0).2.1 k).1 = ax_cn 0 := by decide +kernel
theorem ax_cc0 : ax_cok 0 := ⟨by decide +kernel, by decide +kernel, fun _ hw => ax_cw_use ax_cu0 hw, ax_cw_use ax_cv0 List.mem_cons_self, ax_cw_use ax_cv0 (List.mem_cons_of_mem _ List.mem_cons_self), ax_cq0, nmX0⟩
theorem ax_cu1 : ax_cw (u_ws (ax_cl 1).1 (ax_cl 1).2.1 (ax_cl 1).2.2) [500, 502, 504, 506, 508, 510, 512, 514, 516, 518, 520] = true := by decide +kernel
theorem ax_cv1 : ax_cw [Cond.instantiable (ax_cl 1).1 (ax_cl 1).2.2, Cond.initialized (ax_cl 1).1] [473, 156] = true := by decide +kernel
theorem ax_cq1 : ∀ k, k < 11 → parseFieldDescriptor ((ax_cl 1).2.1 k).2.2.1 = some (ax_fT 1 k) ∧ ax_tk (ax_fT 1 k) = ax_fty 1 k ∧ ((ax_cl 1).2.1 k).1 = ax_cn 1 := by decide +kernel
theorem ax_cc1 : ax_cok 1 := ⟨by decide +kernel, by decide +kernel, fun _ hw => ax_cw_use ax_cu1 hw, ax_cw_use ax_cv1 List.mem_cons_self, ax_cw_use ax_cv1 (List.mem_cons_of_mem _ List.mem_cons_self), ax_cq1, nmX1⟩
theorem ax_cu2 : ax_cw (u_ws (ax_cl 2).1 (ax_cl 2).2.1 (ax_cl 2).2.2) [262, 264, 266, 268] = true := by decide +kernel
theorem ax_cv2 : ax_cw [Cond.instantiable (ax_cl 2).1 (ax_cl 2).2.2, Cond.initialized (ax_cl 2).1] [252, 151] = true := by decide +kernel
theorem ax_cq2 : ∀ k, k < 4 → parseFieldDescriptor ((ax_cl 2).2.1 k).2.2.1 = some (ax_fT 2 k) ∧ ax_tk (ax_fT 2 k) = ax_fty 2 k ∧ ((ax_cl 2).2.1 k).1 = ax_cn 2 := by decide +kernel
theorem ax_cc2 : ax_cok 2 := ⟨by decide +kernel, by decide +kernel, fun _ hw => ax_cw_use ax_cu2 hw, ax_cw_use ax_cv2 List.mem_cons_self, ax_cw_use ax_cv2 (List.mem_cons_of_mem _ List.mem_cons_self), ax_cq2, nmX2⟩
theorem ax_cu3 : ax_cw (u_ws (ax_cl 3).1 (ax_cl 3).2.1 (ax_cl 3).2.2) [465, 467, 469] = true := by decide +kernel
theorem ax_cv3 : ax_cw [Cond.instantiable (ax_cl 3).1 (ax_cl 3).2.2, Cond.initialized (ax_cl 3).1] [454, 155] = true := by decide +kernel
theorem ax_cq3 : ∀ k, k < 3 → parseFieldDescriptor ((ax_cl 3).2.1 k).2.2.1 = some (ax_fT 3 k) ∧ ax_tk (ax_fT 3 k) = ax_fty 3 k ∧ ((ax_cl 3).2.1 k).1 = ax_cn 3 := by decide +kernel
theorem ax_cc3 : ax_cok 3 := ⟨by decide +kernel, by decide +kernel, fun _ hw => ax_cw_use ax_cu3 hw, ax_cw_use ax_cv3 List.mem_cons_self, ax_cw_use ax_cv3 (List.mem_cons_of_mem _ List.mem_cons_self), ax_cq3, nmX3⟩
theorem ax_cu4 : ax_cw (u_ws (ax_cl 4).1 (ax_cl 4).2.1 (ax_cl 4).2.2) [384, 386, 388, 390, 392, 394, 396, 398, 400, 402, 404, 406, 408, 410, 412, 414, 416, 418, 420, 422] = true := by decide +kernel
theorem ax_cv4 : ax_cw [Cond.instantiable (ax_cl 4).1 (ax_cl 4).2.2, Cond.initialized (ax_cl 4).1] [289, 153] = true := by decide +kernel
theorem ax_cq4 : ∀ k, k < 20 → parseFieldDescriptor ((ax_cl 4).2.1 k).2.2.1 = some (ax_fT 4 k) ∧ ax_tk (ax_fT 4 k) = ax_fty 4 k ∧ ((ax_cl 4).2.1 k).1 = ax_cn 4 := by decide +kernel
theorem ax_cc4 : ax_cok 4 := ⟨by decide +kernel, by decide +kernel, fun _ hw => ax_cw_use ax_cu4 hw, ax_cw_use ax_cv4 List.mem_cons_self, ax_cw_use ax_cv4 (List.mem_cons_of_mem _ List.mem_cons_self), ax_cq4, nmX4⟩
theorem ax_cu5 : ax_cw (u_ws (ax_cl 5).1 (ax_cl 5).2.1 (ax_cl 5).2.2) [281, 283, 285] = true := by decide +kernel
theorem ax_cv5 : ax_cw [Cond.instantiable (ax_cl 5).1 (ax_cl 5).2.2, Cond.initialized (ax_cl 5).1] [273, 152] = true := by decide +kernel
theorem ax_cq5 : ∀ k, k < 3 → parseFieldDescriptor ((ax_cl 5).2.1 k).2.2.1 = some (ax_fT 5 k) ∧ ax_tk (ax_fT 5 k) = ax_fty 5 k ∧ ((ax_cl 5).2.1 k).1 = ax_cn 5 := by decide +kernel
theorem ax_cc5 : ax_cok 5 := ⟨by decide +kernel, by decide +kernel, fun _ hw => ax_cw_use ax_cu5 hw, ax_cw_use ax_cv5 List.mem_cons_self, ax_cw_use ax_cv5 (List.mem_cons_of_mem _ List.mem_cons_self), ax_cq5, nmX5⟩
theorem ax_cu6 : ax_cw (u_ws (ax_cl 6).1 (ax_cl 6).2.1 (ax_cl 6).2.2) [534, 536, 538] = true := by decide +kernel
theorem ax_cv6 : ax_cw [Cond.instantiable (ax_cl 6).1 (ax_cl 6).2.2, Cond.initialized (ax_cl 6).1] [524, 157] = true := by decide +kernel
theorem ax_cq6 : ∀ k, k < 3 → parseFieldDescriptor ((ax_cl 6).2.1 k).2.2.1 = some (ax_fT 6 k) ∧ ax_tk (ax_fT 6 k) = ax_fty 6 k ∧ ((ax_cl 6).2.1 k).1 = ax_cn 6 := by decide +kernel
theorem ax_cc6 : ax_cok 6 := ⟨by decide +kernel, by decide +kernel, fun _ hw => ax_cw_use ax_cu6 hw, ax_cw_use ax_cv6 List.mem_cons_self, ax_cw_use ax_cv6 (List.mem_cons_of_mem _ List.mem_cons_self), ax_cq6, nmX6⟩
theorem ax_cu7 : ax_cw (u_ws (ax_cl 7).1 (ax_cl 7).2.1 (ax_cl 7).2.2) [244, 246, 248] = true := by decide +kernel
theorem ax_cv7 : ax_cw [Cond.instantiable (ax_cl 7).1 (ax_cl 7).2.2, Cond.initialized (ax_cl 7).1] [233, 150] = true := by decide +kernel
theorem ax_cq7 : ∀ k, k < 3 → parseFieldDescriptor ((ax_cl 7).2.1 k).2.2.1 = some (ax_fT 7 k) ∧ ax_tk (ax_fT 7 k) = ax_fty 7 k ∧ ((ax_cl 7).2.1 k).1 = ax_cn 7 := by decide +kernel
theorem ax_cc7 : ax_cok 7 := ⟨by decide +kernel, by decide +kernel, fun _ hw => ax_cw_use ax_cu7 hw, ax_cw_use ax_cv7 List.mem_cons_self, ax_cw_use ax_cv7 (List.mem_cons_of_mem _ List.mem_cons_self), ax_cq7, nmX7⟩
theorem ax_cu8 : ax_cw (u_ws (ax_cl 8).1 (ax_cl 8).2.1 (ax_cl 8).2.2) [444, 446, 448, 450] = true := by decide +kernel
theorem ax_cv8 : ax_cw [Cond.instantiable (ax_cl 8).1 (ax_cl 8).2.2, Cond.initialized (ax_cl 8).1] [426, 154] = true := by decide +kernel
theorem ax_cq8 : ∀ k, k < 4 → parseFieldDescriptor ((ax_cl 8).2.1 k).2.2.1 = some (ax_fT 8 k) ∧ ax_tk (ax_fT 8 k) = ax_fty 8 k ∧ ((ax_cl 8).2.1 k).1 = ax_cn 8 := by decide +kernel
theorem ax_cc8 : ax_cok 8 := ⟨by decide +kernel, by decide +kernel, fun _ hw => ax_cw_use ax_cu8 hw, ax_cw_use ax_cv8 List.mem_cons_self, ax_cw_use ax_cv8 (List.mem_cons_of_mem _ List.mem_cons_self), ax_cq8, nmX8⟩
theorem ax_cu9 : ax_cw (u_ws (ax_cl 9).1 (ax_cl 9).2.1 (ax_cl 9).2.2) [583, 585, 587, 589, 591, 593, 595] = true := by decide +kernel
theorem ax_cv9 : ax_cw [Cond.instantiable (ax_cl 9).1 (ax_cl 9).2.2, Cond.initialized (ax_cl 9).1] [566, 159] = true := by decide +kernel
theorem ax_cq9 : ∀ k, k < 7 → parseFieldDescriptor ((ax_cl 9).2.1 k).2.2.1 = some (ax_fT 9 k) ∧ ax_tk (ax_fT 9 k) = ax_fty 9 k ∧ ((ax_cl 9).2.1 k).1 = ax_cn 9 := by decide +kernel
theorem ax_cc9 : ax_cok 9 := ⟨by decide +kernel, by decide +kernel, fun _ hw => ax_cw_use ax_cu9 hw, ax_cw_use ax_cv9 List.mem_cons_self, ax_cw_use ax_cv9 (List.mem_cons_of_mem _ List.mem_cons_self), ax_cq9, nmX9⟩
theorem ax_cu10 : ax_cw (u_ws (ax_cl 10).1 (ax_cl 10).2.1 (ax_cl 10).2.2) [210, 212, 214, 216, 218, 220, 222, 224, 226, 228] = true := by decide +kernel
theorem ax_cv10 : ax_cw [Cond.instantiable (ax_cl 10).1 (ax_cl 10).2.2, Cond.initialized (ax_cl 10).1] [177, 149] = true := by decide +kernel
theorem ax_cq10 : ∀ k, k < 10 → parseFieldDescriptor ((ax_cl 10).2.1 k).2.2.1 = some (ax_fT 10 k) ∧ ax_tk (ax_fT 10 k) = ax_fty 10 k ∧ ((ax_cl 10).2.1 k).1 = ax_cn 10 := by decide +kernel
theorem ax_cc10 : ax_cok 10 := ⟨by decide +kernel, by decide +kernel, fun _ hw => ax_cw_use ax_cu10 hw, ax_cw_use ax_cv10 List.mem_cons_self, ax_cw_use ax_cv10 (List.mem_cons_of_mem _ List.mem_cons_self), ax_cq10, nmX10⟩
theorem ax_cu11 : ax_cw (u_ws (ax_cl 11).1 (ax_cl 11).2.1 (ax_cl 11).2.2) [616, 618, 620, 622, 624, 626, 628, 630, 632, 634, 636, 638, 640, 642, 644, 646, 648, 650] = true := by decide +kernel
theorem ax_cv11 : ax_cw [Cond.instantiable (ax_cl 11).1 (ax_cl 11).2.2, Cond.initialized (ax_cl 11).1] [169, 148] = true := by decide +kernel
theorem ax_cq11 : ∀ k, k < 18 → parseFieldDescriptor ((ax_cl 11).2.1 k).2.2.1 = some (ax_fT 11 k) ∧ ax_tk (ax_fT 11 k) = ax_fty 11 k ∧ ((ax_cl 11).2.1 k).1 = ax_cn 11 := by decide +kernel
theorem ax_cc11 : ax_cok 11 := ⟨by decide +kernel, by decide +kernel, fun _ hw => ax_cw_use ax_cu11 hw, ax_cw_use ax_cv11 List.mem_cons_self, ax_cw_use ax_cv11 (List.mem_cons_of_mem _ List.mem_cons_self), ax_cq11, nmX11⟩
theorem ax_cu12 : ax_cw (u_ws (ax_cl 12).1 (ax_cl 12).2.1 (ax_cl 12).2.2) [1466, 1468, 1470, 1472, 1474, 1476, 1478, 1480, 1482, 1484, 1486, 1488, 1490, 1492, 1494, 1496, 1498, 1500, 1502, 1504, 1506, 1508, 1510, 1512, 1514, 1516, 1518, 1520, 1522, 1524, 1526, 1528, 1530, 1532, 1534, 1536, 1538, 1540, 1542, 1544, 1546, 1548, 1550, 1552, 1554, 1556, 1558, 1560, 1562, 1564, 1566, 1568, 1570, 1572, 1574, 1576, 1578, 1580, 1582, 1584, 1586, 1588, 1590, 1592, 1594, 1596, 1598, 1600, 1602, 1604, 1606, 1608, 1610, 1612, 1614, 1616, 1618, 1620, 1622, 1624, 1626, 1628, 1630, 1632, 1634, 1636, 1638, 1640, 1642, 1644, 1646, 1648, 1650, 1652, 1654, 1656, 1658, 1660, 1662, 1664, 1666, 1668, 1670, 1672, 1674, 1676, 1678, 1680, 1682, 1684, 1686, 1688, 1690, 1692, 1694, 1696, 1698, 1700, 1702, 1704, 1706] = true := by decide +kernel
theorem ax_cv12 : ax_cw [Cond.instantiable (ax_cl 12).1 (ax_cl 12).2.2, Cond.initialized (ax_cl 12).1] [1340, 160] = true := by decide +kernel
theorem ax_cq12 : ∀ k, k < 121 → parseFieldDescriptor ((ax_cl 12).2.1 k).2.2.1 = some (ax_fT 12 k) ∧ ax_tk (ax_fT 12 k) = ax_fty 12 k ∧ ((ax_cl 12).2.1 k).1 = ax_cn 12 := by decide +kernel
theorem ax_cc12 : ax_cok 12 := ⟨by decide +kernel, by decide +kernel, fun _ hw => ax_cw_use ax_cu12 hw, ax_cw_use ax_cv12 List.mem_cons_self, ax_cw_use ax_cv12 (List.mem_cons_of_mem _ List.mem_cons_self), ax_cq12, nmX12⟩
theorem ax_coks : ∀ c : Nat, c < 13 → ax_cok c := by
  intro c hc
  match c, hc with
  | 0, _ => exact ax_cc0
  | 1, _ => exact ax_cc1
  | 2, _ => exact ax_cc2
  | 3, _ => exact ax_cc3
  | 4, _ => exact ax_cc4
  | 5, _ => exact ax_cc5
  | 6, _ => exact ax_cc6
  | 7, _ => exact ax_cc7
  | 8, _ => exact ax_cc8
  | 9, _ => exact ax_cc9
  | 10, _ => exact ax_cc10
  | 11, _ => exact ax_cc11
  | 12, _ => exact ax_cc12
end
section
theorem ax_OKs : ax_OK := ⟨ax_coks, fun _ hw => ax_cw_use ax_cjw hw, ax_oks, ax_cks, ax_cms, ax_mps⟩
end
section
/-! the cells of the machine that stand for the store -/
def ax_A (ad : Nat → Nat) (t : Nat) (f : Nat → Int) : (Nat → Int32) ⊕ (Nat → Int64) ⊕ (Nat → UInt32) ⊕ (Nat → UInt64) ⊕ (Nat → Option Nat) :=
  if t = 1 then .inr (.inl (fun k => Int64.ofInt (f k))) else if 4 ≤ t then .inr (.inr (.inr (.inr (fun k => if 0 ≤ f k then some (ad (f k).toNat) else none)))) else .inl (fun k => Int32.ofInt (f k))
def ax_F (cad : Int → Value) (ad : Nat → Nat) (c n : Nat) (f : Nat → Int) : List Value := (List.range n).map (fun k => ax_cv cad ad (ax_ft (ax_fty c k), f k))
def ax_E (cad : Int → Value) (Y : Nat → ClassId) (ad : Nat → Nat) (h : ax_H) (f : Nat → Int) : va_E :=
  if h.1 = 0 then .inr (h.2.1, ax_F cad ad h.2.1 h.2.2 f) else .inl (Y h.2.1, h.2.2, ax_A ad h.2.1 f)
def ax_Wd (cad : Int → Value) (Y : Nat → ClassId) (ad : Nat → Nat) (sh : List ax_H) (M : ax_M) : va_W := (List.range sh.length).map (fun a => (ad a, ax_E cad Y ad (sh.getD a (0, 0, 0)) (M a)))
def ax_ty (Y : Nat → ClassId) : List (ClassId × FieldType) := [(Y 0, .int), (Y 1, .long), (Y 2, .char), (Y 3, .boolean), (Y 4, .array .int), (Y 5, .array .long)]
def ax_sl (sh : List ax_H) : Nat := (sh.map (fun h => h.2.2)).sum
section AXD
variable {cad : Int → Value} {Y : Nat → ClassId} {ad ad' : Nat → Nat} {sh : List ax_H} {M M' : ax_M} {a : Nat} {h : ax_H}
theorem ax_Wd_len : (ax_Wd cad Y ad sh M).length = sh.length := by simp [ax_Wd]
theorem ax_Wd_at (e : sh[a]? = some h) : (ax_Wd cad Y ad sh M)[a]? = some (ad a, ax_E cad Y ad h (M a)) := by
  have hl : a < sh.length := (List.getElem?_eq_some_iff.mp e).1
  unfold ax_Wd
  rw [List.getElem?_map, List.getElem?_range hl]
  show some (ad a, ax_E cad Y ad (sh.getD a (0, 0, 0)) (M a)) = _
  rw [List.getD_eq_getElem?_getD, e]
  rfl
theorem ax_Wd_set (e : sh[a]? = some h) (hM : ∀ b, b ≠ a → M' b = M b) : (ax_Wd cad Y ad sh M).set a (ad a, ax_E cad Y ad h (M' a)) = ax_Wd cad Y ad sh M' := by
  have hl : a < sh.length := (List.getElem?_eq_some_iff.mp e).1
  refine List.ext_getElem? (fun k => ?_)
  by_cases hk : k = a
  · subst hk
    rw [List.getElem?_set_self (by rw [ax_Wd_len]; exact hl), ax_Wd_at e]
  · rw [List.getElem?_set_ne (fun q => hk q.symm)]
    by_cases hkl : k < sh.length
    · have e2 : sh[k]? = some sh[k] := List.getElem?_eq_getElem hkl
      rw [ax_Wd_at e2, ax_Wd_at e2, hM k hk]
    · rw [List.getElem?_eq_none (by rw [ax_Wd_len]; omega), List.getElem?_eq_none (by rw [ax_Wd_len]; omega)]
theorem ax_E_obj {c n : Nat} {f : Nat → Int} : ax_E cad Y ad (0, c, n) f = .inr (c, ax_F cad ad c n f) := rfl
theorem ax_E_arr {t n : Nat} {f : Nat → Int} : ax_E cad Y ad (1, t, n) f = .inl (Y t, n, ax_A ad t f) := rfl
theorem ax_F_at {c n k : Nat} {f : Nat → Int} (hk : k < n) : (ax_F cad ad c n f)[k]? = some (ax_cv cad ad (ax_ft (ax_fty c k), f k)) := by
  unfold ax_F
  rw [List.getElem?_map, List.getElem?_range hk]
  rfl
theorem ax_F_len {c n : Nat} {f : Nat → Int} : (ax_F cad ad c n f).length = n := by simp [ax_F]
theorem ax_F_set {c n k : Nat} {f f' : Nat → Int} (hk : k < n) (hf : ∀ j, j ≠ k → f' j = f j) : (ax_F cad ad c n f).set k (ax_cv cad ad (ax_ft (ax_fty c k), f' k)) = ax_F cad ad c n f' := by
  refine List.ext_getElem? (fun j => ?_)
  by_cases hj : j = k
  · subst hj
    rw [List.getElem?_set_self (by rw [ax_F_len]; exact hk), ax_F_at hk]
  · rw [List.getElem?_set_ne (fun q => hj q.symm)]
    by_cases hl : j < n
    · rw [ax_F_at hl, ax_F_at hl, hf j hj]
    · rw [List.getElem?_eq_none (by rw [ax_F_len]; omega), List.getElem?_eq_none (by rw [ax_F_len]; omega)]
theorem ax_up_ne {k : Nat} {x : Int} {b : Nat} (hb : b ≠ a) : ax_up M a k x b = M b := by
  funext j
  unfold ax_up
  rw [if_neg (fun q => hb q.1)]
theorem ax_up_at {k : Nat} {x : Int} : ax_up M a k x a k = x := by
  unfold ax_up
  rw [if_pos ⟨rfl, rfl⟩]
theorem ax_up_of {k j : Nat} {x : Int} (hj : j ≠ k) : ax_up M a k x a j = M a j := by
  unfold ax_up
  rw [if_neg (fun q => hj q.2)]
theorem ax_cv_adF {n f : Nat} {x : Int} (hf : f ≤ 3) (hA : ∀ a, a < n → ad' a = ad a) (w : ax_wf n f x) : ax_cv cad ad' (ax_ft f, x) = ax_cv cad ad (ax_ft f, x) := by
  exact ax_cv_ad hA (ax_wF hf w)
theorem ax_E_ad {n : Nat} {f : Nat → Int} (hA : ∀ a, a < n → ad' a = ad a) (w : ax_wh n h f) : ax_E cad Y ad' h f = ax_E cad Y ad h f := by
  obtain ⟨t, c, m⟩ := h
  rcases w with ⟨e, -, -, w⟩ | ⟨e, e5, -, -, w⟩
  · have e : t = 0 := e
    subst e
    rw [ax_E_obj, ax_E_obj]
    congr 2
    unfold ax_F
    refine List.map_congr_left (fun k hk => ?_)
    exact ax_cv_adF (ax_fty3 c k) hA (w k (List.mem_range.mp hk))
  · have e : t = 1 := e
    subst e
    rw [ax_E_arr, ax_E_arr]
    congr 3
    unfold ax_A
    split
    · rfl
    · split
      · rename_i h4
        congr 4
        funext k
        by_cases hx : 0 ≤ f k
        · rw [if_pos hx, if_pos hx, hA]
          have := w h4 k
          omega
        · rw [if_neg hx, if_neg hx]
      · rfl
end AXD
end
section
/-! the machine's rows, instruction by instruction -/
section AXR
variable {p : Program} {l : Launch} {e : Env} {R : Room} {s : State} {m : MethodId} {args : Array Value} {below : List Frame} {meth : Method} {c : Code} {H : Heap} {locs : List Loc} {cells slots : Nat} {Q : State → Prop}
variable {cc : ByteArray} {pc : Nat} {ls : Array Slot} {rest : List Value} {pcs : List Nat} {i f g : Nat} {b : Int}
theorem ax_w6 (hx : p.tables.exec = Jvm.exec) (hb : c.code = cc) (hf : f ≤ 10) {x y z : Int} (hxi : ax_i x) (hyi : ax_i y) (hz : ax_ib f x y = some z) (hd : decode cc pc = .ok (ax_ins pcs i (6, f, g, b)))
    (k : W p l e R s m args below meth c H locs cells slots Q (F0 m (pc + 1) ls (.int (Int32.ofInt z) :: rest))) : W p l e R s m args below meth c H locs cells slots Q (F0 m pc ls (.int (Int32.ofInt y) :: .int (Int32.ofInt x) :: rest)) := by
  match f, hf, hz, hd with
  | 0, _, hz, hd =>
    have hz : (if ax_i (x + y) then some (x + y) else none) = some z := hz
    split at hz
    · cases hz
      refine lv_iadd hx hb hd ?_
      rw [← Int32.ofInt_add]
      exact k
    · cases hz
  | 1, _, hz, hd =>
    have hz : (if ax_i (x - y) then some (x - y) else none) = some z := hz
    split at hz
    · cases hz
      refine lv_isub hx hb hd ?_
      rw [← Int32.ofInt_sub]
      exact k
    · cases hz
  | 2, _, hz, hd =>
    have hz : (if ax_i (x * y) then some (x * y) else none) = some z := hz
    split at hz
    · cases hz
      refine lv_imul hx hb hd ?_
      rw [← Int32.ofInt_mul]
      exact k
    · cases hz
  | 3, _, hz, hd =>
    have hz : (if y ≠ 0 ∧ ax_i (x.tdiv y) then some (x.tdiv y) else none) = some z := hz
    split at hz
    · rename_i q
      cases hz
      refine lv_idiv hx hb hd (fun e => q.1 ((ax_eqI hyi ax_i0).mp e)) ?_
      rw [ax_divI hxi hyi]
      exact k
    · cases hz
  | 4, _, hz, hd =>
    have hz : (if y ≠ 0 ∧ ax_i (x.tdiv y) then some (x.tmod y) else none) = some z := hz
    split at hz
    · rename_i q
      cases hz
      refine lv_irem hx hb hd (fun e => q.1 ((ax_eqI hyi ax_i0).mp e)) ?_
      rw [ax_remI hxi hyi]
      exact k
    · cases hz
  | 5, _, hz, hd =>
    cases hz
    refine lv_iand hx hb hd ?_
    rw [Int32.ofInt_toInt] at k
    exact k
  | 6, _, hz, hd =>
    cases hz
    refine lv_ior hx hb hd ?_
    rw [Int32.ofInt_toInt] at k
    exact k
  | 7, _, hz, hd =>
    cases hz
    refine lv_ixor hx hb hd ?_
    rw [Int32.ofInt_toInt] at k
    exact k
  | 8, _, hz, hd =>
    cases hz
    refine lv_ishl hx hb hd ?_
    rw [Int32.ofInt_toInt] at k
    exact k
  | 9, _, hz, hd =>
    cases hz
    refine lv_ishr hx hb hd ?_
    rw [Int32.ofInt_toInt] at k
    exact k
  | 10, _, hz, hd =>
    cases hz
    refine lv_iushr hx hb hd rfl ?_
    rw [Int32.ofInt_toInt] at k
    exact k
theorem ax_w7 (hx : p.tables.exec = Jvm.exec) (hb : c.code = cc) (hf : f ≤ 5) {x y z : Int} (hxi : ax_l x) (hyi : ax_l y) (hz : ax_lb f x y = some z) (hd : decode cc pc = .ok (ax_ins pcs i (7, f, g, b)))
    (k : W p l e R s m args below meth c H locs cells slots Q (F0 m (pc + 1) ls (.long (Int64.ofInt z) :: rest))) : W p l e R s m args below meth c H locs cells slots Q (F0 m pc ls (.long (Int64.ofInt y) :: .long (Int64.ofInt x) :: rest)) := by
  have h0 : ax_l 0 := by decide
  have hne : y ≠ 0 → ¬ Int64.ofInt y = 0 := fun q e => q (by
    have := congrArg Int64.toInt e
    rw [ax_n64 hyi] at this
    exact this)
  match f, hf, hz, hd with
  | 0, _, hz, hd =>
    have hz : (if ax_l (x + y) then some (x + y) else none) = some z := hz
    split at hz
    · cases hz
      refine lv_ladd hx hb hd ?_
      rw [← Int64.ofInt_add]
      exact k
    · cases hz
  | 1, _, hz, hd =>
    have hz : (if ax_l (x - y) then some (x - y) else none) = some z := hz
    split at hz
    · cases hz
      refine lv_lsub hx hb hd ?_
      rw [← Int64.ofInt_sub]
      exact k
    · cases hz
  | 2, _, hz, hd =>
    have hz : (if ax_l (x * y) then some (x * y) else none) = some z := hz
    split at hz
    · cases hz
      refine lv_lmul hx hb hd ?_
      rw [← Int64.ofInt_mul]
      exact k
    · cases hz
  | 3, _, hz, hd =>
    have hz : (if y ≠ 0 ∧ ax_l (x.tdiv y) then some (x.tdiv y) else none) = some z := hz
    split at hz
    · rename_i q
      cases hz
      refine lv_ldiv hx hb hd (hne q.1) ?_
      rw [ax_divL hxi hyi]
      exact k
    · cases hz
  | 4, _, hz, hd =>
    have hz : (if y ≠ 0 ∧ ax_l (x.tdiv y) then some (x.tmod y) else none) = some z := hz
    split at hz
    · rename_i q
      cases hz
      refine lv_lrem hx hb hd (hne q.1) ?_
      rw [ax_remL hxi hyi]
      exact k
    · cases hz
  | 5, _, hz, hd =>
    cases hz
    refine lv_land hx hb hd ?_
    rw [Int64.ofInt_toInt] at k
    exact k
theorem ax_w12 (hx : p.tables.exec = Jvm.exec) (hb : c.code = cc) (hf : f ≤ 5) {x : Int} (hxi : ax_i x) (hpc : pcs.getD i 0 = pc) (hd : decode cc pc = .ok (ax_ins pcs i (12, f, g, b)))
    (kt : ax_cd f x 0 = true → W p l e R s m args below meth c H locs cells slots Q (F0 m (pcs.getD g 0) ls rest)) (kf : ax_cd f x 0 = false → W p l e R s m args below meth c H locs cells slots Q (F0 m (pc + 3) ls rest)) : W p l e R s m args below meth c H locs cells slots Q (F0 m pc ls (.int (Int32.ofInt x) :: rest)) := by
  have ht : (pc : Int) + (((pcs.getD g 0 : Nat) : Int) - ((pcs.getD i 0 : Nat) : Int)) = ((pcs.getD g 0 : Nat) : Int) := by rw [hpc]; omega
  have e1 : Int32.ofInt x = 0 ↔ x = 0 := ax_eqI hxi ax_i0
  have e2 : Int32.ofInt x < 0 ↔ x < 0 := ax_ltI hxi ax_i0
  have e3 : 0 ≤ Int32.ofInt x ↔ 0 ≤ x := ax_leI ax_i0 hxi
  have e4 : 0 < Int32.ofInt x ↔ 0 < x := ax_ltI ax_i0 hxi
  have e5 : Int32.ofInt x ≤ 0 ↔ x ≤ 0 := ax_leI hxi ax_i0
  match f, hf, hd, kt, kf with
  | 0, _, hd, kt, kf => exact lv_if_eq hx hb hd ht (fun q => kt (decide_eq_true (e1.mp q))) (fun q => kf (decide_eq_false (fun z => q (e1.mpr z))))
  | 1, _, hd, kt, kf => exact lv_if_ne hx hb hd ht (fun q => kt (decide_eq_true (fun z => q (e1.mpr z)))) (fun q => kf (decide_eq_false (fun z => z (e1.mp q))))
  | 2, _, hd, kt, kf => exact lv_if_lt hx hb hd ht (fun q => kt (decide_eq_true (e2.mp q))) (fun q => kf (decide_eq_false (fun z => q (e2.mpr z))))
  | 3, _, hd, kt, kf => exact lv_if_ge hx hb hd ht (fun q => kt (decide_eq_true (e3.mp q))) (fun q => kf (decide_eq_false (fun z => q (e3.mpr z))))
  | 4, _, hd, kt, kf => exact lv_if_gt hx hb hd ht (fun q => kt (decide_eq_true (e4.mp q))) (fun q => kf (decide_eq_false (fun z => q (e4.mpr z))))
  | 5, _, hd, kt, kf => exact lv_if_le hx hb hd ht (fun q => kt (decide_eq_true (e5.mp q))) (fun q => kf (decide_eq_false (fun z => q (e5.mpr z))))
theorem ax_w13 (hx : p.tables.exec = Jvm.exec) (hb : c.code = cc) (hf : f ≤ 5) {x y : Int} (hxi : ax_i x) (hyi : ax_i y) (hpc : pcs.getD i 0 = pc) (hd : decode cc pc = .ok (ax_ins pcs i (13, f, g, b)))
    (kt : ax_cd f x y = true → W p l e R s m args below meth c H locs cells slots Q (F0 m (pcs.getD g 0) ls rest)) (kf : ax_cd f x y = false → W p l e R s m args below meth c H locs cells slots Q (F0 m (pc + 3) ls rest)) : W p l e R s m args below meth c H locs cells slots Q (F0 m pc ls (.int (Int32.ofInt y) :: .int (Int32.ofInt x) :: rest)) := by
  have ht : (pc : Int) + (((pcs.getD g 0 : Nat) : Int) - ((pcs.getD i 0 : Nat) : Int)) = ((pcs.getD g 0 : Nat) : Int) := by rw [hpc]; omega
  have e1 : Int32.ofInt x = Int32.ofInt y ↔ x = y := ax_eqI hxi hyi
  have e2 : Int32.ofInt x < Int32.ofInt y ↔ x < y := ax_ltI hxi hyi
  have e3 : Int32.ofInt y ≤ Int32.ofInt x ↔ y ≤ x := ax_leI hyi hxi
  have e4 : Int32.ofInt y < Int32.ofInt x ↔ y < x := ax_ltI hyi hxi
  have e5 : Int32.ofInt x ≤ Int32.ofInt y ↔ x ≤ y := ax_leI hxi hyi
  match f, hf, hd, kt, kf with
  | 0, _, hd, kt, kf => exact lv_icmp_eq hx hb hd ht (fun q => kt (decide_eq_true (e1.mp q))) (fun q => kf (decide_eq_false (fun z => q (e1.mpr z))))
  | 1, _, hd, kt, kf => exact lv_icmp_ne hx hb hd ht (fun q => kt (decide_eq_true (fun z => q (e1.mpr z)))) (fun q => kf (decide_eq_false (fun z => z (e1.mp q))))
  | 2, _, hd, kt, kf => exact lv_icmp_lt hx hb hd ht (fun q => kt (decide_eq_true (e2.mp q))) (fun q => kf (decide_eq_false (fun z => q (e2.mpr z))))
  | 3, _, hd, kt, kf => exact lv_icmp_ge hx hb hd ht (fun q => kt (decide_eq_true (e3.mp q))) (fun q => kf (decide_eq_false (fun z => q (e3.mpr z))))
  | 4, _, hd, kt, kf => exact lv_icmp_gt hx hb hd ht (fun q => kt (decide_eq_true (e4.mp q))) (fun q => kf (decide_eq_false (fun z => q (e4.mpr z))))
  | 5, _, hd, kt, kf => exact lv_icmp_le hx hb hd ht (fun q => kt (decide_eq_true (e5.mp q))) (fun q => kf (decide_eq_false (fun z => q (e5.mpr z))))
theorem ax_w15 (hx : p.tables.exec = Jvm.exec) (hb : c.code = cc) {w : Nat × Int × Int × List Nat × Nat × Nat} (hw : ax_sw[f]? = some w) (hw2 : (w.1 = 0 ∧ w.2.2.2.1.length = (w.2.2.1 - w.2.1 + 1).toNat) ∨ (w.1 = 1 ∧ w.2.2.1 < w.2.1)) {x : Int} (hxi : ax_i x) (hpc : pcs.getD i 0 = pc) (hd : decode cc pc = .ok (ax_ins pcs i (15, f, g, b)))
    (k : W p l e R s m args below meth c H locs cells slots Q (F0 m (pcs.getD (if w.2.1 ≤ x ∧ x ≤ w.2.2.1 then w.2.2.2.1.getD (x - w.2.1).toNat 0 else w.2.2.2.2.1) 0) ls rest)) : W p l e R s m args below meth c H locs cells slots Q (F0 m pc ls (.int (Int32.ofInt x) :: rest)) := by
  have hd : decode cc pc = .ok (match ax_sw[f]? with
    | some w =>
      let df : Int := ((pcs.getD w.2.2.2.2.1 0 : Nat) : Int) - ((pcs.getD i 0 : Nat) : Int)
      if w.1 = 0 then (.tableswitch df w.2.1 w.2.2.1 (w.2.2.2.1.map (fun k => ((pcs.getD k 0 : Nat) : Int) - ((pcs.getD i 0 : Nat) : Int))).toArray, w.2.2.2.2.2) else (.lookupswitch df #[], w.2.2.2.2.2)
    | none => (.nop, 1)) := hd
  rw [hw] at hd
  dsimp only at hd
  rcases hw2 with ⟨h0, hl⟩ | ⟨h1, hl⟩
  · rw [if_pos h0] at hd
    by_cases q : w.2.1 ≤ x ∧ x ≤ w.2.2.1
    · rw [if_pos q] at k
      have hk : (x - w.2.1).toNat < w.2.2.2.1.length := by rw [hl]; omega
      refine lv_tableIn (tgt := pcs.getD (w.2.2.2.1.getD (x - w.2.1).toNat 0) 0) (off := ((pcs.getD (w.2.2.2.1.getD (x - w.2.1).toNat 0) 0 : Nat) : Int) - ((pcs.getD i 0 : Nat) : Int)) hx hb hd (by rw [ax_n32 hxi]; omega) (by rw [ax_n32 hxi]; omega) ?_ (by rw [hpc]; omega) k
      rw [ax_n32 hxi, List.getElem?_toArray, List.getElem?_map, List.getElem?_eq_getElem hk, List.getD_eq_getElem?_getD (l := w.2.2.2.1), List.getElem?_eq_getElem hk]
      rfl
    · rw [if_neg q] at k
      exact lv_tableOut hx hb hd (by rw [ax_n32 hxi]; omega) (by rw [hpc]; omega) k
  · rw [if_neg (by rw [h1]; decide)] at hd
    rw [if_neg (by omega)] at k
    exact lv_lookup (off := ((pcs.getD w.2.2.2.2.1 0 : Nat) : Int) - ((pcs.getD i 0 : Nat) : Int)) hx hb hd rfl rfl (by rw [hpc]; omega) k
end AXR
end
section
/-! rows of loads, stores, fields and elements -/
section AXR2
variable {p : Program} {l : Launch} {e : Env} {R : Room} {s : State} {m : MethodId} {args : Array Value} {below : List Frame} {meth : Method} {c : Code} {H : Heap} {locs : List Loc} {cells slots : Nat} {Q : State → Prop}
variable {cc : ByteArray} {pc : Nat} {ls : Array Slot} {rest : List Value} {pcs : List Nat} {i f g : Nat} {b : Int}
variable {cad : Int → Value} {Y : Nat → ClassId} {ad : Nat → Nat} {sh : List ax_H} {M : ax_M} {D : va_G} {A : Nat → Prop} {H0 : Heap} {tys : List (ClassId × FieldType)}
theorem ax_w3 (hx : p.tables.exec = Jvm.exec) (hb : c.code = cc) (hcad : ∀ x, cad x = .null ∨ ∃ q, cad x = .ref q) {nL : Nat} {ll : List ax_V} (hl : ax_lv cad ad ls nL ll) {v : ax_V} (hv : ll[g]? = some v) (hvf : v.1 = f) (hs : f ≤ 2 ∧ (b = 0 → g < 4)) (hd : decode cc pc = .ok (ax_ins pcs i (3, f, g, b)))
    (k : W p l e R s m args below meth c H locs cells slots Q (F0 m (pc + (ax_ins pcs i (3, f, g, b)).2) ls (ax_cv cad ad v :: rest))) : W p l e R s m args below meth c H locs cells slots Q (F0 m pc ls rest) := by
  obtain ⟨t, x⟩ := v
  have hvf : t = f := hvf
  subst hvf
  have hv2 := hl.2.2.2 g _ hv (show t < 3 by omega)
  obtain ⟨h1, h2⟩ := hs
  match t, h1, hd, k, hv2 with
  | 0, _, hd, k, hv2 =>
    have hd : decode cc pc = .ok (if b = 0 then (.iload_n (Fin.ofNat 4 g), 1) else (.iload g, 2)) := hd
    have k : W p l e R s m args below meth c H locs cells slots Q (F0 m (pc + (if b = 0 then ((.iload_n (Fin.ofNat 4 g) : Instr), 1) else (.iload g, 2)).2) ls (ax_cv cad ad (0, x) :: rest)) := k
    by_cases e : b = 0
    · rw [if_pos e] at hd k
      exact lv_iload_n hx hb hd (Nat.mod_eq_of_lt (h2 e)) hv2 k
    · rw [if_neg e] at hd k
      exact lv_iload hx hb hd hv2 k
  | 1, _, hd, k, hv2 =>
    have hd : decode cc pc = .ok (if b = 0 then (.lload_n (Fin.ofNat 4 g), 1) else (.lload g, 2)) := hd
    have k : W p l e R s m args below meth c H locs cells slots Q (F0 m (pc + (if b = 0 then ((.lload_n (Fin.ofNat 4 g) : Instr), 1) else (.lload g, 2)).2) ls (ax_cv cad ad (1, x) :: rest)) := k
    by_cases e : b = 0
    · rw [if_pos e] at hd k
      exact lv_lload_n hx hb hd (Nat.mod_eq_of_lt (h2 e)) hv2 k
    · rw [if_neg e] at hd k
      exact lv_lload hx hb hd hv2 k
  | 2, _, hd, k, hv2 =>
    have hd : decode cc pc = .ok (if b = 0 then (.aload_n (Fin.ofNat 4 g), 1) else (.aload g, 2)) := hd
    have k : W p l e R s m args below meth c H locs cells slots Q (F0 m (pc + (if b = 0 then ((.aload_n (Fin.ofNat 4 g) : Instr), 1) else (.aload g, 2)).2) ls (ax_cv cad ad (2, x) :: rest)) := k
    rcases ax_cref hcad ad x with q | ⟨r, q⟩
    · rw [q] at hv2 k
      by_cases e : b = 0
      · rw [if_pos e] at hd k
        exact lv_aload_nN hx hb hd (Nat.mod_eq_of_lt (h2 e)) hv2 k
      · rw [if_neg e] at hd k
        exact lv_aloadN hx hb hd hv2 k
    · rw [q] at hv2 k
      by_cases e : b = 0
      · rw [if_pos e] at hd k
        exact lv_aload_n hx hb hd (Nat.mod_eq_of_lt (h2 e)) hv2 k
      · rw [if_neg e] at hd k
        exact lv_aload hx hb hd hv2 k
theorem ax_w4 (hx : p.tables.exec = Jvm.exec) (hb : c.code = cc) (hcad : ∀ x, cad x = .null ∨ ∃ q, cad x = .ref q) {nL : Nat} {ll : List ax_V} (hl : ax_lv cad ad ls nL ll) {v : ax_V} (hvf : v.1 = f) (hlt : g + (if v.1 = 1 then 1 else 0) < ll.length) (hs : f ≤ 2 ∧ (b = 0 → g < 4)) (hd : decode cc pc = .ok (ax_ins pcs i (4, f, g, b)))
    (k : ∀ ls' : Array Slot, ax_lv cad ad ls' nL (ax_set ll g v) → W p l e R s m args below meth c H locs cells slots Q (F0 m (pc + (ax_ins pcs i (4, f, g, b)).2) ls' rest)) : W p l e R s m args below meth c H locs cells slots Q (F0 m pc ls (ax_cv cad ad v :: rest)) := by
  obtain ⟨t, x⟩ := v
  have hvf : t = f := hvf
  subst hvf
  obtain ⟨h1, h2⟩ := hs
  have hn : ll.length = nL := hl.2.2.1
  rw [hn] at hlt
  match t, h1, hd, k, hlt with
  | 0, _, hd, k, hlt =>
    have hd : decode cc pc = .ok (if b = 0 then (.istore_n (Fin.ofNat 4 g), 1) else (.istore g, 2)) := hd
    have k : ∀ ls' : Array Slot, ax_lv cad ad ls' nL (ax_set ll g (0, x)) → W p l e R s m args below meth c H locs cells slots Q (F0 m (pc + (if b = 0 then ((.istore_n (Fin.ofNat 4 g) : Instr), 1) else (.istore g, 2)).2) ls' rest) := k
    have hlt : g + 0 < nL := hlt
    by_cases e : b = 0
    · rw [if_pos e] at hd k
      exact lv_istore_n hx hb hd (Nat.mod_eq_of_lt (h2 e)) (ax_lv_as hl) hlt rfl (fun ls' h => k ls' (ax_lv_st1 (ls := ls) hcad rfl hn h))
    · rw [if_neg e] at hd k
      exact lv_istore hx hb hd (ax_lv_as hl) hlt rfl (fun ls' h => k ls' (ax_lv_st1 (ls := ls) hcad rfl hn h))
  | 1, _, hd, k, hlt =>
    have hd : decode cc pc = .ok (if b = 0 then (.lstore_n (Fin.ofNat 4 g), 1) else (.lstore g, 2)) := hd
    have k : ∀ ls' : Array Slot, ax_lv cad ad ls' nL (ax_set ll g (1, x)) → W p l e R s m args below meth c H locs cells slots Q (F0 m (pc + (if b = 0 then ((.lstore_n (Fin.ofNat 4 g) : Instr), 1) else (.lstore g, 2)).2) ls' rest) := k
    have hlt : g + 1 < nL := hlt
    by_cases e : b = 0
    · rw [if_pos e] at hd k
      exact lv_lstore_n hx hb hd (Nat.mod_eq_of_lt (h2 e)) (ax_lv_as hl) hlt rfl (fun ls' h => k ls' (ax_lv_st2 hcad rfl rfl hn h))
    · rw [if_neg e] at hd k
      exact lv_lstore hx hb hd (ax_lv_as hl) hlt rfl (fun ls' h => k ls' (ax_lv_st2 hcad rfl rfl hn h))
  | 2, _, hd, k, hlt =>
    have hd : decode cc pc = .ok (if b = 0 then (.astore_n (Fin.ofNat 4 g), 1) else (.astore g, 2)) := hd
    have k : ∀ ls' : Array Slot, ax_lv cad ad ls' nL (ax_set ll g (2, x)) → W p l e R s m args below meth c H locs cells slots Q (F0 m (pc + (if b = 0 then ((.astore_n (Fin.ofNat 4 g) : Instr), 1) else (.astore g, 2)).2) ls' rest) := k
    have hlt : g + 0 < nL := hlt
    rcases ax_cref hcad ad x with q | ⟨r, q⟩
    · rw [q]
      by_cases e : b = 0
      · rw [if_pos e] at hd k
        exact lv_astore_nN hx hb hd (Nat.mod_eq_of_lt (h2 e)) (ax_lv_as hl) hlt rfl (fun ls' h => k ls' (ax_lv_st1 (ls := ls) hcad q hn h))
      · rw [if_neg e] at hd k
        exact lv_astoreN hx hb hd (ax_lv_as hl) hlt rfl (fun ls' h => k ls' (ax_lv_st1 (ls := ls) hcad q hn h))
    · rw [q]
      by_cases e : b = 0
      · rw [if_pos e] at hd k
        exact lv_astore_n hx hb hd (Nat.mod_eq_of_lt (h2 e)) (ax_lv_as hl) hlt rfl (fun ls' h => k ls' (ax_lv_st1 (ls := ls) hcad q hn h))
      · rw [if_neg e] at hd k
        exact lv_astore hx hb hd (ax_lv_as hl) hlt rfl (fun ls' h => k ls' (ax_lv_st1 (ls := ls) hcad q hn h))
theorem ax_w5 (hx : p.tables.exec = Jvm.exec) (hb : c.code = cc) (hcad : ∀ x, cad x = .null ∨ ∃ q, cad x = .ref q) {nL : Nat} {ll : List ax_V} (hl : ax_lv cad ad ls nL ll) {x : Int} (hv : ll[f]? = some (0, x)) (hd : decode cc pc = .ok (ax_ins pcs i (5, f, g, b)))
    (k : ∀ ls' : Array Slot, ax_lv cad ad ls' nL (ax_set ll f (0, x + b)) → W p l e R s m args below meth c H locs cells slots Q (F0 m (pc + 3) ls' rest)) : W p l e R s m args below meth c H locs cells slots Q (F0 m pc ls rest) := by
  have hn : ll.length = nL := hl.2.2.1
  have hlt : f < nL := by rw [← hn]; exact (List.getElem?_eq_some_iff.mp hv).1
  obtain ⟨q, hq⟩ := List.getElem?_of_mem (ax_as_in (cad := cad) (ad := ad) hv (by show 0 < 3; decide))
  exact lv_iinc (v := Int32.ofInt (x + b)) hx hb hd (ax_lv_as hl) hq (by rw [Int32.ofInt_add]) hlt rfl (fun ls' h => k ls' (ax_lv_st1 (ls := ls) hcad rfl hn h))
/-- an element read -/
theorem ax_w21 (hx : p.tables.exec = Jvm.exec) (hb : c.code = cc) (hK : va_K D vwCl (ax_ty Y) s) (hP : va_P D vwCl (ax_Wd cad Y ad sh M) H) {a t n : Nat} {x : Int} (ha : sh[a]? = some (1, t, n)) (ht : t = f ∨ (f = 4 ∧ t = 5)) (hf : f ≤ 4) (h0 : 0 ≤ x) (hn : x < n) (hxi : ax_i x) (hne : f = 4 → -1 ≤ M a x.toNat) (hd : decode cc pc = .ok (ax_ins pcs i (21, f, g, b)))
    (k : W p l e R s m args below meth c H locs cells slots Q (F0 m (pc + 1) ls (ax_cv cad ad (ax_et f, M a x.toNat) :: rest))) : W p l e R s m args below meth c H locs cells slots Q (F0 m pc ls (.int (Int32.ofInt x) :: .ref (ad a) :: rest)) := by
  have hat := ax_Wd_at (cad := cad) (Y := Y) (ad := ad) (M := M) ha
  rw [ax_E_arr] at hat
  have hin := ax_in (n := n) hxi h0 hn
  have hcl := ax_clamp hxi
  match f, hf, ht, hd, k, hne with
  | 0, _, ht, hd, k, _ =>
    have e : t = 0 := by omega
    subst e
    refine va_iald hx hb hK hP a 0 hat rfl hin hd ?_
    rw [hcl]
    exact k
  | 1, _, ht, hd, k, _ =>
    have e : t = 1 := by omega
    subst e
    refine va_lald hx hb hK hP a 1 hat rfl hin hd ?_
    rw [hcl]
    exact k
  | 2, _, ht, hd, k, _ =>
    have e : t = 2 := by omega
    subst e
    refine va_cald hx hb hK hP a 2 hat rfl hin hd ?_
    rw [hcl]
    exact k
  | 3, _, ht, hd, k, _ =>
    have e : t = 3 := by omega
    subst e
    refine va_zald hx hb hK hP a 3 hat rfl hin hd ?_
    rw [hcl]
    exact k
  | 4, _, ht, hd, k, hne =>
    have hlt : (Int32.ofInt x).toNatClampNeg < n := by rw [hcl]; omega
    have hv : ax_cv cad ad (2, M a x.toNat) = va_rf (if 0 ≤ M a x.toNat then some (ad (M a x.toNat).toNat) else none) := by
      by_cases q : 0 ≤ M a x.toNat
      · rw [ax_cR _ _ q, if_pos q]
        rfl
      · have q1 : M a x.toNat = -1 := by have := hne rfl; omega
        rw [q1]
        rfl
    have k : W p l e R s m args below meth c H locs cells slots Q (F0 m (pc + 1) ls (ax_cv cad ad (2, M a x.toNat) :: rest)) := k
    rw [hv] at k
    rcases (show t = 4 ∨ t = 5 by omega) with e | e
    · subst e
      exact W.aald (v := va_rf (if 0 ≤ M a x.toNat then some (ad (M a x.toNat).toNat) else none)) (ty := .array .int) hx hb (hP a _ hat) ((hK.2 4 _ rfl).1 n (fun j => va_rf (if 0 ≤ M a j then some (ad (M a j).toNat) else none))) rfl (fun q => by cases q) (by show ¬ (Int32.ofInt x < 0 ∨ (arrV _ _ _).slots.size ≤ _); rw [arrV_size]; exact hin) (by show (arrV _ _ _).slots[_]? = _; rw [arrV_read _ _ hlt, hcl]) rfl rfl hd k
    · subst e
      exact W.aald (v := va_rf (if 0 ≤ M a x.toNat then some (ad (M a x.toNat).toNat) else none)) (ty := .array .long) hx hb (hP a _ hat) ((hK.2 5 _ rfl).1 n (fun j => va_rf (if 0 ≤ M a j then some (ad (M a j).toNat) else none))) rfl (fun q => by cases q) (by show ¬ (Int32.ofInt x < 0 ∨ (arrV _ _ _).slots.size ≤ _); rw [arrV_size]; exact hin) (by show (arrV _ _ _).slots[_]? = _; rw [arrV_read _ _ hlt, hcl]) rfl rfl hd k
end AXR2
end
section
/-! rows that write -/
theorem ax_nat {x : Int} (h : 0 ≤ x) : Int32.ofInt x = nI x.toNat := by
  unfold nI
  rw [← Int32.ofInt_eq_ofNat, Int.toNat_of_nonneg h]
theorem ax_narC {x : Int} (h0 : 0 ≤ x) (h1 : x < 65536) : vp_nar .char (Int32.ofInt x) = Int32.ofInt x := by
  rw [ax_nat h0]
  unfold vp_nar
  rw [(pk_charN (q := x.toNat) (by omega)).1]
theorem ax_01 {x : Int} (h0 : 0 ≤ x) (h1 : x < 2) : x = 0 ∨ x = 1 := by omega
theorem ax_narZ {x : Int} (h0 : 0 ≤ x) (h1 : x < 2) : vp_nar .boolean (Int32.ofInt x) = Int32.ofInt x := by
  rcases ax_01 h0 h1 with rfl | rfl <;> rfl
theorem ax_updI {M : ax_M} {a k : Nat} {x : Int} : upd (fun j => Int32.ofInt (M a j)) k (Int32.ofInt x) = fun j => Int32.ofInt (ax_up M a k x a j) := by
  funext j
  by_cases h : j = k
  · subst h
    rw [ax_up_at]
    exact pk_us
  · rw [ax_up_of h]
    exact pk_un h
theorem ax_updL {M : ax_M} {a k : Nat} {x : Int} : vp_updL (fun j => Int64.ofInt (M a j)) k (Int64.ofInt x) = fun j => Int64.ofInt (ax_up M a k x a j) := by
  funext j
  by_cases h : j = k
  · subst h
    rw [ax_up_at]
    exact pk_uLs
  · rw [ax_up_of h]
    exact pk_uLn h
section AXR3
variable {p : Program} {l : Launch} {e : Env} {R : Room} {s : State} {m : MethodId} {args : Array Value} {below : List Frame} {meth : Method} {c : Code} {H : Heap} {locs : List Loc} {cells slots : Nat} {Q : State → Prop}
variable {cc : ByteArray} {pc : Nat} {ls : Array Slot} {rest : List Value} {pcs : List Nat} {i f g : Nat} {b : Int}
variable {cad : Int → Value} {Y : Nat → ClassId} {ad : Nat → Nat} {sh : List ax_H} {M : ax_M} {D : va_G} {A : Nat → Prop} {H0 : Heap} {tys : List (ClassId × FieldType)}
theorem ax_w22 (hx : p.tables.exec = Jvm.exec) (hb : c.code = cc) (hK : va_K D vwCl (ax_ty Y) s) (hP : va_P D vwCl (ax_Wd cad Y ad sh M) H) (hD : va_D A (ax_Wd cad Y ad sh M)) (hS : va_S A H0 H locs) {a n : Nat} {x : Int} {v : ax_V} (ha : sh[a]? = some (1, f, n)) (hv : ax_es f v = true) (h0 : 0 ≤ x) (hn : x < n) (hxi : ax_i x) (hd : decode cc pc = .ok (ax_ins pcs i (22, f, g, b)))
    (k : ∀ (H1 : Heap) (locs1 : List Loc), va_P D vwCl (ax_Wd cad Y ad sh (ax_up M a x.toNat v.2)) H1 → va_D A (ax_Wd cad Y ad sh (ax_up M a x.toNat v.2)) → va_S A H0 H1 locs1 → W p l e R s m args below meth c H1 locs1 cells slots Q (F0 m (pc + 1) ls rest)) : W p l e R s m args below meth c H locs cells slots Q (F0 m pc ls (ax_cv cad ad v :: .int (Int32.ofInt x) :: .ref (ad a) :: rest)) := by
  have hat := ax_Wd_at (cad := cad) (Y := Y) (ad := ad) (M := M) ha
  rw [ax_E_arr] at hat
  have hin := ax_in (n := n) hxi h0 hn
  have hcl := ax_clamp hxi
  have hset := ax_Wd_set (cad := cad) (Y := Y) (ad := ad) (M := M) (M' := ax_up M a x.toNat v.2) ha (fun b hb => ax_up_ne hb)
  rw [ax_E_arr] at hset
  obtain ⟨t, y⟩ := v
  match f, hv, hd, hat, hset with
  | 0, hv, hd, hat, hset =>
    have ht : t = 0 := of_decide_eq_true hv
    subst ht
    refine va_iast hx hb hK hP hD hS a 0 hat rfl hin hd (fun H1 locs1 h1 h2 h3 => ?_)
    rw [hcl, ax_updI] at h1 h2
    exact k H1 locs1 (by rw [← hset]; exact h1) (by rw [← hset]; exact h2) h3
  | 1, hv, hd, hat, hset =>
    have ht : t = 1 := of_decide_eq_true hv
    subst ht
    refine va_last hx hb hK hP hD hS a 1 hat rfl hin hd (fun H1 locs1 h1 h2 h3 => ?_)
    rw [hcl, ax_updL] at h1 h2
    exact k H1 locs1 (by rw [← hset]; exact h1) (by rw [← hset]; exact h2) h3
  | 2, hv, hd, hat, hset =>
    have hq : t = 0 ∧ 0 ≤ y ∧ y < 65536 := of_decide_eq_true hv
    obtain ⟨ht, q1, q2⟩ := hq
    subst ht
    refine va_cast hx hb hK hP hD hS a 2 hat rfl hin hd (fun H1 locs1 h1 h2 h3 => ?_)
    rw [hcl, ax_narC q1 q2, ax_updI] at h1 h2
    exact k H1 locs1 (by rw [← hset]; exact h1) (by rw [← hset]; exact h2) h3
  | 3, hv, hd, hat, hset =>
    have hq : t = 0 ∧ 0 ≤ y ∧ y < 2 := of_decide_eq_true hv
    obtain ⟨ht, q1, q2⟩ := hq
    subst ht
    refine va_zast hx hb hK hP hD hS a 3 hat rfl hin hd (fun H1 locs1 h1 h2 h3 => ?_)
    rw [hcl, ax_narZ q1 q2, ax_updI] at h1 h2
    exact k H1 locs1 (by rw [← hset]; exact h1) (by rw [← hset]; exact h2) h3
  | f + 4, hv, _, _, _ => cases hv
theorem ax_vwcl {f : Nat} (hf : f < 13) : vwCl[f]? = some ((ax_cl f).1, (ax_cl f).2.1, (ax_cl f).2.2) := by
  unfold ax_cl
  rw [List.getD_eq_getElem?_getD]
  have h : f < vwCl.length := hf
  rw [List.getElem?_eq_getElem h]
  rfl
theorem ax_w19 (hx : p.tables.exec = Jvm.exec) (hb : c.code = cc) {own : String} (hts : ∀ w ∈ ax_tb, w.before args s = true) (hown : s.vm.findClass own = some m.cls) (hK : va_K D vwCl (ax_ty Y) s) (hP : va_P D vwCl (ax_Wd cad Y ad sh M) H) {a : Nat} (ha : sh[a]? = some (0, f, ax_fl f)) (hf : f < 13) (hco : ax_cok f) (hg : g < ax_fl f) (hw : Cond.fieldLink own b.toNat ((ax_cl f).2.1 g).1 ((ax_cl f).2.1 g).2.1 ((ax_cl f).2.1 g).2.2.1 ∈ ax_tb) (hd : decode cc pc = .ok (ax_ins pcs i (19, f, g, b)))
    (k : W p l e R s m args below meth c H locs cells slots Q (F0 m (pc + 3) ls (ax_cv cad ad (ax_ft (ax_fty f g), M a g) :: rest))) : W p l e R s m args below meth c H locs cells slots Q (F0 m pc ls (.ref (ad a) :: rest)) := by
  have hat := ax_Wd_at (cad := cad) (Y := Y) (ad := ad) (M := M) ha
  rw [ax_E_obj] at hat
  obtain ⟨c1, c2, c3, -⟩ := hco
  exact va_get hx hb hts c3 hown hK hP a hat (ax_vwcl hf) g (by rw [c1]; exact hg) (hts _ hw) (fun x h => h) (ax_F_at hg) hd k
theorem ax_fitF {n f : Nat} {ty : FieldType} {v : ax_V} (hcad : ∀ x, cad x = .null ∨ ∃ q, cad x = .ref q) (hk : ax_tk ty = f) (hf : f ≤ 3) (hv : ax_fs f v = true) : narrow ty (ax_cv cad ad v) = ax_cv cad ad v ∧ fits ty (ax_cv cad ad v) = true ∧ ax_ft f = v.1 := by
  obtain ⟨t, x⟩ := v
  subst hk
  match ty, hf, hv with
  | .int, _, hv =>
    have ht : t = 0 := of_decide_eq_true hv
    subst ht
    exact ⟨rfl, rfl, rfl⟩
  | .long, _, hv =>
    have ht : t = 1 := of_decide_eq_true hv
    subst ht
    exact ⟨rfl, rfl, rfl⟩
  | .boolean, _, hv =>
    have hq : t = 0 ∧ 0 ≤ x ∧ x < 2 := of_decide_eq_true hv
    obtain ⟨ht, q1, q2⟩ := hq
    subst ht
    rcases ax_01 q1 q2 with rfl | rfl <;> exact ⟨rfl, rfl, rfl⟩
  | .object _, _, hv =>
    have ht : t = 2 := of_decide_eq_true hv
    subst ht
    rcases ax_cref hcad ad x with q | ⟨r, q⟩ <;> rw [q] <;> exact ⟨rfl, rfl, rfl⟩
  | .array _, _, hv =>
    have ht : t = 2 := of_decide_eq_true hv
    subst ht
    rcases ax_cref hcad ad x with q | ⟨r, q⟩ <;> rw [q] <;> exact ⟨rfl, rfl, rfl⟩
  | .byte, hf, _ => exact absurd hf (by decide)
  | .char, hf, _ => exact absurd hf (by decide)
  | .short, hf, _ => exact absurd hf (by decide)
  | .float, hf, _ => exact absurd hf (by decide)
  | .double, hf, _ => exact absurd hf (by decide)
theorem ax_w20 (hx : p.tables.exec = Jvm.exec) (hb : c.code = cc) (hcad : ∀ x, cad x = .null ∨ ∃ q, cad x = .ref q) {own : String} (hts : ∀ w ∈ ax_tb, w.before args s = true) (hown : s.vm.findClass own = some m.cls) (hK : va_K D vwCl (ax_ty Y) s) (hP : va_P D vwCl (ax_Wd cad Y ad sh M) H) (hD : va_D A (ax_Wd cad Y ad sh M)) (hS : va_S A H0 H locs) {a : Nat} {v : ax_V} (ha : sh[a]? = some (0, f, ax_fl f)) (hf : f < 13) (hco : ax_cok f) (hg : g < ax_fl f) (hv : ax_fs (ax_fty f g) v = true) (hw : Cond.fieldLink own b.toNat ((ax_cl f).2.1 g).1 ((ax_cl f).2.1 g).2.1 ((ax_cl f).2.1 g).2.2.1 ∈ ax_tb) (hfin : ((ax_cl f).2.1 g).2.2.2 = false ∨ (meth.name = "<init>" ∧ own = ax_cn f)) (hd : decode cc pc = .ok (ax_ins pcs i (20, f, g, b)))
    (k : ∀ (H1 : Heap) (locs1 : List Loc), va_P D vwCl (ax_Wd cad Y ad sh (ax_up M a g v.2)) H1 → va_D A (ax_Wd cad Y ad sh (ax_up M a g v.2)) → va_S A H0 H1 locs1 → W p l e R s m args below meth c H1 locs1 cells slots Q (F0 m (pc + 3) ls rest)) : W p l e R s m args below meth c H locs cells slots Q (F0 m pc ls (ax_cv cad ad v :: .ref (ad a) :: rest)) := by
  have hat := ax_Wd_at (cad := cad) (Y := Y) (ad := ad) (M := M) ha
  rw [ax_E_obj] at hat
  have hset := ax_Wd_set (cad := cad) (Y := Y) (ad := ad) (M := M) (M' := ax_up M a g v.2) ha (fun b hb => ax_up_ne hb)
  rw [ax_E_obj, ← ax_F_set (cad := cad) (ad := ad) (f := M a) hg (fun j hj => ax_up_of hj), ax_up_at] at hset
  obtain ⟨c1, c2, c3, -, -, c6, c7⟩ := hco
  have hgN : g < (ax_cl f).2.2 := by rw [c1]; exact hg
  obtain ⟨d1, d2, d3⟩ := c6 g hgN
  obtain ⟨n1, n2, n3⟩ := ax_fitF (n := 0) (cad := cad) (ad := ad) hcad d2 (ax_fty3 f g) hv
  have ev : ax_cv cad ad (ax_ft (ax_fty f g), v.2) = ax_cv cad ad v := by rw [n3]
  rw [ev] at hset
  cases hq : ((ax_cl f).2.1 g).2.2.2 with
  | false =>
    refine va_put hx hb hts c3 (ax_fT f) (fun k hk => (c6 k hk).1) c7 hown hK hP hD hS a hat (ax_vwcl hf) g hgN (hts _ hw) (fun x h => h) hq d1 n1 n2 (by rw [ax_F_len]; exact hg) hd (fun H1 locs1 h1 h2 h3 => ?_)
    exact k H1 locs1 (by rw [← hset]; exact h1) (by rw [← hset]; exact h2) h3
  | true =>
    rcases hfin with q | ⟨q1, q2⟩
    · rw [hq] at q; cases q
    · refine va_putF hx hb hts c3 (ax_fT f) (fun k hk => (c6 k hk).1) c7 hown hK hP hD hS a hat (ax_vwcl hf) g hgN (hts _ hw) (fun x h => h) hq q1 (by rw [q2]; exact d3) d1 n1 n2 (by rw [ax_F_len]; exact hg) hd (fun H1 locs1 h1 h2 h3 => ?_)
      exact k H1 locs1 (by rw [← hset]; exact h1) (by rw [← hset]; exact h2) h3
end AXR3
end
section
/-! rows that make cells, and of the JDK's arraycopy -/
def va_AOA (ty : FieldType) (U : State) : Prop := (Cond.arrayOver (.array ty)).before #[] U = true
theorem va_AOA.moved {ty : FieldType} {u U : State} (hvm : u.vm.Alike U.vm) (h : va_AOA ty u) : va_AOA ty U := by
  unfold va_AOA Cond.before Cond.holds at h ⊢
  simp only [Cond.value, beq_iff_eq] at h ⊢
  obtain ⟨comp, hcomp, h⟩ := Option.bind_eq_some_iff.mp h
  obtain ⟨k, hk, h⟩ := Option.bind_eq_some_iff.mp h
  obtain ⟨kc, hkc, h⟩ := Option.map_eq_some_iff.mp h
  obtain ⟨kc', hkc', he⟩ := hvm.2.2 _ _ hkc
  have hidx : (U.vm.classes.findIdx? fun (x : Class) => match x.kind with | .array component _ => component == comp | _ => false) = some k := by
    have h1 := va_idx_bare U.vm comp
    have h0 := va_idx_bare u.vm comp
    have hb : U.vm.bare = u.vm.bare := by first | exact hvm.bare_eq | exact hvm.bare_eq.symm
    rw [hb] at h1
    exact h1.symm.trans (h0.trans hk)
  refine Option.bind_eq_some_iff.mpr ⟨comp, by rw [hvm.findClass]; exact hcomp, Option.bind_eq_some_iff.mpr ⟨k, hidx, Option.map_eq_some_iff.mpr ⟨kc', hkc', ?_⟩⟩⟩
  have hkind : kc'.kind = kc.kind := by rw [he]
  rw [hkind, hvm.findClass]
  exact h
theorem va_AOA.use {ty : FieldType} {A : Array Value} {U : State} (h : va_AOA ty U) : (Cond.arrayOver (.array ty)).before A U = true := h
/-! ===== BEGIN new T[n][m]: the outer array a place, the inner ones among the pooled ===== -/
/-- f, but v at every address of l -/
def vr_up {α : Type} (f : Nat → α) (l : List Nat) (v : α) : Nat → α := fun a => if a ∈ l then v else f a
theorem vr_up_in {α : Type} {f : Nat → α} {l : List Nat} {v : α} {a : Nat} (h : a ∈ l) : vr_up f l v a = v := if_pos h
theorem vr_up_ne {α : Type} {f : Nat → α} {l : List Nat} {v : α} {a : Nat} (h : a ∉ l) : vr_up f l v a = f a := if_neg h
theorem vr_rows {L l : List Nat} {f : Nat → va_E} {e : va_E} (h : ∀ a, a ∈ l → a ∉ L) : va_pl L f ++ l.map (fun a => (a, e)) = va_pl (L ++ l) (vr_up f l e) := by
  unfold va_pl
  rw [List.map_append]
  congr 1
  · apply List.map_congr_left
    intro a ha
    rw [vr_up_ne (fun q => h a q ha)]
  · apply List.map_congr_left
    intro a ha
    rw [vr_up_in ha]
theorem vr_lay {X rows : va_W} {x : Nat × va_E} {pl : va_W} {D : va_G} {cl : List vw_C} {H : Heap} (hP : va_P D cl (((X ++ pl) ++ [x]) ++ rows) H) : va_P D cl ((X ++ [x]) ++ (pl ++ rows)) H := by
  rw [List.append_assoc (X ++ pl)] at hP
  have h := va_P.swap hP
  rw [← List.append_assoc X] at h
  have h2 := va_P.swap h
  rw [List.append_assoc (X ++ [x])] at h2
  exact h2
theorem vr_layD {X rows : va_W} {x : Nat × va_E} {pl : va_W} {A : Nat → Prop} (hD : va_D A (((X ++ pl) ++ [x]) ++ rows)) : va_D A ((X ++ [x]) ++ (pl ++ rows)) := by
  rw [List.append_assoc (X ++ pl)] at hD
  have h := va_D.swap hD
  rw [← List.append_assoc X] at h
  have h2 := va_D.swap h
  rw [List.append_assoc (X ++ [x])] at h2
  exact h2
theorem vr_outer (c : ClassId) (N h0 : Nat) : ∀ i : Nat, Jvm.Free.Multi.outerC c N h0 i = arrV c N (fun j => va_rf (if j < i then some (h0 + 1 + j) else none))
  | 0 => by
    show ({ cls := c, slots := Array.replicate N .null, vm := .none } : Cell) = _
    rw [arrV_new]
    refine congrArg (arrV c N) (funext fun j => ?_)
    simp [va_rf]
  | i + 1 => by
    show (Jvm.Free.Multi.outerC c N h0 i).setSlot i (.ref (h0 + 1 + i)) = _
    rw [vr_outer c N h0 i, arrV_store]
    refine congrArg (arrV c N) (funext fun j => ?_)
    by_cases e : j = i
    · subst e
      simp [updV, va_rf]
    · by_cases h : j < i
      · simp [updV, e, h, Nat.lt_succ_of_lt h]
      · simp [updV, e, h, show ¬ j < i + 1 by omega]
section VGM
variable {p : Program} {l : Launch} {e : Env} {R : Room} {s : State} {m : MethodId} {args : Array Value} {below : List Frame} {meth : Method} {c : Code} {H : Heap} {locs : List Loc} {cells slots : Nat} {Q : State → Prop}
variable {cc : ByteArray} {pc : Nat} {ls : Array Slot} {rest : List Value} {D : va_G} {cl : List vw_C} {A : Nat → Prop} {a : Nat} {tys : List (ClassId × FieldType)} {ws : va_W} {H0 : Heap}
theorem va_mna {X : va_W} {L : List Nat} {f : Nat → va_E} {cc : ByteArray} (hexec : p.tables.exec = Jvm.exec) (hb : c.code = cc) {own : String} {index : Nat} {ty : FieldType} {cy : ClassId} (hown : s.vm.findClass own = some m.cls) (hclink : (Cond.classLink own index ("[" ++ (FieldType.array ty).toString)).before args s = true) (hover : va_AOA ty s) (harr : (Cond.arrayClass ty).before args s = true) (hcy : s.vm.findClass (FieldType.array ty).toString = some cy)
    (hK : va_K D cl tys s) (hP : va_P D cl (X ++ va_pl L f) H) (hD : va_D A (X ++ va_pl L f)) (hS : va_S A H0 H locs) (hA : ∀ q, H0.size ≤ q → A q) {n k : Int32} {N' K' : Nat} {z : vp_A} (hn : ¬ n < 0) (hk : ¬ k < 0) (hN : n.toNatClampNeg = N') (hM : k.toNatClampNeg = K')
    (hb1 : N' * 4 ≤ 536870912) (hb2 : K' * componentBytes ty ≤ 536870912) (hb3 : K' ≤ 536870912) (hdf : fits ty (defaultValue ty) = true) (hdd : (defaultValue ty).isDefault = true) (hcells : cells + (1 + N') ≤ R.cells) (hslots : slots + (N' + N' * K') ≤ R.slots) (hz : ∀ c : ClassId, Jvm.Free.Multi.innerC c K' (defaultValue ty) = vp_cell c z) (hdg : decode cc pc = .ok (.multianewarray index 2, 4))
    (kk : ∀ (q : Nat) (r : Nat → Nat) (cA : ClassId) (H1 : Heap), (∀ i j : Nat, i < N' → j < N' → r i = r j → i = j) → (∀ i : Nat, i < N' → r i ∉ L) → va_K D cl (tys ++ [(cA, .array ty)]) s →
      va_P D cl ((X ++ [(q, .inl (cA, N', .inr (.inr (.inr (.inr (fun i => if i < N' then some (r i) else none))))))]) ++ va_pl (L ++ (List.range N').map r) (vr_up f ((List.range N').map r) (.inl (cy, z)))) H1 → va_D A ((X ++ [(q, .inl (cA, N', .inr (.inr (.inr (.inr (fun i => if i < N' then some (r i) else none))))))]) ++ va_pl (L ++ (List.range N').map r) (vr_up f ((List.range N').map r) (.inl (cy, z)))) → va_S A H0 H1 locs →
      W p l e R s m args below meth c H1 locs (cells + 1 + N') (slots + N' + N' * K') Q (F0 m (pc + 4) ls (.ref q :: rest))) : W p l e R s m args below meth c H locs cells slots Q (F0 m pc ls (.int k :: .int n :: rest)) := by
  subst hN
  subst hM
  intro T hT Xs
  obtain ⟨vm₁, cA, comp, -, fA, fC, hO, -, X', step⟩ := Xs.multianewarray2F hexec hown hclink (va_AOA.use hover) harr (g := F0 m pc ls (.int k :: .int n :: rest)) rfl (by rw [hb]; exact hdg) rfl hn hk hb1 hb2 hb3 hdf hdd hcells hslots
  have ec : some cy = some comp := hcy.symm.trans fC
  cases ec
  generalize hF : Jvm.Free.Multi.fill (T.setVm vm₁) cA cy n.toNatClampNeg k.toNatClampNeg (defaultValue ty) n.toNatClampNeg = F at X' step
  have hTh : (T.setVm vm₁).heap = H := hT
  obtain ⟨f1, f2, -, -⟩ := Jvm.Free.Multi.fill_facts (T.setVm vm₁) cA cy n.toNatClampNeg k.toNatClampNeg (defaultValue ty) n.toNatClampNeg
  rw [hF, hTh] at f1 f2
  have hold : ∀ x : Nat, x < H.size → F.heap[x]? = H[x]? := fun x hx => by
    have := Jvm.Free.Multi.fill_old (T.setVm vm₁) cA cy n.toNatClampNeg k.toNatClampNeg (defaultValue ty) (a := x) (by rw [hTh]; exact hx) n.toNatClampNeg
    rw [hF, hTh] at this
    exact this
  have hrow : ∀ j : Nat, j < n.toNatClampNeg → F.heap[H.size + 1 + j]? = some (vp_cell cy z) := fun j hj => by
    have := Jvm.Free.Multi.fill_inner (T.setVm vm₁) cA cy n.toNatClampNeg k.toNatClampNeg (defaultValue ty) n.toNatClampNeg j hj
    rw [hF, hTh, hz] at this
    exact this
  have hout : Jvm.Free.Multi.outerC cA n.toNatClampNeg H.size n.toNatClampNeg = vp_cell cA (n.toNatClampNeg, .inr (.inr (.inr (.inr (fun i => if i < n.toNatClampNeg then some (H.size + 1 + i) else none))))) := by
    rw [vp_cell_q]
    exact vr_outer cA n.toNatClampNeg H.size n.toNatClampNeg
  rw [hout] at f2
  have hlt : ∀ a, a ∈ L → a < H.size := fun a ha => by
    obtain ⟨k9, hk9⟩ := va_pl_get (X := X) (f := f) ha
    exact (hP k9 _ hk9).lt
  have hnl : ∀ i : Nat, i < n.toNatClampNeg → H.size + 1 + i ∉ L := fun i _ h => by
    have := hlt _ h
    omega
  have hnm : ∀ a, a ∈ (List.range n.toNatClampNeg).map (fun i => H.size + 1 + i) → a ∉ L := fun a ha h => by
    obtain ⟨i, -, rfl⟩ := List.mem_map.mp ha
    have := hlt _ h
    omega
  have hP0 : va_P D cl (X ++ va_pl L f) F.heap := hP.kept (fun k9 x hx => hold x.1 ((hP k9 x hx).lt))
  have hP1 : va_P D cl ((X ++ va_pl L f) ++ [(H.size, .inl (cA, n.toNatClampNeg, .inr (.inr (.inr (.inr (fun i => if i < n.toNatClampNeg then some (H.size + 1 + i) else none))))))]) F.heap := hP0.app (fun k9 x hx => by
    have h0 : k9 < 1 := (List.getElem?_eq_some_iff.mp hx).1
    rw [show k9 = 0 by omega] at hx
    cases hx
    exact f2)
  have hP2 : va_P D cl (((X ++ va_pl L f) ++ [(H.size, .inl (cA, n.toNatClampNeg, .inr (.inr (.inr (.inr (fun i => if i < n.toNatClampNeg then some (H.size + 1 + i) else none))))))]) ++ ((List.range n.toNatClampNeg).map (fun i => H.size + 1 + i)).map (fun a => (a, .inl (cy, z)))) F.heap := hP1.app (fun k9 x hx => by
    obtain ⟨a, ha, rfl⟩ := List.mem_map.mp (List.mem_of_getElem? hx)
    obtain ⟨i, hi, rfl⟩ := List.mem_map.mp ha
    exact hrow i (List.mem_range.mp hi))
  have hD2 : va_D A (((X ++ va_pl L f) ++ [(H.size, .inl (cA, n.toNatClampNeg, .inr (.inr (.inr (.inr (fun i => if i < n.toNatClampNeg then some (H.size + 1 + i) else none))))))]) ++ ((List.range n.toNatClampNeg).map (fun i => H.size + 1 + i)).map (fun a => (a, .inl (cy, z)))) := by
    have hD1 := hD.push (e := .inl (cA, n.toNatClampNeg, .inr (.inr (.inr (.inr (fun i => if i < n.toNatClampNeg then some (H.size + 1 + i) else none)))))) hP rfl (hA _ hS.1)
    generalize hW1 : (X ++ va_pl L f) ++ [(H.size, .inl (cA, n.toNatClampNeg, .inr (.inr (.inr (.inr (fun i => if i < n.toNatClampNeg then some (H.size + 1 + i) else none))))))] = W1 at hD1 hP1 ⊢
    have hle : ∀ (k9 : Nat) (x : Nat × va_E), W1[k9]? = some x → x.1 ≤ H.size := fun k9 x hx => by
      rw [← hW1] at hx
      by_cases hl : k9 < (X ++ va_pl L f).length
      · rw [List.getElem?_append_left hl] at hx
        exact Nat.le_of_lt ((hP k9 x hx).lt)
      · rw [List.getElem?_append_right (by omega)] at hx
        have h0 : k9 - (X ++ va_pl L f).length < 1 := (List.getElem?_eq_some_iff.mp hx).1
        rw [show k9 - (X ++ va_pl L f).length = 0 by omega] at hx
        cases hx
        exact Nat.le_refl _
    have hr : ∀ (k9 : Nat) (x : Nat × va_E), (((List.range n.toNatClampNeg).map (fun i => H.size + 1 + i)).map (fun a => ((a, .inl (cy, z)) : Nat × va_E)))[k9]? = some x → x.1 = H.size + 1 + k9 := fun k9 x hx => by
      rw [List.getElem?_map, List.getElem?_map] at hx
      by_cases h9 : k9 < n.toNatClampNeg
      · rw [List.getElem?_range h9] at hx
        cases hx
        rfl
      · have hn0 : (List.range n.toNatClampNeg)[k9]? = none := List.getElem?_eq_none (by rw [List.length_range]; omega)
        rw [hn0] at hx
        cases hx
    refine ⟨fun i j x y hi hj hxy => ?_, fun k9 x hx => ?_⟩
    · by_cases h1 : i < W1.length <;> by_cases h2 : j < W1.length
      · rw [List.getElem?_append_left h1] at hi
        rw [List.getElem?_append_left h2] at hj
        exact hD1.1 i j x y hi hj hxy
      · rw [List.getElem?_append_left h1] at hi
        rw [List.getElem?_append_right (by omega)] at hj
        have := hle _ _ hi
        have := hr _ _ hj
        omega
      · rw [List.getElem?_append_right (by omega)] at hi
        rw [List.getElem?_append_left h2] at hj
        have := hle _ _ hj
        have := hr _ _ hi
        omega
      · rw [List.getElem?_append_right (by omega)] at hi hj
        have := hr _ _ hi
        have := hr _ _ hj
        omega
    · by_cases h1 : k9 < W1.length
      · rw [List.getElem?_append_left h1] at hx
        exact hD1.2 k9 x hx
      · rw [List.getElem?_append_right (by omega)] at hx
        have := hr _ _ hx
        exact hA _ (by have := hS.1; omega)
  have hAr : ArrOfT s cA (.array ty) := fun N9 z9 => by
    obtain ⟨-, k9, hk9, cm9, hkk9⟩ := (hO 0 0 0).1
    exact ⟨(fun q hq => by cases hq), k9, hk9, cm9, hkk9⟩
  have hK2 : va_K D cl (tys ++ [(cA, .array ty)]) s := ⟨hK.1, fun k9 x hx => by
    by_cases hl : k9 < tys.length
    · rw [List.getElem?_append_left hl] at hx
      exact hK.2 k9 x hx
    · rw [List.getElem?_append_right (by omega)] at hx
      have h0 : k9 - tys.length < 1 := (List.getElem?_eq_some_iff.mp hx).1
      rw [show k9 - tys.length = 0 by omega] at hx
      cases hx
      exact ⟨hAr, fA⟩⟩
  obtain ⟨t, a1, b1⟩ := kk H.size (fun i => H.size + 1 + i) cA F.heap (fun i j _ _ h => by have h9 : H.size + 1 + i = H.size + 1 + j := h; omega) hnl hK2 (by rw [← vr_rows hnm]; exact vr_lay hP2) (by rw [← vr_rows hnm]; exact vr_layD hD2) ⟨by rw [f1]; have := hS.1; omega, fun x h1 h2 => (hold x (Nat.lt_of_lt_of_le h1 hS.1)).trans (hS.2.1 x h1 h2), hS.2.2⟩ F rfl X'
  refine ⟨t, step t ?_, b1⟩
  have e : T.heap.size = H.size := by rw [hT]
  rw [e]
  exact a1
end VGM
/-! ===== END ===== -/
theorem ax_Wd_app {cad : Int → Value} {Y : Nat → ClassId} {ad ad' : Nat → Nat} {sh t : List ax_H} {M M' : ax_M} (hA : ∀ a, a < sh.length → ad' a = ad a) (hM : ∀ a, a < sh.length → M' a = M a) (w : ax_wm sh M) : ax_Wd cad Y ad' (sh ++ t) M' = ax_Wd cad Y ad sh M ++ (List.range t.length).map (fun b => (ad' (sh.length + b), ax_E cad Y ad' (t.getD b (0, 0, 0)) (M' (sh.length + b)))) := by
  refine List.ext_getElem? (fun k => ?_)
  by_cases hk : k < sh.length
  · have e : sh[k]? = some sh[k] := List.getElem?_eq_getElem hk
    rw [List.getElem?_append_left (by rw [ax_Wd_len]; exact hk), ax_Wd_at e, ax_Wd_at (h := sh[k]) (by rw [List.getElem?_append_left hk]; exact e), hA k hk, hM k hk, ax_E_ad hA (w k _ e)]
  · rw [List.getElem?_append_right (by rw [ax_Wd_len]; omega), ax_Wd_len]
    by_cases hk2 : k - sh.length < t.length
    · have e : t[k - sh.length]? = some t[k - sh.length] := List.getElem?_eq_getElem hk2
      rw [ax_Wd_at (h := t[k - sh.length]) (by rw [List.getElem?_append_right (by omega)]; exact e), List.getElem?_map, List.getElem?_range hk2]
      show _ = some (ad' (sh.length + (k - sh.length)), ax_E cad Y ad' (t.getD (k - sh.length) (0, 0, 0)) (M' (sh.length + (k - sh.length))))
      rw [List.getD_eq_getElem?_getD, e, show sh.length + (k - sh.length) = k by omega]
      rfl
    · rw [List.getElem?_eq_none (by rw [ax_Wd_len, List.length_append]; omega), List.getElem?_eq_none (by rw [List.length_map, List.length_range]; omega)]
theorem ax_sl_app (sh t : List ax_H) : ax_sl (sh ++ t) = ax_sl sh + ax_sl t := by
  unfold ax_sl
  rw [List.map_append, List.sum_append]
section AXR4
variable {p : Program} {l : Launch} {e : Env} {R : Room} {s : State} {m : MethodId} {args : Array Value} {below : List Frame} {meth : Method} {c : Code} {H : Heap} {locs : List Loc} {cells slots : Nat} {Q : State → Prop}
variable {cc : ByteArray} {pc : Nat} {ls : Array Slot} {rest : List Value} {pcs : List Nat} {i f g : Nat} {b : Int}
variable {cad : Int → Value} {Y : Nat → ClassId} {ad : Nat → Nat} {sh : List ax_H} {M : ax_M} {D : va_G} {A : Nat → Prop} {H0 : Heap} {tys : List (ClassId × FieldType)}
theorem ax_w25 (hx : p.tables.exec = Jvm.exec) (hb : c.code = cc) {own : String} (hts : ∀ w ∈ ax_tb, w.before args s = true) (hown : s.vm.findClass own = some m.cls) (hK : va_K D vwCl (ax_ty Y) s) (hP : va_P D vwCl (ax_Wd cad Y ad sh M) H) (hD : va_D A (ax_Wd cad Y ad sh M)) (hS : va_S A H0 H locs) (hA : ∀ q, H0.size ≤ q → A q) (w : ax_wm sh M) (hf : f < 13) (hco : ax_cok f) (hw : Cond.classLink own b.toNat (ax_cl f).1 ∈ ax_tb) (hcells : cells + 1 ≤ R.cells) (hslots : slots + ax_fl f ≤ R.slots) (hd : decode cc pc = .ok (ax_ins pcs i (25, f, g, b)))
    (k : ∀ (ad' : Nat → Nat) (H1 : Heap), (∀ a, a < sh.length → ad' a = ad a) → va_P D vwCl (ax_Wd cad Y ad' (sh ++ [(0, f, ax_fl f)]) (ax_nw M sh.length (ax_df f))) H1 → va_D A (ax_Wd cad Y ad' (sh ++ [(0, f, ax_fl f)]) (ax_nw M sh.length (ax_df f))) → va_S A H0 H1 locs → W p l e R s m args below meth c H1 locs (cells + 1) (slots + ax_fl f) Q (F0 m (pc + 3) ls (.ref (ad' sh.length) :: rest))) : W p l e R s m args below meth c H locs cells slots Q (F0 m pc ls rest) := by
  obtain ⟨c1, c2, c3, c4, c5, c6, c7⟩ := hco
  rw [← c1] at k hslots
  refine va_new (fs := ax_F cad ad f (ax_cl f).2.2 (ax_df f)) hx hb hts c3 (ax_fT f) (fun k hk => (c6 k hk).1) hown (hts _ hw) (hts _ c4) (hts _ c5) hK hP hD hS hA (ax_vwcl hf) (fun j hj => ?_) hcells hslots hd (fun q H1 h1 h2 h3 => ?_)
  · unfold vp_V
    rw [List.getD_eq_getElem?_getD, ax_F_at hj]
    show _ = ax_cv cad ad (ax_ft (ax_fty f j), ax_df f j)
    have ht := (c6 j hj).2.1
    unfold ax_df
    rw [← ht]
    have h3 : ax_tk (ax_fT f j) ≤ 3 := by rw [ht]; exact ax_fty3 f j
    generalize ax_fT f j = ty at h3 ⊢
    match ty, h3 with
    | .int, _ => rfl
    | .long, _ => rfl
    | .boolean, _ => rfl
    | .object _, _ => rfl
    | .array _, _ => rfl
    | .byte, hf => exact absurd hf (by decide)
    | .char, hf => exact absurd hf (by decide)
    | .short, hf => exact absurd hf (by decide)
    | .float, hf => exact absurd hf (by decide)
    | .double, hf => exact absurd hf (by decide)
  · have hA' : ∀ a, a < sh.length → (fun a => if a = sh.length then q else ad a) a = ad a := fun a ha => if_neg (by omega)
    have hW : ax_Wd cad Y (fun a => if a = sh.length then q else ad a) (sh ++ [(0, f, (ax_cl f).2.2)]) (ax_nw M sh.length (ax_df f)) = ax_Wd cad Y ad sh M ++ [(q, .inr (f, ax_F cad ad f (ax_cl f).2.2 (ax_df f)))] := by
      rw [ax_Wd_app hA' (fun a ha => ax_nw_old M sh.length _ ha) w]
      congr 1
      show [((if sh.length + 0 = sh.length then q else ad (sh.length + 0)), ax_E cad Y (fun a => if a = sh.length then q else ad a) (0, f, (ax_cl f).2.2) (ax_nw M sh.length (ax_df f) (sh.length + 0)))] = _
      rw [if_pos (by omega), ax_nw_at, ax_E_obj]
      congr 4
      unfold ax_F
      refine List.map_congr_left (fun j _ => ?_)
      unfold ax_df
      have h3 := ax_fty3 f j
      generalize ax_fty f j = t at h3 ⊢
      match t, h3 with
      | 0, _ => rfl
      | 1, _ => rfl
      | 2, _ => rfl
      | 3, _ => rfl
    have := k (fun a => if a = sh.length then q else ad a) H1 hA' (by rw [hW]; exact h1) (by rw [hW]; exact h2) h3
    rw [if_pos rfl] at this
    exact this
theorem ax_w24 (hx : p.tables.exec = Jvm.exec) (hb : c.code = cc) (hts : ∀ w ∈ ax_tb, w.before args s = true) (hjw : ∀ w ∈ ax_jw, w ∈ ax_tb) (hK : va_K D vwCl (ax_ty Y) s) (hP : va_P D vwCl (ax_Wd cad Y ad sh M) H) (hD : va_D A (ax_Wd cad Y ad sh M)) (hS : va_S A H0 H locs) (hA : ∀ q, H0.size ≤ q → A q) (w : ax_wm sh M) (hf : f ≤ 3) {x : Int} (hxi : ax_i x) (h0 : 0 ≤ x) (hn : x ≤ 10000) (hcells : cells + 1 ≤ R.cells) (hslots : slots + x.toNat ≤ R.slots) (hd : decode cc pc = .ok (ax_ins pcs i (24, f, g, b)))
    (k : ∀ (ad' : Nat → Nat) (H1 : Heap), (∀ a, a < sh.length → ad' a = ad a) → va_P D vwCl (ax_Wd cad Y ad' (sh ++ [(1, f, x.toNat)]) (ax_nw M sh.length (fun _ => 0))) H1 → va_D A (ax_Wd cad Y ad' (sh ++ [(1, f, x.toNat)]) (ax_nw M sh.length (fun _ => 0))) → va_S A H0 H1 locs → W p l e R s m args below meth c H1 locs (cells + 1) (slots + x.toNat) Q (F0 m (pc + 2) ls (.ref (ad' sh.length) :: rest))) : W p l e R s m args below meth c H locs cells slots Q (F0 m pc ls (.int (Int32.ofInt x) :: rest)) := by
  have hn0 : ¬ Int32.ofInt x < 0 := fun q => by
    have := (ax_ltI hxi ax_i0).mp q
    omega
  have hcl := ax_clamp hxi
  have key : ∀ (ty : FieldType) (q : Nat) (H1 : Heap), va_P D vwCl (ax_Wd cad Y ad sh M ++ [(q, .inl (Y f, x.toNat, ax_A ad f (fun _ => 0)))]) H1 → va_D A (ax_Wd cad Y ad sh M ++ [(q, .inl (Y f, x.toNat, ax_A ad f (fun _ => 0)))]) → va_S A H0 H1 locs → W p l e R s m args below meth c H1 locs (cells + 1) (slots + x.toNat) Q (F0 m (pc + 2) ls (.ref q :: rest)) := by
    intro ty q H1 h1 h2 h3
    have hA' : ∀ a, a < sh.length → (fun a => if a = sh.length then q else ad a) a = ad a := fun a ha => if_neg (by omega)
    have hW : ax_Wd cad Y (fun a => if a = sh.length then q else ad a) (sh ++ [(1, f, x.toNat)]) (ax_nw M sh.length (fun _ => 0)) = ax_Wd cad Y ad sh M ++ [(q, .inl (Y f, x.toNat, ax_A ad f (fun _ => 0)))] := by
      rw [ax_Wd_app hA' (fun a ha => ax_nw_old M sh.length _ ha) w]
      congr 1
      show [((if sh.length + 0 = sh.length then q else ad (sh.length + 0)), ax_E cad Y (fun a => if a = sh.length then q else ad a) (1, f, x.toNat) (ax_nw M sh.length (fun _ => 0) (sh.length + 0)))] = _
      rw [if_pos (by omega), ax_nw_at, ax_E_arr]
      unfold ax_A
      rw [if_neg (show ¬ 4 ≤ f by omega)]
      rw [if_neg (show ¬ 4 ≤ f by omega)]
    have := k (fun a => if a = sh.length then q else ad a) H1 hA' (by rw [hW]; exact h1) (by rw [hW]; exact h2) h3
    rw [if_pos rfl] at this
    exact this
  match f, hf, hd, key with
  | 0, _, hd, key =>
    refine va_newa (ty := .int) (a0 := (x.toNat, ax_A ad 0 (fun _ => 0))) hx hb (hts _ (hjw _ (by decide))) rfl hK hP hD hS hA (fun cA => rfl) hn0 hcl (Nat.le_trans (Nat.mul_le_mul (show x.toNat ≤ 10000 by omega) (show componentBytes .int ≤ 8 by decide)) (by decide)) hcells hslots hd (fun q cA H1 hK1 h1 h2 h3 => ?_)
    have e1 := (hK1.2 6 (cA, .int) rfl).2
    have e2 := (hK.2 0 (Y 0, .int) rfl).2
    have ec : Y 0 = cA := Option.some.inj (e2.symm.trans e1)
    rw [← ec] at h1 h2
    exact key .int q H1 h1 h2 h3
  | 1, _, hd, key =>
    refine va_newa (ty := .long) (a0 := (x.toNat, ax_A ad 1 (fun _ => 0))) hx hb (hts _ (hjw _ (by decide))) rfl hK hP hD hS hA (fun cA => rfl) hn0 hcl (Nat.le_trans (Nat.mul_le_mul (show x.toNat ≤ 10000 by omega) (show componentBytes .long ≤ 8 by decide)) (by decide)) hcells hslots hd (fun q cA H1 hK1 h1 h2 h3 => ?_)
    have e1 := (hK1.2 6 (cA, .long) rfl).2
    have e2 := (hK.2 1 (Y 1, .long) rfl).2
    have ec : Y 1 = cA := Option.some.inj (e2.symm.trans e1)
    rw [← ec] at h1 h2
    exact key .long q H1 h1 h2 h3
  | 2, _, hd, key =>
    refine va_newa (ty := .char) (a0 := (x.toNat, ax_A ad 2 (fun _ => 0))) hx hb (hts _ (hjw _ (by decide))) rfl hK hP hD hS hA (fun cA => rfl) hn0 hcl (Nat.le_trans (Nat.mul_le_mul (show x.toNat ≤ 10000 by omega) (show componentBytes .char ≤ 8 by decide)) (by decide)) hcells hslots hd (fun q cA H1 hK1 h1 h2 h3 => ?_)
    have e1 := (hK1.2 6 (cA, .char) rfl).2
    have e2 := (hK.2 2 (Y 2, .char) rfl).2
    have ec : Y 2 = cA := Option.some.inj (e2.symm.trans e1)
    rw [← ec] at h1 h2
    exact key .char q H1 h1 h2 h3
  | 3, _, hd, key =>
    refine va_newa (ty := .boolean) (a0 := (x.toNat, ax_A ad 3 (fun _ => 0))) hx hb (hts _ (hjw _ (by decide))) rfl hK hP hD hS hA (fun cA => rfl) hn0 hcl (Nat.le_trans (Nat.mul_le_mul (show x.toNat ≤ 10000 by omega) (show componentBytes .boolean ≤ 8 by decide)) (by decide)) hcells hslots hd (fun q cA H1 hK1 h1 h2 h3 => ?_)
    have e1 := (hK1.2 6 (cA, .boolean) rfl).2
    have e2 := (hK.2 3 (Y 3, .boolean) rfl).2
    have ec : Y 3 = cA := Option.some.inj (e2.symm.trans e1)
    rw [← ec] at h1 h2
    exact key .boolean q H1 h1 h2 h3
theorem ax_w29 (hx : p.tables.exec = Jvm.exec) (hb : c.code = cc) (hml : c.maxLocals = ls.size) {own : String} (hts : ∀ w ∈ ax_tb, w.before args s = true) (hjw : ∀ w ∈ ax_jw, w ∈ ax_tb) (hown : s.vm.findClass own = some m.cls) (hK : va_K D vwCl (ax_ty Y) s) (hP : va_P D vwCl (ax_Wd cad Y ad sh M) H) (hD : va_D A (ax_Wd cad Y ad sh M)) (hS : va_S A H0 H locs) {a d la lb : Nat} {sp dp n : Int} (ha : sh[a]? = some (1, 0, la)) (hd0 : sh[d]? = some (1, 0, lb)) (i1 : ax_i sp) (i2 : ax_i dp) (i3 : ax_i n) (h1 : 0 ≤ sp) (h2 : 0 ≤ dp) (h3 : 0 ≤ n) (h4 : sp + n ≤ la) (h5 : dp + n ≤ lb) (hcat : (rest.map fun v => v.category).sum ≤ 8) (hfr : 1 ≤ R.frames) (hlo : 64 ≤ R.locals) (hw : Cond.methodLink own b.toNat ⟨"java/lang/System", "arraycopy", "(Ljava/lang/Object;ILjava/lang/Object;II)V"⟩ ∈ ax_tb) (hd : decode cc pc = .ok (ax_ins pcs i (29, f, g, b)))
    (k : ∀ (H1 : Heap) (locs1 : List Loc), va_P D vwCl (ax_Wd cad Y ad sh (ax_cpy M a sp.toNat d dp.toNat n.toNat)) H1 → va_D A (ax_Wd cad Y ad sh (ax_cpy M a sp.toNat d dp.toNat n.toNat)) → va_S A H0 H1 locs1 → W p l e R s m args below meth c H1 locs1 cells slots Q (F0 m (pc + 3) ls rest)) : W p l e R s m args below meth c H locs cells slots Q (F0 m pc ls (.int (Int32.ofInt n) :: .int (Int32.ofInt dp) :: .ref (ad d) :: .int (Int32.ofInt sp) :: .ref (ad a) :: rest)) := by
  have hat := ax_Wd_at (cad := cad) (Y := Y) (ad := ad) (M := M) ha
  have hbt := ax_Wd_at (cad := cad) (Y := Y) (ad := ad) (M := M) hd0
  rw [ax_E_arr] at hat hbt
  have hset := ax_Wd_set (cad := cad) (Y := Y) (ad := ad) (M := M) (M' := ax_cpy M a sp.toNat d dp.toNat n.toNat) hd0 (fun b hb => by
    funext j
    unfold ax_cpy
    rw [if_neg (fun q => hb q.1)])
  rw [ax_E_arr] at hset
  have neg : ∀ {x : Int}, ax_i x → 0 ≤ x → ¬ Int32.ofInt x < 0 := fun hi h q => by
    have := (ax_ltI hi ax_i0).mp q
    omega
  have e1 := ax_clamp i1
  have e2 := ax_clamp i2
  have e3 := ax_clamp i3
  refine va_copyi (ty := .int) hx hb hml hown (hts _ hw) (hts _ (hjw _ (by decide))) (hts _ (hjw _ (by decide))) (hts _ (hjw _ (by decide))) hK hP hD hS a d 0 0 hat hbt rfl rfl rfl (neg i1 h1) (neg i2 h2) (neg i3 h3) (by rw [e1, e3]; omega) (by rw [e2, e3]; omega) (fun _ _ => rfl) hfr (Nat.le_trans (Nat.add_le_add_right hcat _) (Nat.le_trans (show 8 + (nativeFrameWords "java/lang/System" "arraycopy" 5 + 11) ≤ 64 by decide) hlo)) hd (fun H1 locs1 q1 q2 q3 => ?_)
  have ef : va_cpy (fun k => Int32.ofInt (M a k)) (fun k => Int32.ofInt (M d k)) (Int32.ofInt sp).toNatClampNeg (Int32.ofInt dp).toNatClampNeg (Int32.ofInt n).toNatClampNeg = fun k => Int32.ofInt (ax_cpy M a sp.toNat d dp.toNat n.toNat d k) := by
    rw [e1, e2, e3]
    funext k
    unfold va_cpy ax_cpy
    by_cases q : dp.toNat ≤ k ∧ k < dp.toNat + n.toNat
    · rw [if_pos q, if_pos ⟨rfl, q⟩]
    · rw [if_neg q, if_neg (fun z => q z.2)]
  rw [ef] at q1 q2
  exact k H1 locs1 (by rw [← hset]; exact q1) (by rw [← hset]; exact q2) q3
end AXR4
end
section
/-! arrays of arrays -/
section AXR5
variable {p : Program} {l : Launch} {e : Env} {R : Room} {s : State} {m : MethodId} {args : Array Value} {below : List Frame} {meth : Method} {c : Code} {H : Heap} {locs : List Loc} {cells slots : Nat} {Q : State → Prop}
variable {cc : ByteArray} {pc : Nat} {ls : Array Slot} {rest : List Value} {pcs : List Nat} {i f g : Nat} {b : Int}
variable {cad : Int → Value} {Y : Nat → ClassId} {ad : Nat → Nat} {sh : List ax_H} {M : ax_M} {D : va_G} {A : Nat → Prop} {H0 : Heap}
def ax_adr (ad : Nat → Nat) (o q : Nat) (r : Nat → Nat) : Nat → Nat := fun a => if a < o then ad a else if a = o then q else r (a - o - 1)
theorem ax_Wd_rows {N K q : Nat} {r : Nat → Nat} (hf : f ≤ 1) (w : ax_wm sh M) (f0 : Nat → va_E) : ax_Wd cad Y (ax_adr ad sh.length q r) (sh ++ (1, 4 + f, N) :: List.replicate N (1, f, K)) (ax_nr M sh.length N) = (ax_Wd cad Y ad sh M ++ [(q, .inl (Y (4 + f), N, .inr (.inr (.inr (.inr (fun i => if i < N then some (r i) else none))))))]) ++ va_pl ([] ++ (List.range N).map r) (vr_up f0 ((List.range N).map r) (.inl (Y f, K, ax_A ad f (fun _ => 0)))) := by
  have hA : ∀ a, a < sh.length → ax_adr ad sh.length q r a = ad a := fun a ha => if_pos ha
  rw [ax_Wd_app hA (fun a ha => ax_nr_old M sh.length N ha) w, List.append_assoc]
  congr 1
  rw [List.length_cons, List.length_replicate, List.range_succ_eq_map, List.map_cons, List.map_map, List.nil_append]
  show _ :: _ = _ :: _
  congr 1
  · show (ax_adr ad sh.length q r (sh.length + 0), ax_E cad Y (ax_adr ad sh.length q r) (1, 4 + f, N) (ax_nr M sh.length N (sh.length + 0))) = _
    rw [ax_E_arr]
    have e1 : ax_adr ad sh.length q r (sh.length + 0) = q := by
      unfold ax_adr
      rw [if_neg (by omega), if_pos (by omega)]
    rw [e1]
    congr 3
    unfold ax_A
    rw [if_neg (by omega), if_pos (by omega)]
    congr 5
    funext k
    rw [ax_nr_at]
    by_cases hk : k < N
    · rw [if_pos hk, if_pos hk, if_pos (by omega)]
      congr 1
      unfold ax_adr
      rw [if_neg (by omega), if_neg (by omega)]
      congr 1
      omega
    · rw [if_neg hk, if_neg hk, if_neg (by omega)]
  · unfold va_pl
    rw [List.map_map]
    refine List.map_congr_left (fun k hk => ?_)
    have hk := List.mem_range.mp hk
    show (ax_adr ad sh.length q r (sh.length + (k + 1)), ax_E cad Y (ax_adr ad sh.length q r) (((1, 4 + f, N) :: List.replicate N ((1, f, K) : ax_H)).getD (k + 1) (0, 0, 0)) (ax_nr M sh.length N (sh.length + (k + 1)))) = (r k, vr_up f0 ((List.range N).map r) (.inl (Y f, K, ax_A ad f (fun _ => 0))) (r k))
    rw [vr_up_in (List.mem_map.mpr ⟨k, List.mem_range.mpr hk, rfl⟩)]
    have e1 : ax_adr ad sh.length q r (sh.length + (k + 1)) = r k := by
      unfold ax_adr
      rw [if_neg (by omega), if_neg (by omega)]
      congr 1
      omega
    have e2 : ((1, 4 + f, N) :: List.replicate N ((1, f, K) : ax_H)).getD (k + 1) (0, 0, 0) = (1, f, K) := by
      rw [List.getD_cons_succ, List.getD_eq_getElem?_getD, List.getElem?_replicate_of_lt hk]
      rfl
    have e3 : ax_nr M sh.length N (sh.length + (k + 1)) = fun _ => 0 := by
      funext z
      rw [ax_nr_row]
    rw [e1, e2, e3, ax_E_arr]
    congr 3
    unfold ax_A
    rw [if_neg (show ¬ 4 ≤ f by omega), if_neg (show ¬ 4 ≤ f by omega)]
theorem ax_w26 (hx : p.tables.exec = Jvm.exec) (hb : c.code = cc) {own : String} (hts : ∀ w ∈ ax_tb, w.before args s = true) (hjw : ∀ w ∈ ax_jw, w ∈ ax_tb) (hov1 : va_AOA .int s) (hov2 : va_AOA .long s) (hown : s.vm.findClass own = some m.cls) (hK : va_K D vwCl (ax_ty Y) s) (hP : va_P D vwCl (ax_Wd cad Y ad sh M) H) (hD : va_D A (ax_Wd cad Y ad sh M)) (hS : va_S A H0 H locs) (hA : ∀ q, H0.size ≤ q → A q) (w : ax_wm sh M) (hf : f ≤ 1) {x y : Int} (hxi : ax_i x) (hyi : ax_i y) (h0 : 0 ≤ x) (h1 : x ≤ 1000) (h2 : 0 ≤ y) (h3 : y ≤ 1000) (hw : Cond.classLink own b.toNat (if f = 0 then "[[I" else "[[J") ∈ ax_tb) (hcells : cells + (1 + x.toNat) ≤ R.cells) (hslots : slots + (x.toNat + x.toNat * y.toNat) ≤ R.slots) (hd : decode cc pc = .ok (ax_ins pcs i (26, f, g, b)))
    (k : ∀ (ad' : Nat → Nat) (H1 : Heap), (∀ a, a < sh.length → ad' a = ad a) → va_P D vwCl (ax_Wd cad Y ad' (sh ++ (1, 4 + f, x.toNat) :: List.replicate x.toNat (1, f, y.toNat)) (ax_nr M sh.length x.toNat)) H1 → va_D A (ax_Wd cad Y ad' (sh ++ (1, 4 + f, x.toNat) :: List.replicate x.toNat (1, f, y.toNat)) (ax_nr M sh.length x.toNat)) → va_S A H0 H1 locs → W p l e R s m args below meth c H1 locs (cells + 1 + x.toNat) (slots + x.toNat + x.toNat * y.toNat) Q (F0 m (pc + 4) ls (.ref (ad' sh.length) :: rest))) : W p l e R s m args below meth c H locs cells slots Q (F0 m pc ls (.int (Int32.ofInt y) :: .int (Int32.ofInt x) :: rest)) := by
  have neg : ∀ {x : Int}, ax_i x → 0 ≤ x → ¬ Int32.ofInt x < 0 := fun hi h q => by
    have := (ax_ltI hi ax_i0).mp q
    omega
  have hadr : ∀ (q : Nat) (r : Nat → Nat), ax_adr ad sh.length q r sh.length = q := fun q r => by
    unfold ax_adr
    rw [if_neg (by omega), if_pos rfl]
  have hold : ∀ (q : Nat) (r : Nat → Nat) (a : Nat), a < sh.length → ax_adr ad sh.length q r a = ad a := fun q r a ha => if_pos ha
  have nil : ∀ F : Nat → va_E, ax_Wd cad Y ad sh M ++ va_pl [] F = ax_Wd cad Y ad sh M := fun F => List.append_nil _
  match f, hf, hd, hw, k with
  | 0, hf, hd, hw, k =>
    refine va_mna (X := ax_Wd cad Y ad sh M) (L := []) (f := fun _ => .inl (Y 0, 0, ax_A ad 0 (fun _ => 0))) (ty := .int) (cy := Y 0) (z := (y.toNat, ax_A ad 0 (fun _ => 0))) hx hb hown (hts _ hw) hov1 (hts _ (hjw _ (by decide))) (hK.2 0 (Y 0, .int) rfl).2 hK (by rw [nil]; exact hP) (by rw [nil]; exact hD) hS hA (neg hxi h0) (neg hyi h2) (ax_clamp hxi) (ax_clamp hyi) (by omega) (Nat.le_trans (Nat.mul_le_mul (show y.toNat ≤ 1000 by omega) (show componentBytes .int ≤ 8 by decide)) (by decide)) (by omega) rfl rfl hcells hslots (fun cA => arrV_new cA y.toNat _) hd (fun q r cA H1 _ _ hK1 q1 q2 q3 => ?_)
    have e1 := (hK1.2 6 (cA, .array .int) rfl).2
    have e2 := (hK.2 4 (Y 4, .array .int) rfl).2
    have ec : Y 4 = cA := Option.some.inj (e2.symm.trans e1)
    subst ec
    have hW := ax_Wd_rows (cad := cad) (Y := Y) (ad := ad) (N := x.toNat) (K := y.toNat) (q := q) (r := r) hf w (fun _ => .inl (Y 0, 0, ax_A ad 0 (fun _ => 0)))
    have := k (ax_adr ad sh.length q r) H1 (hold q r) (by rw [hW]; exact q1) (by rw [hW]; exact q2) q3
    rw [hadr] at this
    exact this
  | 1, hf, hd, hw, k =>
    refine va_mna (X := ax_Wd cad Y ad sh M) (L := []) (f := fun _ => .inl (Y 0, 0, ax_A ad 0 (fun _ => 0))) (ty := .long) (cy := Y 1) (z := (y.toNat, ax_A ad 1 (fun _ => 0))) hx hb hown (hts _ hw) hov2 (hts _ (hjw _ (by decide))) (hK.2 1 (Y 1, .long) rfl).2 hK (by rw [nil]; exact hP) (by rw [nil]; exact hD) hS hA (neg hxi h0) (neg hyi h2) (ax_clamp hxi) (ax_clamp hyi) (by omega) (Nat.le_trans (Nat.mul_le_mul (show y.toNat ≤ 1000 by omega) (show componentBytes .long ≤ 8 by decide)) (by decide)) (by omega) rfl rfl hcells hslots (fun cA => arrV_new cA y.toNat _) hd (fun q r cA H1 _ _ hK1 q1 q2 q3 => ?_)
    have e1 := (hK1.2 6 (cA, .array .long) rfl).2
    have e2 := (hK.2 5 (Y 5, .array .long) rfl).2
    have ec : Y 5 = cA := Option.some.inj (e2.symm.trans e1)
    subst ec
    have hW := ax_Wd_rows (cad := cad) (Y := Y) (ad := ad) (N := x.toNat) (K := y.toNat) (q := q) (r := r) hf w (fun _ => .inl (Y 0, 0, ax_A ad 0 (fun _ => 0)))
    have := k (ax_adr ad sh.length q r) H1 (hold q r) (by rw [hW]; exact q1) (by rw [hW]; exact q2) q3
    rw [hadr] at this
    exact this
end AXR5
end
section
/-! constants: the script, texts, statics -/
theorem ax_ldcwS {p : Program} {l : Launch} {e : Env} {R : Room} {s : State} {m : MethodId} {args : Array Value} {below : List Frame} {meth : Method} {c : Code} {T : State} {locs : List Loc} {cells slots : Nat}
    (X : Stand p l e R s m args below meth c T locs cells slots) (hexec : p.tables.exec = Jvm.exec) {own text : String} {index : Nat} {a : Addr} (hown : s.vm.findClass own = some m.cls)
    (hconst : (Cond.stringRef own index text).before args s = true) (hev : (Term.string own index).eval args s none [] s = some (.ref a)) {g : JFrame} (hg : g.method = m) (hdg : decode c.code g.pc = .ok (.ldc_w index, 3)) :
    ∀ target, Steps p.tables e below (T.setTop { g with pc := g.pc + 3, stack := .ref a :: g.stack }) target → Steps p.tables e below (T.setTop g) target := by
  obtain ⟨k, cf, i, a', hk, hcf, hcp, -, hr, hev'⟩ := Cond.stringRef_spec hown hconst
  cases hev.symm.trans hev'
  obtain ⟨k', hk', he⟩ := X.warmed.alike.2.2 _ _ hk
  have hr' : k'.resolved[index]? = some (some (.string a)) := by
    rcases X.warmed.entry hk hk' index with h | ⟨h, -⟩
    · rw [h]; exact hr
    · rw [hr] at h; cases h
  intro target hrest
  subst hg
  jvm_step X.here [hexec, hdg, ldc_w.wp_string (e := e) (s := T) (f := g) X.here.top hk' (by rw [he]; exact hcf) hcp hr']
  exact hrest
/-- what is so in every state: classes and arrays, the script, texts and statics -/
def ax_Ks (D : va_G) (Y : Nat → ClassId) (cad : Int → Value) (base L : Nat) (X : Nat → Int) (U : State) : Prop :=
  base ≤ U.heap.size ∧ va_K D vwCl (ax_ty Y) U ∧
  (∃ q : Nat, cad (-2) = .ref q ∧ q < base ∧ va_X q L (fun k => Int32.ofInt (X k)) U U.heap) ∧
  (∃ t : Nat, cad (-3) = .ref t ∧ va_Z "FireDrill$HouseReader" "MOST_OF" "[I" (.ref t) (fun q => base ≤ q) U U.heap ∧ va_T .int t 9 (fun j => .int (Int32.ofInt (ax_mo.getD j 0))) (fun q => base ≤ q) U U.heap) ∧
  va_Z "jdk/internal/util/Preconditions" "SIOOBE_FORMATTER" "Ljava/util/function/BiFunction;" (cad (-4)) (fun q => base ≤ q) U U.heap ∧
  va_Z "java/lang/String" "COMPACT_STRINGS" "Z" (.int 1) (fun q => base ≤ q) U U.heap ∧
  (∀ k : Nat, k < 21 → ∃ qS qB : Nat, cad (-10 - 2 * (k : Int)) = .ref qS ∧ cad (-11 - 2 * (k : Int)) = .ref qB ∧ va_O "java/lang/String" qS (fun q => base ≤ q) U U.heap ∧ va_OF "java/lang/String" "coder" "B" (.int 0) qS (fun q => base ≤ q) U U.heap ∧ va_OF "java/lang/String" "value" "[B" (.ref qB) qS (fun q => base ≤ q) U U.heap ∧ va_T .byte qB (ax_tx.getD k ("", [])).2.length (fun j => .int (Int32.ofInt ((ax_tx.getD k ("", [])).2.getD j 0))) (fun q => base ≤ q) U U.heap) ∧
  (∀ (o idx : Nat) (z : Int), (2, idx, 0, z) ∈ ax_lk.getD o [] → ∃ q : Nat, cad z = .ref q ∧ vk_R (ax_cn o) idx (ax_tx.getD (ax_sx z) ("", [])).1 q U) ∧
  (∀ o idx z : Nat, (9, idx, z, 0) ∈ ax_lk.getD o [] → va_Nw (.methodLinkNest (ax_cn o) idx (ax_inf z).2.1 "FireDrill") U) ∧ va_AOA .int U ∧ va_AOA .long U
theorem ax_Ks.go {D : va_G} {Y : Nat → ClassId} {cad : Int → Value} {base L : Nat} {X : Nat → Int} {u U : State} (h : ax_Ks D Y cad base L X u) (hvm : u.vm.Alike U.vm) (hR : ∀ own k tx a, vk_R own k tx a u → vk_R own k tx a U) (hN : ∀ own k y h, va_Nw (.methodLinkNest own k y h) u → va_Nw (.methodLinkNest own k y h) U) (hz : u.heap.size ≤ U.heap.size) (hk : ∀ q : Nat, q < u.heap.size → ¬ base ≤ q → U.heap[q]? = u.heap[q]?) : ax_Ks D Y cad base L X U := by
  obtain ⟨h1, h2, ⟨q, h3, h4, h5⟩, ⟨t, h6, h7, h8⟩, h9, h10, h11, h12, h13, h14, h15⟩ := h
  refine ⟨Nat.le_trans h1 hz, va_K.moved hvm h2, ⟨q, h3, h4, (va_X.moved hvm h5).kept (hk q (by omega) (by omega))⟩, ⟨t, h6, (va_Z.moved hvm h7).kept hk, (va_T.moved hvm h8).kept hk⟩, (va_Z.moved hvm h9).kept hk, (va_Z.moved hvm h10).kept hk, fun k hkk => ?_, fun o idx z hin => ?_, fun o idx z hin => hN _ _ _ _ (h13 o idx z hin), h14.moved hvm, h15.moved hvm⟩
  · obtain ⟨qS, qB, g1, g2, g3, g4, g5, g6⟩ := h11 k hkk
    exact ⟨qS, qB, g1, g2, (va_O.moved hvm g3).kept hk, (va_OF.moved hvm g4).kept hk, (va_OF.moved hvm g5).kept hk, (va_T.moved hvm g6).kept hk⟩
  · obtain ⟨q, g1, g2⟩ := h12 o idx z hin
    exact ⟨q, g1, hR _ _ _ _ g2⟩
theorem ax_Ks.call {D : va_G} {Y : Nat → ClassId} {cad : Int → Value} {base L : Nat} {X : Nat → Int} {u U : State} {H : Heap} {locs : List Loc} (h : ax_Ks D Y cad base L X u) (hW : u.WarmedH U.vm) (hS : va_S (fun q => base ≤ q) u.heap H locs) (hH : U.heap = H) : ax_Ks D Y cad base L X U := by
  subst hH
  exact h.go hW.alike (fun own k tx a g => vk_R.warm hW g) (fun own k y h g => va_Nw.warmM hW g) hS.1 hS.2.1
theorem ax_Ks.same {D : va_G} {Y : Nat → ClassId} {cad : Int → Value} {base L : Nat} {X : Nat → Int} {u U : State} (h : ax_Ks D Y cad base L X u) (hv : U.vm = u.vm) (hh : U.heap = u.heap) : ax_Ks D Y cad base L X U := by
  refine h.go (by rw [hv]; exact Vm.Alike.refl _) (fun own k tx a g => vk_R.same hv g) (fun own k y h g => va_Nw.same rfl hv.symm g) (by rw [hh]; exact Nat.le_refl _) (fun q _ _ => by rw [hh])
theorem ax_sx_of {a : Int} (h : ax_isS a = true) : ∃ k : Nat, k < 21 ∧ a = -10 - 2 * (k : Int) ∧ ax_sx a = k := by
  have h : a ≤ -10 ∧ a % 2 = 0 ∧ ax_sx a < 21 := of_decide_eq_true h
  refine ⟨ax_sx a, h.2.2, ?_, rfl⟩
  unfold ax_sx
  omega
theorem ax_bx_of {a : Int} (h : ax_isB a = true) : ∃ k : Nat, k < 21 ∧ a = -11 - 2 * (k : Int) ∧ ax_sx (a + 1) = k := by
  have h : a ≤ -11 ∧ a % 2 = 1 ∧ ax_sx (a + 1) < 21 := of_decide_eq_true h
  refine ⟨ax_sx (a + 1), h.2.2, ?_, rfl⟩
  unfold ax_sx
  omega
section AXK
variable {p : Program} {l : Launch} {e : Env} {R : Room} {s : State} {m : MethodId} {args : Array Value} {below : List Frame} {meth : Method} {c : Code} {H : Heap} {locs : List Loc} {cells slots : Nat} {Q : State → Prop}
variable {cc : ByteArray} {pc : Nat} {ls : Array Slot} {rest : List Value} {pcs : List Nat} {i f g : Nat} {b : Int}
variable {cad : Int → Value} {Y : Nat → ClassId} {ad : Nat → Nat} {sh : List ax_H} {M : ax_M} {D : va_G} {base L : Nat} {X : Nat → Int}
/-- numbers pushed -/
theorem ax_w0 (hx : p.tables.exec = Jvm.exec) (hb : c.code = cc) {o : Nat} (hKs : ax_Ks D Y cad base L X s) (hS : va_S (fun q => base ≤ q) s.heap H locs) (hts : ∀ w ∈ ax_tb, w.before args s = true) (hown : s.vm.findClass (ax_cn o) = some m.cls) (hsm : f ≤ 5 ∧ ax_i b ∧ (f = 1 → -128 ≤ b ∧ b < 128) ∧ (f = 2 → -32768 ≤ b ∧ b < 32768)) (hlk : 3 ≤ f → (if f = 5 then ax_wd o (3, g, 0, 1) else ax_wd o (0, g, 0, b)) ∈ ax_tb) (h5 : f = 5 → b = 1) (hd : decode cc pc = .ok (ax_ins pcs i (0, f, g, b)))
    (k : W p l e R s m args below meth c H locs cells slots Q (F0 m (pc + (ax_ins pcs i (0, f, g, b)).2) ls (.int (Int32.ofInt b) :: rest))) : W p l e R s m args below meth c H locs cells slots Q (F0 m pc ls rest) := by
  obtain ⟨s1, s2, s3, s4⟩ := hsm
  match f, s1, s3, s4, hlk, h5, hd, k with
  | 0, _, _, _, _, _, hd, k => exact lv_iconst hx hb hd rfl k
  | 1, _, s3, _, _, _, hd, k => exact lv_bipush hx hb hd (ax_byte (s3 rfl).1 (s3 rfl).2) k
  | 2, _, _, s4, _, _, hd, k => exact lv_sipush hx hb hd (ax_short (s4 rfl).1 (s4 rfl).2) k
  | 3, _, _, _, hlk, _, hd, k => exact lv_ldc hx hb hown (hts _ (hlk (by decide))) hd k
  | 4, _, _, _, hlk, _, hd, k => exact lv_ldcw hx hb hown (hts _ (hlk (by decide))) hd k
  | 5, _, _, _, hlk, h5, hd, k =>
    have hb1 := h5 rfl
    subst hb1
    exact va_gets hx hb hKs.2.2.2.2.2.1 hS hown (hts _ (hlk (by decide))) (fun x h => h) hd k
theorem ax_w1 (hx : p.tables.exec = Jvm.exec) (hb : c.code = cc) {o : Nat} (hts : ∀ w ∈ ax_tb, w.before args s = true) (hown : s.vm.findClass (ax_cn o) = some m.cls) (hsm : f ≤ 1 ∧ ax_l b ∧ (f = 0 → 0 ≤ b ∧ b < 2)) (hlk : f ≠ 0 → ax_wd o (1, g, 0, b) ∈ ax_tb) (hd : decode cc pc = .ok (ax_ins pcs i (1, f, g, b)))
    (k : W p l e R s m args below meth c H locs cells slots Q (F0 m (pc + (ax_ins pcs i (1, f, g, b)).2) ls (.long (Int64.ofInt b) :: rest))) : W p l e R s m args below meth c H locs cells slots Q (F0 m pc ls rest) := by
  obtain ⟨s1, s2, s3⟩ := hsm
  match f, s1, s3, hlk, hd, k with
  | 0, _, s3, _, hd, k =>
    have hq := s3 rfl
    rcases ax_01 hq.1 hq.2 with e | e
    · subst e
      exact lv_lconst hx hb hd rfl k
    · subst e
      exact lv_lconst hx hb hd rfl k
  | 1, _, _, hlk, hd, k => exact lv_ldc2 hx hb hown (hts _ (hlk (by decide))) hd k
/-- references pushed -/
theorem ax_w2 (hx : p.tables.exec = Jvm.exec) (hb : c.code = cc) {o : Nat} (hKs : ax_Ks D Y cad base L X s) (hS : va_S (fun q => base ≤ q) s.heap H locs) (hts : ∀ w ∈ ax_tb, w.before args s = true) (hown : s.vm.findClass (ax_cn o) = some m.cls) (hsm : f ≤ 3 ∧ b < -1) (hlk : (f = 0 ∨ f = 3 → (2, g, 0, b) ∈ ax_lk.getD o []) ∧ (f = 1 ∨ f = 2 → ax_wd o (3, g, 0, b) ∈ ax_tb ∧ (b = -3 ∨ b = -4))) (hd : decode cc pc = .ok (ax_ins pcs i (2, f, g, b)))
    (k : W p l e R s m args below meth c H locs cells slots Q (F0 m (pc + (ax_ins pcs i (2, f, g, b)).2) ls (cad b :: rest))) : W p l e R s m args below meth c H locs cells slots Q (F0 m pc ls rest) := by
  obtain ⟨s1, s2⟩ := hsm
  have st : ∀ (hd : decode cc pc = .ok (.getstatic g, 3)), ax_wd o (3, g, 0, b) ∈ ax_tb ∧ (b = -3 ∨ b = -4) → W p l e R s m args below meth c H locs cells slots Q (F0 m (pc + 3) ls (cad b :: rest)) → W p l e R s m args below meth c H locs cells slots Q (F0 m pc ls rest) := by
    intro hd2 hlk2 k2
    clear hd hlk k
    obtain ⟨hw, rfl | rfl⟩ := hlk2
    · obtain ⟨t, e1, e2, -⟩ := hKs.2.2.2.1
      rw [e1] at k2
      exact va_gets hx hb e2 hS hown (hts _ hw) (fun x h => h) hd2 k2
    · exact va_gets hx hb hKs.2.2.2.2.1 hS hown (hts _ hw) (fun x h => h) hd2 k2
  match f, s1, hlk, hd, k with
  | 0, _, hlk, hd, k =>
    obtain ⟨q, e1, e2⟩ := hKs.2.2.2.2.2.2.2.1 o g b (hlk.1 (Or.inl rfl))
    rw [e1] at k
    exact va_ldcS hx hb hown e2 hd k
  | 1, _, hlk, hd, k => exact st hd (hlk.2 (Or.inl rfl)) k
  | 2, _, hlk, hd, k => exact st hd (hlk.2 (Or.inr rfl)) k
  | 3, _, hlk, hd, k =>
    obtain ⟨q, e1, e2⟩ := hKs.2.2.2.2.2.2.2.1 o g b (hlk.1 (Or.inr rfl))
    rw [e1] at k
    intro T hT X0
    obtain ⟨t, a1, b1⟩ := k T hT X0
    exact ⟨t, ax_ldcwS X0 hx hown e2.1 e2.2 (g := F0 m pc ls rest) rfl (by rw [hb]; exact hd) t a1, b1⟩
/-- a text's fields -/
theorem ax_w19s (hx : p.tables.exec = Jvm.exec) (hb : c.code = cc) {o : Nat} (hKs : ax_Ks D Y cad base L X s) (hS : va_S (fun q => base ≤ q) s.heap H locs) (hts : ∀ w ∈ ax_tb, w.before args s = true) (hown : s.vm.findClass (ax_cn o) = some m.cls) {a : Int} (ha : ax_isS a = true) (hg : g = 0 ∨ g = 1) (hw : ax_wd o (5, b.toNat, 13, g) ∈ ax_tb) (hd : decode cc pc = .ok (ax_ins pcs i (19, 13, g, b)))
    (k : W p l e R s m args below meth c H locs cells slots Q (F0 m (pc + 3) ls (ax_cv cad ad (if g = 0 then (2, a - 1) else (0, 0)) :: rest))) : W p l e R s m args below meth c H locs cells slots Q (F0 m pc ls (ax_cv cad ad (2, a) :: rest)) := by
  obtain ⟨n, h1, h2, h3⟩ := ax_sx_of ha
  obtain ⟨qS, qB, g1, g2, -, g4, g5, -⟩ := hKs.2.2.2.2.2.2.1 n h1
  rw [ax_cK _ _ (show a < -1 by omega), h2, g1]
  rcases hg with e | e
  · subst e
    rw [if_pos rfl, ax_cK _ _ (show a - 1 < -1 by omega), show a - 1 = -11 - 2 * (n : Int) by omega, g2] at k
    exact vk_getf hx hb g5 hS hown (hts _ hw) (fun x h => h) hd k
  · subst e
    exact vk_getf hx hb g4 hS hown (hts _ hw) (fun x h => h) hd k
/-- an element of what is constant -/
theorem ax_w21c (hx : p.tables.exec = Jvm.exec) (hb : c.code = cc) (hKs : ax_Ks D Y cad base L X s) (hS : va_S (fun q => base ≤ q) s.heap H locs) {a x : Int} {v : ax_V} (ha : ¬ 0 ≤ a) (hxi : ax_i x) (hv : ax_ald L X sh M f a x = some v) (hd : decode cc pc = .ok (ax_ins pcs i (21, f, g, b)))
    (k : W p l e R s m args below meth c H locs cells slots Q (F0 m (pc + 1) ls (ax_cv cad ad v :: rest))) : W p l e R s m args below meth c H locs cells slots Q (F0 m pc ls (.int (Int32.ofInt x) :: ax_cv cad ad (2, a) :: rest)) := by
  have hcl := ax_clamp hxi
  unfold ax_ald at hv
  rw [if_neg ha] at hv
  split at hv
  · rename_i e
    split at hv
    · rename_i q
      cases hv
      obtain ⟨q1, q2, q3⟩ := q
      subst q1
      subst e
      obtain ⟨t, e1, e2, e3⟩ := hKs.2.2.1
      rw [ax_cK _ _ (by decide), e1]
      refine va_sld hx hb e3 (Nat.lt_of_lt_of_le e2 hKs.1) (show ¬ base ≤ t by omega) hS (ax_in hxi q2 q3.1) hd ?_
      rw [hcl]
      exact k
    · cases hv
  · split at hv
    · rename_i e
      split at hv
      · rename_i q
        cases hv
        obtain ⟨q1, q2, q3⟩ := q
        subst q1
        subst e
        obtain ⟨t, e1, -, e3⟩ := hKs.2.2.2.1
        rw [ax_cK _ _ (by decide), e1]
        exact va_ti hx hb e3 hS (ax_in (n := 9) hxi q2 q3) (by rw [hcl]; rfl) hd k
      · cases hv
    · split at hv
      · rename_i e
        split at hv
        · rename_i q
          cases hv
          obtain ⟨q1, q2, q3⟩ := q
          subst q1
          obtain ⟨n, h1, h2, h3⟩ := ax_bx_of e
          obtain ⟨qS, qB, -, g2, -, -, -, g6⟩ := hKs.2.2.2.2.2.2.1 n h1
          have eb : ax_by a = (ax_tx.getD n ("", [])).2 := by unfold ax_by; rw [h3]
          rw [eb] at q3 k
          rw [ax_cK _ _ (show a < -1 by omega), h2, g2]
          exact va_tb hx hb g6 hS (ax_in hxi q2 q3) (by rw [hcl]; rfl) hd k
        · cases hv
      · cases hv
theorem ax_w23c (hx : p.tables.exec = Jvm.exec) (hb : c.code = cc) (hKs : ax_Ks D Y cad base L X s) (hS : va_S (fun q => base ≤ q) s.heap H locs) {a n : Int} (ha : ¬ 0 ≤ a) (hv : ax_aln L sh a = some n) (hd : decode cc pc = .ok (ax_ins pcs i (23, f, g, b)))
    (k : W p l e R s m args below meth c H locs cells slots Q (F0 m (pc + 1) ls (.int (Int32.ofInt n) :: rest))) : W p l e R s m args below meth c H locs cells slots Q (F0 m pc ls (ax_cv cad ad (2, a) :: rest)) := by
  unfold ax_aln at hv
  rw [if_neg ha] at hv
  split at hv
  · rename_i e
    split at hv
    · cases hv
      subst e
      obtain ⟨t, e1, e2, e3⟩ := hKs.2.2.1
      rw [ax_cK _ _ (by decide), e1]
      refine va_slen hx hb e3 (Nat.lt_of_lt_of_le e2 hKs.1) (show ¬ base ≤ t by omega) hS hd ?_
      rw [Int32.ofInt_eq_ofNat] at k
      exact k
    · cases hv
  · split at hv
    · rename_i e
      cases hv
      obtain ⟨n, h1, h2, h3⟩ := ax_bx_of e
      obtain ⟨qS, qB, -, g2, -, -, -, g6⟩ := hKs.2.2.2.2.2.2.1 n h1
      have eb : ax_by a = (ax_tx.getD n ("", [])).2 := by unfold ax_by; rw [h3]
      rw [eb] at k
      rw [ax_cK _ _ (show a < -1 by omega), h2, g2]
      exact va_tlen hx hb g6 hS (by rw [Int32.ofInt_eq_ofNat]) hd k
    · cases hv
end AXK
end
section
/-! one step of the small machine is steps of the machine -/
def ax_pc (j i : Nat) : Nat := (ax_pcs.getD j []).getD i 0
def ax_bc (j : Nat) : ByteArray := (ax_inf j).2.2.1
theorem ax_use {j i : Nat} {o : ax_O} (hj : ax_okM j = true) (ho : ax_at j i = some o) (h9 : o.1 ≠ 99) : decode (ax_bc j) (ax_pc j i) = .ok (ax_ins (ax_pcs.getD j []) i o) ∧ ax_sml j o = true ∧ (ax_run1 o = false → ax_pc j (i + 1) = ax_pc j i + (ax_ins (ax_pcs.getD j []) i o).2) ∧ ∀ ls, ax_lnk o = some ls → ∃ t, t ∈ ls ∧ t ∈ ax_lk.getD (ax_own j) [] := by
  have h1 := ax_ok_at hj ho
  unfold ax_okI at h1
  rw [decide_eq_false h9, Bool.false_or] at h1
  simp only [Bool.and_eq_true] at h1
  obtain ⟨⟨⟨a1, a2⟩, a3⟩, a4⟩ := h1
  refine ⟨of_decide_eq_true a1, a2, fun hr => ?_, fun ls hls => ?_⟩
  · rw [hr, Bool.false_or] at a3
    have := of_decide_eq_true a3
    show (ax_pcs.getD j []).getD (i + 1) 0 = _
    rw [List.getD_eq_getElem?_getD, this]
    rfl
  · rw [hls] at a4
    dsimp only at a4
    obtain ⟨t, ht, hc⟩ := List.any_eq_true.mp a4
    exact ⟨t, ht, List.elem_iff.mp hc⟩
theorem ax_l6 (pcs : List Nat) (i f g : Nat) (b : Int) (h : f ≤ 10) : (ax_ins pcs i (6, f, g, b)).2 = 1 := by
  match f, h with
  | 0, _ => rfl
  | 1, _ => rfl
  | 2, _ => rfl
  | 3, _ => rfl
  | 4, _ => rfl
  | 5, _ => rfl
  | 6, _ => rfl
  | 7, _ => rfl
  | 8, _ => rfl
  | 9, _ => rfl
  | 10, _ => rfl
theorem ax_l7 (pcs : List Nat) (i f g : Nat) (b : Int) (h : f ≤ 5) : (ax_ins pcs i (7, f, g, b)).2 = 1 := by
  match f, h with
  | 0, _ => rfl
  | 1, _ => rfl
  | 2, _ => rfl
  | 3, _ => rfl
  | 4, _ => rfl
  | 5, _ => rfl
theorem ax_l12 (pcs : List Nat) (i f g : Nat) (b : Int) (h : f ≤ 5) : (ax_ins pcs i (12, f, g, b)).2 = 3 := by
  match f, h with
  | 0, _ => rfl
  | 1, _ => rfl
  | 2, _ => rfl
  | 3, _ => rfl
  | 4, _ => rfl
  | 5, _ => rfl
theorem ax_l13 (pcs : List Nat) (i f g : Nat) (b : Int) (h : f ≤ 5) : (ax_ins pcs i (13, f, g, b)).2 = 3 := by
  match f, h with
  | 0, _ => rfl
  | 1, _ => rfl
  | 2, _ => rfl
  | 3, _ => rfl
  | 4, _ => rfl
  | 5, _ => rfl
theorem ax_l21 (pcs : List Nat) (i f g : Nat) (b : Int) (h : f ≤ 4) : (ax_ins pcs i (21, f, g, b)).2 = 1 := by
  match f, h with
  | 0, _ => rfl
  | 1, _ => rfl
  | 2, _ => rfl
  | 3, _ => rfl
  | 4, _ => rfl
theorem ax_l22 (pcs : List Nat) (i f g : Nat) (b : Int) (h : f ≤ 3) : (ax_ins pcs i (22, f, g, b)).2 = 1 := by
  match f, h with
  | 0, _ => rfl
  | 1, _ => rfl
  | 2, _ => rfl
  | 3, _ => rfl
theorem ax_l24 (pcs : List Nat) (i f g : Nat) (b : Int) (h : f ≤ 3) : (ax_ins pcs i (24, f, g, b)).2 = 2 := by
  match f, h with
  | 0, _ => rfl
  | 1, _ => rfl
  | 2, _ => rfl
  | 3, _ => rfl
theorem ax_catm {cad : Int → Value} (hcad : ∀ x, cad x = .null ∨ ∃ q, cad x = .ref q) (ad : Nat → Nat) : ∀ st : List ax_V, ((st.map (ax_cv cad ad)).map fun v => v.category).sum = ax_cat st
  | [] => rfl
  | v :: st => by
    show (ax_cv cad ad v).category + ((st.map (ax_cv cad ad)).map fun v => v.category).sum = (if v.1 = 1 then 2 else 1) + ax_cat st
    rw [ax_ccat hcad, ax_catm hcad ad st]
theorem ax_cat1 {cad : Int → Value} (hcad : ∀ x, cad x = .null ∨ ∃ q, cad x = .ref q) (ad : Nat → Nat) {v : ax_V} (h : v.1 = 0 ∨ v.1 = 2) : (ax_cv cad ad v).category = 1 := by
  rw [ax_ccat hcad, if_neg (by omega)]
theorem ax_swok : ∀ w ∈ ax_sw, (w.1 = 0 ∧ w.2.2.2.1.length = (w.2.2.1 - w.2.1 + 1).toNat) ∨ (w.1 = 1 ∧ w.2.2.1 < w.2.1) := by decide +kernel
theorem ax_i2c {x : Int} (h : ax_i x) : ((Int32.ofInt x).toUInt32 % 65536).toInt32 = Int32.ofInt (x % 65536) := by
  rw [pk_char]
  have h1 : ((Int32.ofInt x).toBitVec.toNat : Int) = x % 4294967296 := by
    show (((BitVec.ofInt 32 x).toNat : Nat) : Int) = _
    rw [BitVec.toNat_ofInt]
    omega
  rw [ax_nat (show 0 ≤ x % 65536 by omega)]
  congr 1
  omega
theorem ax_map_ad {cad : Int → Value} {ad ad' : Nat → Nat} {n : Nat} {st : List ax_V} (h : ∀ a, a < n → ad' a = ad a) (hs : ax_ws n st) : st.map (ax_cv cad ad') = st.map (ax_cv cad ad) := List.map_congr_left (fun v hv => ax_cv_ad h (hs v hv))
theorem ax_lv_ad {cad : Int → Value} {ad ad' : Nat → Nat} {ls : Array Slot} {nL n : Nat} {ll : List ax_V} (hl : ax_lv cad ad ls nL ll) (hw : ax_ws n ll) (h : ∀ a, a < n → ad' a = ad a) : ax_lv cad ad' ls nL ll := ⟨hl.1, hl.2.1, hl.2.2.1, fun k v hk hv => by rw [ax_cv_ad h (hw v (List.mem_of_getElem? hk))]; exact hl.2.2.2 k v hk hv⟩
section AXS
variable {p : Program} {l : Launch} {e : Env} {R : Room} {s : State} {m : MethodId} {args : Array Value} {below : List Frame} {meth : Method} {c : Code} {H : Heap} {locs : List Loc} {cells slots : Nat} {Q : State → Prop}
variable {ls : Array Slot} {cad : Int → Value} {Y : Nat → ClassId} {ad : Nat → Nat} {sh sh' : List ax_H} {M M' : ax_M} {D : va_G} {base L : Nat} {X : Nat → Int} {i i' j : Nat} {ll ll' st st' : List ax_V} {o : ax_O}
set_option maxHeartbeats 4000000 in
theorem ax_sstep (K : ax_OK) (hcad : ∀ x, cad x = .null ∨ ∃ q, cad x = .ref q) (hx : p.tables.exec = Jvm.exec) (hb : c.code = ax_bc j) (hml : c.maxLocals = ax_ml j) (hown : s.vm.findClass (ax_cn (ax_own j)) = some m.cls) (hts : ∀ w ∈ ax_tb, w.before args s = true) (hin : ax_kd j = 2 → meth.name = "<init>") (hKs : ax_Ks D Y cad base L X s) (hX : ∀ k, ax_i (X k)) (hL : L ≤ 3072) (hj : j < 316) (ho : ax_at j i = some o)
    (hP : va_P D vwCl (ax_Wd cad Y ad sh M) H) (hD : va_D (fun q => base ≤ q) (ax_Wd cad Y ad sh M)) (hS : va_S (fun q => base ≤ q) s.heap H locs) (hm : ax_wm sh M) (hl : ax_ws sh.length ll) (hs : ax_ws sh.length st) (hlv : ax_lv cad ad ls (ax_ml j) ll) (h : ax_step L X o i ll st sh M = some (i', ll', st', sh', M')) (hfr : 1 ≤ R.frames) (hlo : 64 ≤ R.locals) (hrc : cells + (sh'.length - sh.length) ≤ R.cells) (hrs : slots + (ax_sl sh' - ax_sl sh) ≤ R.slots)
    (k : ∀ (H' : Heap) (locs' : List Loc) (ls' : Array Slot) (ad' : Nat → Nat), (∀ a, a < sh.length → ad' a = ad a) → va_P D vwCl (ax_Wd cad Y ad' sh' M') H' → va_D (fun q => base ≤ q) (ax_Wd cad Y ad' sh' M') → va_S (fun q => base ≤ q) s.heap H' locs' → ax_lv cad ad' ls' (ax_ml j) ll' → W p l e R s m args below meth c H' locs' (cells + (sh'.length - sh.length)) (slots + (ax_sl sh' - ax_sl sh)) Q (F0 m (ax_pc j i') ls' (st'.map (ax_cv cad ad')))) :
    W p l e R s m args below meth c H locs cells slots Q (F0 m (ax_pc j i) ls (st.map (ax_cv cad ad))) := by
  have h9 : o.1 ≠ 99 := fun q => by
    obtain ⟨a, b, c, d⟩ := o
    have q : a = 99 := q
    subst q
    cases h
  obtain ⟨hd, hsm, hnx, hlk⟩ := ax_use (K.2.2.1 j hj) ho h9
  have hcok := K.1
  have hjw := K.2.1
  have hwd := K.2.2.2.1
  have hA : ∀ q, s.heap.size ≤ q → (fun q => base ≤ q) q := fun q hq => Nat.le_trans hKs.1 hq
  have hKK := hKs.2.1
  obtain ⟨n, f, g, b⟩ := o
  clear h9
  match n, h, hd, hsm, hnx, hlk with
  | 0, h, hd, hsm, hnx, hlk =>
    cases h
    simp only [Nat.sub_self, Nat.add_zero] at k
    have hnx := hnx rfl
    have hsm := of_decide_eq_true hsm
    have k0 := k H locs ls ad (fun _ _ => rfl) hP hD hS hlv
    rw [hnx] at k0
    refine ax_w0 hx hb hKs hS hts hown ⟨hsm.1, hsm.2.1, hsm.2.2.1, hsm.2.2.2.1⟩ (fun h3 => ?_) hsm.2.2.2.2 hd k0
    · by_cases h5 : f = 5
      · rw [if_pos h5]
        obtain ⟨t, t1, t2⟩ := hlk _ (by show (if 3 ≤ f then (if f = 5 then some [(3, g, 0, 1)] else some [(0, g, 0, b)]) else none) = some [(3, g, 0, 1)]; rw [if_pos h3, if_pos h5])
        rw [List.mem_singleton.mp t1] at t2
        exact (hwd _ _ t2 (fun q => (by cases q)) (fun q => (by cases q)))
      · rw [if_neg h5]
        obtain ⟨t, t1, t2⟩ := hlk _ (by show (if 3 ≤ f then (if f = 5 then some [(3, g, 0, 1)] else some [(0, g, 0, b)]) else none) = some [(0, g, 0, b)]; rw [if_pos h3, if_neg h5])
        rw [List.mem_singleton.mp t1] at t2
        exact (hwd _ _ t2 (fun q => (by cases q)) (fun q => (by cases q)))
  | 1, h, hd, hsm, hnx, hlk =>
    cases h
    simp only [Nat.sub_self, Nat.add_zero] at k
    have hnx := hnx rfl
    have hsm := of_decide_eq_true hsm
    have k0 := k H locs ls ad (fun _ _ => rfl) hP hD hS hlv
    rw [hnx] at k0
    refine ax_w1 hx hb hts hown hsm (fun h3 => ?_) hd k0
    obtain ⟨t, t1, t2⟩ := hlk _ (by show (if f = 0 then none else some [(1, g, 0, b)]) = some [(1, g, 0, b)]; rw [if_neg h3])
    rw [List.mem_singleton.mp t1] at t2
    exact (hwd _ _ t2 (fun q => (by cases q)) (fun q => (by cases q)))
  | 2, h, hd, hsm, hnx, hlk =>
    cases h
    simp only [Nat.sub_self, Nat.add_zero] at k
    have hnx := hnx rfl
    have hsm := of_decide_eq_true hsm
    have k0 := k H locs ls ad (fun _ _ => rfl) hP hD hS hlv
    rw [hnx] at k0
    have k0 : W p l e R s m args below meth c H locs cells slots Q (F0 m (ax_pc j i + (ax_ins (ax_pcs.getD j []) i (2, f, g, b)).2) ls (ax_cv cad ad (2, b) :: st.map (ax_cv cad ad))) := k0
    rw [ax_cK _ _ hsm.2.1] at k0
    refine ax_w2 hx hb hKs hS hts hown ⟨hsm.1, hsm.2.1⟩ ⟨fun h3 => ?_, fun h3 => ?_⟩ hd k0
    · obtain ⟨t, t1, t2⟩ := hlk _ (by show (if f = 0 ∨ f = 3 then some [(2, g, 0, b)] else some [(3, g, 0, b)]) = some [(2, g, 0, b)]; rw [if_pos h3])
      rw [List.mem_singleton.mp t1] at t2
      exact t2
    · obtain ⟨t, t1, t2⟩ := hlk _ (by show (if f = 0 ∨ f = 3 then some [(2, g, 0, b)] else some [(3, g, 0, b)]) = some [(3, g, 0, b)]; rw [if_neg (by rcases h3 with e | e <;> subst e <;> decide)])
      rw [List.mem_singleton.mp t1] at t2
      exact ⟨(hwd _ _ t2 (fun q => (by cases q)) (fun q => (by cases q))), hsm.2.2 h3⟩
  | 3, h, hd, hsm, hnx, hlk =>
    have h : ax_x3 f g i ll st sh M = some (i', ll', st', sh', M') := h
    have hnx := hnx rfl
    have hsm := of_decide_eq_true hsm
    unfold ax_x3 at h
    split at h
    · rename_i v hv
      split at h
      · rename_i hvf
        cases h
        simp only [Nat.sub_self, Nat.add_zero] at k
        have k0 := k H locs ls ad (fun _ _ => rfl) hP hD hS hlv
        rw [hnx] at k0
        exact ax_w3 hx hb hcad hlv hv hvf hsm hd k0
      · cases h
    · cases h
  | 4, h, hd, hsm, hnx, hlk =>
    have hnx := hnx rfl
    have hsm := of_decide_eq_true hsm
    cases st with
    | nil => cases h
    | cons v st0 =>
      have h : (if v.1 = f ∧ g + (if v.1 = 1 then 1 else 0) < ll.length then some (i + 1, ax_set ll g v, st0, sh, M) else none) = some (i', ll', st', sh', M') := h
      by_cases q : v.1 = f ∧ g + (if v.1 = 1 then 1 else 0) < ll.length
      · rw [if_pos q] at h
        cases h
        simp only [Nat.sub_self, Nat.add_zero] at k
        refine ax_w4 hx hb hcad hlv q.1 q.2 hsm hd (fun ls' hls' => ?_)
        have k0 := k H locs ls' ad (fun _ _ => rfl) hP hD hS hls'
        rw [hnx] at k0
        exact k0
      · rw [if_neg q] at h
        cases h
  | 5, h, hd, hsm, hnx, hlk =>
    have h : ax_x5 f b i ll st sh M = some (i', ll', st', sh', M') := h
    have hnx := hnx rfl
    unfold ax_x5 at h
    split at h
    · rename_i x hv
      split at h
      · cases h
        simp only [Nat.sub_self, Nat.add_zero] at k
        refine ax_w5 hx hb hcad hlv hv hd (fun ls' hls' => ?_)
        have k0 := k H locs ls' ad (fun _ _ => rfl) hP hD hS hls'
        rw [hnx] at k0
        exact k0
      · cases h
    · cases h
  | 6, h, hd, hsm, hnx, hlk =>
    have h : ax_x6 f i ll st sh M = some (i', ll', st', sh', M') := h
    have hnx := hnx rfl
    have hsm : f ≤ 10 := of_decide_eq_true hsm
    unfold ax_x6 at h
    split at h
    · split at h
      · rename_i z hz
        cases h
        simp only [Nat.sub_self, Nat.add_zero] at k
        have k0 := k H locs ls ad (fun _ _ => rfl) hP hD hS hlv
        rw [hnx, ax_l6 _ _ _ _ _ hsm] at k0
        exact ax_w6 hx hb hsm ((ax_ws_h (ax_ws_t hs)).1 rfl) ((ax_ws_h hs).1 rfl) hz hd k0
      · cases h
    · cases h
  | 7, h, hd, hsm, hnx, hlk =>
    have h : ax_x7 f i ll st sh M = some (i', ll', st', sh', M') := h
    have hnx := hnx rfl
    have hsm : f ≤ 5 := of_decide_eq_true hsm
    unfold ax_x7 at h
    split at h
    · split at h
      · rename_i z hz
        cases h
        simp only [Nat.sub_self, Nat.add_zero] at k
        have k0 := k H locs ls ad (fun _ _ => rfl) hP hD hS hlv
        rw [hnx, ax_l7 _ _ _ _ _ hsm] at k0
        exact ax_w7 hx hb hsm ((ax_ws_h (ax_ws_t hs)).2.1 rfl) ((ax_ws_h hs).2.1 rfl) hz hd k0
      · cases h
    · cases h
  | 8, h, hd, hsm, hnx, hlk =>
    have h : ax_x8 i ll st sh M = some (i', ll', st', sh', M') := h
    have hnx := hnx rfl
    unfold ax_x8 at h
    split at h
    · split at h
      · cases h
        simp only [Nat.sub_self, Nat.add_zero] at k
        have k0 := k H locs ls ad (fun _ _ => rfl) hP hD hS hlv
        rw [hnx] at k0
        refine lv_ineg hx hb hd ?_
        rw [← Int32.ofInt_neg]
        exact k0
      · cases h
    · cases h
  | 9, h, hd, hsm, hnx, hlk =>
    have h : ax_x9 i ll st sh M = some (i', ll', st', sh', M') := h
    have hnx := hnx rfl
    unfold ax_x9 at h
    split at h
    · cases h
      simp only [Nat.sub_self, Nat.add_zero] at k
      have k0 := k H locs ls ad (fun _ _ => rfl) hP hD hS hlv
      rw [hnx] at k0
      exact lv_i2l hx hb hd (ax_wide ((ax_ws_h hs).1 rfl)) k0
    · cases h
  | 10, h, hd, hsm, hnx, hlk =>
    have h : ax_x10 i ll st sh M = some (i', ll', st', sh', M') := h
    have hnx := hnx rfl
    unfold ax_x10 at h
    split at h
    · split at h
      · cases h
        simp only [Nat.sub_self, Nat.add_zero] at k
        have k0 := k H locs ls ad (fun _ _ => rfl) hP hD hS hlv
        rw [hnx] at k0
        exact lv_l2i hx hb hd Int64.toInt32_ofInt k0
      · cases h
    · cases h
  | 11, h, hd, hsm, hnx, hlk =>
    have h : ax_x11 i ll st sh M = some (i', ll', st', sh', M') := h
    have hnx := hnx rfl
    unfold ax_x11 at h
    split at h
    · cases h
      simp only [Nat.sub_self, Nat.add_zero] at k
      have k0 := k H locs ls ad (fun _ _ => rfl) hP hD hS hlv
      rw [hnx] at k0
      refine W.lcmp hx hb hd ?_
      rw [ax_cmpL ((ax_ws_h (ax_ws_t hs)).2.1 rfl) ((ax_ws_h hs).2.1 rfl)]
      exact k0
    · cases h
  | 12, h, hd, hsm, hnx, hlk =>
    have h : ax_x12 f g i ll st sh M = some (i', ll', st', sh', M') := h
    have hnx := hnx rfl
    have hsm : f ≤ 5 := of_decide_eq_true hsm
    unfold ax_x12 at h
    split at h
    · cases h
      simp only [Nat.sub_self, Nat.add_zero] at k
      have k0 := k H locs ls ad (fun _ _ => rfl) hP hD hS hlv
      refine ax_w12 hx hb hsm ((ax_ws_h hs).1 rfl) rfl hd (fun q => ?_) (fun q => ?_)
      · rw [if_pos q] at k0
        exact k0
      · rw [if_neg (by rw [q]; decide), hnx, ax_l12 _ _ _ _ _ hsm] at k0
        exact k0
    · cases h
  | 13, h, hd, hsm, hnx, hlk =>
    have h : ax_x13 f g i ll st sh M = some (i', ll', st', sh', M') := h
    have hnx := hnx rfl
    have hsm : f ≤ 5 := of_decide_eq_true hsm
    unfold ax_x13 at h
    split at h
    · cases h
      simp only [Nat.sub_self, Nat.add_zero] at k
      have k0 := k H locs ls ad (fun _ _ => rfl) hP hD hS hlv
      refine ax_w13 hx hb hsm ((ax_ws_h (ax_ws_t hs)).1 rfl) ((ax_ws_h hs).1 rfl) rfl hd (fun q => ?_) (fun q => ?_)
      · rw [if_pos q] at k0
        exact k0
      · rw [if_neg (by rw [q]; decide), hnx, ax_l13 _ _ _ _ _ hsm] at k0
        exact k0
    · cases h
  | 14, h, hd, hsm, hnx, hlk =>
    cases h
    simp only [Nat.sub_self, Nat.add_zero] at k
    have k0 := k H locs ls ad (fun _ _ => rfl) hP hD hS hlv
    exact lv_goto hx hb hd (by show ((ax_pc j i : Nat) : Int) + (((ax_pc j g : Nat) : Int) - ((ax_pc j i : Nat) : Int)) = ((ax_pc j g : Nat) : Int); omega) k0
  | 15, h, hd, hsm, hnx, hlk =>
    have h : ax_x15 f ll st sh M = some (i', ll', st', sh', M') := h
    unfold ax_x15 at h
    split at h
    · split at h
      · rename_i w hw
        cases h
        simp only [Nat.sub_self, Nat.add_zero] at k
        have k0 := k H locs ls ad (fun _ _ => rfl) hP hD hS hlv
        exact ax_w15 hx hb hw (ax_swok w (List.mem_of_getElem? hw)) ((ax_ws_h hs).1 rfl) rfl hd k0
      · cases h
    · cases h
  | 16, h, hd, hsm, hnx, hlk =>
    have h : ax_x16 i ll st sh M = some (i', ll', st', sh', M') := h
    have hnx := hnx rfl
    unfold ax_x16 at h
    split at h
    · split at h
      · rename_i q
        cases h
        simp only [Nat.sub_self, Nat.add_zero] at k
        have k0 := k H locs ls ad (fun _ _ => rfl) hP hD hS hlv
        rw [hnx] at k0
        exact lv_dup hx hb hd (ax_cat1 hcad ad q) k0
      · cases h
    · cases h
  | 17, h, hd, hsm, hnx, hlk =>
    have h : ax_x17 i ll st sh M = some (i', ll', st', sh', M') := h
    have hnx := hnx rfl
    unfold ax_x17 at h
    split at h
    · split at h
      · rename_i q
        cases h
        simp only [Nat.sub_self, Nat.add_zero] at k
        have k0 := k H locs ls ad (fun _ _ => rfl) hP hD hS hlv
        rw [hnx] at k0
        exact lv_dup2_11 hx hb hd (ax_cat1 hcad ad q.1) (ax_cat1 hcad ad q.2) k0
      · cases h
    · cases h
  | 18, h, hd, hsm, hnx, hlk =>
    have h : ax_x18 i ll st sh M = some (i', ll', st', sh', M') := h
    have hnx := hnx rfl
    unfold ax_x18 at h
    split at h
    · split at h
      · rename_i q
        cases h
        simp only [Nat.sub_self, Nat.add_zero] at k
        have k0 := k H locs ls ad (fun _ _ => rfl) hP hD hS hlv
        rw [hnx] at k0
        exact lv_pop hx hb hd (ax_cat1 hcad ad q) k0
      · cases h
    · cases h
  | 19, h, hd, hsm, hnx, hlk =>
    have h : ax_x19 f g i ll st sh M = some (i', ll', st', sh', M') := h
    have hnx := hnx rfl
    have hsm := of_decide_eq_true hsm
    unfold ax_x19 at h
    split at h
    · rename_i a st0 _ _
      split at h
      · rename_i v hv
        cases h
        simp only [Nat.sub_self, Nat.add_zero] at k
        have k0 := k H locs ls ad (fun _ _ => rfl) hP hD hS hlv
        rw [hnx] at k0
        unfold ax_get at hv
        split at hv
        · rename_i ha
          split at hv
          · rename_i c' n' hq
            split at hv
            · rename_i q
              cases hv
              obtain ⟨q1, q2⟩ := q
              subst q1
              rcases hm _ _ hq with ⟨-, w1, w2, -⟩ | ⟨w1, -⟩
              · have w1 : c' < 13 := w1
                have w2 : n' = ax_fl c' := w2
                subst w2
                obtain ⟨t, t1, t2⟩ := hlk _ (by show (if c' = 13 then some [(5, b.toNat, 13, (g : Int))] else some [(4, b.toNat, c', (g : Int))]) = some [(4, b.toNat, c', (g : Int))]; rw [if_neg (by omega)])
                rw [List.mem_singleton.mp t1] at t2
                show W p l e R s m args below meth c H locs cells slots Q (F0 m (ax_pc j i) ls (ax_cv cad ad (2, a) :: st0.map (ax_cv cad ad)))
                rw [ax_cR _ _ ha]
                exact ax_w19 hx hb hts hown hKK hP hq w1 (hcok _ w1) q2 ((hwd _ _ t2 (fun q => (by cases q)) (fun q => (by cases q)))) hd k0
              · cases w1
            · cases hv
          · cases hv
        · split at hv
          · rename_i q
            obtain ⟨q1, q2⟩ := q
            subst q1
            obtain ⟨t, t1, t2⟩ := hlk _ (show ax_lnk (19, 13, g, b) = some [(5, b.toNat, 13, (g : Int))] from rfl)
            rw [List.mem_singleton.mp t1] at t2
            split at hv
            · rename_i e
              cases hv
              subst e
              exact ax_w19s hx hb hKs hS hts hown q2 (Or.inl rfl) ((hwd _ _ t2 (fun q => (by cases q)) (fun q => (by cases q)))) hd k0
            · split at hv
              · rename_i e
                cases hv
                subst e
                exact ax_w19s hx hb hKs hS hts hown q2 (Or.inr rfl) ((hwd _ _ t2 (fun q => (by cases q)) (fun q => (by cases q)))) hd k0
              · cases hv
          · cases hv
      · cases h
    · cases h
  | 20, h, hd, hsm, hnx, hlk =>
    have h : ax_x20 f g i ll st sh M = some (i', ll', st', sh', M') := h
    have hnx := hnx rfl
    have hsm := of_decide_eq_true hsm
    unfold ax_x20 at h
    split at h
    · rename_i v a st0 _ _
      split at h
      · rename_i q
        cases h
        simp only [Nat.sub_self, Nat.add_zero] at k
        obtain ⟨q1, q2, q3, q4⟩ := q
        obtain ⟨t, t1, t2⟩ := hlk _ (show ax_lnk (20, f, g, b) = some [(4, b.toNat, f, (g : Int))] from rfl)
        rw [List.mem_singleton.mp t1] at t2
        show W p l e R s m args below meth c H locs cells slots Q (F0 m (ax_pc j i) ls (ax_cv cad ad v :: ax_cv cad ad (2, a) :: st'.map (ax_cv cad ad)))
        rw [ax_cR _ _ q1]
        refine ax_w20 hx hb hcad hts hown hKK hP hD hS q2 hsm.1 (hcok _ hsm.1) q3 q4 ((hwd _ _ t2 (fun q => (by cases q)) (fun q => (by cases q)))) ?_ hd (fun H1 locs1 h1 h2 h3 => ?_)
        · rcases hsm.2.2 with w | w
          · exact Or.inl w
          · exact Or.inr ⟨hin w.1, by rw [w.2]⟩
        · have k0 := k H1 locs1 ls ad (fun _ _ => rfl) h1 h2 h3 hlv
          rw [hnx] at k0
          exact k0
      · cases h
    · cases h
  | 21, h, hd, hsm, hnx, hlk =>
    have h : ax_x21 L X f i ll st sh M = some (i', ll', st', sh', M') := h
    have hnx := hnx rfl
    have hsm : f ≤ 4 := of_decide_eq_true hsm
    unfold ax_x21 at h
    split at h
    · rename_i x a st0 _ _
      split at h
      · rename_i v hv
        cases h
        simp only [Nat.sub_self, Nat.add_zero] at k
        have k0 := k H locs ls ad (fun _ _ => rfl) hP hD hS hlv
        rw [hnx, ax_l21 _ _ _ _ _ hsm] at k0
        have hxi := (ax_ws_h hs).1 rfl
        show W p l e R s m args below meth c H locs cells slots Q (F0 m (ax_pc j i) ls (.int (Int32.ofInt x) :: ax_cv cad ad (2, a) :: st0.map (ax_cv cad ad)))
        by_cases ha : 0 ≤ a
        · unfold ax_ald at hv
          rw [if_pos ha] at hv
          split at hv
          · rename_i t' n' hq
            split at hv
            · rename_i q
              cases hv
              obtain ⟨q1, q2, q3⟩ := q
              rw [ax_cR _ _ ha]
              refine ax_w21 hx hb hKK hP hq q1 hsm q2 q3 hxi (fun e4 => ?_) hd k0
              rcases hm _ _ hq with ⟨w1, -⟩ | ⟨-, -, -, -, w4⟩
              · cases w1
              · exact (w4 (by show 4 ≤ t'; omega) _).1
            · cases hv
          · cases hv
        · exact ax_w21c hx hb hKs hS ha hxi hv hd k0
      · cases h
    · cases h
  | 22, h, hd, hsm, hnx, hlk =>
    have h : ax_x22 f i ll st sh M = some (i', ll', st', sh', M') := h
    have hnx := hnx rfl
    have hsm : f ≤ 3 := of_decide_eq_true hsm
    unfold ax_x22 at h
    split at h
    · rename_i v x a st0 _ _
      split at h
      · rename_i u n' hq
        split at h
        · rename_i q
          cases h
          simp only [Nat.sub_self, Nat.add_zero] at k
          obtain ⟨q1, q2, q3, q4, q5⟩ := q
          subst q2
          have hxi := (ax_ws_h (ax_ws_t hs)).1 rfl
          show W p l e R s m args below meth c H locs cells slots Q (F0 m (ax_pc j i) ls (ax_cv cad ad v :: .int (Int32.ofInt x) :: ax_cv cad ad (2, a) :: st'.map (ax_cv cad ad)))
          rw [ax_cR _ _ q1]
          refine ax_w22 hx hb hKK hP hD hS hq q3 q4 q5 hxi hd (fun H1 locs1 h1 h2 h3 => ?_)
          have k0 := k H1 locs1 ls ad (fun _ _ => rfl) h1 h2 h3 hlv
          rw [hnx, ax_l22 _ _ _ _ _ hsm] at k0
          exact k0
        · cases h
      · cases h
    · cases h
  | 23, h, hd, hsm, hnx, hlk =>
    have h : ax_x23 L i ll st sh M = some (i', ll', st', sh', M') := h
    have hnx := hnx rfl
    unfold ax_x23 at h
    split at h
    · rename_i a st0 _ _
      split at h
      · rename_i n' hv
        cases h
        simp only [Nat.sub_self, Nat.add_zero] at k
        have k0 := k H locs ls ad (fun _ _ => rfl) hP hD hS hlv
        rw [hnx] at k0
        show W p l e R s m args below meth c H locs cells slots Q (F0 m (ax_pc j i) ls (ax_cv cad ad (2, a) :: st0.map (ax_cv cad ad)))
        by_cases ha : 0 ≤ a
        · unfold ax_aln at hv
          rw [if_pos ha] at hv
          split at hv
          · rename_i u z hq
            cases hv
            rw [ax_cR _ _ ha]
            have hat := ax_Wd_at (cad := cad) (Y := Y) (ad := ad) (M := M) hq
            rw [ax_E_arr] at hat
            have hu : u ≤ 5 := by
              rcases hm _ _ hq with ⟨w1, -⟩ | ⟨-, w, -⟩
              · cases w1
              · exact w
            have hty : ∃ ty, (ax_ty Y)[u]? = some (Y u, ty) := by
              match u, hu with
              | 0, _ => exact ⟨_, rfl⟩
              | 1, _ => exact ⟨_, rfl⟩
              | 2, _ => exact ⟨_, rfl⟩
              | 3, _ => exact ⟨_, rfl⟩
              | 4, _ => exact ⟨_, rfl⟩
              | 5, _ => exact ⟨_, rfl⟩
            obtain ⟨ty, hty⟩ := hty
            exact va_alen hx hb hKK hP a.toNat u hat hty (by rw [← Int32.ofInt_eq_ofNat]) hd k0
          · cases hv
        · exact ax_w23c hx hb hKs hS ha hv hd k0
      · cases h
    · cases h
  | 24, h, hd, hsm, hnx, hlk =>
    have h : ax_x24 f i ll st sh M = some (i', ll', st', sh', M') := h
    have hnx := hnx rfl
    have hsm : f ≤ 3 := of_decide_eq_true hsm
    unfold ax_x24 at h
    split at h
    · rename_i x st0 _ _
      split at h
      · rename_i q
        cases h
        have e1 : (sh ++ [((1, f, x.toNat) : ax_H)]).length - sh.length = 1 := by simp
        have e2 : ax_sl (sh ++ [((1, f, x.toNat) : ax_H)]) - ax_sl sh = x.toNat := by
          rw [ax_sl_app]
          show ax_sl sh + (x.toNat + 0) - ax_sl sh = x.toNat
          omega
        rw [e1, e2] at k
        rw [e1] at hrc
        rw [e2] at hrs
        have hxi := (ax_ws_h hs).1 rfl
        refine ax_w24 hx hb hts hjw hKK hP hD hS hA hm hsm hxi q.1 q.2 hrc hrs hd (fun ad' H1 ha h1 h2 h3 => ?_)
        have k0 := k H1 locs ls ad' ha h1 h2 h3 (ax_lv_ad hlv hl ha)
        rw [hnx, ax_l24 _ _ _ _ _ hsm] at k0
        have k0 : W p l e R s m args below meth c H1 locs (cells + 1) (slots + x.toNat) Q (F0 m (ax_pc j i + 2) ls (ax_cv cad ad' (2, (sh.length : Int)) :: st0.map (ax_cv cad ad'))) := k0
        rw [ax_cR _ _ (by omega), ax_map_ad ha (ax_ws_t hs)] at k0
        exact k0
      · cases h
    · cases h
  | 25, h, hd, hsm, hnx, hlk =>
    have hnx := hnx rfl
    have hsm : f < 13 := of_decide_eq_true hsm
    cases h
    have e1 : (sh ++ [((0, f, ax_fl f) : ax_H)]).length - sh.length = 1 := by simp
    have e2 : ax_sl (sh ++ [((0, f, ax_fl f) : ax_H)]) - ax_sl sh = ax_fl f := by
      rw [ax_sl_app]
      show ax_sl sh + (ax_fl f + 0) - ax_sl sh = ax_fl f
      omega
    have k : ∀ (H' : Heap) (locs' : List Loc) (ls' : Array Slot) (ad' : Nat → Nat), (∀ a, a < sh.length → ad' a = ad a) → va_P D vwCl (ax_Wd cad Y ad' (sh ++ [((0, f, ax_fl f) : ax_H)]) (ax_nw M sh.length (ax_df f))) H' → va_D (fun q => base ≤ q) (ax_Wd cad Y ad' (sh ++ [((0, f, ax_fl f) : ax_H)]) (ax_nw M sh.length (ax_df f))) → va_S (fun q => base ≤ q) s.heap H' locs' → ax_lv cad ad' ls' (ax_ml j) ll → W p l e R s m args below meth c H' locs' (cells + ((sh ++ [((0, f, ax_fl f) : ax_H)]).length - sh.length)) (slots + (ax_sl (sh ++ [((0, f, ax_fl f) : ax_H)]) - ax_sl sh)) Q (F0 m (ax_pc j (i + 1)) ls' (ax_cv cad ad' (2, (sh.length : Int)) :: st.map (ax_cv cad ad'))) := k
    have hrc : cells + ((sh ++ [((0, f, ax_fl f) : ax_H)]).length - sh.length) ≤ R.cells := hrc
    have hrs : slots + (ax_sl (sh ++ [((0, f, ax_fl f) : ax_H)]) - ax_sl sh) ≤ R.slots := hrs
    rw [e1, e2] at k
    rw [e1] at hrc
    rw [e2] at hrs
    obtain ⟨t, t1, t2⟩ := hlk _ (show ax_lnk (25, f, g, b) = some [(6, b.toNat, f, 0)] from rfl)
    rw [List.mem_singleton.mp t1] at t2
    refine ax_w25 hx hb hts hown hKK hP hD hS hA hm hsm (hcok _ hsm) ((hwd _ _ t2 (fun q => (by cases q)) (fun q => (by cases q)))) hrc hrs hd (fun ad' H1 ha h1 h2 h3 => ?_)
    have k0 := k H1 locs ls ad' ha h1 h2 h3 (ax_lv_ad hlv hl ha)
    rw [hnx] at k0
    rw [ax_cR _ _ (by omega), ax_map_ad ha hs] at k0
    exact k0
  | 26, h, hd, hsm, hnx, hlk =>
    have h : ax_x26 f i ll st sh M = some (i', ll', st', sh', M') := h
    have hnx := hnx rfl
    have hsm : f ≤ 1 := of_decide_eq_true hsm
    unfold ax_x26 at h
    split at h
    · rename_i y x st0 _ _
      split at h
      · rename_i q
        cases h
        have e1 : (sh ++ ((1, 4 + f, x.toNat) : ax_H) :: List.replicate x.toNat ((1, f, y.toNat) : ax_H)).length - sh.length = 1 + x.toNat := by
          simp only [List.length_append, List.length_cons, List.length_replicate]
          omega
        have e3 : ∀ n : Nat, ax_sl (List.replicate n ((1, f, y.toNat) : ax_H)) = n * y.toNat := by
          intro n
          unfold ax_sl
          rw [List.map_replicate, List.sum_replicate_nat]
        have e2 : ax_sl (sh ++ ((1, 4 + f, x.toNat) : ax_H) :: List.replicate x.toNat ((1, f, y.toNat) : ax_H)) - ax_sl sh = x.toNat + x.toNat * y.toNat := by
          rw [ax_sl_app]
          show ax_sl sh + (x.toNat + ax_sl (List.replicate x.toNat ((1, f, y.toNat) : ax_H))) - ax_sl sh = _
          rw [e3]
          omega
        rw [e1, e2] at k
        rw [e1] at hrc
        rw [e2] at hrs
        have hyi := (ax_ws_h hs).1 rfl
        have hxi := (ax_ws_h (ax_ws_t hs)).1 rfl
        obtain ⟨t, t1, t2⟩ := hlk _ (show ax_lnk (26, f, g, b) = some [(7, b.toNat, f, 0)] from rfl)
        rw [List.mem_singleton.mp t1] at t2
        have hw : Cond.classLink (ax_cn (ax_own j)) b.toNat (if f = 0 then "[[I" else "[[J") ∈ ax_tb := by
          have hw := (hwd _ _ t2 (fun q => (by cases q)) (fun q => (by cases q)))
          match f, hsm, hw with
          | 0, _, hw => exact hw
          | 1, _, hw => exact hw
        refine ax_w26 hx hb hts hjw hKs.2.2.2.2.2.2.2.2.2.1 hKs.2.2.2.2.2.2.2.2.2.2 hown hKK hP hD hS hA hm hsm hxi hyi q.1 q.2.1 q.2.2.1 q.2.2.2 hw hrc hrs hd (fun ad' H1 ha h1 h2 h3 => ?_)
        have k0 := k H1 locs ls ad' ha h1 h2 h3 (ax_lv_ad hlv hl ha)
        rw [hnx] at k0
        have k0 : W p l e R s m args below meth c H1 locs (cells + (1 + x.toNat)) (slots + (x.toNat + x.toNat * y.toNat)) Q (F0 m (ax_pc j i + 4) ls (ax_cv cad ad' (2, (sh.length : Int)) :: st0.map (ax_cv cad ad'))) := k0
        rw [ax_cR _ _ (by omega), ax_map_ad ha (ax_ws_t (ax_ws_t hs)), ← Nat.add_assoc, ← Nat.add_assoc] at k0
        exact k0
      · cases h
    · cases h
  | 27, h, _, _, _, _ => cases h
  | 28, h, _, _, _, _ => cases h
  | 29, h, hd, hsm, hnx, hlk =>
    have h : ax_x29 i ll st sh M = some (i', ll', st', sh', M') := h
    have hnx := hnx rfl
    unfold ax_x29 at h
    split at h
    · rename_i n' dp b' sp a st0 _ _
      split at h
      · rename_i la lb hla hlb
        split at h
        · rename_i q
          cases h
          simp only [Nat.sub_self, Nat.add_zero] at k
          obtain ⟨q1, q2, q3, q4, q5, q6, q7, q8⟩ := q
          obtain ⟨t, t1, t2⟩ := hlk _ (show ax_lnk (29, f, g, b) = some [(10, b.toNat, 0, 0)] from rfl)
          rw [List.mem_singleton.mp t1] at t2
          show W p l e R s m args below meth c H locs cells slots Q (F0 m (ax_pc j i) ls (.int (Int32.ofInt n') :: .int (Int32.ofInt dp) :: ax_cv cad ad (2, b') :: .int (Int32.ofInt sp) :: ax_cv cad ad (2, a) :: st'.map (ax_cv cad ad)))
          rw [ax_cR _ _ q1, ax_cR _ _ q2]
          refine ax_w29 hx hb (by rw [hml]; exact hlv.1.symm) hts hjw hown hKK hP hD hS hla hlb ((ax_ws_h (ax_ws_t (ax_ws_t (ax_ws_t hs)))).1 rfl) ((ax_ws_h (ax_ws_t hs)).1 rfl) ((ax_ws_h hs).1 rfl) q3 q4 q5 q6 q7 (by rw [ax_catm hcad]; exact q8) hfr hlo ((hwd _ _ t2 (fun q => (by cases q)) (fun q => (by cases q)))) hd (fun H1 locs1 h1 h2 h3 => ?_)
          have k0 := k H1 locs1 ls ad (fun _ _ => rfl) h1 h2 h3 hlv
          rw [hnx] at k0
          exact k0
        · cases h
      · cases h
    · cases h
  | 30, h, hd, hsm, hnx, hlk =>
    have h : ax_x30 i ll st sh M = some (i', ll', st', sh', M') := h
    have hnx := hnx rfl
    unfold ax_x30 at h
    split at h
    · rename_i a st0 _ _
      split at h
      · rename_i q
        cases h
        simp only [Nat.sub_self, Nat.add_zero] at k
        have k0 := k H locs ls ad (fun _ _ => rfl) hP hD hS hlv
        rw [hnx] at k0
        obtain ⟨t, t1, t2⟩ := hlk _ (show ax_lnk (30, f, g, b) = some [(11, b.toNat, 0, 0)] from rfl)
        rw [List.mem_singleton.mp t1] at t2
        show W p l e R s m args below meth c H locs cells slots Q (F0 m (ax_pc j i) ls (ax_cv cad ad (2, a) :: st'.map (ax_cv cad ad)))
        rw [ax_cR _ _ q.1]
        exact W.objInit hx hb hown (hts _ ((hwd _ _ t2 (fun q => (by cases q)) (fun q => (by cases q))))) (hts _ (hjw _ (by decide))) (hts _ (hjw _ (by decide))) (g := F0 m (ax_pc j i) ls (.ref (ad a.toNat) :: st'.map (ax_cv cad ad))) rfl (by show ls.size = c.maxLocals; rw [hml]; exact hlv.1) rfl hd hfr (by
          have h1 : 2 * (F0 m (ax_pc j i) ls (.ref (ad a.toNat) :: st'.map (ax_cv cad ad))).monitorRoom + ((st'.map (ax_cv cad ad)).map fun v => v.category).sum ≤ 8 := lv_room (by rw [ax_catm hcad]; exact q.2)
          omega) k0
      · cases h
    · cases h
  | 31, h, hd, hsm, hnx, hlk =>
    have h : ax_x31 i ll st sh M = some (i', ll', st', sh', M') := h
    have hnx := hnx rfl
    unfold ax_x31 at h
    split at h
    · rename_i x st0 _ _
      cases h
      simp only [Nat.sub_self, Nat.add_zero] at k
      have k0 := k H locs ls ad (fun _ _ => rfl) hP hD hS hlv
      rw [hnx] at k0
      refine lv_i2c hx hb hd ?_ k0
      exact ax_i2c ((ax_ws_h hs).1 rfl)
    · cases h
  | n + 32, h, _, _, _, _ => cases h
end AXS
end
section
/-! a run of the small machine is a run of the machine -/
def ax_rk (j : Nat) : Nat := (ax_inf j).2.2.2.2.2.2.2
def ax_rt (j : Nat) : Option FieldType := (ax_inf j).2.2.2.2.1
def ax_y (j : Nat) : MethodName := (ax_inf j).2.1
def ax_np (j : Nat) : Nat := (ax_inf j).2.2.2.2.2.1
theorem ax_ent_args {cad : Int → Value} (hcad : ∀ x, cad x = .null ∨ ∃ q, cad x = .ref q) {ad : Nat → Nat} : ∀ (as : List ax_V) (off k : Nat) (v : ax_V), (ax_ent as)[k]? = some v → v.1 < 3 → (off + k, ax_cv cad ad v) ∈ lv_args off (as.map (ax_cv cad ad))
  | [], _, k, v, h, _ => by simp [ax_ent] at h
  | w :: as, off, k, v, h, hv => by
    show _ ∈ (off, ax_cv cad ad w) :: lv_args (if (ax_cv cad ad w).category = 2 then off + 2 else off + 1) (as.map (ax_cv cad ad))
    rw [ax_ccat hcad]
    unfold ax_ent at h
    by_cases h1 : w.1 = 1
    · rw [if_pos h1] at h
      rw [if_pos h1, if_pos rfl]
      match k, h with
      | 0, h => cases h; exact List.mem_cons_self
      | 1, h => cases h; exact absurd hv (by decide)
      | k + 2, h =>
        have := ax_ent_args hcad (ad := ad) as (off + 2) k v h hv
        rw [show off + (k + 2) = off + 2 + k by omega]
        exact List.mem_cons_of_mem _ this
    · rw [if_neg h1] at h
      rw [if_neg h1, if_neg (by decide)]
      match k, h with
      | 0, h => cases h; exact List.mem_cons_self
      | k + 1, h =>
        have := ax_ent_args hcad (ad := ad) as (off + 1) k v h hv
        rw [show off + (k + 1) = off + 1 + k by omega]
        exact List.mem_cons_of_mem _ this
theorem ax_ent_len {cad : Int → Value} (hcad : ∀ x, cad x = .null ∨ ∃ q, cad x = .ref q) {ad : Nat → Nat} : ∀ as : List ax_V, (lg_sl (as.map (ax_cv cad ad))).length = (ax_ent as).length
  | [] => rfl
  | w :: as => by
    have ih := ax_ent_len hcad (ad := ad) as
    show ((if (ax_cv cad ad w).category = 2 then [Slot.val (ax_cv cad ad w), Slot.second] else [Slot.val (ax_cv cad ad w)]) ++ lg_sl (as.map (ax_cv cad ad))).length = _
    rw [ax_ccat hcad]
    unfold ax_ent
    by_cases h1 : w.1 = 1
    · rw [if_pos h1, if_pos rfl, if_pos h1, List.length_append, ih]
      simp only [List.length_cons, List.length_nil]
      omega
    · rw [if_neg h1, if_neg (by decide), if_neg h1, List.length_append, ih]
      simp only [List.length_cons, List.length_nil]
      omega
theorem ax_lv_in {cad : Int → Value} (hcad : ∀ x, cad x = .null ∨ ∃ q, cad x = .ref q) {ad : Nat → Nat} {as : List ax_V} {n : Nat} {ls : Array Slot} (hn : (ax_ent as).length ≤ n) (h : lv_has ls n (lv_args 0 (as.map (ax_cv cad ad)))) : ax_lv cad ad ls n (ax_loc as n) := by
  refine ⟨h.1, h.2.1, by unfold ax_loc; rw [List.length_append, List.length_replicate]; omega, fun k v hk hv => ?_⟩
  unfold ax_loc at hk
  by_cases hl : k < (ax_ent as).length
  · rw [List.getElem?_append_left hl] at hk
    have := h.2.2 _ (ax_ent_args hcad (ad := ad) as 0 k v hk hv)
    rw [Nat.zero_add] at this
    exact this
  · rw [List.getElem?_append_right (by omega)] at hk
    have := List.eq_of_mem_replicate (List.mem_of_getElem? hk)
    subst this
    exact absurd hv (by decide)
/-- a method's contract out of a walk of its body, also where its class has entries of its own but not for it -/
theorem ax_ofW {l : Launch} {y : MethodName} {ws ws' : List Cond} {rm : Room} {Pc : Array Value → State → Prop} {Qc : Array Value → State → Outcome → State → Prop} {mc ms : Nat} {free : Addr → Prop} {cc : ByteArray} {maxL : Nat} {ret : Option FieldType} (hy : plainFor y = true) (hw : ws = Cond.code y cc maxL ret :: ws') (body : ∀ p e s m args below meth c s₁, BodyLoose p l y (headSpec ws rm) cc maxL ret e s m args below meth c s₁ → c.maxLocals = maxL → Pc args s → W p l e (headSpec ws rm).room s m args below meth c s.heap [] 0 0 (MQ below Qc args s mc ms free) (entryFrame m args maxL)) : Met l y ws rm Pc Qc mc ms free := by
  refine MetFree.of_bodySF (code := cc) (maxLocals := maxL) (ret := ret) hy (fun args s m h hn => ?_) (fun p e s m args below meth c s₁ B hml hP _ => ?_)
  · have hcode : (Cond.code y cc maxL ret).before args s = true := atoms_spec (ws := ws) h _ (by rw [hw]; exact List.mem_cons_self)
    obtain ⟨meth, c, h1, h2, h3, h4, h5, h6, -, -⟩ := Cond.code_spec hn hcode
    exact ⟨meth, c, h1, h2, h3, h4, h5, h6⟩
  · have hh0 : s₁.heap = s.heap := by rw [B.state]; rfl
    obtain ⟨t, a1, o, b1, b2, b3⟩ := body p e s m args below meth c s₁ B hml hP s₁ hh0 (Stand.of_body B)
    exact ⟨t, o, a1, b1, b2, ⟨b3.1, b3.2⟩⟩
theorem ax_mp_use {j : Nat} (h : ax_mp j = true) : plainFor (ax_y j) = true ∧ (ax_y j).cls ≠ "java/lang/invoke/MethodHandle" ∧ (ax_y j).cls ≠ "java/lang/invoke/VarHandle" ∧ (parseMethodDescriptor (ax_y j).desc).map (fun d => d.parameters.length) = some (ax_np j) ∧ (ax_y j).cls = ax_cn (ax_own j) ∧ (ax_kd j = 2 → (ax_y j).name = "<init>") ∧ ax_ml j ≤ 11 ∧ ax_kd j ≤ 2 ∧ (ax_kd j = 1 → ax_own j < 13 ∨ ax_own j = 14) ∧ (ax_kd j = 2 → ax_rt j = none) ∧ (match ax_rk j with
    | 0 => ax_rt j = some .int
    | 1 => ax_rt j = some .long
    | 2 => ax_rt j = none
    | 3 => ax_rt j = some .boolean
    | 4 => ax_rt j = some .char
    | 5 => ax_rt j = some .byte
    | _ => False) := by
  unfold ax_mp at h
  simp only [Bool.and_eq_true, decide_eq_true_eq] at h
  obtain ⟨⟨⟨⟨⟨⟨⟨⟨⟨⟨h1, h2⟩, h3⟩, h4⟩, h5⟩, h6⟩, h7⟩, h8⟩, h9⟩, h10⟩, h11⟩ := h
  refine ⟨h1, h2, h3, h4, h5, h6, h7, h8, h9, h10, ?_⟩
  show (match (ax_inf j).2.2.2.2.2.2.2 with
    | 0 => ax_rt j = some .int
    | 1 => ax_rt j = some .long
    | 2 => ax_rt j = none
    | 3 => ax_rt j = some .boolean
    | 4 => ax_rt j = some .char
    | 5 => ax_rt j = some .byte
    | _ => False)
  split at h11
  · rename_i e; rw [e]; exact (of_decide_eq_true h11 : (ax_inf j).2.2.2.2.1 = _)
  · rename_i e; rw [e]; exact (of_decide_eq_true h11 : (ax_inf j).2.2.2.2.1 = _)
  · rename_i e; rw [e]; exact (of_decide_eq_true h11 : (ax_inf j).2.2.2.2.1 = _)
  · rename_i e; rw [e]; exact (of_decide_eq_true h11 : (ax_inf j).2.2.2.2.1 = _)
  · rename_i e; rw [e]; exact (of_decide_eq_true h11 : (ax_inf j).2.2.2.2.1 = _)
  · rename_i e; rw [e]; exact (of_decide_eq_true h11 : (ax_inf j).2.2.2.2.1 = _)
  · cases h11
theorem ax_pc0 : ∀ j : Nat, j < 316 → ax_pc j 0 = 0 := by
  have h : (List.range 316).all (fun j => decide (ax_pc j 0 = 0)) = true := by decide +kernel
  exact fun j hj => of_decide_eq_true (List.all_eq_true.mp h j (List.mem_range.mpr hj))
def ax_Pc (D : va_G) (Y : Nat → ClassId) (cad : Int → Value) (base L : Nat) (X : Nat → Int) (as : List ax_V) (ad : Nat → Nat) (sh : List ax_H) (M : ax_M) : Array Value → State → Prop := va_Pc (as.map (ax_cv cad ad)) (fun U => ax_Ks D Y cad base L X U ∧ va_P D vwCl (ax_Wd cad Y ad sh M) U.heap ∧ va_D (fun q => base ≤ q) (ax_Wd cad Y ad sh M))
def ax_Qc (D : va_G) (Y : Nat → ClassId) (cad : Int → Value) (base : Nat) (ad : Nat → Nat) (n : Nat) (sh' : List ax_H) (M' : ax_M) (r : List ax_V) : Array Value → State → Outcome → State → Prop := fun _ st oc t => (∃ ad' : Nat → Nat, oc = .returned (r.map (ax_cv cad ad')).head? ∧ (∀ a, a < n → ad' a = ad a) ∧ va_P D vwCl (ax_Wd cad Y ad' sh' M') t.heap ∧ va_D (fun q => base ≤ q) (ax_Wd cad Y ad' sh' M')) ∧ va_F (fun q => base ≤ q) st t
/-- what is to be shown of runs of n steps -/
def ax_Sim (D : va_G) (Y : Nat → ClassId) (cad : Int → Value) (base L : Nat) (X : Nat → Int) (l : Launch) (n : Nat) : Prop :=
  ∀ (d j i : Nat) (ll st : List ax_V) (sh : List ax_H) (M : ax_M) (r : List ax_V) (sh' : List ax_H) (M' : ax_M), ax_run L X n d j i ll st sh M = some (r, sh', M') →
  ∀ (p : Program) (e : Env) (R : Room) (s : State) (m : MethodId) (args : Array Value) (below : List Frame) (meth : Method) (c : Code) (H : Heap) (locs : List Loc) (cells slots : Nat) (Q : State → Prop) (ls : Array Slot) (ad : Nat → Nat),
    j < 316 → p.tables.exec = Jvm.exec → c.code = ax_bc j → c.maxLocals = ax_ml j → s.vm.findClass (ax_cn (ax_own j)) = some m.cls → (∀ w ∈ ax_tb, w.before args s = true) → (ax_kd j = 2 → meth.name = "<init>") → ax_Ks D Y cad base L X s →
    va_P D vwCl (ax_Wd cad Y ad sh M) H → va_D (fun q => base ≤ q) (ax_Wd cad Y ad sh M) → va_S (fun q => base ≤ q) s.heap H locs → ax_wm sh M → ax_ws sh.length ll → ax_ws sh.length st → ax_lv cad ad ls (ax_ml j) ll →
    d + 1 ≤ R.frames → 32 * d + 64 ≤ R.locals → cells + (sh'.length - sh.length) ≤ R.cells → slots + (ax_sl sh' - ax_sl sh) ≤ R.slots →
    (∀ (H' : Heap) (locs' : List Loc) (ls' : Array Slot) (ad' : Nat → Nat) (pc' : Nat), (∀ a, a < sh.length → ad' a = ad a) → va_P D vwCl (ax_Wd cad Y ad' sh' M') H' → va_D (fun q => base ≤ q) (ax_Wd cad Y ad' sh' M') → va_S (fun q => base ≤ q) s.heap H' locs' → decode (ax_bc j) pc' = .ok (ax_ins [] 0 (28, ax_rk j, 0, 0)) → ax_ret (ax_rk j) r = some r → W p l e R s m args below meth c H' locs' (cells + (sh'.length - sh.length)) (slots + (ax_sl sh' - ax_sl sh)) Q (F0 m pc' ls' (r.map (ax_cv cad ad')))) →
    W p l e R s m args below meth c H locs cells slots Q (F0 m (ax_pc j i) ls (st.map (ax_cv cad ad)))
theorem ax_ret_r {k : Nat} {st r : List ax_V} (h : ax_ret k st = some r) : r = st ∧ ax_ret k r = some r ∧ r.length ≤ 1 := by
  have h0 := h
  unfold ax_ret at h
  split at h
  · cases h; exact ⟨rfl, h0, Nat.le_refl _⟩
  · cases h; exact ⟨rfl, h0, Nat.le_refl _⟩
  · cases h; exact ⟨rfl, h0, Nat.zero_le _⟩
  · split at h
    · cases h; exact ⟨rfl, h0, Nat.le_refl _⟩
    · cases h
  · split at h
    · cases h; exact ⟨rfl, h0, Nat.le_refl _⟩
    · cases h
  · split at h
    · cases h; exact ⟨rfl, h0, Nat.le_refl _⟩
    · cases h
  · cases h
theorem ax_retf0 : ∀ {st r : List ax_V}, ax_ret 0 st = some r → ∃ x, st = [(0, x)]
  | [], _, h => by cases h
  | [(0, x)], _, _ => ⟨x, rfl⟩
  | [(_ + 1, _)], _, h => by cases h
  | _ :: _ :: _, _, h => by simp [ax_ret] at h
theorem ax_retf1 : ∀ {st r : List ax_V}, ax_ret 1 st = some r → ∃ x, st = [(1, x)]
  | [], _, h => by cases h
  | [(0, _)], _, h => by cases h
  | [(1, x)], _, _ => ⟨x, rfl⟩
  | [(_ + 2, _)], _, h => by cases h
  | _ :: _ :: _, _, h => by simp [ax_ret] at h
theorem ax_retf2 : ∀ {st r : List ax_V}, ax_ret 2 st = some r → st = []
  | [], _, _ => rfl
  | [_], _, h => by cases h
  | _ :: _ :: _, _, h => by simp [ax_ret] at h
theorem ax_retf3 : ∀ {st r : List ax_V}, ax_ret 3 st = some r → ∃ x, st = [(0, x)] ∧ 0 ≤ x ∧ x < 2
  | [], _, h => by cases h
  | [(0, x)], r, h => by
    have h : (if 0 ≤ x ∧ x < 2 then some [((0, x) : ax_V)] else none) = some r := h
    split at h
    · rename_i q; exact ⟨x, rfl, q⟩
    · cases h
  | [(_ + 1, _)], _, h => by cases h
  | _ :: _ :: _, _, h => by simp [ax_ret] at h
theorem ax_retf4 : ∀ {st r : List ax_V}, ax_ret 4 st = some r → ∃ x, st = [(0, x)] ∧ 0 ≤ x ∧ x < 65536
  | [], _, h => by cases h
  | [(0, x)], r, h => by
    have h : (if 0 ≤ x ∧ x < 65536 then some [((0, x) : ax_V)] else none) = some r := h
    split at h
    · rename_i q; exact ⟨x, rfl, q⟩
    · cases h
  | [(_ + 1, _)], _, h => by cases h
  | _ :: _ :: _, _, h => by simp [ax_ret] at h
theorem ax_retf5 : ∀ {st r : List ax_V}, ax_ret 5 st = some r → ∃ x, st = [(0, x)] ∧ -128 ≤ x ∧ x < 128
  | [], _, h => by cases h
  | [(0, x)], r, h => by
    have h : (if -128 ≤ x ∧ x < 128 then some [((0, x) : ax_V)] else none) = some r := h
    split at h
    · rename_i q; exact ⟨x, rfl, q⟩
    · cases h
  | [(_ + 1, _)], _, h => by cases h
  | _ :: _ :: _, _, h => by simp [ax_ret] at h
theorem ax_narB {x : Int} (h0 : -128 ≤ x) (h1 : x < 128) : narrow .byte (.int (Int32.ofInt x)) = .int (Int32.ofInt x) := by
  have := pk_nb (Int32.ofInt x)
  rw [Int32.toInt8_ofInt, ax_byte h0 h1] at this
  exact this
section AXM
variable {D : va_G} {Y : Nat → ClassId} {cad : Int → Value} {base L : Nat} {X : Nat → Int} {l : Launch}
theorem ax_met (K : ax_OK) (hcad : ∀ x, cad x = .null ∨ ∃ q, cad x = .ref q) {n d j : Nat} {as : List ax_V} {sh sh' : List ax_H} {M M' : ax_M} {r : List ax_V} {ad : Nat → Nat} (ih : ax_Sim D Y cad base L X l n) (hj : j < 316) (hrun : ax_run L X n d j 0 (ax_loc as (ax_ml j)) [] sh M = some (r, sh', M')) (hm : ax_wm sh M) (has : ax_ws sh.length as) (hlen : (ax_ent as).length ≤ ax_ml j) :
    Met l (ax_y j) (.code (ax_y j) (ax_bc j) (ax_ml j) (ax_rt j) :: ax_tb) { frames := d + 1, cells := sh'.length - sh.length, slots := ax_sl sh' - ax_sl sh, locals := 32 * d + 64 } (ax_Pc D Y cad base L X as ad sh M) (ax_Qc D Y cad base ad sh.length sh' M' r) (sh'.length - sh.length) (ax_sl sh' - ax_sl sh) (fun q => base ≤ q) := by
  obtain ⟨m1, -, -, -, m5, m6, m7, m8, -, -, m11⟩ := ax_mp_use (K.2.2.2.2.2 j hj)
  refine ax_ofW (cc := ax_bc j) (maxL := ax_ml j) (ret := ax_rt j) m1 rfl ?_
  intro p e s m args below meth c s₁ B hml hv
  obtain ⟨rfl, hKs, hP, hD⟩ := hv
  have hx := B.exec
  have hb := B.bytes
  have hr := B.returns
  have hts0 := atoms_spec (ws := .code (ax_y j) (ax_bc j) (ax_ml j) (ax_rt j) :: ax_tb) B.pre
  have hts : ∀ w ∈ ax_tb, w.before (as.map (ax_cv cad ad)).toArray s = true := fun w hw => hts0 w (List.mem_cons_of_mem _ hw)
  have hown : s.vm.findClass (ax_cn (ax_own j)) = some m.cls := by rw [← m5]; exact findClass_of_methodNamed B.named
  have hlocks := B.notSynchronized
  have hin : ax_kd j = 2 → meth.name = "<init>" := fun q => by rw [(name_of_methodNamed B.named B.method).1]; exact m6 q
  have hl := lv_entry (as.map (ax_cv cad ad)) (n := ax_ml j) (by rw [ax_ent_len hcad]; exact hlen)
  rw [lg_entry_eq]
  generalize (lg_sl (as.map (ax_cv cad ad)) ++ List.replicate (ax_ml j - (lg_sl (as.map (ax_cv cad ad))).length) Slot.unset).toArray = ls at hl ⊢
  have hlv := ax_lv_in hcad hlen hl
  have key := ih d j 0 (ax_loc as (ax_ml j)) [] sh M r sh' M' hrun p e { frames := d + 1, cells := sh'.length - sh.length, slots := ax_sl sh' - ax_sl sh, locals := 32 * d + 64 } s m (as.map (ax_cv cad ad)).toArray below meth c s.heap [] 0 0 (MQ below (ax_Qc D Y cad base ad sh.length sh' M' r) (as.map (ax_cv cad ad)).toArray s (sh'.length - sh.length) (ax_sl sh' - ax_sl sh) (fun q => base ≤ q)) ls ad hj hx hb hml hown hts hin hKs hP hD va_S.rf hm (ax_wloc has) ax_ws_n hlv (Nat.le_refl _) (Nat.le_refl _) (by rw [Nat.zero_add]; exact Nat.le_refl _) (by rw [Nat.zero_add]; exact Nat.le_refl _)
  rw [ax_pc0 j hj] at key
  refine key (fun H' locs' ls' ad' pc' ha h1 h2 h3 hd hret => ?_)
  rw [Nat.zero_add, Nat.zero_add]
  have hq : ∀ v, v = (r.map (ax_cv cad ad')).head? → ∀ t : State, t.heap = H' → s.WarmedH t.vm → ax_Qc D Y cad base ad sh.length sh' M' r (as.map (ax_cv cad ad)).toArray s (.returned v) t := fun v hv t ht _ => ⟨⟨ad', by rw [hv], ha, by rw [ht]; exact h1, h2⟩, h3.F ht⟩
  have hf : ∀ q ∈ locs', base ≤ q.base := h3.2.2
  generalize hk : ax_rk j = k at hd hret m11
  match k, hd, hret, m11 with
  | 0, hd, hret, m11 =>
    obtain ⟨x, rfl⟩ := ax_retf0 hret
    exact W.iret hx hb (hr.trans m11) (hq _ rfl) hf hd
  | 1, hd, hret, m11 =>
    obtain ⟨x, rfl⟩ := ax_retf1 hret
    exact W.lret hx hb (hr.trans m11) (hq _ rfl) hf hd
  | 2, hd, hret, m11 =>
    have e := ax_retf2 hret
    subst e
    exact W.vret hx hb (hr.trans m11) (hq _ rfl) hf hd
  | 3, hd, hret, m11 =>
    obtain ⟨x, rfl, h4, h5⟩ := ax_retf3 hret
    exact W.zret hx hb (hr.trans m11) (by rcases ax_01 h4 h5 with rfl | rfl <;> rfl) (hq _ rfl) hf hd
  | 4, hd, hret, m11 =>
    obtain ⟨x, rfl, h4, h5⟩ := ax_retf4 hret
    exact W.zret hx hb (hr.trans m11) (by rw [ax_nat h4]; exact (pk_charN (by omega)).1) (hq _ rfl) hf hd
  | 5, hd, hret, m11 =>
    obtain ⟨x, rfl, h4, h5⟩ := ax_retf5 hret
    exact W.zret hx hb (hr.trans m11) (ax_narB h4 h5) (hq _ rfl) hf hd
  | k + 6, hd, hret, m11 => exact m11.elim
end AXM
section AXC
variable {D : va_G} {Y : Nat → ClassId} {cad : Int → Value} {base L : Nat} {X : Nat → Int}
variable {p : Program} {l : Launch} {e : Env} {R : Room} {s : State} {m : MethodId} {args : Array Value} {below : List Frame} {meth : Method} {c : Code} {H : Heap} {locs : List Loc} {cells slots : Nat} {Q : State → Prop}
/-- behind a call -/
theorem ax_callx {pc mc ms n : Nat} {ls : Array Slot} {rest st0 : List Value} {a : Array Value} {ad : Nat → Nat} {sh' : List ax_H} {M' : ax_M} {r : List ax_V} (hr1 : r.length ≤ 1) (hr : va_Run p l e R s m args below meth c H locs cells slots mc ms (F0 m pc ls st0) rest (ax_Qc D Y cad base ad n sh' M' r a) (fun q => base ≤ q)) (hS : va_S (fun q => base ≤ q) s.heap H locs)
    (kk : ∀ (ad' : Nat → Nat) (H1 : Heap) (locs1 : List Loc), (∀ a, a < n → ad' a = ad a) → va_P D vwCl (ax_Wd cad Y ad' sh' M') H1 → va_D (fun q => base ≤ q) (ax_Wd cad Y ad' sh' M') → va_S (fun q => base ≤ q) s.heap H1 locs1 → W p l e R s m args below meth c H1 locs1 (cells + mc) (slots + ms) Q (F0 m (pc + 3) ls (r.map (ax_cv cad ad') ++ rest))) : W p l e R s m args below meth c H locs cells slots Q (F0 m pc ls st0) := by
  intro T hT X0
  obtain ⟨v, st₀, t, T', L', h0, X', hL, e1, e2, ⟨⟨ad', hv, ha, hp, hd⟩, hz, hk⟩, st⟩ := hr T hT X0
  have hv : v = (r.map (ax_cv cad ad')).head? := by injection hv
  have hvl : v.toList = r.map (ax_cv cad ad') := by
    rw [hv]
    match r, hr1 with
    | [], _ => rfl
    | [_], _ => rfl
  rw [h0] at hz hk
  rw [hvl] at st
  obtain ⟨t2, a1, b1⟩ := kk ad' T'.heap (locs ++ L') ha (by rw [e1]; exact hp) hd ⟨Nat.le_trans hS.1 (by rw [e1]; exact hz), fun q h1 h2 => by rw [e1, hk q (Nat.lt_of_lt_of_le h1 hS.1) h2]; exact hS.2.1 q h1 h2, fun q hq => by
      rcases List.mem_append.mp hq with h | h
      · exact hS.2.2 q h
      · exact hL q h⟩ T' rfl X'
  exact ⟨t2, st t2 a1, b1⟩
theorem ax_blind {as : List ax_V} {ad : Nat → Nat} {sh : List ax_H} {M : ax_M} : FrameBlind (ax_Pc D Y cad base L X as ad sh M) := fun a U g mk h => ⟨h.1, h.2.1.same rfl rfl, h.2.2⟩
theorem ax_good {j : Nat} (K : ax_OK) (hj : j < 316) (hjl : j ≠ ax_law) : GoodIn ax_tb (.code (ax_y j) (ax_bc j) (ax_ml j) (ax_rt j) :: ax_tb) := by
  intro w hw
  have hm : w ∈ ax_tb := by
    rcases List.mem_cons.mp hw with rfl | hw
    · refine K.2.2.2.2.1 j hj hjl _ ?_
      unfold ax_mw
      dsimp only
      split
      · exact List.mem_cons_self
      · exact List.mem_cons_self
      · exact List.mem_cons_self
    · exact hw
  exact ⟨hm, good_of_word (List.mem_filter.mp hm).2⟩
theorem ax_mwi {j : Nat} (K : ax_OK) (hj : j < 316) (hjl : j ≠ ax_law) : Cond.initialized (ax_y j).cls ∈ ax_tb := by
  refine K.2.2.2.2.1 j hj hjl _ ?_
  unfold ax_mw
  dsimp only
  split
  · exact List.mem_cons_of_mem _ List.mem_cons_self
  · exact List.mem_cons_of_mem _ List.mem_cons_self
  · exact List.mem_cons_of_mem _ List.mem_cons_self
theorem ax_mws {j : Nat} (K : ax_OK) (hj : j < 316) (hjl : j ≠ ax_law) (hk : ax_kd j = 0) : Cond.static (ax_y j) ∈ ax_tb := by
  refine K.2.2.2.2.1 j hj hjl _ ?_
  unfold ax_mw
  dsimp only
  rw [hk]
  exact List.mem_cons_of_mem _ (List.mem_cons_of_mem _ List.mem_cons_self)
theorem ax_mwv {j : Nat} (K : ax_OK) (hj : j < 316) (hjl : j ≠ ax_law) (hk : ax_kd j = 1) : Cond.instanceMethod (ax_y j) ∈ ax_tb ∧ Cond.selects (ax_y j).cls (ax_y j) (ax_y j) ∈ ax_tb := by
  constructor
  · refine K.2.2.2.2.1 j hj hjl _ ?_
    unfold ax_mw
    dsimp only
    rw [hk]
    exact List.mem_cons_of_mem _ (List.mem_cons_of_mem _ List.mem_cons_self)
  · refine K.2.2.2.2.1 j hj hjl _ ?_
    unfold ax_mw
    dsimp only
    rw [hk]
    exact List.mem_cons_of_mem _ (List.mem_cons_of_mem _ (List.mem_cons_of_mem _ List.mem_cons_self))
theorem ax_mwc {j : Nat} (K : ax_OK) (hj : j < 316) (hjl : j ≠ ax_law) (hk : ax_kd j = 2) : Cond.instanceMethod (ax_y j) ∈ ax_tb := by
  refine K.2.2.2.2.1 j hj hjl _ ?_
  unfold ax_mw
  dsimp only
  rw [hk]
  exact List.mem_cons_of_mem _ (List.mem_cons_of_mem _ List.mem_cons_self)
end AXC
end
section
/-! calls -/
section AXL
variable {D : va_G} {Y : Nat → ClassId} {cad : Int → Value} {base L : Nat} {X : Nat → Int}
variable {p : Program} {l : Launch} {e : Env} {R : Room} {s : State} {m : MethodId} {args : Array Value} {below : List Frame} {meth : Method} {c : Code} {H : Heap} {locs : List Loc} {cells slots : Nat} {Q : State → Prop}
theorem ax_scall (K : ax_OK) (hcad : ∀ x, cad x = .null ∨ ∃ q, cad x = .ref q) {n d j i f g : Nat} {b : Int} {pcs : List Nat} {pc : Nat} {st : List ax_V} {sh sh1 : List ax_H} {M M1 : ax_M} {r1 : List ax_V} {ad : Nat → Nat} {ls : Array Slot} (ih : ax_Sim D Y cad base L X l n) (hx : p.tables.exec = Jvm.exec) (hb : c.code = ax_bc j) (hml : c.maxLocals = ax_ml j) (hown : s.vm.findClass (ax_cn (ax_own j)) = some m.cls) (hts : ∀ w ∈ ax_tb, w.before args s = true) (hKs : ax_Ks D Y cad base L X s)
    (hP : va_P D vwCl (ax_Wd cad Y ad sh M) H) (hD : va_D (fun q => base ≤ q) (ax_Wd cad Y ad sh M)) (hS : va_S (fun q => base ≤ q) s.heap H locs) (hm : ax_wm sh M) (hs : ax_ws sh.length st) (hls : ls.size = ax_ml j) (hf : f < 315) (hg : g = ax_np f + (if ax_kd f = 0 then 0 else 1)) (hd : decode (ax_bc j) pc = .ok (ax_ins pcs i (27, f, g, b))) (hlk : ∃ t, t ∈ [((8, b.toNat, f, 0) : Nat × Nat × Nat × Int), (9, b.toNat, f, 0)] ∧ t ∈ ax_lk.getD (ax_own j) [])
    (hgl : g ≤ st.length) (hcat : ax_cat (st.drop g) ≤ 8) (hmay : ax_may f sh (st.take g).reverse = true) (hrun : ax_run L X n d f 0 (ax_loc (st.take g).reverse (ax_ml f)) [] sh M = some (r1, sh1, M1)) (hr1 : r1.length ≤ 1) (hfr : d + 2 ≤ R.frames) (hlo : 32 * (d + 1) + 64 ≤ R.locals) (hrc : cells + (sh1.length - sh.length) ≤ R.cells) (hrs : slots + (ax_sl sh1 - ax_sl sh) ≤ R.slots)
    (kk : ∀ (ad' : Nat → Nat) (H1 : Heap) (locs1 : List Loc), (∀ a, a < sh.length → ad' a = ad a) → va_P D vwCl (ax_Wd cad Y ad' sh1 M1) H1 → va_D (fun q => base ≤ q) (ax_Wd cad Y ad' sh1 M1) → va_S (fun q => base ≤ q) s.heap H1 locs1 → W p l e R s m args below meth c H1 locs1 (cells + (sh1.length - sh.length)) (slots + (ax_sl sh1 - ax_sl sh)) Q (F0 m (pc + 3) ls (r1.map (ax_cv cad ad') ++ (st.drop g).map (ax_cv cad ad)))) :
    W p l e R s m args below meth c H locs cells slots Q (F0 m pc ls (st.map (ax_cv cad ad))) := by
  have hf6 : f < 316 := by omega
  have hfl : f ≠ ax_law := by show f ≠ 315; omega
  obtain ⟨-, m2, m3, m4, m5, m6, m7, m8, m9, m10, -⟩ := ax_mp_use (K.2.2.2.2.2 f hf6)
  generalize hasr : (st.take g).reverse = asr at hmay hrun
  have hlen : asr.length = g := by rw [← hasr, List.length_reverse, List.length_take]; omega
  have hst : st.map (ax_cv cad ad) = (asr.map (ax_cv cad ad)).reverse ++ (st.drop g).map (ax_cv cad ad) := by
    rw [← hasr, List.map_reverse, List.reverse_reverse, ← List.map_append, List.take_append_drop]
  have has : ax_ws sh.length asr := by rw [← hasr]; exact ax_wtake hs
  unfold ax_may at hmay
  rw [Bool.and_eq_true] at hmay
  obtain ⟨hent, hmay⟩ := hmay
  have hent := of_decide_eq_true hent
  have hM := ax_met (Y := Y) (ad := ad) K hcad ih hf6 hrun hm has hent
  have hG := ax_good K hf6 hfl
  have hini := hts _ (ax_mwi K hf6 hfl)
  have hnd : (ax_y f).cls ≠ "java/lang/invoke/MethodHandle" ∧ (ax_y f).cls ≠ "java/lang/invoke/VarHandle" ∧ (parseMethodDescriptor (ax_y f).desc).map (fun d => d.parameters.length) = some (ax_np f) := ⟨m2, m3, m4⟩
  have hW : 2 * (F0 m pc ls (st.map (ax_cv cad ad))).monitorRoom + (((st.drop g).map (ax_cv cad ad)).map fun v => v.category).sum ≤ 8 := lv_room (by rw [ax_catm hcad]; exact hcat)
  have hPc : ∀ av : List Value, av = asr.map (ax_cv cad ad) → ∀ U : State, U.heap = H → s.WarmedH U.vm → ax_Pc D Y cad base L X asr ad sh M av.toArray U := fun av hav U hU hWm => ⟨by rw [hav], hKs.call hWm hS hU, by rw [hU]; exact hP, hD⟩
  have hRm : ({ frames := d + 1, cells := sh1.length - sh.length, slots := ax_sl sh1 - ax_sl sh, locals := 32 * d + 64 } : Room).frames + 1 ≤ R.frames ∧ 8 + (ax_ml f + 11) + ({ frames := d + 1, cells := sh1.length - sh.length, slots := ax_sl sh1 - ax_sl sh, locals := 32 * d + 64 } : Room).locals ≤ R.locals := ⟨by show d + 1 + 1 ≤ R.frames; omega, by show 8 + (ax_ml f + 11) + (32 * d + 64) ≤ R.locals; omega⟩
  have hfix : CallFix p m c (ax_bc j) (ax_ml j) s args ax_tb (ax_cn (ax_own j)) := ⟨hx, hb, hml, hown, hts⟩
  have hins : ∀ q, ax_kd f = q → decode (ax_bc j) pc = .ok (match q with
    | 0 => (.invokestatic b.toNat, 3)
    | 1 => (.invokevirtual b.toNat, 3)
    | _ => (.invokespecial b.toNat, 3)) := fun q hq => by
    subst hq
    exact hd
  obtain ⟨t, ht1, ht2⟩ := hlk
  have hwd := K.2.2.2.1
  have hl8 : t = (8, b.toNat, f, 0) → (Cond.methodLink (ax_cn (ax_own j)) b.toNat (ax_y f)).before args s = true := fun q => by
    rw [q] at ht2
    exact hts _ (hwd _ _ ht2 (fun z => (by cases z)) (fun z => (by cases z)))
  have hl9 : t = (9, b.toNat, f, 0) → va_Nw (.methodLinkNest (ax_cn (ax_own j)) b.toNat (ax_y f) "FireDrill") s := fun q => by
    rw [q] at ht2
    exact hKs.2.2.2.2.2.2.2.2.1 _ _ _ ht2
  have h89 : t = (8, b.toNat, f, 0) ∨ t = (9, b.toNat, f, 0) := by
    rcases List.mem_cons.mp ht1 with q | q
    · exact Or.inl q
    · exact Or.inr (List.mem_singleton.mp q)
  rcases (show ax_kd f = 0 ∨ ax_kd f = 1 ∨ ax_kd f = 2 by omega) with hk | hk | hk
  · have hdg := hins 0 hk
    rw [hk, if_pos rfl] at hg
    have hstat := hts _ (ax_mws K hf6 hfl hk)
    have hn : (asr.map (ax_cv cad ad)).length = ax_np f := by rw [List.length_map, hlen]; exact hg
    rcases h89 with q | q
    · exact ax_callx hr1 (va_runS (g := F0 m pc ls (st.map (ax_cv cad ad))) hfix hM ⟨callB_of (ax_np f) hts hG rfl rfl rfl hini (hl8 q) hnd hRm, hstat⟩ ⟨ax_blind, fun U hU hWm => hPc _ rfl U hU hWm⟩ rfl hn hls hst hW hdg ⟨hrc, hrs⟩) hS kk
    · exact ax_callx hr1 (va_runSN (g := F0 m pc ls (st.map (ax_cv cad ad))) hfix hM ⟨va_cnB (ax_np f) hts hG rfl rfl rfl (hl9 q) hini hnd hRm, hstat, trivial⟩ ⟨ax_blind, fun U hU hWm => hPc _ rfl U hU hWm⟩ rfl hn hls hst hW hdg ⟨hrc, hrs⟩) hS kk
  · have hdg := hins 1 hk
    rw [hk, if_neg (by decide)] at hg
    rw [hk] at hmay
    obtain ⟨hinst, hsel⟩ := ax_mwv K hf6 hfl hk
    match asr, hlen, hst, has, hmay, hM, hPc with
    | [], _, _, _, hmay, _, _ => cases hmay
    | (0, _) :: _, _, _, _, hmay, _, _ => cases hmay
    | (1, _) :: _, _, _, _, hmay, _, _ => cases hmay
    | (_ + 3, _) :: _, _, _, _, hmay, _, _ => cases hmay
    | (2, a) :: as, hlen, hst, has, hmay, hM, hPc =>
      have hn : (as.map (ax_cv cad ad)).length = ax_np f := by
        rw [List.length_map]
        have : as.length + 1 = g := hlen
        omega
      have hrecv : ∃ q : Nat, ax_cv cad ad (2, a) = .ref q ∧ ∃ cellB : Cell, H[q]? = some cellB ∧ cellB.vm.isStatics = false ∧ s.vm.findClass (ax_y f).cls = some cellB.cls := by
        have hmay : (decide (0 ≤ a ∧ sh[a.toNat]? = some (0, ax_own f, ax_fl (ax_own f))) || (decide (ax_own f = 14) && ax_isS a)) = true := hmay
        rcases Bool.or_eq_true_iff.mp hmay with q | q
        · have q := of_decide_eq_true q
          have ho : ax_own f < 13 := by
            rcases hm _ _ q.2 with ⟨-, w, -⟩ | ⟨w, -⟩
            · exact w
            · cases w
          have hat := ax_Wd_at (cad := cad) (Y := Y) (ad := ad) (M := M) q.2
          rw [ax_E_obj] at hat
          obtain ⟨cell, g1, g2, g3⟩ := va_recv hKs.2.1 hP (ax_vwcl ho) hat
          refine ⟨ad a.toNat, ax_cR _ _ q.1, cell, g1, g2, ?_⟩
          rw [m5, ← (K.1 _ ho).2.1]
          exact g3
        · rw [Bool.and_eq_true] at q
          obtain ⟨q1, q2⟩ := q
          have q1 := of_decide_eq_true q1
          obtain ⟨z, h1, h2, h3⟩ := ax_sx_of q2
          obtain ⟨qS, qB, g1, -, g3, -⟩ := hKs.2.2.2.2.2.2.1 z h1
          obtain ⟨cell, c1, c2, c3, -⟩ := g3.kept hS.2.1
          refine ⟨qS, by rw [ax_cK _ _ (show a < -1 by omega), h2, g1], cell, c1, c2, ?_⟩
          rw [m5, q1]
          exact c3
      obtain ⟨q0, hq0, hcell⟩ := hrecv
      have hst2 : st.map (ax_cv cad ad) = (as.map (ax_cv cad ad)).reverse ++ .ref q0 :: (st.drop g).map (ax_cv cad ad) := by
        rw [hst, List.map_cons, List.reverse_cons, hq0, List.append_assoc]
        rfl
      have hav : Value.ref q0 :: as.map (ax_cv cad ad) = ((2, a) :: as).map (ax_cv cad ad) := by rw [List.map_cons, hq0]
      rcases h89 with q | q
      · exact ax_callx hr1 (va_runV (C := (ax_y f).cls) (g := F0 m pc ls (st.map (ax_cv cad ad))) hfix hM ⟨callB_of (ax_np f) hts hG rfl rfl rfl hini (hl8 q) hnd hRm, hts _ hinst, hts _ hsel⟩ ⟨ax_blind, hcell, fun U hU hWm => hPc _ hav U hU hWm⟩ rfl hn hls hst2 hW hdg ⟨hrc, hrs⟩) hS kk
      · exact ax_callx hr1 (va_runVN (C := (ax_y f).cls) (g := F0 m pc ls (st.map (ax_cv cad ad))) hfix hM ⟨va_cnB (ax_np f) hts hG rfl rfl rfl (hl9 q) hini hnd hRm, hts _ hinst, hts _ hsel⟩ ⟨ax_blind, hcell, fun U hU hWm => hPc _ hav U hU hWm⟩ rfl hn hls hst2 hW hdg ⟨hrc, hrs⟩) hS kk
  · have hdg := hins 2 hk
    rw [hk, if_neg (by decide)] at hg
    rw [hk] at hmay
    have hinst := ax_mwc K hf6 hfl hk
    have hrt := m10 hk
    rw [hrt] at hM hG
    match asr, hlen, hst, has, hmay, hM, hPc with
    | [], _, _, _, hmay, _, _ => cases hmay
    | (0, _) :: _, _, _, _, hmay, _, _ => cases hmay
    | (1, _) :: _, _, _, _, hmay, _, _ => cases hmay
    | (_ + 3, _) :: _, _, _, _, hmay, _, _ => cases hmay
    | (2, a) :: as, hlen, hst, has, hmay, hM, hPc =>
      have hn : (as.map (ax_cv cad ad)).length = ax_np f := by
        rw [List.length_map]
        have : as.length + 1 = g := hlen
        omega
      have ha : 0 ≤ a := of_decide_eq_true hmay
      have hq0 : ax_cv cad ad (2, a) = .ref (ad a.toNat) := ax_cR _ _ ha
      have hst2 : st.map (ax_cv cad ad) = (as.map (ax_cv cad ad)).reverse ++ .ref (ad a.toNat) :: (st.drop g).map (ax_cv cad ad) := by
        rw [hst, List.map_cons, List.reverse_cons, hq0, List.append_assoc]
        rfl
      have hav : Value.ref (ad a.toNat) :: as.map (ax_cv cad ad) = ((2, a) :: as).map (ax_cv cad ad) := by rw [List.map_cons, hq0]
      rcases h89 with q | q
      · exact ax_callx hr1 (va_runI (g := F0 m pc ls (st.map (ax_cv cad ad))) hfix hM ⟨callB_of (ax_np f) hts hG rfl rfl rfl hini (hl8 q) hnd hRm, m6 hk, hts _ hinst⟩ ⟨ax_blind, fun U hU hWm => hPc _ hav U hU hWm⟩ rfl hn hls hst2 hW hdg ⟨hrc, hrs⟩) hS kk
      · exact ax_callx hr1 (va_runIN (g := F0 m pc ls (st.map (ax_cv cad ad))) hfix hM ⟨va_cnB (ax_np f) hts hG rfl rfl rfl (hl9 q) hini hnd hRm, m6 hk, hts _ hinst⟩ ⟨ax_blind, fun U hU hWm => hPc _ hav U hU hWm⟩ rfl hn hls hst2 hW hdg ⟨hrc, hrs⟩) hS kk
end AXL
end
section
/-! runs of any length -/
theorem ax_rlen {L : Nat} {X : Nat → Int} : ∀ (n d j i : Nat) (ll st : List ax_V) (sh : List ax_H) (M : ax_M) (r : List ax_V) (sh' : List ax_H) (M' : ax_M), ax_run L X n d j i ll st sh M = some (r, sh', M') → r.length ≤ 1 := by
  intro n
  induction n with
  | zero => intro d j i ll st sh M r sh' M' h; cases h
  | succ n ih =>
    intro d j i ll st sh M r sh' M' h
    unfold ax_run at h
    cases ho : ax_at j i with
    | none => rw [ho] at h; cases h
    | some o =>
      rw [ho] at h
      dsimp only at h
      by_cases h28 : o.1 = 28
      · rw [if_pos h28] at h
        cases hr : ax_ret o.2.1 st with
        | none => rw [hr] at h; cases h
        | some r0 =>
          rw [hr] at h
          cases h
          exact (ax_ret_r hr).2.2
      · rw [if_neg h28] at h
        by_cases h27 : o.1 = 27
        · rw [if_pos h27] at h
          cases d with
          | zero => cases h
          | succ d =>
            dsimp only at h
            split at h
            · cases h1 : ax_run L X n d o.2.1 0 (ax_loc (st.take o.2.2.1).reverse (ax_ml o.2.1)) [] sh M with
              | none => rw [h1] at h; cases h
              | some q =>
                obtain ⟨r1, sh1, M1⟩ := q
                rw [h1] at h
                exact ih _ _ _ _ _ _ _ _ _ _ h
            · cases h
        · rw [if_neg h27] at h
          cases h1 : ax_step L X o i ll st sh M with
          | none => rw [h1] at h; cases h
          | some S =>
            obtain ⟨i', ll', st', sh1, M1⟩ := S
            rw [h1] at h
            exact ih _ _ _ _ _ _ _ _ _ _ h
section AXT
variable {D : va_G} {Y : Nat → ClassId} {cad : Int → Value} {base L : Nat} {X : Nat → Int} {l : Launch}
theorem ax_sim (K : ax_OK) (hcad : ∀ x, cad x = .null ∨ ∃ q, cad x = .ref q) (hX : ∀ k, ax_i (X k)) (hL : L ≤ 3072) : ∀ n, ax_Sim D Y cad base L X l n := by
  have hok := K.2.2.1
  intro n
  induction n with
  | zero =>
    intro d j i ll st sh M r sh' M' h
    cases h
  | succ n ih =>
    intro d j i ll st sh M r sh' M' h p e R s m args below meth c H locs cells slots Q ls ad hj hx hb hml hown hts hin hKs hP hD hS hm hl hs hlv hfr hlo hrc hrs k
    unfold ax_run at h
    cases ho : ax_at j i with
    | none => rw [ho] at h; cases h
    | some o =>
      rw [ho] at h
      dsimp only at h
      by_cases h28 : o.1 = 28
      · rw [if_pos h28] at h
        cases hr : ax_ret o.2.1 st with
        | none => rw [hr] at h; cases h
        | some r0 =>
          rw [hr] at h
          cases h
          obtain ⟨e1, e2, -⟩ := ax_ret_r hr
          subst e1
          obtain ⟨hd, hsm, -, -⟩ := ax_use (hok j hj) ho (by rw [h28]; decide)
          obtain ⟨a1, f, g, b⟩ := o
          have h28 : a1 = 28 := h28
          subst h28
          have hf : f = ax_rk j := of_decide_eq_true hsm
          subst hf
          have k0 := k H locs ls ad (ax_pc j i) (fun _ _ => rfl) hP hD hS hd e2
          rw [Nat.sub_self, Nat.sub_self, Nat.add_zero, Nat.add_zero] at k0
          exact k0
      · rw [if_neg h28] at h
        by_cases h27 : o.1 = 27
        · rw [if_pos h27] at h
          cases d with
          | zero => cases h
          | succ d =>
            dsimp only at h
            obtain ⟨hd, hsm, hnx, hlk⟩ := ax_use (hok j hj) ho (by rw [h27]; decide)
            obtain ⟨a1, f, g, b⟩ := o
            have h27 : a1 = 27 := h27
            subst h27
            have hsm : f < 315 ∧ g = ax_np f + (if ax_kd f = 0 then 0 else 1) := of_decide_eq_true hsm
            have hnx := hnx rfl
            have hlen : (ax_ins (ax_pcs.getD j []) i (27, f, g, b)).2 = 3 := by
              show (match ax_kd f with
                | 0 => ((.invokestatic b.toNat : Instr), 3)
                | 1 => (.invokevirtual b.toNat, 3)
                | _ => (.invokespecial b.toNat, 3)).2 = 3
              split <;> rfl
            rw [hlen] at hnx
            split at h
            · rename_i hc
              dsimp only at hc
              cases h1 : ax_run L X n d f 0 (ax_loc (st.take g).reverse (ax_ml f)) [] sh M with
              | none => rw [h1] at h; cases h
              | some q =>
                obtain ⟨r1, sh1, M1⟩ := q
                rw [h1] at h
                dsimp only at h
                obtain ⟨⟨t1, e1⟩, hm1, hr1⟩ := ax_wrun hX hL hok n d f 0 _ [] sh M r1 sh1 M1 (by omega) hm (ax_wloc (ax_wtake hs)) ax_ws_n h1
                have hle : sh.length ≤ sh1.length := by rw [e1]; simp
                have hsl : ax_sl sh ≤ ax_sl sh1 := by rw [e1, ax_sl_app]; omega
                have hs2 : ax_ws sh1.length (r1 ++ st.drop g) := ax_wapp hr1 (ax_wdrop (ax_ws_le hs hle))
                obtain ⟨⟨t2, e2⟩, hm2, -⟩ := ax_wrun hX hL hok n (d + 1) j (i + 1) ll (r1 ++ st.drop g) sh1 M1 r sh' M' hj hm1 (ax_ws_le hl hle) hs2 h
                have hle2 : sh1.length ≤ sh'.length := by rw [e2]; simp
                have hsl2 : ax_sl sh1 ≤ ax_sl sh' := by rw [e2, ax_sl_app]; omega
                have hl1 : r1.length ≤ 1 := ax_rlen n d f 0 _ [] sh M r1 sh1 M1 h1
                refine ax_scall K hcad ih hx hb hml hown hts hKs hP hD hS hm hs hlv.1 hsm.1 hsm.2 hd (hlk _ rfl) hc.1 hc.2.1 hc.2.2 h1 hl1 (by omega) hlo (by omega) (by omega) (fun ad' H1 locs1 ha p1 p2 p3 => ?_)
                have key := ih (d + 1) j (i + 1) ll (r1 ++ st.drop g) sh1 M1 r sh' M' h p e R s m args below meth c H1 locs1 (cells + (sh1.length - sh.length)) (slots + (ax_sl sh1 - ax_sl sh)) Q ls ad' hj hx hb hml hown hts hin hKs p1 p2 p3 hm1 (ax_ws_le hl hle) hs2 (ax_lv_ad hlv hl ha) hfr hlo (by omega) (by omega) (fun H' locs' ls' ad'' pc' ha2 q1 q2 q3 q4 q5 => ?_)
                · rw [hnx, List.map_append, ax_map_ad ha (ax_wdrop hs)] at key
                  exact key
                · rw [show cells + (sh1.length - sh.length) + (sh'.length - sh1.length) = cells + (sh'.length - sh.length) by omega, show slots + (ax_sl sh1 - ax_sl sh) + (ax_sl sh' - ax_sl sh1) = slots + (ax_sl sh' - ax_sl sh) by omega]
                  exact k H' locs' ls' ad'' pc' (fun a haa => (ha2 a (by omega)).trans (ha a haa)) q1 q2 q3 q4 q5
            · cases h
        · rw [if_neg h27] at h
          cases h1 : ax_step L X o i ll st sh M with
          | none => rw [h1] at h; cases h
          | some S =>
            obtain ⟨i', ll', st', sh1, M1⟩ := S
            rw [h1] at h
            dsimp only at h
            have h9 : o.1 ≠ 99 := fun q => by
              obtain ⟨a1, f, g, b⟩ := o
              have q : a1 = 99 := q
              subst q
              cases h1
            obtain ⟨⟨t1, e1⟩, hm1, hl1, hs1⟩ := ax_wstep hX hL (ax_ok_sml (hok j hj) ho h9) hm hl hs h1
            have e1 : sh1 = sh ++ t1 := e1
            have hle : sh.length ≤ sh1.length := by rw [e1]; simp
            have hsl : ax_sl sh ≤ ax_sl sh1 := by rw [e1, ax_sl_app]; omega
            obtain ⟨⟨t2, e2⟩, hm2, -⟩ := ax_wrun hX hL hok n d j i' ll' st' sh1 M1 r sh' M' hj hm1 hl1 hs1 h
            have hle2 : sh1.length ≤ sh'.length := by rw [e2]; simp
            have hsl2 : ax_sl sh1 ≤ ax_sl sh' := by rw [e2, ax_sl_app]; omega
            refine ax_sstep K hcad hx hb hml hown hts hin hKs hX hL hj ho hP hD hS hm hl hs hlv h1 (by omega) (by omega) (by omega) (by omega) (fun H1 locs1 ls1 ad1 ha p1 p2 p3 p4 => ?_)
            refine ih d j i' ll' st' sh1 M1 r sh' M' h p e R s m args below meth c H1 locs1 (cells + (sh1.length - sh.length)) (slots + (ax_sl sh1 - ax_sl sh)) Q ls1 ad1 hj hx hb hml hown hts hin hKs p1 p2 p3 hm1 hl1 hs1 p4 hfr hlo (by omega) (by omega) (fun H' locs' ls' ad'' pc' ha2 q1 q2 q3 q4 q5 => ?_)
            rw [show cells + (sh1.length - sh.length) + (sh'.length - sh1.length) = cells + (sh'.length - sh.length) by omega, show slots + (ax_sl sh1 - ax_sl sh) + (ax_sl sh' - ax_sl sh1) = slots + (ax_sl sh' - ax_sl sh) by omega]
            exact k H' locs' ls' ad'' pc' (fun a haa => (ha2 a (by omega)).trans (ha a haa)) q1 q2 q3 q4 q5
end AXT
end
section
/-! reasoning about runs of the small machine, the cells being made -/
theorem ax_mono {L : Nat} {X : Nat → Int} : ∀ (n d j i : Nat) (ll st : List ax_V) (sh : List ax_H) (M : ax_M) (q : List ax_V × List ax_H × ax_M), ax_run L X n d j i ll st sh M = some q → ∀ n' d' : Nat, n ≤ n' → d ≤ d' → ax_run L X n' d' j i ll st sh M = some q := by
  intro n
  induction n with
  | zero => intro d j i ll st sh M q h; cases h
  | succ n ih =>
    intro d j i ll st sh M q h n' d' hn hd
    obtain ⟨n1, rfl⟩ : ∃ n1, n' = n1 + 1 := ⟨n' - 1, by omega⟩
    unfold ax_run at h ⊢
    cases ho : ax_at j i with
    | none => rw [ho] at h; cases h
    | some o =>
      rw [ho] at h
      dsimp only at h ⊢
      by_cases h28 : o.1 = 28
      · rw [if_pos h28] at h ⊢
        exact h
      · rw [if_neg h28] at h ⊢
        by_cases h27 : o.1 = 27
        · rw [if_pos h27] at h ⊢
          cases d with
          | zero => cases h
          | succ d =>
            obtain ⟨d1, rfl⟩ : ∃ d1, d' = d1 + 1 := ⟨d' - 1, by omega⟩
            dsimp only at h ⊢
            split at h
            · rename_i hc
              rw [if_pos hc]
              cases h1 : ax_run L X n d o.2.1 0 (ax_loc (st.take o.2.2.1).reverse (ax_ml o.2.1)) [] sh M with
              | none => rw [h1] at h; cases h
              | some q1 =>
                rw [h1] at h
                rw [ih d o.2.1 0 _ [] sh M q1 h1 n1 d1 (by omega) (by omega)]
                exact ih _ _ _ _ _ _ _ _ h n1 (d1 + 1) (by omega) (by omega)
            · cases h
        · rw [if_neg h27] at h ⊢
          cases h1 : ax_step L X o i ll st sh M with
          | none => rw [h1] at h; cases h
          | some S =>
            obtain ⟨i', ll', st', sh1, M1⟩ := S
            rw [h1] at h
            exact ih _ _ _ _ _ _ _ _ h n1 d' (by omega) hd
/-- from here on the method ends, with P -/
def ax_G (L : Nat) (X : Nat → Int) (S : List ax_H) (d j i : Nat) (ll st : List ax_V) (M : ax_M) (P : List ax_V → ax_M → Prop) : Prop := ∃ (n : Nat) (r : List ax_V) (M' : ax_M), ax_run L X n d j i ll st S M = some (r, S, M') ∧ P r M'
/-- a whole call -/
def ax_Ev (L : Nat) (X : Nat → Int) (S : List ax_H) (d j : Nat) (as : List ax_V) (M : ax_M) (P : List ax_V → ax_M → Prop) : Prop := ax_G L X S d j 0 (ax_loc as (ax_ml j)) [] M P
section AXG
variable {L : Nat} {X : Nat → Int} {S : List ax_H} {d j i : Nat} {ll st : List ax_V} {M : ax_M} {P : List ax_V → ax_M → Prop} {C : List ax_O}
theorem ax_G.mono {d' : Nat} (h : ax_G L X S d j i ll st M P) (hd : d ≤ d') : ax_G L X S d' j i ll st M P := by
  obtain ⟨n, r, M', h1, h2⟩ := h
  exact ⟨n, r, M', ax_mono n d j i ll st S M _ h1 n d' (Nat.le_refl _) hd, h2⟩
theorem ax_G.imp {P' : List ax_V → ax_M → Prop} (h : ax_G L X S d j i ll st M P) (hp : ∀ r M', P r M' → P' r M') : ax_G L X S d j i ll st M P' := by
  obtain ⟨n, r, M', h1, h2⟩ := h
  exact ⟨n, r, M', h1, hp r M' h2⟩
theorem ax_gs {o : ax_O} {i' : Nat} {ll' st' : List ax_V} {M1 : ax_M} (ho : ax_at j i = some o) (h28 : o.1 ≠ 28) (h27 : o.1 ≠ 27) (h : ax_step L X o i ll st S M = some (i', ll', st', S, M1)) (k : ax_G L X S d j i' ll' st' M1 P) : ax_G L X S d j i ll st M P := by
  obtain ⟨n, r, M', h1, h2⟩ := k
  refine ⟨n + 1, r, M', ?_, h2⟩
  unfold ax_run
  rw [ho]
  dsimp only
  rw [if_neg h28, if_neg h27, h]
  exact h1
theorem g0 {a b : Nat} {v : Int} (hC : ∀ i, ax_at j i = C[i]?) (h : C[i]? = some (0, a, b, v)) (k : ax_G L X S d j (i + 1) ll ((0, v) :: st) M P) : ax_G L X S d j i ll st M P := ax_gs ((hC i).trans h) (fun q => (by cases q)) (fun q => (by cases q)) rfl k
theorem g1 {a b : Nat} {v : Int} (hC : ∀ i, ax_at j i = C[i]?) (h : C[i]? = some (1, a, b, v)) (k : ax_G L X S d j (i + 1) ll ((1, v) :: st) M P) : ax_G L X S d j i ll st M P := ax_gs ((hC i).trans h) (fun q => (by cases q)) (fun q => (by cases q)) rfl k
theorem g2 {a b : Nat} {v : Int} (hC : ∀ i, ax_at j i = C[i]?) (h : C[i]? = some (2, a, b, v)) (k : ax_G L X S d j (i + 1) ll ((2, v) :: st) M P) : ax_G L X S d j i ll st M P := ax_gs ((hC i).trans h) (fun q => (by cases q)) (fun q => (by cases q)) rfl k
theorem g3 {t g : Nat} {w x : Int} (hC : ∀ i, ax_at j i = C[i]?) (h : C[i]? = some (3, t, g, w)) (hv : ll[g]? = some (t, x)) (k : ax_G L X S d j (i + 1) ll ((t, x) :: st) M P) : ax_G L X S d j i ll st M P := by
  refine ax_gs ((hC i).trans h) (fun q => (by cases q)) (fun q => (by cases q)) ?_ k
  show ax_x3 t g i ll st S M = _
  unfold ax_x3
  rw [hv]
  dsimp only
  rw [if_pos rfl]
/-- a store of one place, no long just ahead -/
theorem g4 {t g : Nat} {w x : Int} {ll' : List ax_V} (hC : ∀ i, ax_at j i = C[i]?) (h : C[i]? = some (4, t, g, w)) (hl : g + (if t = 1 then 1 else 0) < ll.length) (hs : ax_set ll g (t, x) = ll') (k : ax_G L X S d j (i + 1) ll' st M P) : ax_G L X S d j i ll ((t, x) :: st) M P := by
  refine ax_gs ((hC i).trans h) (fun q => (by cases q)) (fun q => (by cases q)) ?_ k
  show (if t = t ∧ g + (if t = 1 then 1 else 0) < ll.length then some (i + 1, ax_set ll g (t, x), st, S, M) else none) = _
  rw [if_pos ⟨rfl, hl⟩, hs]
theorem g5 {g b : Nat} {w x : Int} {ll' : List ax_V} (hC : ∀ i, ax_at j i = C[i]?) (h : C[i]? = some (5, g, b, w)) (hv : ll[g]? = some (0, x)) (hi : ax_i (x + w)) (hs : ax_set ll g (0, x + w) = ll') (k : ax_G L X S d j (i + 1) ll' st M P) : ax_G L X S d j i ll st M P := by
  refine ax_gs ((hC i).trans h) (fun q => (by cases q)) (fun q => (by cases q)) ?_ k
  show ax_x5 g w i ll st S M = _
  unfold ax_x5
  rw [hv]
  show (if ax_i (x + w) then some (i + 1, ax_set ll g (0, x + w), st, S, M) else none) = _
  rw [if_pos hi, hs]
theorem g6a {b : Nat} {w x y : Int} (hC : ∀ i, ax_at j i = C[i]?) (h : C[i]? = some (6, 0, b, w)) (hi : ax_i (x + y)) (k : ax_G L X S d j (i + 1) ll ((0, x + y) :: st) M P) : ax_G L X S d j i ll ((0, y) :: (0, x) :: st) M P := by
  refine ax_gs ((hC i).trans h) (fun q => (by cases q)) (fun q => (by cases q)) ?_ k
  show (match (if ax_i (x + y) then some (x + y) else none) with | some z => some (i + 1, ll, (0, z) :: st, S, M) | none => none) = _
  rw [if_pos hi]
theorem g6s {b : Nat} {w x y : Int} (hC : ∀ i, ax_at j i = C[i]?) (h : C[i]? = some (6, 1, b, w)) (hi : ax_i (x - y)) (k : ax_G L X S d j (i + 1) ll ((0, x - y) :: st) M P) : ax_G L X S d j i ll ((0, y) :: (0, x) :: st) M P := by
  refine ax_gs ((hC i).trans h) (fun q => (by cases q)) (fun q => (by cases q)) ?_ k
  show (match (if ax_i (x - y) then some (x - y) else none) with | some z => some (i + 1, ll, (0, z) :: st, S, M) | none => none) = _
  rw [if_pos hi]
theorem g6m {b : Nat} {w x y : Int} (hC : ∀ i, ax_at j i = C[i]?) (h : C[i]? = some (6, 2, b, w)) (hi : ax_i (x * y)) (k : ax_G L X S d j (i + 1) ll ((0, x * y) :: st) M P) : ax_G L X S d j i ll ((0, y) :: (0, x) :: st) M P := by
  refine ax_gs ((hC i).trans h) (fun q => (by cases q)) (fun q => (by cases q)) ?_ k
  show (match (if ax_i (x * y) then some (x * y) else none) with | some z => some (i + 1, ll, (0, z) :: st, S, M) | none => none) = _
  rw [if_pos hi]
/-- any other of the kind: what it gives is named -/
theorem g6 {f b : Nat} {w x y z : Int} (hC : ∀ i, ax_at j i = C[i]?) (h : C[i]? = some (6, f, b, w)) (hz : ax_ib f x y = some z) (k : ax_G L X S d j (i + 1) ll ((0, z) :: st) M P) : ax_G L X S d j i ll ((0, y) :: (0, x) :: st) M P := by
  refine ax_gs ((hC i).trans h) (fun q => (by cases q)) (fun q => (by cases q)) ?_ k
  show (match ax_ib f x y with | some z => some (i + 1, ll, (0, z) :: st, S, M) | none => none) = _
  rw [hz]
theorem g7 {f b : Nat} {w x y z : Int} (hC : ∀ i, ax_at j i = C[i]?) (h : C[i]? = some (7, f, b, w)) (hz : ax_lb f x y = some z) (k : ax_G L X S d j (i + 1) ll ((1, z) :: st) M P) : ax_G L X S d j i ll ((1, y) :: (1, x) :: st) M P := by
  refine ax_gs ((hC i).trans h) (fun q => (by cases q)) (fun q => (by cases q)) ?_ k
  show (match ax_lb f x y with | some z => some (i + 1, ll, (1, z) :: st, S, M) | none => none) = _
  rw [hz]
theorem g8 {f b : Nat} {w x : Int} (hC : ∀ i, ax_at j i = C[i]?) (h : C[i]? = some (8, f, b, w)) (hi : ax_i (-x)) (k : ax_G L X S d j (i + 1) ll ((0, -x) :: st) M P) : ax_G L X S d j i ll ((0, x) :: st) M P := by
  refine ax_gs ((hC i).trans h) (fun q => (by cases q)) (fun q => (by cases q)) ?_ k
  show (if ax_i (-x) then some (i + 1, ll, (0, -x) :: st, S, M) else none) = _
  rw [if_pos hi]
theorem g9 {f b : Nat} {w x : Int} (hC : ∀ i, ax_at j i = C[i]?) (h : C[i]? = some (9, f, b, w)) (k : ax_G L X S d j (i + 1) ll ((1, x) :: st) M P) : ax_G L X S d j i ll ((0, x) :: st) M P := ax_gs ((hC i).trans h) (fun q => (by cases q)) (fun q => (by cases q)) rfl k
theorem g10 {f b : Nat} {w x : Int} (hC : ∀ i, ax_at j i = C[i]?) (h : C[i]? = some (10, f, b, w)) (hi : ax_i x) (k : ax_G L X S d j (i + 1) ll ((0, x) :: st) M P) : ax_G L X S d j i ll ((1, x) :: st) M P := by
  refine ax_gs ((hC i).trans h) (fun q => (by cases q)) (fun q => (by cases q)) ?_ k
  show (if ax_i x then some (i + 1, ll, (0, x) :: st, S, M) else none) = _
  rw [if_pos hi]
theorem g11 {f b : Nat} {w x y : Int} (hC : ∀ i, ax_at j i = C[i]?) (h : C[i]? = some (11, f, b, w)) (k : ax_G L X S d j (i + 1) ll ((0, ax_cmp x y) :: st) M P) : ax_G L X S d j i ll ((1, y) :: (1, x) :: st) M P := ax_gs ((hC i).trans h) (fun q => (by cases q)) (fun q => (by cases q)) rfl k
/-- a branch: c is the condition in plain words -/
theorem g12 {f g : Nat} {w x : Int} (hC : ∀ i, ax_at j i = C[i]?) (h : C[i]? = some (12, f, g, w)) (kt : ax_cd f x 0 = true → ax_G L X S d j g ll st M P) (kf : ax_cd f x 0 = false → ax_G L X S d j (i + 1) ll st M P) : ax_G L X S d j i ll ((0, x) :: st) M P := by
  cases q : ax_cd f x 0 with
  | true => exact ax_gs ((hC i).trans h) (fun q => (by cases q)) (fun q => (by cases q)) (by show some (if ax_cd f x 0 = true then g else i + 1, ll, st, S, M) = _; rw [if_pos q]) (kt q)
  | false => exact ax_gs ((hC i).trans h) (fun q => (by cases q)) (fun q => (by cases q)) (by show some (if ax_cd f x 0 = true then g else i + 1, ll, st, S, M) = _; rw [if_neg (by rw [q]; decide)]) (kf q)
theorem g13 {f g : Nat} {w x y : Int} (hC : ∀ i, ax_at j i = C[i]?) (h : C[i]? = some (13, f, g, w)) (kt : ax_cd f x y = true → ax_G L X S d j g ll st M P) (kf : ax_cd f x y = false → ax_G L X S d j (i + 1) ll st M P) : ax_G L X S d j i ll ((0, y) :: (0, x) :: st) M P := by
  cases q : ax_cd f x y with
  | true => exact ax_gs ((hC i).trans h) (fun q => (by cases q)) (fun q => (by cases q)) (by show some (if ax_cd f x y = true then g else i + 1, ll, st, S, M) = _; rw [if_pos q]) (kt q)
  | false => exact ax_gs ((hC i).trans h) (fun q => (by cases q)) (fun q => (by cases q)) (by show some (if ax_cd f x y = true then g else i + 1, ll, st, S, M) = _; rw [if_neg (by rw [q]; decide)]) (kf q)
theorem g14 {f g : Nat} {w : Int} (hC : ∀ i, ax_at j i = C[i]?) (h : C[i]? = some (14, f, g, w)) (k : ax_G L X S d j g ll st M P) : ax_G L X S d j i ll st M P := ax_gs ((hC i).trans h) (fun q => (by cases q)) (fun q => (by cases q)) rfl k
theorem g15 {f g : Nat} {w x : Int} {i' : Nat} {q : Nat × Int × Int × List Nat × Nat × Nat} (hC : ∀ i, ax_at j i = C[i]?) (h : C[i]? = some (15, f, g, w)) (hq : ax_sw[f]? = some q) (hi : (if q.2.1 ≤ x ∧ x ≤ q.2.2.1 then q.2.2.2.1.getD (x - q.2.1).toNat 0 else q.2.2.2.2.1) = i') (k : ax_G L X S d j i' ll st M P) : ax_G L X S d j i ll ((0, x) :: st) M P := by
  refine ax_gs ((hC i).trans h) (fun q => (by cases q)) (fun q => (by cases q)) ?_ k
  show (match ax_sw[f]? with | some w => some (if w.2.1 ≤ x ∧ x ≤ w.2.2.1 then w.2.2.2.1.getD (x - w.2.1).toNat 0 else w.2.2.2.2.1, ll, st, S, M) | none => none) = _
  rw [hq]
  dsimp only
  rw [hi]
theorem g16 {f g : Nat} {w x : Int} {t : Nat} (hC : ∀ i, ax_at j i = C[i]?) (h : C[i]? = some (16, f, g, w)) (ht : t = 0 ∨ t = 2) (k : ax_G L X S d j (i + 1) ll ((t, x) :: (t, x) :: st) M P) : ax_G L X S d j i ll ((t, x) :: st) M P := by
  refine ax_gs ((hC i).trans h) (fun q => (by cases q)) (fun q => (by cases q)) ?_ k
  show (if t = 0 ∨ t = 2 then some (i + 1, ll, (t, x) :: (t, x) :: st, S, M) else none) = _
  rw [if_pos ht]
theorem g17 {f g : Nat} {w x y : Int} {t u : Nat} (hC : ∀ i, ax_at j i = C[i]?) (h : C[i]? = some (17, f, g, w)) (ht : (t = 0 ∨ t = 2) ∧ (u = 0 ∨ u = 2)) (k : ax_G L X S d j (i + 1) ll ((t, x) :: (u, y) :: (t, x) :: (u, y) :: st) M P) : ax_G L X S d j i ll ((t, x) :: (u, y) :: st) M P := by
  refine ax_gs ((hC i).trans h) (fun q => (by cases q)) (fun q => (by cases q)) ?_ k
  show (if (t = 0 ∨ t = 2) ∧ (u = 0 ∨ u = 2) then some (i + 1, ll, (t, x) :: (u, y) :: (t, x) :: (u, y) :: st, S, M) else none) = _
  rw [if_pos ht]
theorem g18 {f g : Nat} {w x : Int} {t : Nat} (hC : ∀ i, ax_at j i = C[i]?) (h : C[i]? = some (18, f, g, w)) (ht : t = 0 ∨ t = 2) (k : ax_G L X S d j (i + 1) ll st M P) : ax_G L X S d j i ll ((t, x) :: st) M P := by
  refine ax_gs ((hC i).trans h) (fun q => (by cases q)) (fun q => (by cases q)) ?_ k
  show (if t = 0 ∨ t = 2 then some (i + 1, ll, st, S, M) else none) = _
  rw [if_pos ht]
/-- a field read: its cell by a number -/
theorem g19 {f g a : Nat} {w y : Int} {t : Nat} (hC : ∀ i, ax_at j i = C[i]?) (h : C[i]? = some (19, f, g, w)) (ha : S[a]? = some (0, f, ax_fl f)) (hg : g < ax_fl f) (ht : ax_ft (ax_fty f g) = t) (hy : M a g = y) (k : ax_G L X S d j (i + 1) ll ((t, y) :: st) M P) : ax_G L X S d j i ll ((2, (a : Int)) :: st) M P := by
  refine ax_gs ((hC i).trans h) (fun q => (by cases q)) (fun q => (by cases q)) ?_ k
  have e : ax_get S M f g (a : Int) = some (t, y) := by
    unfold ax_get
    rw [if_pos (by omega), Int.toNat_natCast, ha]
    show (if f = f ∧ g < ax_fl f then some (ax_ft (ax_fty f g), M a g) else none) = _
    rw [if_pos ⟨rfl, hg⟩, ht, hy]
  show (match ax_get S M f g (a : Int) with | some v => some (i + 1, ll, v :: st, S, M) | none => none) = _
  rw [e]
theorem g20 {f g a : Nat} {w y : Int} {t : Nat} (hC : ∀ i, ax_at j i = C[i]?) (h : C[i]? = some (20, f, g, w)) (ha : S[a]? = some (0, f, ax_fl f)) (hg : g < ax_fl f) (hs : ax_fs (ax_fty f g) (t, y) = true) (k : ax_G L X S d j (i + 1) ll st (ax_up M a g y) P) : ax_G L X S d j i ll ((t, y) :: (2, (a : Int)) :: st) M P := by
  refine ax_gs ((hC i).trans h) (fun q => (by cases q)) (fun q => (by cases q)) ?_ k
  show (if 0 ≤ (a : Int) ∧ S[(a : Int).toNat]? = some (0, f, ax_fl f) ∧ g < ax_fl f ∧ ax_fs (ax_fty f g) (t, y) = true then some (i + 1, ll, st, S, ax_up M (a : Int).toNat g y) else none) = _
  rw [Int.toNat_natCast, if_pos ⟨by omega, ha, hg, hs⟩]
/-- an element read: its cell and its place by numbers -/
theorem g21 {f g a n q : Nat} {w y : Int} {t : Nat} (hC : ∀ i, ax_at j i = C[i]?) (h : C[i]? = some (21, f, g, w)) (ha : S[a]? = some (1, t, n)) (ht : t = f ∨ (f = 4 ∧ t = 5)) (hq : q < n) (hy : M a q = y) (k : ax_G L X S d j (i + 1) ll ((ax_et f, y) :: st) M P) : ax_G L X S d j i ll ((0, (q : Int)) :: (2, (a : Int)) :: st) M P := by
  refine ax_gs ((hC i).trans h) (fun q => (by cases q)) (fun q => (by cases q)) ?_ k
  have e : ax_ald L X S M f (a : Int) (q : Int) = some (ax_et f, y) := by
    unfold ax_ald
    rw [if_pos (by omega), Int.toNat_natCast, ha]
    show (if (t = f ∨ (f = 4 ∧ t = 5)) ∧ 0 ≤ (q : Int) ∧ (q : Int) < n then some (ax_et f, M a (q : Int).toNat) else none) = _
    rw [Int.toNat_natCast, if_pos ⟨ht, by omega, by omega⟩, hy]
  show (match ax_ald L X S M f (a : Int) (q : Int) with | some v => some (i + 1, ll, v :: st, S, M) | none => none) = _
  rw [e]
theorem g22 {f g a n q : Nat} {w y : Int} {t : Nat} (hC : ∀ i, ax_at j i = C[i]?) (h : C[i]? = some (22, f, g, w)) (ha : S[a]? = some (1, f, n)) (hq : q < n) (hs : ax_es f (t, y) = true) (k : ax_G L X S d j (i + 1) ll st (ax_up M a q y) P) : ax_G L X S d j i ll ((t, y) :: (0, (q : Int)) :: (2, (a : Int)) :: st) M P := by
  refine ax_gs ((hC i).trans h) (fun q => (by cases q)) (fun q => (by cases q)) ?_ k
  show (match S[(a : Int).toNat]? with | some (1, u, n) => if 0 ≤ (a : Int) ∧ u = f ∧ ax_es f (t, y) = true ∧ 0 ≤ (q : Int) ∧ (q : Int) < n then some (i + 1, ll, st, S, ax_up M (a : Int).toNat (q : Int).toNat y) else none | _ => none) = _
  rw [Int.toNat_natCast, Int.toNat_natCast, ha]
  show (if 0 ≤ (a : Int) ∧ f = f ∧ ax_es f (t, y) = true ∧ 0 ≤ (q : Int) ∧ (q : Int) < n then some (i + 1, ll, st, S, ax_up M a q y) else none) = _
  rw [if_pos ⟨by omega, rfl, hs, by omega, by omega⟩]
theorem g23 {f g a n : Nat} {w : Int} {t : Nat} (hC : ∀ i, ax_at j i = C[i]?) (h : C[i]? = some (23, f, g, w)) (ha : S[a]? = some (1, t, n)) (k : ax_G L X S d j (i + 1) ll ((0, (n : Int)) :: st) M P) : ax_G L X S d j i ll ((2, (a : Int)) :: st) M P := by
  refine ax_gs ((hC i).trans h) (fun q => (by cases q)) (fun q => (by cases q)) ?_ k
  have e : ax_aln L S (a : Int) = some (n : Int) := by
    unfold ax_aln
    rw [if_pos (by omega), Int.toNat_natCast, ha]
    rfl
  show (match ax_aln L S (a : Int) with | some n => some (i + 1, ll, (0, n) :: st, S, M) | none => none) = _
  rw [e]
theorem g29 {f g a b la lb sp dp n : Nat} {w : Int} (hC : ∀ i, ax_at j i = C[i]?) (h : C[i]? = some (29, f, g, w)) (ha : S[a]? = some (1, 0, la)) (hb : S[b]? = some (1, 0, lb)) (h1 : sp + n ≤ la) (h2 : dp + n ≤ lb) (hc : ax_cat st ≤ 8) (k : ax_G L X S d j (i + 1) ll st (ax_cpy M a sp b dp n) P) : ax_G L X S d j i ll ((0, (n : Int)) :: (0, (dp : Int)) :: (2, (b : Int)) :: (0, (sp : Int)) :: (2, (a : Int)) :: st) M P := by
  refine ax_gs ((hC i).trans h) (fun q => (by cases q)) (fun q => (by cases q)) ?_ k
  show (match S[(a : Int).toNat]?, S[(b : Int).toNat]? with | some (1, 0, la), some (1, 0, lb) => if 0 ≤ (a : Int) ∧ 0 ≤ (b : Int) ∧ 0 ≤ (sp : Int) ∧ 0 ≤ (dp : Int) ∧ 0 ≤ (n : Int) ∧ (sp : Int) + n ≤ la ∧ (dp : Int) + n ≤ lb ∧ ax_cat st ≤ 8 then some (i + 1, ll, st, S, ax_cpy M (a : Int).toNat (sp : Int).toNat (b : Int).toNat (dp : Int).toNat (n : Int).toNat) else none | _, _ => none) = _
  simp only [Int.toNat_natCast]
  rw [ha, hb]
  show (if 0 ≤ (a : Int) ∧ 0 ≤ (b : Int) ∧ 0 ≤ (sp : Int) ∧ 0 ≤ (dp : Int) ∧ 0 ≤ (n : Int) ∧ (sp : Int) + n ≤ la ∧ (dp : Int) + n ≤ lb ∧ ax_cat st ≤ 8 then some (i + 1, ll, st, S, ax_cpy M a sp b dp n) else none) = _
  rw [if_pos ⟨by omega, by omega, by omega, by omega, by omega, by omega, by omega, hc⟩]
theorem g31 {f g : Nat} {w x : Int} (hC : ∀ i, ax_at j i = C[i]?) (h : C[i]? = some (31, f, g, w)) (k : ax_G L X S d j (i + 1) ll ((0, x % 65536) :: st) M P) : ax_G L X S d j i ll ((0, x) :: st) M P := ax_gs ((hC i).trans h) (fun q => (by cases q)) (fun q => (by cases q)) rfl k
theorem g28 {f g : Nat} {w : Int} (hC : ∀ i, ax_at j i = C[i]?) (h : C[i]? = some (28, f, g, w)) (hr : ax_ret f st = some st) (hP : P st M) : ax_G L X S d j i ll st M P := by
  refine ⟨1, st, M, ?_, hP⟩
  unfold ax_run
  rw [(hC i).trans h]
  dsimp only
  rw [if_pos rfl, hr]
/-- a call -/
theorem g27 {f g d0 : Nat} {w : Int} {as rest : List ax_V} {P1 : List ax_V → ax_M → Prop} (hC : ∀ i, ax_at j i = C[i]?) (h : C[i]? = some (27, f, g, w)) (ha : st.take g = as) (hrest : st.drop g = rest) (hg : g ≤ st.length) (hc : ax_cat rest ≤ 8) (hm : ax_may f S as.reverse = true) (hE : ax_Ev L X S d0 f as.reverse M P1) (hd : d0 + 1 ≤ d) (k : ∀ r M1, P1 r M1 → ax_G L X S d j (i + 1) ll (r ++ rest) M1 P) : ax_G L X S d j i ll st M P := by
  obtain ⟨d', rfl⟩ : ∃ d', d = d' + 1 := ⟨d - 1, by omega⟩
  obtain ⟨n1, r1, M1, e1, p1⟩ := hE.mono (d' := d') (by omega)
  obtain ⟨n2, r2, M2, e2, p2⟩ := k r1 M1 p1
  refine ⟨max n1 n2 + 1, r2, M2, ?_, p2⟩
  unfold ax_run
  rw [(hC i).trans h]
  dsimp only
  rw [if_neg (by decide), if_pos rfl, ha, hrest, if_pos ⟨hg, hc, hm⟩, ax_mono n1 d' f 0 _ [] S M _ e1 (max n1 n2) d' (Nat.le_max_left _ _) (Nat.le_refl _)]
  exact ax_mono n2 (d' + 1) j (i + 1) ll _ S M1 _ e2 (max n1 n2) (d' + 1) (Nat.le_max_right _ _) (Nat.le_refl _)
end AXG
end
section
/-! the cells, when all is made: 0 the class (its house 9 or 27), 142 the reference; references that never change -/
def SH : List ax_H := [(0,11,18), (0,10,10), (1,0,1600), (0,7,3), (1,0,1600), (1,0,64), (0,2,4), (0,5,3), (1,0,9), (0,4,20), (1,0,8), (1,0,5), (1,0,8), (1,0,10), (1,0,10), (1,0,10), (1,0,5), (1,0,8), (1,0,8), (1,0,8), (1,0,8), (0,7,3), (1,0,1600), (1,0,64), (0,7,3), (1,0,1600), (1,0,64), (0,4,20), (1,0,8), (1,0,5), (1,0,8), (1,0,10), (1,0,10), (1,0,10), (1,0,5), (1,0,8), (1,0,8), (1,0,8), (1,0,8), (0,7,3), (1,0,1600), (1,0,64), (0,7,3), (1,0,1600), (1,0,64), (0,8,4), (1,0,5), (1,0,10), (1,0,28), (0,3,3), (1,4,20), (1,0,44), (1,0,44), (1,0,44), (1,0,44), (1,0,44), (1,0,44), (1,0,44), (1,0,44), (1,0,44), (1,0,44), (1,0,44), (1,0,44), (1,0,44), (1,0,44), (1,0,44), (1,0,44), (1,0,44), (1,0,44), (1,0,44), (1,0,44), (0,1,11), (1,0,8), (1,0,8), (1,0,8), (1,4,9), (1,0,8), (1,0,8), (1,0,8), (1,0,8), (1,0,8), (1,0,8), (1,0,8), (1,0,8), (1,0,8), (1,4,8), (1,0,8), (1,0,8), (1,0,8), (1,0,8), (1,0,8), (1,0,8), (1,0,8), (1,0,8), (1,4,8), (1,0,8), (1,0,8), (1,0,8), (1,0,8), (1,0,8), (1,0,8), (1,0,8), (1,0,8), (1,0,8), (1,0,10), (1,0,10), (1,0,5), (0,6,3), (1,0,5), (1,0,5), (0,0,4), (1,0,8), (1,0,8), (1,5,8), (1,1,8), (1,1,8), (1,1,8), (1,1,8), (1,1,8), (1,1,8), (1,1,8), (1,1,8), (0,9,7), (1,0,16), (1,0,16), (1,0,11), (1,4,11), (1,0,8), (1,0,8), (1,0,8), (1,0,8), (1,0,8), (1,0,8), (1,0,8), (1,0,8), (1,0,8), (1,0,8), (1,0,8), (1,0,7), (1,0,74), (1,0,6), (1,0,44), (0,12,121), (1,0,1600), (1,0,6), (1,2,4), (1,2,5), (1,2,2), (1,2,4), (1,2,4), (1,2,4), (1,2,5), (1,2,2), (1,2,2), (1,2,4), (1,2,3), (1,2,5), (1,2,4), (1,2,5), (1,2,5), (1,2,5), (1,2,5), (1,2,6), (1,2,5), (1,2,5), (1,2,4), (1,2,6), (1,2,3), (1,2,6), (1,2,5), (1,2,2), (1,2,3), (1,2,3), (1,2,3), (1,2,3), (1,2,3), (1,0,8), (1,1,48), (1,0,60), (1,0,5), (1,0,64), (1,0,6), (1,0,4), (1,0,4), (1,0,3200), (1,0,44), (1,0,44), (1,0,8), (1,0,10), (1,0,8), (1,0,8), (1,0,8), (1,0,72), (1,0,64), (1,0,5), (1,0,5), (1,0,5), (1,1,64), (1,1,256), (1,0,8), (1,0,32), (1,0,88), (1,3,11), (1,0,880), (1,2,5), (1,2,4), (1,2,5), (1,2,5), (1,2,4), (1,2,5), (1,2,3), (1,2,3), (1,2,2), (1,2,3), (1,2,3), (1,2,3), (1,2,4), (1,2,3), (1,2,5), (1,2,6), (1,2,5), (1,2,5), (1,2,4), (1,2,6), (1,2,4), (1,2,3), (1,2,6), (1,2,5), (1,0,1700), (1,0,1700), (1,1,1700), (1,0,74)]
/-- cell, field, where it leads -/
def ax_fx : List (Nat × Nat × Nat) := [(0,0,1), (0,1,6), (0,2,7), (0,5,45), (0,6,49), (0,7,71), (0,8,107), (0,9,110), (0,10,122), (0,11,3), (0,12,138), (0,13,139), (0,15,140), (0,17,141), (1,0,2), (3,0,4), (3,2,5), (6,0,1), (7,0,1), (7,1,6), (7,2,8), (9,4,10), (9,5,11), (9,6,12), (9,7,13), (9,8,14), (9,9,15), (9,10,16), (9,11,17), (9,12,18), (9,13,19), (9,14,20), (9,15,21), (9,16,24), (21,0,22), (21,2,23), (24,0,25), (24,2,26), (27,4,28), (27,5,29), (27,6,30), (27,7,31), (27,8,32), (27,9,33), (27,10,34), (27,11,35), (27,12,36), (27,13,37), (27,14,38), (27,15,39), (27,16,42), (39,0,40), (39,2,41), (42,0,43), (42,2,44), (45,1,46), (45,2,47), (45,3,48), (49,0,50), (71,0,72), (71,1,73), (71,2,74), (71,3,75), (71,4,85), (71,5,94), (71,7,103), (71,8,104), (71,9,105), (71,10,106), (107,0,108), (107,2,109), (110,0,111), (110,2,112), (110,3,113), (122,1,123), (122,2,124), (122,3,125), (122,4,126), (142,0,143), (142,9,144), (142,10,145), (142,11,146), (142,12,147), (142,13,148), (142,14,149), (142,15,150), (142,16,151), (142,17,152), (142,18,153), (142,19,154), (142,20,155), (142,21,156), (142,22,157), (142,23,158), (142,24,159), (142,25,160), (142,26,161), (142,27,162), (142,28,163), (142,29,164), (142,30,165), (142,31,166), (142,32,167), (142,33,168), (142,34,169), (142,35,170), (142,36,171), (142,37,172), (142,38,173), (142,39,174), (142,40,175), (142,42,176), (142,43,177), (142,44,178), (142,45,179), (142,46,180), (142,47,181), (142,48,182), (142,49,183), (142,50,184), (142,54,185), (142,55,186), (142,60,187), (142,61,188), (142,62,189), (142,63,190), (142,64,191), (142,65,192), (142,66,193), (142,68,194), (142,71,195), (142,72,196), (142,73,197), (142,74,198), (142,75,199), (142,77,200), (142,78,201), (142,79,202), (142,81,203), (142,85,204), (142,86,205), (142,87,206), (142,88,207), (142,89,208), (142,90,209), (142,91,210), (142,92,211), (142,93,212), (142,94,213), (142,95,214), (142,96,215), (142,97,216), (142,98,217), (142,99,218), (142,100,219), (142,101,220), (142,102,221), (142,103,222), (142,104,223), (142,105,224), (142,106,225), (142,107,226), (142,108,227), (142,109,228), (142,111,229), (142,115,230), (142,119,231)]
/-- arrays of arrays: cell, rows, the first row; the others follow it -/
def ax_fr : List (Nat × Nat × Nat) := [(50,20,51), (75,9,76), (85,8,86), (94,8,95), (113,8,114), (126,11,127)]
def Fix (M : ax_M) : Prop := (∀ e ∈ ax_fx, M e.1 e.2.1 = (e.2.2 : Int)) ∧ ∀ e ∈ ax_fr, ∀ k, k < e.2.1 → M e.1 k = ((e.2.2 + k : Nat) : Int)
theorem Fix.f {M : ax_M} (h : Fix M) {a k v : Nat} (hm : ax_fx.contains (a, k, v) = true) : M a k = (v : Int) := h.1 (a, k, v) (List.elem_iff.mp hm)
def ax_fw : List (Nat × Nat × Nat) → Nat → Nat → Option Nat
  | [], _, _ => none
  | (a, k, v) :: t, b, q => if a = b ∧ k = q then some v else ax_fw t b q
theorem ax_fw_in : ∀ {l : List (Nat × Nat × Nat)} {b q w : Nat}, ax_fw l b q = some w → (b, q, w) ∈ l
  | [], _, _, _, h => by cases h
  | (a, k, v) :: t, b, q, w, h => by
    unfold ax_fw at h
    split at h
    · rename_i e
      obtain ⟨rfl, rfl⟩ := e
      cases h
      exact List.mem_cons_self
    · exact List.mem_cons_of_mem _ (ax_fw_in h)
theorem Fix.g {M : ax_M} (h : Fix M) {a k v : Nat} (hm : ax_fw ax_fx a k = some v) : M a k = (v : Int) := h.1 (a, k, v) (ax_fw_in hm)
theorem Fix.r {M : ax_M} (h : Fix M) {a n v k : Nat} (hm : ax_fr.contains (a, n, v) = true) (hk : k < n) : M a k = ((v + k : Nat) : Int) := h.2 (a, n, v) (List.elem_iff.mp hm) k hk
theorem ax_fx_ob : ∀ e ∈ ax_fx, ∃ c n, SH[e.1]? = some (0, c, n) := by
  have h : ax_fx.all (fun e => match SH[e.1]? with | some (0, _, _) => true | _ => false) = true := by decide +kernel
  intro e he
  have h1 := List.all_eq_true.mp h e he
  split at h1
  · rename_i c n q; exact ⟨c, n, q⟩
  · cases h1
theorem ax_fr_ob : ∀ e ∈ ax_fr, ∃ c n, SH[e.1]? = some (1, c + 4, n) := by
  have h : ax_fr.all (fun e => match SH[e.1]? with | some (1, c, _) => decide (4 ≤ c) | _ => false) = true := by decide +kernel
  intro e he
  have h1 := List.all_eq_true.mp h e he
  split at h1
  · rename_i c n q
    have h2 := of_decide_eq_true h1
    exact ⟨c - 4, n, by rw [q, show c - 4 + 4 = c by omega]⟩
  · cases h1
/-- a write into a plain array -/
theorem Fix.upA {M : ax_M} (h : Fix M) {a t n k : Nat} {x : Int} (ha : SH[a]? = some (1, t, n)) (ht : t < 4) : Fix (ax_up M a k x) := by
  refine ⟨fun e he => ?_, fun e he q hq => ?_⟩
  · rw [ax_up_ne (fun z => ?_)]
    · exact h.1 e he
    · obtain ⟨c, n2, h2⟩ := ax_fx_ob e he
      rw [z, ha] at h2
      cases h2
  · rw [ax_up_ne (fun z => ?_)]
    · exact h.2 e he q hq
    · obtain ⟨c, n2, h2⟩ := ax_fr_ob e he
      rw [z, ha] at h2
      have h3 : t = c + 4 := by injection h2 with h2; injection h2 with h4 h2; injection h2
      omega
theorem Fix.cpy {M : ax_M} (h : Fix M) {a sp b dp n t lb : Nat} (hb : SH[b]? = some (1, t, lb)) (ht : t < 4) : Fix (ax_cpy M a sp b dp n) := by
  refine ⟨fun e he => ?_, fun e he q hq => ?_⟩
  · have hne : e.1 ≠ b := fun z => by
      obtain ⟨c, n2, h2⟩ := ax_fx_ob e he
      rw [z, hb] at h2
      cases h2
    unfold ax_cpy
    rw [if_neg (fun z => hne z.1)]
    exact h.1 e he
  · have hne : e.1 ≠ b := fun z => by
      obtain ⟨c, n2, h2⟩ := ax_fr_ob e he
      rw [z, hb] at h2
      have h3 : t = c + 4 := by injection h2 with h2; injection h2 with h4 h2; injection h2
      omega
    unfold ax_cpy
    rw [if_neg (fun z => hne z.1)]
    exact h.2 e he q hq
/-- a write into a field that may change -/
theorem Fix.upF {M : ax_M} (h : Fix M) {a k c n : Nat} {x : Int} (ha : SH[a]? = some (0, c, n)) (hk : ax_fx.all (fun e => !(e.1 == a && e.2.1 == k)) = true) : Fix (ax_up M a k x) := by
  refine ⟨fun e he => ?_, fun e he q hq => ?_⟩
  · have h1 := List.all_eq_true.mp hk e he
    unfold ax_up
    rw [if_neg (fun z => ?_)]
    · exact h.1 e he
    · rw [z.1, z.2] at h1
      simp at h1
  · rw [ax_up_ne (fun z => ?_)]
    · exact h.2 e he q hq
    · obtain ⟨c, n2, h2⟩ := ax_fr_ob e he
      rw [z, ha] at h2
      cases h2
section AXB
variable {L : Nat} {X : Nat → Int} {S : List ax_H} {d j i : Nat} {ll st : List ax_V} {M : ax_M} {P : List ax_V → ax_M → Prop} {C : List ax_O}
theorem g12e {g : Nat} {w x : Int} (hC : ∀ i, ax_at j i = C[i]?) (h : C[i]? = some (12, 0, g, w)) (kt : x = 0 → ax_G L X S d j g ll st M P) (kf : ¬ (x = 0) → ax_G L X S d j (i + 1) ll st M P) : ax_G L X S d j i ll ((0, x) :: st) M P := g12 hC h (fun q => kt (of_decide_eq_true q)) (fun q => kf (of_decide_eq_false q))
theorem g13e {g : Nat} {w x y : Int} (hC : ∀ i, ax_at j i = C[i]?) (h : C[i]? = some (13, 0, g, w)) (kt : x = y → ax_G L X S d j g ll st M P) (kf : ¬ (x = y) → ax_G L X S d j (i + 1) ll st M P) : ax_G L X S d j i ll ((0, y) :: (0, x) :: st) M P := g13 hC h (fun q => kt (of_decide_eq_true q)) (fun q => kf (of_decide_eq_false q))
theorem g12n {g : Nat} {w x : Int} (hC : ∀ i, ax_at j i = C[i]?) (h : C[i]? = some (12, 1, g, w)) (kt : ¬ x = 0 → ax_G L X S d j g ll st M P) (kf : ¬ (¬ x = 0) → ax_G L X S d j (i + 1) ll st M P) : ax_G L X S d j i ll ((0, x) :: st) M P := g12 hC h (fun q => kt (of_decide_eq_true q)) (fun q => kf (of_decide_eq_false q))
theorem g13n {g : Nat} {w x y : Int} (hC : ∀ i, ax_at j i = C[i]?) (h : C[i]? = some (13, 1, g, w)) (kt : ¬ x = y → ax_G L X S d j g ll st M P) (kf : ¬ (¬ x = y) → ax_G L X S d j (i + 1) ll st M P) : ax_G L X S d j i ll ((0, y) :: (0, x) :: st) M P := g13 hC h (fun q => kt (of_decide_eq_true q)) (fun q => kf (of_decide_eq_false q))
theorem g12l {g : Nat} {w x : Int} (hC : ∀ i, ax_at j i = C[i]?) (h : C[i]? = some (12, 2, g, w)) (kt : x < 0 → ax_G L X S d j g ll st M P) (kf : ¬ (x < 0) → ax_G L X S d j (i + 1) ll st M P) : ax_G L X S d j i ll ((0, x) :: st) M P := g12 hC h (fun q => kt (of_decide_eq_true q)) (fun q => kf (of_decide_eq_false q))
theorem g13l {g : Nat} {w x y : Int} (hC : ∀ i, ax_at j i = C[i]?) (h : C[i]? = some (13, 2, g, w)) (kt : x < y → ax_G L X S d j g ll st M P) (kf : ¬ (x < y) → ax_G L X S d j (i + 1) ll st M P) : ax_G L X S d j i ll ((0, y) :: (0, x) :: st) M P := g13 hC h (fun q => kt (of_decide_eq_true q)) (fun q => kf (of_decide_eq_false q))
theorem g12g {g : Nat} {w x : Int} (hC : ∀ i, ax_at j i = C[i]?) (h : C[i]? = some (12, 3, g, w)) (kt : 0 ≤ x → ax_G L X S d j g ll st M P) (kf : ¬ (0 ≤ x) → ax_G L X S d j (i + 1) ll st M P) : ax_G L X S d j i ll ((0, x) :: st) M P := g12 hC h (fun q => kt (of_decide_eq_true q)) (fun q => kf (of_decide_eq_false q))
theorem g13g {g : Nat} {w x y : Int} (hC : ∀ i, ax_at j i = C[i]?) (h : C[i]? = some (13, 3, g, w)) (kt : y ≤ x → ax_G L X S d j g ll st M P) (kf : ¬ (y ≤ x) → ax_G L X S d j (i + 1) ll st M P) : ax_G L X S d j i ll ((0, y) :: (0, x) :: st) M P := g13 hC h (fun q => kt (of_decide_eq_true q)) (fun q => kf (of_decide_eq_false q))
theorem g12t {g : Nat} {w x : Int} (hC : ∀ i, ax_at j i = C[i]?) (h : C[i]? = some (12, 4, g, w)) (kt : 0 < x → ax_G L X S d j g ll st M P) (kf : ¬ (0 < x) → ax_G L X S d j (i + 1) ll st M P) : ax_G L X S d j i ll ((0, x) :: st) M P := g12 hC h (fun q => kt (of_decide_eq_true q)) (fun q => kf (of_decide_eq_false q))
theorem g13t {g : Nat} {w x y : Int} (hC : ∀ i, ax_at j i = C[i]?) (h : C[i]? = some (13, 4, g, w)) (kt : y < x → ax_G L X S d j g ll st M P) (kf : ¬ (y < x) → ax_G L X S d j (i + 1) ll st M P) : ax_G L X S d j i ll ((0, y) :: (0, x) :: st) M P := g13 hC h (fun q => kt (of_decide_eq_true q)) (fun q => kf (of_decide_eq_false q))
theorem g12s {g : Nat} {w x : Int} (hC : ∀ i, ax_at j i = C[i]?) (h : C[i]? = some (12, 5, g, w)) (kt : x ≤ 0 → ax_G L X S d j g ll st M P) (kf : ¬ (x ≤ 0) → ax_G L X S d j (i + 1) ll st M P) : ax_G L X S d j i ll ((0, x) :: st) M P := g12 hC h (fun q => kt (of_decide_eq_true q)) (fun q => kf (of_decide_eq_false q))
theorem g13s {g : Nat} {w x y : Int} (hC : ∀ i, ax_at j i = C[i]?) (h : C[i]? = some (13, 5, g, w)) (kt : x ≤ y → ax_G L X S d j g ll st M P) (kf : ¬ (x ≤ y) → ax_G L X S d j (i + 1) ll st M P) : ax_G L X S d j i ll ((0, y) :: (0, x) :: st) M P := g13 hC h (fun q => kt (of_decide_eq_true q)) (fun q => kf (of_decide_eq_false q))
end AXB
theorem at0 (i : Nat) : ax_at 0 i = ax_c0[i]? := rfl
theorem at1 (i : Nat) : ax_at 1 i = ax_c1[i]? := rfl
theorem at2 (i : Nat) : ax_at 2 i = ax_c2[i]? := rfl
theorem at3 (i : Nat) : ax_at 3 i = ax_c3[i]? := rfl
theorem at4 (i : Nat) : ax_at 4 i = ax_c4[i]? := rfl
theorem at5 (i : Nat) : ax_at 5 i = ax_c5[i]? := rfl
theorem at6 (i : Nat) : ax_at 6 i = ax_c6[i]? := rfl
theorem at7 (i : Nat) : ax_at 7 i = ax_c7[i]? := rfl
theorem at8 (i : Nat) : ax_at 8 i = ax_c8[i]? := rfl
theorem at9 (i : Nat) : ax_at 9 i = ax_c9[i]? := rfl
theorem at10 (i : Nat) : ax_at 10 i = ax_c10[i]? := rfl
theorem at11 (i : Nat) : ax_at 11 i = ax_c11[i]? := rfl
theorem at12 (i : Nat) : ax_at 12 i = ax_c12[i]? := rfl
theorem at13 (i : Nat) : ax_at 13 i = ax_c13[i]? := rfl
theorem at14 (i : Nat) : ax_at 14 i = ax_c14[i]? := rfl
theorem at15 (i : Nat) : ax_at 15 i = ax_c15[i]? := rfl
theorem at16 (i : Nat) : ax_at 16 i = ax_c16[i]? := rfl
theorem at17 (i : Nat) : ax_at 17 i = ax_c17[i]? := rfl
theorem at18 (i : Nat) : ax_at 18 i = ax_c18[i]? := rfl
theorem at19 (i : Nat) : ax_at 19 i = ax_c19[i]? := rfl
theorem at20 (i : Nat) : ax_at 20 i = ax_c20[i]? := rfl
theorem at21 (i : Nat) : ax_at 21 i = ax_c21[i]? := rfl
theorem at22 (i : Nat) : ax_at 22 i = ax_c22[i]? := rfl
theorem at23 (i : Nat) : ax_at 23 i = ax_c23[i]? := rfl
theorem at24 (i : Nat) : ax_at 24 i = ax_c24[i]? := rfl
theorem at25 (i : Nat) : ax_at 25 i = ax_c25[i]? := rfl
theorem at26 (i : Nat) : ax_at 26 i = ax_c26[i]? := rfl
theorem at27 (i : Nat) : ax_at 27 i = ax_c27[i]? := rfl
theorem at28 (i : Nat) : ax_at 28 i = ax_c28[i]? := rfl
theorem at29 (i : Nat) : ax_at 29 i = ax_c29[i]? := rfl
theorem at30 (i : Nat) : ax_at 30 i = ax_c30[i]? := rfl
theorem at31 (i : Nat) : ax_at 31 i = ax_c31[i]? := rfl
theorem at32 (i : Nat) : ax_at 32 i = ax_c32[i]? := rfl
theorem at33 (i : Nat) : ax_at 33 i = ax_c33[i]? := rfl
theorem at34 (i : Nat) : ax_at 34 i = ax_c34[i]? := rfl
theorem at35 (i : Nat) : ax_at 35 i = ax_c35[i]? := rfl
theorem at36 (i : Nat) : ax_at 36 i = ax_c36[i]? := rfl
theorem at37 (i : Nat) : ax_at 37 i = ax_c37[i]? := rfl
theorem at38 (i : Nat) : ax_at 38 i = ax_c38[i]? := rfl
theorem at39 (i : Nat) : ax_at 39 i = ax_c39[i]? := rfl
theorem at40 (i : Nat) : ax_at 40 i = ax_c40[i]? := rfl
theorem at41 (i : Nat) : ax_at 41 i = ax_c41[i]? := rfl
theorem at42 (i : Nat) : ax_at 42 i = ax_c42[i]? := rfl
theorem at43 (i : Nat) : ax_at 43 i = ax_c43[i]? := rfl
theorem at44 (i : Nat) : ax_at 44 i = ax_c44[i]? := rfl
theorem at45 (i : Nat) : ax_at 45 i = ax_c45[i]? := rfl
theorem at46 (i : Nat) : ax_at 46 i = ax_c46[i]? := rfl
theorem at47 (i : Nat) : ax_at 47 i = ax_c47[i]? := rfl
theorem at48 (i : Nat) : ax_at 48 i = ax_c48[i]? := rfl
theorem at49 (i : Nat) : ax_at 49 i = ax_c49[i]? := rfl
theorem at50 (i : Nat) : ax_at 50 i = ax_c50[i]? := rfl
theorem at51 (i : Nat) : ax_at 51 i = ax_c51[i]? := rfl
theorem at52 (i : Nat) : ax_at 52 i = ax_c52[i]? := rfl
theorem at53 (i : Nat) : ax_at 53 i = ax_c53[i]? := rfl
theorem at54 (i : Nat) : ax_at 54 i = ax_c54[i]? := rfl
theorem at55 (i : Nat) : ax_at 55 i = ax_c55[i]? := rfl
theorem at56 (i : Nat) : ax_at 56 i = ax_c56[i]? := rfl
theorem at57 (i : Nat) : ax_at 57 i = ax_c57[i]? := rfl
theorem at58 (i : Nat) : ax_at 58 i = ax_c58[i]? := rfl
theorem at59 (i : Nat) : ax_at 59 i = ax_c59[i]? := rfl
theorem at60 (i : Nat) : ax_at 60 i = ax_c60[i]? := rfl
theorem at61 (i : Nat) : ax_at 61 i = ax_c61[i]? := rfl
theorem at62 (i : Nat) : ax_at 62 i = ax_c62[i]? := rfl
theorem at63 (i : Nat) : ax_at 63 i = ax_c63[i]? := rfl
theorem at64 (i : Nat) : ax_at 64 i = ax_c64[i]? := rfl
theorem at65 (i : Nat) : ax_at 65 i = ax_c65[i]? := rfl
theorem at66 (i : Nat) : ax_at 66 i = ax_c66[i]? := rfl
theorem at67 (i : Nat) : ax_at 67 i = ax_c67[i]? := rfl
theorem at68 (i : Nat) : ax_at 68 i = ax_c68[i]? := rfl
theorem at69 (i : Nat) : ax_at 69 i = ax_c69[i]? := rfl
theorem at70 (i : Nat) : ax_at 70 i = ax_c70[i]? := rfl
theorem at71 (i : Nat) : ax_at 71 i = ax_c71[i]? := rfl
theorem at72 (i : Nat) : ax_at 72 i = ax_c72[i]? := rfl
theorem at73 (i : Nat) : ax_at 73 i = ax_c73[i]? := rfl
theorem at74 (i : Nat) : ax_at 74 i = ax_c74[i]? := rfl
theorem at75 (i : Nat) : ax_at 75 i = ax_c75[i]? := rfl
theorem at76 (i : Nat) : ax_at 76 i = ax_c76[i]? := rfl
theorem at77 (i : Nat) : ax_at 77 i = ax_c77[i]? := rfl
theorem at78 (i : Nat) : ax_at 78 i = ax_c78[i]? := rfl
theorem at79 (i : Nat) : ax_at 79 i = ax_c79[i]? := rfl
theorem at80 (i : Nat) : ax_at 80 i = ax_c80[i]? := rfl
theorem at81 (i : Nat) : ax_at 81 i = ax_c81[i]? := rfl
theorem at82 (i : Nat) : ax_at 82 i = ax_c82[i]? := rfl
theorem at83 (i : Nat) : ax_at 83 i = ax_c83[i]? := rfl
theorem at84 (i : Nat) : ax_at 84 i = ax_c84[i]? := rfl
theorem at85 (i : Nat) : ax_at 85 i = ax_c85[i]? := rfl
theorem at86 (i : Nat) : ax_at 86 i = ax_c86[i]? := rfl
theorem at87 (i : Nat) : ax_at 87 i = ax_c87[i]? := rfl
theorem at88 (i : Nat) : ax_at 88 i = ax_c88[i]? := rfl
theorem at89 (i : Nat) : ax_at 89 i = ax_c89[i]? := rfl
theorem at90 (i : Nat) : ax_at 90 i = ax_c90[i]? := rfl
theorem at91 (i : Nat) : ax_at 91 i = ax_c91[i]? := rfl
theorem at92 (i : Nat) : ax_at 92 i = ax_c92[i]? := rfl
theorem at93 (i : Nat) : ax_at 93 i = ax_c93[i]? := rfl
theorem at94 (i : Nat) : ax_at 94 i = ax_c94[i]? := rfl
theorem at95 (i : Nat) : ax_at 95 i = ax_c95[i]? := rfl
theorem at96 (i : Nat) : ax_at 96 i = ax_c96[i]? := rfl
theorem at97 (i : Nat) : ax_at 97 i = ax_c97[i]? := rfl
theorem at98 (i : Nat) : ax_at 98 i = ax_c98[i]? := rfl
theorem at99 (i : Nat) : ax_at 99 i = ax_c99[i]? := rfl
theorem at100 (i : Nat) : ax_at 100 i = ax_c100[i]? := rfl
theorem at101 (i : Nat) : ax_at 101 i = ax_c101[i]? := rfl
theorem at102 (i : Nat) : ax_at 102 i = ax_c102[i]? := rfl
theorem at103 (i : Nat) : ax_at 103 i = ax_c103[i]? := rfl
theorem at104 (i : Nat) : ax_at 104 i = ax_c104[i]? := rfl
theorem at105 (i : Nat) : ax_at 105 i = ax_c105[i]? := rfl
theorem at106 (i : Nat) : ax_at 106 i = ax_c106[i]? := rfl
theorem at107 (i : Nat) : ax_at 107 i = ax_c107[i]? := rfl
theorem at108 (i : Nat) : ax_at 108 i = ax_c108[i]? := rfl
theorem at109 (i : Nat) : ax_at 109 i = ax_c109[i]? := rfl
theorem at110 (i : Nat) : ax_at 110 i = ax_c110[i]? := rfl
theorem at111 (i : Nat) : ax_at 111 i = ax_c111[i]? := rfl
theorem at112 (i : Nat) : ax_at 112 i = ax_c112[i]? := rfl
theorem at113 (i : Nat) : ax_at 113 i = ax_c113[i]? := rfl
theorem at114 (i : Nat) : ax_at 114 i = ax_c114[i]? := rfl
theorem at115 (i : Nat) : ax_at 115 i = ax_c115[i]? := rfl
theorem at116 (i : Nat) : ax_at 116 i = ax_c116[i]? := rfl
theorem at117 (i : Nat) : ax_at 117 i = ax_c117[i]? := rfl
theorem at118 (i : Nat) : ax_at 118 i = ax_c118[i]? := rfl
theorem at119 (i : Nat) : ax_at 119 i = ax_c119[i]? := rfl
theorem at120 (i : Nat) : ax_at 120 i = ax_c120[i]? := rfl
theorem at121 (i : Nat) : ax_at 121 i = ax_c121[i]? := rfl
theorem at122 (i : Nat) : ax_at 122 i = ax_c122[i]? := rfl
theorem at123 (i : Nat) : ax_at 123 i = ax_c123[i]? := rfl
theorem at124 (i : Nat) : ax_at 124 i = ax_c124[i]? := rfl
theorem at125 (i : Nat) : ax_at 125 i = ax_c125[i]? := rfl
theorem at126 (i : Nat) : ax_at 126 i = ax_c126[i]? := rfl
theorem at127 (i : Nat) : ax_at 127 i = ax_c127[i]? := rfl
theorem at128 (i : Nat) : ax_at 128 i = ax_c128[i]? := rfl
theorem at129 (i : Nat) : ax_at 129 i = ax_c129[i]? := rfl
theorem at130 (i : Nat) : ax_at 130 i = ax_c130[i]? := rfl
theorem at131 (i : Nat) : ax_at 131 i = ax_c131[i]? := rfl
theorem at132 (i : Nat) : ax_at 132 i = ax_c132[i]? := rfl
theorem at133 (i : Nat) : ax_at 133 i = ax_c133[i]? := rfl
theorem at134 (i : Nat) : ax_at 134 i = ax_c134[i]? := rfl
theorem at135 (i : Nat) : ax_at 135 i = ax_c135[i]? := rfl
theorem at136 (i : Nat) : ax_at 136 i = ax_c136[i]? := rfl
theorem at137 (i : Nat) : ax_at 137 i = ax_c137[i]? := rfl
theorem at138 (i : Nat) : ax_at 138 i = ax_c138[i]? := rfl
theorem at139 (i : Nat) : ax_at 139 i = ax_c139[i]? := rfl
theorem at140 (i : Nat) : ax_at 140 i = ax_c140[i]? := rfl
theorem at141 (i : Nat) : ax_at 141 i = ax_c141[i]? := rfl
theorem at142 (i : Nat) : ax_at 142 i = ax_c142[i]? := rfl
theorem at143 (i : Nat) : ax_at 143 i = ax_c143[i]? := rfl
theorem at144 (i : Nat) : ax_at 144 i = ax_c144[i]? := rfl
theorem at145 (i : Nat) : ax_at 145 i = ax_c145[i]? := rfl
theorem at146 (i : Nat) : ax_at 146 i = ax_c146[i]? := rfl
theorem at147 (i : Nat) : ax_at 147 i = ax_c147[i]? := rfl
theorem at148 (i : Nat) : ax_at 148 i = ax_c148[i]? := rfl
theorem at149 (i : Nat) : ax_at 149 i = ax_c149[i]? := rfl
theorem at150 (i : Nat) : ax_at 150 i = ax_c150[i]? := rfl
theorem at151 (i : Nat) : ax_at 151 i = ax_c151[i]? := rfl
theorem at152 (i : Nat) : ax_at 152 i = ax_c152[i]? := rfl
theorem at153 (i : Nat) : ax_at 153 i = ax_c153[i]? := rfl
theorem at154 (i : Nat) : ax_at 154 i = ax_c154[i]? := rfl
theorem at155 (i : Nat) : ax_at 155 i = ax_c155[i]? := rfl
theorem at156 (i : Nat) : ax_at 156 i = ax_c156[i]? := rfl
theorem at157 (i : Nat) : ax_at 157 i = ax_c157[i]? := rfl
theorem at158 (i : Nat) : ax_at 158 i = ax_c158[i]? := rfl
theorem at159 (i : Nat) : ax_at 159 i = ax_c159[i]? := rfl
theorem at160 (i : Nat) : ax_at 160 i = ax_c160[i]? := rfl
theorem at161 (i : Nat) : ax_at 161 i = ax_c161[i]? := rfl
theorem at162 (i : Nat) : ax_at 162 i = ax_c162[i]? := rfl
theorem at163 (i : Nat) : ax_at 163 i = ax_c163[i]? := rfl
theorem at164 (i : Nat) : ax_at 164 i = ax_c164[i]? := rfl
theorem at165 (i : Nat) : ax_at 165 i = ax_c165[i]? := rfl
theorem at166 (i : Nat) : ax_at 166 i = ax_c166[i]? := rfl
theorem at167 (i : Nat) : ax_at 167 i = ax_c167[i]? := rfl
theorem at168 (i : Nat) : ax_at 168 i = ax_c168[i]? := rfl
theorem at169 (i : Nat) : ax_at 169 i = ax_c169[i]? := rfl
theorem at170 (i : Nat) : ax_at 170 i = ax_c170[i]? := rfl
theorem at171 (i : Nat) : ax_at 171 i = ax_c171[i]? := rfl
theorem at172 (i : Nat) : ax_at 172 i = ax_c172[i]? := rfl
theorem at173 (i : Nat) : ax_at 173 i = ax_c173[i]? := rfl
theorem at174 (i : Nat) : ax_at 174 i = ax_c174[i]? := rfl
theorem at175 (i : Nat) : ax_at 175 i = ax_c175[i]? := rfl
theorem at176 (i : Nat) : ax_at 176 i = ax_c176[i]? := rfl
theorem at177 (i : Nat) : ax_at 177 i = ax_c177[i]? := rfl
theorem at178 (i : Nat) : ax_at 178 i = ax_c178[i]? := rfl
theorem at179 (i : Nat) : ax_at 179 i = ax_c179[i]? := rfl
theorem at180 (i : Nat) : ax_at 180 i = ax_c180[i]? := rfl
theorem at181 (i : Nat) : ax_at 181 i = ax_c181[i]? := rfl
theorem at182 (i : Nat) : ax_at 182 i = ax_c182[i]? := rfl
theorem at183 (i : Nat) : ax_at 183 i = ax_c183[i]? := rfl
theorem at184 (i : Nat) : ax_at 184 i = ax_c184[i]? := rfl
theorem at185 (i : Nat) : ax_at 185 i = ax_c185[i]? := rfl
theorem at186 (i : Nat) : ax_at 186 i = ax_c186[i]? := rfl
theorem at187 (i : Nat) : ax_at 187 i = ax_c187[i]? := rfl
theorem at188 (i : Nat) : ax_at 188 i = ax_c188[i]? := rfl
theorem at189 (i : Nat) : ax_at 189 i = ax_c189[i]? := rfl
theorem at190 (i : Nat) : ax_at 190 i = ax_c190[i]? := rfl
theorem at191 (i : Nat) : ax_at 191 i = ax_c191[i]? := rfl
theorem at192 (i : Nat) : ax_at 192 i = ax_c192[i]? := rfl
theorem at193 (i : Nat) : ax_at 193 i = ax_c193[i]? := rfl
theorem at194 (i : Nat) : ax_at 194 i = ax_c194[i]? := rfl
theorem at195 (i : Nat) : ax_at 195 i = ax_c195[i]? := rfl
theorem at196 (i : Nat) : ax_at 196 i = ax_c196[i]? := rfl
theorem at197 (i : Nat) : ax_at 197 i = ax_c197[i]? := rfl
theorem at198 (i : Nat) : ax_at 198 i = ax_c198[i]? := rfl
theorem at199 (i : Nat) : ax_at 199 i = ax_c199[i]? := rfl
theorem at200 (i : Nat) : ax_at 200 i = ax_c200[i]? := rfl
theorem at201 (i : Nat) : ax_at 201 i = ax_c201[i]? := rfl
theorem at202 (i : Nat) : ax_at 202 i = ax_c202[i]? := rfl
theorem at203 (i : Nat) : ax_at 203 i = ax_c203[i]? := rfl
theorem at204 (i : Nat) : ax_at 204 i = ax_c204[i]? := rfl
theorem at205 (i : Nat) : ax_at 205 i = ax_c205[i]? := rfl
theorem at206 (i : Nat) : ax_at 206 i = ax_c206[i]? := rfl
theorem at207 (i : Nat) : ax_at 207 i = ax_c207[i]? := rfl
theorem at208 (i : Nat) : ax_at 208 i = ax_c208[i]? := rfl
theorem at209 (i : Nat) : ax_at 209 i = ax_c209[i]? := rfl
theorem at210 (i : Nat) : ax_at 210 i = ax_c210[i]? := rfl
theorem at211 (i : Nat) : ax_at 211 i = ax_c211[i]? := rfl
theorem at212 (i : Nat) : ax_at 212 i = ax_c212[i]? := rfl
theorem at213 (i : Nat) : ax_at 213 i = ax_c213[i]? := rfl
theorem at214 (i : Nat) : ax_at 214 i = ax_c214[i]? := rfl
theorem at215 (i : Nat) : ax_at 215 i = ax_c215[i]? := rfl
theorem at216 (i : Nat) : ax_at 216 i = ax_c216[i]? := rfl
theorem at217 (i : Nat) : ax_at 217 i = ax_c217[i]? := rfl
theorem at218 (i : Nat) : ax_at 218 i = ax_c218[i]? := rfl
theorem at219 (i : Nat) : ax_at 219 i = ax_c219[i]? := rfl
theorem at220 (i : Nat) : ax_at 220 i = ax_c220[i]? := rfl
theorem at221 (i : Nat) : ax_at 221 i = ax_c221[i]? := rfl
theorem at222 (i : Nat) : ax_at 222 i = ax_c222[i]? := rfl
theorem at223 (i : Nat) : ax_at 223 i = ax_c223[i]? := rfl
theorem at224 (i : Nat) : ax_at 224 i = ax_c224[i]? := rfl
theorem at225 (i : Nat) : ax_at 225 i = ax_c225[i]? := rfl
theorem at226 (i : Nat) : ax_at 226 i = ax_c226[i]? := rfl
theorem at227 (i : Nat) : ax_at 227 i = ax_c227[i]? := rfl
theorem at228 (i : Nat) : ax_at 228 i = ax_c228[i]? := rfl
theorem at229 (i : Nat) : ax_at 229 i = ax_c229[i]? := rfl
theorem at230 (i : Nat) : ax_at 230 i = ax_c230[i]? := rfl
theorem at231 (i : Nat) : ax_at 231 i = ax_c231[i]? := rfl
theorem at232 (i : Nat) : ax_at 232 i = ax_c232[i]? := rfl
theorem at233 (i : Nat) : ax_at 233 i = ax_c233[i]? := rfl
theorem at234 (i : Nat) : ax_at 234 i = ax_c234[i]? := rfl
theorem at235 (i : Nat) : ax_at 235 i = ax_c235[i]? := rfl
theorem at236 (i : Nat) : ax_at 236 i = ax_c236[i]? := rfl
theorem at237 (i : Nat) : ax_at 237 i = ax_c237[i]? := rfl
theorem at238 (i : Nat) : ax_at 238 i = ax_c238[i]? := rfl
theorem at239 (i : Nat) : ax_at 239 i = ax_c239[i]? := rfl
theorem at240 (i : Nat) : ax_at 240 i = ax_c240[i]? := rfl
theorem at241 (i : Nat) : ax_at 241 i = ax_c241[i]? := rfl
theorem at242 (i : Nat) : ax_at 242 i = ax_c242[i]? := rfl
theorem at243 (i : Nat) : ax_at 243 i = ax_c243[i]? := rfl
theorem at244 (i : Nat) : ax_at 244 i = ax_c244[i]? := rfl
theorem at245 (i : Nat) : ax_at 245 i = ax_c245[i]? := rfl
theorem at246 (i : Nat) : ax_at 246 i = ax_c246[i]? := rfl
theorem at247 (i : Nat) : ax_at 247 i = ax_c247[i]? := rfl
theorem at248 (i : Nat) : ax_at 248 i = ax_c248[i]? := rfl
theorem at249 (i : Nat) : ax_at 249 i = ax_c249[i]? := rfl
theorem at250 (i : Nat) : ax_at 250 i = ax_c250[i]? := rfl
theorem at251 (i : Nat) : ax_at 251 i = ax_c251[i]? := rfl
theorem at252 (i : Nat) : ax_at 252 i = ax_c252[i]? := rfl
theorem at253 (i : Nat) : ax_at 253 i = ax_c253[i]? := rfl
theorem at254 (i : Nat) : ax_at 254 i = ax_c254[i]? := rfl
theorem at255 (i : Nat) : ax_at 255 i = ax_c255[i]? := rfl
theorem at256 (i : Nat) : ax_at 256 i = ax_c256[i]? := rfl
theorem at257 (i : Nat) : ax_at 257 i = ax_c257[i]? := rfl
theorem at258 (i : Nat) : ax_at 258 i = ax_c258[i]? := rfl
theorem at259 (i : Nat) : ax_at 259 i = ax_c259[i]? := rfl
theorem at260 (i : Nat) : ax_at 260 i = ax_c260[i]? := rfl
theorem at261 (i : Nat) : ax_at 261 i = ax_c261[i]? := rfl
theorem at262 (i : Nat) : ax_at 262 i = ax_c262[i]? := rfl
theorem at263 (i : Nat) : ax_at 263 i = ax_c263[i]? := rfl
theorem at264 (i : Nat) : ax_at 264 i = ax_c264[i]? := rfl
theorem at265 (i : Nat) : ax_at 265 i = ax_c265[i]? := rfl
theorem at266 (i : Nat) : ax_at 266 i = ax_c266[i]? := rfl
theorem at267 (i : Nat) : ax_at 267 i = ax_c267[i]? := rfl
theorem at268 (i : Nat) : ax_at 268 i = ax_c268[i]? := rfl
theorem at269 (i : Nat) : ax_at 269 i = ax_c269[i]? := rfl
theorem at270 (i : Nat) : ax_at 270 i = ax_c270[i]? := rfl
theorem at271 (i : Nat) : ax_at 271 i = ax_c271[i]? := rfl
theorem at272 (i : Nat) : ax_at 272 i = ax_c272[i]? := rfl
theorem at273 (i : Nat) : ax_at 273 i = ax_c273[i]? := rfl
theorem at274 (i : Nat) : ax_at 274 i = ax_c274[i]? := rfl
theorem at275 (i : Nat) : ax_at 275 i = ax_c275[i]? := rfl
theorem at276 (i : Nat) : ax_at 276 i = ax_c276[i]? := rfl
theorem at277 (i : Nat) : ax_at 277 i = ax_c277[i]? := rfl
theorem at278 (i : Nat) : ax_at 278 i = ax_c278[i]? := rfl
theorem at279 (i : Nat) : ax_at 279 i = ax_c279[i]? := rfl
theorem at280 (i : Nat) : ax_at 280 i = ax_c280[i]? := rfl
theorem at281 (i : Nat) : ax_at 281 i = ax_c281[i]? := rfl
theorem at282 (i : Nat) : ax_at 282 i = ax_c282[i]? := rfl
theorem at283 (i : Nat) : ax_at 283 i = ax_c283[i]? := rfl
theorem at284 (i : Nat) : ax_at 284 i = ax_c284[i]? := rfl
theorem at285 (i : Nat) : ax_at 285 i = ax_c285[i]? := rfl
theorem at286 (i : Nat) : ax_at 286 i = ax_c286[i]? := rfl
theorem at287 (i : Nat) : ax_at 287 i = ax_c287[i]? := rfl
theorem at288 (i : Nat) : ax_at 288 i = ax_c288[i]? := rfl
theorem at289 (i : Nat) : ax_at 289 i = ax_c289[i]? := rfl
theorem at290 (i : Nat) : ax_at 290 i = ax_c290[i]? := rfl
theorem at291 (i : Nat) : ax_at 291 i = ax_c291[i]? := rfl
theorem at292 (i : Nat) : ax_at 292 i = ax_c292[i]? := rfl
theorem at293 (i : Nat) : ax_at 293 i = ax_c293[i]? := rfl
theorem at294 (i : Nat) : ax_at 294 i = ax_c294[i]? := rfl
theorem at295 (i : Nat) : ax_at 295 i = ax_c295[i]? := rfl
theorem at296 (i : Nat) : ax_at 296 i = ax_c296[i]? := rfl
theorem at297 (i : Nat) : ax_at 297 i = ax_c297[i]? := rfl
theorem at298 (i : Nat) : ax_at 298 i = ax_c298[i]? := rfl
theorem at299 (i : Nat) : ax_at 299 i = ax_c299[i]? := rfl
theorem at300 (i : Nat) : ax_at 300 i = ax_c300[i]? := rfl
theorem at301 (i : Nat) : ax_at 301 i = ax_c301[i]? := rfl
theorem at302 (i : Nat) : ax_at 302 i = ax_c302[i]? := rfl
theorem at303 (i : Nat) : ax_at 303 i = ax_c303[i]? := rfl
theorem at304 (i : Nat) : ax_at 304 i = ax_c304[i]? := rfl
theorem at305 (i : Nat) : ax_at 305 i = ax_c305[i]? := rfl
theorem at306 (i : Nat) : ax_at 306 i = ax_c306[i]? := rfl
theorem at307 (i : Nat) : ax_at 307 i = ax_c307[i]? := rfl
theorem at308 (i : Nat) : ax_at 308 i = ax_c308[i]? := rfl
theorem at309 (i : Nat) : ax_at 309 i = ax_c309[i]? := rfl
theorem at310 (i : Nat) : ax_at 310 i = ax_c310[i]? := rfl
theorem at311 (i : Nat) : ax_at 311 i = ax_c311[i]? := rfl
theorem at312 (i : Nat) : ax_at 312 i = ax_c312[i]? := rfl
theorem at313 (i : Nat) : ax_at 313 i = ax_c313[i]? := rfl
theorem at314 (i : Nat) : ax_at 314 i = ax_c314[i]? := rfl
theorem at315 (i : Nat) : ax_at 315 i = ax_c315[i]? := rfl
end
section
section AXL
variable {L : Nat} {X : Nat → Int} {S : List ax_H} {d j i : Nat} {ll st : List ax_V} {M : ax_M} {P : List ax_V → ax_M → Prop} {C : List ax_O}
theorem s0 {r : List ax_V} {u : ax_V} {t : Nat} {w x : Int} (hC : ∀ i, ax_at j i = C[i]?) (h : C[i]? = some (4, t, 0, w)) (ht : (t == 1) = false) (k : ax_G L X S d j (i + 1) ((t, x) :: r) st M P) : ax_G L X S d j i (u :: r) ((t, x) :: st) M P := by
  have ht1 : ¬ t = 1 := by intro e; rw [e] at ht; cases ht
  refine g4 hC h ?_ ?_ k
  · rw [if_neg ht1]; simp only [List.length_cons]; omega
  · unfold ax_set; dsimp only; rw [if_neg ht1]; rfl
theorem sl0 {r : List ax_V} {u u2 : ax_V} {w x : Int} (hC : ∀ i, ax_at j i = C[i]?) (h : C[i]? = some (4, 1, 0, w)) (k : ax_G L X S d j (i + 1) ((1, x) :: (3, 0) :: r) st M P) : ax_G L X S d j i (u :: u2 :: r) ((1, x) :: st) M P := by
  refine g4 hC h ?_ ?_ k
  · rw [if_pos rfl]; simp only [List.length_cons]; omega
  · unfold ax_set; dsimp only; rw [if_pos rfl]; rfl
theorem n0 {r : List ax_V} {b : Nat} {w x : Int} (hC : ∀ i, ax_at j i = C[i]?) (h : C[i]? = some (5, 0, b, w)) (hi : ax_i (x + w)) (k : ax_G L X S d j (i + 1) ((0, x + w) :: r) st M P) : ax_G L X S d j i ((0, x) :: r) st M P := by
  refine g5 hC h (x := x) rfl hi ?_ k
  unfold ax_set; dsimp only; rw [if_neg (by decide)]; rfl
theorem s1 {l0 : ax_V} {r : List ax_V} {u : ax_V} {t : Nat} {w x : Int} (hC : ∀ i, ax_at j i = C[i]?) (h : C[i]? = some (4, t, 1, w)) (ht : (t == 1) = false) (hp : (l0.1 == 1) = false) (k : ax_G L X S d j (i + 1) (l0 :: (t, x) :: r) st M P) : ax_G L X S d j i (l0 :: u :: r) ((t, x) :: st) M P := by
  have ht1 : ¬ t = 1 := by intro e; rw [e] at ht; cases ht
  refine g4 hC h ?_ ?_ k
  · rw [if_neg ht1]; simp only [List.length_cons]; omega
  · obtain ⟨p1, p2⟩ := l0
    have hp1 : ¬ p1 = 1 := by intro e; rw [e] at hp; cases hp
    have e : ∀ (q : Option ax_V) (y : List ax_V), q = some (p1, p2) → (match q with | some (1, _) => y.set 0 (3, 0) | _ => y) = y := by
      intro q y hq; subst hq
      split
      · rename_i e; injection e with e; injection e with e1 e2; exact absurd e1 hp1
      · rfl
    unfold ax_set; dsimp only; rw [if_neg ht1]; exact e _ _ rfl
theorem sl1 {l0 : ax_V} {r : List ax_V} {u u2 : ax_V} {w x : Int} (hC : ∀ i, ax_at j i = C[i]?) (h : C[i]? = some (4, 1, 1, w)) (hp : (l0.1 == 1) = false) (k : ax_G L X S d j (i + 1) (l0 :: (1, x) :: (3, 0) :: r) st M P) : ax_G L X S d j i (l0 :: u :: u2 :: r) ((1, x) :: st) M P := by
  refine g4 hC h ?_ ?_ k
  · rw [if_pos rfl]; simp only [List.length_cons]; omega
  · obtain ⟨p1, p2⟩ := l0
    have hp1 : ¬ p1 = 1 := by intro e; rw [e] at hp; cases hp
    have e : ∀ (q : Option ax_V) (y : List ax_V), q = some (p1, p2) → (match q with | some (1, _) => y.set 0 (3, 0) | _ => y) = y := by
      intro q y hq; subst hq
      split
      · rename_i e; injection e with e; injection e with e1 e2; exact absurd e1 hp1
      · rfl
    unfold ax_set; dsimp only; rw [if_pos rfl]; exact e _ _ rfl
theorem n1 {l0 : ax_V} {r : List ax_V} {b : Nat} {w x : Int} (hC : ∀ i, ax_at j i = C[i]?) (h : C[i]? = some (5, 1, b, w)) (hp : (l0.1 == 1) = false) (hi : ax_i (x + w)) (k : ax_G L X S d j (i + 1) (l0 :: (0, x + w) :: r) st M P) : ax_G L X S d j i (l0 :: (0, x) :: r) st M P := by
  refine g5 hC h (x := x) rfl hi ?_ k
  obtain ⟨p1, p2⟩ := l0
  have hp1 : ¬ p1 = 1 := by intro e; rw [e] at hp; cases hp
  have e : ∀ (q : Option ax_V) (y : List ax_V), q = some (p1, p2) → (match q with | some (1, _) => y.set 0 (3, 0) | _ => y) = y := by
    intro q y hq; subst hq
    split
    · rename_i e; injection e with e; injection e with e1 e2; exact absurd e1 hp1
    · rfl
  unfold ax_set; dsimp only; rw [if_neg (by decide)]; exact e _ _ rfl
theorem s2 {l0 l1 : ax_V} {r : List ax_V} {u : ax_V} {t : Nat} {w x : Int} (hC : ∀ i, ax_at j i = C[i]?) (h : C[i]? = some (4, t, 2, w)) (ht : (t == 1) = false) (hp : (l1.1 == 1) = false) (k : ax_G L X S d j (i + 1) (l0 :: l1 :: (t, x) :: r) st M P) : ax_G L X S d j i (l0 :: l1 :: u :: r) ((t, x) :: st) M P := by
  have ht1 : ¬ t = 1 := by intro e; rw [e] at ht; cases ht
  refine g4 hC h ?_ ?_ k
  · rw [if_neg ht1]; simp only [List.length_cons]; omega
  · obtain ⟨p1, p2⟩ := l1
    have hp1 : ¬ p1 = 1 := by intro e; rw [e] at hp; cases hp
    have e : ∀ (q : Option ax_V) (y : List ax_V), q = some (p1, p2) → (match q with | some (1, _) => y.set 1 (3, 0) | _ => y) = y := by
      intro q y hq; subst hq
      split
      · rename_i e; injection e with e; injection e with e1 e2; exact absurd e1 hp1
      · rfl
    unfold ax_set; dsimp only; rw [if_neg ht1]; exact e _ _ rfl
theorem sl2 {l0 l1 : ax_V} {r : List ax_V} {u u2 : ax_V} {w x : Int} (hC : ∀ i, ax_at j i = C[i]?) (h : C[i]? = some (4, 1, 2, w)) (hp : (l1.1 == 1) = false) (k : ax_G L X S d j (i + 1) (l0 :: l1 :: (1, x) :: (3, 0) :: r) st M P) : ax_G L X S d j i (l0 :: l1 :: u :: u2 :: r) ((1, x) :: st) M P := by
  refine g4 hC h ?_ ?_ k
  · rw [if_pos rfl]; simp only [List.length_cons]; omega
  · obtain ⟨p1, p2⟩ := l1
    have hp1 : ¬ p1 = 1 := by intro e; rw [e] at hp; cases hp
    have e : ∀ (q : Option ax_V) (y : List ax_V), q = some (p1, p2) → (match q with | some (1, _) => y.set 1 (3, 0) | _ => y) = y := by
      intro q y hq; subst hq
      split
      · rename_i e; injection e with e; injection e with e1 e2; exact absurd e1 hp1
      · rfl
    unfold ax_set; dsimp only; rw [if_pos rfl]; exact e _ _ rfl
theorem n2 {l0 l1 : ax_V} {r : List ax_V} {b : Nat} {w x : Int} (hC : ∀ i, ax_at j i = C[i]?) (h : C[i]? = some (5, 2, b, w)) (hp : (l1.1 == 1) = false) (hi : ax_i (x + w)) (k : ax_G L X S d j (i + 1) (l0 :: l1 :: (0, x + w) :: r) st M P) : ax_G L X S d j i (l0 :: l1 :: (0, x) :: r) st M P := by
  refine g5 hC h (x := x) rfl hi ?_ k
  obtain ⟨p1, p2⟩ := l1
  have hp1 : ¬ p1 = 1 := by intro e; rw [e] at hp; cases hp
  have e : ∀ (q : Option ax_V) (y : List ax_V), q = some (p1, p2) → (match q with | some (1, _) => y.set 1 (3, 0) | _ => y) = y := by
    intro q y hq; subst hq
    split
    · rename_i e; injection e with e; injection e with e1 e2; exact absurd e1 hp1
    · rfl
  unfold ax_set; dsimp only; rw [if_neg (by decide)]; exact e _ _ rfl
theorem s3 {l0 l1 l2 : ax_V} {r : List ax_V} {u : ax_V} {t : Nat} {w x : Int} (hC : ∀ i, ax_at j i = C[i]?) (h : C[i]? = some (4, t, 3, w)) (ht : (t == 1) = false) (hp : (l2.1 == 1) = false) (k : ax_G L X S d j (i + 1) (l0 :: l1 :: l2 :: (t, x) :: r) st M P) : ax_G L X S d j i (l0 :: l1 :: l2 :: u :: r) ((t, x) :: st) M P := by
  have ht1 : ¬ t = 1 := by intro e; rw [e] at ht; cases ht
  refine g4 hC h ?_ ?_ k
  · rw [if_neg ht1]; simp only [List.length_cons]; omega
  · obtain ⟨p1, p2⟩ := l2
    have hp1 : ¬ p1 = 1 := by intro e; rw [e] at hp; cases hp
    have e : ∀ (q : Option ax_V) (y : List ax_V), q = some (p1, p2) → (match q with | some (1, _) => y.set 2 (3, 0) | _ => y) = y := by
      intro q y hq; subst hq
      split
      · rename_i e; injection e with e; injection e with e1 e2; exact absurd e1 hp1
      · rfl
    unfold ax_set; dsimp only; rw [if_neg ht1]; exact e _ _ rfl
theorem sl3 {l0 l1 l2 : ax_V} {r : List ax_V} {u u2 : ax_V} {w x : Int} (hC : ∀ i, ax_at j i = C[i]?) (h : C[i]? = some (4, 1, 3, w)) (hp : (l2.1 == 1) = false) (k : ax_G L X S d j (i + 1) (l0 :: l1 :: l2 :: (1, x) :: (3, 0) :: r) st M P) : ax_G L X S d j i (l0 :: l1 :: l2 :: u :: u2 :: r) ((1, x) :: st) M P := by
  refine g4 hC h ?_ ?_ k
  · rw [if_pos rfl]; simp only [List.length_cons]; omega
  · obtain ⟨p1, p2⟩ := l2
    have hp1 : ¬ p1 = 1 := by intro e; rw [e] at hp; cases hp
    have e : ∀ (q : Option ax_V) (y : List ax_V), q = some (p1, p2) → (match q with | some (1, _) => y.set 2 (3, 0) | _ => y) = y := by
      intro q y hq; subst hq
      split
      · rename_i e; injection e with e; injection e with e1 e2; exact absurd e1 hp1
      · rfl
    unfold ax_set; dsimp only; rw [if_pos rfl]; exact e _ _ rfl
theorem n3 {l0 l1 l2 : ax_V} {r : List ax_V} {b : Nat} {w x : Int} (hC : ∀ i, ax_at j i = C[i]?) (h : C[i]? = some (5, 3, b, w)) (hp : (l2.1 == 1) = false) (hi : ax_i (x + w)) (k : ax_G L X S d j (i + 1) (l0 :: l1 :: l2 :: (0, x + w) :: r) st M P) : ax_G L X S d j i (l0 :: l1 :: l2 :: (0, x) :: r) st M P := by
  refine g5 hC h (x := x) rfl hi ?_ k
  obtain ⟨p1, p2⟩ := l2
  have hp1 : ¬ p1 = 1 := by intro e; rw [e] at hp; cases hp
  have e : ∀ (q : Option ax_V) (y : List ax_V), q = some (p1, p2) → (match q with | some (1, _) => y.set 2 (3, 0) | _ => y) = y := by
    intro q y hq; subst hq
    split
    · rename_i e; injection e with e; injection e with e1 e2; exact absurd e1 hp1
    · rfl
  unfold ax_set; dsimp only; rw [if_neg (by decide)]; exact e _ _ rfl
theorem s4 {l0 l1 l2 l3 : ax_V} {r : List ax_V} {u : ax_V} {t : Nat} {w x : Int} (hC : ∀ i, ax_at j i = C[i]?) (h : C[i]? = some (4, t, 4, w)) (ht : (t == 1) = false) (hp : (l3.1 == 1) = false) (k : ax_G L X S d j (i + 1) (l0 :: l1 :: l2 :: l3 :: (t, x) :: r) st M P) : ax_G L X S d j i (l0 :: l1 :: l2 :: l3 :: u :: r) ((t, x) :: st) M P := by
  have ht1 : ¬ t = 1 := by intro e; rw [e] at ht; cases ht
  refine g4 hC h ?_ ?_ k
  · rw [if_neg ht1]; simp only [List.length_cons]; omega
  · obtain ⟨p1, p2⟩ := l3
    have hp1 : ¬ p1 = 1 := by intro e; rw [e] at hp; cases hp
    have e : ∀ (q : Option ax_V) (y : List ax_V), q = some (p1, p2) → (match q with | some (1, _) => y.set 3 (3, 0) | _ => y) = y := by
      intro q y hq; subst hq
      split
      · rename_i e; injection e with e; injection e with e1 e2; exact absurd e1 hp1
      · rfl
    unfold ax_set; dsimp only; rw [if_neg ht1]; exact e _ _ rfl
theorem sl4 {l0 l1 l2 l3 : ax_V} {r : List ax_V} {u u2 : ax_V} {w x : Int} (hC : ∀ i, ax_at j i = C[i]?) (h : C[i]? = some (4, 1, 4, w)) (hp : (l3.1 == 1) = false) (k : ax_G L X S d j (i + 1) (l0 :: l1 :: l2 :: l3 :: (1, x) :: (3, 0) :: r) st M P) : ax_G L X S d j i (l0 :: l1 :: l2 :: l3 :: u :: u2 :: r) ((1, x) :: st) M P := by
  refine g4 hC h ?_ ?_ k
  · rw [if_pos rfl]; simp only [List.length_cons]; omega
  · obtain ⟨p1, p2⟩ := l3
    have hp1 : ¬ p1 = 1 := by intro e; rw [e] at hp; cases hp
    have e : ∀ (q : Option ax_V) (y : List ax_V), q = some (p1, p2) → (match q with | some (1, _) => y.set 3 (3, 0) | _ => y) = y := by
      intro q y hq; subst hq
      split
      · rename_i e; injection e with e; injection e with e1 e2; exact absurd e1 hp1
      · rfl
    unfold ax_set; dsimp only; rw [if_pos rfl]; exact e _ _ rfl
theorem n4 {l0 l1 l2 l3 : ax_V} {r : List ax_V} {b : Nat} {w x : Int} (hC : ∀ i, ax_at j i = C[i]?) (h : C[i]? = some (5, 4, b, w)) (hp : (l3.1 == 1) = false) (hi : ax_i (x + w)) (k : ax_G L X S d j (i + 1) (l0 :: l1 :: l2 :: l3 :: (0, x + w) :: r) st M P) : ax_G L X S d j i (l0 :: l1 :: l2 :: l3 :: (0, x) :: r) st M P := by
  refine g5 hC h (x := x) rfl hi ?_ k
  obtain ⟨p1, p2⟩ := l3
  have hp1 : ¬ p1 = 1 := by intro e; rw [e] at hp; cases hp
  have e : ∀ (q : Option ax_V) (y : List ax_V), q = some (p1, p2) → (match q with | some (1, _) => y.set 3 (3, 0) | _ => y) = y := by
    intro q y hq; subst hq
    split
    · rename_i e; injection e with e; injection e with e1 e2; exact absurd e1 hp1
    · rfl
  unfold ax_set; dsimp only; rw [if_neg (by decide)]; exact e _ _ rfl
theorem s5 {l0 l1 l2 l3 l4 : ax_V} {r : List ax_V} {u : ax_V} {t : Nat} {w x : Int} (hC : ∀ i, ax_at j i = C[i]?) (h : C[i]? = some (4, t, 5, w)) (ht : (t == 1) = false) (hp : (l4.1 == 1) = false) (k : ax_G L X S d j (i + 1) (l0 :: l1 :: l2 :: l3 :: l4 :: (t, x) :: r) st M P) : ax_G L X S d j i (l0 :: l1 :: l2 :: l3 :: l4 :: u :: r) ((t, x) :: st) M P := by
  have ht1 : ¬ t = 1 := by intro e; rw [e] at ht; cases ht
  refine g4 hC h ?_ ?_ k
  · rw [if_neg ht1]; simp only [List.length_cons]; omega
  · obtain ⟨p1, p2⟩ := l4
    have hp1 : ¬ p1 = 1 := by intro e; rw [e] at hp; cases hp
    have e : ∀ (q : Option ax_V) (y : List ax_V), q = some (p1, p2) → (match q with | some (1, _) => y.set 4 (3, 0) | _ => y) = y := by
      intro q y hq; subst hq
      split
      · rename_i e; injection e with e; injection e with e1 e2; exact absurd e1 hp1
      · rfl
    unfold ax_set; dsimp only; rw [if_neg ht1]; exact e _ _ rfl
theorem sl5 {l0 l1 l2 l3 l4 : ax_V} {r : List ax_V} {u u2 : ax_V} {w x : Int} (hC : ∀ i, ax_at j i = C[i]?) (h : C[i]? = some (4, 1, 5, w)) (hp : (l4.1 == 1) = false) (k : ax_G L X S d j (i + 1) (l0 :: l1 :: l2 :: l3 :: l4 :: (1, x) :: (3, 0) :: r) st M P) : ax_G L X S d j i (l0 :: l1 :: l2 :: l3 :: l4 :: u :: u2 :: r) ((1, x) :: st) M P := by
  refine g4 hC h ?_ ?_ k
  · rw [if_pos rfl]; simp only [List.length_cons]; omega
  · obtain ⟨p1, p2⟩ := l4
    have hp1 : ¬ p1 = 1 := by intro e; rw [e] at hp; cases hp
    have e : ∀ (q : Option ax_V) (y : List ax_V), q = some (p1, p2) → (match q with | some (1, _) => y.set 4 (3, 0) | _ => y) = y := by
      intro q y hq; subst hq
      split
      · rename_i e; injection e with e; injection e with e1 e2; exact absurd e1 hp1
      · rfl
    unfold ax_set; dsimp only; rw [if_pos rfl]; exact e _ _ rfl
theorem n5 {l0 l1 l2 l3 l4 : ax_V} {r : List ax_V} {b : Nat} {w x : Int} (hC : ∀ i, ax_at j i = C[i]?) (h : C[i]? = some (5, 5, b, w)) (hp : (l4.1 == 1) = false) (hi : ax_i (x + w)) (k : ax_G L X S d j (i + 1) (l0 :: l1 :: l2 :: l3 :: l4 :: (0, x + w) :: r) st M P) : ax_G L X S d j i (l0 :: l1 :: l2 :: l3 :: l4 :: (0, x) :: r) st M P := by
  refine g5 hC h (x := x) rfl hi ?_ k
  obtain ⟨p1, p2⟩ := l4
  have hp1 : ¬ p1 = 1 := by intro e; rw [e] at hp; cases hp
  have e : ∀ (q : Option ax_V) (y : List ax_V), q = some (p1, p2) → (match q with | some (1, _) => y.set 4 (3, 0) | _ => y) = y := by
    intro q y hq; subst hq
    split
    · rename_i e; injection e with e; injection e with e1 e2; exact absurd e1 hp1
    · rfl
  unfold ax_set; dsimp only; rw [if_neg (by decide)]; exact e _ _ rfl
theorem s6 {l0 l1 l2 l3 l4 l5 : ax_V} {r : List ax_V} {u : ax_V} {t : Nat} {w x : Int} (hC : ∀ i, ax_at j i = C[i]?) (h : C[i]? = some (4, t, 6, w)) (ht : (t == 1) = false) (hp : (l5.1 == 1) = false) (k : ax_G L X S d j (i + 1) (l0 :: l1 :: l2 :: l3 :: l4 :: l5 :: (t, x) :: r) st M P) : ax_G L X S d j i (l0 :: l1 :: l2 :: l3 :: l4 :: l5 :: u :: r) ((t, x) :: st) M P := by
  have ht1 : ¬ t = 1 := by intro e; rw [e] at ht; cases ht
  refine g4 hC h ?_ ?_ k
  · rw [if_neg ht1]; simp only [List.length_cons]; omega
  · obtain ⟨p1, p2⟩ := l5
    have hp1 : ¬ p1 = 1 := by intro e; rw [e] at hp; cases hp
    have e : ∀ (q : Option ax_V) (y : List ax_V), q = some (p1, p2) → (match q with | some (1, _) => y.set 5 (3, 0) | _ => y) = y := by
      intro q y hq; subst hq
      split
      · rename_i e; injection e with e; injection e with e1 e2; exact absurd e1 hp1
      · rfl
    unfold ax_set; dsimp only; rw [if_neg ht1]; exact e _ _ rfl
theorem sl6 {l0 l1 l2 l3 l4 l5 : ax_V} {r : List ax_V} {u u2 : ax_V} {w x : Int} (hC : ∀ i, ax_at j i = C[i]?) (h : C[i]? = some (4, 1, 6, w)) (hp : (l5.1 == 1) = false) (k : ax_G L X S d j (i + 1) (l0 :: l1 :: l2 :: l3 :: l4 :: l5 :: (1, x) :: (3, 0) :: r) st M P) : ax_G L X S d j i (l0 :: l1 :: l2 :: l3 :: l4 :: l5 :: u :: u2 :: r) ((1, x) :: st) M P := by
  refine g4 hC h ?_ ?_ k
  · rw [if_pos rfl]; simp only [List.length_cons]; omega
  · obtain ⟨p1, p2⟩ := l5
    have hp1 : ¬ p1 = 1 := by intro e; rw [e] at hp; cases hp
    have e : ∀ (q : Option ax_V) (y : List ax_V), q = some (p1, p2) → (match q with | some (1, _) => y.set 5 (3, 0) | _ => y) = y := by
      intro q y hq; subst hq
      split
      · rename_i e; injection e with e; injection e with e1 e2; exact absurd e1 hp1
      · rfl
    unfold ax_set; dsimp only; rw [if_pos rfl]; exact e _ _ rfl
theorem n6 {l0 l1 l2 l3 l4 l5 : ax_V} {r : List ax_V} {b : Nat} {w x : Int} (hC : ∀ i, ax_at j i = C[i]?) (h : C[i]? = some (5, 6, b, w)) (hp : (l5.1 == 1) = false) (hi : ax_i (x + w)) (k : ax_G L X S d j (i + 1) (l0 :: l1 :: l2 :: l3 :: l4 :: l5 :: (0, x + w) :: r) st M P) : ax_G L X S d j i (l0 :: l1 :: l2 :: l3 :: l4 :: l5 :: (0, x) :: r) st M P := by
  refine g5 hC h (x := x) rfl hi ?_ k
  obtain ⟨p1, p2⟩ := l5
  have hp1 : ¬ p1 = 1 := by intro e; rw [e] at hp; cases hp
  have e : ∀ (q : Option ax_V) (y : List ax_V), q = some (p1, p2) → (match q with | some (1, _) => y.set 5 (3, 0) | _ => y) = y := by
    intro q y hq; subst hq
    split
    · rename_i e; injection e with e; injection e with e1 e2; exact absurd e1 hp1
    · rfl
  unfold ax_set; dsimp only; rw [if_neg (by decide)]; exact e _ _ rfl
theorem s7 {l0 l1 l2 l3 l4 l5 l6 : ax_V} {r : List ax_V} {u : ax_V} {t : Nat} {w x : Int} (hC : ∀ i, ax_at j i = C[i]?) (h : C[i]? = some (4, t, 7, w)) (ht : (t == 1) = false) (hp : (l6.1 == 1) = false) (k : ax_G L X S d j (i + 1) (l0 :: l1 :: l2 :: l3 :: l4 :: l5 :: l6 :: (t, x) :: r) st M P) : ax_G L X S d j i (l0 :: l1 :: l2 :: l3 :: l4 :: l5 :: l6 :: u :: r) ((t, x) :: st) M P := by
  have ht1 : ¬ t = 1 := by intro e; rw [e] at ht; cases ht
  refine g4 hC h ?_ ?_ k
  · rw [if_neg ht1]; simp only [List.length_cons]; omega
  · obtain ⟨p1, p2⟩ := l6
    have hp1 : ¬ p1 = 1 := by intro e; rw [e] at hp; cases hp
    have e : ∀ (q : Option ax_V) (y : List ax_V), q = some (p1, p2) → (match q with | some (1, _) => y.set 6 (3, 0) | _ => y) = y := by
      intro q y hq; subst hq
      split
      · rename_i e; injection e with e; injection e with e1 e2; exact absurd e1 hp1
      · rfl
    unfold ax_set; dsimp only; rw [if_neg ht1]; exact e _ _ rfl
theorem sl7 {l0 l1 l2 l3 l4 l5 l6 : ax_V} {r : List ax_V} {u u2 : ax_V} {w x : Int} (hC : ∀ i, ax_at j i = C[i]?) (h : C[i]? = some (4, 1, 7, w)) (hp : (l6.1 == 1) = false) (k : ax_G L X S d j (i + 1) (l0 :: l1 :: l2 :: l3 :: l4 :: l5 :: l6 :: (1, x) :: (3, 0) :: r) st M P) : ax_G L X S d j i (l0 :: l1 :: l2 :: l3 :: l4 :: l5 :: l6 :: u :: u2 :: r) ((1, x) :: st) M P := by
  refine g4 hC h ?_ ?_ k
  · rw [if_pos rfl]; simp only [List.length_cons]; omega
  · obtain ⟨p1, p2⟩ := l6
    have hp1 : ¬ p1 = 1 := by intro e; rw [e] at hp; cases hp
    have e : ∀ (q : Option ax_V) (y : List ax_V), q = some (p1, p2) → (match q with | some (1, _) => y.set 6 (3, 0) | _ => y) = y := by
      intro q y hq; subst hq
      split
      · rename_i e; injection e with e; injection e with e1 e2; exact absurd e1 hp1
      · rfl
    unfold ax_set; dsimp only; rw [if_pos rfl]; exact e _ _ rfl
theorem n7 {l0 l1 l2 l3 l4 l5 l6 : ax_V} {r : List ax_V} {b : Nat} {w x : Int} (hC : ∀ i, ax_at j i = C[i]?) (h : C[i]? = some (5, 7, b, w)) (hp : (l6.1 == 1) = false) (hi : ax_i (x + w)) (k : ax_G L X S d j (i + 1) (l0 :: l1 :: l2 :: l3 :: l4 :: l5 :: l6 :: (0, x + w) :: r) st M P) : ax_G L X S d j i (l0 :: l1 :: l2 :: l3 :: l4 :: l5 :: l6 :: (0, x) :: r) st M P := by
  refine g5 hC h (x := x) rfl hi ?_ k
  obtain ⟨p1, p2⟩ := l6
  have hp1 : ¬ p1 = 1 := by intro e; rw [e] at hp; cases hp
  have e : ∀ (q : Option ax_V) (y : List ax_V), q = some (p1, p2) → (match q with | some (1, _) => y.set 6 (3, 0) | _ => y) = y := by
    intro q y hq; subst hq
    split
    · rename_i e; injection e with e; injection e with e1 e2; exact absurd e1 hp1
    · rfl
  unfold ax_set; dsimp only; rw [if_neg (by decide)]; exact e _ _ rfl
theorem s8 {l0 l1 l2 l3 l4 l5 l6 l7 : ax_V} {r : List ax_V} {u : ax_V} {t : Nat} {w x : Int} (hC : ∀ i, ax_at j i = C[i]?) (h : C[i]? = some (4, t, 8, w)) (ht : (t == 1) = false) (hp : (l7.1 == 1) = false) (k : ax_G L X S d j (i + 1) (l0 :: l1 :: l2 :: l3 :: l4 :: l5 :: l6 :: l7 :: (t, x) :: r) st M P) : ax_G L X S d j i (l0 :: l1 :: l2 :: l3 :: l4 :: l5 :: l6 :: l7 :: u :: r) ((t, x) :: st) M P := by
  have ht1 : ¬ t = 1 := by intro e; rw [e] at ht; cases ht
  refine g4 hC h ?_ ?_ k
  · rw [if_neg ht1]; simp only [List.length_cons]; omega
  · obtain ⟨p1, p2⟩ := l7
    have hp1 : ¬ p1 = 1 := by intro e; rw [e] at hp; cases hp
    have e : ∀ (q : Option ax_V) (y : List ax_V), q = some (p1, p2) → (match q with | some (1, _) => y.set 7 (3, 0) | _ => y) = y := by
      intro q y hq; subst hq
      split
      · rename_i e; injection e with e; injection e with e1 e2; exact absurd e1 hp1
      · rfl
    unfold ax_set; dsimp only; rw [if_neg ht1]; exact e _ _ rfl
theorem sl8 {l0 l1 l2 l3 l4 l5 l6 l7 : ax_V} {r : List ax_V} {u u2 : ax_V} {w x : Int} (hC : ∀ i, ax_at j i = C[i]?) (h : C[i]? = some (4, 1, 8, w)) (hp : (l7.1 == 1) = false) (k : ax_G L X S d j (i + 1) (l0 :: l1 :: l2 :: l3 :: l4 :: l5 :: l6 :: l7 :: (1, x) :: (3, 0) :: r) st M P) : ax_G L X S d j i (l0 :: l1 :: l2 :: l3 :: l4 :: l5 :: l6 :: l7 :: u :: u2 :: r) ((1, x) :: st) M P := by
  refine g4 hC h ?_ ?_ k
  · rw [if_pos rfl]; simp only [List.length_cons]; omega
  · obtain ⟨p1, p2⟩ := l7
    have hp1 : ¬ p1 = 1 := by intro e; rw [e] at hp; cases hp
    have e : ∀ (q : Option ax_V) (y : List ax_V), q = some (p1, p2) → (match q with | some (1, _) => y.set 7 (3, 0) | _ => y) = y := by
      intro q y hq; subst hq
      split
      · rename_i e; injection e with e; injection e with e1 e2; exact absurd e1 hp1
      · rfl
    unfold ax_set; dsimp only; rw [if_pos rfl]; exact e _ _ rfl
theorem n8 {l0 l1 l2 l3 l4 l5 l6 l7 : ax_V} {r : List ax_V} {b : Nat} {w x : Int} (hC : ∀ i, ax_at j i = C[i]?) (h : C[i]? = some (5, 8, b, w)) (hp : (l7.1 == 1) = false) (hi : ax_i (x + w)) (k : ax_G L X S d j (i + 1) (l0 :: l1 :: l2 :: l3 :: l4 :: l5 :: l6 :: l7 :: (0, x + w) :: r) st M P) : ax_G L X S d j i (l0 :: l1 :: l2 :: l3 :: l4 :: l5 :: l6 :: l7 :: (0, x) :: r) st M P := by
  refine g5 hC h (x := x) rfl hi ?_ k
  obtain ⟨p1, p2⟩ := l7
  have hp1 : ¬ p1 = 1 := by intro e; rw [e] at hp; cases hp
  have e : ∀ (q : Option ax_V) (y : List ax_V), q = some (p1, p2) → (match q with | some (1, _) => y.set 7 (3, 0) | _ => y) = y := by
    intro q y hq; subst hq
    split
    · rename_i e; injection e with e; injection e with e1 e2; exact absurd e1 hp1
    · rfl
  unfold ax_set; dsimp only; rw [if_neg (by decide)]; exact e _ _ rfl
theorem s9 {l0 l1 l2 l3 l4 l5 l6 l7 l8 : ax_V} {r : List ax_V} {u : ax_V} {t : Nat} {w x : Int} (hC : ∀ i, ax_at j i = C[i]?) (h : C[i]? = some (4, t, 9, w)) (ht : (t == 1) = false) (hp : (l8.1 == 1) = false) (k : ax_G L X S d j (i + 1) (l0 :: l1 :: l2 :: l3 :: l4 :: l5 :: l6 :: l7 :: l8 :: (t, x) :: r) st M P) : ax_G L X S d j i (l0 :: l1 :: l2 :: l3 :: l4 :: l5 :: l6 :: l7 :: l8 :: u :: r) ((t, x) :: st) M P := by
  have ht1 : ¬ t = 1 := by intro e; rw [e] at ht; cases ht
  refine g4 hC h ?_ ?_ k
  · rw [if_neg ht1]; simp only [List.length_cons]; omega
  · obtain ⟨p1, p2⟩ := l8
    have hp1 : ¬ p1 = 1 := by intro e; rw [e] at hp; cases hp
    have e : ∀ (q : Option ax_V) (y : List ax_V), q = some (p1, p2) → (match q with | some (1, _) => y.set 8 (3, 0) | _ => y) = y := by
      intro q y hq; subst hq
      split
      · rename_i e; injection e with e; injection e with e1 e2; exact absurd e1 hp1
      · rfl
    unfold ax_set; dsimp only; rw [if_neg ht1]; exact e _ _ rfl
theorem sl9 {l0 l1 l2 l3 l4 l5 l6 l7 l8 : ax_V} {r : List ax_V} {u u2 : ax_V} {w x : Int} (hC : ∀ i, ax_at j i = C[i]?) (h : C[i]? = some (4, 1, 9, w)) (hp : (l8.1 == 1) = false) (k : ax_G L X S d j (i + 1) (l0 :: l1 :: l2 :: l3 :: l4 :: l5 :: l6 :: l7 :: l8 :: (1, x) :: (3, 0) :: r) st M P) : ax_G L X S d j i (l0 :: l1 :: l2 :: l3 :: l4 :: l5 :: l6 :: l7 :: l8 :: u :: u2 :: r) ((1, x) :: st) M P := by
  refine g4 hC h ?_ ?_ k
  · rw [if_pos rfl]; simp only [List.length_cons]; omega
  · obtain ⟨p1, p2⟩ := l8
    have hp1 : ¬ p1 = 1 := by intro e; rw [e] at hp; cases hp
    have e : ∀ (q : Option ax_V) (y : List ax_V), q = some (p1, p2) → (match q with | some (1, _) => y.set 8 (3, 0) | _ => y) = y := by
      intro q y hq; subst hq
      split
      · rename_i e; injection e with e; injection e with e1 e2; exact absurd e1 hp1
      · rfl
    unfold ax_set; dsimp only; rw [if_pos rfl]; exact e _ _ rfl
theorem n9 {l0 l1 l2 l3 l4 l5 l6 l7 l8 : ax_V} {r : List ax_V} {b : Nat} {w x : Int} (hC : ∀ i, ax_at j i = C[i]?) (h : C[i]? = some (5, 9, b, w)) (hp : (l8.1 == 1) = false) (hi : ax_i (x + w)) (k : ax_G L X S d j (i + 1) (l0 :: l1 :: l2 :: l3 :: l4 :: l5 :: l6 :: l7 :: l8 :: (0, x + w) :: r) st M P) : ax_G L X S d j i (l0 :: l1 :: l2 :: l3 :: l4 :: l5 :: l6 :: l7 :: l8 :: (0, x) :: r) st M P := by
  refine g5 hC h (x := x) rfl hi ?_ k
  obtain ⟨p1, p2⟩ := l8
  have hp1 : ¬ p1 = 1 := by intro e; rw [e] at hp; cases hp
  have e : ∀ (q : Option ax_V) (y : List ax_V), q = some (p1, p2) → (match q with | some (1, _) => y.set 8 (3, 0) | _ => y) = y := by
    intro q y hq; subst hq
    split
    · rename_i e; injection e with e; injection e with e1 e2; exact absurd e1 hp1
    · rfl
  unfold ax_set; dsimp only; rw [if_neg (by decide)]; exact e _ _ rfl
theorem s10 {l0 l1 l2 l3 l4 l5 l6 l7 l8 l9 : ax_V} {r : List ax_V} {u : ax_V} {t : Nat} {w x : Int} (hC : ∀ i, ax_at j i = C[i]?) (h : C[i]? = some (4, t, 10, w)) (ht : (t == 1) = false) (hp : (l9.1 == 1) = false) (k : ax_G L X S d j (i + 1) (l0 :: l1 :: l2 :: l3 :: l4 :: l5 :: l6 :: l7 :: l8 :: l9 :: (t, x) :: r) st M P) : ax_G L X S d j i (l0 :: l1 :: l2 :: l3 :: l4 :: l5 :: l6 :: l7 :: l8 :: l9 :: u :: r) ((t, x) :: st) M P := by
  have ht1 : ¬ t = 1 := by intro e; rw [e] at ht; cases ht
  refine g4 hC h ?_ ?_ k
  · rw [if_neg ht1]; simp only [List.length_cons]; omega
  · obtain ⟨p1, p2⟩ := l9
    have hp1 : ¬ p1 = 1 := by intro e; rw [e] at hp; cases hp
    have e : ∀ (q : Option ax_V) (y : List ax_V), q = some (p1, p2) → (match q with | some (1, _) => y.set 9 (3, 0) | _ => y) = y := by
      intro q y hq; subst hq
      split
      · rename_i e; injection e with e; injection e with e1 e2; exact absurd e1 hp1
      · rfl
    unfold ax_set; dsimp only; rw [if_neg ht1]; exact e _ _ rfl
theorem sl10 {l0 l1 l2 l3 l4 l5 l6 l7 l8 l9 : ax_V} {r : List ax_V} {u u2 : ax_V} {w x : Int} (hC : ∀ i, ax_at j i = C[i]?) (h : C[i]? = some (4, 1, 10, w)) (hp : (l9.1 == 1) = false) (k : ax_G L X S d j (i + 1) (l0 :: l1 :: l2 :: l3 :: l4 :: l5 :: l6 :: l7 :: l8 :: l9 :: (1, x) :: (3, 0) :: r) st M P) : ax_G L X S d j i (l0 :: l1 :: l2 :: l3 :: l4 :: l5 :: l6 :: l7 :: l8 :: l9 :: u :: u2 :: r) ((1, x) :: st) M P := by
  refine g4 hC h ?_ ?_ k
  · rw [if_pos rfl]; simp only [List.length_cons]; omega
  · obtain ⟨p1, p2⟩ := l9
    have hp1 : ¬ p1 = 1 := by intro e; rw [e] at hp; cases hp
    have e : ∀ (q : Option ax_V) (y : List ax_V), q = some (p1, p2) → (match q with | some (1, _) => y.set 9 (3, 0) | _ => y) = y := by
      intro q y hq; subst hq
      split
      · rename_i e; injection e with e; injection e with e1 e2; exact absurd e1 hp1
      · rfl
    unfold ax_set; dsimp only; rw [if_pos rfl]; exact e _ _ rfl
theorem n10 {l0 l1 l2 l3 l4 l5 l6 l7 l8 l9 : ax_V} {r : List ax_V} {b : Nat} {w x : Int} (hC : ∀ i, ax_at j i = C[i]?) (h : C[i]? = some (5, 10, b, w)) (hp : (l9.1 == 1) = false) (hi : ax_i (x + w)) (k : ax_G L X S d j (i + 1) (l0 :: l1 :: l2 :: l3 :: l4 :: l5 :: l6 :: l7 :: l8 :: l9 :: (0, x + w) :: r) st M P) : ax_G L X S d j i (l0 :: l1 :: l2 :: l3 :: l4 :: l5 :: l6 :: l7 :: l8 :: l9 :: (0, x) :: r) st M P := by
  refine g5 hC h (x := x) rfl hi ?_ k
  obtain ⟨p1, p2⟩ := l9
  have hp1 : ¬ p1 = 1 := by intro e; rw [e] at hp; cases hp
  have e : ∀ (q : Option ax_V) (y : List ax_V), q = some (p1, p2) → (match q with | some (1, _) => y.set 9 (3, 0) | _ => y) = y := by
    intro q y hq; subst hq
    split
    · rename_i e; injection e with e; injection e with e1 e2; exact absurd e1 hp1
    · rfl
  unfold ax_set; dsimp only; rw [if_neg (by decide)]; exact e _ _ rfl
theorem r21 (q : Nat) {f g a n : Nat} {w x y : Int} {t : Nat} (hC : ∀ i, ax_at j i = C[i]?) (h : C[i]? = some (21, f, g, w)) (hx : x = (q : Int)) (ha : S[a]? = some (1, t, n)) (ht : t = f ∨ (f = 4 ∧ t = 5)) (hq : q < n) (hy : M a q = y) (k : ax_G L X S d j (i + 1) ll ((ax_et f, y) :: st) M P) : ax_G L X S d j i ll ((0, x) :: (2, (a : Int)) :: st) M P := by
  subst hx
  exact g21 hC h ha ht hq hy k
theorem r22 (q : Nat) {f g a n : Nat} {w x y : Int} {t : Nat} (hC : ∀ i, ax_at j i = C[i]?) (h : C[i]? = some (22, f, g, w)) (hx : x = (q : Int)) (ha : S[a]? = some (1, f, n)) (hq : q < n) (hs : ax_es f (t, y) = true) (k : ax_G L X S d j (i + 1) ll st (ax_up M a q y) P) : ax_G L X S d j i ll ((t, y) :: (0, x) :: (2, (a : Int)) :: st) M P := by
  subst hx
  exact g22 hC h ha hq hs k
theorem vl {t : Nat} {x y : Int} (e : x = y) (k : ax_G L X S d j i ll ((t, y) :: st) M P) : ax_G L X S d j i ll ((t, x) :: st) M P := by
  subst e
  exact k
theorem lp {Inv : Nat → List ax_V → ax_M → Prop} {n : Nat} (he : ∀ ll M, Inv n ll M → ax_G L X S d j i ll st M P) (hs : ∀ k, k < n → ∀ ll M, Inv k ll M → (∀ ll' M', Inv (k + 1) ll' M' → ax_G L X S d j i ll' st M' P) → ax_G L X S d j i ll st M P) : ∀ (m k : Nat), k + m = n → ∀ ll M, Inv k ll M → ax_G L X S d j i ll st M P := by
  intro m
  induction m with
  | zero => intro k e ll M h; exact he ll M (by rw [← e]; exact h)
  | succ m ih => intro k e ll M h; exact hs k (by omega) ll M h (fun ll' M' h' => ih (k + 1) (by omega) ll' M' h')
end AXL
abbrev ax_W : Type := List (Nat × Nat) × List (Nat × Nat)
def wb (W : ax_W) (a k : Nat) : Bool := W.1.any (fun e => Nat.ble e.1 a && Nat.ble (a + 1) e.2) || W.2.any (fun e => Nat.beq e.1 a && Nat.beq e.2 k)
def Sb (W : ax_W) (V M : ax_M) : Prop := ∀ a k, wb W a k = false → M a k = V a k
def wle (W W' : ax_W) : Bool := W.1.all (fun e => W'.1.any (fun f => Nat.ble f.1 e.1 && Nat.ble e.2 f.2)) && W.2.all (fun e => wb W' e.1 e.2)
theorem wle_use {W W' : ax_W} (h : wle W W' = true) {a k : Nat} (hw : wb W a k = true) : wb W' a k = true := by
  unfold wle at h
  rw [Bool.and_eq_true] at h
  unfold wb at hw
  rw [Bool.or_eq_true] at hw
  rcases hw with hw | hw
  · obtain ⟨e, he, h1⟩ := List.any_eq_true.mp hw
    obtain ⟨f, hf, h2⟩ := List.any_eq_true.mp (List.all_eq_true.mp h.1 e he)
    rw [Bool.and_eq_true] at h1 h2
    have a1 := Nat.le_of_ble_eq_true h1.1
    have a2 := Nat.le_of_ble_eq_true h1.2
    have a3 := Nat.le_of_ble_eq_true h2.1
    have a4 := Nat.le_of_ble_eq_true h2.2
    unfold wb
    rw [Bool.or_eq_true]
    refine Or.inl (List.any_eq_true.mpr ⟨f, hf, ?_⟩)
    rw [Bool.and_eq_true]
    exact ⟨Nat.ble_eq_true_of_le (by omega), Nat.ble_eq_true_of_le (by omega)⟩
  · obtain ⟨e, he, h1⟩ := List.any_eq_true.mp hw
    rw [Bool.and_eq_true] at h1
    have b1 := Nat.eq_of_beq_eq_true h1.1
    have b2 := Nat.eq_of_beq_eq_true h1.2
    have h2 := List.all_eq_true.mp h.2 e he
    rw [b1, b2] at h2
    exact h2
theorem Sb.refl {W : ax_W} {M : ax_M} : Sb W M M := fun _ _ _ => rfl
theorem Sb.trans {W : ax_W} {V M M' : ax_M} (h : Sb W V M) (h' : Sb W M M') : Sb W V M' := fun a k q => (h' a k q).trans (h a k q)
theorem Sb.mono {W W' : ax_W} {V M : ax_M} (h : Sb W V M) (hw : wle W W' = true) : Sb W' V M := fun a k q => h a k (by
  cases e : wb W a k with
  | false => rfl
  | true => rw [wle_use hw e] at q; cases q)
theorem Sb.then {W W' : ax_W} {V M M' : ax_M} (h : Sb W V M) (h' : Sb W' M M') (hw : wle W' W = true) : Sb W V M' := h.trans (h'.mono hw)
theorem Sb.up {W : ax_W} {V M : ax_M} (h : Sb W V M) {a k : Nat} {x : Int} (hw : wb W a k = true) : Sb W V (ax_up M a k x) := fun b q e => by
  unfold ax_up
  rw [if_neg (fun z => by rw [z.1, z.2, hw] at e; cases e)]
  exact h b q e
theorem Sb.cpy {W : ax_W} {V M : ax_M} (h : Sb W V M) {a sp b dp n : Nat} (hw : ∀ k, wb W b k = true) : Sb W V (ax_cpy M a sp b dp n) := fun c q e => by
  unfold ax_cpy
  rw [if_neg (fun z => by rw [z.1, hw q] at e; cases e)]
  exact h c q e
def wok (W : ax_W) : Bool := ax_fx.all (fun e => !(wb W e.1 e.2.1)) && ax_fr.all (fun e => (List.range e.2.1).all (fun k => !(wb W e.1 k)))
theorem Sb.fix {W : ax_W} {V M : ax_M} (h : Sb W V M) (hw : wok W = true) (hF : Fix V) : Fix M := by
  unfold wok at hw
  rw [Bool.and_eq_true] at hw
  refine ⟨fun e he => ?_, fun e he k hk => ?_⟩
  · have h1 := List.all_eq_true.mp hw.1 e he
    rw [h e.1 e.2.1 (by simpa using h1)]
    exact hF.1 e he
  · have h1 := List.all_eq_true.mp (List.all_eq_true.mp hw.2 e he) k (List.mem_range.mpr hk)
    rw [h e.1 k (by simpa using h1)]
    exact hF.2 e he k hk
theorem up1 {M : ax_M} {a k : Nat} {x : Int} : ax_up M a k x a k = x := ax_up_at
theorem up2 {M : ax_M} {a k b q : Nat} {x : Int} (h : ¬ (b = a ∧ q = k)) : ax_up M a k x b q = M b q := by
  unfold ax_up
  rw [if_neg h]
theorem upe {M : ax_M} {a k b q : Nat} {x : Int} : ax_up M a k x b q = if b = a ∧ q = k then x else M b q := rfl
theorem cpe {M : ax_M} {a sp b dp n c k : Nat} : ax_cpy M a sp b dp n c k = if c = b ∧ dp ≤ k ∧ k < dp + n then M a (sp + (k - dp)) else M c k := rfl
theorem shH {h : Nat} (hh : h = 9 ∨ h = 27) : SH[h]? = some (0, 4, ax_fl 4) := by rcases hh with rfl | rfl <;> rfl
theorem Fix.h {M : ax_M} (hF : Fix M) {h k v : Nat} (hh : h = 9 ∨ h = 27) (h1 : ax_fw ax_fx 9 k = some (9 + v)) (h2 : ax_fw ax_fx 27 k = some (27 + v)) : M h k = ((h + v : Nat) : Int) := by
  rcases hh with rfl | rfl
  · exact hF.g h1
  · exact hF.g h2
theorem shA {h v t n : Nat} (hh : h = 9 ∨ h = 27) (h1 : SH[9 + v]? = some (1, t, n)) (h2 : SH[27 + v]? = some (1, t, n)) : SH[h + v]? = some (1, t, n) := by
  rcases hh with rfl | rfl
  · exact h1
  · exact h2
theorem shP {h v c n : Nat} (hh : h = 9 ∨ h = 27) (h1 : SH[9 + v]? = some (0, c, n)) (h2 : SH[27 + v]? = some (0, c, n)) : SH[h + v]? = some (0, c, n) := by
  rcases hh with rfl | rfl
  · exact h1
  · exact h2
theorem wbh {W : ax_W} {h v k : Nat} {b : Bool} (hh : h = 9 ∨ h = 27) (h1 : wb W (9 + v) k = b) (h2 : wb W (27 + v) k = b) : wb W (h + v) k = b := by
  rcases hh with rfl | rfl
  · exact h1
  · exact h2
end
section
def R1 (t : Nat) (Q : Int → ax_M → Prop) : List ax_V → ax_M → Prop := fun r M => ∃ x, r = [(t, x)] ∧ Q x M
def R0 (Q : ax_M → Prop) : List ax_V → ax_M → Prop := fun r M => r = [] ∧ Q M
section AXL2
variable {L : Nat} {X : Nat → Int} {S : List ax_H} {d j i : Nat} {ll st : List ax_V} {M : ax_M} {P : List ax_V → ax_M → Prop} {C : List ax_O}
theorem c1 {f g d0 t : Nat} {w : Int} {as rest : List ax_V} {Q : Int → ax_M → Prop} (hC : ∀ i, ax_at j i = C[i]?) (h : C[i]? = some (27, f, g, w)) (ha : st.take g = as) (hrest : st.drop g = rest) (hg : g ≤ st.length) (hc : ax_cat rest ≤ 8) (hm : ax_may f S as.reverse = true) (hE : ax_Ev L X S d0 f as.reverse M (R1 t Q)) (hd : d0 + 1 ≤ d) (k : ∀ x M1, Q x M1 → ax_G L X S d j (i + 1) ll ((t, x) :: rest) M1 P) : ax_G L X S d j i ll st M P :=
  g27 hC h ha hrest hg hc hm hE hd (fun r M1 hr => by
    obtain ⟨x, rfl, hq⟩ := hr
    exact k x M1 hq)
theorem c0 {f g d0 : Nat} {w : Int} {as rest : List ax_V} {Q : ax_M → Prop} (hC : ∀ i, ax_at j i = C[i]?) (h : C[i]? = some (27, f, g, w)) (ha : st.take g = as) (hrest : st.drop g = rest) (hg : g ≤ st.length) (hc : ax_cat rest ≤ 8) (hm : ax_may f S as.reverse = true) (hE : ax_Ev L X S d0 f as.reverse M (R0 Q)) (hd : d0 + 1 ≤ d) (k : ∀ M1, Q M1 → ax_G L X S d j (i + 1) ll rest M1 P) : ax_G L X S d j i ll st M P :=
  g27 hC h ha hrest hg hc hm hE hd (fun r M1 hr => by
    obtain ⟨rfl, hq⟩ := hr
    exact k M1 hq)
theorem ret1 {f g t : Nat} {w x : Int} {Q : Int → ax_M → Prop} (hC : ∀ i, ax_at j i = C[i]?) (h : C[i]? = some (28, f, g, w)) (hr : ax_ret f [(t, x)] = some [(t, x)]) (hq : Q x M) : ax_G L X S d j i ll [(t, x)] M (R1 t Q) := g28 hC h hr ⟨x, rfl, hq⟩
theorem ret3 {g : Nat} {w x : Int} {Q : Int → ax_M → Prop} (hC : ∀ i, ax_at j i = C[i]?) (h : C[i]? = some (28, 3, g, w)) (hx : 0 ≤ x ∧ x < 2) (hq : Q x M) : ax_G L X S d j i ll [(0, x)] M (R1 0 Q) := g28 hC h (if_pos hx) ⟨x, rfl, hq⟩
theorem ret0 {g : Nat} {w : Int} {Q : ax_M → Prop} (hC : ∀ i, ax_at j i = C[i]?) (h : C[i]? = some (28, 2, g, w)) (hq : Q M) : ax_G L X S d j i ll [] M (R0 Q) := g28 hC h rfl ⟨rfl, hq⟩
theorem g7a {b : Nat} {w x y : Int} (hC : ∀ i, ax_at j i = C[i]?) (h : C[i]? = some (7, 0, b, w)) (hi : ax_l (x + y)) (k : ax_G L X S d j (i + 1) ll ((1, x + y) :: st) M P) : ax_G L X S d j i ll ((1, y) :: (1, x) :: st) M P := g7 hC h (if_pos hi) k
theorem g7s {b : Nat} {w x y : Int} (hC : ∀ i, ax_at j i = C[i]?) (h : C[i]? = some (7, 1, b, w)) (hi : ax_l (x - y)) (k : ax_G L X S d j (i + 1) ll ((1, x - y) :: st) M P) : ax_G L X S d j i ll ((1, y) :: (1, x) :: st) M P := g7 hC h (if_pos hi) k
theorem g7m {b : Nat} {w x y : Int} (hC : ∀ i, ax_at j i = C[i]?) (h : C[i]? = some (7, 2, b, w)) (hi : ax_l (x * y)) (k : ax_G L X S d j (i + 1) ll ((1, x * y) :: st) M P) : ax_G L X S d j i ll ((1, y) :: (1, x) :: st) M P := g7 hC h (if_pos hi) k
theorem g7d {b : Nat} {w x y : Int} (hC : ∀ i, ax_at j i = C[i]?) (h : C[i]? = some (7, 3, b, w)) (hi : y ≠ 0 ∧ ax_l (x.tdiv y)) (k : ax_G L X S d j (i + 1) ll ((1, x.tdiv y) :: st) M P) : ax_G L X S d j i ll ((1, y) :: (1, x) :: st) M P := g7 hC h (if_pos hi) k
theorem g7r {b : Nat} {w x y : Int} (hC : ∀ i, ax_at j i = C[i]?) (h : C[i]? = some (7, 4, b, w)) (hi : y ≠ 0 ∧ ax_l (x.tdiv y)) (k : ax_G L X S d j (i + 1) ll ((1, x.tmod y) :: st) M P) : ax_G L X S d j i ll ((1, y) :: (1, x) :: st) M P := g7 hC h (if_pos hi) k
theorem g6d {b : Nat} {w x y : Int} (hC : ∀ i, ax_at j i = C[i]?) (h : C[i]? = some (6, 3, b, w)) (hi : y ≠ 0 ∧ ax_i (x.tdiv y)) (k : ax_G L X S d j (i + 1) ll ((0, x.tdiv y) :: st) M P) : ax_G L X S d j i ll ((0, y) :: (0, x) :: st) M P := g6 hC h (if_pos hi) k
theorem g6r {b : Nat} {w x y : Int} (hC : ∀ i, ax_at j i = C[i]?) (h : C[i]? = some (6, 4, b, w)) (hi : y ≠ 0 ∧ ax_i (x.tdiv y)) (k : ax_G L X S d j (i + 1) ll ((0, x.tmod y) :: st) M P) : ax_G L X S d j i ll ((0, y) :: (0, x) :: st) M P := g6 hC h (if_pos hi) k
theorem tdivN {a b : Nat} : ((a : Int)).tdiv (b : Int) = ((a / b : Nat) : Int) := Int.ofNat_tdiv a b |>.symm
theorem tmodN {a b : Nat} : ((a : Int)).tmod (b : Int) = ((a % b : Nat) : Int) := Int.ofNat_tmod a b |>.symm
theorem g6dN {a b n : Nat} {w x y : Int} (hC : ∀ i, ax_at j i = C[i]?) (h : C[i]? = some (6, 3, n, w)) (hx : x = (a : Int)) (hy : y = (b : Int)) (hb : 0 < b) (ha : a < 2147483648) (k : ax_G L X S d j (i + 1) ll ((0, ((a / b : Nat) : Int)) :: st) M P) : ax_G L X S d j i ll ((0, y) :: (0, x) :: st) M P := by
  subst hx; subst hy
  have := Nat.div_le_self a b
  have hi : (b : Int) ≠ 0 ∧ ax_i ((a : Int).tdiv b) := ⟨by omega, by rw [tdivN]; generalize a / b = c at this; constructor <;> omega⟩
  exact g6d hC h hi (by rw [tdivN]; exact k)
theorem g6rN {a b n : Nat} {w x y : Int} (hC : ∀ i, ax_at j i = C[i]?) (h : C[i]? = some (6, 4, n, w)) (hx : x = (a : Int)) (hy : y = (b : Int)) (hb : 0 < b) (ha : a < 2147483648) (k : ax_G L X S d j (i + 1) ll ((0, ((a % b : Nat) : Int)) :: st) M P) : ax_G L X S d j i ll ((0, y) :: (0, x) :: st) M P := by
  subst hx; subst hy
  have := Nat.div_le_self a b
  have hi : (b : Int) ≠ 0 ∧ ax_i ((a : Int).tdiv b) := ⟨by omega, by rw [tdivN]; generalize a / b = c at this; constructor <;> omega⟩
  exact g6r hC h hi (by rw [tmodN]; exact k)
theorem g15k {f g : Nat} {w x key : Int} {i' : Nat} {q : Nat × Int × Int × List Nat × Nat × Nat} (hC : ∀ i, ax_at j i = C[i]?) (h : C[i]? = some (15, f, g, w)) (hq : ax_sw[f]? = some q) (hk : x = key) (hi : (if q.2.1 ≤ key ∧ key ≤ q.2.2.1 then q.2.2.2.1.getD (key - q.2.1).toNat 0 else q.2.2.2.2.1) = i') (k : ax_G L X S d j i' ll st M P) : ax_G L X S d j i ll ((0, x) :: st) M P := by
  subst hk
  exact g15 hC h hq hi k
theorem g15d {f g : Nat} {w x : Int} {i' : Nat} {q : Nat × Int × Int × List Nat × Nat × Nat} (hC : ∀ i, ax_at j i = C[i]?) (h : C[i]? = some (15, f, g, w)) (hq : ax_sw[f]? = some q) (hk : ¬ (q.2.1 ≤ x ∧ x ≤ q.2.2.1)) (hi : q.2.2.2.2.1 = i') (k : ax_G L X S d j i' ll st M P) : ax_G L X S d j i ll ((0, x) :: st) M P :=
  g15 hC h hq (by rw [if_neg hk]; exact hi) k
theorem r29 (sp dp n : Nat) {f g a b la lb : Nat} {w x y z : Int} (hC : ∀ i, ax_at j i = C[i]?) (h : C[i]? = some (29, f, g, w)) (hx : x = (sp : Int)) (hy : y = (dp : Int)) (hz : z = (n : Int)) (ha : S[a]? = some (1, 0, la)) (hb : S[b]? = some (1, 0, lb)) (h1 : sp + n ≤ la) (h2 : dp + n ≤ lb) (hc : ax_cat st ≤ 8) (k : ax_G L X S d j (i + 1) ll st (ax_cpy M a sp b dp n) P) : ax_G L X S d j i ll ((0, z) :: (0, y) :: (2, (b : Int)) :: (0, x) :: (2, (a : Int)) :: st) M P := by
  subst hx; subst hy; subst hz
  exact g29 hC h ha hb h1 h2 hc k
theorem g20s {f g a : Nat} {w y : Int} {t : Nat} {W : ax_W} {V : ax_M} (hC : ∀ i, ax_at j i = C[i]?) (h : C[i]? = some (20, f, g, w)) (ha : S[a]? = some (0, f, ax_fl f)) (hg : g < ax_fl f) (hs : ax_fs (ax_fty f g) (t, y) = true) (hS : Sb W V M) (hw : wb W a g = true) (k : Sb W V (ax_up M a g y) → ax_G L X S d j (i + 1) ll st (ax_up M a g y) P) : ax_G L X S d j i ll ((t, y) :: (2, (a : Int)) :: st) M P := g20 hC h ha hg hs (k (hS.up hw))
theorem r22s (q : Nat) {f g a n : Nat} {w x y : Int} {t : Nat} {W : ax_W} {V : ax_M} (hC : ∀ i, ax_at j i = C[i]?) (h : C[i]? = some (22, f, g, w)) (hx : x = (q : Int)) (ha : S[a]? = some (1, f, n)) (hq : q < n) (hs : ax_es f (t, y) = true) (hS : Sb W V M) (hw : wb W a q = true) (k : Sb W V (ax_up M a q y) → ax_G L X S d j (i + 1) ll st (ax_up M a q y) P) : ax_G L X S d j i ll ((t, y) :: (0, x) :: (2, (a : Int)) :: st) M P := r22 q hC h hx ha hq hs (k (hS.up hw))
theorem r29s (sp dp n : Nat) {f g a b la lb : Nat} {w x y z : Int} {W : ax_W} {V : ax_M} (hC : ∀ i, ax_at j i = C[i]?) (h : C[i]? = some (29, f, g, w)) (hx : x = (sp : Int)) (hy : y = (dp : Int)) (hz : z = (n : Int)) (ha : S[a]? = some (1, 0, la)) (hb : S[b]? = some (1, 0, lb)) (h1 : sp + n ≤ la) (h2 : dp + n ≤ lb) (hc : ax_cat st ≤ 8) (hS : Sb W V M) (hw : ∀ k, wb W b k = true) (k : Sb W V (ax_cpy M a sp b dp n) → ax_G L X S d j (i + 1) ll st (ax_cpy M a sp b dp n) P) : ax_G L X S d j i ll ((0, z) :: (0, y) :: (2, (b : Int)) :: (0, x) :: (2, (a : Int)) :: st) M P := r29 sp dp n hC h hx hy hz ha hb h1 h2 hc (k (hS.cpy hw))
end AXL2
def isP (p : Nat) : Prop := p = 3 ∨ p = 21 ∨ p = 24 ∨ p = 39 ∨ p = 42
theorem isP12 {h : Nat} (hh : h = 9 ∨ h = 27) : isP (h + 12) := by rcases hh with rfl | rfl <;> simp [isP]
theorem isP15 {h : Nat} (hh : h = 9 ∨ h = 27) : isP (h + 15) := by rcases hh with rfl | rfl <;> simp [isP]
theorem shPg {p : Nat} (hp : isP p) : SH[p]? = some (0, 7, ax_fl 7) := by rcases hp with rfl | rfl | rfl | rfl | rfl <;> rfl
theorem shPa0 {p : Nat} (hp : isP p) : SH[p + 1]? = some (1, 0, 1600) := by rcases hp with rfl | rfl | rfl | rfl | rfl <;> rfl
theorem shPa2 {p : Nat} (hp : isP p) : SH[p + 2]? = some (1, 0, 64) := by rcases hp with rfl | rfl | rfl | rfl | rfl <;> rfl
theorem prog0 {M : ax_M} {p : Nat} (hF : Fix M) (hp : isP p) : M p 0 = ((p + 1 : Nat) : Int) := by rcases hp with rfl | rfl | rfl | rfl | rfl <;> exact hF.g rfl
theorem prog2 {M : ax_M} {p : Nat} (hF : Fix M) (hp : isP p) : M p 2 = ((p + 2 : Nat) : Int) := by rcases hp with rfl | rfl | rfl | rfl | rfl <;> exact hF.g rfl
theorem mayH {h j : Nat} {as : List ax_V} (hh : h = 9 ∨ h = 27) (h1 : ax_may j SH ((2, 9) :: as) = true) (h2 : ax_may j SH ((2, 27) :: as) = true) : ax_may j SH ((2, (h : Int)) :: as) = true := by
  rcases hh with rfl | rfl
  · exact h1
  · exact h2
theorem mayP {p j : Nat} {as : List ax_V} (hp : isP p) (h1 : ax_may j SH ((2, 3) :: as) = true) (h2 : ax_may j SH ((2, 21) :: as) = true) (h3 : ax_may j SH ((2, 24) :: as) = true) (h4 : ax_may j SH ((2, 39) :: as) = true) (h5 : ax_may j SH ((2, 42) :: as) = true) : ax_may j SH ((2, (p : Int)) :: as) = true := by
  rcases hp with rfl | rfl | rfl | rfl | rfl
  · exact h1
  · exact h2
  · exact h3
  · exact h4
  · exact h5
theorem shR51 {m : Nat} (hm : m < 20) : SH[51 + m]? = some (1, 0, 44) := by
  have h : ∀ m, m < 20 → SH[51 + m]? = some (1, 0, 44) := by decide +kernel
  exact h m hm
theorem shR76 {m : Nat} (hm : m < 9) : SH[76 + m]? = some (1, 0, 8) := by
  have h : ∀ m, m < 9 → SH[76 + m]? = some (1, 0, 8) := by decide +kernel
  exact h m hm
theorem shR86 {m : Nat} (hm : m < 8) : SH[86 + m]? = some (1, 0, 8) := by
  have h : ∀ m, m < 8 → SH[86 + m]? = some (1, 0, 8) := by decide +kernel
  exact h m hm
theorem shR95 {m : Nat} (hm : m < 8) : SH[95 + m]? = some (1, 0, 8) := by
  have h : ∀ m, m < 8 → SH[95 + m]? = some (1, 0, 8) := by decide +kernel
  exact h m hm
theorem shR114 {m : Nat} (hm : m < 8) : SH[114 + m]? = some (1, 1, 8) := by
  have h : ∀ m, m < 8 → SH[114 + m]? = some (1, 1, 8) := by decide +kernel
  exact h m hm
theorem shR127 {m : Nat} (hm : m < 11) : SH[127 + m]? = some (1, 0, 8) := by
  have h : ∀ m, m < 11 → SH[127 + m]? = some (1, 0, 8) := by decide +kernel
  exact h m hm
theorem wbr {W : ax_W} {a k lo hi : Nat} (h : W.1.any (fun e => Nat.beq e.1 lo && Nat.beq e.2 hi) = true) (h1 : lo ≤ a) (h2 : a < hi) : wb W a k = true := by
  obtain ⟨e, he, h3⟩ := List.any_eq_true.mp h
  rw [Bool.and_eq_true] at h3
  have a1 := Nat.eq_of_beq_eq_true h3.1
  have a2 := Nat.eq_of_beq_eq_true h3.2
  unfold wb
  rw [Bool.or_eq_true]
  refine Or.inl (List.any_eq_true.mpr ⟨e, he, ?_⟩)
  rw [Bool.and_eq_true]
  exact ⟨Nat.ble_eq_true_of_le (by omega), Nat.ble_eq_true_of_le (by omega)⟩
def it {α : Type} (f : Nat → α → α) : Nat → α → α
  | 0, x => x
  | n + 1, x => f n (it f n x)
def up (f : Nat → Int) (k : Nat) (x : Int) : Nat → Int := fun q => if q = k then x else f q
theorem up_at {f : Nat → Int} {k : Nat} {x : Int} : up f k x k = x := if_pos rfl
theorem up_ne {f : Nat → Int} {k q : Nat} {x : Int} (h : q ≠ k) : up f k x q = f q := if_neg h
theorem ax_upf {M : ax_M} {a k : Nat} {x : Int} : ax_up M a k x a = up (M a) k x := by
  funext q
  unfold ax_up up
  by_cases h : q = k
  · rw [if_pos ⟨rfl, h⟩, if_pos h]
  · rw [if_neg (fun z => h z.2), if_neg h]
theorem ax_up2n {M : ax_M} {a k b q : Nat} {x : Int} (h : b ≠ a) : ax_up M a k x b q = M b q := by
  unfold ax_up
  rw [if_neg (fun z => h z.1)]
theorem wbo {W : ax_W} {a k : Nat} (lo hi : Nat) (hW : (W.1.all (fun e => Nat.ble e.2 lo || Nat.ble hi e.1) && W.2.all (fun e => Nat.ble (e.1 + 1) lo || Nat.ble hi e.1)) = true) (h1 : lo ≤ a) (h2 : a < hi) : wb W a k = false := by
  rw [Bool.and_eq_true] at hW
  cases e : wb W a k with
  | false => rfl
  | true =>
    unfold wb at e
    rw [Bool.or_eq_true] at e
    rcases e with e | e
    · obtain ⟨x, hx, e⟩ := List.any_eq_true.mp e
      have := List.all_eq_true.mp hW.1 x hx
      simp only [Bool.and_eq_true, Bool.or_eq_true] at this e
      have e1 := Nat.le_of_ble_eq_true e.1
      have e2 := Nat.le_of_ble_eq_true e.2
      rcases this with t | t <;> (have := Nat.le_of_ble_eq_true t; omega)
    · obtain ⟨x, hx, e⟩ := List.any_eq_true.mp e
      have := List.all_eq_true.mp hW.2 x hx
      simp only [Bool.and_eq_true, Bool.or_eq_true] at this e
      have e1 := Nat.eq_of_beq_eq_true e.1
      rcases this with t | t <;> (have := Nat.le_of_ble_eq_true t; omega)
theorem up_c {f g : Nat → Int} {k c : Nat} {x : Int} (h : f c = g c) : up f k x c = up g k x c := by
  unfold up; split
  · rfl
  · exact h
end
section
theorem sh142 : SH[142]? = some (0, 12, ax_fl 12) := by decide +kernel
theorem mayR {j n : Nat} {as : List ax_V} (k : ax_kd j = 1 ∧ ax_own j = 12 ∧ ax_ml j = n) (h : Nat.ble (ax_ent ((2, 142) :: as)).length n = true) : ax_may j SH ((2, 142) :: as) = true := by
  unfold ax_may
  rw [k.1, k.2.2, decide_eq_true (Nat.le_of_ble_eq_true h), Bool.true_and]
  show (decide ((0 : Int) ≤ 142 ∧ SH[142]? = some (0, ax_own j, ax_fl (ax_own j))) || _) = true
  rw [k.2.1, decide_eq_true ⟨by decide, sh142⟩, Bool.true_or]
theorem mayS {j n : Nat} {as : List ax_V} (k : ax_kd j = 0 ∧ ax_ml j = n) (h : Nat.ble (ax_ent as).length n = true) : ax_may j SH as = true := by
  unfold ax_may
  rw [k.1, k.2, decide_eq_true (Nat.le_of_ble_eq_true h), Bool.true_and]
  cases as <;> rfl
theorem k153 : ax_kd 153 = 0 ∧ ax_ml 153 = 6 := by decide +kernel
theorem k154 : ax_kd 154 = 1 ∧ ax_own 154 = 12 ∧ ax_ml 154 = 8 := by decide +kernel
theorem k155 : ax_kd 155 = 1 ∧ ax_own 155 = 12 ∧ ax_ml 155 = 2 := by decide +kernel
theorem k156 : ax_kd 156 = 1 ∧ ax_own 156 = 12 ∧ ax_ml 156 = 3 := by decide +kernel
theorem k157 : ax_kd 157 = 0 ∧ ax_ml 157 = 1 := by decide +kernel
theorem k158 : ax_kd 158 = 0 ∧ ax_ml 158 = 1 := by decide +kernel
theorem k159 : ax_kd 159 = 1 ∧ ax_own 159 = 12 ∧ ax_ml 159 = 1 := by decide +kernel
theorem k160 : ax_kd 160 = 1 ∧ ax_own 160 = 12 ∧ ax_ml 160 = 4 := by decide +kernel
theorem k161 : ax_kd 161 = 1 ∧ ax_own 161 = 12 ∧ ax_ml 161 = 2 := by decide +kernel
theorem k162 : ax_kd 162 = 1 ∧ ax_own 162 = 12 ∧ ax_ml 162 = 2 := by decide +kernel
theorem k163 : ax_kd 163 = 1 ∧ ax_own 163 = 12 ∧ ax_ml 163 = 2 := by decide +kernel
theorem k164 : ax_kd 164 = 1 ∧ ax_own 164 = 12 ∧ ax_ml 164 = 2 := by decide +kernel
theorem k165 : ax_kd 165 = 1 ∧ ax_own 165 = 12 ∧ ax_ml 165 = 5 := by decide +kernel
theorem k166 : ax_kd 166 = 1 ∧ ax_own 166 = 12 ∧ ax_ml 166 = 2 := by decide +kernel
theorem k167 : ax_kd 167 = 1 ∧ ax_own 167 = 12 ∧ ax_ml 167 = 3 := by decide +kernel
theorem k168 : ax_kd 168 = 1 ∧ ax_own 168 = 12 ∧ ax_ml 168 = 2 := by decide +kernel
theorem k169 : ax_kd 169 = 1 ∧ ax_own 169 = 12 ∧ ax_ml 169 = 4 := by decide +kernel
theorem k170 : ax_kd 170 = 1 ∧ ax_own 170 = 12 ∧ ax_ml 170 = 5 := by decide +kernel
theorem k171 : ax_kd 171 = 1 ∧ ax_own 171 = 12 ∧ ax_ml 171 = 4 := by decide +kernel
theorem k172 : ax_kd 172 = 1 ∧ ax_own 172 = 12 ∧ ax_ml 172 = 5 := by decide +kernel
theorem k173 : ax_kd 173 = 1 ∧ ax_own 173 = 12 ∧ ax_ml 173 = 4 := by decide +kernel
theorem k174 : ax_kd 174 = 1 ∧ ax_own 174 = 12 ∧ ax_ml 174 = 4 := by decide +kernel
theorem k175 : ax_kd 175 = 1 ∧ ax_own 175 = 12 ∧ ax_ml 175 = 7 := by decide +kernel
theorem k176 : ax_kd 176 = 1 ∧ ax_own 176 = 12 ∧ ax_ml 176 = 5 := by decide +kernel
theorem k177 : ax_kd 177 = 1 ∧ ax_own 177 = 12 ∧ ax_ml 177 = 9 := by decide +kernel
theorem k178 : ax_kd 178 = 1 ∧ ax_own 178 = 12 ∧ ax_ml 178 = 4 := by decide +kernel
theorem k179 : ax_kd 179 = 1 ∧ ax_own 179 = 12 ∧ ax_ml 179 = 2 := by decide +kernel
theorem k180 : ax_kd 180 = 1 ∧ ax_own 180 = 12 ∧ ax_ml 180 = 2 := by decide +kernel
theorem k181 : ax_kd 181 = 1 ∧ ax_own 181 = 12 ∧ ax_ml 181 = 2 := by decide +kernel
theorem k182 : ax_kd 182 = 1 ∧ ax_own 182 = 12 ∧ ax_ml 182 = 2 := by decide +kernel
theorem k183 : ax_kd 183 = 1 ∧ ax_own 183 = 12 ∧ ax_ml 183 = 1 := by decide +kernel
theorem k184 : ax_kd 184 = 1 ∧ ax_own 184 = 12 ∧ ax_ml 184 = 1 := by decide +kernel
theorem k185 : ax_kd 185 = 1 ∧ ax_own 185 = 12 ∧ ax_ml 185 = 1 := by decide +kernel
theorem k186 : ax_kd 186 = 1 ∧ ax_own 186 = 12 ∧ ax_ml 186 = 1 := by decide +kernel
theorem k187 : ax_kd 187 = 1 ∧ ax_own 187 = 12 ∧ ax_ml 187 = 2 := by decide +kernel
theorem k188 : ax_kd 188 = 1 ∧ ax_own 188 = 12 ∧ ax_ml 188 = 2 := by decide +kernel
theorem k189 : ax_kd 189 = 1 ∧ ax_own 189 = 12 ∧ ax_ml 189 = 2 := by decide +kernel
theorem k190 : ax_kd 190 = 1 ∧ ax_own 190 = 12 ∧ ax_ml 190 = 2 := by decide +kernel
theorem k191 : ax_kd 191 = 1 ∧ ax_own 191 = 12 ∧ ax_ml 191 = 2 := by decide +kernel
theorem k192 : ax_kd 192 = 1 ∧ ax_own 192 = 12 ∧ ax_ml 192 = 2 := by decide +kernel
theorem k193 : ax_kd 193 = 0 ∧ ax_ml 193 = 4 := by decide +kernel
theorem k194 : ax_kd 194 = 1 ∧ ax_own 194 = 12 ∧ ax_ml 194 = 4 := by decide +kernel
theorem k195 : ax_kd 195 = 1 ∧ ax_own 195 = 12 ∧ ax_ml 195 = 3 := by decide +kernel
theorem k196 : ax_kd 196 = 1 ∧ ax_own 196 = 12 ∧ ax_ml 196 = 5 := by decide +kernel
theorem k197 : ax_kd 197 = 1 ∧ ax_own 197 = 12 ∧ ax_ml 197 = 2 := by decide +kernel
theorem k198 : ax_kd 198 = 1 ∧ ax_own 198 = 12 ∧ ax_ml 198 = 5 := by decide +kernel
theorem k199 : ax_kd 199 = 1 ∧ ax_own 199 = 12 ∧ ax_ml 199 = 6 := by decide +kernel
theorem k200 : ax_kd 200 = 1 ∧ ax_own 200 = 12 ∧ ax_ml 200 = 2 := by decide +kernel
theorem k201 : ax_kd 201 = 1 ∧ ax_own 201 = 12 ∧ ax_ml 201 = 5 := by decide +kernel
theorem k202 : ax_kd 202 = 1 ∧ ax_own 202 = 12 ∧ ax_ml 202 = 2 := by decide +kernel
theorem k203 : ax_kd 203 = 1 ∧ ax_own 203 = 12 ∧ ax_ml 203 = 4 := by decide +kernel
theorem k204 : ax_kd 204 = 1 ∧ ax_own 204 = 12 ∧ ax_ml 204 = 5 := by decide +kernel
theorem k205 : ax_kd 205 = 1 ∧ ax_own 205 = 12 ∧ ax_ml 205 = 2 := by decide +kernel
theorem k206 : ax_kd 206 = 1 ∧ ax_own 206 = 12 ∧ ax_ml 206 = 4 := by decide +kernel
theorem k207 : ax_kd 207 = 1 ∧ ax_own 207 = 12 ∧ ax_ml 207 = 3 := by decide +kernel
theorem k208 : ax_kd 208 = 1 ∧ ax_own 208 = 12 ∧ ax_ml 208 = 2 := by decide +kernel
theorem k209 : ax_kd 209 = 1 ∧ ax_own 209 = 12 ∧ ax_ml 209 = 3 := by decide +kernel
theorem k210 : ax_kd 210 = 1 ∧ ax_own 210 = 12 ∧ ax_ml 210 = 4 := by decide +kernel
theorem k211 : ax_kd 211 = 1 ∧ ax_own 211 = 12 ∧ ax_ml 211 = 3 := by decide +kernel
theorem k212 : ax_kd 212 = 1 ∧ ax_own 212 = 12 ∧ ax_ml 212 = 4 := by decide +kernel
theorem k213 : ax_kd 213 = 1 ∧ ax_own 213 = 12 ∧ ax_ml 213 = 2 := by decide +kernel
theorem k214 : ax_kd 214 = 1 ∧ ax_own 214 = 12 ∧ ax_ml 214 = 2 := by decide +kernel
theorem k215 : ax_kd 215 = 1 ∧ ax_own 215 = 12 ∧ ax_ml 215 = 4 := by decide +kernel
theorem k216 : ax_kd 216 = 1 ∧ ax_own 216 = 12 ∧ ax_ml 216 = 3 := by decide +kernel
theorem k217 : ax_kd 217 = 1 ∧ ax_own 217 = 12 ∧ ax_ml 217 = 2 := by decide +kernel
theorem k218 : ax_kd 218 = 1 ∧ ax_own 218 = 12 ∧ ax_ml 218 = 9 := by decide +kernel
theorem k219 : ax_kd 219 = 1 ∧ ax_own 219 = 12 ∧ ax_ml 219 = 2 := by decide +kernel
theorem k220 : ax_kd 220 = 1 ∧ ax_own 220 = 12 ∧ ax_ml 220 = 3 := by decide +kernel
theorem k221 : ax_kd 221 = 1 ∧ ax_own 221 = 12 ∧ ax_ml 221 = 5 := by decide +kernel
theorem k222 : ax_kd 222 = 1 ∧ ax_own 222 = 12 ∧ ax_ml 222 = 3 := by decide +kernel
theorem k223 : ax_kd 223 = 1 ∧ ax_own 223 = 12 ∧ ax_ml 223 = 3 := by decide +kernel
theorem k224 : ax_kd 224 = 1 ∧ ax_own 224 = 12 ∧ ax_ml 224 = 3 := by decide +kernel
theorem k225 : ax_kd 225 = 1 ∧ ax_own 225 = 12 ∧ ax_ml 225 = 2 := by decide +kernel
theorem k226 : ax_kd 226 = 1 ∧ ax_own 226 = 12 ∧ ax_ml 226 = 2 := by decide +kernel
theorem k227 : ax_kd 227 = 1 ∧ ax_own 227 = 12 ∧ ax_ml 227 = 3 := by decide +kernel
theorem k228 : ax_kd 228 = 1 ∧ ax_own 228 = 12 ∧ ax_ml 228 = 3 := by decide +kernel
theorem k229 : ax_kd 229 = 1 ∧ ax_own 229 = 12 ∧ ax_ml 229 = 1 := by decide +kernel
theorem k230 : ax_kd 230 = 1 ∧ ax_own 230 = 12 ∧ ax_ml 230 = 1 := by decide +kernel
theorem k231 : ax_kd 231 = 1 ∧ ax_own 231 = 12 ∧ ax_ml 231 = 7 := by decide +kernel
theorem k232 : ax_kd 232 = 1 ∧ ax_own 232 = 12 ∧ ax_ml 232 = 6 := by decide +kernel
theorem k233 : ax_kd 233 = 1 ∧ ax_own 233 = 12 ∧ ax_ml 233 = 4 := by decide +kernel
theorem k234 : ax_kd 234 = 0 ∧ ax_ml 234 = 3 := by decide +kernel
theorem k235 : ax_kd 235 = 1 ∧ ax_own 235 = 12 ∧ ax_ml 235 = 3 := by decide +kernel
theorem k236 : ax_kd 236 = 1 ∧ ax_own 236 = 12 ∧ ax_ml 236 = 3 := by decide +kernel
theorem k237 : ax_kd 237 = 1 ∧ ax_own 237 = 12 ∧ ax_ml 237 = 3 := by decide +kernel
theorem k238 : ax_kd 238 = 1 ∧ ax_own 238 = 12 ∧ ax_ml 238 = 3 := by decide +kernel
theorem k239 : ax_kd 239 = 1 ∧ ax_own 239 = 12 ∧ ax_ml 239 = 3 := by decide +kernel
theorem k240 : ax_kd 240 = 0 ∧ ax_ml 240 = 2 := by decide +kernel
theorem k241 : ax_kd 241 = 1 ∧ ax_own 241 = 12 ∧ ax_ml 241 = 3 := by decide +kernel
theorem k242 : ax_kd 242 = 1 ∧ ax_own 242 = 12 ∧ ax_ml 242 = 8 := by decide +kernel
theorem k243 : ax_kd 243 = 1 ∧ ax_own 243 = 12 ∧ ax_ml 243 = 6 := by decide +kernel
theorem k244 : ax_kd 244 = 1 ∧ ax_own 244 = 12 ∧ ax_ml 244 = 1 := by decide +kernel
theorem k245 : ax_kd 245 = 1 ∧ ax_own 245 = 12 ∧ ax_ml 245 = 2 := by decide +kernel
theorem k246 : ax_kd 246 = 1 ∧ ax_own 246 = 12 ∧ ax_ml 246 = 3 := by decide +kernel
theorem k247 : ax_kd 247 = 1 ∧ ax_own 247 = 12 ∧ ax_ml 247 = 2 := by decide +kernel
theorem k248 : ax_kd 248 = 1 ∧ ax_own 248 = 12 ∧ ax_ml 248 = 4 := by decide +kernel
theorem k249 : ax_kd 249 = 1 ∧ ax_own 249 = 12 ∧ ax_ml 249 = 2 := by decide +kernel
theorem k250 : ax_kd 250 = 1 ∧ ax_own 250 = 12 ∧ ax_ml 250 = 3 := by decide +kernel
theorem k251 : ax_kd 251 = 1 ∧ ax_own 251 = 12 ∧ ax_ml 251 = 4 := by decide +kernel
theorem k252 : ax_kd 252 = 1 ∧ ax_own 252 = 12 ∧ ax_ml 252 = 5 := by decide +kernel
theorem k253 : ax_kd 253 = 1 ∧ ax_own 253 = 12 ∧ ax_ml 253 = 7 := by decide +kernel
theorem k254 : ax_kd 254 = 1 ∧ ax_own 254 = 12 ∧ ax_ml 254 = 2 := by decide +kernel
theorem k255 : ax_kd 255 = 1 ∧ ax_own 255 = 12 ∧ ax_ml 255 = 2 := by decide +kernel
theorem k256 : ax_kd 256 = 1 ∧ ax_own 256 = 12 ∧ ax_ml 256 = 1 := by decide +kernel
theorem k257 : ax_kd 257 = 1 ∧ ax_own 257 = 12 ∧ ax_ml 257 = 3 := by decide +kernel
theorem k258 : ax_kd 258 = 1 ∧ ax_own 258 = 12 ∧ ax_ml 258 = 3 := by decide +kernel
theorem k259 : ax_kd 259 = 1 ∧ ax_own 259 = 12 ∧ ax_ml 259 = 2 := by decide +kernel
theorem k260 : ax_kd 260 = 1 ∧ ax_own 260 = 12 ∧ ax_ml 260 = 2 := by decide +kernel
theorem k261 : ax_kd 261 = 1 ∧ ax_own 261 = 12 ∧ ax_ml 261 = 2 := by decide +kernel
theorem k262 : ax_kd 262 = 1 ∧ ax_own 262 = 12 ∧ ax_ml 262 = 4 := by decide +kernel
theorem k263 : ax_kd 263 = 1 ∧ ax_own 263 = 12 ∧ ax_ml 263 = 2 := by decide +kernel
theorem k264 : ax_kd 264 = 1 ∧ ax_own 264 = 12 ∧ ax_ml 264 = 3 := by decide +kernel
theorem k265 : ax_kd 265 = 1 ∧ ax_own 265 = 12 ∧ ax_ml 265 = 2 := by decide +kernel
theorem k266 : ax_kd 266 = 1 ∧ ax_own 266 = 12 ∧ ax_ml 266 = 1 := by decide +kernel
theorem k267 : ax_kd 267 = 0 ∧ ax_ml 267 = 1 := by decide +kernel
theorem k268 : ax_kd 268 = 1 ∧ ax_own 268 = 12 ∧ ax_ml 268 = 2 := by decide +kernel
theorem k269 : ax_kd 269 = 1 ∧ ax_own 269 = 12 ∧ ax_ml 269 = 1 := by decide +kernel
theorem k270 : ax_kd 270 = 1 ∧ ax_own 270 = 12 ∧ ax_ml 270 = 1 := by decide +kernel
theorem k271 : ax_kd 271 = 1 ∧ ax_own 271 = 12 ∧ ax_ml 271 = 4 := by decide +kernel
theorem k272 : ax_kd 272 = 1 ∧ ax_own 272 = 12 ∧ ax_ml 272 = 2 := by decide +kernel
theorem k273 : ax_kd 273 = 1 ∧ ax_own 273 = 12 ∧ ax_ml 273 = 1 := by decide +kernel
theorem k274 : ax_kd 274 = 1 ∧ ax_own 274 = 12 ∧ ax_ml 274 = 6 := by decide +kernel
theorem k275 : ax_kd 275 = 1 ∧ ax_own 275 = 12 ∧ ax_ml 275 = 2 := by decide +kernel
theorem k276 : ax_kd 276 = 1 ∧ ax_own 276 = 12 ∧ ax_ml 276 = 3 := by decide +kernel
theorem k277 : ax_kd 277 = 1 ∧ ax_own 277 = 12 ∧ ax_ml 277 = 2 := by decide +kernel
theorem k278 : ax_kd 278 = 1 ∧ ax_own 278 = 12 ∧ ax_ml 278 = 2 := by decide +kernel
theorem k279 : ax_kd 279 = 1 ∧ ax_own 279 = 12 ∧ ax_ml 279 = 1 := by decide +kernel
theorem k280 : ax_kd 280 = 1 ∧ ax_own 280 = 12 ∧ ax_ml 280 = 3 := by decide +kernel
theorem k281 : ax_kd 281 = 1 ∧ ax_own 281 = 12 ∧ ax_ml 281 = 1 := by decide +kernel
theorem k282 : ax_kd 282 = 0 ∧ ax_ml 282 = 2 := by decide +kernel
theorem k283 : ax_kd 283 = 0 ∧ ax_ml 283 = 6 := by decide +kernel
theorem k284 : ax_kd 284 = 1 ∧ ax_own 284 = 12 ∧ ax_ml 284 = 3 := by decide +kernel
theorem k285 : ax_kd 285 = 1 ∧ ax_own 285 = 12 ∧ ax_ml 285 = 6 := by decide +kernel
theorem k286 : ax_kd 286 = 1 ∧ ax_own 286 = 12 ∧ ax_ml 286 = 3 := by decide +kernel
theorem k287 : ax_kd 287 = 1 ∧ ax_own 287 = 12 ∧ ax_ml 287 = 5 := by decide +kernel
theorem k288 : ax_kd 288 = 1 ∧ ax_own 288 = 12 ∧ ax_ml 288 = 4 := by decide +kernel
theorem k289 : ax_kd 289 = 1 ∧ ax_own 289 = 12 ∧ ax_ml 289 = 2 := by decide +kernel
theorem k290 : ax_kd 290 = 1 ∧ ax_own 290 = 12 ∧ ax_ml 290 = 6 := by decide +kernel
theorem k291 : ax_kd 291 = 1 ∧ ax_own 291 = 12 ∧ ax_ml 291 = 3 := by decide +kernel
theorem k292 : ax_kd 292 = 0 ∧ ax_ml 292 = 4 := by decide +kernel
theorem k293 : ax_kd 293 = 1 ∧ ax_own 293 = 12 ∧ ax_ml 293 = 2 := by decide +kernel
theorem k294 : ax_kd 294 = 1 ∧ ax_own 294 = 12 ∧ ax_ml 294 = 2 := by decide +kernel
theorem k295 : ax_kd 295 = 1 ∧ ax_own 295 = 12 ∧ ax_ml 295 = 3 := by decide +kernel
theorem k296 : ax_kd 296 = 1 ∧ ax_own 296 = 12 ∧ ax_ml 296 = 2 := by decide +kernel
theorem k297 : ax_kd 297 = 1 ∧ ax_own 297 = 12 ∧ ax_ml 297 = 2 := by decide +kernel
theorem k298 : ax_kd 298 = 1 ∧ ax_own 298 = 12 ∧ ax_ml 298 = 5 := by decide +kernel
theorem k299 : ax_kd 299 = 1 ∧ ax_own 299 = 12 ∧ ax_ml 299 = 5 := by decide +kernel
theorem k300 : ax_kd 300 = 1 ∧ ax_own 300 = 12 ∧ ax_ml 300 = 2 := by decide +kernel
theorem sh90 : SH[90]? = some (1, 0, 8) := by decide +kernel
theorem sh91 : SH[91]? = some (1, 0, 8) := by decide +kernel
theorem sh92 : SH[92]? = some (1, 0, 8) := by decide +kernel
theorem sh93 : SH[93]? = some (1, 0, 8) := by decide +kernel
theorem sh94 : SH[94]? = some (1, 4, 8) := by decide +kernel
theorem sh95 : SH[95]? = some (1, 0, 8) := by decide +kernel
theorem sh96 : SH[96]? = some (1, 0, 8) := by decide +kernel
theorem sh97 : SH[97]? = some (1, 0, 8) := by decide +kernel
theorem sh98 : SH[98]? = some (1, 0, 8) := by decide +kernel
theorem sh99 : SH[99]? = some (1, 0, 8) := by decide +kernel
theorem sh100 : SH[100]? = some (1, 0, 8) := by decide +kernel
theorem sh101 : SH[101]? = some (1, 0, 8) := by decide +kernel
theorem sh102 : SH[102]? = some (1, 0, 8) := by decide +kernel
theorem sh103 : SH[103]? = some (1, 0, 8) := by decide +kernel
theorem sh104 : SH[104]? = some (1, 0, 10) := by decide +kernel
theorem sh105 : SH[105]? = some (1, 0, 10) := by decide +kernel
theorem sh106 : SH[106]? = some (1, 0, 5) := by decide +kernel
theorem sh107 : SH[107]? = some (0, 6, ax_fl 6) := by decide +kernel
theorem sh108 : SH[108]? = some (1, 0, 5) := by decide +kernel
theorem sh109 : SH[109]? = some (1, 0, 5) := by decide +kernel
theorem sh110 : SH[110]? = some (0, 0, ax_fl 0) := by decide +kernel
theorem sh111 : SH[111]? = some (1, 0, 8) := by decide +kernel
theorem sh112 : SH[112]? = some (1, 0, 8) := by decide +kernel
theorem sh113 : SH[113]? = some (1, 5, 8) := by decide +kernel
theorem sh114 : SH[114]? = some (1, 1, 8) := by decide +kernel
theorem sh115 : SH[115]? = some (1, 1, 8) := by decide +kernel
theorem sh116 : SH[116]? = some (1, 1, 8) := by decide +kernel
theorem sh117 : SH[117]? = some (1, 1, 8) := by decide +kernel
theorem sh118 : SH[118]? = some (1, 1, 8) := by decide +kernel
theorem sh119 : SH[119]? = some (1, 1, 8) := by decide +kernel
theorem sh120 : SH[120]? = some (1, 1, 8) := by decide +kernel
theorem sh121 : SH[121]? = some (1, 1, 8) := by decide +kernel
theorem sh122 : SH[122]? = some (0, 9, ax_fl 9) := by decide +kernel
theorem sh123 : SH[123]? = some (1, 0, 16) := by decide +kernel
theorem sh124 : SH[124]? = some (1, 0, 16) := by decide +kernel
theorem sh125 : SH[125]? = some (1, 0, 11) := by decide +kernel
theorem sh126 : SH[126]? = some (1, 4, 11) := by decide +kernel
theorem sh127 : SH[127]? = some (1, 0, 8) := by decide +kernel
theorem sh128 : SH[128]? = some (1, 0, 8) := by decide +kernel
theorem sh129 : SH[129]? = some (1, 0, 8) := by decide +kernel
theorem sh130 : SH[130]? = some (1, 0, 8) := by decide +kernel
theorem sh131 : SH[131]? = some (1, 0, 8) := by decide +kernel
theorem sh132 : SH[132]? = some (1, 0, 8) := by decide +kernel
theorem sh133 : SH[133]? = some (1, 0, 8) := by decide +kernel
theorem sh134 : SH[134]? = some (1, 0, 8) := by decide +kernel
theorem sh135 : SH[135]? = some (1, 0, 8) := by decide +kernel
theorem sh136 : SH[136]? = some (1, 0, 8) := by decide +kernel
theorem sh137 : SH[137]? = some (1, 0, 8) := by decide +kernel
theorem sh138 : SH[138]? = some (1, 0, 7) := by decide +kernel
theorem sh139 : SH[139]? = some (1, 0, 74) := by decide +kernel
theorem sh140 : SH[140]? = some (1, 0, 6) := by decide +kernel
theorem sh141 : SH[141]? = some (1, 0, 44) := by decide +kernel
theorem sh143 : SH[143]? = some (1, 0, 1600) := by decide +kernel
theorem sh144 : SH[144]? = some (1, 0, 6) := by decide +kernel
theorem sh145 : SH[145]? = some (1, 2, 4) := by decide +kernel
theorem sh146 : SH[146]? = some (1, 2, 5) := by decide +kernel
theorem sh147 : SH[147]? = some (1, 2, 2) := by decide +kernel
theorem sh148 : SH[148]? = some (1, 2, 4) := by decide +kernel
theorem sh149 : SH[149]? = some (1, 2, 4) := by decide +kernel
theorem sh150 : SH[150]? = some (1, 2, 4) := by decide +kernel
theorem sh151 : SH[151]? = some (1, 2, 5) := by decide +kernel
theorem sh152 : SH[152]? = some (1, 2, 2) := by decide +kernel
theorem sh153 : SH[153]? = some (1, 2, 2) := by decide +kernel
theorem sh154 : SH[154]? = some (1, 2, 4) := by decide +kernel
theorem sh155 : SH[155]? = some (1, 2, 3) := by decide +kernel
theorem sh156 : SH[156]? = some (1, 2, 5) := by decide +kernel
theorem sh157 : SH[157]? = some (1, 2, 4) := by decide +kernel
theorem sh158 : SH[158]? = some (1, 2, 5) := by decide +kernel
theorem sh159 : SH[159]? = some (1, 2, 5) := by decide +kernel
theorem sh160 : SH[160]? = some (1, 2, 5) := by decide +kernel
theorem sh161 : SH[161]? = some (1, 2, 5) := by decide +kernel
theorem sh162 : SH[162]? = some (1, 2, 6) := by decide +kernel
theorem sh163 : SH[163]? = some (1, 2, 5) := by decide +kernel
theorem sh164 : SH[164]? = some (1, 2, 5) := by decide +kernel
theorem sh165 : SH[165]? = some (1, 2, 4) := by decide +kernel
theorem sh166 : SH[166]? = some (1, 2, 6) := by decide +kernel
theorem sh167 : SH[167]? = some (1, 2, 3) := by decide +kernel
theorem sh168 : SH[168]? = some (1, 2, 6) := by decide +kernel
theorem sh169 : SH[169]? = some (1, 2, 5) := by decide +kernel
theorem sh170 : SH[170]? = some (1, 2, 2) := by decide +kernel
theorem sh171 : SH[171]? = some (1, 2, 3) := by decide +kernel
theorem sh172 : SH[172]? = some (1, 2, 3) := by decide +kernel
theorem sh173 : SH[173]? = some (1, 2, 3) := by decide +kernel
theorem sh174 : SH[174]? = some (1, 2, 3) := by decide +kernel
theorem sh175 : SH[175]? = some (1, 2, 3) := by decide +kernel
theorem sh176 : SH[176]? = some (1, 0, 8) := by decide +kernel
theorem sh177 : SH[177]? = some (1, 1, 48) := by decide +kernel
theorem sh178 : SH[178]? = some (1, 0, 60) := by decide +kernel
theorem sh179 : SH[179]? = some (1, 0, 5) := by decide +kernel
theorem sh180 : SH[180]? = some (1, 0, 64) := by decide +kernel
theorem sh181 : SH[181]? = some (1, 0, 6) := by decide +kernel
theorem sh182 : SH[182]? = some (1, 0, 4) := by decide +kernel
theorem sh183 : SH[183]? = some (1, 0, 4) := by decide +kernel
theorem sh184 : SH[184]? = some (1, 0, 3200) := by decide +kernel
theorem sh185 : SH[185]? = some (1, 0, 44) := by decide +kernel
theorem sh186 : SH[186]? = some (1, 0, 44) := by decide +kernel
theorem sh187 : SH[187]? = some (1, 0, 8) := by decide +kernel
theorem sh188 : SH[188]? = some (1, 0, 10) := by decide +kernel
theorem sh189 : SH[189]? = some (1, 0, 8) := by decide +kernel
theorem sh190 : SH[190]? = some (1, 0, 8) := by decide +kernel
theorem sh191 : SH[191]? = some (1, 0, 8) := by decide +kernel
theorem sh192 : SH[192]? = some (1, 0, 72) := by decide +kernel
theorem sh193 : SH[193]? = some (1, 0, 64) := by decide +kernel
theorem sh194 : SH[194]? = some (1, 0, 5) := by decide +kernel
theorem sh195 : SH[195]? = some (1, 0, 5) := by decide +kernel
theorem sh196 : SH[196]? = some (1, 0, 5) := by decide +kernel
theorem sh197 : SH[197]? = some (1, 1, 64) := by decide +kernel
theorem sh198 : SH[198]? = some (1, 1, 256) := by decide +kernel
theorem sh199 : SH[199]? = some (1, 0, 8) := by decide +kernel
theorem sh200 : SH[200]? = some (1, 0, 32) := by decide +kernel
theorem sh201 : SH[201]? = some (1, 0, 88) := by decide +kernel
theorem sh202 : SH[202]? = some (1, 3, 11) := by decide +kernel
theorem sh203 : SH[203]? = some (1, 0, 880) := by decide +kernel
theorem sh204 : SH[204]? = some (1, 2, 5) := by decide +kernel
theorem sh205 : SH[205]? = some (1, 2, 4) := by decide +kernel
theorem sh206 : SH[206]? = some (1, 2, 5) := by decide +kernel
theorem sh207 : SH[207]? = some (1, 2, 5) := by decide +kernel
theorem sh208 : SH[208]? = some (1, 2, 4) := by decide +kernel
theorem sh209 : SH[209]? = some (1, 2, 5) := by decide +kernel
theorem sh210 : SH[210]? = some (1, 2, 3) := by decide +kernel
theorem sh211 : SH[211]? = some (1, 2, 3) := by decide +kernel
theorem sh212 : SH[212]? = some (1, 2, 2) := by decide +kernel
theorem sh213 : SH[213]? = some (1, 2, 3) := by decide +kernel
theorem sh214 : SH[214]? = some (1, 2, 3) := by decide +kernel
theorem sh215 : SH[215]? = some (1, 2, 3) := by decide +kernel
theorem sh216 : SH[216]? = some (1, 2, 4) := by decide +kernel
theorem sh217 : SH[217]? = some (1, 2, 3) := by decide +kernel
theorem sh218 : SH[218]? = some (1, 2, 5) := by decide +kernel
theorem sh219 : SH[219]? = some (1, 2, 6) := by decide +kernel
theorem sh220 : SH[220]? = some (1, 2, 5) := by decide +kernel
theorem sh221 : SH[221]? = some (1, 2, 5) := by decide +kernel
theorem sh222 : SH[222]? = some (1, 2, 4) := by decide +kernel
theorem sh223 : SH[223]? = some (1, 2, 6) := by decide +kernel
theorem sh224 : SH[224]? = some (1, 2, 4) := by decide +kernel
theorem sh225 : SH[225]? = some (1, 2, 3) := by decide +kernel
theorem sh226 : SH[226]? = some (1, 2, 6) := by decide +kernel
theorem sh227 : SH[227]? = some (1, 2, 5) := by decide +kernel
theorem sh228 : SH[228]? = some (1, 0, 1700) := by decide +kernel
theorem sh229 : SH[229]? = some (1, 0, 1700) := by decide +kernel
theorem sh230 : SH[230]? = some (1, 1, 1700) := by decide +kernel
theorem sh231 : SH[231]? = some (1, 0, 74) := by decide +kernel
theorem fx_71_0 : ax_fw ax_fx 71 0 = some 72 := by decide +kernel
theorem fx_71_1 : ax_fw ax_fx 71 1 = some 73 := by decide +kernel
theorem fx_71_2 : ax_fw ax_fx 71 2 = some 74 := by decide +kernel
theorem fx_71_3 : ax_fw ax_fx 71 3 = some 75 := by decide +kernel
theorem fx_71_4 : ax_fw ax_fx 71 4 = some 85 := by decide +kernel
theorem fx_71_5 : ax_fw ax_fx 71 5 = some 94 := by decide +kernel
theorem fx_71_7 : ax_fw ax_fx 71 7 = some 103 := by decide +kernel
theorem fx_71_8 : ax_fw ax_fx 71 8 = some 104 := by decide +kernel
theorem fx_71_9 : ax_fw ax_fx 71 9 = some 105 := by decide +kernel
theorem fx_71_10 : ax_fw ax_fx 71 10 = some 106 := by decide +kernel
theorem fx_107_0 : ax_fw ax_fx 107 0 = some 108 := by decide +kernel
theorem fx_107_2 : ax_fw ax_fx 107 2 = some 109 := by decide +kernel
theorem fx_110_0 : ax_fw ax_fx 110 0 = some 111 := by decide +kernel
theorem fx_110_2 : ax_fw ax_fx 110 2 = some 112 := by decide +kernel
theorem fx_110_3 : ax_fw ax_fx 110 3 = some 113 := by decide +kernel
theorem fx_122_1 : ax_fw ax_fx 122 1 = some 123 := by decide +kernel
theorem fx_122_2 : ax_fw ax_fx 122 2 = some 124 := by decide +kernel
theorem fx_122_3 : ax_fw ax_fx 122 3 = some 125 := by decide +kernel
theorem fx_122_4 : ax_fw ax_fx 122 4 = some 126 := by decide +kernel
theorem fx_142_0 : ax_fw ax_fx 142 0 = some 143 := by decide +kernel
theorem fx_142_9 : ax_fw ax_fx 142 9 = some 144 := by decide +kernel
theorem fx_142_10 : ax_fw ax_fx 142 10 = some 145 := by decide +kernel
theorem fx_142_11 : ax_fw ax_fx 142 11 = some 146 := by decide +kernel
theorem fx_142_12 : ax_fw ax_fx 142 12 = some 147 := by decide +kernel
theorem fx_142_13 : ax_fw ax_fx 142 13 = some 148 := by decide +kernel
theorem fx_142_14 : ax_fw ax_fx 142 14 = some 149 := by decide +kernel
theorem fx_142_15 : ax_fw ax_fx 142 15 = some 150 := by decide +kernel
theorem fx_142_16 : ax_fw ax_fx 142 16 = some 151 := by decide +kernel
theorem fx_142_17 : ax_fw ax_fx 142 17 = some 152 := by decide +kernel
theorem fx_142_18 : ax_fw ax_fx 142 18 = some 153 := by decide +kernel
theorem fx_142_19 : ax_fw ax_fx 142 19 = some 154 := by decide +kernel
theorem fx_142_20 : ax_fw ax_fx 142 20 = some 155 := by decide +kernel
theorem fx_142_21 : ax_fw ax_fx 142 21 = some 156 := by decide +kernel
theorem fx_142_22 : ax_fw ax_fx 142 22 = some 157 := by decide +kernel
theorem fx_142_23 : ax_fw ax_fx 142 23 = some 158 := by decide +kernel
theorem fx_142_24 : ax_fw ax_fx 142 24 = some 159 := by decide +kernel
theorem fx_142_25 : ax_fw ax_fx 142 25 = some 160 := by decide +kernel
theorem fx_142_26 : ax_fw ax_fx 142 26 = some 161 := by decide +kernel
theorem fx_142_27 : ax_fw ax_fx 142 27 = some 162 := by decide +kernel
theorem fx_142_28 : ax_fw ax_fx 142 28 = some 163 := by decide +kernel
theorem fx_142_29 : ax_fw ax_fx 142 29 = some 164 := by decide +kernel
theorem fx_142_30 : ax_fw ax_fx 142 30 = some 165 := by decide +kernel
theorem fx_142_31 : ax_fw ax_fx 142 31 = some 166 := by decide +kernel
theorem fx_142_32 : ax_fw ax_fx 142 32 = some 167 := by decide +kernel
theorem fx_142_33 : ax_fw ax_fx 142 33 = some 168 := by decide +kernel
theorem fx_142_34 : ax_fw ax_fx 142 34 = some 169 := by decide +kernel
theorem fx_142_35 : ax_fw ax_fx 142 35 = some 170 := by decide +kernel
theorem fx_142_36 : ax_fw ax_fx 142 36 = some 171 := by decide +kernel
theorem fx_142_37 : ax_fw ax_fx 142 37 = some 172 := by decide +kernel
theorem fx_142_38 : ax_fw ax_fx 142 38 = some 173 := by decide +kernel
theorem fx_142_39 : ax_fw ax_fx 142 39 = some 174 := by decide +kernel
theorem fx_142_40 : ax_fw ax_fx 142 40 = some 175 := by decide +kernel
theorem fx_142_42 : ax_fw ax_fx 142 42 = some 176 := by decide +kernel
theorem fx_142_43 : ax_fw ax_fx 142 43 = some 177 := by decide +kernel
theorem fx_142_44 : ax_fw ax_fx 142 44 = some 178 := by decide +kernel
theorem fx_142_45 : ax_fw ax_fx 142 45 = some 179 := by decide +kernel
theorem fx_142_46 : ax_fw ax_fx 142 46 = some 180 := by decide +kernel
theorem fx_142_47 : ax_fw ax_fx 142 47 = some 181 := by decide +kernel
theorem fx_142_48 : ax_fw ax_fx 142 48 = some 182 := by decide +kernel
theorem fx_142_49 : ax_fw ax_fx 142 49 = some 183 := by decide +kernel
theorem fx_142_50 : ax_fw ax_fx 142 50 = some 184 := by decide +kernel
theorem fx_142_54 : ax_fw ax_fx 142 54 = some 185 := by decide +kernel
theorem fx_142_55 : ax_fw ax_fx 142 55 = some 186 := by decide +kernel
theorem fx_142_60 : ax_fw ax_fx 142 60 = some 187 := by decide +kernel
theorem fx_142_61 : ax_fw ax_fx 142 61 = some 188 := by decide +kernel
theorem fx_142_62 : ax_fw ax_fx 142 62 = some 189 := by decide +kernel
theorem fx_142_63 : ax_fw ax_fx 142 63 = some 190 := by decide +kernel
theorem fx_142_64 : ax_fw ax_fx 142 64 = some 191 := by decide +kernel
theorem fx_142_65 : ax_fw ax_fx 142 65 = some 192 := by decide +kernel
theorem fx_142_66 : ax_fw ax_fx 142 66 = some 193 := by decide +kernel
theorem fx_142_68 : ax_fw ax_fx 142 68 = some 194 := by decide +kernel
theorem fx_142_71 : ax_fw ax_fx 142 71 = some 195 := by decide +kernel
theorem fx_142_72 : ax_fw ax_fx 142 72 = some 196 := by decide +kernel
theorem fx_142_73 : ax_fw ax_fx 142 73 = some 197 := by decide +kernel
theorem fx_142_74 : ax_fw ax_fx 142 74 = some 198 := by decide +kernel
theorem fx_142_75 : ax_fw ax_fx 142 75 = some 199 := by decide +kernel
theorem fx_142_77 : ax_fw ax_fx 142 77 = some 200 := by decide +kernel
theorem fx_142_78 : ax_fw ax_fx 142 78 = some 201 := by decide +kernel
theorem fx_142_79 : ax_fw ax_fx 142 79 = some 202 := by decide +kernel
theorem fx_142_81 : ax_fw ax_fx 142 81 = some 203 := by decide +kernel
theorem fx_142_85 : ax_fw ax_fx 142 85 = some 204 := by decide +kernel
theorem fx_142_86 : ax_fw ax_fx 142 86 = some 205 := by decide +kernel
theorem fx_142_87 : ax_fw ax_fx 142 87 = some 206 := by decide +kernel
theorem fx_142_88 : ax_fw ax_fx 142 88 = some 207 := by decide +kernel
theorem fx_142_89 : ax_fw ax_fx 142 89 = some 208 := by decide +kernel
theorem fx_142_90 : ax_fw ax_fx 142 90 = some 209 := by decide +kernel
theorem fx_142_91 : ax_fw ax_fx 142 91 = some 210 := by decide +kernel
theorem fx_142_92 : ax_fw ax_fx 142 92 = some 211 := by decide +kernel
theorem fx_142_93 : ax_fw ax_fx 142 93 = some 212 := by decide +kernel
theorem fx_142_94 : ax_fw ax_fx 142 94 = some 213 := by decide +kernel
theorem fx_142_95 : ax_fw ax_fx 142 95 = some 214 := by decide +kernel
theorem fx_142_96 : ax_fw ax_fx 142 96 = some 215 := by decide +kernel
theorem fx_142_97 : ax_fw ax_fx 142 97 = some 216 := by decide +kernel
theorem fx_142_98 : ax_fw ax_fx 142 98 = some 217 := by decide +kernel
theorem fx_142_99 : ax_fw ax_fx 142 99 = some 218 := by decide +kernel
theorem fx_142_100 : ax_fw ax_fx 142 100 = some 219 := by decide +kernel
theorem fx_142_101 : ax_fw ax_fx 142 101 = some 220 := by decide +kernel
theorem fx_142_102 : ax_fw ax_fx 142 102 = some 221 := by decide +kernel
theorem fx_142_103 : ax_fw ax_fx 142 103 = some 222 := by decide +kernel
theorem fx_142_104 : ax_fw ax_fx 142 104 = some 223 := by decide +kernel
theorem fx_142_105 : ax_fw ax_fx 142 105 = some 224 := by decide +kernel
theorem fx_142_106 : ax_fw ax_fx 142 106 = some 225 := by decide +kernel
theorem fx_142_107 : ax_fw ax_fx 142 107 = some 226 := by decide +kernel
theorem fx_142_108 : ax_fw ax_fx 142 108 = some 227 := by decide +kernel
theorem fx_142_109 : ax_fw ax_fx 142 109 = some 228 := by decide +kernel
theorem fx_142_111 : ax_fw ax_fx 142 111 = some 229 := by decide +kernel
theorem fx_142_115 : ax_fw ax_fx 142 115 = some 230 := by decide +kernel
theorem fx_142_119 : ax_fw ax_fx 142 119 = some 231 := by decide +kernel
theorem flt12 {g : Nat} (h : Nat.ble (g + 1) 121 = true) : g < ax_fl 12 := by
  have e : ax_fl 12 = 121 := by decide +kernel
  rw [e]
  exact Nat.le_of_ble_eq_true h
theorem fy12_0 : ax_fty 12 0 = 2 := by decide +kernel
theorem ft12_0 : ax_ft (ax_fty 12 0) = 2 := by decide +kernel
theorem fy12_1 : ax_fty 12 1 = 0 := by decide +kernel
theorem ft12_1 : ax_ft (ax_fty 12 1) = 0 := by decide +kernel
theorem fy12_2 : ax_fty 12 2 = 0 := by decide +kernel
theorem ft12_2 : ax_ft (ax_fty 12 2) = 0 := by decide +kernel
theorem fy12_3 : ax_fty 12 3 = 0 := by decide +kernel
theorem ft12_3 : ax_ft (ax_fty 12 3) = 0 := by decide +kernel
theorem fy12_4 : ax_fty 12 4 = 0 := by decide +kernel
theorem ft12_4 : ax_ft (ax_fty 12 4) = 0 := by decide +kernel
theorem fy12_5 : ax_fty 12 5 = 0 := by decide +kernel
theorem ft12_5 : ax_ft (ax_fty 12 5) = 0 := by decide +kernel
theorem fy12_6 : ax_fty 12 6 = 0 := by decide +kernel
theorem ft12_6 : ax_ft (ax_fty 12 6) = 0 := by decide +kernel
theorem fy12_7 : ax_fty 12 7 = 0 := by decide +kernel
theorem ft12_7 : ax_ft (ax_fty 12 7) = 0 := by decide +kernel
theorem fy12_8 : ax_fty 12 8 = 0 := by decide +kernel
theorem ft12_8 : ax_ft (ax_fty 12 8) = 0 := by decide +kernel
theorem fy12_9 : ax_fty 12 9 = 2 := by decide +kernel
theorem ft12_9 : ax_ft (ax_fty 12 9) = 2 := by decide +kernel
theorem fy12_10 : ax_fty 12 10 = 2 := by decide +kernel
theorem ft12_10 : ax_ft (ax_fty 12 10) = 2 := by decide +kernel
theorem fy12_11 : ax_fty 12 11 = 2 := by decide +kernel
theorem ft12_11 : ax_ft (ax_fty 12 11) = 2 := by decide +kernel
theorem fy12_12 : ax_fty 12 12 = 2 := by decide +kernel
theorem ft12_12 : ax_ft (ax_fty 12 12) = 2 := by decide +kernel
theorem fy12_13 : ax_fty 12 13 = 2 := by decide +kernel
theorem ft12_13 : ax_ft (ax_fty 12 13) = 2 := by decide +kernel
theorem fy12_14 : ax_fty 12 14 = 2 := by decide +kernel
theorem ft12_14 : ax_ft (ax_fty 12 14) = 2 := by decide +kernel
theorem fy12_15 : ax_fty 12 15 = 2 := by decide +kernel
theorem ft12_15 : ax_ft (ax_fty 12 15) = 2 := by decide +kernel
theorem fy12_16 : ax_fty 12 16 = 2 := by decide +kernel
theorem ft12_16 : ax_ft (ax_fty 12 16) = 2 := by decide +kernel
theorem fy12_17 : ax_fty 12 17 = 2 := by decide +kernel
theorem ft12_17 : ax_ft (ax_fty 12 17) = 2 := by decide +kernel
theorem fy12_18 : ax_fty 12 18 = 2 := by decide +kernel
theorem ft12_18 : ax_ft (ax_fty 12 18) = 2 := by decide +kernel
theorem fy12_19 : ax_fty 12 19 = 2 := by decide +kernel
theorem ft12_19 : ax_ft (ax_fty 12 19) = 2 := by decide +kernel
theorem fy12_20 : ax_fty 12 20 = 2 := by decide +kernel
theorem ft12_20 : ax_ft (ax_fty 12 20) = 2 := by decide +kernel
theorem fy12_21 : ax_fty 12 21 = 2 := by decide +kernel
theorem ft12_21 : ax_ft (ax_fty 12 21) = 2 := by decide +kernel
theorem fy12_22 : ax_fty 12 22 = 2 := by decide +kernel
theorem ft12_22 : ax_ft (ax_fty 12 22) = 2 := by decide +kernel
theorem fy12_23 : ax_fty 12 23 = 2 := by decide +kernel
theorem ft12_23 : ax_ft (ax_fty 12 23) = 2 := by decide +kernel
theorem fy12_24 : ax_fty 12 24 = 2 := by decide +kernel
theorem ft12_24 : ax_ft (ax_fty 12 24) = 2 := by decide +kernel
theorem fy12_25 : ax_fty 12 25 = 2 := by decide +kernel
theorem ft12_25 : ax_ft (ax_fty 12 25) = 2 := by decide +kernel
theorem fy12_26 : ax_fty 12 26 = 2 := by decide +kernel
theorem ft12_26 : ax_ft (ax_fty 12 26) = 2 := by decide +kernel
theorem fy12_27 : ax_fty 12 27 = 2 := by decide +kernel
theorem ft12_27 : ax_ft (ax_fty 12 27) = 2 := by decide +kernel
theorem fy12_28 : ax_fty 12 28 = 2 := by decide +kernel
theorem ft12_28 : ax_ft (ax_fty 12 28) = 2 := by decide +kernel
theorem fy12_29 : ax_fty 12 29 = 2 := by decide +kernel
theorem ft12_29 : ax_ft (ax_fty 12 29) = 2 := by decide +kernel
theorem fy12_30 : ax_fty 12 30 = 2 := by decide +kernel
theorem ft12_30 : ax_ft (ax_fty 12 30) = 2 := by decide +kernel
theorem fy12_31 : ax_fty 12 31 = 2 := by decide +kernel
theorem ft12_31 : ax_ft (ax_fty 12 31) = 2 := by decide +kernel
theorem fy12_32 : ax_fty 12 32 = 2 := by decide +kernel
theorem ft12_32 : ax_ft (ax_fty 12 32) = 2 := by decide +kernel
theorem fy12_33 : ax_fty 12 33 = 2 := by decide +kernel
theorem ft12_33 : ax_ft (ax_fty 12 33) = 2 := by decide +kernel
theorem fy12_34 : ax_fty 12 34 = 2 := by decide +kernel
theorem ft12_34 : ax_ft (ax_fty 12 34) = 2 := by decide +kernel
theorem fy12_35 : ax_fty 12 35 = 2 := by decide +kernel
theorem ft12_35 : ax_ft (ax_fty 12 35) = 2 := by decide +kernel
theorem fy12_36 : ax_fty 12 36 = 2 := by decide +kernel
theorem ft12_36 : ax_ft (ax_fty 12 36) = 2 := by decide +kernel
theorem fy12_37 : ax_fty 12 37 = 2 := by decide +kernel
theorem ft12_37 : ax_ft (ax_fty 12 37) = 2 := by decide +kernel
theorem fy12_38 : ax_fty 12 38 = 2 := by decide +kernel
theorem ft12_38 : ax_ft (ax_fty 12 38) = 2 := by decide +kernel
theorem fy12_39 : ax_fty 12 39 = 2 := by decide +kernel
theorem ft12_39 : ax_ft (ax_fty 12 39) = 2 := by decide +kernel
theorem fy12_40 : ax_fty 12 40 = 2 := by decide +kernel
theorem ft12_40 : ax_ft (ax_fty 12 40) = 2 := by decide +kernel
theorem fy12_41 : ax_fty 12 41 = 0 := by decide +kernel
theorem ft12_41 : ax_ft (ax_fty 12 41) = 0 := by decide +kernel
theorem fy12_42 : ax_fty 12 42 = 2 := by decide +kernel
theorem ft12_42 : ax_ft (ax_fty 12 42) = 2 := by decide +kernel
theorem fy12_43 : ax_fty 12 43 = 2 := by decide +kernel
theorem ft12_43 : ax_ft (ax_fty 12 43) = 2 := by decide +kernel
theorem fy12_44 : ax_fty 12 44 = 2 := by decide +kernel
theorem ft12_44 : ax_ft (ax_fty 12 44) = 2 := by decide +kernel
theorem fy12_45 : ax_fty 12 45 = 2 := by decide +kernel
theorem ft12_45 : ax_ft (ax_fty 12 45) = 2 := by decide +kernel
theorem fy12_46 : ax_fty 12 46 = 2 := by decide +kernel
theorem ft12_46 : ax_ft (ax_fty 12 46) = 2 := by decide +kernel
theorem fy12_47 : ax_fty 12 47 = 2 := by decide +kernel
theorem ft12_47 : ax_ft (ax_fty 12 47) = 2 := by decide +kernel
theorem fy12_48 : ax_fty 12 48 = 2 := by decide +kernel
theorem ft12_48 : ax_ft (ax_fty 12 48) = 2 := by decide +kernel
theorem fy12_49 : ax_fty 12 49 = 2 := by decide +kernel
theorem ft12_49 : ax_ft (ax_fty 12 49) = 2 := by decide +kernel
theorem fy12_50 : ax_fty 12 50 = 2 := by decide +kernel
theorem ft12_50 : ax_ft (ax_fty 12 50) = 2 := by decide +kernel
theorem fy12_51 : ax_fty 12 51 = 0 := by decide +kernel
theorem ft12_51 : ax_ft (ax_fty 12 51) = 0 := by decide +kernel
theorem fy12_52 : ax_fty 12 52 = 0 := by decide +kernel
theorem ft12_52 : ax_ft (ax_fty 12 52) = 0 := by decide +kernel
theorem fy12_53 : ax_fty 12 53 = 0 := by decide +kernel
theorem ft12_53 : ax_ft (ax_fty 12 53) = 0 := by decide +kernel
theorem fy12_54 : ax_fty 12 54 = 2 := by decide +kernel
theorem ft12_54 : ax_ft (ax_fty 12 54) = 2 := by decide +kernel
theorem fy12_55 : ax_fty 12 55 = 2 := by decide +kernel
theorem ft12_55 : ax_ft (ax_fty 12 55) = 2 := by decide +kernel
theorem fy12_56 : ax_fty 12 56 = 0 := by decide +kernel
theorem ft12_56 : ax_ft (ax_fty 12 56) = 0 := by decide +kernel
theorem fy12_57 : ax_fty 12 57 = 0 := by decide +kernel
theorem ft12_57 : ax_ft (ax_fty 12 57) = 0 := by decide +kernel
theorem fy12_58 : ax_fty 12 58 = 0 := by decide +kernel
theorem ft12_58 : ax_ft (ax_fty 12 58) = 0 := by decide +kernel
theorem fy12_59 : ax_fty 12 59 = 0 := by decide +kernel
theorem ft12_59 : ax_ft (ax_fty 12 59) = 0 := by decide +kernel
theorem fy12_60 : ax_fty 12 60 = 2 := by decide +kernel
theorem ft12_60 : ax_ft (ax_fty 12 60) = 2 := by decide +kernel
theorem fy12_61 : ax_fty 12 61 = 2 := by decide +kernel
theorem ft12_61 : ax_ft (ax_fty 12 61) = 2 := by decide +kernel
theorem fy12_62 : ax_fty 12 62 = 2 := by decide +kernel
theorem ft12_62 : ax_ft (ax_fty 12 62) = 2 := by decide +kernel
theorem fy12_63 : ax_fty 12 63 = 2 := by decide +kernel
theorem ft12_63 : ax_ft (ax_fty 12 63) = 2 := by decide +kernel
theorem fy12_64 : ax_fty 12 64 = 2 := by decide +kernel
theorem ft12_64 : ax_ft (ax_fty 12 64) = 2 := by decide +kernel
theorem fy12_65 : ax_fty 12 65 = 2 := by decide +kernel
theorem ft12_65 : ax_ft (ax_fty 12 65) = 2 := by decide +kernel
theorem fy12_66 : ax_fty 12 66 = 2 := by decide +kernel
theorem ft12_66 : ax_ft (ax_fty 12 66) = 2 := by decide +kernel
theorem fy12_67 : ax_fty 12 67 = 0 := by decide +kernel
theorem ft12_67 : ax_ft (ax_fty 12 67) = 0 := by decide +kernel
theorem fy12_68 : ax_fty 12 68 = 2 := by decide +kernel
theorem ft12_68 : ax_ft (ax_fty 12 68) = 2 := by decide +kernel
theorem fy12_69 : ax_fty 12 69 = 0 := by decide +kernel
theorem ft12_69 : ax_ft (ax_fty 12 69) = 0 := by decide +kernel
theorem fy12_70 : ax_fty 12 70 = 0 := by decide +kernel
theorem ft12_70 : ax_ft (ax_fty 12 70) = 0 := by decide +kernel
theorem fy12_71 : ax_fty 12 71 = 2 := by decide +kernel
theorem ft12_71 : ax_ft (ax_fty 12 71) = 2 := by decide +kernel
theorem fy12_72 : ax_fty 12 72 = 2 := by decide +kernel
theorem ft12_72 : ax_ft (ax_fty 12 72) = 2 := by decide +kernel
theorem fy12_73 : ax_fty 12 73 = 2 := by decide +kernel
theorem ft12_73 : ax_ft (ax_fty 12 73) = 2 := by decide +kernel
theorem fy12_74 : ax_fty 12 74 = 2 := by decide +kernel
theorem ft12_74 : ax_ft (ax_fty 12 74) = 2 := by decide +kernel
theorem fy12_75 : ax_fty 12 75 = 2 := by decide +kernel
theorem ft12_75 : ax_ft (ax_fty 12 75) = 2 := by decide +kernel
theorem fy12_76 : ax_fty 12 76 = 0 := by decide +kernel
theorem ft12_76 : ax_ft (ax_fty 12 76) = 0 := by decide +kernel
theorem fy12_77 : ax_fty 12 77 = 2 := by decide +kernel
theorem ft12_77 : ax_ft (ax_fty 12 77) = 2 := by decide +kernel
theorem fy12_78 : ax_fty 12 78 = 2 := by decide +kernel
theorem ft12_78 : ax_ft (ax_fty 12 78) = 2 := by decide +kernel
theorem fy12_79 : ax_fty 12 79 = 2 := by decide +kernel
theorem ft12_79 : ax_ft (ax_fty 12 79) = 2 := by decide +kernel
theorem fy12_80 : ax_fty 12 80 = 0 := by decide +kernel
theorem ft12_80 : ax_ft (ax_fty 12 80) = 0 := by decide +kernel
theorem fy12_81 : ax_fty 12 81 = 2 := by decide +kernel
theorem ft12_81 : ax_ft (ax_fty 12 81) = 2 := by decide +kernel
theorem fy12_82 : ax_fty 12 82 = 0 := by decide +kernel
theorem ft12_82 : ax_ft (ax_fty 12 82) = 0 := by decide +kernel
theorem fy12_83 : ax_fty 12 83 = 0 := by decide +kernel
theorem ft12_83 : ax_ft (ax_fty 12 83) = 0 := by decide +kernel
theorem fy12_84 : ax_fty 12 84 = 1 := by decide +kernel
theorem ft12_84 : ax_ft (ax_fty 12 84) = 1 := by decide +kernel
theorem fy12_85 : ax_fty 12 85 = 2 := by decide +kernel
theorem ft12_85 : ax_ft (ax_fty 12 85) = 2 := by decide +kernel
theorem fy12_86 : ax_fty 12 86 = 2 := by decide +kernel
theorem ft12_86 : ax_ft (ax_fty 12 86) = 2 := by decide +kernel
theorem fy12_87 : ax_fty 12 87 = 2 := by decide +kernel
theorem ft12_87 : ax_ft (ax_fty 12 87) = 2 := by decide +kernel
theorem fy12_88 : ax_fty 12 88 = 2 := by decide +kernel
theorem ft12_88 : ax_ft (ax_fty 12 88) = 2 := by decide +kernel
theorem fy12_89 : ax_fty 12 89 = 2 := by decide +kernel
theorem ft12_89 : ax_ft (ax_fty 12 89) = 2 := by decide +kernel
theorem fy12_90 : ax_fty 12 90 = 2 := by decide +kernel
theorem ft12_90 : ax_ft (ax_fty 12 90) = 2 := by decide +kernel
theorem fy12_91 : ax_fty 12 91 = 2 := by decide +kernel
theorem ft12_91 : ax_ft (ax_fty 12 91) = 2 := by decide +kernel
theorem fy12_92 : ax_fty 12 92 = 2 := by decide +kernel
theorem ft12_92 : ax_ft (ax_fty 12 92) = 2 := by decide +kernel
theorem fy12_93 : ax_fty 12 93 = 2 := by decide +kernel
theorem ft12_93 : ax_ft (ax_fty 12 93) = 2 := by decide +kernel
theorem fy12_94 : ax_fty 12 94 = 2 := by decide +kernel
theorem ft12_94 : ax_ft (ax_fty 12 94) = 2 := by decide +kernel
theorem fy12_95 : ax_fty 12 95 = 2 := by decide +kernel
theorem ft12_95 : ax_ft (ax_fty 12 95) = 2 := by decide +kernel
theorem fy12_96 : ax_fty 12 96 = 2 := by decide +kernel
theorem ft12_96 : ax_ft (ax_fty 12 96) = 2 := by decide +kernel
theorem fy12_97 : ax_fty 12 97 = 2 := by decide +kernel
theorem ft12_97 : ax_ft (ax_fty 12 97) = 2 := by decide +kernel
theorem fy12_98 : ax_fty 12 98 = 2 := by decide +kernel
theorem ft12_98 : ax_ft (ax_fty 12 98) = 2 := by decide +kernel
theorem fy12_99 : ax_fty 12 99 = 2 := by decide +kernel
theorem ft12_99 : ax_ft (ax_fty 12 99) = 2 := by decide +kernel
theorem fy12_100 : ax_fty 12 100 = 2 := by decide +kernel
theorem ft12_100 : ax_ft (ax_fty 12 100) = 2 := by decide +kernel
theorem fy12_101 : ax_fty 12 101 = 2 := by decide +kernel
theorem ft12_101 : ax_ft (ax_fty 12 101) = 2 := by decide +kernel
theorem fy12_102 : ax_fty 12 102 = 2 := by decide +kernel
theorem ft12_102 : ax_ft (ax_fty 12 102) = 2 := by decide +kernel
theorem fy12_103 : ax_fty 12 103 = 2 := by decide +kernel
theorem ft12_103 : ax_ft (ax_fty 12 103) = 2 := by decide +kernel
theorem fy12_104 : ax_fty 12 104 = 2 := by decide +kernel
theorem ft12_104 : ax_ft (ax_fty 12 104) = 2 := by decide +kernel
theorem fy12_105 : ax_fty 12 105 = 2 := by decide +kernel
theorem ft12_105 : ax_ft (ax_fty 12 105) = 2 := by decide +kernel
theorem fy12_106 : ax_fty 12 106 = 2 := by decide +kernel
theorem ft12_106 : ax_ft (ax_fty 12 106) = 2 := by decide +kernel
theorem fy12_107 : ax_fty 12 107 = 2 := by decide +kernel
theorem ft12_107 : ax_ft (ax_fty 12 107) = 2 := by decide +kernel
theorem fy12_108 : ax_fty 12 108 = 2 := by decide +kernel
theorem ft12_108 : ax_ft (ax_fty 12 108) = 2 := by decide +kernel
theorem fy12_109 : ax_fty 12 109 = 2 := by decide +kernel
theorem ft12_109 : ax_ft (ax_fty 12 109) = 2 := by decide +kernel
theorem fy12_110 : ax_fty 12 110 = 0 := by decide +kernel
theorem ft12_110 : ax_ft (ax_fty 12 110) = 0 := by decide +kernel
theorem fy12_111 : ax_fty 12 111 = 2 := by decide +kernel
theorem ft12_111 : ax_ft (ax_fty 12 111) = 2 := by decide +kernel
theorem fy12_112 : ax_fty 12 112 = 0 := by decide +kernel
theorem ft12_112 : ax_ft (ax_fty 12 112) = 0 := by decide +kernel
theorem fy12_113 : ax_fty 12 113 = 0 := by decide +kernel
theorem ft12_113 : ax_ft (ax_fty 12 113) = 0 := by decide +kernel
theorem fy12_114 : ax_fty 12 114 = 0 := by decide +kernel
theorem ft12_114 : ax_ft (ax_fty 12 114) = 0 := by decide +kernel
theorem fy12_115 : ax_fty 12 115 = 2 := by decide +kernel
theorem ft12_115 : ax_ft (ax_fty 12 115) = 2 := by decide +kernel
theorem fy12_116 : ax_fty 12 116 = 0 := by decide +kernel
theorem ft12_116 : ax_ft (ax_fty 12 116) = 0 := by decide +kernel
theorem fy12_117 : ax_fty 12 117 = 1 := by decide +kernel
theorem ft12_117 : ax_ft (ax_fty 12 117) = 1 := by decide +kernel
theorem fy12_118 : ax_fty 12 118 = 3 := by decide +kernel
theorem ft12_118 : ax_ft (ax_fty 12 118) = 0 := by decide +kernel
theorem fy12_119 : ax_fty 12 119 = 2 := by decide +kernel
theorem ft12_119 : ax_ft (ax_fty 12 119) = 2 := by decide +kernel
theorem fy12_120 : ax_fty 12 120 = 0 := by decide +kernel
theorem ft12_120 : ax_ft (ax_fty 12 120) = 0 := by decide +kernel
end
section
theorem n32 {x : Int} (h : ax_i x) : (Int32.ofInt x).toInt = x := Int32.toInt_ofInt_of_le (by have := h.1; omega) (by have := h.2; omega)
theorem bvN {a : Nat} : (Int32.ofInt (a : Int)).toBitVec = BitVec.ofNat 32 a := by
  rw [Int32.toBitVec_ofInt, BitVec.ofInt_natCast]
theorem bvI {c : Nat} (h : c < 2147483648) : (BitVec.ofNat 32 c).toInt = (c : Int) := by
  rw [BitVec.toInt_eq_toNat_of_lt (by rw [BitVec.toNat_ofNat]; omega), BitVec.toNat_ofNat]
  omega
theorem andN {a b : Nat} (h : a < 2147483648) : (Int32.ofInt (a : Int) &&& Int32.ofInt (b : Int)).toInt = ((a &&& b : Nat) : Int) := by
  show (Int32.ofInt (a : Int) &&& Int32.ofInt (b : Int)).toBitVec.toInt = _
  rw [Int32.toBitVec_and, bvN, bvN, ← BitVec.ofNat_and, bvI (Nat.lt_of_le_of_lt Nat.and_le_left h)]
theorem orN {a b : Nat} (h : a < 2147483648) (hb : b < 2147483648) : (Int32.ofInt (a : Int) ||| Int32.ofInt (b : Int)).toInt = ((a ||| b : Nat) : Int) := by
  show (Int32.ofInt (a : Int) ||| Int32.ofInt (b : Int)).toBitVec.toInt = _
  rw [Int32.toBitVec_or, bvN, bvN, ← BitVec.ofNat_or, bvI (Nat.or_lt_two_pow (n := 31) h hb)]
theorem xorN {a b : Nat} (h : a < 2147483648) (hb : b < 2147483648) : (Int32.ofInt (a : Int) ^^^ Int32.ofInt (b : Int)).toInt = ((a ^^^ b : Nat) : Int) := by
  show (Int32.ofInt (a : Int) ^^^ Int32.ofInt (b : Int)).toBitVec.toInt = _
  rw [Int32.toBitVec_xor, bvN, bvN, ← BitVec.ofNat_xor, bvI (Nat.xor_lt_two_pow (n := 31) h hb)]
theorem shv {k : Nat} (hk : k < 32) : (Int32.ofInt (k : Int) &&& 31) = Int32.ofInt (k : Int) := by
  apply Int32.toInt_inj.mp
  have e : (31 : Int32) = Int32.ofInt ((31 : Nat) : Int) := rfl
  rw [e, andN (by omega), n32 (by constructor <;> omega)]
  have : k &&& 31 = k := by
    have := Nat.and_two_pow_sub_one_eq_mod k 5
    simp only [Nat.reducePow, Nat.reduceSub] at this
    rw [this]; omega
  rw [this]
theorem shrN {a k : Nat} (h : a < 2147483648) (hk : k < 32) : (Int32.ofInt (a : Int) >>> (Int32.ofInt (k : Int) &&& 31)).toInt = ((a >>> k : Nat) : Int) := by
  rw [shv hk]
  show (Int32.ofInt (a : Int) >>> Int32.ofInt (k : Int)).toBitVec.toInt = _
  rw [Int32.toBitVec_shiftRight, bvN, bvN]
  have hm : (BitVec.ofNat 32 a).msb = false := by
    rw [BitVec.msb_eq_toInt, bvI h]
    exact decide_eq_false (by omega)
  have e : ((BitVec.ofNat 32 k).smod 32).toNat = k := by
    have hk' : k < 32 := hk
    have : ∀ k : Nat, k < 32 → ((BitVec.ofNat 32 k).smod 32).toNat = k := by decide +kernel
    exact this k hk
  show ((BitVec.ofNat 32 a).sshiftRight' ((BitVec.ofNat 32 k).smod 32)).toInt = _
  show ((BitVec.ofNat 32 a).sshiftRight ((BitVec.ofNat 32 k).smod 32).toNat).toInt = _
  rw [e, BitVec.sshiftRight_eq_of_msb_false hm]
  have e2 : BitVec.ofNat 32 a >>> k = BitVec.ofNat 32 (a >>> k) := by
    apply BitVec.eq_of_toNat_eq
    rw [BitVec.toNat_ushiftRight, BitVec.toNat_ofNat, BitVec.toNat_ofNat, Nat.mod_eq_of_lt (by omega), Nat.mod_eq_of_lt]
    rw [Nat.shiftRight_eq_div_pow]
    exact Nat.lt_of_le_of_lt (Nat.div_le_self _ _) (by omega)
  rw [e2, bvI]
  rw [Nat.shiftRight_eq_div_pow]
  exact Nat.lt_of_le_of_lt (Nat.div_le_self _ _) h
theorem shlN {a k : Nat} (h : a <<< k < 2147483648) (hk : k < 32) : (Int32.ofInt (a : Int) <<< (Int32.ofInt (k : Int) &&& 31)).toInt = ((a <<< k : Nat) : Int) := by
  rw [shv hk]
  show (Int32.ofInt (a : Int) <<< Int32.ofInt (k : Int)).toBitVec.toInt = _
  rw [Int32.toBitVec_shiftLeft, bvN, bvN]
  have e : ((BitVec.ofNat 32 k).smod 32).toNat = k := by
    have : ∀ k : Nat, k < 32 → ((BitVec.ofNat 32 k).smod 32).toNat = k := by decide +kernel
    exact this k hk
  show (BitVec.ofNat 32 a <<< ((BitVec.ofNat 32 k).smod 32)).toInt = _
  rw [BitVec.shiftLeft_eq', e]
  have e2 : BitVec.ofNat 32 a <<< k = BitVec.ofNat 32 (a <<< k) := by
    apply BitVec.eq_of_toNat_eq
    rw [BitVec.toNat_shiftLeft, BitVec.toNat_ofNat, BitVec.toNat_ofNat, Nat.shiftLeft_eq, Nat.shiftLeft_eq, Nat.mod_mul_mod]
  rw [e2, bvI h]
theorem xneg {x y : Int} (hx : ax_i x) (hy : ax_i y) : (Int32.ofInt x ^^^ Int32.ofInt y).toInt < 0 ↔ ¬ (x < 0 ↔ y < 0) := by
  show (Int32.ofInt x ^^^ Int32.ofInt y).toBitVec.toInt < 0 ↔ _
  have h := BitVec.msb_eq_toInt (x := (Int32.ofInt x ^^^ Int32.ofInt y).toBitVec)
  rw [Int32.toBitVec_xor, BitVec.msb_xor, BitVec.msb_eq_toInt, BitVec.msb_eq_toInt] at h
  rw [show (Int32.ofInt x).toBitVec.toInt = x from n32 hx, show (Int32.ofInt y).toBitVec.toInt = y from n32 hy] at h
  rw [Int32.toBitVec_xor]
  generalize ((Int32.ofInt x).toBitVec ^^^ (Int32.ofInt y).toBitVec).toInt = z at h ⊢
  by_cases h1 : x < 0 <;> by_cases h2 : y < 0 <;> by_cases h3 : z < 0 <;> simp [h1, h2, h3] at h ⊢
end
section
section SML
variable {L : Nat} {X : Nat → Int} {M : ax_M}
theorem m303 {x : Int} (hx : ax_i x) (hx1 : -2147483648 < x) : ax_Ev L X SH 0 303 [(0, x)] M (R1 0 (fun y M' => y = (if 0 ≤ x then x else -x) ∧ M' = M)) := by
  show ax_G L X SH 0 303 0 [(0, x)] [] M _
  have hC := at303
  have := hx.1; have := hx.2
  refine g3 hC rfl rfl ?_
  refine g12g hC rfl (fun h1 => ?_) (fun h1 => ?_)
  ·
    refine g3 hC rfl rfl ?_
    refine ret1 hC rfl rfl ?_
    refine ⟨?_, rfl⟩
    split <;> omega
  ·
    refine g3 hC rfl rfl ?_
    refine g8 hC rfl ⟨by omega, by omega⟩ ?_
    refine g14 hC rfl ?_
    refine ret1 hC rfl rfl ?_
    refine ⟨?_, rfl⟩
    split <;> omega
theorem m304 {x y : Int} : ax_Ev L X SH 0 304 [(0, x), (0, y)] M (R1 0 (fun z M' => z = max x y ∧ M' = M)) := by
  show ax_G L X SH 0 304 0 [(0, x), (0, y)] [] M _
  have hC := at304
  refine g3 hC rfl rfl ?_
  refine g3 hC rfl rfl ?_
  refine g13l hC rfl (fun h2 => ?_) (fun h2 => ?_)
  ·
    refine g3 hC rfl rfl ?_
    refine ret1 hC rfl rfl ?_
    exact ⟨by omega, rfl⟩
  ·
    refine g3 hC rfl rfl ?_
    refine g14 hC rfl ?_
    refine ret1 hC rfl rfl ?_
    exact ⟨by omega, rfl⟩
theorem m306 {x y : Int} : ax_Ev L X SH 0 306 [(0, x), (0, y)] M (R1 0 (fun z M' => z = min x y ∧ M' = M)) := by
  show ax_G L X SH 0 306 0 [(0, x), (0, y)] [] M _
  have hC := at306
  refine g3 hC rfl rfl ?_
  refine g3 hC rfl rfl ?_
  refine g13t hC rfl (fun h2 => ?_) (fun h2 => ?_)
  ·
    refine g3 hC rfl rfl ?_
    refine ret1 hC rfl rfl ?_
    exact ⟨by omega, rfl⟩
  ·
    refine g3 hC rfl rfl ?_
    refine g14 hC rfl ?_
    refine ret1 hC rfl rfl ?_
    exact ⟨by omega, rfl⟩
theorem cmp0 {x y : Int} : (ax_cmp x y < 0 ↔ x < y) ∧ (ax_cmp x y ≤ 0 ↔ x ≤ y) ∧ (0 < ax_cmp x y ↔ y < x) ∧ (0 ≤ ax_cmp x y ↔ y ≤ x) ∧ (ax_cmp x y = 0 ↔ x = y) := by
  unfold ax_cmp
  split
  · refine ⟨?_, ?_, ?_, ?_, ?_⟩ <;> constructor <;> intro _ <;> omega
  · split
    · refine ⟨?_, ?_, ?_, ?_, ?_⟩ <;> constructor <;> intro _ <;> omega
    · refine ⟨?_, ?_, ?_, ?_, ?_⟩ <;> constructor <;> intro _ <;> omega
theorem m305 {x y : Int} : ax_Ev L X SH 0 305 [(1, x), (1, y)] M (R1 1 (fun z M' => z = max x y ∧ M' = M)) := by
  show ax_G L X SH 0 305 0 [(1, x), (3, 0), (1, y), (3, 0)] [] M _
  have hC := at305
  have hc := @cmp0 x y
  refine g3 hC rfl rfl ?_
  refine g3 hC rfl rfl ?_
  refine g11 hC rfl ?_
  refine g12l hC rfl (fun h3 => ?_) (fun h3 => ?_)
  ·
    refine g3 hC rfl rfl ?_
    refine ret1 hC rfl rfl ?_
    exact ⟨by omega, rfl⟩
  ·
    refine g3 hC rfl rfl ?_
    refine g14 hC rfl ?_
    refine ret1 hC rfl rfl ?_
    exact ⟨by omega, rfl⟩
theorem m307 {x y : Int} : ax_Ev L X SH 0 307 [(1, x), (1, y)] M (R1 1 (fun z M' => z = min x y ∧ M' = M)) := by
  show ax_G L X SH 0 307 0 [(1, x), (3, 0), (1, y), (3, 0)] [] M _
  have hC := at307
  have hc := @cmp0 x y
  refine g3 hC rfl rfl ?_
  refine g3 hC rfl rfl ?_
  refine g11 hC rfl ?_
  refine g12t hC rfl (fun h3 => ?_) (fun h3 => ?_)
  ·
    refine g3 hC rfl rfl ?_
    refine ret1 hC rfl rfl ?_
    exact ⟨by omega, rfl⟩
  ·
    refine g3 hC rfl rfl ?_
    refine g14 hC rfl ?_
    refine ret1 hC rfl rfl ?_
    exact ⟨by omega, rfl⟩
theorem m302 {x y : Int} (hx : -1000000 ≤ x ∧ x ≤ 1000000) (hy : -1000000 ≤ y ∧ y ≤ 1000000) (h0 : y ≠ 0) : ax_Ev L X SH 0 302 [(0, x), (0, y)] M (R1 0 (fun z M' => z = x.fdiv y ∧ M' = M)) := by
  show ax_G L X SH 0 302 0 [(0, x), (0, y), (3, 0)] [] M _
  have hC := at302
  have hb : -1000000 ≤ x.tdiv y ∧ x.tdiv y ≤ 1000000 := by
    have h1 : (x.tdiv y).natAbs ≤ x.natAbs := by rw [Int.natAbs_tdiv]; exact Nat.div_le_self _ _
    omega
  have hm : x.tdiv y * y + x.tmod y = x := by rw [Int.mul_comm]; exact Int.mul_tdiv_add_tmod x y
  have hn : (x.tmod y).natAbs < y.natAbs := by rw [Int.natAbs_tmod]; exact Nat.mod_lt _ (by omega)
  have hs : 0 ≤ x → 0 ≤ x.tmod y := fun h => Int.tmod_nonneg y h
  have hs2 : x < 0 → x.tmod y ≤ 0 := fun h => by
    have := Int.tmod_nonneg (a := -x) y (by omega)
    rw [Int.neg_tmod] at this
    omega
  have hpb : -2000000 ≤ x.tdiv y * y ∧ x.tdiv y * y ≤ 2000000 := by omega
  have hxn := @xneg x y (by constructor <;> omega) (by constructor <;> omega)
  have key : x.fdiv y = if x.tmod y ≠ 0 ∧ ¬ (x < 0 ↔ y < 0) then x.tdiv y - 1 else x.tdiv y := by
    have he := Int.fdiv_eq_tdiv (a := x) (b := y)
    rw [he]
    have hd : y ∣ x ↔ x.tmod y = 0 := by rw [Int.dvd_iff_tmod_eq_zero]
    by_cases h1 : x.tmod y = 0
    · rw [if_pos (hd.mpr h1), if_neg (fun z => z.1 h1)]; omega
    · rw [if_neg (fun z => h1 (hd.mp z))]
      by_cases h2 : 0 ≤ x <;> by_cases h3 : 0 ≤ y
      · rw [if_pos h2, if_pos h3, if_neg (fun z => z.2 (by omega))]; omega
      · rw [if_pos h2, if_neg h3, if_pos ⟨h1, by omega⟩]
      · rw [if_neg h2, if_pos h3, if_pos ⟨h1, by omega⟩, Int.sign_eq_one_of_pos (by omega)]
      · rw [if_neg h2, if_neg h3, if_neg (fun z => z.2 (by omega)), Int.sign_eq_neg_one_of_neg (by omega)]; omega
  refine g3 hC rfl rfl ?_
  refine g3 hC rfl rfl ?_
  refine g6d hC rfl ⟨h0, ⟨by omega, by omega⟩⟩ ?_
  refine s2 hC rfl rfl rfl ?_
  refine g3 hC rfl rfl ?_
  refine g3 hC rfl rfl ?_
  refine g6 hC rfl rfl ?_
  refine g12g hC rfl (fun h7 => ?_) (fun h7 => ?_)
  ·
    refine g3 hC rfl rfl ?_
    refine ret1 hC rfl rfl ?_
    refine ⟨?_, rfl⟩
    rw [key]
    generalize x.tdiv y * y = q at *
    split <;> omega
  ·
    refine g3 hC rfl rfl ?_
    refine g3 hC rfl rfl ?_
    refine g6m hC rfl ⟨by omega, by omega⟩ ?_
    refine g3 hC rfl rfl ?_
    refine g13e hC rfl (fun h12 => ?_) (fun h12 => ?_)
    ·
      refine g3 hC rfl rfl ?_
      refine ret1 hC rfl rfl ?_
      refine ⟨?_, rfl⟩
      rw [key]
      generalize x.tdiv y * y = q at *
      split <;> omega
    ·
      refine g3 hC rfl rfl ?_
      refine g0 hC rfl ?_
      refine g6s hC rfl ⟨by omega, by omega⟩ ?_
      refine ret1 hC rfl rfl ?_
      refine ⟨?_, rfl⟩
      rw [key]
      generalize x.tdiv y * y = q at *
      split <;> omega
theorem m140 {n c : Int} : ax_Ev L X SH 0 140 [(0, n), (0, c)] M (R1 0 (fun z M' => z = (if 0 ≤ n ∧ n < c then 1 else 0) ∧ M' = M)) := by
  show ax_G L X SH 0 140 0 [(0, n), (0, c)] [] M _
  have hC := at140
  refine g3 hC rfl rfl ?_
  refine g12l hC rfl (fun h1 => ?_) (fun h1 => ?_)
  ·
    refine g0 hC rfl ?_
    refine ret3 hC rfl ⟨by omega, by omega⟩ ?_
    refine ⟨?_, rfl⟩
    split <;> omega
  ·
    refine g3 hC rfl rfl ?_
    refine g3 hC rfl rfl ?_
    refine g13g hC rfl (fun h4 => ?_) (fun h4 => ?_)
    ·
      refine g0 hC rfl ?_
      refine ret3 hC rfl ⟨by omega, by omega⟩ ?_
      refine ⟨?_, rfl⟩
      split <;> omega
    ·
      refine g0 hC rfl ?_
      refine g14 hC rfl ?_
      refine ret3 hC rfl ⟨by omega, by omega⟩ ?_
      refine ⟨?_, rfl⟩
      split <;> omega
theorem m153 {v l m : Int} : ax_Ev L X SH 0 153 [(1, v), (1, l), (1, m)] M (R1 0 (fun z M' => z = (if l ≤ v ∧ v ≤ m then 1 else 0) ∧ M' = M)) := by
  show ax_G L X SH 0 153 0 [(1, v), (3, 0), (1, l), (3, 0), (1, m), (3, 0)] [] M _
  have hC := at153
  have hc := @cmp0 v l
  have hc2 := @cmp0 v m
  refine g3 hC rfl rfl ?_
  refine g3 hC rfl rfl ?_
  refine g11 hC rfl ?_
  refine g12l hC rfl (fun h3 => ?_) (fun h3 => ?_)
  ·
    refine g0 hC rfl ?_
    refine ret3 hC rfl ⟨by omega, by omega⟩ ?_
    refine ⟨?_, rfl⟩
    split <;> omega
  ·
    refine g3 hC rfl rfl ?_
    refine g3 hC rfl rfl ?_
    refine g11 hC rfl ?_
    refine g12t hC rfl (fun h7 => ?_) (fun h7 => ?_)
    ·
      refine g0 hC rfl ?_
      refine ret3 hC rfl ⟨by omega, by omega⟩ ?_
      refine ⟨?_, rfl⟩
      split <;> omega
    ·
      refine g0 hC rfl ?_
      refine g14 hC rfl ?_
      refine ret3 hC rfl ⟨by omega, by omega⟩ ?_
      refine ⟨?_, rfl⟩
      split <;> omega
theorem m157 {c : Int} : ax_Ev L X SH 0 157 [(0, c)] M (R1 0 (fun z M' => z = (if 97 ≤ c ∧ c ≤ 122 then 1 else 0) ∧ M' = M)) := by
  show ax_G L X SH 0 157 0 [(0, c)] [] M _
  have hC := at157
  refine g3 hC rfl rfl ?_
  refine g0 hC rfl ?_
  refine g13l hC rfl (fun h2 => ?_) (fun h2 => ?_)
  ·
    refine g0 hC rfl ?_
    refine ret3 hC rfl ⟨by omega, by omega⟩ ?_
    refine ⟨?_, rfl⟩
    split <;> omega
  ·
    refine g3 hC rfl rfl ?_
    refine g0 hC rfl ?_
    refine g13t hC rfl (fun h5 => ?_) (fun h5 => ?_)
    ·
      refine g0 hC rfl ?_
      refine ret3 hC rfl ⟨by omega, by omega⟩ ?_
      refine ⟨?_, rfl⟩
      split <;> omega
    ·
      refine g0 hC rfl ?_
      refine g14 hC rfl ?_
      refine ret3 hC rfl ⟨by omega, by omega⟩ ?_
      refine ⟨?_, rfl⟩
      split <;> omega
theorem m158 {c : Int} : ax_Ev L X SH 0 158 [(0, c)] M (R1 0 (fun z M' => z = (if 48 ≤ c ∧ c ≤ 57 then 1 else 0) ∧ M' = M)) := by
  show ax_G L X SH 0 158 0 [(0, c)] [] M _
  have hC := at158
  refine g3 hC rfl rfl ?_
  refine g0 hC rfl ?_
  refine g13l hC rfl (fun h2 => ?_) (fun h2 => ?_)
  ·
    refine g0 hC rfl ?_
    refine ret3 hC rfl ⟨by omega, by omega⟩ ?_
    refine ⟨?_, rfl⟩
    split <;> omega
  ·
    refine g3 hC rfl rfl ?_
    refine g0 hC rfl ?_
    refine g13t hC rfl (fun h5 => ?_) (fun h5 => ?_)
    ·
      refine g0 hC rfl ?_
      refine ret3 hC rfl ⟨by omega, by omega⟩ ?_
      refine ⟨?_, rfl⟩
      split <;> omega
    ·
      refine g0 hC rfl ?_
      refine g14 hC rfl ?_
      refine ret3 hC rfl ⟨by omega, by omega⟩ ?_
      refine ⟨?_, rfl⟩
      split <;> omega
end SML
end
section
def clip (x : Int) : Int := if 1000000 < x then 1000000 else if x < -1000000 then -1000000 else x
theorem clip_b {x : Int} : -1000000 ≤ clip x ∧ clip x ≤ 1000000 := by unfold clip; split <;> (try split) <;> omega
def jn (v a b : Int) : Int := if v = 1 then clip (a + b) else if v = 2 then clip (a - b) else if v = 3 then clip (a * b) else if v = 4 then (if b = 0 then 0 else a.fdiv b) else if v = 5 then min a b else if v = 6 then max a b else if v = 7 then (if a < b then 1 else 0) else if v = 8 then (if b < a then 1 else 0) else if v = 9 then (if a = b then 1 else 0) else if v = 10 then a * b else if 0 < a + b then 1 else 0
def e1 (lf : Nat → Int) (mt : Int → Int) (v : Int) (x : (Nat → Int) × Nat) : (Nat → Int) × Nat :=
  if 1000 ≤ v then (up x.1 x.2 (v - 1000), x.2 + 1)
  else if 60 ≤ v then (up x.1 (x.2 - 1) (mt (x.1 (x.2 - 1))), x.2)
  else if 40 ≤ v then (up x.1 x.2 (lf (v - 40).toNat), x.2 + 1)
  else if v = 13 then (up x.1 x.2 1, x.2 + 1)
  else if v = 12 then (up x.1 (x.2 - 1) (1 - x.1 (x.2 - 1)), x.2)
  else (up x.1 (x.2 - 2) (jn v (x.1 (x.2 - 2)) (x.1 (x.2 - 1))), x.2 - 1)
def ev (lf : Nat → Int) (mt : Int → Int) (c : Nat → Int) (n : Nat) : (Nat → Int) × Nat := it (fun k => e1 lf mt (c k)) n (fun _ => 0, 0)
def pval (lf : Nat → Int) (mt : Int → Int) (c : Nat → Int) (n : Nat) : Int := (ev lf mt c n).1 0
def upB (f : Nat → Bool) (k : Nat) (x : Bool) : Nat → Bool := fun q => if q = k then x else f q
def tok (v : Int) (x : (Nat → Bool) × Nat) : Prop :=
  if 1000 ≤ v then v ≤ 10999 ∧ x.2 < 64
  else if 60 ≤ v then v = 60 ∧ 1 ≤ x.2 ∧ x.1 (x.2 - 1) = false
  else if 40 ≤ v then v ≤ 50 ∧ x.2 < 64
  else if v = 13 then x.2 < 64
  else if v = 12 then 1 ≤ x.2 ∧ x.1 (x.2 - 1) = true
  else 1 ≤ v ∧ v ≤ 11 ∧ 2 ≤ x.2 ∧ x.1 (x.2 - 1) = decide (10 ≤ v) ∧ x.1 (x.2 - 2) = decide (10 ≤ v)
def tst (v : Int) (x : (Nat → Bool) × Nat) : (Nat → Bool) × Nat :=
  if 1000 ≤ v then (upB x.1 x.2 false, x.2 + 1)
  else if 60 ≤ v then x
  else if 40 ≤ v then (upB x.1 x.2 false, x.2 + 1)
  else if v = 13 then (upB x.1 x.2 true, x.2 + 1)
  else if v = 12 then x
  else (upB x.1 (x.2 - 2) (decide (7 ≤ v)), x.2 - 1)
def tys (c : Nat → Int) (n : Nat) : (Nat → Bool) × Nat := it (fun k => tst (c k)) n (fun _ => false, 0)
def Typed (c : Nat → Int) (n : Nat) (b : Bool) : Prop := (∀ k, k < n → tok (c k) (tys c k)) ∧ (tys c n).2 = 1 ∧ (tys c n).1 0 = b
def vok (x : (Nat → Bool) × Nat) (y : (Nat → Int) × Nat) : Prop := y.2 = x.2 ∧ ∀ i, i < x.2 → (x.1 i = true → y.1 i = 0 ∨ y.1 i = 1) ∧ (x.1 i = false → -1000000 ≤ y.1 i ∧ y.1 i ≤ 1000000)
theorem fdiv_b {a b : Int} (ha : -1000000 ≤ a ∧ a ≤ 1000000) (hb : b ≠ 0) : -1000000 ≤ a.fdiv b ∧ a.fdiv b ≤ 1000000 := by
  rcases Int.lt_or_gt_of_ne hb with h | h
  · have e : a.fdiv b = (-a).fdiv (-b) := by rw [Int.neg_fdiv_neg]
    rw [e, Int.fdiv_eq_ediv_of_nonneg _ (by omega)]
    exact ⟨(Int.le_ediv_iff_mul_le (by omega)).mpr (by omega), Int.ediv_le_of_le_mul (by omega) (by omega)⟩
  · rw [Int.fdiv_eq_ediv_of_nonneg _ (by omega)]
    exact ⟨(Int.le_ediv_iff_mul_le (by omega)).mpr (by omega), Int.ediv_le_of_le_mul (by omega) (by omega)⟩
theorem jn_b {v a b : Int} (h1 : 1 ≤ v) (h2 : v ≤ 11) (ha : 10 ≤ v → a = 0 ∨ a = 1) (hb : 10 ≤ v → b = 0 ∨ b = 1) (ha2 : ¬ 10 ≤ v → -1000000 ≤ a ∧ a ≤ 1000000) (hb2 : ¬ 10 ≤ v → -1000000 ≤ b ∧ b ≤ 1000000) : (7 ≤ v → jn v a b = 0 ∨ jn v a b = 1) ∧ (¬ 7 ≤ v → -1000000 ≤ jn v a b ∧ jn v a b ≤ 1000000) := by
  unfold jn
  by_cases q1 : v = 1
  · rw [if_pos q1]; exact ⟨fun h => by omega, fun _ => clip_b⟩
  rw [if_neg q1]
  by_cases q2 : v = 2
  · rw [if_pos q2]; exact ⟨fun h => by omega, fun _ => clip_b⟩
  rw [if_neg q2]
  by_cases q3 : v = 3
  · rw [if_pos q3]; exact ⟨fun h => by omega, fun _ => clip_b⟩
  rw [if_neg q3]
  by_cases q4 : v = 4
  · rw [if_pos q4]
    refine ⟨fun h => by omega, fun _ => ?_⟩
    by_cases q : b = 0
    · rw [if_pos q]; decide
    · rw [if_neg q]; exact fdiv_b (ha2 (by omega)) q
  rw [if_neg q4]
  by_cases q5 : v = 5
  · rw [if_pos q5]; have := ha2 (by omega); have := hb2 (by omega); exact ⟨fun h => by omega, fun _ => by omega⟩
  rw [if_neg q5]
  by_cases q6 : v = 6
  · rw [if_pos q6]; have := ha2 (by omega); have := hb2 (by omega); exact ⟨fun h => by omega, fun _ => by omega⟩
  rw [if_neg q6]
  refine ⟨fun _ => ?_, fun h => by omega⟩
  by_cases q7 : v = 7
  · rw [if_pos q7]; split <;> simp
  rw [if_neg q7]
  by_cases q8 : v = 8
  · rw [if_pos q8]; split <;> simp
  rw [if_neg q8]
  by_cases q9 : v = 9
  · rw [if_pos q9]; split <;> simp
  rw [if_neg q9]
  by_cases q10 : v = 10
  · rw [if_pos q10]
    rcases ha (by omega) with rfl | rfl <;> rcases hb (by omega) with rfl | rfl <;> simp
  rw [if_neg q10]
  split <;> simp
theorem vok_e1 {lf : Nat → Int} {mt : Int → Int} (hl : ∀ i, -1000000 ≤ lf i ∧ lf i ≤ 1000000) (hm : ∀ i, -1000000 ≤ mt i ∧ mt i ≤ 1000000) {v : Int} {x : (Nat → Bool) × Nat} {y : (Nat → Int) × Nat} (ht : tok v x) (h : vok x y) : vok (tst v x) (e1 lf mt v y) := by
  obtain ⟨τ, t⟩ := x
  obtain ⟨s, t'⟩ := y
  obtain ⟨e, h⟩ := h
  dsimp only at e h
  subst e
  have push : ∀ (z : Int) (b : Bool), (b = true → z = 0 ∨ z = 1) → (b = false → -1000000 ≤ z ∧ z ≤ 1000000) → vok (upB τ t' b, t' + 1) (up s t' z, t' + 1) := by
    intro z b hz hz2
    refine ⟨rfl, fun i hi => ?_⟩
    dsimp only [upB, up]
    by_cases hit : i = t'
    · simp only [if_pos hit]; exact ⟨hz, hz2⟩
    · simp only [if_neg hit]; exact h i (by dsimp only at hi; omega)
  have put : ∀ (z : Int) (k : Nat), k < t' → (τ k = true → z = 0 ∨ z = 1) → (τ k = false → -1000000 ≤ z ∧ z ≤ 1000000) → vok (τ, t') (up s k z, t') := by
    intro z k hk hz hz2
    refine ⟨rfl, fun i hi => ?_⟩
    dsimp only [up]
    by_cases hit : i = k
    · simp only [if_pos hit]; rw [hit]; exact ⟨hz, hz2⟩
    · simp only [if_neg hit]; exact h i hi
  unfold tst e1
  unfold tok at ht
  dsimp only at ht ⊢
  by_cases h1 : 1000 ≤ v
  · rw [if_pos h1] at ht ⊢; rw [if_pos h1]
    exact push _ _ (fun h => by cases h) (fun _ => by omega)
  rw [if_neg h1] at ht ⊢; rw [if_neg h1]
  by_cases h2 : 60 ≤ v
  · rw [if_pos h2] at ht ⊢; rw [if_pos h2]
    exact put _ _ (by omega) (fun h => by rw [ht.2.2] at h; cases h) (fun _ => hm _)
  rw [if_neg h2] at ht ⊢; rw [if_neg h2]
  by_cases h3 : 40 ≤ v
  · rw [if_pos h3] at ht ⊢; rw [if_pos h3]
    exact push _ _ (fun h => by cases h) (fun _ => hl _)
  rw [if_neg h3] at ht ⊢; rw [if_neg h3]
  by_cases h4 : v = 13
  · rw [if_pos h4] at ht ⊢; rw [if_pos h4]
    exact push _ _ (fun _ => Or.inr rfl) (fun h => by cases h)
  rw [if_neg h4] at ht ⊢; rw [if_neg h4]
  by_cases h5 : v = 12
  · rw [if_pos h5] at ht ⊢; rw [if_pos h5]
    have := (h (t' - 1) (by omega)).1 ht.2
    exact put _ _ (by omega) (fun _ => by omega) (fun h => by rw [ht.2] at h; cases h)
  rw [if_neg h5] at ht ⊢; rw [if_neg h5]
  obtain ⟨a1, a2, a3, a4, a5⟩ := ht
  have k1 := h (t' - 1) (by omega)
  have k2 := h (t' - 2) (by omega)
  rw [a4] at k1
  rw [a5] at k2
  have hj := jn_b (v := v) (a := s (t' - 2)) (b := s (t' - 1)) a1 a2 (fun q => k2.1 (decide_eq_true q)) (fun q => k1.1 (decide_eq_true q)) (fun q => k2.2 (decide_eq_false q)) (fun q => k1.2 (decide_eq_false q))
  refine ⟨rfl, fun i hi => ?_⟩
  dsimp only [upB, up]
  by_cases hit : i = t' - 2
  · simp only [if_pos hit]
    exact ⟨fun q => hj.1 (of_decide_eq_true q), fun q => hj.2 (of_decide_eq_false q)⟩
  · simp only [if_neg hit]; exact h i (by dsimp only at hi; omega)
theorem vok_ev {lf : Nat → Int} {mt : Int → Int} (hl : ∀ i, -1000000 ≤ lf i ∧ lf i ≤ 1000000) (hm : ∀ i, -1000000 ≤ mt i ∧ mt i ≤ 1000000) {c : Nat → Int} {n : Nat} (h : ∀ k, k < n → tok (c k) (tys c k)) : ∀ k, k ≤ n → vok (tys c k) (ev lf mt c k) := by
  intro k
  induction k with
  | zero => intro _; exact ⟨rfl, fun i hi => absurd hi (Nat.not_lt_zero i)⟩
  | succ k ih => intro hk; exact vok_e1 hl hm (h k (by omega)) (ih (by omega))
theorem tys_le {c : Nat → Int} {n : Nat} (h : ∀ k, k < n → tok (c k) (tys c k)) : ∀ k, k ≤ n → (tys c k).2 ≤ 64 := by
  intro k
  induction k with
  | zero => intro _; exact Nat.zero_le _
  | succ k ih =>
    intro hk
    have h1 := ih (by omega)
    have h2 := h k (by omega)
    show (tst (c k) (tys c k)).2 ≤ 64
    generalize tys c k = x at *
    unfold tok at h2
    unfold tst
    by_cases q1 : 1000 ≤ c k
    · rw [if_pos q1] at h2 ⊢; dsimp only; omega
    rw [if_neg q1] at h2 ⊢
    by_cases q2 : 60 ≤ c k
    · rw [if_pos q2]; exact h1
    rw [if_neg q2] at h2 ⊢
    by_cases q3 : 40 ≤ c k
    · rw [if_pos q3] at h2 ⊢; dsimp only; omega
    rw [if_neg q3] at h2 ⊢
    by_cases q4 : c k = 13
    · rw [if_pos q4] at h2 ⊢; dsimp only; omega
    rw [if_neg q4] at h2 ⊢
    by_cases q5 : c k = 12
    · rw [if_pos q5]; exact h1
    rw [if_neg q5] at h2 ⊢
    dsimp only
    omega
def ci (kind : Nat) (i : Int) : Int := if i < 3 then i else if kind = 0 then i else if kind = 1 then i - 2 else i - 4
def cs (kind : Nat) (v : Int) : Int := if 1000 ≤ v then v - 1000 else if 60 ≤ v then -13 else if 40 ≤ v then -100 - ci kind (v - 40) else if v = 13 then 1 else if v = 12 then -12 else if v = 5 then -10 else if v = 6 then -11 else if v ≤ 4 then -v else 2 - v
end
section
section PEV
variable {L : Nat} {X : Nat → Int} {M : ax_M}
def jc (e a b : Int) : Int := if e = -11 then max a b else if e = -10 then min a b else if e = -9 then (Int32.ofInt a ||| Int32.ofInt b).toInt else if e = -8 then (Int32.ofInt a &&& Int32.ofInt b).toInt else if e = -7 then (if a = b then 1 else 0) else if e = -6 then (if b < a then 1 else 0) else if e = -5 then (if a < b then 1 else 0) else if e = -4 then (if b = 0 then 0 else a.fdiv b) else if e = -3 then clip (a * b) else if e = -2 then clip (a - b) else if e = -1 then clip (a + b) else 0
theorem m63 {x : Int} (hx : -2000000000000 ≤ x ∧ x ≤ 2000000000000) : ax_Ev L X SH 0 63 [(1, x)] M (R1 0 (fun y M' => y = clip x ∧ M' = M)) := by
  show ax_G L X SH 0 63 0 [(1, x), (3, 0)] [] M _
  have hC := at63
  have hc := @cmp0 x 1000000
  have hc2 := @cmp0 x (-1000000)
  refine g3 hC rfl rfl ?_
  refine g1 hC rfl ?_
  refine g11 hC rfl ?_
  refine g12s hC rfl (fun h3 => ?_) (fun h3 => ?_)
  ·
    refine g3 hC rfl rfl ?_
    refine g1 hC rfl ?_
    refine g11 hC rfl ?_
    refine g12g hC rfl (fun h9 => ?_) (fun h9 => ?_)
    ·
      refine g3 hC rfl rfl ?_
      refine g10 hC rfl ⟨by omega, by omega⟩ ?_
      refine ret1 hC rfl rfl ?_
      refine ⟨?_, rfl⟩
      unfold clip
      repeat' split
      all_goals omega
    ·
      refine g0 hC rfl ?_
      refine g14 hC rfl ?_
      refine ret1 hC rfl rfl ?_
      refine ⟨?_, rfl⟩
      unfold clip
      repeat' split
      all_goals omega
  ·
    refine g0 hC rfl ?_
    refine ret1 hC rfl rfl ?_
    refine ⟨?_, rfl⟩
    unfold clip
    repeat' split
    all_goals omega
theorem m62 {e a b : Int} (ha : -1000000 ≤ a ∧ a ≤ 1000000) (hb : -1000000 ≤ b ∧ b ≤ 1000000) : ax_Ev L X SH 1 62 [(0, e), (0, a), (0, b)] M (R1 0 (fun y M' => y = jc e a b ∧ M' = M)) := by
  show ax_G L X SH 1 62 0 [(0, e), (0, a), (0, b)] [] M _
  have hC := at62
  have hp : -1000000000000 ≤ a * b ∧ a * b ≤ 1000000000000 := by
    have h1 : (a * b).natAbs ≤ 1000000 * 1000000 := by rw [Int.natAbs_mul]; exact Nat.mul_le_mul (by omega) (by omega)
    omega
  refine g3 hC rfl rfl ?_
  by_cases k1_0 : e = -11
  ·
    refine g15k (key := -11) (i' := 64) hC rfl rfl k1_0 rfl ?_
    refine g3 hC rfl rfl ?_
    refine g3 hC rfl rfl ?_
    refine c1 hC rfl rfl rfl (Nat.le_of_ble_eq_true rfl) (Nat.le_of_ble_eq_true rfl) rfl (m304) (Nat.le_of_ble_eq_true rfl) (fun x M2 hr => ?_)
    obtain ⟨rfl, hr⟩ := hr
    replace hr := hr.symm
    subst hr
    refine ret1 hC rfl rfl ?_
    exact ⟨by unfold jc; rw [if_pos ‹_›], rfl⟩
  by_cases k1_1 : e = -10
  ·
    refine g15k (key := -10) (i' := 60) hC rfl rfl k1_1 rfl ?_
    refine g3 hC rfl rfl ?_
    refine g3 hC rfl rfl ?_
    refine c1 hC rfl rfl rfl (Nat.le_of_ble_eq_true rfl) (Nat.le_of_ble_eq_true rfl) rfl (m306) (Nat.le_of_ble_eq_true rfl) (fun x M2 hr => ?_)
    obtain ⟨rfl, hr⟩ := hr
    replace hr := hr.symm
    subst hr
    refine ret1 hC rfl rfl ?_
    subst k1_1; exact ⟨by simp [jc], rfl⟩
  by_cases k1_2 : e = -9
  ·
    refine g15k (key := -9) (i' := 56) hC rfl rfl k1_2 rfl ?_
    refine g3 hC rfl rfl ?_
    refine g3 hC rfl rfl ?_
    refine g6 hC rfl rfl ?_
    refine ret1 hC rfl rfl ?_
    subst k1_2; exact ⟨by simp [jc], rfl⟩
  by_cases k1_3 : e = -8
  ·
    refine g15k (key := -8) (i' := 52) hC rfl rfl k1_3 rfl ?_
    refine g3 hC rfl rfl ?_
    refine g3 hC rfl rfl ?_
    refine g6 hC rfl rfl ?_
    refine ret1 hC rfl rfl ?_
    subst k1_3; exact ⟨by simp [jc], rfl⟩
  by_cases k1_4 : e = -7
  ·
    refine g15k (key := -7) (i' := 45) hC rfl rfl k1_4 rfl ?_
    refine g3 hC rfl rfl ?_
    refine g3 hC rfl rfl ?_
    refine g13n hC rfl (fun h47 => ?_) (fun h47 => ?_)
    ·
      refine g0 hC rfl ?_
      refine ret1 hC rfl rfl ?_
      subst k1_4; exact ⟨by simp [jc]; omega, rfl⟩
    ·
      refine g0 hC rfl ?_
      refine g14 hC rfl ?_
      refine ret1 hC rfl rfl ?_
      subst k1_4; exact ⟨by simp [jc]; omega, rfl⟩
  by_cases k1_5 : e = -6
  ·
    refine g15k (key := -6) (i' := 38) hC rfl rfl k1_5 rfl ?_
    refine g3 hC rfl rfl ?_
    refine g3 hC rfl rfl ?_
    refine g13s hC rfl (fun h40 => ?_) (fun h40 => ?_)
    ·
      refine g0 hC rfl ?_
      refine ret1 hC rfl rfl ?_
      subst k1_5; exact ⟨by simp [jc]; omega, rfl⟩
    ·
      refine g0 hC rfl ?_
      refine g14 hC rfl ?_
      refine ret1 hC rfl rfl ?_
      subst k1_5; exact ⟨by simp [jc]; omega, rfl⟩
  by_cases k1_6 : e = -5
  ·
    refine g15k (key := -5) (i' := 31) hC rfl rfl k1_6 rfl ?_
    refine g3 hC rfl rfl ?_
    refine g3 hC rfl rfl ?_
    refine g13g hC rfl (fun h33 => ?_) (fun h33 => ?_)
    ·
      refine g0 hC rfl ?_
      refine ret1 hC rfl rfl ?_
      subst k1_6; exact ⟨by simp [jc]; omega, rfl⟩
    ·
      refine g0 hC rfl ?_
      refine g14 hC rfl ?_
      refine ret1 hC rfl rfl ?_
      subst k1_6; exact ⟨by simp [jc]; omega, rfl⟩
  by_cases k1_7 : e = -4
  ·
    refine g15k (key := -4) (i' := 23) hC rfl rfl k1_7 rfl ?_
    refine g3 hC rfl rfl ?_
    refine g12n hC rfl (fun h24 => ?_) (fun h24 => ?_)
    ·
      refine g3 hC rfl rfl ?_
      refine g3 hC rfl rfl ?_
      refine c1 hC rfl rfl rfl (Nat.le_of_ble_eq_true rfl) (Nat.le_of_ble_eq_true rfl) rfl (m302 ⟨by omega, by omega⟩ ⟨by omega, by omega⟩ (by omega)) (Nat.le_of_ble_eq_true rfl) (fun x M2 hr => ?_)
      obtain ⟨rfl, hr⟩ := hr
      replace hr := hr.symm
      subst hr
      refine ret1 hC rfl rfl ?_
      subst k1_7; exact ⟨by simp [jc]; omega, rfl⟩
    ·
      refine g0 hC rfl ?_
      refine g14 hC rfl ?_
      refine ret1 hC rfl rfl ?_
      subst k1_7; exact ⟨by simp [jc]; omega, rfl⟩
  by_cases k1_8 : e = -3
  ·
    refine g15k (key := -3) (i' := 16) hC rfl rfl k1_8 rfl ?_
    refine g3 hC rfl rfl ?_
    refine g9 hC rfl ?_
    refine g3 hC rfl rfl ?_
    refine g9 hC rfl ?_
    refine g7m hC rfl ⟨by omega, by omega⟩ ?_
    refine c1 hC rfl rfl rfl (Nat.le_of_ble_eq_true rfl) (Nat.le_of_ble_eq_true rfl) rfl (m63 ⟨by omega, by omega⟩) (Nat.le_of_ble_eq_true rfl) (fun x M2 hr => ?_)
    obtain ⟨rfl, hr⟩ := hr
    replace hr := hr.symm
    subst hr
    refine ret1 hC rfl rfl ?_
    subst k1_8; exact ⟨by simp [jc], rfl⟩
  by_cases k1_9 : e = -2
  ·
    refine g15k (key := -2) (i' := 9) hC rfl rfl k1_9 rfl ?_
    refine g3 hC rfl rfl ?_
    refine g9 hC rfl ?_
    refine g3 hC rfl rfl ?_
    refine g9 hC rfl ?_
    refine g7s hC rfl ⟨by omega, by omega⟩ ?_
    refine c1 hC rfl rfl rfl (Nat.le_of_ble_eq_true rfl) (Nat.le_of_ble_eq_true rfl) rfl (m63 ⟨by omega, by omega⟩) (Nat.le_of_ble_eq_true rfl) (fun x M2 hr => ?_)
    obtain ⟨rfl, hr⟩ := hr
    replace hr := hr.symm
    subst hr
    refine ret1 hC rfl rfl ?_
    subst k1_9; exact ⟨by simp [jc], rfl⟩
  by_cases k1_10 : e = -1
  ·
    refine g15k (key := -1) (i' := 2) hC rfl rfl k1_10 rfl ?_
    refine g3 hC rfl rfl ?_
    refine g9 hC rfl ?_
    refine g3 hC rfl rfl ?_
    refine g9 hC rfl ?_
    refine g7a hC rfl ⟨by omega, by omega⟩ ?_
    refine c1 hC rfl rfl rfl (Nat.le_of_ble_eq_true rfl) (Nat.le_of_ble_eq_true rfl) rfl (m63 ⟨by omega, by omega⟩) (Nat.le_of_ble_eq_true rfl) (fun x M2 hr => ?_)
    obtain ⟨rfl, hr⟩ := hr
    replace hr := hr.symm
    subst hr
    refine ret1 hC rfl rfl ?_
    subst k1_10; exact ⟨by simp [jc], rfl⟩
  refine g15d (i' := 68) hC rfl rfl (by show ¬ ((-11 : Int) ≤ _ ∧ _ ≤ (-1 : Int)); omega) rfl ?_
  refine g0 hC rfl ?_
  refine ret1 hC rfl rfl ?_
  refine ⟨?_, rfl⟩
  unfold jc
  rw [if_neg ‹_›, if_neg ‹_›, if_neg ‹_›, if_neg ‹_›, if_neg ‹_›, if_neg ‹_›, if_neg ‹_›, if_neg ‹_›, if_neg ‹_›, if_neg ‹_›, if_neg ‹_›]
theorem jc_cs {kind : Nat} {v a b : Int} (h1 : 1 ≤ v) (h2 : v ≤ 11) (ha : 10 ≤ v → a = 0 ∨ a = 1) (hb : 10 ≤ v → b = 0 ∨ b = 1) : jc (cs kind v) a b = jn v a b := by
  have hv : v = 1 ∨ v = 2 ∨ v = 3 ∨ v = 4 ∨ v = 5 ∨ v = 6 ∨ v = 7 ∨ v = 8 ∨ v = 9 ∨ v = 10 ∨ v = 11 := by omega
  rcases hv with rfl | rfl | rfl | rfl | rfl | rfl | rfl | rfl | rfl | rfl | rfl
  all_goals try (simp [jc, cs, jn]; done)
  · rcases ha (by omega) with rfl | rfl <;> rcases hb (by omega) with rfl | rfl <;> simp [jc, cs, jn]
  · rcases ha (by omega) with rfl | rfl <;> rcases hb (by omega) with rfl | rfl <;> simp [jc, cs, jn]
theorem m61 {a n : Nat} {x : Int} (ha : SH[a]? = some (1, 0, n)) : ax_Ev L X SH 0 61 [(2, (a : Int)), (0, x)] M (R1 0 (fun y M' => y = (if 0 ≤ x ∧ x < n then M a x.toNat else 0) ∧ M' = M)) := by
  show ax_G L X SH 0 61 0 [(2, (a : Int)), (0, x)] [] M _
  have hC := at61
  refine g3 hC rfl rfl ?_
  refine g12l hC rfl (fun h1 => ?_) (fun h1 => ?_)
  ·
    refine g0 hC rfl ?_
    refine ret1 hC rfl rfl ?_
    exact ⟨(if_neg (by omega)).symm, rfl⟩
  ·
    refine g3 hC rfl rfl ?_
    refine g3 hC rfl rfl ?_
    refine g23 hC rfl ha ?_
    refine g13g hC rfl (fun h5 => ?_) (fun h5 => ?_)
    ·
      refine g0 hC rfl ?_
      refine ret1 hC rfl rfl ?_
      exact ⟨(if_neg (by omega)).symm, rfl⟩
    ·
      refine g3 hC rfl rfl ?_
      refine g3 hC rfl rfl ?_
      refine r21 (x.toNat) hC rfl (by omega) ha (Or.inl rfl) (by omega) rfl ?_
      refine g14 hC rfl ?_
      refine ret1 hC rfl rfl ?_
      exact ⟨(if_pos (by omega)).symm, rfl⟩
end PEV
end
section
def W0 : ax_W := ([(5, 6), (23, 24), (26, 27), (41, 42), (44, 45)], [])
theorem W0s {p k : Nat} (hp : isP p) : wb W0 (p + 2) k = true := by rcases hp with rfl | rfl | rfl | rfl | rfl <;> rfl
theorem W0c {p k : Nat} (hp : isP p) : wb W0 (p + 1) k = false := by rcases hp with rfl | rfl | rfl | rfl | rfl <;> rfl
theorem W0o {p k : Nat} (hp : isP p) : wb W0 p k = false := by rcases hp with rfl | rfl | rfl | rfl | rfl <;> rfl
def lal (kind : Nat) (v : Int) : Prop := (40 ≤ v → v < 60 → v < 43 ∨ (kind = 0 ∧ v ≤ 44) ∨ (kind = 1 ∧ 45 ≤ v ∧ v ≤ 46) ∨ (kind = 2 ∧ 47 ≤ v ∧ v ≤ 50)) ∧ (60 ≤ v → v < 1000 → kind = 2)
def Code (M : ax_M) (p kind : Nat) (c : Nat → Int) (n : Nat) : Prop := M p 1 = (n : Int) ∧ n ≤ 1600 ∧ (∀ k, k < n → M (p + 1) k = cs kind (c k)) ∧ ∀ k, k < n → lal kind (c k)
def bnd (f : Int) : Prop := -1000000 ≤ f ∧ f ≤ 1000000
theorem ev_succ {lf : Nat → Int} {mt : Int → Int} {c : Nat → Int} {k : Nat} : ev lf mt c (k + 1) = e1 lf mt (c k) (ev lf mt c k) := rfl
section VAL
variable {L : Nat} {X : Nat → Int} {M : ax_M}
theorem m60l {p la nl mr kind n : Nat} {b : Bool} {c : Nat → Int} {lf : Nat → Int} {mt : Int → Int} (hF : Fix M) (hp : isP p) (hla : SH[la]? = some (1, 0, nl)) (hmr : SH[mr]? = some (1, 0, 8)) (hnl : nl = if kind = 2 then 7 else 5) (hc : Code M p kind c n) (hlv : ∀ v : Int, 40 ≤ v → v < 60 → lal kind v → M la (ci kind (v - 40)).toNat = lf (v - 40).toNat) (hT : Typed c n b) (hlb : ∀ i, bnd (lf i)) (hmb : ∀ i, bnd (mt i)) (hmt : kind = 2 → ∀ x : Int, (if 0 ≤ x ∧ x < 8 then M mr x.toNat else 0) = mt x) (wla : ∀ k, wb W0 la k = false) (wmr : ∀ k, wb W0 mr k = false) : ∀ (m k : Nat), k + m = n → ∀ ll M1, (∃ u v, ll = [(2, (p : Int)), (2, (la : Int)), (2, (mr : Int)), (0, ((ev lf mt c k).2 : Int)), (0, (k : Int)), u, v] ∧ Sb W0 M M1 ∧ ∀ q, q < (ev lf mt c k).2 → M1 (p + 2) q = (ev lf mt c k).1 q) → ax_G L X SH 2 60 4 ll [] M1 (R1 0 (fun x M' => x = pval lf mt c n ∧ Sb W0 M M')) := by
  have hC := at60
  have hw : wok W0 = true := by decide +kernel
  have hwp : ∀ (_ k : Nat), wb W0 (p + 2) k = true := fun _ _ => W0s hp
  obtain ⟨hn, hn2, hcc, hcl⟩ := hc
  obtain ⟨hT1, hT2, hT3⟩ := hT
  refine lp (n := n) ?_ ?_
  · rintro ll M1 ⟨u, v, rfl, hS, hq⟩
    have hv := vok_ev hlb hmb hT1 n (Nat.le_refl n)
    have ht : (ev lf mt c n).2 = 1 := hv.1.trans hT2
    have hq0 := hq 0 (by omega)
    rw [ht]
    refine g3 hC rfl rfl ?_
    refine g3 hC rfl rfl ?_
    refine g19 hC rfl (shPg hp) (Nat.le_of_ble_eq_true rfl) rfl ((hS _ _ (W0o hp)).trans hn) ?_
    refine g13g hC rfl (fun h7 => ?_) (fun h7 => (by omega))
    refine g3 hC rfl rfl ?_
    refine g12s hC rfl (fun h100 => (by omega)) (fun h100 => ?_)
    refine g3 hC rfl rfl ?_
    refine g19 hC rfl (shPg hp) (Nat.le_of_ble_eq_true rfl) rfl (prog2 (hS.fix hw hF) hp) ?_
    refine g0 hC rfl ?_
    refine r21 (0) hC rfl (by omega) (shPa2 hp) (Or.inl rfl) (by omega) hq0 ?_
    refine g14 hC rfl ?_
    refine ret1 hC rfl rfl ?_
    exact ⟨rfl, hS⟩
  · rintro k hk ll M1 ⟨u, v, rfl, hS, hq⟩ hnext
    have hv := vok_ev hlb hmb hT1 k (Nat.le_of_lt hk)
    have hok := hT1 k hk
    have h64 := tys_le hT1 k (Nat.le_of_lt hk)
    have hcl := hcl k hk
    have hcc := hcc k hk
    have hes := ev_succ (lf := lf) (mt := mt) (c := c) (k := k)
    generalize ev lf mt c k = x at *
    obtain ⟨s, t⟩ := x
    generalize tys c k = y at *
    obtain ⟨τ, t1⟩ := y
    obtain ⟨ht, hv⟩ := hv
    dsimp only at ht hv hq hes h64 ⊢
    subst ht
    generalize c k = w at *
    unfold tok at hok
    unfold e1 at hes
    dsimp only at hok hes
    have push : ∀ (M2 : ax_M) (z : Int) (u v : ax_V), Sb W0 M M2 → (∀ q, q < t → M2 (p + 2) q = s q) → ev lf mt c (k + 1) = (up s t z, t + 1) → ax_G L X SH 2 60 4 [(2, (p : Int)), (2, (la : Int)), (2, (mr : Int)), (0, (t : Int) + 1), (0, (k : Int) + 1), u, v] [] (ax_up M2 (p + 2) t z) (R1 0 (fun x M' => x = pval lf mt c n ∧ Sb W0 M M')) := by
      intro M2 z u v h1 h2 h3
      refine hnext _ _ ⟨u, v, ?_, h1.up (W0s hp), ?_⟩
      · rw [h3]; rfl
      · rw [h3]
        intro q hq
        rw [ax_upf]
        unfold up
        dsimp only at hq ⊢
        split
        · rfl
        · exact h2 q (by omega)
    have put : ∀ (M2 : ax_M) (z : Int) (i t' : Nat) (u v : ax_V), Sb W0 M M2 → (∀ q, q < t → M2 (p + 2) q = s q) → t' ≤ t → ev lf mt c (k + 1) = (up s i z, t') → ax_G L X SH 2 60 4 [(2, (p : Int)), (2, (la : Int)), (2, (mr : Int)), (0, (t' : Int)), (0, (k : Int) + 1), u, v] [] (ax_up M2 (p + 2) i z) (R1 0 (fun x M' => x = pval lf mt c n ∧ Sb W0 M M')) := by
      intro M2 z i t' u v h1 h2 ht h3
      refine hnext _ _ ⟨u, v, ?_, h1.up (W0s hp), ?_⟩
      · rw [h3]; rfl
      · rw [h3]
        intro q hq
        rw [ax_upf]
        unfold up
        dsimp only at hq ⊢
        split
        · rfl
        · exact h2 q (by omega)
    have hcode := (hS _ _ (W0c hp)).trans hcc
    have hS0 := hS
    have hnl7 : nl ≤ 7 := by rw [hnl]; split <;> omega
    by_cases h1 : 1000 ≤ w
    · rw [if_pos h1] at hok hes
      have e : cs kind w = w - 1000 := by unfold cs; rw [if_pos h1]
      refine g3 hC rfl rfl ?_
      refine g3 hC rfl rfl ?_
      refine g19 hC rfl (shPg hp) (Nat.le_of_ble_eq_true rfl) rfl ((hS _ _ (W0o hp)).trans hn) ?_
      refine g13g hC rfl (fun h7 => (by omega)) (fun h7 => ?_)
      refine g3 hC rfl rfl ?_
      refine g19 hC rfl (shPg hp) (Nat.le_of_ble_eq_true rfl) rfl (prog0 (hS.fix hw hF) hp) ?_
      refine g3 hC rfl rfl ?_
      refine r21 (k) hC rfl (by omega) (shPa0 hp) (Or.inl rfl) (by omega) (hcode.trans e) ?_
      refine s5 hC rfl rfl rfl ?_
      refine g3 hC rfl rfl ?_
      refine g12g hC rfl (fun h14 => ?_) (fun h14 => (by omega))
      refine g3 hC rfl rfl ?_
      refine g0 hC rfl ?_
      refine g13l hC rfl (fun h20 => ?_) (fun h20 => (by omega))
      refine g3 hC rfl rfl ?_
      refine g19 hC rfl (shPg hp) (Nat.le_of_ble_eq_true rfl) rfl (prog2 (hS.fix hw hF) hp) ?_
      refine g3 hC rfl rfl ?_
      refine g3 hC rfl rfl ?_
      refine g12l hC rfl (fun h27 => (by omega)) (fun h27 => ?_)
      refine g3 hC rfl rfl ?_
      refine g14 hC rfl ?_
      refine r22s (t) hC rfl (by omega) (shPa2 hp) (by omega) rfl hS (hwp 0 _) (fun hS => ?_)
      refine n3 hC rfl rfl ⟨by omega, by omega⟩ ?_
      refine g14 hC rfl ?_
      refine n4 hC rfl rfl ⟨by omega, by omega⟩ ?_
      refine g14 hC rfl ?_
      exact push _ _ _ _ (by assumption) hq hes
    rw [if_neg h1] at hok hes
    by_cases h2 : 60 ≤ w
    · rw [if_pos h2] at hok hes
      have e : cs kind w = -13 := by unfold cs; rw [if_neg h1, if_pos h2]
      have hk2 := hcl.2 h2 (by omega)
      have hz := hq (t - 1) (by omega)
      refine g3 hC rfl rfl ?_
      refine g3 hC rfl rfl ?_
      refine g19 hC rfl (shPg hp) (Nat.le_of_ble_eq_true rfl) rfl ((hS _ _ (W0o hp)).trans hn) ?_
      refine g13g hC rfl (fun h7 => (by omega)) (fun h7 => ?_)
      refine g3 hC rfl rfl ?_
      refine g19 hC rfl (shPg hp) (Nat.le_of_ble_eq_true rfl) rfl (prog0 (hS.fix hw hF) hp) ?_
      refine g3 hC rfl rfl ?_
      refine r21 (k) hC rfl (by omega) (shPa0 hp) (Or.inl rfl) (by omega) (hcode.trans e) ?_
      refine s5 hC rfl rfl rfl ?_
      refine g3 hC rfl rfl ?_
      refine g12g hC rfl (fun h14 => (by omega)) (fun h14 => ?_)
      refine g3 hC rfl rfl ?_
      refine g0 hC rfl ?_
      refine g13t hC rfl (fun h17 => ?_) (fun h17 => (by omega))
      refine g3 hC rfl rfl ?_
      refine g0 hC rfl ?_
      refine g13e hC rfl (fun h40 => (by omega)) (fun h40 => ?_)
      refine g3 hC rfl rfl ?_
      refine g0 hC rfl ?_
      refine g13n hC rfl (fun h43 => (by omega)) (fun h43 => ?_)
      refine g3 hC rfl rfl ?_
      refine g0 hC rfl ?_
      refine g13g hC rfl (fun h46 => ?_) (fun h46 => (by omega))
      refine g3 hC rfl rfl ?_
      refine g19 hC rfl (shPg hp) (Nat.le_of_ble_eq_true rfl) rfl (prog2 (hS.fix hw hF) hp) ?_
      refine g3 hC rfl rfl ?_
      refine g0 hC rfl ?_
      refine g6s hC rfl ⟨by omega, by omega⟩ ?_
      refine r21 ((t - 1)) hC rfl (by omega) (shPa2 hp) (Or.inl rfl) (by omega) hz ?_
      refine s6 hC rfl rfl rfl ?_
      refine g3 hC rfl rfl ?_
      refine g19 hC rfl (shPg hp) (Nat.le_of_ble_eq_true rfl) rfl (prog2 (hS.fix hw hF) hp) ?_
      refine g3 hC rfl rfl ?_
      refine g0 hC rfl ?_
      refine g6s hC rfl ⟨by omega, by omega⟩ ?_
      refine g3 hC rfl rfl ?_
      refine g0 hC rfl ?_
      refine g13n hC rfl (fun h63 => ?_) (fun h63 => (by omega))
      refine g3 hC rfl rfl ?_
      refine g3 hC rfl rfl ?_
      refine c1 hC rfl rfl rfl (Nat.le_of_ble_eq_true rfl) (Nat.le_of_ble_eq_true rfl) rfl (m61 hmr) (Nat.le_of_ble_eq_true rfl) (fun x M2 hr => ?_)
      obtain ⟨rfl, hr⟩ := hr
      replace hr := hr.symm
      subst hr
      refine r22s ((t - 1)) hC rfl (by omega) (shPa2 hp) (by omega) rfl hS (hwp 0 _) (fun hS => ?_)
      refine g14 hC rfl ?_
      refine n4 hC rfl rfl ⟨by omega, by omega⟩ ?_
      refine g14 hC rfl ?_
      have hm := hmt hk2 (s (t - 1))
      rw [show (if 0 ≤ s (t - 1) ∧ s (t - 1) < ((8 : Nat) : Int) then M1 mr (s (t - 1)).toNat else 0) = mt (s (t - 1)) by rw [← hm, hS0 _ _ (wmr _)]; rfl]
      exact put _ _ _ t _ _ (by assumption) hq (Nat.le_refl t) hes
    rw [if_neg h2] at hok hes
    by_cases h3 : 40 ≤ w
    · rw [if_pos h3] at hok hes
      have e : cs kind w = -100 - ci kind (w - 40) := by unfold cs; rw [if_neg h1, if_neg h2, if_pos h3]
      have hci : 0 ≤ ci kind (w - 40) ∧ ci kind (w - 40) < nl := by
        have h5 := hcl.1 h3 (by omega)
        unfold ci
        rw [hnl]
        repeat' split
        all_goals omega
      have hlw := hlv w h3 (by omega) hcl
      refine g3 hC rfl rfl ?_
      refine g3 hC rfl rfl ?_
      refine g19 hC rfl (shPg hp) (Nat.le_of_ble_eq_true rfl) rfl ((hS _ _ (W0o hp)).trans hn) ?_
      refine g13g hC rfl (fun h7 => (by omega)) (fun h7 => ?_)
      refine g3 hC rfl rfl ?_
      refine g19 hC rfl (shPg hp) (Nat.le_of_ble_eq_true rfl) rfl (prog0 (hS.fix hw hF) hp) ?_
      refine g3 hC rfl rfl ?_
      refine r21 (k) hC rfl (by omega) (shPa0 hp) (Or.inl rfl) (by omega) (hcode.trans e) ?_
      refine s5 hC rfl rfl rfl ?_
      refine g3 hC rfl rfl ?_
      refine g12g hC rfl (fun h14 => (by omega)) (fun h14 => ?_)
      refine g3 hC rfl rfl ?_
      refine g0 hC rfl ?_
      refine g13t hC rfl (fun h17 => (by omega)) (fun h17 => ?_)
      refine g3 hC rfl rfl ?_
      refine g0 hC rfl ?_
      refine g13l hC rfl (fun h20 => ?_) (fun h20 => (by omega))
      refine g3 hC rfl rfl ?_
      refine g19 hC rfl (shPg hp) (Nat.le_of_ble_eq_true rfl) rfl (prog2 (hS.fix hw hF) hp) ?_
      refine g3 hC rfl rfl ?_
      refine g3 hC rfl rfl ?_
      refine g12l hC rfl (fun h27 => ?_) (fun h27 => (by omega))
      refine g3 hC rfl rfl ?_
      refine g0 hC rfl ?_
      refine g3 hC rfl rfl ?_
      refine g6s hC rfl ⟨by omega, by omega⟩ ?_
      refine c1 hC rfl rfl rfl (Nat.le_of_ble_eq_true rfl) (Nat.le_of_ble_eq_true rfl) rfl (m61 hla) (Nat.le_of_ble_eq_true rfl) (fun x M2 hr => ?_)
      obtain ⟨rfl, hr⟩ := hr
      replace hr := hr.symm
      subst hr
      refine r22s (t) hC rfl (by omega) (shPa2 hp) (by omega) rfl hS (hwp 0 _) (fun hS => ?_)
      refine n3 hC rfl rfl ⟨by omega, by omega⟩ ?_
      refine g14 hC rfl ?_
      refine n4 hC rfl rfl ⟨by omega, by omega⟩ ?_
      refine g14 hC rfl ?_
      rw [if_pos (by omega), show (-100 - (-100 - ci kind (w - 40))).toNat = (ci kind (w - 40)).toNat by omega, hS0 _ _ (wla _), hlw]
      exact push _ _ _ _ (by assumption) hq hes
    rw [if_neg h3] at hok hes
    by_cases h4 : w = 13
    · rw [if_pos h4] at hok hes
      have e : cs kind w = 1 := by unfold cs; rw [if_neg h1, if_neg h2, if_neg h3, if_pos h4]
      refine g3 hC rfl rfl ?_
      refine g3 hC rfl rfl ?_
      refine g19 hC rfl (shPg hp) (Nat.le_of_ble_eq_true rfl) rfl ((hS _ _ (W0o hp)).trans hn) ?_
      refine g13g hC rfl (fun h7 => (by omega)) (fun h7 => ?_)
      refine g3 hC rfl rfl ?_
      refine g19 hC rfl (shPg hp) (Nat.le_of_ble_eq_true rfl) rfl (prog0 (hS.fix hw hF) hp) ?_
      refine g3 hC rfl rfl ?_
      refine r21 (k) hC rfl (by omega) (shPa0 hp) (Or.inl rfl) (by omega) (hcode.trans e) ?_
      refine s5 hC rfl rfl rfl ?_
      refine g3 hC rfl rfl ?_
      refine g12g hC rfl (fun h14 => ?_) (fun h14 => (by omega))
      refine g3 hC rfl rfl ?_
      refine g0 hC rfl ?_
      refine g13l hC rfl (fun h20 => ?_) (fun h20 => (by omega))
      refine g3 hC rfl rfl ?_
      refine g19 hC rfl (shPg hp) (Nat.le_of_ble_eq_true rfl) rfl (prog2 (hS.fix hw hF) hp) ?_
      refine g3 hC rfl rfl ?_
      refine g3 hC rfl rfl ?_
      refine g12l hC rfl (fun h27 => (by omega)) (fun h27 => ?_)
      refine g3 hC rfl rfl ?_
      refine g14 hC rfl ?_
      refine r22s (t) hC rfl (by omega) (shPa2 hp) (by omega) rfl hS (hwp 0 _) (fun hS => ?_)
      refine n3 hC rfl rfl ⟨by omega, by omega⟩ ?_
      refine g14 hC rfl ?_
      refine n4 hC rfl rfl ⟨by omega, by omega⟩ ?_
      refine g14 hC rfl ?_
      exact push _ _ _ _ (by assumption) hq hes
    rw [if_neg h4] at hok hes
    by_cases h5 : w = 12
    · rw [if_pos h5] at hok hes
      have e : cs kind w = -12 := by unfold cs; rw [if_neg h1, if_neg h2, if_neg h3, if_neg h4, if_pos h5]
      have hz := hq (t - 1) (by omega)
      have hvb := (hv (t - 1) (by omega)).1 hok.2
      refine g3 hC rfl rfl ?_
      refine g3 hC rfl rfl ?_
      refine g19 hC rfl (shPg hp) (Nat.le_of_ble_eq_true rfl) rfl ((hS _ _ (W0o hp)).trans hn) ?_
      refine g13g hC rfl (fun h7 => (by omega)) (fun h7 => ?_)
      refine g3 hC rfl rfl ?_
      refine g19 hC rfl (shPg hp) (Nat.le_of_ble_eq_true rfl) rfl (prog0 (hS.fix hw hF) hp) ?_
      refine g3 hC rfl rfl ?_
      refine r21 (k) hC rfl (by omega) (shPa0 hp) (Or.inl rfl) (by omega) (hcode.trans e) ?_
      refine s5 hC rfl rfl rfl ?_
      refine g3 hC rfl rfl ?_
      refine g12g hC rfl (fun h14 => (by omega)) (fun h14 => ?_)
      refine g3 hC rfl rfl ?_
      refine g0 hC rfl ?_
      refine g13t hC rfl (fun h17 => ?_) (fun h17 => (by omega))
      refine g3 hC rfl rfl ?_
      refine g0 hC rfl ?_
      refine g13e hC rfl (fun h40 => ?_) (fun h40 => (by omega))
      refine g3 hC rfl rfl ?_
      refine g0 hC rfl ?_
      refine g13g hC rfl (fun h46 => ?_) (fun h46 => (by omega))
      refine g3 hC rfl rfl ?_
      refine g19 hC rfl (shPg hp) (Nat.le_of_ble_eq_true rfl) rfl (prog2 (hS.fix hw hF) hp) ?_
      refine g3 hC rfl rfl ?_
      refine g0 hC rfl ?_
      refine g6s hC rfl ⟨by omega, by omega⟩ ?_
      refine r21 ((t - 1)) hC rfl (by omega) (shPa2 hp) (Or.inl rfl) (by omega) hz ?_
      refine s6 hC rfl rfl rfl ?_
      refine g3 hC rfl rfl ?_
      refine g19 hC rfl (shPg hp) (Nat.le_of_ble_eq_true rfl) rfl (prog2 (hS.fix hw hF) hp) ?_
      refine g3 hC rfl rfl ?_
      refine g0 hC rfl ?_
      refine g6s hC rfl ⟨by omega, by omega⟩ ?_
      refine g3 hC rfl rfl ?_
      refine g0 hC rfl ?_
      refine g13n hC rfl (fun h63 => (by omega)) (fun h63 => ?_)
      refine g0 hC rfl ?_
      refine g3 hC rfl rfl ?_
      refine g6s hC rfl ⟨by omega, by omega⟩ ?_
      refine g14 hC rfl ?_
      refine r22s ((t - 1)) hC rfl (by omega) (shPa2 hp) (by omega) rfl hS (hwp 0 _) (fun hS => ?_)
      refine g14 hC rfl ?_
      refine n4 hC rfl rfl ⟨by omega, by omega⟩ ?_
      refine g14 hC rfl ?_
      exact put _ _ _ t _ _ (by assumption) hq (Nat.le_refl t) hes
    rw [if_neg h5] at hok hes
    obtain ⟨a1, a2, a3, a4, a5⟩ := hok
    have hz := hq (t - 1) (by omega)
    have hz2 := hq (t - 2) (by omega)
    have k1 := hv (t - 1) (by omega)
    have k2 := hv (t - 2) (by omega)
    rw [a4] at k1
    rw [a5] at k2
    have r1 : -1000000 ≤ s (t - 1) ∧ s (t - 1) ≤ 1000000 := by
      by_cases q : 10 ≤ w
      · have := k1.1 (decide_eq_true q); omega
      · exact k1.2 (decide_eq_false q)
    have r2 : -1000000 ≤ s (t - 2) ∧ s (t - 2) ≤ 1000000 := by
      by_cases q : 10 ≤ w
      · have := k2.1 (decide_eq_true q); omega
      · exact k2.2 (decide_eq_false q)
    have e : -12 < cs kind w ∧ cs kind w < 0 := by
      unfold cs
      rw [if_neg h1, if_neg h2, if_neg h3, if_neg h4, if_neg h5]
      repeat' split
      all_goals omega
    refine g3 hC rfl rfl ?_
    refine g3 hC rfl rfl ?_
    refine g19 hC rfl (shPg hp) (Nat.le_of_ble_eq_true rfl) rfl ((hS _ _ (W0o hp)).trans hn) ?_
    refine g13g hC rfl (fun h7 => (by omega)) (fun h7 => ?_)
    refine g3 hC rfl rfl ?_
    refine g19 hC rfl (shPg hp) (Nat.le_of_ble_eq_true rfl) rfl (prog0 (hS.fix hw hF) hp) ?_
    refine g3 hC rfl rfl ?_
    refine r21 (k) hC rfl (by omega) (shPa0 hp) (Or.inl rfl) (by omega) hcode ?_
    refine s5 hC rfl rfl rfl ?_
    refine g3 hC rfl rfl ?_
    refine g12g hC rfl (fun h14 => (by omega)) (fun h14 => ?_)
    refine g3 hC rfl rfl ?_
    refine g0 hC rfl ?_
    refine g13t hC rfl (fun h17 => ?_) (fun h17 => (by omega))
    refine g3 hC rfl rfl ?_
    refine g0 hC rfl ?_
    refine g13e hC rfl (fun h40 => (by omega)) (fun h40 => ?_)
    refine g3 hC rfl rfl ?_
    refine g0 hC rfl ?_
    refine g13n hC rfl (fun h43 => ?_) (fun h43 => (by omega))
    refine g3 hC rfl rfl ?_
    refine g0 hC rfl ?_
    refine g13g hC rfl (fun h75 => ?_) (fun h75 => (by omega))
    refine n3 hC rfl rfl ⟨by omega, by omega⟩ ?_
    refine g3 hC rfl rfl ?_
    refine g19 hC rfl (shPg hp) (Nat.le_of_ble_eq_true rfl) rfl (prog2 (hS.fix hw hF) hp) ?_
    refine g3 hC rfl rfl ?_
    refine g0 hC rfl ?_
    refine g6s hC rfl ⟨by omega, by omega⟩ ?_
    refine g3 hC rfl rfl ?_
    refine g3 hC rfl rfl ?_
    refine g19 hC rfl (shPg hp) (Nat.le_of_ble_eq_true rfl) rfl (prog2 (hS.fix hw hF) hp) ?_
    refine g3 hC rfl rfl ?_
    refine g0 hC rfl ?_
    refine g6s hC rfl ⟨by omega, by omega⟩ ?_
    refine r21 (t - 2) hC rfl (by omega) (shPa2 hp) (Or.inl rfl) (by omega) hz2 ?_
    refine g3 hC rfl rfl ?_
    refine g19 hC rfl (shPg hp) (Nat.le_of_ble_eq_true rfl) rfl (prog2 (hS.fix hw hF) hp) ?_
    refine g3 hC rfl rfl ?_
    refine r21 (t - 1) hC rfl (by omega) (shPa2 hp) (Or.inl rfl) (by omega) hz ?_
    refine c1 hC rfl rfl rfl (Nat.le_of_ble_eq_true rfl) (Nat.le_of_ble_eq_true rfl) rfl (m62 r2 r1) (Nat.le_of_ble_eq_true rfl) (fun x M2 hr => ?_)
    obtain ⟨rfl, hr⟩ := hr
    replace hr := hr.symm
    subst hr
    refine r22s ((t - 2)) hC rfl (by omega) (shPa2 hp) (by omega) rfl hS (hwp 0 _) (fun hS => ?_)
    refine n4 hC rfl rfl ⟨by omega, by omega⟩ ?_
    refine g14 hC rfl ?_
    rw [jc_cs a1 a2 (fun q => k2.1 (decide_eq_true q)) (fun q => k1.1 (decide_eq_true q))]
    rw [show (t : Int) + -1 = ((t - 1 : Nat) : Int) by omega]
    exact put _ _ _ (t - 1) _ _ (by assumption) hq (Nat.sub_le t 1) hes
theorem m60 {p la nl mr kind n : Nat} {b : Bool} {c : Nat → Int} {lf : Nat → Int} {mt : Int → Int} (hF : Fix M) (hp : isP p) (hla : SH[la]? = some (1, 0, nl)) (hmr : SH[mr]? = some (1, 0, 8)) (hnl : nl = if kind = 2 then 7 else 5) (hc : Code M p kind c n) (hlv : ∀ v : Int, 40 ≤ v → v < 60 → lal kind v → M la (ci kind (v - 40)).toNat = lf (v - 40).toNat) (hT : Typed c n b) (hlb : ∀ i, bnd (lf i)) (hmb : ∀ i, bnd (mt i)) (hmt : kind = 2 → ∀ x : Int, (if 0 ≤ x ∧ x < 8 then M mr x.toNat else 0) = mt x) (wla : ∀ k, wb W0 la k = false) (wmr : ∀ k, wb W0 mr k = false) : ax_Ev L X SH 2 60 [(2, (p : Int)), (2, (la : Int)), (2, (mr : Int))] M (R1 0 (fun x M' => x = pval lf mt c n ∧ Sb W0 M M')) := by
  show ax_G L X SH 2 60 0 [(2, (p : Int)), (2, (la : Int)), (2, (mr : Int)), (3, 0), (3, 0), (3, 0), (3, 0)] [] M _
  have hC := at60
  refine g0 hC rfl ?_
  refine s3 hC rfl rfl rfl ?_
  refine g0 hC rfl ?_
  refine s4 hC rfl rfl rfl ?_
  exact m60l hF hp hla hmr hnl hc hlv hT hlb hmb hmt wla wmr n 0 (Nat.zero_add n) _ _ ⟨_, _, rfl, Sb.refl, fun q hq => absurd hq (Nat.not_lt_zero q)⟩
theorem m60z {p la mr : Nat} (hp : isP p) (h0 : M p 1 = 0) : ax_Ev L X SH 2 60 [(2, (p : Int)), (2, (la : Int)), (2, (mr : Int))] M (R1 0 (fun x M' => x = 0 ∧ M' = M)) := by
  show ax_G L X SH 2 60 0 [(2, (p : Int)), (2, (la : Int)), (2, (mr : Int)), (3, 0), (3, 0), (3, 0), (3, 0)] [] M _
  have hC := at60
  refine g0 hC rfl ?_
  refine s3 hC rfl rfl rfl ?_
  refine g0 hC rfl ?_
  refine s4 hC rfl rfl rfl ?_
  refine g3 hC rfl rfl ?_
  refine g3 hC rfl rfl ?_
  refine g19 hC rfl (shPg hp) (Nat.le_of_ble_eq_true rfl) rfl h0 ?_
  refine g13g hC rfl (fun h7 => ?_) (fun h7 => (by omega))
  refine g3 hC rfl rfl ?_
  refine g12s hC rfl (fun h100 => ?_) (fun h100 => (by omega))
  refine g0 hC rfl ?_
  refine ret1 hC rfl rfl ?_
  exact ⟨rfl, rfl⟩
end VAL
end
section
theorem isS_neg {a : Int} (h : ax_isS a = true) : a ≤ -10 := (of_decide_eq_true h).1
theorem isS_B {a : Int} (h : ax_isS a = true) : ax_isB (a - 1) = true := by
  have h := of_decide_eq_true h
  refine decide_eq_true ⟨by omega, by omega, ?_⟩
  rw [show a - 1 + 1 = a by omega]; exact h.2.2
theorem isB_neg {a : Int} (h : ax_isB a = true) : a ≤ -11 := (of_decide_eq_true h).1
section STG
variable {L : Nat} {X : Nat → Int} {S : List ax_H} {d j i : Nat} {ll st : List ax_V} {M : ax_M} {P : List ax_V → ax_M → Prop} {C : List ax_O}
theorem gS0 {w a : Int} (hC : ∀ i, ax_at j i = C[i]?) (h : C[i]? = some (19, 13, 0, w)) (ha : ax_isS a = true) (k : ax_G L X S d j (i + 1) ll ((2, a - 1) :: st) M P) : ax_G L X S d j i ll ((2, a) :: st) M P := by
  have hn := isS_neg ha
  refine ax_gs ((hC i).trans h) (fun q => (by cases q)) (fun q => (by cases q)) ?_ k
  have e : ax_get S M 13 0 a = some (2, a - 1) := by
    unfold ax_get
    rw [if_neg (by omega), if_pos ⟨rfl, ha⟩, if_pos rfl]
  show (match ax_get S M 13 0 a with | some v => some (i + 1, ll, v :: st, S, M) | none => none) = _
  rw [e]
theorem gS1 {w a : Int} (hC : ∀ i, ax_at j i = C[i]?) (h : C[i]? = some (19, 13, 1, w)) (ha : ax_isS a = true) (k : ax_G L X S d j (i + 1) ll ((0, 0) :: st) M P) : ax_G L X S d j i ll ((2, a) :: st) M P := by
  have hn := isS_neg ha
  refine ax_gs ((hC i).trans h) (fun q => (by cases q)) (fun q => (by cases q)) ?_ k
  have e : ax_get S M 13 1 a = some (0, 0) := by
    unfold ax_get
    rw [if_neg (by omega), if_pos ⟨rfl, ha⟩, if_neg (by decide), if_pos rfl]
  show (match ax_get S M 13 1 a with | some v => some (i + 1, ll, v :: st, S, M) | none => none) = _
  rw [e]
theorem gSl {f g : Nat} {w b : Int} (hC : ∀ i, ax_at j i = C[i]?) (h : C[i]? = some (23, f, g, w)) (hb : ax_isB b = true) (k : ax_G L X S d j (i + 1) ll ((0, ((ax_by b).length : Int)) :: st) M P) : ax_G L X S d j i ll ((2, b) :: st) M P := by
  have hn := isB_neg hb
  refine ax_gs ((hC i).trans h) (fun q => (by cases q)) (fun q => (by cases q)) ?_ k
  have e : ax_aln L S b = some ((ax_by b).length : Int) := by
    unfold ax_aln
    rw [if_neg (by omega), if_neg (by omega), if_pos hb]
  show (match ax_aln L S b with | some n => some (i + 1, ll, (0, n) :: st, S, M) | none => none) = _
  rw [e]
theorem gSe {g q : Nat} {w b : Int} (hC : ∀ i, ax_at j i = C[i]?) (h : C[i]? = some (21, 3, g, w)) (hb : ax_isB b = true) (hq : q < (ax_by b).length) (k : ax_G L X S d j (i + 1) ll ((0, (ax_by b).getD q 0) :: st) M P) : ax_G L X S d j i ll ((0, (q : Int)) :: (2, b) :: st) M P := by
  have hn := isB_neg hb
  refine ax_gs ((hC i).trans h) (fun q => (by cases q)) (fun q => (by cases q)) ?_ k
  have e : ax_ald L X S M 3 b (q : Int) = some (0, (ax_by b).getD q 0) := by
    unfold ax_ald
    rw [if_neg (by omega), if_neg (by omega), if_neg (by omega), if_pos hb, if_pos ⟨rfl, by omega, by omega⟩, Int.toNat_natCast]
  show (match ax_ald L X S M 3 b (q : Int) with | some v => some (i + 1, ll, v :: st, S, M) | none => none) = _
  rw [e]
theorem ret4 {g : Nat} {w x : Int} {Q : Int → ax_M → Prop} (hC : ∀ i, ax_at j i = C[i]?) (h : C[i]? = some (28, 4, g, w)) (hx : 0 ≤ x ∧ x < 65536) (hq : Q x M) : ax_G L X S d j i ll [(0, x)] M (R1 0 Q) := g28 hC h (if_pos hx) ⟨x, rfl, hq⟩
end STG
theorem k308 : ax_kd 308 = 1 ∧ ax_own 308 = 14 ∧ ax_ml 308 = 1 := by decide +kernel
theorem k309 : ax_kd 309 = 1 ∧ ax_own 309 = 14 ∧ ax_ml 309 = 2 := by decide +kernel
theorem k310 : ax_kd 310 = 1 ∧ ax_own 310 = 14 ∧ ax_ml 310 = 1 := by decide +kernel
theorem k311 : ax_kd 311 = 1 ∧ ax_own 311 = 14 ∧ ax_ml 311 = 1 := by decide +kernel
theorem k312 : ax_kd 312 = 0 ∧ ax_ml 312 = 2 := by decide +kernel
theorem k313 : ax_kd 313 = 0 ∧ ax_ml 313 = 2 := by decide +kernel
theorem k314 : ax_kd 314 = 0 ∧ ax_ml 314 = 3 := by decide +kernel
theorem mayT {j n : Nat} {as : List ax_V} {a : Int} (k : ax_kd j = 1 ∧ ax_own j = 14 ∧ ax_ml j = n) (h : Nat.ble (ax_ent ((2, a) :: as)).length n = true) (ha : ax_isS a = true) : ax_may j SH ((2, a) :: as) = true := by
  unfold ax_may
  rw [k.1, k.2.2, decide_eq_true (Nat.le_of_ble_eq_true h), Bool.true_and]
  show (decide ((0 : Int) ≤ a ∧ SH[a.toNat]? = some (0, ax_own j, ax_fl (ax_own j))) || (decide (ax_own j = 14) && ax_isS a)) = true
  rw [k.2.1, ha, decide_eq_true rfl, Bool.true_and, Bool.or_true]
section STR
variable {L : Nat} {X : Nat → Int} {M : ax_M} {a : Int}
theorem m310 (ha : ax_isS a = true) : ax_Ev L X SH 0 310 [(2, a)] M (R1 0 (fun x M' => x = 0 ∧ M' = M)) := by
  show ax_G L X SH 0 310 0 [(2, a)] [] M _
  have hC := at310
  refine g0 hC rfl ?_
  refine g12e hC rfl (fun q => by omega) (fun _ => ?_)
  refine g3 hC rfl rfl ?_
  refine gS1 hC rfl ha ?_
  refine g14 hC rfl ?_
  exact ret1 hC rfl rfl ⟨rfl, rfl⟩
theorem m311 (ha : ax_isS a = true) : ax_Ev L X SH 0 311 [(2, a)] M (R1 0 (fun x M' => x = 1 ∧ M' = M)) := by
  show ax_G L X SH 0 311 0 [(2, a)] [] M _
  have hC := at311
  refine g0 hC rfl ?_
  refine g12e hC rfl (fun q => by omega) (fun _ => ?_)
  refine g3 hC rfl rfl ?_
  refine gS1 hC rfl ha ?_
  refine g12n hC rfl (fun q => by omega) (fun _ => ?_)
  refine g0 hC rfl ?_
  refine g14 hC rfl ?_
  exact ret3 hC rfl ⟨by omega, by omega⟩ ⟨rfl, rfl⟩
theorem m308 (ha : ax_isS a = true) : ax_Ev L X SH 1 308 [(2, a)] M (R1 0 (fun x M' => x = ((ax_by (a - 1)).length : Int) ∧ M' = M)) := by
  show ax_G L X SH 1 308 0 [(2, a)] [] M _
  have hC := at308
  have hlen : (ax_by (a - 1)).length < 2147483648 := by
    have h := of_decide_eq_true ha
    unfold ax_by
    rw [show a - 1 + 1 = a by omega]
    have key : ∀ k, k < 21 → (ax_tx.getD k ("", [])).2.length < 2147483648 := by decide +kernel
    exact key _ h.2.2
  refine g3 hC rfl rfl ?_
  refine gS0 hC rfl ha ?_
  refine gSl hC rfl (isS_B ha) ?_
  refine g3 hC rfl rfl ?_
  refine c1 hC rfl rfl rfl (Nat.le_of_ble_eq_true rfl) (Nat.le_of_ble_eq_true rfl) (mayT k310 rfl ha) (m310 ha) (Nat.le_of_ble_eq_true rfl) (fun x M2 hr => ?_)
  obtain ⟨rfl, hr⟩ := hr
  replace hr := hr.symm
  subst hr
  refine g6 hC rfl (congrArg some (shrN (a := (ax_by (a - 1)).length) (k := 0) hlen (by decide))) ?_
  exact ret1 hC rfl rfl ⟨rfl, rfl⟩
theorem m314 {k n : Nat} {b : Int} (hk : k < n) : ax_Ev L X SH 0 314 [(0, (k : Int)), (0, (n : Int)), (2, b)] M (R1 0 (fun x M' => x = (k : Int) ∧ M' = M)) := by
  show ax_G L X SH 0 314 0 [(0, (k : Int)), (0, (n : Int)), (2, b)] [] M _
  have hC := at314
  refine g3 hC rfl rfl ?_
  refine g12l hC rfl (fun q => by omega) (fun _ => ?_)
  refine g3 hC rfl rfl ?_
  refine g3 hC rfl rfl ?_
  refine g13l hC rfl (fun _ => ?_) (fun q => by omega)
  refine g3 hC rfl rfl ?_
  exact ret1 hC rfl rfl ⟨rfl, rfl⟩
theorem m312 {k n : Nat} (hk : k < n) : ax_Ev L X SH 1 312 [(0, (k : Int)), (0, (n : Int))] M (R0 (fun M' => M' = M)) := by
  show ax_G L X SH 1 312 0 [(0, (k : Int)), (0, (n : Int))] [] M _
  have hC := at312
  refine g3 hC rfl rfl ?_
  refine g3 hC rfl rfl ?_
  refine g2 hC rfl ?_
  refine c1 hC rfl rfl rfl (Nat.le_of_ble_eq_true rfl) (Nat.le_of_ble_eq_true rfl) (mayS k314 rfl) (m314 hk) (Nat.le_of_ble_eq_true rfl) (fun x M2 hr => ?_)
  obtain ⟨rfl, hr⟩ := hr
  replace hr := hr.symm
  subst hr
  refine g18 hC rfl (by decide) ?_
  exact ret0 hC rfl rfl
theorem m313 {k : Nat} {b : Int} (hb : ax_isB b = true) (hk : k < (ax_by b).length) (hv : 0 ≤ (ax_by b).getD k 0 ∧ (ax_by b).getD k 0 ≤ 127) : ax_Ev L X SH 2 313 [(2, b), (0, (k : Int))] M (R1 0 (fun x M' => x = (ax_by b).getD k 0 ∧ M' = M)) := by
  show ax_G L X SH 2 313 0 [(2, b), (0, (k : Int))] [] M _
  have hC := at313
  obtain ⟨v, hv1⟩ : ∃ v : Nat, (ax_by b).getD k 0 = (v : Int) := ⟨((ax_by b).getD k 0).toNat, by omega⟩
  rw [hv1] at hv
  refine g3 hC rfl rfl ?_
  refine g3 hC rfl rfl ?_
  refine gSl hC rfl hb ?_
  refine c0 hC rfl rfl rfl (Nat.le_of_ble_eq_true rfl) (Nat.le_of_ble_eq_true rfl) (mayS k312 rfl) (m312 hk) (Nat.le_of_ble_eq_true rfl) (fun M2 hr => ?_)
  replace hr := hr.symm
  subst hr
  refine g3 hC rfl rfl ?_
  refine g3 hC rfl rfl ?_
  refine gSe hC rfl hb hk ?_
  rw [hv1]
  refine g0 hC rfl ?_
  refine g6 hC rfl (congrArg some (andN (a := v) (b := 255) (by omega))) ?_
  refine g31 hC rfl ?_
  have e1 : v &&& 255 = v := by
    have h := Nat.and_two_pow_sub_one_eq_mod v 8
    rw [show 2 ^ 8 - 1 = 255 from rfl, show (2 : Nat) ^ 8 = 256 from rfl] at h
    rw [h]; omega
  rw [e1, show ((v : Int)) % 65536 = (v : Int) by omega]
  exact ret4 hC rfl ⟨by omega, by omega⟩ ⟨rfl, rfl⟩
theorem m309 {k : Nat} (ha : ax_isS a = true) (hk : k < (ax_by (a - 1)).length) : ax_Ev L X SH 3 309 [(2, a), (0, (k : Int))] M (R1 0 (fun x M' => x = (ax_by (a - 1)).getD k 0 ∧ M' = M)) := by
  show ax_G L X SH 3 309 0 [(2, a), (0, (k : Int))] [] M _
  have hC := at309
  have hv : 0 ≤ (ax_by (a - 1)).getD k 0 ∧ (ax_by (a - 1)).getD k 0 ≤ 127 := by
    have h := of_decide_eq_true ha
    unfold ax_by at hk ⊢
    rw [show a - 1 + 1 = a by omega] at hk ⊢
    have key : ∀ q, q < 21 → ((ax_tx.getD q ("", [])).2.all (fun x => decide (0 ≤ x ∧ x ≤ 127))) = true := by decide +kernel
    have h2 := List.all_eq_true.mp (key _ h.2.2)
    generalize (ax_tx.getD (ax_sx a) ("", [])).2 = l at *
    have e : l.getD k 0 = l[k] := by simp [List.getD, hk]
    rw [e]
    exact of_decide_eq_true (h2 _ (List.getElem_mem hk))
  refine g3 hC rfl rfl ?_
  refine c1 hC rfl rfl rfl (Nat.le_of_ble_eq_true rfl) (Nat.le_of_ble_eq_true rfl) (mayT k311 rfl ha) (m311 ha) (Nat.le_of_ble_eq_true rfl) (fun x M2 hr => ?_)
  obtain ⟨rfl, hr⟩ := hr
  replace hr := hr.symm
  subst hr
  refine g12e hC rfl (fun q => by omega) (fun _ => ?_)
  refine g3 hC rfl rfl ?_
  refine gS0 hC rfl ha ?_
  refine g3 hC rfl rfl ?_
  refine c1 hC rfl rfl rfl (Nat.le_of_ble_eq_true rfl) (Nat.le_of_ble_eq_true rfl) (mayS k313 rfl) (m313 (isS_B ha) hk hv) (Nat.le_of_ble_eq_true rfl) (fun x M2 hr => ?_)
  obtain ⟨rfl, hr⟩ := hr
  replace hr := hr.symm
  subst hr
  exact ret4 hC rfl ⟨by omega, by omega⟩ ⟨rfl, rfl⟩
end STR
end
section
def isLb (c : Int) : Bool := decide (97 ≤ c ∧ c ≤ 122)
def isDb (c : Int) : Bool := decide (48 ≤ c ∧ c ≤ 57)
def isBb (c : Int) : Bool := decide (c = 10 ∨ c = 32)
def rnF (p : Int → Bool) (T : Nat → Int) : Nat → Nat → Nat
  | 0, i => i
  | f + 1, i => if p (T i) = true then rnF p T f (i + 1) else i
def rn (p : Int → Bool) (T : Nat → Int) (n i : Nat) : Nat := rnF p T (n - i) i
section RN
variable {p : Int → Bool} {T : Nat → Int} {n i : Nat}
theorem rn_z (h : n ≤ i) : rn p T n i = i := by
  unfold rn; rw [Nat.sub_eq_zero_of_le h]; rfl
theorem rn_no (h : ¬ p (T i) = true) : rn p T n i = i := by
  unfold rn
  cases e : n - i with
  | zero => rfl
  | succ f => show (if p (T i) = true then _ else i) = i; rw [if_neg h]
theorem rn_go (h1 : i < n) (h2 : p (T i) = true) : rn p T n i = rn p T n (i + 1) := by
  unfold rn
  rw [show n - i = (n - (i + 1)) + 1 by omega]
  show (if p (T i) = true then rnF p T (n - (i + 1)) (i + 1) else i) = _
  rw [if_pos h2]
theorem rn_all : ∀ (f i : Nat), n - i = f → i ≤ rn p T n i ∧ (i ≤ n → rn p T n i ≤ n) ∧ (∀ k, i ≤ k → k < rn p T n i → p (T k) = true) ∧ (rn p T n i < n → p (T (rn p T n i)) = false) := by
  intro f
  induction f with
  | zero =>
    intro i h
    rw [rn_z (by omega)]
    exact ⟨Nat.le_refl _, fun h => h, fun k h1 h2 => by omega, fun h1 => by omega⟩
  | succ f ih =>
    intro i h
    by_cases hp : p (T i) = true
    · rw [rn_go (by omega) hp]
      obtain ⟨h1, h2, h3, h4⟩ := ih (i + 1) (by omega)
      refine ⟨by omega, fun _ => h2 (by omega), fun k k1 k2 => ?_, h4⟩
      by_cases e : k = i
      · rw [e]; exact hp
      · exact h3 k (by omega) k2
    · rw [rn_no hp]
      exact ⟨Nat.le_refl _, fun h => h, fun k h1 h2 => by omega, fun _ => by cases e : p (T i) with | true => exact absurd e hp | false => rfl⟩
theorem rn_ge : i ≤ rn p T n i := (rn_all (n - i) i rfl).1
theorem rn_le (h : i ≤ n) : rn p T n i ≤ n := (rn_all (n - i) i rfl).2.1 h
theorem rn_in {k : Nat} (h1 : i ≤ k) (h2 : k < rn p T n i) : p (T k) = true := (rn_all (n - i) i rfl).2.2.1 k h1 h2
theorem rn_out (h : rn p T n i < n) : p (T (rn p T n i)) = false := (rn_all (n - i) i rfl).2.2.2 h
theorem rn_gt (h1 : i < n) (h2 : p (T i) = true) : i < rn p T n i := by
  rw [rn_go h1 h2]; exact rn_ge
end RN
abbrev PS : Type := Nat × Bool
def kd0 (T : Nat → Int) (n s : Nat) : Int := if n ≤ s then 0 else if isLb (T s) = true then 1 else if isDb (T s) = true then 2 else 3
def kd (T : Nat → Int) (n : Nat) (q : PS) : Int := if q.2 = true ∧ (kd0 T n q.1 = 1 ∨ kd0 T n q.1 = 2) then 4 else kd0 T n q.1
def af (T : Nat → Int) (n : Nat) (q : PS) : Nat := if kd0 T n q.1 = 1 then rn isLb T n q.1 else if kd0 T n q.1 = 2 then rn isDb T n q.1 else if kd0 T n q.1 = 3 then q.1 + 1 else q.1
def nx (T : Nat → Int) (n : Nat) (q : PS) : PS := (rn isBb T n (af T n q), decide ((kd T n q = 1 ∨ kd T n q = 2) ∧ rn isBb T n (af T n q) = af T n q))
def wq (T : Nat → Int) (n : Nat) (q : PS) : Prop := q.1 ≤ n ∧ (q.1 < n → isBb (T q.1) = false)
def isW (T : Nat → Int) (n : Nat) (q : PS) (w : List Int) : Bool := decide (kd T n q = 1 ∧ af T n q - q.1 = w.length ∧ ∀ i, i < w.length → T (q.1 + i) = w.getD i 0)
def isG (T : Nat → Int) (n : Nat) (q : PS) (c : Int) : Bool := decide (kd T n q = 3 ∧ T q.1 = c)
def fnd (T : Nat → Int) (n : Nat) (q : PS) : Nat → List (List Int) → Int
  | _, [] => -1
  | i, w :: r => if isW T n q w = true then (i : Int) else fnd T n q (i + 1) r
def tlW : List (List Int) → List Int
  | [] => []
  | w :: r => 32 :: (w ++ tlW r)
section KD
variable {T : Nat → Int} {n s : Nat} {q : PS}
theorem kd0_0 (h : n ≤ s) : kd0 T n s = 0 := if_pos h
theorem kd0_1 (h : ¬ n ≤ s) (h1 : 97 ≤ T s) (h2 : T s ≤ 122) : kd0 T n s = 1 := by
  unfold kd0; rw [if_neg h, if_pos (show isLb (T s) = true from decide_eq_true ⟨h1, h2⟩)]
theorem kd0_2 (h : ¬ n ≤ s) (h1 : 48 ≤ T s) (h2 : T s ≤ 57) : kd0 T n s = 2 := by
  unfold kd0
  rw [if_neg h, if_neg (show ¬ isLb (T s) = true from fun z => by have := of_decide_eq_true z; omega), if_pos (show isDb (T s) = true from decide_eq_true ⟨h1, h2⟩)]
theorem kd0_3 (h : ¬ n ≤ s) (h1 : ¬ (97 ≤ T s ∧ T s ≤ 122)) (h2 : ¬ (48 ≤ T s ∧ T s ≤ 57)) : kd0 T n s = 3 := by
  unfold kd0
  rw [if_neg h, if_neg (show ¬ isLb (T s) = true from fun z => h1 (of_decide_eq_true z)), if_neg (show ¬ isDb (T s) = true from fun z => h2 (of_decide_eq_true z))]
theorem kd0_c : (kd0 T n s = 0 ∧ n ≤ s) ∨ (kd0 T n s = 1 ∧ s < n ∧ isLb (T s) = true) ∨ (kd0 T n s = 2 ∧ s < n ∧ isDb (T s) = true) ∨ (kd0 T n s = 3 ∧ s < n ∧ isLb (T s) = false ∧ isDb (T s) = false) := by
  unfold kd0
  by_cases h : n ≤ s
  · rw [if_pos h]; exact Or.inl ⟨rfl, h⟩
  · rw [if_neg h]
    by_cases h1 : isLb (T s) = true
    · rw [if_pos h1]; exact Or.inr (Or.inl ⟨rfl, by omega, h1⟩)
    · rw [if_neg h1]
      by_cases h2 : isDb (T s) = true
      · rw [if_pos h2]; exact Or.inr (Or.inr (Or.inl ⟨rfl, by omega, h2⟩))
      · rw [if_neg h2]
        refine Or.inr (Or.inr (Or.inr ⟨rfl, by omega, ?_, ?_⟩))
        · cases e : isLb (T s) with | true => exact absurd e h1 | false => rfl
        · cases e : isDb (T s) with | true => exact absurd e h2 | false => rfl
theorem kd_c : kd T n q = kd0 T n q.1 ∨ (kd T n q = 4 ∧ (kd0 T n q.1 = 1 ∨ kd0 T n q.1 = 2)) := by
  unfold kd
  split
  · rename_i h; exact Or.inr ⟨rfl, h.2⟩
  · exact Or.inl rfl
theorem kd_1 (h : kd T n q = 1) : kd0 T n q.1 = 1 ∧ q.1 < n ∧ isLb (T q.1) = true ∧ q.2 = false ∧ af T n q = rn isLb T n q.1 := by
  have h0 : kd0 T n q.1 = 1 := by rcases kd_c (T := T) (n := n) (q := q) with e | e <;> omega
  have hq : q.2 = false := by
    unfold kd at h
    cases e : q.2 with
    | false => rfl
    | true => rw [if_pos ⟨e, Or.inl h0⟩] at h; cases h
  rcases kd0_c (T := T) (n := n) (s := q.1) with e | e | e | e
  · omega
  · exact ⟨h0, e.2.1, e.2.2, hq, if_pos h0⟩
  · omega
  · omega
theorem kd_2 (h : kd T n q = 2) : kd0 T n q.1 = 2 ∧ q.1 < n ∧ isDb (T q.1) = true ∧ q.2 = false ∧ af T n q = rn isDb T n q.1 := by
  have h0 : kd0 T n q.1 = 2 := by rcases kd_c (T := T) (n := n) (q := q) with e | e <;> omega
  have hq : q.2 = false := by
    unfold kd at h
    cases e : q.2 with
    | false => rfl
    | true => rw [if_pos ⟨e, Or.inr h0⟩] at h; cases h
  rcases kd0_c (T := T) (n := n) (s := q.1) with e | e | e | e
  · omega
  · omega
  · refine ⟨h0, e.2.1, e.2.2, hq, ?_⟩
    unfold af; rw [if_neg (by omega), if_pos h0]
  · omega
theorem kd_3 (h : kd T n q = 3) : kd0 T n q.1 = 3 ∧ q.1 < n ∧ isLb (T q.1) = false ∧ isDb (T q.1) = false ∧ af T n q = q.1 + 1 := by
  have h0 : kd0 T n q.1 = 3 := by rcases kd_c (T := T) (n := n) (q := q) with e | e <;> omega
  rcases kd0_c (T := T) (n := n) (s := q.1) with e | e | e | e
  · omega
  · omega
  · omega
  · refine ⟨h0, e.2.1, e.2.2.1, e.2.2.2, ?_⟩
    unfold af; rw [if_neg (by omega), if_neg (by omega), if_pos h0]
theorem kd_0 : kd T n q = 0 ↔ n ≤ q.1 := by
  rcases kd0_c (T := T) (n := n) (s := q.1) with e | e | e | e <;> rcases kd_c (T := T) (n := n) (q := q) with f | f <;> constructor <;> intro <;> omega
theorem af_b (h : q.1 ≤ n) : q.1 ≤ af T n q ∧ af T n q ≤ n ∧ (q.1 < n → q.1 < af T n q) := by
  unfold af
  rcases kd0_c (T := T) (n := n) (s := q.1) with e | e | e | e
  · rw [if_neg (by omega), if_neg (by omega), if_neg (by omega)]; omega
  · rw [if_pos e.1]; exact ⟨rn_ge, rn_le h, fun _ => rn_gt e.2.1 e.2.2⟩
  · rw [if_neg (by omega), if_pos e.1]; exact ⟨rn_ge, rn_le h, fun _ => rn_gt e.2.1 e.2.2⟩
  · rw [if_neg (by omega), if_neg (by omega), if_pos e.1]; omega
theorem wq_nx (h : q.1 ≤ n) : wq T n (nx T n q) := by
  have h1 := af_b (T := T) h
  exact ⟨rn_le h1.2.1, fun h2 => rn_out h2⟩
theorem nx_gt (h : q.1 < n) : q.1 < (nx T n q).1 := by
  have h1 := af_b (T := T) (q := q) (Nat.le_of_lt h)
  have h2 : af T n q ≤ (nx T n q).1 := rn_ge
  omega
theorem isW_kd {w : List Int} (h : ¬ kd T n q = 1) : isW T n q w = false := decide_eq_false (fun z => h z.1)
theorem fnd_kd {ws : List (List Int)} (h : ¬ kd T n q = 1) : ∀ i, fnd T n q i ws = -1 := by
  induction ws with
  | nil => intro i; rfl
  | cons w r ih =>
    intro i
    show (if isW T n q w = true then (i : Int) else fnd T n q (i + 1) r) = -1
    rw [isW_kd h, if_neg (by decide)]; exact ih (i + 1)
theorem isW_kd1 {w : List Int} (h : isW T n q w = true) : kd T n q = 1 := (of_decide_eq_true h).1
theorem isG_kd3 {c : Int} (h : isG T n q c = true) : kd T n q = 3 := (of_decide_eq_true h).1
end KD
def CT (T : Nat → Int) (n : Nat) (q : PS) (M : ax_M) : Prop := M 1 1 = (n : Int) ∧ M 1 2 = kd T n q ∧ M 1 3 = (q.1 : Int) ∧ M 1 4 = (af T n q : Int) ∧ (∀ i, i < 1600 → M 2 i = T i) ∧ M 1 8 = 0 ∧ M 1 9 = -1
def WSP : ax_W := ([], [(1, 2), (1, 3), (1, 4)])
def WFL : ax_W := ([], [(1, 8), (1, 9)])
theorem CT.sb {T : Nat → Int} {n : Nat} {q : PS} {M M1 : ax_M} {W : ax_W} (h : CT T n q M) (hS : Sb W M M1) (h1 : wb W 1 1 = false) (h2 : wb W 1 2 = false) (h3 : wb W 1 3 = false) (h4 : wb W 1 4 = false) (h5 : (W.1.all (fun e => Nat.ble e.2 2 || Nat.ble 3 e.1) && W.2.all (fun e => Nat.ble (e.1 + 1) 2 || Nat.ble 3 e.1)) = true) (h8 : wb W 1 8 = false) (h9 : wb W 1 9 = false) : CT T n q M1 :=
  ⟨(hS _ _ h1).trans h.1, (hS _ _ h2).trans h.2.1, (hS _ _ h3).trans h.2.2.1, (hS _ _ h4).trans h.2.2.2.1, fun i hi => (hS _ _ (wbo 2 3 h5 (by decide) (by decide))).trans (h.2.2.2.2.1 i hi), (hS _ _ h8).trans h.2.2.2.2.2.1, (hS _ _ h9).trans h.2.2.2.2.2.2⟩
section CTX
variable {L : Nat} {X : Nat → Int} {M : ax_M} {T : Nat → Int} {n : Nat} {q : PS}
theorem m91 (hF : Fix M) (hn : n ≤ 1600) (h1 : M 1 1 = (n : Int)) (hT : ∀ i, i < 1600 → M 2 i = T i) {s : Nat} : ax_Ev L X SH 0 91 [(2, 1), (0, (s : Int))] M (R1 0 (fun x M' => x = kd0 T n s ∧ M' = M)) := by
  show ax_G L X SH 0 91 0 [(2, 1), (0, (s : Int)), (3, 0)] [] M _
  have hC := at91
  have hw : wok WSP = true := by decide +kernel
  have hS : Sb WSP M M := Sb.refl
  refine g3 hC rfl rfl ?_
  refine g3 hC rfl rfl ?_
  refine g19 hC rfl rfl (Nat.le_of_ble_eq_true rfl) rfl h1 ?_
  refine g13l hC rfl (fun h3 => ?_) (fun h3 => ?_)
  ·
    refine g3 hC rfl rfl ?_
    refine g19 hC rfl rfl (Nat.le_of_ble_eq_true rfl) rfl ((hS.fix hw hF).g rfl) ?_
    refine g3 hC rfl rfl ?_
    refine r21 (s) hC rfl rfl rfl (Or.inl rfl) (by omega) (hT s (by omega)) ?_
    refine s2 hC rfl rfl rfl ?_
    refine g3 hC rfl rfl ?_
    refine g0 hC rfl ?_
    refine g13l hC rfl (fun h13 => ?_) (fun h13 => ?_)
    ·
      refine g3 hC rfl rfl ?_
      refine g0 hC rfl ?_
      refine g13l hC rfl (fun h21 => ?_) (fun h21 => ?_)
      ·
        refine g0 hC rfl ?_
        refine ret1 hC rfl rfl ?_
        first
          | exact ⟨(kd0_3 (by omega) (by omega) (by omega)).symm, rfl⟩
          | exact ⟨(kd0_2 (by omega) (by omega) (by omega)).symm, rfl⟩
          | exact ⟨(kd0_1 (by omega) (by omega) (by omega)).symm, rfl⟩
          | exact ⟨(kd0_0 (by omega)).symm, rfl⟩
          | (exfalso; omega)
      ·
        refine g3 hC rfl rfl ?_
        refine g0 hC rfl ?_
        refine g13t hC rfl (fun h24 => ?_) (fun h24 => ?_)
        ·
          refine g0 hC rfl ?_
          refine ret1 hC rfl rfl ?_
          first
            | exact ⟨(kd0_3 (by omega) (by omega) (by omega)).symm, rfl⟩
            | exact ⟨(kd0_2 (by omega) (by omega) (by omega)).symm, rfl⟩
            | exact ⟨(kd0_1 (by omega) (by omega) (by omega)).symm, rfl⟩
            | exact ⟨(kd0_0 (by omega)).symm, rfl⟩
            | (exfalso; omega)
        ·
          refine g0 hC rfl ?_
          refine g14 hC rfl ?_
          refine ret1 hC rfl rfl ?_
          first
            | exact ⟨(kd0_3 (by omega) (by omega) (by omega)).symm, rfl⟩
            | exact ⟨(kd0_2 (by omega) (by omega) (by omega)).symm, rfl⟩
            | exact ⟨(kd0_1 (by omega) (by omega) (by omega)).symm, rfl⟩
            | exact ⟨(kd0_0 (by omega)).symm, rfl⟩
            | (exfalso; omega)
    ·
      refine g3 hC rfl rfl ?_
      refine g0 hC rfl ?_
      refine g13t hC rfl (fun h16 => ?_) (fun h16 => ?_)
      ·
        refine g3 hC rfl rfl ?_
        refine g0 hC rfl ?_
        refine g13l hC rfl (fun h21 => ?_) (fun h21 => ?_)
        ·
          refine g0 hC rfl ?_
          refine ret1 hC rfl rfl ?_
          first
            | exact ⟨(kd0_3 (by omega) (by omega) (by omega)).symm, rfl⟩
            | exact ⟨(kd0_2 (by omega) (by omega) (by omega)).symm, rfl⟩
            | exact ⟨(kd0_1 (by omega) (by omega) (by omega)).symm, rfl⟩
            | exact ⟨(kd0_0 (by omega)).symm, rfl⟩
            | (exfalso; omega)
        ·
          refine g3 hC rfl rfl ?_
          refine g0 hC rfl ?_
          refine g13t hC rfl (fun h24 => ?_) (fun h24 => ?_)
          ·
            refine g0 hC rfl ?_
            refine ret1 hC rfl rfl ?_
            first
              | exact ⟨(kd0_3 (by omega) (by omega) (by omega)).symm, rfl⟩
              | exact ⟨(kd0_2 (by omega) (by omega) (by omega)).symm, rfl⟩
              | exact ⟨(kd0_1 (by omega) (by omega) (by omega)).symm, rfl⟩
              | exact ⟨(kd0_0 (by omega)).symm, rfl⟩
              | (exfalso; omega)
          ·
            refine g0 hC rfl ?_
            refine g14 hC rfl ?_
            refine ret1 hC rfl rfl ?_
            first
              | exact ⟨(kd0_3 (by omega) (by omega) (by omega)).symm, rfl⟩
              | exact ⟨(kd0_2 (by omega) (by omega) (by omega)).symm, rfl⟩
              | exact ⟨(kd0_1 (by omega) (by omega) (by omega)).symm, rfl⟩
              | exact ⟨(kd0_0 (by omega)).symm, rfl⟩
              | (exfalso; omega)
      ·
        refine g0 hC rfl ?_
        refine ret1 hC rfl rfl ?_
        first
          | exact ⟨(kd0_3 (by omega) (by omega) (by omega)).symm, rfl⟩
          | exact ⟨(kd0_2 (by omega) (by omega) (by omega)).symm, rfl⟩
          | exact ⟨(kd0_1 (by omega) (by omega) (by omega)).symm, rfl⟩
          | exact ⟨(kd0_0 (by omega)).symm, rfl⟩
          | (exfalso; omega)
  ·
    refine g0 hC rfl ?_
    refine ret1 hC rfl rfl ?_
    first
      | exact ⟨(kd0_3 (by omega) (by omega) (by omega)).symm, rfl⟩
      | exact ⟨(kd0_2 (by omega) (by omega) (by omega)).symm, rfl⟩
      | exact ⟨(kd0_1 (by omega) (by omega) (by omega)).symm, rfl⟩
      | exact ⟨(kd0_0 (by omega)).symm, rfl⟩
      | (exfalso; omega)
theorem m89 {f p : Int} : ax_Ev L X SH 0 89 [(2, 1), (0, f), (0, p)] M (R1 0 (fun x M' => x = 0 ∧ M' = ax_up (ax_up M 1 8 f) 1 9 p)) := by
  show ax_G L X SH 0 89 0 [(2, 1), (0, f), (0, p)] [] M _
  have hC := at89
  have hS : Sb WFL M M := Sb.refl
  refine g3 hC rfl rfl ?_
  refine g3 hC rfl rfl ?_
  refine g20s hC rfl rfl (Nat.le_of_ble_eq_true rfl) rfl hS rfl (fun hS => ?_)
  refine g3 hC rfl rfl ?_
  refine g3 hC rfl rfl ?_
  refine g20s hC rfl rfl (Nat.le_of_ble_eq_true rfl) rfl hS rfl (fun hS => ?_)
  refine g0 hC rfl ?_
  refine ret3 hC rfl ⟨by omega, by omega⟩ ?_
  exact ⟨rfl, rfl⟩
theorem m90 (hF : Fix M) (hn : n ≤ 1600) (h1 : M 1 1 = (n : Int)) (hT : ∀ i, i < 1600 → M 2 i = T i) {k : Int} {a : Nat} (hk : M 1 2 = k) (ha : M 1 4 = (a : Int)) (han : a ≤ n) (hf : M 1 8 = 0 ∧ M 1 9 = -1) : ax_Ev L X SH 1 90 [(2, 1)] M (R0 (fun M' => Sb WSP M M' ∧ CT T n (rn isBb T n a, decide ((k = 1 ∨ k = 2) ∧ rn isBb T n a = a)) M')) := by
  show ax_G L X SH 1 90 0 [(2, 1), (3, 0), (3, 0), (3, 0), (3, 0)] [] M _
  obtain ⟨P, hP⟩ : ∃ P, P = fun M' => Sb WSP M M' ∧ CT T n (rn isBb T n a, decide ((k = 1 ∨ k = 2) ∧ rn isBb T n a = a)) M' := ⟨_, rfl⟩
  rw [← hP]
  have hC := at90
  have hw : wok WSP = true := by decide +kernel
  have hS : Sb WSP M M := Sb.refl
  obtain ⟨s, hs⟩ : ∃ s, s = rn isBb T n a := ⟨_, rfl⟩
  have hsa : a ≤ s := by rw [hs]; exact rn_ge
  have hsn : s ≤ n := by rw [hs]; exact rn_le han
  obtain ⟨g, hg⟩ : ∃ g : Bool, g = decide ((k = 1 ∨ k = 2) ∧ s = a) := ⟨_, rfl⟩
  rw [← hs, ← hg] at hP
  have hkc := kd0_c (T := T) (n := n) (s := s)
  have hafb := af_b (T := T) (n := n) (q := (s, g)) hsn
  have fin : ∀ (M1 : ax_M) (e : Nat) (w t : Int), Sb WSP M M1 → M1 1 2 = kd0 T n s → M1 1 3 = (s : Int) → (w = 0 ∨ w = 1) → (w = 1 ↔ kd0 T n s = 1 ∨ kd0 T n s = 2) → (t = 1 ↔ g = true) → (t = 0 ∨ t = 1) → (kd0 T n s = 3 → e = s) → (kd0 T n s ≠ 3 → e = af T n (s, g)) → ∀ b, ax_G L X SH 1 90 77 [(2, 1), (0, b), (0, (e : Int)), (0, t), (0, w)] [] M1 (R0 P) := by
    intro M1 e w t hS e2 e3 hw0 hw1 ht1 ht0 he3 he b
    have done : ∀ M2, Sb WSP M M2 → M2 1 3 = (s : Int) → M2 1 4 = (af T n (s, g) : Int) → M2 1 2 = kd T n (s, g) → P M2 := by
      intro M2 hS2 f1 f2 f3
      rw [hP]
      exact ⟨hS2, (hS2 1 1 rfl).trans h1, f3, f1, f2, fun i hi => (hS2 2 i rfl).trans (hT i hi), (hS2 1 8 rfl).trans hf.1, (hS2 1 9 rfl).trans hf.2⟩
    have ekd : kd T n (s, g) = if g = true ∧ (kd0 T n s = 1 ∨ kd0 T n s = 2) then 4 else kd0 T n s := rfl
    have e3a : kd0 T n s = 3 → af T n (s, g) = s + 1 := by
      intro h; unfold af; rw [if_neg (by show ¬ kd0 T n s = 1; omega), if_neg (by show ¬ kd0 T n s = 2; omega), if_pos (by exact h)]
    refine g3 hC rfl rfl ?_
    refine g3 hC rfl rfl ?_
    refine g19 hC rfl rfl (Nat.le_of_ble_eq_true rfl) rfl e2 ?_
    refine g0 hC rfl ?_
    refine g13n hC rfl (fun h81 => ?_) (fun h81 => ?_)
    ·
      refine g3 hC rfl rfl ?_
      refine g20s hC rfl rfl (Nat.le_of_ble_eq_true rfl) rfl hS rfl (fun hS => ?_)
      refine g3 hC rfl rfl ?_
      refine g12e hC rfl (fun h89 => ?_) (fun h89 => ?_)
      ·
        refine ret0 hC rfl ?_
        refine done _ hS ?_ ?_ ?_
        all_goals first
          | (rw [ax_up_of (by decide), ax_up_of (by decide)]; exact e3)
          | (rw [ax_up_of (by decide)]; exact e3)
          | (rw [ax_up_of (by decide), ax_up_at]; omega)
          | (rw [ax_up_at]; omega)
          | (rw [ax_up_at, ekd, if_pos ⟨ht1.1 (by omega), hw1.1 (by omega)⟩])
          | (rw [ax_up_of (by decide), ekd, if_neg (fun z => by have := ht1.2 z.1; have := hw1.2 z.2; omega)]; exact e2)
      ·
        refine g3 hC rfl rfl ?_
        refine g12e hC rfl (fun h91 => ?_) (fun h91 => ?_)
        ·
          refine ret0 hC rfl ?_
          refine done _ hS ?_ ?_ ?_
          all_goals first
            | (rw [ax_up_of (by decide), ax_up_of (by decide)]; exact e3)
            | (rw [ax_up_of (by decide)]; exact e3)
            | (rw [ax_up_of (by decide), ax_up_at]; omega)
            | (rw [ax_up_at]; omega)
            | (rw [ax_up_at, ekd, if_pos ⟨ht1.1 (by omega), hw1.1 (by omega)⟩])
            | (rw [ax_up_of (by decide), ekd, if_neg (fun z => by have := ht1.2 z.1; have := hw1.2 z.2; omega)]; exact e2)
        ·
          refine g3 hC rfl rfl ?_
          refine g0 hC rfl ?_
          refine g20s hC rfl rfl (Nat.le_of_ble_eq_true rfl) rfl hS rfl (fun hS => ?_)
          refine ret0 hC rfl ?_
          refine done _ hS ?_ ?_ ?_
          all_goals first
            | (rw [ax_up_of (by decide), ax_up_of (by decide)]; exact e3)
            | (rw [ax_up_of (by decide)]; exact e3)
            | (rw [ax_up_of (by decide), ax_up_at]; omega)
            | (rw [ax_up_at]; omega)
            | (rw [ax_up_at, ekd, if_pos ⟨ht1.1 (by omega), hw1.1 (by omega)⟩])
            | (rw [ax_up_of (by decide), ekd, if_neg (fun z => by have := ht1.2 z.1; have := hw1.2 z.2; omega)]; exact e2)
    ·
      refine g3 hC rfl rfl ?_
      refine g0 hC rfl ?_
      refine g6a hC rfl ⟨by omega, by omega⟩ ?_
      refine g14 hC rfl ?_
      refine g20s hC rfl rfl (Nat.le_of_ble_eq_true rfl) rfl hS rfl (fun hS => ?_)
      refine g3 hC rfl rfl ?_
      refine g12e hC rfl (fun h89 => ?_) (fun h89 => ?_)
      ·
        refine ret0 hC rfl ?_
        refine done _ hS ?_ ?_ ?_
        all_goals first
          | (rw [ax_up_of (by decide), ax_up_of (by decide)]; exact e3)
          | (rw [ax_up_of (by decide)]; exact e3)
          | (rw [ax_up_of (by decide), ax_up_at]; omega)
          | (rw [ax_up_at]; omega)
          | (rw [ax_up_at, ekd, if_pos ⟨ht1.1 (by omega), hw1.1 (by omega)⟩])
          | (rw [ax_up_of (by decide), ekd, if_neg (fun z => by have := ht1.2 z.1; have := hw1.2 z.2; omega)]; exact e2)
      ·
        refine g3 hC rfl rfl ?_
        refine g12e hC rfl (fun h91 => ?_) (fun h91 => ?_)
        ·
          refine ret0 hC rfl ?_
          refine done _ hS ?_ ?_ ?_
          all_goals first
            | (rw [ax_up_of (by decide), ax_up_of (by decide)]; exact e3)
            | (rw [ax_up_of (by decide)]; exact e3)
            | (rw [ax_up_of (by decide), ax_up_at]; omega)
            | (rw [ax_up_at]; omega)
            | (rw [ax_up_at, ekd, if_pos ⟨ht1.1 (by omega), hw1.1 (by omega)⟩])
            | (rw [ax_up_of (by decide), ekd, if_neg (fun z => by have := ht1.2 z.1; have := hw1.2 z.2; omega)]; exact e2)
        ·
          refine g3 hC rfl rfl ?_
          refine g0 hC rfl ?_
          refine g20s hC rfl rfl (Nat.le_of_ble_eq_true rfl) rfl hS rfl (fun hS => ?_)
          refine ret0 hC rfl ?_
          refine done _ hS ?_ ?_ ?_
          all_goals first
            | (rw [ax_up_of (by decide), ax_up_of (by decide)]; exact e3)
            | (rw [ax_up_of (by decide)]; exact e3)
            | (rw [ax_up_of (by decide), ax_up_at]; omega)
            | (rw [ax_up_at]; omega)
            | (rw [ax_up_at, ekd, if_pos ⟨ht1.1 (by omega), hw1.1 (by omega)⟩])
            | (rw [ax_up_of (by decide), ekd, if_neg (fun z => by have := ht1.2 z.1; have := hw1.2 z.2; omega)]; exact e2)
  have loop : ∀ (κ : Int) (p : Int → Bool), (∀ i, kd0 T n i = κ ↔ i < n ∧ p (T i) = true) → kd0 T n s = κ → (κ = 1 ∨ κ = 2) → af T n (s, g) = rn p T n s → ∀ (M1 : ax_M) (t b : Int), Sb WSP M M1 → M1 1 2 = kd0 T n s → M1 1 3 = (s : Int) → (t = 1 ↔ g = true) → (t = 0 ∨ t = 1) → ∀ (m i : Nat), i + m = rn p T n s - s → ∀ ll M2, (ll = [(2, 1), (0, b), (0, ((s + i : Nat) : Int)), (0, t), (0, 1)] ∧ M2 = M1) → ax_G L X SH 1 90 63 ll [] M2 (R0 P) := by
    intro κ p hp hκ hκ2 haf M1 t b hS e2 e3 ht1 ht0
    have hge : s ≤ rn p T n s := rn_ge
    refine lp ?_ ?_
    · rintro ll M2 ⟨rfl, rfl⟩
      have hend : ¬ (rn p T n s < n ∧ kd0 T n (rn p T n s) = κ) := by
        rintro ⟨z1, z2⟩
        have := rn_out z1
        rw [((hp _).1 z2).2] at this; cases this
      rw [show s + (rn p T n s - s) = rn p T n s by omega]
      obtain ⟨e, he⟩ : ∃ e, e = rn p T n s := ⟨_, rfl⟩
      rw [← he] at hend ⊢
      have k77 := fin M2 e 1 t hS e2 e3 (Or.inr rfl) ⟨fun _ => by omega, fun _ => rfl⟩ ht1 ht0 (by omega) (fun _ => by omega) b
      refine g3 hC rfl rfl ?_
      refine g12e hC rfl (fun h64 => (by omega)) (fun h64 => ?_)
      refine g3 hC rfl rfl ?_
      refine g3 hC rfl rfl ?_
      refine g19 hC rfl rfl (Nat.le_of_ble_eq_true rfl) rfl ((hS 1 1 rfl).trans h1) ?_
      refine g13g hC rfl (fun h68 => ?_) (fun h68 => ?_)
      ·
        exact k77
      ·
        refine g3 hC rfl rfl ?_
        refine g3 hC rfl rfl ?_
        refine c1 hC rfl rfl rfl (Nat.le_of_ble_eq_true rfl) (Nat.le_of_ble_eq_true rfl) rfl (m91 (hS.fix hw hF) hn ((hS 1 1 rfl).trans h1) (fun i hi => (hS 2 i rfl).trans (hT i hi)) (s := e)) (Nat.le_of_ble_eq_true rfl) (fun x M2 hr => ?_)
        obtain ⟨rfl, hr⟩ := hr
        replace hr := hr.symm
        subst hr
        refine g3 hC rfl rfl ?_
        refine g19 hC rfl rfl (Nat.le_of_ble_eq_true rfl) rfl e2 ?_
        refine g13n hC rfl (fun h74 => ?_) (fun h74 => ?_)
        ·
          exact k77
        ·
          refine n2 hC rfl rfl ⟨by omega, by omega⟩ ?_
          refine g14 hC rfl ?_
          exfalso; exact hend ⟨by omega, by omega⟩
    · rintro i hi ll M2 ⟨rfl, rfl⟩ hnext
      have hin : s + i < n ∧ kd0 T n (s + i) = κ := by
        have z : p (T (s + i)) = true := rn_in (n := n) (i := s) (by omega) (by omega)
        have z2 : rn p T n s ≤ n := rn_le hsn
        exact ⟨by omega, (hp _).2 ⟨by omega, z⟩⟩
      refine g3 hC rfl rfl ?_
      refine g12e hC rfl (fun h64 => (by omega)) (fun h64 => ?_)
      refine g3 hC rfl rfl ?_
      refine g3 hC rfl rfl ?_
      refine g19 hC rfl rfl (Nat.le_of_ble_eq_true rfl) rfl ((hS 1 1 rfl).trans h1) ?_
      refine g13g hC rfl (fun h68 => (by omega)) (fun h68 => ?_)
      refine g3 hC rfl rfl ?_
      refine g3 hC rfl rfl ?_
      refine c1 hC rfl rfl rfl (Nat.le_of_ble_eq_true rfl) (Nat.le_of_ble_eq_true rfl) rfl (m91 (hS.fix hw hF) hn ((hS 1 1 rfl).trans h1) (fun i hi => (hS 2 i rfl).trans (hT i hi)) (s := s + i)) (Nat.le_of_ble_eq_true rfl) (fun x M2 hr => ?_)
      obtain ⟨rfl, hr⟩ := hr
      replace hr := hr.symm
      subst hr
      refine g3 hC rfl rfl ?_
      refine g19 hC rfl rfl (Nat.le_of_ble_eq_true rfl) rfl e2 ?_
      refine g13n hC rfl (fun h74 => (by omega)) (fun h74 => ?_)
      refine n2 hC rfl rfl ⟨by omega, by omega⟩ ?_
      refine g14 hC rfl ?_
      exact hnext _ _ ⟨by rw [show ((s + i : Nat) : Int) + 1 = ((s + (i + 1) : Nat) : Int) by omega], rfl⟩
  have c2 : ∀ t b : Int, (t = 1 ↔ g = true) → (t = 0 ∨ t = 1) → ax_G L X SH 1 90 42 [(2, 1), (0, b), (0, (s : Int)), (3, 0), (3, 0)] [(0, t)] M (R0 P) := by
    intro t b ht1 ht0
    have pL : ∀ i, kd0 T n i = 1 ↔ i < n ∧ isLb (T i) = true := by
      intro i
      rcases kd0_c (T := T) (n := n) (s := i) with e | e | e | e
      · exact ⟨fun z => by omega, fun z => by omega⟩
      · exact ⟨fun _ => e.2, fun _ => e.1⟩
      · refine ⟨fun z => by omega, fun z => ?_⟩
        have z1 := of_decide_eq_true z.2; have z2 := of_decide_eq_true e.2.2; omega
      · exact ⟨fun z => by omega, fun z => by rw [e.2.2.1] at z; cases z.2⟩
    have pD : ∀ i, kd0 T n i = 2 ↔ i < n ∧ isDb (T i) = true := by
      intro i
      rcases kd0_c (T := T) (n := n) (s := i) with e | e | e | e
      · exact ⟨fun z => by omega, fun z => by omega⟩
      · refine ⟨fun z => by omega, fun z => ?_⟩
        have z1 := of_decide_eq_true z.2; have z2 := of_decide_eq_true e.2.2; omega
      · exact ⟨fun _ => e.2, fun _ => e.1⟩
      · exact ⟨fun z => by omega, fun z => by rw [e.2.2.2] at z; cases z.2⟩
    have af0 : kd0 T n s = 0 → af T n (s, g) = s := by
      intro h; unfold af; rw [if_neg (by show ¬ kd0 T n s = 1; omega), if_neg (by show ¬ kd0 T n s = 2; omega), if_neg (by show ¬ kd0 T n s = 3; omega)]
    have hge : s ≤ rn isLb T n s ∧ s ≤ rn isDb T n s := ⟨rn_ge, rn_ge⟩
    have no : ∀ M2, Sb WSP M M2 → M2 1 2 = kd0 T n s → M2 1 3 = (s : Int) → (kd0 T n s = 0 ∨ kd0 T n s = 3) → ax_G L X SH 1 90 63 [(2, 1), (0, b), (0, (s : Int)), (0, t), (0, 0)] [] M2 (R0 P) := by
      intro M2 hS2 e2 e3 h03
      have k77 := fin M2 s 0 t hS2 e2 e3 (Or.inl rfl) ⟨fun z => by omega, fun z => by omega⟩ ht1 ht0 (fun _ => rfl) (fun z => (af0 (by omega)).symm) b
      refine g3 hC rfl rfl ?_
      refine g12e hC rfl (fun h64 => ?_) (fun h64 => (by omega))
      exact k77
    refine s3 hC rfl rfl rfl ?_
    refine g3 hC rfl rfl ?_
    refine g3 hC rfl rfl ?_
    refine g20s hC rfl rfl (Nat.le_of_ble_eq_true rfl) rfl hS rfl (fun hS => ?_)
    refine g3 hC rfl rfl ?_
    refine g3 hC rfl rfl ?_
    refine g3 hC rfl rfl ?_
    refine c1 hC rfl rfl rfl (Nat.le_of_ble_eq_true rfl) (Nat.le_of_ble_eq_true rfl) rfl (m91 (hS.fix hw hF) hn ((hS 1 1 rfl).trans h1) (fun i hi => (hS 2 i rfl).trans (hT i hi)) (s := s)) (Nat.le_of_ble_eq_true rfl) (fun x M2 hr => ?_)
    obtain ⟨rfl, hr⟩ := hr; replace hr := hr.symm; subst hr
    refine g20s hC rfl rfl (Nat.le_of_ble_eq_true rfl) rfl hS rfl (fun hS => ?_)
    refine g3 hC rfl rfl ?_
    refine g19 hC rfl rfl (Nat.le_of_ble_eq_true rfl) rfl ax_up_at ?_
    refine g0 hC rfl ?_
    refine g13e hC rfl (fun h54 => ?_) (fun h54 => ?_)
    ·
      refine g0 hC rfl ?_
      refine g14 hC rfl ?_
      refine s4 hC rfl rfl rfl ?_
      exact loop 1 isLb pL (by omega) (Or.inl rfl) (by unfold af; rw [if_pos (by show kd0 T n s = 1; omega)]) _ t b hS ax_up_at (by rw [ax_up_of (by decide), ax_up_at]) ht1 ht0 (rn isLb T n s - s) 0 (by omega) _ _ ⟨rfl, rfl⟩
    ·
      refine g3 hC rfl rfl ?_
      refine g19 hC rfl rfl (Nat.le_of_ble_eq_true rfl) rfl ax_up_at ?_
      refine g0 hC rfl ?_
      refine g13n hC rfl (fun h58 => ?_) (fun h58 => ?_)
      ·
        refine g0 hC rfl ?_
        refine s4 hC rfl rfl rfl ?_
        exact no _ hS ax_up_at (by rw [ax_up_of (by decide), ax_up_at]) (by omega)
      ·
        refine g0 hC rfl ?_
        refine g14 hC rfl ?_
        refine s4 hC rfl rfl rfl ?_
        exact loop 2 isDb pD (by omega) (Or.inr rfl) (by unfold af; rw [if_neg (by show ¬ kd0 T n s = 1; omega), if_pos (by show kd0 T n s = 2; omega)]) _ t b hS ax_up_at (by rw [ax_up_of (by decide), ax_up_at]) ht1 ht0 (rn isDb T n s - s) 0 (by omega) _ _ ⟨rfl, rfl⟩
  have l1 : ∀ b : Int, (b = 0 ∨ b = 1) → (b = 1 ↔ k = 1 ∨ k = 2) → ∀ (m i : Nat), i + m = s - a → ∀ ll M2, (ll = [(2, 1), (0, b), (0, ((a + i : Nat) : Int)), (3, 0), (3, 0)] ∧ M2 = M) → ax_G L X SH 1 90 15 ll [] M2 (R0 P) := by
    intro b hb0 hb1
    refine lp ?_ ?_
    · rintro ll M2 ⟨rfl, rfl⟩
      rw [show a + (s - a) = s by omega]
      have hend : ¬ (s < n ∧ (T s = 10 ∨ T s = 32)) := by
        rintro ⟨z1, z2⟩
        rw [hs] at z1
        have := rn_out z1
        rw [← hs] at this
        rw [show isBb (T s) = true from decide_eq_true z2] at this; cases this
      refine g3 hC rfl rfl ?_
      refine g3 hC rfl rfl ?_
      refine g19 hC rfl rfl (Nat.le_of_ble_eq_true rfl) rfl h1 ?_
      refine g13g hC rfl (fun h18 => ?_) (fun h18 => ?_)
      ·
        refine g3 hC rfl rfl ?_
        refine g12e hC rfl (fun h34 => ?_) (fun h34 => ?_)
        ·
          refine g0 hC rfl ?_
          first
            | (exfalso; exact hend ⟨by omega, by omega⟩)
            | (refine c2 0 b ⟨fun z => by omega, fun z => ?_⟩ (Or.inl rfl); rw [hg] at z; have := of_decide_eq_true z; exfalso; omega)
            | (refine c2 1 b ⟨fun _ => ?_, fun _ => rfl⟩ (Or.inr rfl); rw [hg]; exact decide_eq_true ⟨hb1.1 (by omega), by omega⟩)
        ·
          refine g3 hC rfl rfl ?_
          refine g3 hC rfl rfl ?_
          refine g19 hC rfl rfl (Nat.le_of_ble_eq_true rfl) rfl ha ?_
          refine g13n hC rfl (fun h38 => ?_) (fun h38 => ?_)
          ·
            refine g0 hC rfl ?_
            first
              | (exfalso; exact hend ⟨by omega, by omega⟩)
              | (refine c2 0 b ⟨fun z => by omega, fun z => ?_⟩ (Or.inl rfl); rw [hg] at z; have := of_decide_eq_true z; exfalso; omega)
              | (refine c2 1 b ⟨fun _ => ?_, fun _ => rfl⟩ (Or.inr rfl); rw [hg]; exact decide_eq_true ⟨hb1.1 (by omega), by omega⟩)
          ·
            refine g0 hC rfl ?_
            refine g14 hC rfl ?_
            first
              | (exfalso; exact hend ⟨by omega, by omega⟩)
              | (refine c2 0 b ⟨fun z => by omega, fun z => ?_⟩ (Or.inl rfl); rw [hg] at z; have := of_decide_eq_true z; exfalso; omega)
              | (refine c2 1 b ⟨fun _ => ?_, fun _ => rfl⟩ (Or.inr rfl); rw [hg]; exact decide_eq_true ⟨hb1.1 (by omega), by omega⟩)
      ·
        refine g3 hC rfl rfl ?_
        refine g19 hC rfl rfl (Nat.le_of_ble_eq_true rfl) rfl ((hS.fix hw hF).g rfl) ?_
        refine g3 hC rfl rfl ?_
        refine r21 (s) hC rfl rfl rfl (Or.inl rfl) (by omega) (hT s (by omega)) ?_
        refine g0 hC rfl ?_
        refine g13e hC rfl (fun h24 => ?_) (fun h24 => ?_)
        ·
          refine n2 hC rfl rfl ⟨by omega, by omega⟩ ?_
          refine g14 hC rfl ?_
          first
            | (exfalso; exact hend ⟨by omega, by omega⟩)
            | (refine c2 0 b ⟨fun z => by omega, fun z => ?_⟩ (Or.inl rfl); rw [hg] at z; have := of_decide_eq_true z; exfalso; omega)
            | (refine c2 1 b ⟨fun _ => ?_, fun _ => rfl⟩ (Or.inr rfl); rw [hg]; exact decide_eq_true ⟨hb1.1 (by omega), by omega⟩)
        ·
          refine g3 hC rfl rfl ?_
          refine g19 hC rfl rfl (Nat.le_of_ble_eq_true rfl) rfl ((hS.fix hw hF).g rfl) ?_
          refine g3 hC rfl rfl ?_
          refine r21 (s) hC rfl rfl rfl (Or.inl rfl) (by omega) (hT s (by omega)) ?_
          refine g0 hC rfl ?_
          refine g13n hC rfl (fun h30 => ?_) (fun h30 => ?_)
          ·
            refine g3 hC rfl rfl ?_
            refine g12e hC rfl (fun h34 => ?_) (fun h34 => ?_)
            ·
              refine g0 hC rfl ?_
              first
                | (exfalso; exact hend ⟨by omega, by omega⟩)
                | (refine c2 0 b ⟨fun z => by omega, fun z => ?_⟩ (Or.inl rfl); rw [hg] at z; have := of_decide_eq_true z; exfalso; omega)
                | (refine c2 1 b ⟨fun _ => ?_, fun _ => rfl⟩ (Or.inr rfl); rw [hg]; exact decide_eq_true ⟨hb1.1 (by omega), by omega⟩)
            ·
              refine g3 hC rfl rfl ?_
              refine g3 hC rfl rfl ?_
              refine g19 hC rfl rfl (Nat.le_of_ble_eq_true rfl) rfl ha ?_
              refine g13n hC rfl (fun h38 => ?_) (fun h38 => ?_)
              ·
                refine g0 hC rfl ?_
                first
                  | (exfalso; exact hend ⟨by omega, by omega⟩)
                  | (refine c2 0 b ⟨fun z => by omega, fun z => ?_⟩ (Or.inl rfl); rw [hg] at z; have := of_decide_eq_true z; exfalso; omega)
                  | (refine c2 1 b ⟨fun _ => ?_, fun _ => rfl⟩ (Or.inr rfl); rw [hg]; exact decide_eq_true ⟨hb1.1 (by omega), by omega⟩)
              ·
                refine g0 hC rfl ?_
                refine g14 hC rfl ?_
                first
                  | (exfalso; exact hend ⟨by omega, by omega⟩)
                  | (refine c2 0 b ⟨fun z => by omega, fun z => ?_⟩ (Or.inl rfl); rw [hg] at z; have := of_decide_eq_true z; exfalso; omega)
                  | (refine c2 1 b ⟨fun _ => ?_, fun _ => rfl⟩ (Or.inr rfl); rw [hg]; exact decide_eq_true ⟨hb1.1 (by omega), by omega⟩)
          ·
            refine n2 hC rfl rfl ⟨by omega, by omega⟩ ?_
            refine g14 hC rfl ?_
            first
              | (exfalso; exact hend ⟨by omega, by omega⟩)
              | (refine c2 0 b ⟨fun z => by omega, fun z => ?_⟩ (Or.inl rfl); rw [hg] at z; have := of_decide_eq_true z; exfalso; omega)
              | (refine c2 1 b ⟨fun _ => ?_, fun _ => rfl⟩ (Or.inr rfl); rw [hg]; exact decide_eq_true ⟨hb1.1 (by omega), by omega⟩)
    · rintro i hi ll M2 ⟨rfl, rfl⟩ hnext
      have z : isBb (T (a + i)) = true := rn_in (n := n) (i := a) (by omega) (by omega)
      have z := of_decide_eq_true z
      refine g3 hC rfl rfl ?_
      refine g3 hC rfl rfl ?_
      refine g19 hC rfl rfl (Nat.le_of_ble_eq_true rfl) rfl h1 ?_
      refine g13g hC rfl (fun h18 => (by omega)) (fun h18 => ?_)
      refine g3 hC rfl rfl ?_
      refine g19 hC rfl rfl (Nat.le_of_ble_eq_true rfl) rfl ((hS.fix hw hF).g rfl) ?_
      refine g3 hC rfl rfl ?_
      refine r21 (a+i) hC rfl rfl rfl (Or.inl rfl) (by omega) (hT (a+i) (by omega)) ?_
      refine g0 hC rfl ?_
      refine g13e hC rfl (fun h24 => ?_) (fun h24 => ?_)
      ·
        refine n2 hC rfl rfl ⟨by omega, by omega⟩ ?_
        refine g14 hC rfl ?_
        exact hnext _ _ ⟨by rw [show ((a + i : Nat) : Int) + 1 = ((a + (i + 1) : Nat) : Int) by omega], rfl⟩
      ·
        refine g3 hC rfl rfl ?_
        refine g19 hC rfl rfl (Nat.le_of_ble_eq_true rfl) rfl ((hS.fix hw hF).g rfl) ?_
        refine g3 hC rfl rfl ?_
        refine r21 (a+i) hC rfl rfl rfl (Or.inl rfl) (by omega) (hT (a+i) (by omega)) ?_
        refine g0 hC rfl ?_
        refine g13n hC rfl (fun h30 => (by omega)) (fun h30 => ?_)
        refine n2 hC rfl rfl ⟨by omega, by omega⟩ ?_
        refine g14 hC rfl ?_
        exact hnext _ _ ⟨by rw [show ((a + i : Nat) : Int) + 1 = ((a + (i + 1) : Nat) : Int) by omega], rfl⟩
  refine g3 hC rfl rfl ?_
  refine g19 hC rfl rfl (Nat.le_of_ble_eq_true rfl) rfl hk ?_
  refine g0 hC rfl ?_
  refine g13e hC rfl (fun h3 => ?_) (fun h3 => ?_)
  ·
    refine g0 hC rfl ?_
    refine g14 hC rfl ?_
    refine s1 hC rfl rfl rfl ?_
    refine g3 hC rfl rfl ?_
    refine g19 hC rfl rfl (Nat.le_of_ble_eq_true rfl) rfl ha ?_
    refine s2 hC rfl rfl rfl ?_
    first
      | exact l1 1 (Or.inr rfl) ⟨fun _ => by omega, fun _ => rfl⟩ (s - a) 0 (by omega) _ _ ⟨rfl, rfl⟩
      | exact l1 0 (Or.inl rfl) ⟨fun z => by omega, fun z => by omega⟩ (s - a) 0 (by omega) _ _ ⟨rfl, rfl⟩
  ·
    refine g3 hC rfl rfl ?_
    refine g19 hC rfl rfl (Nat.le_of_ble_eq_true rfl) rfl hk ?_
    refine g0 hC rfl ?_
    refine g13n hC rfl (fun h7 => ?_) (fun h7 => ?_)
    ·
      refine g0 hC rfl ?_
      refine s1 hC rfl rfl rfl ?_
      refine g3 hC rfl rfl ?_
      refine g19 hC rfl rfl (Nat.le_of_ble_eq_true rfl) rfl ha ?_
      refine s2 hC rfl rfl rfl ?_
      first
        | exact l1 1 (Or.inr rfl) ⟨fun _ => by omega, fun _ => rfl⟩ (s - a) 0 (by omega) _ _ ⟨rfl, rfl⟩
        | exact l1 0 (Or.inl rfl) ⟨fun z => by omega, fun z => by omega⟩ (s - a) 0 (by omega) _ _ ⟨rfl, rfl⟩
    ·
      refine g0 hC rfl ?_
      refine g14 hC rfl ?_
      refine s1 hC rfl rfl rfl ?_
      refine g3 hC rfl rfl ?_
      refine g19 hC rfl rfl (Nat.le_of_ble_eq_true rfl) rfl ha ?_
      refine s2 hC rfl rfl rfl ?_
      first
        | exact l1 1 (Or.inr rfl) ⟨fun _ => by omega, fun _ => rfl⟩ (s - a) 0 (by omega) _ _ ⟨rfl, rfl⟩
        | exact l1 0 (Or.inl rfl) ⟨fun z => by omega, fun z => by omega⟩ (s - a) 0 (by omega) _ _ ⟨rfl, rfl⟩
end CTX
end
section
def WNU : ax_W := ([], [(1, 2), (1, 3), (1, 4), (1, 6), (1, 8), (1, 9)])
def WNA : ax_W := ([], [(1, 2), (1, 3), (1, 4), (1, 5), (1, 7), (1, 8), (1, 9)])
theorem drp {l : List Int} {k : Nat} {c : Int} {r : List Int} (h : l.drop k = c :: r) : k < l.length ∧ l.getD k 0 = c ∧ l.drop (k + 1) = r := by
  have hl : k < l.length := by
    rcases Nat.lt_or_ge k l.length with z | z
    · exact z
    · rw [List.drop_eq_nil_of_le z] at h; cases h
  rw [List.drop_eq_getElem_cons hl] at h
  injection h with h1 h2
  exact ⟨hl, by rw [List.getD_eq_getElem?_getD, List.getElem?_eq_getElem hl]; exact h1, h2⟩
theorem apd1 {u : List Int} {c : Int} {i : Nat} (h : i < u.length) : (u ++ [c]).getD i 0 = u.getD i 0 := by
  rw [List.getD_eq_getElem?_getD, List.getD_eq_getElem?_getD, List.getElem?_append_left h]
theorem apd2 {u : List Int} {c : Int} : (u ++ [c]).getD u.length 0 = c := by
  rw [List.getD_eq_getElem?_getD, List.getElem?_append_right (Nat.le_refl _), Nat.sub_self]; rfl
def Pf (T : Nat → Int) (s m : Nat) (u : List Int) : Prop := u.length ≤ m ∧ ∀ i, i < u.length → T (s + i) = u.getD i 0
theorem Pf_s {T : Nat → Int} {s m : Nat} {u : List Int} {c : Int} : Pf T s m (u ++ [c]) ↔ Pf T s m u ∧ u.length < m ∧ T (s + u.length) = c := by
  have el : (u ++ [c]).length = u.length + 1 := by simp
  unfold Pf
  rw [el]
  constructor
  · rintro ⟨h1, h2⟩
    refine ⟨⟨by omega, fun i hi => ?_⟩, by omega, ?_⟩
    · rw [h2 i (by omega), apd1 hi]
    · rw [h2 u.length (by omega), apd2]
  · rintro ⟨⟨h1, h2⟩, h3, h4⟩
    refine ⟨by omega, fun i hi => ?_⟩
    by_cases e : i = u.length
    · rw [e, apd2, h4]
    · rw [apd1 (by omega), h2 i (by omega)]
section CTY
variable {L : Nat} {X : Nat → Int} {M : ax_M} {T : Nat → Int} {n : Nat} {q : PS}
theorem m92 (hF : Fix M) (hn : n ≤ 1600) (hq : CT T n q M) (hqn : q.1 ≤ n) {a : Int} (ha : ax_isS a = true) {w : List Int} {ws : List (List Int)} (hb : ax_by (a - 1) = w ++ tlW ws) (hw0 : ∀ x ∈ w, x ≠ 32) (hws : ∀ v ∈ ws, ∀ x ∈ v, x ≠ 32) : ax_Ev L X SH 4 92 [(2, 1), (2, a)] M (R1 0 (fun x M' => x = fnd T n q 0 (w :: ws) ∧ M' = M)) := by
  show ax_G L X SH 4 92 0 [(2, 1), (2, a), (3, 0), (3, 0), (3, 0), (3, 0), (3, 0), (3, 0)] [] M _
  have hC := at92
  have hw : wok WSP = true := by decide +kernel
  have hS : Sb WSP M M := Sb.refl
  have hab := af_b (T := T) hqn
  by_cases hkd : kd T n q = 1
  · obtain ⟨m, hm⟩ : ∃ m, m = af T n q - q.1 := ⟨_, rfl⟩
    obtain ⟨bs, hbs⟩ : ∃ bs, bs = ax_by (a - 1) := ⟨_, rfl⟩
    have hbl : bs.length < 1000000 := by
      have h := of_decide_eq_true ha
      rw [hbs]
      unfold ax_by
      rw [show a - 1 + 1 = a by omega]
      have key : ∀ k, k < 21 → (ax_tx.getD k ("", [])).2.length < 1000000 := by decide +kernel
      exact key _ h.2.2
    have c308 := m308 (L := L) (X := X) (M := M) ha
    have c309 : ∀ k, k < bs.length → ax_Ev L X SH 3 309 [(2, a), (0, (k : Int))] M (R1 0 (fun x M' => x = bs.getD k 0 ∧ M' = M)) := by
      intro k hk; rw [hbs] at hk ⊢; exact m309 ha hk
    rw [← hbs] at c308 hb
    have stp : ∀ (Q : Int → ax_M → Prop) (r : List Int) (c : Int) (u : List Int) (idx fr : Nat) (al : Int), bs.drop (fr + u.length) = c :: r → c ≠ 32 → (al = 0 ∨ al = 1) → (al = 1 ↔ Pf T q.1 m u) → (∀ al' v6 v7, (al' = 0 ∨ al' = 1) → (al' = 1 ↔ Pf T q.1 m (u ++ [c])) → ax_G L X SH 4 92 14 [(2, 1), (2, a), (0, (idx : Int)), (0, (fr : Int)), (0, al'), (0, ((fr + (u ++ [c]).length : Nat) : Int)), v6, v7] [] M (R1 0 Q)) → ∀ v6 v7, ax_G L X SH 4 92 14 [(2, 1), (2, a), (0, (idx : Int)), (0, (fr : Int)), (0, al), (0, ((fr + u.length : Nat) : Int)), v6, v7] [] M (R1 0 Q) := by
      intro Q r c u idx fr al hd hc al0 al1 hk2 v6 v7
      obtain ⟨d1, d2, d3⟩ := drp hd
      have ek : ((fr + u.length : Nat) : Int) + 1 = ((fr + (u ++ [c]).length : Nat) : Int) := by
        rw [show (u ++ [c]).length = u.length + 1 by simp]; omega
      obtain ⟨K, hK⟩ : ∃ K, K = fr + u.length := ⟨_, rfl⟩
      have ps := Pf_s (T := T) (s := q.1) (m := m) (u := u) (c := c)
      rw [← hK] at d1 d2 ek ⊢
      refine g3 hC rfl rfl ?_
      refine g19 hC rfl rfl (Nat.le_of_ble_eq_true rfl) rfl hq.2.1 ?_
      refine g0 hC rfl ?_
      refine g13n hC rfl (fun h17 => (by omega)) (fun h17 => ?_)
      refine g3 hC rfl rfl ?_
      refine g3 hC rfl rfl ?_
      refine c1 hC rfl rfl rfl (Nat.le_of_ble_eq_true rfl) (Nat.le_of_ble_eq_true rfl) (mayT k308 rfl ha) c308 (Nat.le_of_ble_eq_true rfl) (fun x M2 hr => ?_)
      obtain ⟨rfl, hr⟩ := hr; replace hr := hr.symm; subst hr
      refine g13t hC rfl (fun h21 => (by omega)) (fun h21 => ?_)
      refine g3 hC rfl rfl ?_
      refine g3 hC rfl rfl ?_
      refine c1 hC rfl rfl rfl (Nat.le_of_ble_eq_true rfl) (Nat.le_of_ble_eq_true rfl) (mayT k308 rfl ha) c308 (Nat.le_of_ble_eq_true rfl) (fun x M2 hr => ?_)
      obtain ⟨rfl, hr⟩ := hr; replace hr := hr.symm; subst hr
      refine g13e hC rfl (fun h25 => (by omega)) (fun h25 => ?_)
      refine g3 hC rfl rfl ?_
      refine g3 hC rfl rfl ?_
      refine c1 hC rfl rfl rfl (Nat.le_of_ble_eq_true rfl) (Nat.le_of_ble_eq_true rfl) (mayT k309 rfl ha) (c309 K d1) (Nat.le_of_ble_eq_true rfl) (fun x M2 hr => ?_)
      obtain ⟨rfl, hr⟩ := hr; replace hr := hr.symm; subst hr
      refine g0 hC rfl ?_
      refine g13n hC rfl (fun h30 => ?_) (fun h30 => (by omega))
      refine g0 hC rfl ?_
      refine s6 hC rfl rfl rfl ?_
      refine g3 hC rfl rfl ?_
      refine g12e hC rfl (fun h36 => ?_) (fun h36 => (by omega))
      refine g3 hC rfl rfl ?_
      refine g12e hC rfl (fun h51 => ?_) (fun h51 => (by omega))
      refine g3 hC rfl rfl ?_
      refine g19 hC rfl rfl (Nat.le_of_ble_eq_true rfl) rfl hq.2.2.1 ?_
      refine g3 hC rfl rfl ?_
      refine g6a hC rfl ⟨by omega, by omega⟩ ?_
      refine g3 hC rfl rfl ?_
      refine g6s hC rfl ⟨by omega, by omega⟩ ?_
      refine s7 hC rfl rfl rfl ?_
      refine g3 hC rfl rfl ?_
      refine g12e hC rfl (fun h68 => ?_) (fun h68 => ?_)
      ·
        refine g0 hC rfl ?_
        refine s4 hC rfl rfl rfl ?_
        refine n5 hC rfl rfl ⟨by omega, by omega⟩ ?_
        refine g14 hC rfl ?_
        rw [ek]
        refine hk2 0 _ _ (Or.inl rfl) ⟨fun z => by omega, fun z => ?_⟩
        have := al1.2 (ps.1 z).1; omega
      ·
        refine g3 hC rfl rfl ?_
        refine g3 hC rfl rfl ?_
        refine g19 hC rfl rfl (Nat.le_of_ble_eq_true rfl) rfl hq.2.2.2.1 ?_
        refine g13g hC rfl (fun h72 => ?_) (fun h72 => ?_)
        ·
          refine g0 hC rfl ?_
          refine s4 hC rfl rfl rfl ?_
          refine n5 hC rfl rfl ⟨by omega, by omega⟩ ?_
          refine g14 hC rfl ?_
          rw [ek]
          refine hk2 0 _ _ (Or.inl rfl) ⟨fun z => by omega, fun z => ?_⟩
          have := (ps.1 z).2.1; omega
        ·
          refine g3 hC rfl rfl ?_
          refine g19 hC rfl rfl (Nat.le_of_ble_eq_true rfl) rfl ((hS.fix hw hF).g rfl) ?_
          refine g3 hC rfl rfl ?_
          refine r21 (q.1 + u.length) hC rfl (by omega) rfl (Or.inl rfl) (by omega) (hq.2.2.2.2.1 _ (by omega)) ?_
          refine g3 hC rfl rfl ?_
          refine g3 hC rfl rfl ?_
          refine c1 hC rfl rfl rfl (Nat.le_of_ble_eq_true rfl) (Nat.le_of_ble_eq_true rfl) (mayT k309 rfl ha) (c309 K d1) (Nat.le_of_ble_eq_true rfl) (fun x M2 hr => ?_)
          obtain ⟨rfl, hr⟩ := hr; replace hr := hr.symm; subst hr
          refine g13n hC rfl (fun h80 => ?_) (fun h80 => ?_)
          ·
            refine g0 hC rfl ?_
            refine s4 hC rfl rfl rfl ?_
            refine n5 hC rfl rfl ⟨by omega, by omega⟩ ?_
            refine g14 hC rfl ?_
            rw [ek]
            refine hk2 0 _ _ (Or.inl rfl) ⟨fun z => by omega, fun z => ?_⟩
            have := (ps.1 z).2.2; omega
          ·
            refine g0 hC rfl ?_
            refine g14 hC rfl ?_
            refine s4 hC rfl rfl rfl ?_
            refine n5 hC rfl rfl ⟨by omega, by omega⟩ ?_
            refine g14 hC rfl ?_
            rw [ek]
            refine hk2 1 _ _ (Or.inr rfl) ⟨fun _ => ps.2 ⟨al1.1 (by omega), by omega, by omega⟩, fun _ => rfl⟩
    have bh : ∀ (r : List (List Int)) (u : List Int) (idx fr : Nat) (al : Int), idx ≤ fr → fr + u.length ≤ bs.length → (fr + u.length = bs.length ∨ (fr + u.length < bs.length ∧ bs.getD (fr + u.length) 0 = 32)) → (al = 0 ∨ al = 1) → (al = 1 ↔ Pf T q.1 m u) → (∀ v6 v7, ax_G L X SH 4 92 14 [(2, 1), (2, a), (0, ((idx + 1 : Nat) : Int)), (0, ((fr + u.length + 1 : Nat) : Int)), (0, 1), (0, ((fr + u.length + 1 : Nat) : Int)), v6, v7] [] M (R1 0 (fun x M' => x = fnd T n q (idx + 1) r ∧ M' = M))) → ∀ v6 v7, ax_G L X SH 4 92 14 [(2, 1), (2, a), (0, (idx : Int)), (0, (fr : Int)), (0, al), (0, ((fr + u.length : Nat) : Int)), v6, v7] [] M (R1 0 (fun x M' => x = fnd T n q idx (u :: r) ∧ M' = M)) := by
      intro r u idx fr al hif h1 h2 al0 al1 hk2 v6 v7
      have ef : fnd T n q idx (u :: r) = if isW T n q u = true then (idx : Int) else fnd T n q (idx + 1) r := rfl
      have eW : isW T n q u = decide (kd T n q = 1 ∧ af T n q - q.1 = u.length ∧ ∀ i, i < u.length → T (q.1 + i) = u.getD i 0) := rfl
      have yes : al = 1 → m = u.length → fnd T n q idx (u :: r) = (idx : Int) := by
        intro z1 z2
        rw [ef, eW, if_pos (decide_eq_true ⟨hkd, by omega, (al1.1 z1).2⟩)]
      have no : ¬ (al = 1 ∧ m = u.length) → fnd T n q idx (u :: r) = fnd T n q (idx + 1) r := by
        intro z
        rw [ef, eW, if_neg (fun y => ?_)]
        have y := of_decide_eq_true y
        exact z ⟨al1.2 ⟨by omega, y.2.2⟩, by omega⟩
      obtain ⟨K, hK⟩ : ∃ K, K = fr + u.length := ⟨_, rfl⟩
      rw [← hK] at h1 h2 hk2 ⊢
      have e1 : ((idx : Int)) + 1 = ((idx + 1 : Nat) : Int) := by omega
      have e2 : ((K : Int)) + 1 = ((K + 1 : Nat) : Int) := by omega
      refine g3 hC rfl rfl ?_
      refine g19 hC rfl rfl (Nat.le_of_ble_eq_true rfl) rfl hq.2.1 ?_
      refine g0 hC rfl ?_
      refine g13n hC rfl (fun h17 => (by omega)) (fun h17 => ?_)
      refine g3 hC rfl rfl ?_
      refine g3 hC rfl rfl ?_
      refine c1 hC rfl rfl rfl (Nat.le_of_ble_eq_true rfl) (Nat.le_of_ble_eq_true rfl) (mayT k308 rfl ha) c308 (Nat.le_of_ble_eq_true rfl) (fun x M2 hr => ?_)
      obtain ⟨rfl, hr⟩ := hr; replace hr := hr.symm; subst hr
      refine g13t hC rfl (fun h21 => (by omega)) (fun h21 => ?_)
      refine g3 hC rfl rfl ?_
      refine g3 hC rfl rfl ?_
      refine c1 hC rfl rfl rfl (Nat.le_of_ble_eq_true rfl) (Nat.le_of_ble_eq_true rfl) (mayT k308 rfl ha) c308 (Nat.le_of_ble_eq_true rfl) (fun x M2 hr => ?_)
      obtain ⟨rfl, hr⟩ := hr; replace hr := hr.symm; subst hr
      refine g13e hC rfl (fun h25 => ?_) (fun h25 => ?_)
      ·
        refine g0 hC rfl ?_
        refine g14 hC rfl ?_
        refine s6 hC rfl rfl rfl ?_
        refine g3 hC rfl rfl ?_
        refine g12e hC rfl (fun h36 => (by omega)) (fun h36 => ?_)
        refine g3 hC rfl rfl ?_
        refine g12e hC rfl (fun h38 => ?_) (fun h38 => ?_)
        ·
          refine g3 hC rfl rfl ?_
          refine g12e hC rfl (fun h51 => (by omega)) (fun h51 => ?_)
          refine n2 hC rfl rfl ⟨by omega, by omega⟩ ?_
          refine g3 hC rfl rfl ?_
          refine g0 hC rfl ?_
          refine g6a hC rfl ⟨by omega, by omega⟩ ?_
          refine s3 hC rfl rfl rfl ?_
          refine g0 hC rfl ?_
          refine s4 hC rfl rfl rfl ?_
          refine g14 hC rfl ?_
          refine n5 hC rfl rfl ⟨by omega, by omega⟩ ?_
          refine g14 hC rfl ?_
          rw [no (by omega), e1, e2]; exact hk2 _ _
        ·
          refine g3 hC rfl rfl ?_
          refine g3 hC rfl rfl ?_
          refine g6s hC rfl ⟨by omega, by omega⟩ ?_
          refine g3 hC rfl rfl ?_
          refine g19 hC rfl rfl (Nat.le_of_ble_eq_true rfl) rfl hq.2.2.2.1 ?_
          refine g3 hC rfl rfl ?_
          refine g19 hC rfl rfl (Nat.le_of_ble_eq_true rfl) rfl hq.2.2.1 ?_
          refine g6s hC rfl ⟨by omega, by omega⟩ ?_
          refine g13n hC rfl (fun h47 => ?_) (fun h47 => ?_)
          ·
            refine g3 hC rfl rfl ?_
            refine g12e hC rfl (fun h51 => (by omega)) (fun h51 => ?_)
            refine n2 hC rfl rfl ⟨by omega, by omega⟩ ?_
            refine g3 hC rfl rfl ?_
            refine g0 hC rfl ?_
            refine g6a hC rfl ⟨by omega, by omega⟩ ?_
            refine s3 hC rfl rfl rfl ?_
            refine g0 hC rfl ?_
            refine s4 hC rfl rfl rfl ?_
            refine g14 hC rfl ?_
            refine n5 hC rfl rfl ⟨by omega, by omega⟩ ?_
            refine g14 hC rfl ?_
            rw [no (by omega), e1, e2]; exact hk2 _ _
          ·
            refine g3 hC rfl rfl ?_
            refine ret1 hC rfl rfl ?_
            exact ⟨(yes (by omega) (by omega)).symm, rfl⟩
      ·
        refine g3 hC rfl rfl ?_
        refine g3 hC rfl rfl ?_
        refine c1 hC rfl rfl rfl (Nat.le_of_ble_eq_true rfl) (Nat.le_of_ble_eq_true rfl) (mayT k309 rfl ha) (c309 K (by omega)) (Nat.le_of_ble_eq_true rfl) (fun x M2 hr => ?_)
        obtain ⟨rfl, hr⟩ := hr; replace hr := hr.symm; subst hr
        refine g0 hC rfl ?_
        refine g13n hC rfl (fun h30 => (by omega)) (fun h30 => ?_)
        refine g0 hC rfl ?_
        refine g14 hC rfl ?_
        refine s6 hC rfl rfl rfl ?_
        refine g3 hC rfl rfl ?_
        refine g12e hC rfl (fun h36 => (by omega)) (fun h36 => ?_)
        refine g3 hC rfl rfl ?_
        refine g12e hC rfl (fun h38 => ?_) (fun h38 => ?_)
        ·
          refine g3 hC rfl rfl ?_
          refine g12e hC rfl (fun h51 => (by omega)) (fun h51 => ?_)
          refine n2 hC rfl rfl ⟨by omega, by omega⟩ ?_
          refine g3 hC rfl rfl ?_
          refine g0 hC rfl ?_
          refine g6a hC rfl ⟨by omega, by omega⟩ ?_
          refine s3 hC rfl rfl rfl ?_
          refine g0 hC rfl ?_
          refine s4 hC rfl rfl rfl ?_
          refine g14 hC rfl ?_
          refine n5 hC rfl rfl ⟨by omega, by omega⟩ ?_
          refine g14 hC rfl ?_
          rw [no (by omega), e1, e2]; exact hk2 _ _
        ·
          refine g3 hC rfl rfl ?_
          refine g3 hC rfl rfl ?_
          refine g6s hC rfl ⟨by omega, by omega⟩ ?_
          refine g3 hC rfl rfl ?_
          refine g19 hC rfl rfl (Nat.le_of_ble_eq_true rfl) rfl hq.2.2.2.1 ?_
          refine g3 hC rfl rfl ?_
          refine g19 hC rfl rfl (Nat.le_of_ble_eq_true rfl) rfl hq.2.2.1 ?_
          refine g6s hC rfl ⟨by omega, by omega⟩ ?_
          refine g13n hC rfl (fun h47 => ?_) (fun h47 => ?_)
          ·
            refine g3 hC rfl rfl ?_
            refine g12e hC rfl (fun h51 => (by omega)) (fun h51 => ?_)
            refine n2 hC rfl rfl ⟨by omega, by omega⟩ ?_
            refine g3 hC rfl rfl ?_
            refine g0 hC rfl ?_
            refine g6a hC rfl ⟨by omega, by omega⟩ ?_
            refine s3 hC rfl rfl rfl ?_
            refine g0 hC rfl ?_
            refine s4 hC rfl rfl rfl ?_
            refine g14 hC rfl ?_
            refine n5 hC rfl rfl ⟨by omega, by omega⟩ ?_
            refine g14 hC rfl ?_
            rw [no (by omega), e1, e2]; exact hk2 _ _
          ·
            refine g3 hC rfl rfl ?_
            refine ret1 hC rfl rfl ?_
            exact ⟨(yes (by omega) (by omega)).symm, rfl⟩
    have main : ∀ (r : List (List Int)) (v u : List Int) (idx fr : Nat) (al : Int), idx ≤ fr → bs.drop (fr + u.length) = v ++ tlW r → fr + u.length ≤ bs.length → (∀ x ∈ v, x ≠ 32) → (∀ y ∈ r, ∀ x ∈ y, x ≠ 32) → (al = 0 ∨ al = 1) → (al = 1 ↔ Pf T q.1 m u) → ∀ v6 v7, ax_G L X SH 4 92 14 [(2, 1), (2, a), (0, (idx : Int)), (0, (fr : Int)), (0, al), (0, ((fr + u.length : Nat) : Int)), v6, v7] [] M (R1 0 (fun x M' => x = fnd T n q idx ((u ++ v) :: r) ∧ M' = M)) := by
      have chr : ∀ (r : List (List Int)), (∀ (u : List Int) (idx fr : Nat) (al : Int), idx ≤ fr → bs.drop (fr + u.length) = tlW r → fr + u.length ≤ bs.length → (al = 0 ∨ al = 1) → (al = 1 ↔ Pf T q.1 m u) → ∀ v6 v7, ax_G L X SH 4 92 14 [(2, 1), (2, a), (0, (idx : Int)), (0, (fr : Int)), (0, al), (0, ((fr + u.length : Nat) : Int)), v6, v7] [] M (R1 0 (fun x M' => x = fnd T n q idx (u :: r) ∧ M' = M))) → ∀ (v u : List Int) (idx fr : Nat) (al : Int), idx ≤ fr → bs.drop (fr + u.length) = v ++ tlW r → fr + u.length ≤ bs.length → (∀ x ∈ v, x ≠ 32) → (al = 0 ∨ al = 1) → (al = 1 ↔ Pf T q.1 m u) → ∀ v6 v7, ax_G L X SH 4 92 14 [(2, 1), (2, a), (0, (idx : Int)), (0, (fr : Int)), (0, al), (0, ((fr + u.length : Nat) : Int)), v6, v7] [] M (R1 0 (fun x M' => x = fnd T n q idx ((u ++ v) :: r) ∧ M' = M)) := by
        intro r base v
        induction v with
        | nil =>
          intro u idx fr al hif hd hl _ al0 al1 v6 v7
          rw [List.append_nil]
          exact base u idx fr al hif hd hl al0 al1 v6 v7
        | cons c v ih =>
          intro u idx fr al hif hd hl hv al0 al1 v6 v7
          have hd2 : bs.drop (fr + u.length) = c :: (v ++ tlW r) := hd
          obtain ⟨d1, d2, d3⟩ := drp hd2
          have el : fr + (u ++ [c]).length = fr + u.length + 1 := by simp; omega
          refine stp _ _ c u idx fr al hd2 (hv c List.mem_cons_self) al0 al1 (fun al' w6 w7 a0 a1 => ?_) v6 v7
          have := ih (u ++ [c]) idx fr al' hif (by rw [el]; exact d3) (by rw [el]; omega) (fun x hx => hv x (List.mem_cons_of_mem _ hx)) a0 a1 w6 w7
          rw [List.append_assoc] at this
          exact this
      intro r
      induction r with
      | nil =>
        intro v u idx fr al hif hd hl hv _ al0 al1 v6 v7
        refine chr [] ?_ v u idx fr al hif hd hl hv al0 al1 v6 v7
        intro u idx fr al hif hd hl al0 al1 v6 v7
        have hK : fr + u.length = bs.length := by
          have h0 : (bs.drop (fr + u.length)).length = 0 := by rw [hd]; rfl
          rw [List.length_drop] at h0; omega
        refine bh [] u idx fr al hif hl (Or.inl hK) al0 al1 (fun v6 v7 => ?_) v6 v7
        obtain ⟨K, hK2⟩ : ∃ K, K = fr + u.length + 1 := ⟨_, rfl⟩
        rw [← hK2]
        refine g3 hC rfl rfl ?_
        refine g19 hC rfl rfl (Nat.le_of_ble_eq_true rfl) rfl hq.2.1 ?_
        refine g0 hC rfl ?_
        refine g13n hC rfl (fun h17 => (by omega)) (fun h17 => ?_)
        refine g3 hC rfl rfl ?_
        refine g3 hC rfl rfl ?_
        refine c1 hC rfl rfl rfl (Nat.le_of_ble_eq_true rfl) (Nat.le_of_ble_eq_true rfl) (mayT k308 rfl ha) c308 (Nat.le_of_ble_eq_true rfl) (fun x M2 hr => ?_)
        obtain ⟨rfl, hr⟩ := hr; replace hr := hr.symm; subst hr
        refine g13t hC rfl (fun h21 => ?_) (fun h21 => (by omega))
        refine g0 hC rfl ?_
        refine ret1 hC rfl rfl ?_
        exact ⟨rfl, rfl⟩
      | cons y r ih =>
        intro v u idx fr al hif hd hl hv hr al0 al1 v6 v7
        refine chr (y :: r) ?_ v u idx fr al hif hd hl hv al0 al1 v6 v7
        intro u idx fr al hif hd hl al0 al1 v6 v7
        have hd2 : bs.drop (fr + u.length) = 32 :: (y ++ tlW r) := hd
        obtain ⟨d1, d2, d3⟩ := drp hd2
        refine bh (y :: r) u idx fr al hif hl (Or.inr ⟨d1, d2⟩) al0 al1 (fun v6 v7 => ?_) v6 v7
        exact ih y [] (idx + 1) (fr + u.length + 1) 1 (by omega) d3 (by show fr + u.length + 1 + 0 ≤ _; omega) (fun x hx => hr y List.mem_cons_self x hx) (fun z hz => hr z (List.mem_cons_of_mem _ hz)) (Or.inr rfl) ⟨fun _ => ⟨Nat.zero_le _, fun i hi => absurd hi (Nat.not_lt_zero i)⟩, fun _ => rfl⟩ v6 v7
    refine g0 hC rfl ?_
    refine s2 hC rfl rfl rfl ?_
    refine g0 hC rfl ?_
    refine s3 hC rfl rfl rfl ?_
    refine g3 hC rfl rfl ?_
    refine g19 hC rfl rfl (Nat.le_of_ble_eq_true rfl) rfl hq.2.1 ?_
    refine g0 hC rfl ?_
    refine g13n hC rfl (fun h7 => (by omega)) (fun h7 => ?_)
    refine g0 hC rfl ?_
    refine g14 hC rfl ?_
    refine s4 hC rfl rfl rfl ?_
    refine g0 hC rfl ?_
    refine s5 hC rfl rfl rfl ?_
    exact main ws w [] 0 0 1 (Nat.le_refl 0) hb (Nat.zero_le _) hw0 hws (Or.inr rfl) ⟨fun _ => ⟨Nat.zero_le _, fun i hi => absurd hi (Nat.not_lt_zero i)⟩, fun _ => rfl⟩ _ _
  · rw [fnd_kd hkd]
    refine g0 hC rfl ?_
    refine s2 hC rfl rfl rfl ?_
    refine g0 hC rfl ?_
    refine s3 hC rfl rfl rfl ?_
    refine g3 hC rfl rfl ?_
    refine g19 hC rfl rfl (Nat.le_of_ble_eq_true rfl) rfl hq.2.1 ?_
    refine g0 hC rfl ?_
    refine g13n hC rfl (fun h7 => ?_) (fun h7 => (by omega))
    refine g0 hC rfl ?_
    refine s4 hC rfl rfl rfl ?_
    refine g0 hC rfl ?_
    refine s5 hC rfl rfl rfl ?_
    refine g3 hC rfl rfl ?_
    refine g19 hC rfl rfl (Nat.le_of_ble_eq_true rfl) rfl hq.2.1 ?_
    refine g0 hC rfl ?_
    refine g13n hC rfl (fun h17 => ?_) (fun h17 => (by omega))
    refine g0 hC rfl ?_
    refine ret1 hC rfl rfl ?_
    exact ⟨rfl, rfl⟩
theorem m93 (hF : Fix M) (hn : n ≤ 1600) (hq : CT T n q M) (hqn : q.1 ≤ n) {a : Int} (ha : ax_isS a = true) {w : List Int} (hb : ax_by (a - 1) = w) (hw0 : ∀ x ∈ w, x ≠ 32) : ax_Ev L X SH 5 93 [(2, 1), (2, a)] M (R1 0 (fun x M' => x = (if isW T n q w = true then 1 else 0) ∧ M' = M)) := by
  show ax_G L X SH 5 93 0 [(2, 1), (2, a)] [] M _
  have hC := at93
  have ef : fnd T n q 0 [w] = if isW T n q w = true then 0 else -1 := rfl
  have c92 := m92 (L := L) (X := X) hF hn hq hqn ha (ws := []) (hb.trans (List.append_nil w).symm) hw0 (fun v hv => by cases hv)
  rw [ef] at c92
  refine g3 hC rfl rfl ?_
  refine g3 hC rfl rfl ?_
  refine c1 hC rfl rfl rfl (Nat.le_of_ble_eq_true rfl) (Nat.le_of_ble_eq_true rfl) rfl c92 (Nat.le_of_ble_eq_true rfl) (fun x M2 hr => ?_)
  obtain ⟨hx, hr⟩ := hr; replace hr := hr.symm; subst hr
  refine g12n hC rfl (fun h3 => ?_) (fun h3 => ?_)
  ·
    refine g0 hC rfl ?_
    refine ret3 hC rfl ⟨by omega, by omega⟩ ?_
    refine ⟨?_, rfl⟩
    split at hx
    · omega
    · rename_i z; rw [if_neg z]
  ·
    refine g0 hC rfl ?_
    refine g14 hC rfl ?_
    refine ret3 hC rfl ⟨by omega, by omega⟩ ?_
    refine ⟨?_, rfl⟩
    split at hx
    · rename_i z; rw [if_pos z]
    · omega
theorem m94 (hF : Fix M) (hn : n ≤ 1600) (hq : CT T n q M) (hqn : q.1 ≤ n) {c : Int} : ax_Ev L X SH 0 94 [(2, 1), (0, c)] M (R1 0 (fun x M' => x = (if isG T n q c = true then 1 else 0) ∧ M' = M)) := by
  show ax_G L X SH 0 94 0 [(2, 1), (0, c)] [] M _
  have hC := at94
  have hw : wok WSP = true := by decide +kernel
  have hS : Sb WSP M M := Sb.refl
  have eG : isG T n q c = decide (kd T n q = 3 ∧ T q.1 = c) := rfl
  have hk3 : kd T n q = 3 → q.1 < n := fun h => (kd_3 h).2.1
  refine g3 hC rfl rfl ?_
  refine g19 hC rfl rfl (Nat.le_of_ble_eq_true rfl) rfl hq.2.1 ?_
  refine g0 hC rfl ?_
  refine g13n hC rfl (fun h3 => ?_) (fun h3 => ?_)
  ·
    refine g0 hC rfl ?_
    refine ret3 hC rfl ⟨by omega, by omega⟩ ?_
    refine ⟨?_, rfl⟩
    rw [eG, if_neg (fun z => by have := of_decide_eq_true z; omega)]
  ·
    refine g3 hC rfl rfl ?_
    refine g19 hC rfl rfl (Nat.le_of_ble_eq_true rfl) rfl ((hS.fix hw hF).g rfl) ?_
    refine g3 hC rfl rfl ?_
    refine g19 hC rfl rfl (Nat.le_of_ble_eq_true rfl) rfl hq.2.2.1 ?_
    refine r21 (q.1) hC rfl rfl rfl (Or.inl rfl) (by have := hk3 (by omega); omega) (hq.2.2.2.2.1 _ (by have := hk3 (by omega); omega)) ?_
    refine g3 hC rfl rfl ?_
    refine g13n hC rfl (fun h10 => ?_) (fun h10 => ?_)
    ·
      refine g0 hC rfl ?_
      refine ret3 hC rfl ⟨by omega, by omega⟩ ?_
      refine ⟨?_, rfl⟩
      rw [eG, if_neg (fun z => by have := of_decide_eq_true z; omega)]
    ·
      refine g0 hC rfl ?_
      refine g14 hC rfl ?_
      refine ret3 hC rfl ⟨by omega, by omega⟩ ?_
      refine ⟨?_, rfl⟩
      rw [eG, if_pos (decide_eq_true ⟨by omega, by omega⟩)]
theorem m90q (hF : Fix M) (hn : n ≤ 1600) (hq : CT T n q M) (hqn : q.1 ≤ n) : ax_Ev L X SH 1 90 [(2, 1)] M (R0 (fun M' => Sb WSP M M' ∧ CT T n (nx T n q) M')) := m90 hF hn hq.1 hq.2.2.2.2.1 hq.2.1 hq.2.2.2.1 (af_b hqn).2.1 hq.2.2.2.2.2
def CF (f p : Int) (M : ax_M) : Prop := M 1 8 = f ∧ M 1 9 = p
theorem CF.up {f p : Int} : CF f p (ax_up (ax_up M 1 8 f) 1 9 p) := ⟨by rw [ax_up_of (by decide), ax_up_at], ax_up_at⟩
theorem m95 (hF : Fix M) (hn : n ≤ 1600) (hq : CT T n q M) (hqn : q.1 ≤ n) {a : Int} (ha : ax_isS a = true) {w : List Int} (hb : ax_by (a - 1) = w) (hw0 : ∀ x ∈ w, x ≠ 32) : ax_Ev L X SH 5 95 [(2, 1), (2, a)] M (R1 0 (fun x M' => (isW T n q w = true ∧ x = 1 ∧ Sb WSP M M' ∧ CT T n (nx T n q) M') ∨ (isW T n q w = false ∧ x = 0 ∧ Sb WFL M M' ∧ CF 1 q.1 M'))) := by
  show ax_G L X SH 5 95 0 [(2, 1), (2, a)] [] M _
  have hC := at95
  have ef : fnd T n q 0 [w] = if isW T n q w = true then 0 else -1 := rfl
  have c92 := m92 (L := L) (X := X) hF hn hq hqn ha (ws := []) (hb.trans (List.append_nil w).symm) hw0 (fun v hv => by cases hv)
  rw [ef] at c92
  refine g3 hC rfl rfl ?_
  refine g3 hC rfl rfl ?_
  refine c1 hC rfl rfl rfl (Nat.le_of_ble_eq_true rfl) (Nat.le_of_ble_eq_true rfl) rfl c92 (Nat.le_of_ble_eq_true rfl) (fun x M2 hr => ?_)
  obtain ⟨hx, hr⟩ := hr; replace hr := hr.symm; subst hr
  refine g12e hC rfl (fun h3 => ?_) (fun h3 => ?_)
  ·
    refine g3 hC rfl rfl ?_
    refine c0 hC rfl rfl rfl (Nat.le_of_ble_eq_true rfl) (Nat.le_of_ble_eq_true rfl) rfl (m90q hF hn hq hqn) (Nat.le_of_ble_eq_true rfl) (fun M2 hr => ?_)
    obtain ⟨hS, hc⟩ := hr
    refine g0 hC rfl ?_
    refine ret3 hC rfl ⟨by omega, by omega⟩ ?_
    refine Or.inl ⟨?_, rfl, hS, hc⟩
    split at hx
    · rename_i z; exact z
    · omega
  ·
    refine g3 hC rfl rfl ?_
    refine g0 hC rfl ?_
    refine g3 hC rfl rfl ?_
    refine g19 hC rfl rfl (Nat.le_of_ble_eq_true rfl) rfl hq.2.2.1 ?_
    refine c1 hC rfl rfl rfl (Nat.le_of_ble_eq_true rfl) (Nat.le_of_ble_eq_true rfl) rfl (m89) (Nat.le_of_ble_eq_true rfl) (fun x M2 hr => ?_)
    obtain ⟨rfl, hr⟩ := hr; replace hr := hr.symm; subst hr
    refine ret3 hC rfl ⟨by omega, by omega⟩ ?_
    refine Or.inr ⟨?_, rfl, (Sb.refl.up rfl).up rfl, CF.up⟩
    split at hx
    · omega
    · rename_i z; cases e : isW T n q w with | true => exact absurd e z | false => rfl
theorem m96 (hF : Fix M) (hn : n ≤ 1600) (hq : CT T n q M) (hqn : q.1 ≤ n) {c : Int} : ax_Ev L X SH 2 96 [(2, 1), (0, c)] M (R1 0 (fun x M' => (isG T n q c = true ∧ x = 1 ∧ Sb WSP M M' ∧ CT T n (nx T n q) M') ∨ (isG T n q c = false ∧ x = 0 ∧ Sb WFL M M' ∧ CF 1 q.1 M'))) := by
  show ax_G L X SH 2 96 0 [(2, 1), (0, c)] [] M _
  have hC := at96
  refine g3 hC rfl rfl ?_
  refine g3 hC rfl rfl ?_
  refine c1 hC rfl rfl rfl (Nat.le_of_ble_eq_true rfl) (Nat.le_of_ble_eq_true rfl) rfl (m94 hF hn hq hqn) (Nat.le_of_ble_eq_true rfl) (fun x M2 hr => ?_)
  obtain ⟨hx, hr⟩ := hr; replace hr := hr.symm; subst hr
  refine g12n hC rfl (fun h3 => ?_) (fun h3 => ?_)
  ·
    refine g3 hC rfl rfl ?_
    refine c0 hC rfl rfl rfl (Nat.le_of_ble_eq_true rfl) (Nat.le_of_ble_eq_true rfl) rfl (m90q hF hn hq hqn) (Nat.le_of_ble_eq_true rfl) (fun M2 hr => ?_)
    obtain ⟨hS, hc⟩ := hr
    refine g0 hC rfl ?_
    refine ret3 hC rfl ⟨by omega, by omega⟩ ?_
    refine Or.inl ⟨?_, rfl, hS, hc⟩
    split at hx
    · rename_i z; exact z
    · omega
  ·
    refine g3 hC rfl rfl ?_
    refine g0 hC rfl ?_
    refine g3 hC rfl rfl ?_
    refine g19 hC rfl rfl (Nat.le_of_ble_eq_true rfl) rfl hq.2.2.1 ?_
    refine c1 hC rfl rfl rfl (Nat.le_of_ble_eq_true rfl) (Nat.le_of_ble_eq_true rfl) rfl (m89) (Nat.le_of_ble_eq_true rfl) (fun x M2 hr => ?_)
    obtain ⟨rfl, hr⟩ := hr; replace hr := hr.symm; subst hr
    refine ret3 hC rfl ⟨by omega, by omega⟩ ?_
    refine Or.inr ⟨?_, rfl, (Sb.refl.up rfl).up rfl, CF.up⟩
    split at hx
    · omega
    · rename_i z; cases e : isG T n q c with | true => exact absurd e z | false => rfl
def nv (T : Nat → Int) (s : Nat) : Nat → Int
  | 0 => 0
  | k + 1 => 10 * nv T s k + T (s + k) - 48
theorem nv_b {s : Nat} : ∀ m, (∀ i, i < m → 48 ≤ T (s + i) ∧ T (s + i) ≤ 57) → 0 ≤ nv T s m ∧ nv T s m < 10 ^ m := by
  intro m
  induction m with
  | zero => intro _; exact ⟨Int.le_refl 0, (by decide : (0 : Int) < 1)⟩
  | succ m ih =>
    intro h
    have h1 := ih (fun i hi => h i (by omega))
    have h2 := h m (by omega)
    have e : nv T s (m + 1) = 10 * nv T s m + T (s + m) - 48 := rfl
    have e2 : (10 : Int) ^ (m + 1) = 10 ^ m * 10 := rfl
    rw [e, e2]; omega
theorem m97 (hF : Fix M) (hn : n ≤ 1600) (hq : CT T n q M) (hqn : q.1 ≤ n) {lo hi : Int} : ax_Ev L X SH 2 97 [(2, 1), (0, lo), (0, hi)] M (R1 0 (fun x M' => Sb WNU M M' ∧ ((¬ kd T n q = 2 ∧ x = 0 ∧ CF 1 q.1 M') ∨ (kd T n q = 2 ∧ 4 < af T n q - q.1 ∧ x = 0 ∧ CF 1 ((q.1 + 4 : Nat) : Int) M') ∨ (kd T n q = 2 ∧ af T n q - q.1 ≤ 4 ∧ ¬ (lo ≤ nv T q.1 (af T n q - q.1) ∧ nv T q.1 (af T n q - q.1) ≤ hi) ∧ x = 0 ∧ CF 2 q.1 M') ∨ (kd T n q = 2 ∧ af T n q - q.1 ≤ 4 ∧ (lo ≤ nv T q.1 (af T n q - q.1) ∧ nv T q.1 (af T n q - q.1) ≤ hi) ∧ x = 1 ∧ CT T n (nx T n q) M' ∧ M' 1 6 = nv T q.1 (af T n q - q.1))))) := by
  show ax_G L X SH 2 97 0 [(2, 1), (0, lo), (0, hi), (3, 0)] [] M _
  obtain ⟨P, hP⟩ : ∃ P, P = fun (x : Int) (M' : ax_M) => Sb WNU M M' ∧ ((¬ kd T n q = 2 ∧ x = 0 ∧ CF 1 q.1 M') ∨ (kd T n q = 2 ∧ 4 < af T n q - q.1 ∧ x = 0 ∧ CF 1 ((q.1 + 4 : Nat) : Int) M') ∨ (kd T n q = 2 ∧ af T n q - q.1 ≤ 4 ∧ ¬ (lo ≤ nv T q.1 (af T n q - q.1) ∧ nv T q.1 (af T n q - q.1) ≤ hi) ∧ x = 0 ∧ CF 2 q.1 M') ∨ (kd T n q = 2 ∧ af T n q - q.1 ≤ 4 ∧ (lo ≤ nv T q.1 (af T n q - q.1) ∧ nv T q.1 (af T n q - q.1) ≤ hi) ∧ x = 1 ∧ CT T n (nx T n q) M' ∧ M' 1 6 = nv T q.1 (af T n q - q.1))) := ⟨_, rfl⟩
  rw [← hP]
  have hC := at97
  have hw : wok WNU = true := by decide +kernel
  have hS : Sb WNU M M := Sb.refl
  have hab := af_b (T := T) hqn
  have hdg : kd T n q = 2 → ∀ i, i < af T n q - q.1 → 48 ≤ T (q.1 + i) ∧ T (q.1 + i) ≤ 57 := by
    intro h i hi
    have h2 := (kd_2 h).2.2.2.2
    exact of_decide_eq_true (rn_in (p := isDb) (T := T) (i := q.1) (n := n) (by omega) (by omega))
  obtain ⟨m, hm⟩ : ∃ m, m = af T n q - q.1 := ⟨_, rfl⟩
  rw [← hm] at hP hdg
  have l1 : kd T n q = 2 → m ≤ 4 → ∀ (mm i : Nat), i + mm = m → ∀ ll M2, (ll = [(2, 1), (0, lo), (0, hi), (0, ((q.1 + i : Nat) : Int))] ∧ Sb WNU M M2 ∧ CT T n q M2 ∧ M2 1 6 = nv T q.1 i) → ax_G L X SH 2 97 31 ll [] M2 (R1 0 P) := by
    intro hk hm4
    refine lp ?_ ?_
    · rintro ll M2 ⟨rfl, hS, hq2, e6⟩
      rw [show q.1 + m = af T n q by omega]
      refine g3 hC rfl rfl ?_
      refine g3 hC rfl rfl ?_
      refine g19 hC rfl rfl (Nat.le_of_ble_eq_true rfl) rfl hq2.2.2.2.1 ?_
      refine g13g hC rfl (fun h34 => ?_) (fun h34 => (by omega))
      refine g3 hC rfl rfl ?_
      refine g19 hC rfl rfl (Nat.le_of_ble_eq_true rfl) rfl e6 ?_
      refine g3 hC rfl rfl ?_
      refine g13l hC rfl (fun h53 => ?_) (fun h53 => ?_)
      ·
        refine g3 hC rfl rfl ?_
        refine g0 hC rfl ?_
        refine g3 hC rfl rfl ?_
        refine g19 hC rfl rfl (Nat.le_of_ble_eq_true rfl) rfl hq2.2.2.1 ?_
        refine c1 hC rfl rfl rfl (Nat.le_of_ble_eq_true rfl) (Nat.le_of_ble_eq_true rfl) rfl (m89) (Nat.le_of_ble_eq_true rfl) (fun x M2 hr => ?_)
        obtain ⟨rfl, hr⟩ := hr; replace hr := hr.symm; subst hr
        refine ret3 hC rfl ⟨by omega, by omega⟩ ?_
        rw [hP]
        exact ⟨(hS.up rfl).up rfl, Or.inr (Or.inr (Or.inl ⟨hk, hm4, by omega, rfl, CF.up⟩))⟩
      ·
        refine g3 hC rfl rfl ?_
        refine g19 hC rfl rfl (Nat.le_of_ble_eq_true rfl) rfl e6 ?_
        refine g3 hC rfl rfl ?_
        refine g13s hC rfl (fun h57 => ?_) (fun h57 => ?_)
        ·
          refine g3 hC rfl rfl ?_
          refine c0 hC rfl rfl rfl (Nat.le_of_ble_eq_true rfl) (Nat.le_of_ble_eq_true rfl) rfl (m90q (hS.fix hw hF) hn hq2 hqn) (Nat.le_of_ble_eq_true rfl) (fun M2 hr => ?_)
          obtain ⟨hS1, hc⟩ := hr; have hS := hS.then hS1 rfl
          refine g0 hC rfl ?_
          refine ret3 hC rfl ⟨by omega, by omega⟩ ?_
          rw [hP]
          exact ⟨hS, Or.inr (Or.inr (Or.inr ⟨hk, hm4, by omega, rfl, hc, (hS1 1 6 rfl).trans e6⟩))⟩
        ·
          refine g3 hC rfl rfl ?_
          refine g0 hC rfl ?_
          refine g3 hC rfl rfl ?_
          refine g19 hC rfl rfl (Nat.le_of_ble_eq_true rfl) rfl hq2.2.2.1 ?_
          refine c1 hC rfl rfl rfl (Nat.le_of_ble_eq_true rfl) (Nat.le_of_ble_eq_true rfl) rfl (m89) (Nat.le_of_ble_eq_true rfl) (fun x M2 hr => ?_)
          obtain ⟨rfl, hr⟩ := hr; replace hr := hr.symm; subst hr
          refine ret3 hC rfl ⟨by omega, by omega⟩ ?_
          rw [hP]
          exact ⟨(hS.up rfl).up rfl, Or.inr (Or.inr (Or.inl ⟨hk, hm4, by omega, rfl, CF.up⟩))⟩
    · rintro i hi ll M2 ⟨rfl, hS, hq2, e6⟩ hnext
      have hv := nv_b (T := T) (s := q.1) i (fun k hk2 => hdg hk k (by omega))
      have hv4 : (10 : Int) ^ i ≤ 10000 := by
        have h4 : i ≤ 3 := by omega
        have : i = 0 ∨ i = 1 ∨ i = 2 ∨ i = 3 := by omega
        rcases this with rfl | rfl | rfl | rfl <;> decide
      have hdi := hdg hk i hi
      refine g3 hC rfl rfl ?_
      refine g3 hC rfl rfl ?_
      refine g19 hC rfl rfl (Nat.le_of_ble_eq_true rfl) rfl hq2.2.2.2.1 ?_
      refine g13g hC rfl (fun h34 => (by omega)) (fun h34 => ?_)
      refine g3 hC rfl rfl ?_
      refine g0 hC rfl ?_
      refine g3 hC rfl rfl ?_
      refine g19 hC rfl rfl (Nat.le_of_ble_eq_true rfl) rfl e6 ?_
      refine g6m hC rfl ⟨by omega, by omega⟩ ?_
      refine g3 hC rfl rfl ?_
      refine g19 hC rfl rfl (Nat.le_of_ble_eq_true rfl) rfl ((hS.fix hw hF).g rfl) ?_
      refine g3 hC rfl rfl ?_
      refine r21 (q.1 + i) hC rfl rfl rfl (Or.inl rfl) (by omega) (hq2.2.2.2.2.1 _ (by omega)) ?_
      refine g6a hC rfl ⟨by omega, by omega⟩ ?_
      refine g0 hC rfl ?_
      refine g6s hC rfl ⟨by omega, by omega⟩ ?_
      refine g20s hC rfl rfl (Nat.le_of_ble_eq_true rfl) rfl hS rfl (fun hS => ?_)
      refine n3 hC rfl rfl ⟨by omega, by omega⟩ ?_
      refine g14 hC rfl ?_
      refine hnext _ _ ⟨by rw [show ((q.1 + i : Nat) : Int) + 1 = ((q.1 + (i + 1) : Nat) : Int) by omega], hS, ?_, ax_up_at⟩
      exact ⟨(ax_up_of (by decide)).trans hq2.1, (ax_up_of (by decide)).trans hq2.2.1, (ax_up_of (by decide)).trans hq2.2.2.1, (ax_up_of (by decide)).trans hq2.2.2.2.1, fun k hk2 => (ax_up2n (by decide)).trans (hq2.2.2.2.2.1 k hk2), (ax_up_of (by decide)).trans hq2.2.2.2.2.2.1, (ax_up_of (by decide)).trans hq2.2.2.2.2.2.2⟩
  refine g3 hC rfl rfl ?_
  refine g19 hC rfl rfl (Nat.le_of_ble_eq_true rfl) rfl hq.2.1 ?_
  refine g0 hC rfl ?_
  refine g13e hC rfl (fun h3 => ?_) (fun h3 => ?_)
  ·
    refine g3 hC rfl rfl ?_
    refine g19 hC rfl rfl (Nat.le_of_ble_eq_true rfl) rfl hq.2.2.2.1 ?_
    refine g3 hC rfl rfl ?_
    refine g19 hC rfl rfl (Nat.le_of_ble_eq_true rfl) rfl hq.2.2.1 ?_
    refine g6s hC rfl ⟨by omega, by omega⟩ ?_
    refine g0 hC rfl ?_
    refine g13s hC rfl (fun h16 => ?_) (fun h16 => ?_)
    ·
      refine g3 hC rfl rfl ?_
      refine g0 hC rfl ?_
      refine g20s hC rfl rfl (Nat.le_of_ble_eq_true rfl) rfl hS rfl (fun hS => ?_)
      refine g3 hC rfl rfl ?_
      refine g19 hC rfl rfl (Nat.le_of_ble_eq_true rfl) rfl ((ax_up_of (by decide)).trans hq.2.2.1) ?_
      refine s3 hC rfl rfl rfl ?_
      refine l1 (by omega) (by omega) m 0 (Nat.zero_add _) _ _ ⟨rfl, hS, ?_, ax_up_at⟩
      exact ⟨(ax_up_of (by decide)).trans hq.1, (ax_up_of (by decide)).trans hq.2.1, (ax_up_of (by decide)).trans hq.2.2.1, (ax_up_of (by decide)).trans hq.2.2.2.1, fun k hk2 => (ax_up2n (by decide)).trans (hq.2.2.2.2.1 k hk2), (ax_up_of (by decide)).trans hq.2.2.2.2.2.1, (ax_up_of (by decide)).trans hq.2.2.2.2.2.2⟩
    ·
      refine g3 hC rfl rfl ?_
      refine g0 hC rfl ?_
      refine g3 hC rfl rfl ?_
      refine g19 hC rfl rfl (Nat.le_of_ble_eq_true rfl) rfl hq.2.2.1 ?_
      refine g0 hC rfl ?_
      refine g6a hC rfl ⟨by omega, by omega⟩ ?_
      refine c1 hC rfl rfl rfl (Nat.le_of_ble_eq_true rfl) (Nat.le_of_ble_eq_true rfl) rfl (m89) (Nat.le_of_ble_eq_true rfl) (fun x M2 hr => ?_)
      obtain ⟨rfl, hr⟩ := hr; replace hr := hr.symm; subst hr
      refine ret3 hC rfl ⟨by omega, by omega⟩ ?_
      rw [hP]
      refine ⟨(Sb.refl.up rfl).up rfl, Or.inr (Or.inl ⟨by omega, by omega, rfl, ?_⟩)⟩
      rw [show ((q.1 : Int)) + 4 = ((q.1 + 4 : Nat) : Int) by omega]; exact CF.up
  ·
    refine g3 hC rfl rfl ?_
    refine g0 hC rfl ?_
    refine g3 hC rfl rfl ?_
    refine g19 hC rfl rfl (Nat.le_of_ble_eq_true rfl) rfl hq.2.2.1 ?_
    refine c1 hC rfl rfl rfl (Nat.le_of_ble_eq_true rfl) (Nat.le_of_ble_eq_true rfl) rfl (m89) (Nat.le_of_ble_eq_true rfl) (fun x M2 hr => ?_)
    obtain ⟨rfl, hr⟩ := hr; replace hr := hr.symm; subst hr
    refine ret3 hC rfl ⟨by omega, by omega⟩ ?_
    rw [hP]
    exact ⟨(Sb.refl.up rfl).up rfl, Or.inl ⟨by omega, rfl, CF.up⟩⟩
end CTY
end
section
def w_room : List Int := [114, 111, 111, 109]
def w_stair : List Int := [115, 116, 97, 105, 114]
def w_to : List Int := [116, 111]
def w_wide : List Int := [119, 105, 100, 101]
def w_part : List Int := [112, 97, 114, 116]
def w_post : List Int := [112, 111, 115, 116]
def w_clerk : List Int := [99, 108, 101, 114, 107]
def w_in : List Int := [105, 110]
def w_of : List Int := [111, 102]
def w_pace : List Int := [112, 97, 99, 101]
def w_bag : List Int := [98, 97, 103]
def w_turns : List Int := [116, 117, 114, 110, 115]
def w_dear : List Int := [100, 101, 97, 114]
def w_hears : List Int := [104, 101, 97, 114, 115]
def w_signs : List Int := [115, 105, 103, 110, 115]
def w_smoke : List Int := [115, 109, 111, 107, 101]
def w_drill : List Int := [100, 114, 105, 108, 108]
def w_minute : List Int := [109, 105, 110, 117, 116, 101]
def w_crowd : List Int := [99, 114, 111, 119, 100]
def w_other : List Int := [111, 116, 104, 101, 114]
def w_long : List Int := [108, 111, 110, 103]
def w_number : List Int := [110, 117, 109, 98, 101, 114]
def w_out : List Int := [111, 117, 116]
def w_signed : List Int := [115, 105, 103, 110, 101, 100]
def w_meets : List Int := [109, 101, 101, 116, 115]
def w_or : List Int := [111, 114]
def w_and : List Int := [97, 110, 100]
def w_not : List Int := [110, 111, 116]
def w_all : List Int := [97, 108, 108]
def w_min : List Int := [109, 105, 110]
def w_max : List Int := [109, 97, 120]
def w_first : List Int := [102, 105, 114, 115, 116]
def w_last : List Int := [108, 97, 115, 116]
def w_often : List Int := [111, 102, 116, 101, 110]
def w_total : List Int := [116, 111, 116, 97, 108]
def w_most : List Int := [109, 111, 115, 116]
def w_least : List Int := [108, 101, 97, 115, 116]
def ownW : List (List Int) := [w_room, w_stair, w_to, w_wide, w_part, w_post, w_clerk, w_in, w_of, w_pace, w_bag, w_turns, w_dear, w_hears, w_signs, w_smoke, w_drill, w_minute, w_crowd, w_other, w_long, w_number, w_out, w_signed, w_meets, w_or, w_and, w_not, w_all, w_min, w_max]
def wdT : List (Nat × List Int) := [(145, w_room), (146, w_stair), (147, w_to), (148, w_wide), (149, w_part), (150, w_post), (151, w_clerk), (152, w_in), (153, w_of), (154, w_pace), (155, w_bag), (156, w_turns), (157, w_dear), (158, w_hears), (159, w_signs), (160, w_smoke), (161, w_drill), (162, w_minute), (163, w_crowd), (164, w_other), (165, w_long), (166, w_number), (167, w_out), (168, w_signed), (169, w_meets), (170, w_or), (171, w_and), (172, w_not), (173, w_all), (174, w_min), (175, w_max), (204, w_first), (205, w_last), (206, w_often), (207, w_total), (208, w_most), (209, w_least), (210, w_not), (211, w_and), (212, w_or), (213, w_all), (214, w_min), (215, w_max), (216, w_pace), (217, w_bag), (218, w_drill), (219, w_minute), (220, w_crowd), (221, w_other), (222, w_long), (223, w_number), (224, w_post), (225, w_out), (226, w_signed), (227, w_meets)]
def Wd (M : ax_M) : Prop := ∀ e ∈ wdT, ∀ i, i < e.2.length → M e.1 i = e.2.getD i 0
theorem wdT_b : ∀ e ∈ wdT, (145 ≤ e.1 ∧ e.1 < 176) ∨ (204 ≤ e.1 ∧ e.1 < 228) := by decide
def wdok (W : ax_W) : Bool := (W.1.all (fun e => Nat.ble e.2 145 || Nat.ble 176 e.1) && W.2.all (fun e => Nat.ble (e.1 + 1) 145 || Nat.ble 176 e.1)) && (W.1.all (fun e => Nat.ble e.2 204 || Nat.ble 228 e.1) && W.2.all (fun e => Nat.ble (e.1 + 1) 204 || Nat.ble 228 e.1))
theorem Wd.sb {W : ax_W} {M M1 : ax_M} (h : Wd M) (hS : Sb W M M1) (hw : wdok W = true) : Wd M1 := by
  unfold wdok at hw
  rw [Bool.and_eq_true] at hw
  intro e he i hi
  rcases wdT_b e he with z | z
  · rw [hS _ _ (wbo 145 176 hw.1 z.1 z.2)]; exact h e he i hi
  · rw [hS _ _ (wbo 204 228 hw.2 z.1 z.2)]; exact h e he i hi
theorem wa145 {M : ax_M} (h : Wd M) : ∀ i, i < w_room.length → M 145 i = w_room.getD i 0 := h (145, w_room) (by decide)
theorem wa146 {M : ax_M} (h : Wd M) : ∀ i, i < w_stair.length → M 146 i = w_stair.getD i 0 := h (146, w_stair) (by decide)
theorem wa147 {M : ax_M} (h : Wd M) : ∀ i, i < w_to.length → M 147 i = w_to.getD i 0 := h (147, w_to) (by decide)
theorem wa148 {M : ax_M} (h : Wd M) : ∀ i, i < w_wide.length → M 148 i = w_wide.getD i 0 := h (148, w_wide) (by decide)
theorem wa149 {M : ax_M} (h : Wd M) : ∀ i, i < w_part.length → M 149 i = w_part.getD i 0 := h (149, w_part) (by decide)
theorem wa150 {M : ax_M} (h : Wd M) : ∀ i, i < w_post.length → M 150 i = w_post.getD i 0 := h (150, w_post) (by decide)
theorem wa151 {M : ax_M} (h : Wd M) : ∀ i, i < w_clerk.length → M 151 i = w_clerk.getD i 0 := h (151, w_clerk) (by decide)
theorem wa152 {M : ax_M} (h : Wd M) : ∀ i, i < w_in.length → M 152 i = w_in.getD i 0 := h (152, w_in) (by decide)
theorem wa153 {M : ax_M} (h : Wd M) : ∀ i, i < w_of.length → M 153 i = w_of.getD i 0 := h (153, w_of) (by decide)
theorem wa154 {M : ax_M} (h : Wd M) : ∀ i, i < w_pace.length → M 154 i = w_pace.getD i 0 := h (154, w_pace) (by decide)
theorem wa155 {M : ax_M} (h : Wd M) : ∀ i, i < w_bag.length → M 155 i = w_bag.getD i 0 := h (155, w_bag) (by decide)
theorem wa156 {M : ax_M} (h : Wd M) : ∀ i, i < w_turns.length → M 156 i = w_turns.getD i 0 := h (156, w_turns) (by decide)
theorem wa157 {M : ax_M} (h : Wd M) : ∀ i, i < w_dear.length → M 157 i = w_dear.getD i 0 := h (157, w_dear) (by decide)
theorem wa158 {M : ax_M} (h : Wd M) : ∀ i, i < w_hears.length → M 158 i = w_hears.getD i 0 := h (158, w_hears) (by decide)
theorem wa159 {M : ax_M} (h : Wd M) : ∀ i, i < w_signs.length → M 159 i = w_signs.getD i 0 := h (159, w_signs) (by decide)
theorem wa160 {M : ax_M} (h : Wd M) : ∀ i, i < w_smoke.length → M 160 i = w_smoke.getD i 0 := h (160, w_smoke) (by decide)
theorem wa161 {M : ax_M} (h : Wd M) : ∀ i, i < w_drill.length → M 161 i = w_drill.getD i 0 := h (161, w_drill) (by decide)
theorem wa162 {M : ax_M} (h : Wd M) : ∀ i, i < w_minute.length → M 162 i = w_minute.getD i 0 := h (162, w_minute) (by decide)
theorem wa163 {M : ax_M} (h : Wd M) : ∀ i, i < w_crowd.length → M 163 i = w_crowd.getD i 0 := h (163, w_crowd) (by decide)
theorem wa164 {M : ax_M} (h : Wd M) : ∀ i, i < w_other.length → M 164 i = w_other.getD i 0 := h (164, w_other) (by decide)
theorem wa165 {M : ax_M} (h : Wd M) : ∀ i, i < w_long.length → M 165 i = w_long.getD i 0 := h (165, w_long) (by decide)
theorem wa166 {M : ax_M} (h : Wd M) : ∀ i, i < w_number.length → M 166 i = w_number.getD i 0 := h (166, w_number) (by decide)
theorem wa167 {M : ax_M} (h : Wd M) : ∀ i, i < w_out.length → M 167 i = w_out.getD i 0 := h (167, w_out) (by decide)
theorem wa168 {M : ax_M} (h : Wd M) : ∀ i, i < w_signed.length → M 168 i = w_signed.getD i 0 := h (168, w_signed) (by decide)
theorem wa169 {M : ax_M} (h : Wd M) : ∀ i, i < w_meets.length → M 169 i = w_meets.getD i 0 := h (169, w_meets) (by decide)
theorem wa170 {M : ax_M} (h : Wd M) : ∀ i, i < w_or.length → M 170 i = w_or.getD i 0 := h (170, w_or) (by decide)
theorem wa171 {M : ax_M} (h : Wd M) : ∀ i, i < w_and.length → M 171 i = w_and.getD i 0 := h (171, w_and) (by decide)
theorem wa172 {M : ax_M} (h : Wd M) : ∀ i, i < w_not.length → M 172 i = w_not.getD i 0 := h (172, w_not) (by decide)
theorem wa173 {M : ax_M} (h : Wd M) : ∀ i, i < w_all.length → M 173 i = w_all.getD i 0 := h (173, w_all) (by decide)
theorem wa174 {M : ax_M} (h : Wd M) : ∀ i, i < w_min.length → M 174 i = w_min.getD i 0 := h (174, w_min) (by decide)
theorem wa175 {M : ax_M} (h : Wd M) : ∀ i, i < w_max.length → M 175 i = w_max.getD i 0 := h (175, w_max) (by decide)
theorem wa204 {M : ax_M} (h : Wd M) : ∀ i, i < w_first.length → M 204 i = w_first.getD i 0 := h (204, w_first) (by decide)
theorem wa205 {M : ax_M} (h : Wd M) : ∀ i, i < w_last.length → M 205 i = w_last.getD i 0 := h (205, w_last) (by decide)
theorem wa206 {M : ax_M} (h : Wd M) : ∀ i, i < w_often.length → M 206 i = w_often.getD i 0 := h (206, w_often) (by decide)
theorem wa207 {M : ax_M} (h : Wd M) : ∀ i, i < w_total.length → M 207 i = w_total.getD i 0 := h (207, w_total) (by decide)
theorem wa208 {M : ax_M} (h : Wd M) : ∀ i, i < w_most.length → M 208 i = w_most.getD i 0 := h (208, w_most) (by decide)
theorem wa209 {M : ax_M} (h : Wd M) : ∀ i, i < w_least.length → M 209 i = w_least.getD i 0 := h (209, w_least) (by decide)
theorem wa210 {M : ax_M} (h : Wd M) : ∀ i, i < w_not.length → M 210 i = w_not.getD i 0 := h (210, w_not) (by decide)
theorem wa211 {M : ax_M} (h : Wd M) : ∀ i, i < w_and.length → M 211 i = w_and.getD i 0 := h (211, w_and) (by decide)
theorem wa212 {M : ax_M} (h : Wd M) : ∀ i, i < w_or.length → M 212 i = w_or.getD i 0 := h (212, w_or) (by decide)
theorem wa213 {M : ax_M} (h : Wd M) : ∀ i, i < w_all.length → M 213 i = w_all.getD i 0 := h (213, w_all) (by decide)
theorem wa214 {M : ax_M} (h : Wd M) : ∀ i, i < w_min.length → M 214 i = w_min.getD i 0 := h (214, w_min) (by decide)
theorem wa215 {M : ax_M} (h : Wd M) : ∀ i, i < w_max.length → M 215 i = w_max.getD i 0 := h (215, w_max) (by decide)
theorem wa216 {M : ax_M} (h : Wd M) : ∀ i, i < w_pace.length → M 216 i = w_pace.getD i 0 := h (216, w_pace) (by decide)
theorem wa217 {M : ax_M} (h : Wd M) : ∀ i, i < w_bag.length → M 217 i = w_bag.getD i 0 := h (217, w_bag) (by decide)
theorem wa218 {M : ax_M} (h : Wd M) : ∀ i, i < w_drill.length → M 218 i = w_drill.getD i 0 := h (218, w_drill) (by decide)
theorem wa219 {M : ax_M} (h : Wd M) : ∀ i, i < w_minute.length → M 219 i = w_minute.getD i 0 := h (219, w_minute) (by decide)
theorem wa220 {M : ax_M} (h : Wd M) : ∀ i, i < w_crowd.length → M 220 i = w_crowd.getD i 0 := h (220, w_crowd) (by decide)
theorem wa221 {M : ax_M} (h : Wd M) : ∀ i, i < w_other.length → M 221 i = w_other.getD i 0 := h (221, w_other) (by decide)
theorem wa222 {M : ax_M} (h : Wd M) : ∀ i, i < w_long.length → M 222 i = w_long.getD i 0 := h (222, w_long) (by decide)
theorem wa223 {M : ax_M} (h : Wd M) : ∀ i, i < w_number.length → M 223 i = w_number.getD i 0 := h (223, w_number) (by decide)
theorem wa224 {M : ax_M} (h : Wd M) : ∀ i, i < w_post.length → M 224 i = w_post.getD i 0 := h (224, w_post) (by decide)
theorem wa225 {M : ax_M} (h : Wd M) : ∀ i, i < w_out.length → M 225 i = w_out.getD i 0 := h (225, w_out) (by decide)
theorem wa226 {M : ax_M} (h : Wd M) : ∀ i, i < w_signed.length → M 226 i = w_signed.getD i 0 := h (226, w_signed) (by decide)
theorem wa227 {M : ax_M} (h : Wd M) : ∀ i, i < w_meets.length → M 227 i = w_meets.getD i 0 := h (227, w_meets) (by decide)
theorem tb12 : ax_by ((-12 : Int) - 1) = w_room ++ tlW [w_stair, w_part, w_clerk, w_turns, w_dear, w_hears, w_signs, w_smoke] := by decide +kernel
theorem tbn12 : (∀ x ∈ w_room, x ≠ 32) ∧ ∀ v ∈ ([w_stair, w_part, w_clerk, w_turns, w_dear, w_hears, w_signs, w_smoke] : List (List Int)), ∀ x ∈ v, x ≠ 32 := by decide
theorem ts12 : ax_isS (-12) = true := by decide +kernel
theorem tb14 : ax_by ((-14 : Int) - 1) = w_room ++ tlW [w_stair, w_to, w_wide, w_part, w_post, w_clerk, w_in, w_of, w_pace, w_bag, w_turns, w_dear, w_hears, w_signs, w_smoke, w_drill, w_minute, w_crowd, w_other, w_long, w_number, w_out, w_signed, w_meets, w_or, w_and, w_not, w_all, w_min, w_max] := by decide +kernel
theorem tbn14 : (∀ x ∈ w_room, x ≠ 32) ∧ ∀ v ∈ ([w_stair, w_to, w_wide, w_part, w_post, w_clerk, w_in, w_of, w_pace, w_bag, w_turns, w_dear, w_hears, w_signs, w_smoke, w_drill, w_minute, w_crowd, w_other, w_long, w_number, w_out, w_signed, w_meets, w_or, w_and, w_not, w_all, w_min, w_max] : List (List Int)), ∀ x ∈ v, x ≠ 32 := by decide
theorem ts14 : ax_isS (-14) = true := by decide +kernel
theorem tb16 : ax_by ((-16 : Int) - 1) = w_to ++ tlW [] := by decide +kernel
theorem tbn16 : (∀ x ∈ w_to, x ≠ 32) ∧ ∀ v ∈ ([] : List (List Int)), ∀ x ∈ v, x ≠ 32 := by decide
theorem ts16 : ax_isS (-16) = true := by decide +kernel
theorem tb18 : ax_by ((-18 : Int) - 1) = w_wide ++ tlW [] := by decide +kernel
theorem tbn18 : (∀ x ∈ w_wide, x ≠ 32) ∧ ∀ v ∈ ([] : List (List Int)), ∀ x ∈ v, x ≠ 32 := by decide
theorem ts18 : ax_isS (-18) = true := by decide +kernel
theorem tb20 : ax_by ((-20 : Int) - 1) = w_post ++ tlW [] := by decide +kernel
theorem tbn20 : (∀ x ∈ w_post, x ≠ 32) ∧ ∀ v ∈ ([] : List (List Int)), ∀ x ∈ v, x ≠ 32 := by decide
theorem ts20 : ax_isS (-20) = true := by decide +kernel
theorem tb22 : ax_by ((-22 : Int) - 1) = w_in ++ tlW [] := by decide +kernel
theorem tbn22 : (∀ x ∈ w_in, x ≠ 32) ∧ ∀ v ∈ ([] : List (List Int)), ∀ x ∈ v, x ≠ 32 := by decide
theorem ts22 : ax_isS (-22) = true := by decide +kernel
theorem tb24 : ax_by ((-24 : Int) - 1) = w_of ++ tlW [] := by decide +kernel
theorem tbn24 : (∀ x ∈ w_of, x ≠ 32) ∧ ∀ v ∈ ([] : List (List Int)), ∀ x ∈ v, x ≠ 32 := by decide
theorem ts24 : ax_isS (-24) = true := by decide +kernel
theorem tb26 : ax_by ((-26 : Int) - 1) = w_pace ++ tlW [] := by decide +kernel
theorem tbn26 : (∀ x ∈ w_pace, x ≠ 32) ∧ ∀ v ∈ ([] : List (List Int)), ∀ x ∈ v, x ≠ 32 := by decide
theorem ts26 : ax_isS (-26) = true := by decide +kernel
theorem tb28 : ax_by ((-28 : Int) - 1) = w_bag ++ tlW [] := by decide +kernel
theorem tbn28 : (∀ x ∈ w_bag, x ≠ 32) ∧ ∀ v ∈ ([] : List (List Int)), ∀ x ∈ v, x ≠ 32 := by decide
theorem ts28 : ax_isS (-28) = true := by decide +kernel
theorem tb30 : ax_by ((-30 : Int) - 1) = w_pace ++ tlW [w_bag, w_drill, w_minute, w_crowd] := by decide +kernel
theorem tbn30 : (∀ x ∈ w_pace, x ≠ 32) ∧ ∀ v ∈ ([w_bag, w_drill, w_minute, w_crowd] : List (List Int)), ∀ x ∈ v, x ≠ 32 := by decide
theorem ts30 : ax_isS (-30) = true := by decide +kernel
theorem tb32 : ax_by ((-32 : Int) - 1) = w_not ++ tlW [] := by decide +kernel
theorem tbn32 : (∀ x ∈ w_not, x ≠ 32) ∧ ∀ v ∈ ([] : List (List Int)), ∀ x ∈ v, x ≠ 32 := by decide
theorem ts32 : ax_isS (-32) = true := by decide +kernel
theorem tb34 : ax_by ((-34 : Int) - 1) = w_all ++ tlW [] := by decide +kernel
theorem tbn34 : (∀ x ∈ w_all, x ≠ 32) ∧ ∀ v ∈ ([] : List (List Int)), ∀ x ∈ v, x ≠ 32 := by decide
theorem ts34 : ax_isS (-34) = true := by decide +kernel
theorem tb36 : ax_by ((-36 : Int) - 1) = w_min ++ tlW [] := by decide +kernel
theorem tbn36 : (∀ x ∈ w_min, x ≠ 32) ∧ ∀ v ∈ ([] : List (List Int)), ∀ x ∈ v, x ≠ 32 := by decide
theorem ts36 : ax_isS (-36) = true := by decide +kernel
theorem tb38 : ax_by ((-38 : Int) - 1) = w_max ++ tlW [] := by decide +kernel
theorem tbn38 : (∀ x ∈ w_max, x ≠ 32) ∧ ∀ v ∈ ([] : List (List Int)), ∀ x ∈ v, x ≠ 32 := by decide
theorem ts38 : ax_isS (-38) = true := by decide +kernel
theorem tb40 : ax_by ((-40 : Int) - 1) = w_meets ++ tlW [] := by decide +kernel
theorem tbn40 : (∀ x ∈ w_meets, x ≠ 32) ∧ ∀ v ∈ ([] : List (List Int)), ∀ x ∈ v, x ≠ 32 := by decide
theorem ts40 : ax_isS (-40) = true := by decide +kernel
theorem tb42 : ax_by ((-42 : Int) - 1) = w_and ++ tlW [] := by decide +kernel
theorem tbn42 : (∀ x ∈ w_and, x ≠ 32) ∧ ∀ v ∈ ([] : List (List Int)), ∀ x ∈ v, x ≠ 32 := by decide
theorem ts42 : ax_isS (-42) = true := by decide +kernel
theorem tb44 : ax_by ((-44 : Int) - 1) = w_or ++ tlW [] := by decide +kernel
theorem tbn44 : (∀ x ∈ w_or, x ≠ 32) ∧ ∀ v ∈ ([] : List (List Int)), ∀ x ∈ v, x ≠ 32 := by decide
theorem ts44 : ax_isS (-44) = true := by decide +kernel
theorem tb46 : ax_by ((-46 : Int) - 1) = w_pace ++ tlW [w_bag, w_drill, w_other, w_long] := by decide +kernel
theorem tbn46 : (∀ x ∈ w_pace, x ≠ 32) ∧ ∀ v ∈ ([w_bag, w_drill, w_other, w_long] : List (List Int)), ∀ x ∈ v, x ≠ 32 := by decide
theorem ts46 : ax_isS (-46) = true := by decide +kernel
theorem tb48 : ax_by ((-48 : Int) - 1) = w_pace ++ tlW [w_bag, w_drill, w_number, w_post, w_out, w_signed] := by decide +kernel
theorem tbn48 : (∀ x ∈ w_pace, x ≠ 32) ∧ ∀ v ∈ ([w_bag, w_drill, w_number, w_post, w_out, w_signed] : List (List Int)), ∀ x ∈ v, x ≠ 32 := by decide
theorem ts48 : ax_isS (-48) = true := by decide +kernel
theorem tb50 : ax_by ((-50 : Int) - 1) = w_first ++ tlW [w_last, w_often, w_total, w_most, w_least] := by decide +kernel
theorem tbn50 : (∀ x ∈ w_first, x ≠ 32) ∧ ∀ v ∈ ([w_last, w_often, w_total, w_most, w_least] : List (List Int)), ∀ x ∈ v, x ≠ 32 := by decide
theorem ts50 : ax_isS (-50) = true := by decide +kernel
abbrev FR : Type := Option (Int × Int)
def wdR (T : Nat → Int) (n : Nat) (q : PS) (w : List Int) : FR := if isW T n q w = true then none else some (1, (q.1 : Int))
def sgR (T : Nat → Int) (n : Nat) (q : PS) (c : Int) : FR := if isG T n q c = true then none else some (1, (q.1 : Int))
def nuV (T : Nat → Int) (n : Nat) (q : PS) : Int := nv T q.1 (af T n q - q.1)
def nuR (T : Nat → Int) (n : Nat) (q : PS) (lo hi : Int) : FR := if ¬ kd T n q = 2 then some (1, (q.1 : Int)) else if 4 < af T n q - q.1 then some (1, ((q.1 + 4 : Nat) : Int)) else if lo ≤ nuV T n q ∧ nuV T n q ≤ hi then none else some (2, (q.1 : Int))
def naR (T : Nat → Int) (n : Nat) (q : PS) : FR := if ¬ kd T n q = 1 then some (1, (q.1 : Int)) else if 6 < af T n q - q.1 then some (1, ((q.1 + 6 : Nat) : Int)) else if fnd T n q 0 ownW = -1 then none else some (1, (q.1 : Int))
def naL (T : Nat → Int) (q : PS) (i : Nat) : Nat := (T (q.1 + i) - 96).toNat
def nc (f : Nat → Nat) : Nat → Nat
  | 0 => 0
  | n + 1 => nc f n + f n * 2 ^ (5 * n)
def nr (f : Nat → Nat) : Nat → Nat
  | 0 => 0
  | n + 1 => 27 * nr f n + f n
def CR (T : Nat → Int) (n : Nat) (r : FR) (q : PS) (E : ax_M → Prop) (x : Int) (M : ax_M) : Prop := (∃ f p, r = some (f, p) ∧ x = 0 ∧ CF f p M) ∨ (r = none ∧ x = 1 ∧ CT T n q M ∧ E M)
section CRS
variable {L : Nat} {X : Nat → Int} {M : ax_M} {T : Nat → Int} {n : Nat} {q : PS}
theorem m95r (hF : Fix M) (hn : n ≤ 1600) (hq : CT T n q M) (hqn : q.1 ≤ n) {a : Int} (ha : ax_isS a = true) {w : List Int} (hb : ax_by (a - 1) = w) (hw0 : ∀ x ∈ w, x ≠ 32) : ax_Ev L X SH 5 95 [(2, 1), (2, a)] M (R1 0 (fun x M' => Sb WNU M M' ∧ CR T n (wdR T n q w) (nx T n q) (fun _ => True) x M')) := by
  refine (m95 hF hn hq hqn ha hb hw0).imp (fun r M' hp => ?_)
  obtain ⟨x, e, hp⟩ := hp
  refine ⟨x, e, ?_⟩
  unfold CR wdR
  rcases hp with ⟨h1, h2, h3, h4⟩ | ⟨h1, h2, h3, h4⟩
  · rw [if_pos h1]; exact ⟨h3.mono rfl, Or.inr ⟨rfl, h2, h4, trivial⟩⟩
  · rw [if_neg (by rw [h1]; decide)]; exact ⟨h3.mono rfl, Or.inl ⟨_, _, rfl, h2, h4⟩⟩
theorem m96r (hF : Fix M) (hn : n ≤ 1600) (hq : CT T n q M) (hqn : q.1 ≤ n) {c : Int} : ax_Ev L X SH 2 96 [(2, 1), (0, c)] M (R1 0 (fun x M' => Sb WNU M M' ∧ CR T n (sgR T n q c) (nx T n q) (fun _ => True) x M')) := by
  refine (m96 hF hn hq hqn).imp (fun r M' hp => ?_)
  obtain ⟨x, e, hp⟩ := hp
  refine ⟨x, e, ?_⟩
  unfold CR sgR
  rcases hp with ⟨h1, h2, h3, h4⟩ | ⟨h1, h2, h3, h4⟩
  · rw [if_pos h1]; exact ⟨h3.mono rfl, Or.inr ⟨rfl, h2, h4, trivial⟩⟩
  · rw [if_neg (by rw [h1]; decide)]; exact ⟨h3.mono rfl, Or.inl ⟨_, _, rfl, h2, h4⟩⟩
theorem m97r (hF : Fix M) (hn : n ≤ 1600) (hq : CT T n q M) (hqn : q.1 ≤ n) {lo hi : Int} : ax_Ev L X SH 2 97 [(2, 1), (0, lo), (0, hi)] M (R1 0 (fun x M' => Sb WNU M M' ∧ CR T n (nuR T n q lo hi) (nx T n q) (fun M' => M' 1 6 = nuV T n q) x M')) := by
  refine (m97 hF hn hq hqn).imp (fun r M' hp => ?_)
  obtain ⟨x, e, hp0, hp⟩ := hp
  refine ⟨x, e, hp0, ?_⟩
  unfold CR nuR
  rcases hp with ⟨h1, h2, h3⟩ | ⟨h1, h2, h3, h4⟩ | ⟨h1, h2, h3, h4, h5⟩ | ⟨h1, h2, h3, h4, h5⟩
  · rw [if_pos h1]; exact Or.inl ⟨_, _, rfl, h2, h3⟩
  · rw [if_neg (fun z => z h1), if_pos h2]; exact Or.inl ⟨_, _, rfl, h3, h4⟩
  · rw [if_neg (fun z => z h1), if_neg (by omega), if_neg (show ¬ (lo ≤ nuV T n q ∧ nuV T n q ≤ hi) from h3)]; exact Or.inl ⟨_, _, rfl, h4, h5⟩
  · rw [if_neg (fun z => z h1), if_neg (by omega), if_pos (show lo ≤ nuV T n q ∧ nuV T n q ≤ hi from h3)]; exact Or.inr ⟨rfl, h4, h5⟩
theorem nc_lt {f : Nat → Nat} : ∀ m, (∀ i, i < m → 1 ≤ f i ∧ f i ≤ 26) → nc f m < 2 ^ (5 * m) := by
  intro m
  induction m with
  | zero => intro _; exact Nat.one_pos
  | succ m ih =>
    intro h
    have e : nc f (m + 1) = nc f m + f m * 2 ^ (5 * m) := rfl
    have h1 := ih (fun i hi => h i (by omega))
    have h2 := h m (by omega)
    have e2 : 2 ^ (5 * (m + 1)) = 32 * 2 ^ (5 * m) := by rw [show 5 * (m + 1) = 5 * m + 5 by omega, Nat.pow_add]; omega
    have h3 : f m * 2 ^ (5 * m) ≤ 26 * 2 ^ (5 * m) := Nat.mul_le_mul_right _ h2.2
    rw [e, e2]; omega
theorem naL_b (h : kd T n q = 1) : ∀ i, i < af T n q - q.1 → 1 ≤ naL T q i ∧ naL T q i ≤ 26 ∧ T (q.1 + i) = (naL T q i : Int) + 96 := by
  intro i hi
  have h2 := (kd_1 h).2.2.2.2
  have h3 := of_decide_eq_true (rn_in (p := isLb) (T := T) (i := q.1) (k := q.1 + i) (n := n) (by omega) (by omega))
  unfold naL; omega
theorem m98 (hF : Fix M) (hn : n ≤ 1600) (hq : CT T n q M) (hqn : q.1 ≤ n) : ax_Ev L X SH 5 98 [(2, 1)] M (R1 0 (fun x M' => Sb WNA M M' ∧ CR T n (naR T n q) (nx T n q) (fun M' => M' 1 7 = (nc (naL T q) (af T n q - q.1) : Int) ∧ M' 1 5 = (q.1 : Int)) x M')) := by
  show ax_G L X SH 5 98 0 [(2, 1), (3, 0)] [] M _
  obtain ⟨P, hP⟩ : ∃ P, P = fun (x : Int) (M' : ax_M) => Sb WNA M M' ∧ CR T n (naR T n q) (nx T n q) (fun M' => M' 1 7 = (nc (naL T q) (af T n q - q.1) : Int) ∧ M' 1 5 = (q.1 : Int)) x M' := ⟨_, rfl⟩
  rw [← hP]
  have hC := at98
  have hw : wok WNA = true := by decide +kernel
  have hS : Sb WNA M M := Sb.refl
  have hab := af_b (T := T) hqn
  have hlt := fun h : kd T n q = 1 => naL_b (T := T) (n := n) (q := q) h
  obtain ⟨m, hm⟩ : ∃ m, m = af T n q - q.1 := ⟨_, rfl⟩
  rw [← hm] at hP hlt
  have e0 : naR T n q = if ¬ kd T n q = 1 then some (1, (q.1 : Int)) else if 6 < m then some (1, ((q.1 + 6 : Nat) : Int)) else if fnd T n q 0 ownW = -1 then none else some (1, (q.1 : Int)) := by rw [hm]; rfl
  have c92 : ax_Ev L X SH 4 92 [(2, 1), (2, -14)] M (R1 0 (fun x M' => x = fnd T n q 0 ownW ∧ M' = M)) := m92 hF hn hq hqn ts14 tb14 tbn14.1 tbn14.2
  have l1 : kd T n q = 1 → m ≤ 6 → fnd T n q 0 ownW = -1 → ∀ (mm i : Nat), i + mm = m → ∀ ll M2, (ll = [(2, 1), (0, ((q.1 + i : Nat) : Int))] ∧ Sb WNA M M2 ∧ CT T n q M2 ∧ M2 1 7 = (nc (naL T q) i : Int)) → ax_G L X SH 5 98 42 ll [] M2 (R1 0 P) := by
    intro hk hm6 hno
    refine lp ?_ ?_
    · rintro ll M2 ⟨rfl, hS, hq2, e7⟩
      rw [show q.1 + m = af T n q by omega]
      have hq3 : CT T n q (ax_up M2 1 5 (q.1 : Int)) := ⟨(ax_up_of (by decide)).trans hq2.1, (ax_up_of (by decide)).trans hq2.2.1, (ax_up_of (by decide)).trans hq2.2.2.1, (ax_up_of (by decide)).trans hq2.2.2.2.1, fun k hk2 => (ax_up2n (by decide)).trans (hq2.2.2.2.2.1 k hk2), (ax_up_of (by decide)).trans hq2.2.2.2.2.2.1, (ax_up_of (by decide)).trans hq2.2.2.2.2.2.2⟩
      refine g3 hC rfl rfl ?_
      refine g3 hC rfl rfl ?_
      refine g19 hC rfl rfl (Nat.le_of_ble_eq_true rfl) rfl hq2.2.2.2.1 ?_
      refine g13g hC rfl (fun h45 => ?_) (fun h45 => (by omega))
      refine g3 hC rfl rfl ?_
      refine g3 hC rfl rfl ?_
      refine g19 hC rfl rfl (Nat.le_of_ble_eq_true rfl) rfl hq2.2.2.1 ?_
      refine g20s hC rfl rfl (Nat.le_of_ble_eq_true rfl) rfl hS rfl (fun hS => ?_)
      refine g3 hC rfl rfl ?_
      refine c0 hC rfl rfl rfl (Nat.le_of_ble_eq_true rfl) (Nat.le_of_ble_eq_true rfl) rfl (m90q (hS.fix hw hF) hn hq3 hqn) (Nat.le_of_ble_eq_true rfl) (fun M2 hr => ?_)
      obtain ⟨hS1, hc⟩ := hr; have hS := hS.then hS1 rfl
      refine g0 hC rfl ?_
      refine ret3 hC rfl ⟨by omega, by omega⟩ ?_
      rw [hP]
      refine ⟨hS, Or.inr ⟨?_, rfl, hc, (hS1 1 7 rfl).trans ((ax_up_of (by decide)).trans e7), (hS1 1 5 rfl).trans ax_up_at⟩⟩
      rw [e0, if_neg (fun z => z hk), if_neg (by omega), if_pos hno]
    · rintro i hi ll M2 ⟨rfl, hS, hq2, e7⟩ hnext
      have hb := nc_lt (f := naL T q) i (fun k hk2 => ⟨(hlt hk k (by omega)).1, (hlt hk k (by omega)).2.1⟩)
      have hl := hlt hk i (by omega)
      have hp : (2 : Nat) ^ (5 * i) ≤ 2 ^ 25 := Nat.pow_le_pow_right (by decide) (by omega)
      have hp2 : (2 : Nat) ^ 25 = 33554432 := by decide
      have es : naL T q i <<< (5 * i) = naL T q i * 2 ^ (5 * i) := Nat.shiftLeft_eq _ _
      have hmul : naL T q i * 2 ^ (5 * i) ≤ 26 * 2 ^ (5 * i) := Nat.mul_le_mul_right _ hl.2.1
      have eo : (nc (naL T q) i) ||| (naL T q i <<< (5 * i)) = nc (naL T q) (i + 1) := by
        have h := Nat.shiftLeft_add_eq_or_of_lt hb (naL T q i)
        rw [Nat.or_comm, ← h, es]
        show _ = nc (naL T q) i + naL T q i * 2 ^ (5 * i)
        omega
      refine g3 hC rfl rfl ?_
      refine g3 hC rfl rfl ?_
      refine g19 hC rfl rfl (Nat.le_of_ble_eq_true rfl) rfl hq2.2.2.2.1 ?_
      refine g13g hC rfl (fun h45 => (by omega)) (fun h45 => ?_)
      refine g3 hC rfl rfl ?_
      refine g16 hC rfl (by decide) ?_
      refine g19 hC rfl rfl (Nat.le_of_ble_eq_true rfl) rfl e7 ?_
      refine g3 hC rfl rfl ?_
      refine g19 hC rfl rfl (Nat.le_of_ble_eq_true rfl) rfl ((hS.fix hw hF).g rfl) ?_
      refine g3 hC rfl rfl ?_
      refine r21 (q.1 + i) hC rfl rfl rfl (Or.inl rfl) (by omega) (hq2.2.2.2.2.1 _ (by omega)) ?_
      refine g0 hC rfl ?_
      refine g6s hC rfl ⟨by omega, by omega⟩ ?_
      refine g0 hC rfl ?_
      refine g6a hC rfl ⟨by omega, by omega⟩ ?_
      refine g0 hC rfl ?_
      refine g3 hC rfl rfl ?_
      refine g3 hC rfl rfl ?_
      refine g19 hC rfl rfl (Nat.le_of_ble_eq_true rfl) rfl hq2.2.2.1 ?_
      refine g6s hC rfl ⟨by omega, by omega⟩ ?_
      refine g6m hC rfl ⟨by omega, by omega⟩ ?_
      rw [show T (q.1 + i) - 97 + 1 = (naL T q i : Int) by omega, show (5 : Int) * (((q.1 + i : Nat) : Int) - (q.1 : Int)) = ((5 * i : Nat) : Int) by omega]
      refine g6 hC rfl (congrArg some (shlN (a := naL T q i) (k := 5 * i) (by omega) (by omega))) ?_
      refine g6 hC rfl (congrArg some (orN (a := nc (naL T q) i) (b := naL T q i <<< (5 * i)) (by omega) (by omega))) ?_
      refine g20s hC rfl rfl (Nat.le_of_ble_eq_true rfl) rfl hS rfl (fun hS => ?_)
      refine n1 hC rfl rfl ⟨by omega, by omega⟩ ?_
      refine g14 hC rfl ?_
      refine hnext _ _ ⟨by rw [show ((q.1 + i : Nat) : Int) + 1 = ((q.1 + (i + 1) : Nat) : Int) by omega], hS, ?_, by rw [ax_up_at, eo]⟩
      exact ⟨(ax_up_of (by decide)).trans hq2.1, (ax_up_of (by decide)).trans hq2.2.1, (ax_up_of (by decide)).trans hq2.2.2.1, (ax_up_of (by decide)).trans hq2.2.2.2.1, fun k hk2 => (ax_up2n (by decide)).trans (hq2.2.2.2.2.1 k hk2), (ax_up_of (by decide)).trans hq2.2.2.2.2.2.1, (ax_up_of (by decide)).trans hq2.2.2.2.2.2.2⟩
  refine g3 hC rfl rfl ?_
  refine g19 hC rfl rfl (Nat.le_of_ble_eq_true rfl) rfl hq.2.1 ?_
  refine g0 hC rfl ?_
  refine g13e hC rfl (fun h3 => ?_) (fun h3 => ?_)
  ·
    refine g3 hC rfl rfl ?_
    refine g19 hC rfl rfl (Nat.le_of_ble_eq_true rfl) rfl hq.2.2.2.1 ?_
    refine g3 hC rfl rfl ?_
    refine g19 hC rfl rfl (Nat.le_of_ble_eq_true rfl) rfl hq.2.2.1 ?_
    refine g6s hC rfl ⟨by omega, by omega⟩ ?_
    refine g0 hC rfl ?_
    refine g13s hC rfl (fun h16 => ?_) (fun h16 => ?_)
    ·
      refine g3 hC rfl rfl ?_
      refine g2 hC rfl ?_
      refine c1 hC rfl rfl rfl (Nat.le_of_ble_eq_true rfl) (Nat.le_of_ble_eq_true rfl) rfl c92 (Nat.le_of_ble_eq_true rfl) (fun x M2 hr => ?_)
      obtain ⟨hx, hr⟩ := hr; replace hr := hr.symm; subst hr
      refine g0 hC rfl ?_
      refine g13e hC rfl (fun h29 => ?_) (fun h29 => ?_)
      ·
        refine g3 hC rfl rfl ?_
        refine g0 hC rfl ?_
        refine g20s hC rfl rfl (Nat.le_of_ble_eq_true rfl) rfl hS rfl (fun hS => ?_)
        refine g3 hC rfl rfl ?_
        refine g19 hC rfl rfl (Nat.le_of_ble_eq_true rfl) rfl ((ax_up_of (by decide)).trans hq.2.2.1) ?_
        refine s1 hC rfl rfl rfl ?_
        refine l1 (by omega) (by omega) (by rw [← hx]; exact h29) m 0 (Nat.zero_add _) _ _ ⟨rfl, hS, ?_, ax_up_at⟩
        exact ⟨(ax_up_of (by decide)).trans hq.1, (ax_up_of (by decide)).trans hq.2.1, (ax_up_of (by decide)).trans hq.2.2.1, (ax_up_of (by decide)).trans hq.2.2.2.1, fun k hk2 => (ax_up2n (by decide)).trans (hq.2.2.2.2.1 k hk2), (ax_up_of (by decide)).trans hq.2.2.2.2.2.1, (ax_up_of (by decide)).trans hq.2.2.2.2.2.2⟩
      ·
        refine g3 hC rfl rfl ?_
        refine g0 hC rfl ?_
        refine g3 hC rfl rfl ?_
        refine g19 hC rfl rfl (Nat.le_of_ble_eq_true rfl) rfl hq.2.2.1 ?_
        refine c1 hC rfl rfl rfl (Nat.le_of_ble_eq_true rfl) (Nat.le_of_ble_eq_true rfl) rfl (m89) (Nat.le_of_ble_eq_true rfl) (fun x M2 hr => ?_)
        obtain ⟨rfl, hr⟩ := hr; replace hr := hr.symm; subst hr
        refine ret3 hC rfl ⟨by omega, by omega⟩ ?_
        rw [hP]
        refine ⟨(Sb.refl.up rfl).up rfl, Or.inl ⟨1, _, ?_, rfl, CF.up⟩⟩
        rw [e0, if_neg (fun z => z (by omega)), if_neg (by omega), if_neg (fun z => h29 (hx.trans z))]
    ·
      refine g3 hC rfl rfl ?_
      refine g0 hC rfl ?_
      refine g3 hC rfl rfl ?_
      refine g19 hC rfl rfl (Nat.le_of_ble_eq_true rfl) rfl hq.2.2.1 ?_
      refine g0 hC rfl ?_
      refine g6a hC rfl ⟨by omega, by omega⟩ ?_
      refine c1 hC rfl rfl rfl (Nat.le_of_ble_eq_true rfl) (Nat.le_of_ble_eq_true rfl) rfl (m89) (Nat.le_of_ble_eq_true rfl) (fun x M2 hr => ?_)
      obtain ⟨rfl, hr⟩ := hr; replace hr := hr.symm; subst hr
      refine ret3 hC rfl ⟨by omega, by omega⟩ ?_
      rw [hP]
      refine ⟨(Sb.refl.up rfl).up rfl, Or.inl ⟨1, _, ?_, rfl, CF.up⟩⟩
      rw [e0, if_neg (fun z => z (by omega)), if_pos (by omega), show ((q.1 : Int)) + 6 = ((q.1 + 6 : Nat) : Int) by omega]
  ·
    refine g3 hC rfl rfl ?_
    refine g0 hC rfl ?_
    refine g3 hC rfl rfl ?_
    refine g19 hC rfl rfl (Nat.le_of_ble_eq_true rfl) rfl hq.2.2.1 ?_
    refine c1 hC rfl rfl rfl (Nat.le_of_ble_eq_true rfl) (Nat.le_of_ble_eq_true rfl) rfl (m89) (Nat.le_of_ble_eq_true rfl) (fun x M2 hr => ?_)
    obtain ⟨rfl, hr⟩ := hr; replace hr := hr.symm; subst hr
    refine ret3 hC rfl ⟨by omega, by omega⟩ ?_
    rw [hP]
    refine ⟨(Sb.refl.up rfl).up rfl, Or.inl ⟨1, _, ?_, rfl, CF.up⟩⟩
    rw [e0, if_pos (by omega)]
end CRS
end
