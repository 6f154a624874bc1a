section
-- ===== PART A: goes FIRST, ahead of the names: the tables' words, and 'selects' of the private methods out of them =====
/-- a private method of a class that the tables say can be made, by its rows of tables_1 -/
def lw_okq (q : MethodName × Nat) : Prop := (q.1.cls ≠ "java/lang/invoke/MethodHandle" ∧ q.1.cls ≠ "java/lang/invoke/VarHandle") ∧ Cond.instantiable q.1.cls q.2 ∈ tables_1 ∧ Cond.privateMethod q.1 ∈ tables_1 ∧ Cond.instanceMethod q.1 ∈ tables_1
theorem lw_p0 : lw_okq (⟨"KitchenDrift$House", "engage", "(IIII)V"⟩, 12) := ⟨⟨by decide +kernel, by decide +kernel⟩, List.mem_of_getElem? (i := 24) (by decide +kernel), List.mem_of_getElem? (i := 342) (by decide +kernel), List.mem_of_getElem? (i := 343) (by decide +kernel)⟩
theorem lw_p1 : lw_okq (⟨"KitchenDrift$Pad", "follow", "(III)I"⟩, 2) := ⟨⟨by decide +kernel, by decide +kernel⟩, List.mem_of_getElem? (i := 91) (by decide +kernel), List.mem_of_getElem? (i := 376) (by decide +kernel), List.mem_of_getElem? (i := 377) (by decide +kernel)⟩
theorem lw_p2 : lw_okq (⟨"KitchenDrift$Drift", "readyTastes", "(I)V"⟩, 5) := ⟨⟨by decide +kernel, by decide +kernel⟩, List.mem_of_getElem? (i := 107) (by decide +kernel), List.mem_of_getElem? (i := 422) (by decide +kernel), List.mem_of_getElem? (i := 423) (by decide +kernel)⟩
theorem lw_p3 : lw_okq (⟨"KitchenDrift$Drift", "readyJam", "(I)V"⟩, 5) := ⟨⟨by decide +kernel, by decide +kernel⟩, List.mem_of_getElem? (i := 107) (by decide +kernel), List.mem_of_getElem? (i := 430) (by decide +kernel), List.mem_of_getElem? (i := 431) (by decide +kernel)⟩
theorem lw_p4 : lw_okq (⟨"KitchenDrift$Drift", "moves", "(I)Z"⟩, 5) := ⟨⟨by decide +kernel, by decide +kernel⟩, List.mem_of_getElem? (i := 107) (by decide +kernel), List.mem_of_getElem? (i := 445) (by decide +kernel), List.mem_of_getElem? (i := 446) (by decide +kernel)⟩
theorem lw_p5 : lw_okq (⟨"KitchenDrift", "playsOut", "()Z"⟩, 11) := ⟨⟨by decide +kernel, by decide +kernel⟩, List.mem_of_getElem? (i := 16) (by decide +kernel), List.mem_of_getElem? (i := 512) (by decide +kernel), List.mem_of_getElem? (i := 513) (by decide +kernel)⟩
theorem lw_p6 : lw_okq (⟨"KitchenDrift", "firstStill", "()I"⟩, 11) := ⟨⟨by decide +kernel, by decide +kernel⟩, List.mem_of_getElem? (i := 16) (by decide +kernel), List.mem_of_getElem? (i := 571) (by decide +kernel), List.mem_of_getElem? (i := 572) (by decide +kernel)⟩
theorem lw_p7 : lw_okq (⟨"KitchenDrift", "fullestBehind", "(I)I"⟩, 11) := ⟨⟨by decide +kernel, by decide +kernel⟩, List.mem_of_getElem? (i := 16) (by decide +kernel), List.mem_of_getElem? (i := 601) (by decide +kernel), List.mem_of_getElem? (i := 602) (by decide +kernel)⟩
theorem lw_p8 : lw_okq (⟨"KitchenDrift", "fullestCarrying", "(IIII)I"⟩, 11) := ⟨⟨by decide +kernel, by decide +kernel⟩, List.mem_of_getElem? (i := 16) (by decide +kernel), List.mem_of_getElem? (i := 606) (by decide +kernel), List.mem_of_getElem? (i := 607) (by decide +kernel)⟩
theorem lw_p9 : lw_okq (⟨"KitchenDrift", "fullestUnhinged", "(III)I"⟩, 11) := ⟨⟨by decide +kernel, by decide +kernel⟩, List.mem_of_getElem? (i := 16) (by decide +kernel), List.mem_of_getElem? (i := 616) (by decide +kernel), List.mem_of_getElem? (i := 617) (by decide +kernel)⟩
theorem lw_p10 : lw_okq (⟨"KitchenDrift$Rest", "enlist", "(LKitchenDrift$House;I)V"⟩, 11) := ⟨⟨by decide +kernel, by decide +kernel⟩, List.mem_of_getElem? (i := 149) (by decide +kernel), List.mem_of_getElem? (i := 640) (by decide +kernel), List.mem_of_getElem? (i := 641) (by decide +kernel)⟩
theorem lw_p11 : lw_okq (⟨"KitchenDrift$Rest", "deal", "(II)V"⟩, 11) := ⟨⟨by decide +kernel, by decide +kernel⟩, List.mem_of_getElem? (i := 149) (by decide +kernel), List.mem_of_getElem? (i := 648) (by decide +kernel), List.mem_of_getElem? (i := 649) (by decide +kernel)⟩
theorem lw_p12 : lw_okq (⟨"KitchenDrift$Rest", "weigh", "()V"⟩, 11) := ⟨⟨by decide +kernel, by decide +kernel⟩, List.mem_of_getElem? (i := 149) (by decide +kernel), List.mem_of_getElem? (i := 652) (by decide +kernel), List.mem_of_getElem? (i := 653) (by decide +kernel)⟩
theorem lw_p13 : lw_okq (⟨"KitchenDrift$Rest", "contentRooms", "(I)I"⟩, 11) := ⟨⟨by decide +kernel, by decide +kernel⟩, List.mem_of_getElem? (i := 149) (by decide +kernel), List.mem_of_getElem? (i := 656) (by decide +kernel), List.mem_of_getElem? (i := 657) (by decide +kernel)⟩
theorem lw_p14 : lw_okq (⟨"KitchenDrift$Rest", "isContent", "(II)Z"⟩, 11) := ⟨⟨by decide +kernel, by decide +kernel⟩, List.mem_of_getElem? (i := 149) (by decide +kernel), List.mem_of_getElem? (i := 660) (by decide +kernel), List.mem_of_getElem? (i := 661) (by decide +kernel)⟩
theorem lw_p15 : lw_okq (⟨"KitchenDrift$Rest", "put", "(II)V"⟩, 11) := ⟨⟨by decide +kernel, by decide +kernel⟩, List.mem_of_getElem? (i := 149) (by decide +kernel), List.mem_of_getElem? (i := 664) (by decide +kernel), List.mem_of_getElem? (i := 665) (by decide +kernel)⟩
def lw_privs_1 : List (MethodName × Nat) := [(⟨"KitchenDrift$House", "engage", "(IIII)V"⟩, 12), (⟨"KitchenDrift$Pad", "follow", "(III)I"⟩, 2), (⟨"KitchenDrift$Drift", "readyTastes", "(I)V"⟩, 5), (⟨"KitchenDrift$Drift", "readyJam", "(I)V"⟩, 5), (⟨"KitchenDrift$Drift", "moves", "(I)Z"⟩, 5), (⟨"KitchenDrift", "playsOut", "()Z"⟩, 11), (⟨"KitchenDrift", "firstStill", "()I"⟩, 11), (⟨"KitchenDrift", "fullestBehind", "(I)I"⟩, 11), (⟨"KitchenDrift", "fullestCarrying", "(IIII)I"⟩, 11), (⟨"KitchenDrift", "fullestUnhinged", "(III)I"⟩, 11), (⟨"KitchenDrift$Rest", "enlist", "(LKitchenDrift$House;I)V"⟩, 11), (⟨"KitchenDrift$Rest", "deal", "(II)V"⟩, 11), (⟨"KitchenDrift$Rest", "weigh", "()V"⟩, 11), (⟨"KitchenDrift$Rest", "contentRooms", "(I)I"⟩, 11), (⟨"KitchenDrift$Rest", "isContent", "(II)Z"⟩, 11), (⟨"KitchenDrift$Rest", "put", "(II)V"⟩, 11)]
theorem lw_r1 : ∀ q ∈ lw_privs_1, lw_okq q := List.forall_mem_cons.mpr ⟨lw_p0, List.forall_mem_cons.mpr ⟨lw_p1, List.forall_mem_cons.mpr ⟨lw_p2, List.forall_mem_cons.mpr ⟨lw_p3, List.forall_mem_cons.mpr ⟨lw_p4, List.forall_mem_cons.mpr ⟨lw_p5, List.forall_mem_cons.mpr ⟨lw_p6, List.forall_mem_cons.mpr ⟨lw_p7, List.forall_mem_cons.mpr ⟨lw_p8, List.forall_mem_cons.mpr ⟨lw_p9, List.forall_mem_cons.mpr ⟨lw_p10, List.forall_mem_cons.mpr ⟨lw_p11, List.forall_mem_cons.mpr ⟨lw_p12, List.forall_mem_cons.mpr ⟨lw_p13, List.forall_mem_cons.mpr ⟨lw_p14, List.forall_mem_cons.mpr ⟨lw_p15, fun _ h => absurd h List.not_mem_nil⟩⟩⟩⟩⟩⟩⟩⟩⟩⟩⟩⟩⟩⟩⟩⟩
theorem lw_p16 : lw_okq (⟨"KitchenDrift", "leadsTo", "(IIII)Z"⟩, 11) := ⟨⟨by decide +kernel, by decide +kernel⟩, List.mem_of_getElem? (i := 16) (by decide +kernel), List.mem_of_getElem? (i := 683) (by decide +kernel), List.mem_of_getElem? (i := 684) (by decide +kernel)⟩
theorem lw_p17 : lw_okq (⟨"KitchenDrift$Route", "shorten", "(LKitchenDrift$House;I)V"⟩, 2) := ⟨⟨by decide +kernel, by decide +kernel⟩, List.mem_of_getElem? (i := 190) (by decide +kernel), List.mem_of_getElem? (i := 698) (by decide +kernel), List.mem_of_getElem? (i := 699) (by decide +kernel)⟩
theorem lw_p18 : lw_okq (⟨"KitchenDrift$Route", "follower", "(LKitchenDrift$House;I)I"⟩, 2) := ⟨⟨by decide +kernel, by decide +kernel⟩, List.mem_of_getElem? (i := 190) (by decide +kernel), List.mem_of_getElem? (i := 712) (by decide +kernel), List.mem_of_getElem? (i := 713) (by decide +kernel)⟩
theorem lw_p19 : lw_okq (⟨"KitchenDrift$Stagger", "spread", "(LKitchenDrift$House;II)V"⟩, 3) := ⟨⟨by decide +kernel, by decide +kernel⟩, List.mem_of_getElem? (i := 203) (by decide +kernel), List.mem_of_getElem? (i := 745) (by decide +kernel), List.mem_of_getElem? (i := 746) (by decide +kernel)⟩
theorem lw_p20 : lw_okq (⟨"KitchenDrift$Stagger", "shared", "(I)J"⟩, 3) := ⟨⟨by decide +kernel, by decide +kernel⟩, List.mem_of_getElem? (i := 203) (by decide +kernel), List.mem_of_getElem? (i := 757) (by decide +kernel), List.mem_of_getElem? (i := 758) (by decide +kernel)⟩
theorem lw_p21 : lw_okq (⟨"KitchenDrift$Year", "meet", "(ILKitchenDrift$House;)V"⟩, 2) := ⟨⟨by decide +kernel, by decide +kernel⟩, List.mem_of_getElem? (i := 220) (by decide +kernel), List.mem_of_getElem? (i := 774) (by decide +kernel), List.mem_of_getElem? (i := 775) (by decide +kernel)⟩
theorem lw_p22 : lw_okq (⟨"KitchenDrift", "toldByCode", "(I)I"⟩, 11) := ⟨⟨by decide +kernel, by decide +kernel⟩, List.mem_of_getElem? (i := 16) (by decide +kernel), List.mem_of_getElem? (i := 793) (by decide +kernel), List.mem_of_getElem? (i := 794) (by decide +kernel)⟩
theorem lw_p23 : lw_okq (⟨"KitchenDriftModel", "empty", "()V"⟩, 30) := ⟨⟨by decide +kernel, by decide +kernel⟩, List.mem_of_getElem? (i := 797) (by decide +kernel), List.mem_of_getElem? (i := 803) (by decide +kernel), List.mem_of_getElem? (i := 804) (by decide +kernel)⟩
theorem lw_p24 : lw_okq (⟨"KitchenDriftModel", "isRoom", "(I)Z"⟩, 30) := ⟨⟨by decide +kernel, by decide +kernel⟩, List.mem_of_getElem? (i := 797) (by decide +kernel), List.mem_of_getElem? (i := 909) (by decide +kernel), List.mem_of_getElem? (i := 910) (by decide +kernel)⟩
theorem lw_p25 : lw_okq (⟨"KitchenDriftModel", "inRoom", "(III)I"⟩, 30) := ⟨⟨by decide +kernel, by decide +kernel⟩, List.mem_of_getElem? (i := 797) (by decide +kernel), List.mem_of_getElem? (i := 913) (by decide +kernel), List.mem_of_getElem? (i := 914) (by decide +kernel)⟩
theorem lw_p26 : lw_okq (⟨"KitchenDriftModel", "standsIn", "(III)Z"⟩, 30) := ⟨⟨by decide +kernel, by decide +kernel⟩, List.mem_of_getElem? (i := 797) (by decide +kernel), List.mem_of_getElem? (i := 924) (by decide +kernel), List.mem_of_getElem? (i := 925) (by decide +kernel)⟩
theorem lw_p27 : lw_okq (⟨"KitchenDriftModel", "leaveOff", "(I)V"⟩, 30) := ⟨⟨by decide +kernel, by decide +kernel⟩, List.mem_of_getElem? (i := 797) (by decide +kernel), List.mem_of_getElem? (i := 932) (by decide +kernel), List.mem_of_getElem? (i := 933) (by decide +kernel)⟩
theorem lw_p28 : lw_okq (⟨"KitchenDriftModel", "isThere", "(I)Z"⟩, 30) := ⟨⟨by decide +kernel, by decide +kernel⟩, List.mem_of_getElem? (i := 797) (by decide +kernel), List.mem_of_getElem? (i := 943) (by decide +kernel), List.mem_of_getElem? (i := 944) (by decide +kernel)⟩
theorem lw_p29 : lw_okq (⟨"KitchenDriftModel", "faultOf", "()I"⟩, 30) := ⟨⟨by decide +kernel, by decide +kernel⟩, List.mem_of_getElem? (i := 797) (by decide +kernel), List.mem_of_getElem? (i := 963) (by decide +kernel), List.mem_of_getElem? (i := 964) (by decide +kernel)⟩
theorem lw_p30 : lw_okq (⟨"KitchenDriftModel", "goParty", "()I"⟩, 30) := ⟨⟨by decide +kernel, by decide +kernel⟩, List.mem_of_getElem? (i := 797) (by decide +kernel), List.mem_of_getElem? (i := 971) (by decide +kernel), List.mem_of_getElem? (i := 972) (by decide +kernel)⟩
theorem lw_p31 : lw_okq (⟨"KitchenDriftModel", "asNow", "()V"⟩, 30) := ⟨⟨by decide +kernel, by decide +kernel⟩, List.mem_of_getElem? (i := 797) (by decide +kernel), List.mem_of_getElem? (i := 975) (by decide +kernel), List.mem_of_getElem? (i := 976) (by decide +kernel)⟩
def lw_privs_2 : List (MethodName × Nat) := [(⟨"KitchenDrift", "leadsTo", "(IIII)Z"⟩, 11), (⟨"KitchenDrift$Route", "shorten", "(LKitchenDrift$House;I)V"⟩, 2), (⟨"KitchenDrift$Route", "follower", "(LKitchenDrift$House;I)I"⟩, 2), (⟨"KitchenDrift$Stagger", "spread", "(LKitchenDrift$House;II)V"⟩, 3), (⟨"KitchenDrift$Stagger", "shared", "(I)J"⟩, 3), (⟨"KitchenDrift$Year", "meet", "(ILKitchenDrift$House;)V"⟩, 2), (⟨"KitchenDrift", "toldByCode", "(I)I"⟩, 11), (⟨"KitchenDriftModel", "empty", "()V"⟩, 30), (⟨"KitchenDriftModel", "isRoom", "(I)Z"⟩, 30), (⟨"KitchenDriftModel", "inRoom", "(III)I"⟩, 30), (⟨"KitchenDriftModel", "standsIn", "(III)Z"⟩, 30), (⟨"KitchenDriftModel", "leaveOff", "(I)V"⟩, 30), (⟨"KitchenDriftModel", "isThere", "(I)Z"⟩, 30), (⟨"KitchenDriftModel", "faultOf", "()I"⟩, 30), (⟨"KitchenDriftModel", "goParty", "()I"⟩, 30), (⟨"KitchenDriftModel", "asNow", "()V"⟩, 30)]
theorem lw_r2 : ∀ q ∈ lw_privs_2, lw_okq q := List.forall_mem_cons.mpr ⟨lw_p16, List.forall_mem_cons.mpr ⟨lw_p17, List.forall_mem_cons.mpr ⟨lw_p18, List.forall_mem_cons.mpr ⟨lw_p19, List.forall_mem_cons.mpr ⟨lw_p20, List.forall_mem_cons.mpr ⟨lw_p21, List.forall_mem_cons.mpr ⟨lw_p22, List.forall_mem_cons.mpr ⟨lw_p23, List.forall_mem_cons.mpr ⟨lw_p24, List.forall_mem_cons.mpr ⟨lw_p25, List.forall_mem_cons.mpr ⟨lw_p26, List.forall_mem_cons.mpr ⟨lw_p27, List.forall_mem_cons.mpr ⟨lw_p28, List.forall_mem_cons.mpr ⟨lw_p29, List.forall_mem_cons.mpr ⟨lw_p30, List.forall_mem_cons.mpr ⟨lw_p31, fun _ h => absurd h List.not_mem_nil⟩⟩⟩⟩⟩⟩⟩⟩⟩⟩⟩⟩⟩⟩⟩⟩
theorem lw_p32 : lw_okq (⟨"KitchenDriftModel", "pass", "()I"⟩, 30) := ⟨⟨by decide +kernel, by decide +kernel⟩, List.mem_of_getElem? (i := 797) (by decide +kernel), List.mem_of_getElem? (i := 979) (by decide +kernel), List.mem_of_getElem? (i := 980) (by decide +kernel)⟩
theorem lw_p33 : lw_okq (⟨"KitchenDriftModel", "shut", "()V"⟩, 30) := ⟨⟨by decide +kernel, by decide +kernel⟩, List.mem_of_getElem? (i := 797) (by decide +kernel), List.mem_of_getElem? (i := 983) (by decide +kernel), List.mem_of_getElem? (i := 984) (by decide +kernel)⟩
theorem lw_p34 : lw_okq (⟨"KitchenDriftModel", "goal", "(III)I"⟩, 30) := ⟨⟨by decide +kernel, by decide +kernel⟩, List.mem_of_getElem? (i := 797) (by decide +kernel), List.mem_of_getElem? (i := 987) (by decide +kernel), List.mem_of_getElem? (i := 988) (by decide +kernel)⟩
theorem lw_p35 : lw_okq (⟨"KitchenDriftModel", "drawOf", "(IIII)I"⟩, 30) := ⟨⟨by decide +kernel, by decide +kernel⟩, List.mem_of_getElem? (i := 797) (by decide +kernel), List.mem_of_getElem? (i := 991) (by decide +kernel), List.mem_of_getElem? (i := 992) (by decide +kernel)⟩
theorem lw_p36 : lw_okq (⟨"KitchenDriftModel", "countIn", "(II)I"⟩, 30) := ⟨⟨by decide +kernel, by decide +kernel⟩, List.mem_of_getElem? (i := 797) (by decide +kernel), List.mem_of_getElem? (i := 995) (by decide +kernel), List.mem_of_getElem? (i := 996) (by decide +kernel)⟩
theorem lw_p37 : lw_okq (⟨"KitchenDriftModel", "canGo", "(II)Z"⟩, 30) := ⟨⟨by decide +kernel, by decide +kernel⟩, List.mem_of_getElem? (i := 797) (by decide +kernel), List.mem_of_getElem? (i := 999) (by decide +kernel), List.mem_of_getElem? (i := 1000) (by decide +kernel)⟩
theorem lw_p38 : lw_okq (⟨"KitchenDriftModel", "whyNotCarry", "(III)I"⟩, 30) := ⟨⟨by decide +kernel, by decide +kernel⟩, List.mem_of_getElem? (i := 797) (by decide +kernel), List.mem_of_getElem? (i := 1003) (by decide +kernel), List.mem_of_getElem? (i := 1004) (by decide +kernel)⟩
theorem lw_p39 : lw_okq (⟨"KitchenDriftModel", "carry", "(III)V"⟩, 30) := ⟨⟨by decide +kernel, by decide +kernel⟩, List.mem_of_getElem? (i := 797) (by decide +kernel), List.mem_of_getElem? (i := 1007) (by decide +kernel), List.mem_of_getElem? (i := 1008) (by decide +kernel)⟩
theorem lw_p40 : lw_okq (⟨"KitchenDriftModel", "whyNotTalk", "(II)I"⟩, 30) := ⟨⟨by decide +kernel, by decide +kernel⟩, List.mem_of_getElem? (i := 797) (by decide +kernel), List.mem_of_getElem? (i := 1011) (by decide +kernel), List.mem_of_getElem? (i := 1012) (by decide +kernel)⟩
theorem lw_p41 : lw_okq (⟨"KitchenDriftModel", "isBusy", "(I)Z"⟩, 30) := ⟨⟨by decide +kernel, by decide +kernel⟩, List.mem_of_getElem? (i := 797) (by decide +kernel), List.mem_of_getElem? (i := 1015) (by decide +kernel), List.mem_of_getElem? (i := 1016) (by decide +kernel)⟩
theorem lw_p42 : lw_okq (⟨"KitchenDriftModel", "talk", "(III)V"⟩, 30) := ⟨⟨by decide +kernel, by decide +kernel⟩, List.mem_of_getElem? (i := 797) (by decide +kernel), List.mem_of_getElem? (i := 1019) (by decide +kernel), List.mem_of_getElem? (i := 1020) (by decide +kernel)⟩
theorem lw_p43 : lw_okq (⟨"KitchenDriftModel", "whyNotDo", "(II)I"⟩, 30) := ⟨⟨by decide +kernel, by decide +kernel⟩, List.mem_of_getElem? (i := 797) (by decide +kernel), List.mem_of_getElem? (i := 1023) (by decide +kernel), List.mem_of_getElem? (i := 1024) (by decide +kernel)⟩
theorem lw_p44 : lw_okq (⟨"KitchenDriftModel", "sittingIn", "(I)I"⟩, 30) := ⟨⟨by decide +kernel, by decide +kernel⟩, List.mem_of_getElem? (i := 797) (by decide +kernel), List.mem_of_getElem? (i := 1027) (by decide +kernel), List.mem_of_getElem? (i := 1028) (by decide +kernel)⟩
theorem lw_p45 : lw_okq (⟨"KitchenDriftModel", "act", "(II)V"⟩, 30) := ⟨⟨by decide +kernel, by decide +kernel⟩, List.mem_of_getElem? (i := 797) (by decide +kernel), List.mem_of_getElem? (i := 1031) (by decide +kernel), List.mem_of_getElem? (i := 1032) (by decide +kernel)⟩
theorem lw_p46 : lw_okq (⟨"KitchenDriftModel", "barOfParty", "()I"⟩, 30) := ⟨⟨by decide +kernel, by decide +kernel⟩, List.mem_of_getElem? (i := 797) (by decide +kernel), List.mem_of_getElem? (i := 1039) (by decide +kernel), List.mem_of_getElem? (i := 1040) (by decide +kernel)⟩
theorem lw_p47 : lw_okq (⟨"KitchenDriftModel", "stateNow", "(II)I"⟩, 30) := ⟨⟨by decide +kernel, by decide +kernel⟩, List.mem_of_getElem? (i := 797) (by decide +kernel), List.mem_of_getElem? (i := 1047) (by decide +kernel), List.mem_of_getElem? (i := 1048) (by decide +kernel)⟩
def lw_privs_3 : List (MethodName × Nat) := [(⟨"KitchenDriftModel", "pass", "()I"⟩, 30), (⟨"KitchenDriftModel", "shut", "()V"⟩, 30), (⟨"KitchenDriftModel", "goal", "(III)I"⟩, 30), (⟨"KitchenDriftModel", "drawOf", "(IIII)I"⟩, 30), (⟨"KitchenDriftModel", "countIn", "(II)I"⟩, 30), (⟨"KitchenDriftModel", "canGo", "(II)Z"⟩, 30), (⟨"KitchenDriftModel", "whyNotCarry", "(III)I"⟩, 30), (⟨"KitchenDriftModel", "carry", "(III)V"⟩, 30), (⟨"KitchenDriftModel", "whyNotTalk", "(II)I"⟩, 30), (⟨"KitchenDriftModel", "isBusy", "(I)Z"⟩, 30), (⟨"KitchenDriftModel", "talk", "(III)V"⟩, 30), (⟨"KitchenDriftModel", "whyNotDo", "(II)I"⟩, 30), (⟨"KitchenDriftModel", "sittingIn", "(I)I"⟩, 30), (⟨"KitchenDriftModel", "act", "(II)V"⟩, 30), (⟨"KitchenDriftModel", "barOfParty", "()I"⟩, 30), (⟨"KitchenDriftModel", "stateNow", "(II)I"⟩, 30)]
theorem lw_r3 : ∀ q ∈ lw_privs_3, lw_okq q := List.forall_mem_cons.mpr ⟨lw_p32, List.forall_mem_cons.mpr ⟨lw_p33, List.forall_mem_cons.mpr ⟨lw_p34, List.forall_mem_cons.mpr ⟨lw_p35, List.forall_mem_cons.mpr ⟨lw_p36, List.forall_mem_cons.mpr ⟨lw_p37, List.forall_mem_cons.mpr ⟨lw_p38, List.forall_mem_cons.mpr ⟨lw_p39, List.forall_mem_cons.mpr ⟨lw_p40, List.forall_mem_cons.mpr ⟨lw_p41, List.forall_mem_cons.mpr ⟨lw_p42, List.forall_mem_cons.mpr ⟨lw_p43, List.forall_mem_cons.mpr ⟨lw_p44, List.forall_mem_cons.mpr ⟨lw_p45, List.forall_mem_cons.mpr ⟨lw_p46, List.forall_mem_cons.mpr ⟨lw_p47, fun _ h => absurd h List.not_mem_nil⟩⟩⟩⟩⟩⟩⟩⟩⟩⟩⟩⟩⟩⟩⟩⟩
theorem lw_p48 : lw_okq (⟨"KitchenDriftModel", "goMinutes", "(I)V"⟩, 30) := ⟨⟨by decide +kernel, by decide +kernel⟩, List.mem_of_getElem? (i := 797) (by decide +kernel), List.mem_of_getElem? (i := 1067) (by decide +kernel), List.mem_of_getElem? (i := 1068) (by decide +kernel)⟩
theorem lw_p49 : lw_okq (⟨"KitchenDriftModel", "crowdIn", "(I)I"⟩, 30) := ⟨⟨by decide +kernel, by decide +kernel⟩, List.mem_of_getElem? (i := 797) (by decide +kernel), List.mem_of_getElem? (i := 1075) (by decide +kernel), List.mem_of_getElem? (i := 1076) (by decide +kernel)⟩
theorem lw_p50 : lw_okq (⟨"KitchenDriftModel", "stillAt", "()I"⟩, 30) := ⟨⟨by decide +kernel, by decide +kernel⟩, List.mem_of_getElem? (i := 797) (by decide +kernel), List.mem_of_getElem? (i := 1083) (by decide +kernel), List.mem_of_getElem? (i := 1084) (by decide +kernel)⟩
theorem lw_p51 : lw_okq (⟨"KitchenDriftModel", "note", "(I)V"⟩, 30) := ⟨⟨by decide +kernel, by decide +kernel⟩, List.mem_of_getElem? (i := 797) (by decide +kernel), List.mem_of_getElem? (i := 1091) (by decide +kernel), List.mem_of_getElem? (i := 1092) (by decide +kernel)⟩
theorem lw_p52 : lw_okq (⟨"KitchenDriftModel", "fullest", "()I"⟩, 30) := ⟨⟨by decide +kernel, by decide +kernel⟩, List.mem_of_getElem? (i := 797) (by decide +kernel), List.mem_of_getElem? (i := 1101) (by decide +kernel), List.mem_of_getElem? (i := 1102) (by decide +kernel)⟩
theorem lw_p53 : lw_okq (⟨"KitchenDriftModel", "areAtRest", "(I)Z"⟩, 30) := ⟨⟨by decide +kernel, by decide +kernel⟩, List.mem_of_getElem? (i := 797) (by decide +kernel), List.mem_of_getElem? (i := 1121) (by decide +kernel), List.mem_of_getElem? (i := 1122) (by decide +kernel)⟩
def lw_privs_4 : List (MethodName × Nat) := [(⟨"KitchenDriftModel", "goMinutes", "(I)V"⟩, 30), (⟨"KitchenDriftModel", "crowdIn", "(I)I"⟩, 30), (⟨"KitchenDriftModel", "stillAt", "()I"⟩, 30), (⟨"KitchenDriftModel", "note", "(I)V"⟩, 30), (⟨"KitchenDriftModel", "fullest", "()I"⟩, 30), (⟨"KitchenDriftModel", "areAtRest", "(I)Z"⟩, 30)]
theorem lw_r4 : ∀ q ∈ lw_privs_4, lw_okq q := List.forall_mem_cons.mpr ⟨lw_p48, List.forall_mem_cons.mpr ⟨lw_p49, List.forall_mem_cons.mpr ⟨lw_p50, List.forall_mem_cons.mpr ⟨lw_p51, List.forall_mem_cons.mpr ⟨lw_p52, List.forall_mem_cons.mpr ⟨lw_p53, fun _ h => absurd h List.not_mem_nil⟩⟩⟩⟩⟩⟩
def lw_privs : List (MethodName × Nat) := lw_privs_1 ++ (lw_privs_2 ++ (lw_privs_3 ++ (lw_privs_4)))
def lw_tbl : List Cond := k2_sels lw_privs ++ tables_1
theorem lw_privs_ok : ∀ q ∈ lw_privs, lw_okq q := by
  show ∀ q ∈ lw_privs_1 ++ (lw_privs_2 ++ (lw_privs_3 ++ (lw_privs_4))), lw_okq q
  exact List.forall_mem_append.mpr ⟨lw_r1, List.forall_mem_append.mpr ⟨lw_r2, List.forall_mem_append.mpr ⟨lw_r3, lw_r4⟩⟩⟩
end
section
def RX0 : String := "KitchenDrift$Drift"
def TX0 : u_T := fun k => match k with
  | 0 => ("KitchenDrift$Drift", "house", "LKitchenDrift$House;", true)
  | 1 => ("KitchenDrift$Drift", "taste", "[I", true)
  | 2 => ("KitchenDrift$Drift", "crowd", "[I", true)
  | 3 => ("KitchenDrift$Drift", "wide", "[I", true)
  | _ => ("KitchenDrift$Drift", "gone", "[I", true)
def tyX0 : Nat → FieldType := fun k => match k with
  | 0 => .object "KitchenDrift$House"
  | 1 => .array .int
  | 2 => .array .int
  | 3 => .array .int
  | _ => .array .int
abbrev wsX00 : List Cond := u_ws RX0 TX0 5
theorem nmX0 : ∀ a, a < 5 → ∀ b, b < 5 → a ≠ b → (TX0 a).2.1 ≠ (TX0 b).2.1 := by decide +kernel
theorem tyX0_ok : ∀ k, k < 5 → parseFieldDescriptor (TX0 k).2.2.1 = some (tyX0 k) := by decide +kernel
abbrev cX0_init : ByteArray := prog_2_method_1_code
def yX0_init : MethodName := ⟨RX0, "<init>", "()V"⟩
abbrev cX0_begin : ByteArray := prog_2_method_2_code
def yX0_begin : MethodName := ⟨RX0, "begin", "(LKitchenDrift$House;)V"⟩
abbrev cX0_ready : ByteArray := prog_2_method_3_code
def yX0_ready : MethodName := ⟨RX0, "ready", "()V"⟩
abbrev cX0_readyTastes : ByteArray := prog_2_method_4_code
def yX0_readyTastes : MethodName := ⟨RX0, "readyTastes", "(I)V"⟩
abbrev cX0_readyJam : ByteArray := prog_2_method_5_code
def yX0_readyJam : MethodName := ⟨RX0, "readyJam", "(I)V"⟩
abbrev cX0_unhinge : ByteArray := prog_2_method_6_code
def yX0_unhinge : MethodName := ⟨RX0, "unhinge", "(II)V"⟩
abbrev cX0_target : ByteArray := prog_2_method_7_code
def yX0_target : MethodName := ⟨RX0, "target", "(I)I"⟩
abbrev cX0_minute : ByteArray := prog_2_method_8_code
def yX0_minute : MethodName := ⟨RX0, "minute", "()I"⟩
abbrev cX0_moves : ByteArray := prog_2_method_9_code
def yX0_moves : MethodName := ⟨RX0, "moves", "(I)Z"⟩
abbrev cX0_stillMinute : ByteArray := prog_2_method_10_code
def yX0_stillMinute : MethodName := ⟨RX0, "stillMinute", "()Z"⟩
abbrev cX0_run : ByteArray := prog_2_method_11_code
def yX0_run : MethodName := ⟨RX0, "run", "(I)V"⟩
abbrev cX0_fullest : ByteArray := prog_2_method_12_code
def yX0_fullest : MethodName := ⟨RX0, "fullest", "()I"⟩
def RX1 : String := "KitchenDrift$House"
def TX1 : u_T := fun k => match k with
  | 0 => ("KitchenDrift$House", "rooms", "I", false)
  | 1 => ("KitchenDrift$House", "there", "I", false)
  | 2 => ("KitchenDrift$House", "sights", "I", false)
  | 3 => ("KitchenDrift$House", "measure", "[I", true)
  | 4 => ("KitchenDrift$House", "width", "[I", true)
  | 5 => ("KitchenDrift$House", "place", "[I", true)
  | 6 => ("KitchenDrift$House", "busy", "[I", true)
  | 7 => ("KitchenDrift$House", "mate", "[I", true)
  | 8 => ("KitchenDrift$House", "left", "[I", true)
  | 9 => ("KitchenDrift$House", "likes", "[I", true)
  | 10 => ("KitchenDrift$House", "sightGuest", "[I", true)
  | _ => ("KitchenDrift$House", "sightRoom", "[I", true)
def tyX1 : Nat → FieldType := fun k => match k with
  | 0 => .int
  | 1 => .int
  | 2 => .int
  | 3 => .array .int
  | 4 => .array .int
  | 5 => .array .int
  | 6 => .array .int
  | 7 => .array .int
  | 8 => .array .int
  | 9 => .array .int
  | 10 => .array .int
  | _ => .array .int
abbrev wsX10 : List Cond := u_ws RX1 TX1 12
theorem nmX1 : ∀ a, a < 12 → ∀ b, b < 12 → a ≠ b → (TX1 a).2.1 ≠ (TX1 b).2.1 := by decide +kernel
theorem tyX1_ok : ∀ k, k < 12 → parseFieldDescriptor (TX1 k).2.2.1 = some (tyX1 k) := by decide +kernel
abbrev cX1_init : ByteArray := prog_3_method_1_code
def yX1_init : MethodName := ⟨RX1, "<init>", "()V"⟩
abbrev cX1_clear : ByteArray := prog_3_method_2_code
def yX1_clear : MethodName := ⟨RX1, "clear", "(I)V"⟩
abbrev cX1_copy : ByteArray := prog_3_method_3_code
def yX1_copy : MethodName := ⟨RX1, "copy", "(LKitchenDrift$House;)V"⟩
abbrev cX1_isRoom : ByteArray := prog_3_method_4_code
def yX1_isRoom : MethodName := ⟨RX1, "isRoom", "(I)Z"⟩
abbrev cX1_isThere : ByteArray := prog_3_method_5_code
def yX1_isThere : MethodName := ⟨RX1, "isThere", "(I)Z"⟩
abbrev cX1_sizeOf : ByteArray := prog_3_method_6_code
def yX1_sizeOf : MethodName := ⟨RX1, "sizeOf", "(I)I"⟩
abbrev cX1_widthOf : ByteArray := prog_3_method_7_code
def yX1_widthOf : MethodName := ⟨RX1, "widthOf", "(II)I"⟩
abbrev cX1_bitsIn : ByteArray := prog_3_method_8_code
def yX1_bitsIn : MethodName := ⟨RX1, "bitsIn", "(I)I"⟩
abbrev cX1_count : ByteArray := prog_3_method_9_code
def yX1_count : MethodName := ⟨RX1, "count", "(I)I"⟩
abbrev cX1_others : ByteArray := prog_3_method_10_code
def yX1_others : MethodName := ⟨RX1, "others", "(II)I"⟩
abbrev cX1_sitters : ByteArray := prog_3_method_11_code
def yX1_sitters : MethodName := ⟨RX1, "sitters", "(I)I"⟩
abbrev cX1_jam : ByteArray := prog_3_method_12_code
def yX1_jam : MethodName := ⟨RX1, "jam", "(II)I"⟩
abbrev cX1_idle : ByteArray := prog_3_method_13_code
def yX1_idle : MethodName := ⟨RX1, "idle", "()I"⟩
abbrev cX1_anyTalks : ByteArray := prog_3_method_14_code
def yX1_anyTalks : MethodName := ⟨RX1, "anyTalks", "()Z"⟩
abbrev cX1_pullOfThings : ByteArray := prog_3_method_15_code
def yX1_pullOfThings : MethodName := ⟨RX1, "pullOfThings", "(II)I"⟩
abbrev cX1_pull : ByteArray := prog_3_method_16_code
def yX1_pull : MethodName := ⟨RX1, "pull", "(II)I"⟩
abbrev cX1_sightsHold : ByteArray := prog_3_method_17_code
def yX1_sightsHold : MethodName := ⟨RX1, "sightsHold", "(II)Z"⟩
abbrev cX1_tellGuest : ByteArray := prog_3_method_18_code
def yX1_tellGuest : MethodName := ⟨RX1, "tellGuest", "(II)I"⟩
abbrev cX1_key : ByteArray := prog_3_method_19_code
def yX1_key : MethodName := ⟨RX1, "key", "()J"⟩
abbrev cX1_dismiss : ByteArray := prog_3_method_20_code
def yX1_dismiss : MethodName := ⟨RX1, "dismiss", "(I)V"⟩
abbrev cX1_whyNotTalk : ByteArray := prog_3_method_21_code
def yX1_whyNotTalk : MethodName := ⟨RX1, "whyNotTalk", "(II)I"⟩
abbrev cX1_whyNotSit : ByteArray := prog_3_method_22_code
def yX1_whyNotSit : MethodName := ⟨RX1, "whyNotSit", "(I)I"⟩
abbrev cX1_whyNotBlock : ByteArray := prog_3_method_23_code
def yX1_whyNotBlock : MethodName := ⟨RX1, "whyNotBlock", "(II)I"⟩
abbrev cX1_whyNotRise : ByteArray := prog_3_method_24_code
def yX1_whyNotRise : MethodName := ⟨RX1, "whyNotRise", "(I)I"⟩
abbrev cX1_whyNotCarry : ByteArray := prog_3_method_25_code
def yX1_whyNotCarry : MethodName := ⟨RX1, "whyNotCarry", "(III)I"⟩
abbrev cX1_talk : ByteArray := prog_3_method_26_code
def yX1_talk : MethodName := ⟨RX1, "talk", "(III)V"⟩
abbrev cX1_sit : ByteArray := prog_3_method_27_code
def yX1_sit : MethodName := ⟨RX1, "sit", "(I)V"⟩
abbrev cX1_block : ByteArray := prog_3_method_28_code
def yX1_block : MethodName := ⟨RX1, "block", "(II)V"⟩
abbrev cX1_rise : ByteArray := prog_3_method_29_code
def yX1_rise : MethodName := ⟨RX1, "rise", "(I)V"⟩
abbrev cX1_carry : ByteArray := prog_3_method_30_code
def yX1_carry : MethodName := ⟨RX1, "carry", "(III)V"⟩
abbrev cX1_talkOn : ByteArray := prog_3_method_31_code
def yX1_talkOn : MethodName := ⟨RX1, "talkOn", "()V"⟩
abbrev cX1_engage : ByteArray := prog_3_method_32_code
def yX1_engage : MethodName := ⟨RX1, "engage", "(IIII)V"⟩
def RX2 : String := "KitchenDrift$Pad"
def TX2 : u_T := fun k => match k with
  | 0 => ("KitchenDrift$Pad", "used", "I", false)
  | _ => ("KitchenDrift$Pad", "signs", "[I", true)
def tyX2 : Nat → FieldType := fun k => match k with
  | 0 => .int
  | _ => .array .int
abbrev wsX20 : List Cond := u_ws RX2 TX2 2
theorem nmX2 : ∀ a, a < 2 → ∀ b, b < 2 → a ≠ b → (TX2 a).2.1 ≠ (TX2 b).2.1 := by decide +kernel
theorem tyX2_ok : ∀ k, k < 2 → parseFieldDescriptor (TX2 k).2.2.1 = some (tyX2 k) := by decide +kernel
abbrev cX2_init : ByteArray := prog_4_method_1_code
def yX2_init : MethodName := ⟨RX2, "<init>", "()V"⟩
abbrev cX2_add : ByteArray := prog_4_method_2_code
def yX2_add : MethodName := ⟨RX2, "add", "(I)Z"⟩
abbrev cX2_sign : ByteArray := prog_4_method_3_code
def yX2_sign : MethodName := ⟨RX2, "sign", "(I)I"⟩
abbrev cX2_flaw : ByteArray := prog_4_method_4_code
def yX2_flaw : MethodName := ⟨RX2, "flaw", "(I)I"⟩
abbrev cX2_follow : ByteArray := prog_4_method_5_code
def yX2_follow : MethodName := ⟨RX2, "follow", "(III)I"⟩
abbrev cX2_followStart : ByteArray := prog_4_method_6_code
def yX2_followStart : MethodName := ⟨RX2, "followStart", "(II)I"⟩
abbrev cX2_followGuest : ByteArray := prog_4_method_7_code
def yX2_followGuest : MethodName := ⟨RX2, "followGuest", "(III)I"⟩
abbrev cX2_isGuestLetter : ByteArray := prog_4_method_8_code
def yX2_isGuestLetter : MethodName := ⟨RX2, "isGuestLetter", "(I)Z"⟩
abbrev cX2_isRoomLetter : ByteArray := prog_4_method_9_code
def yX2_isRoomLetter : MethodName := ⟨RX2, "isRoomLetter", "(II)Z"⟩
def RX3 : String := "KitchenDrift$Play"
def TX3 : u_T := fun k => match k with
  | 0 => ("KitchenDrift$Play", "events", "I", false)
  | _ => ("KitchenDrift$Play", "why", "I", false)
def tyX3 : Nat → FieldType := fun k => match k with
  | 0 => .int
  | _ => .int
abbrev wsX30 : List Cond := u_ws RX3 TX3 2
theorem nmX3 : ∀ a, a < 2 → ∀ b, b < 2 → a ≠ b → (TX3 a).2.1 ≠ (TX3 b).2.1 := by decide +kernel
theorem tyX3_ok : ∀ k, k < 2 → parseFieldDescriptor (TX3 k).2.2.1 = some (tyX3 k) := by decide +kernel
abbrev cX3_init : ByteArray := prog_5_method_1_code
def yX3_init : MethodName := ⟨RX3, "<init>", "()V"⟩
abbrev cX3_perform : ByteArray := prog_5_method_2_code
def yX3_perform : MethodName := ⟨RX3, "perform", "(LKitchenDrift$Pad;LKitchenDrift$House;LKitchenDrift$Drift;)V"⟩
abbrev cX3_spanOf : ByteArray := prog_5_method_3_code
def yX3_spanOf : MethodName := ⟨RX3, "spanOf", "(LKitchenDrift$Pad;I)I"⟩
abbrev cX3_attempt : ByteArray := prog_5_method_4_code
def yX3_attempt : MethodName := ⟨RX3, "attempt", "(LKitchenDrift$Pad;IILKitchenDrift$House;)I"⟩
abbrev cX3_chat : ByteArray := prog_5_method_5_code
def yX3_chat : MethodName := ⟨RX3, "chat", "(LKitchenDrift$House;III)I"⟩
abbrev cX3_fetch : ByteArray := prog_5_method_6_code
def yX3_fetch : MethodName := ⟨RX3, "fetch", "(LKitchenDrift$House;III)I"⟩
abbrev cX3_settle : ByteArray := prog_5_method_7_code
def yX3_settle : MethodName := ⟨RX3, "settle", "(LKitchenDrift$House;II)I"⟩
def RX4 : String := "KitchenDrift$Rest"
def TX4 : u_T := fun k => match k with
  | 0 => ("KitchenDrift$Rest", "ways", "I", false)
  | 1 => ("KitchenDrift$Rest", "first", "I", false)
  | 2 => ("KitchenDrift$Rest", "members", "I", false)
  | 3 => ("KitchenDrift$Rest", "rooms", "I", false)
  | 4 => ("KitchenDrift$Rest", "member", "[I", true)
  | 5 => ("KitchenDrift$Rest", "company", "[I", true)
  | 6 => ("KitchenDrift$Rest", "taste", "[I", true)
  | 7 => ("KitchenDrift$Rest", "content", "[I", true)
  | 8 => ("KitchenDrift$Rest", "size", "[I", true)
  | 9 => ("KitchenDrift$Rest", "fixed", "[I", true)
  | _ => ("KitchenDrift$Rest", "share", "[I", true)
def tyX4 : Nat → FieldType := fun k => match k with
  | 0 => .int
  | 1 => .int
  | 2 => .int
  | 3 => .int
  | 4 => .array .int
  | 5 => .array .int
  | 6 => .array .int
  | 7 => .array .int
  | 8 => .array .int
  | 9 => .array .int
  | _ => .array .int
abbrev wsX40 : List Cond := u_ws RX4 TX4 11
theorem nmX4 : ∀ a, a < 11 → ∀ b, b < 11 → a ≠ b → (TX4 a).2.1 ≠ (TX4 b).2.1 := by decide +kernel
theorem tyX4_ok : ∀ k, k < 11 → parseFieldDescriptor (TX4 k).2.2.1 = some (tyX4 k) := by decide +kernel
abbrev cX4_init : ByteArray := prog_6_method_1_code
def yX4_init : MethodName := ⟨RX4, "<init>", "()V"⟩
abbrev cX4_find : ByteArray := prog_6_method_2_code
def yX4_find : MethodName := ⟨RX4, "find", "(LKitchenDrift$House;I)V"⟩
abbrev cX4_enlist : ByteArray := prog_6_method_3_code
def yX4_enlist : MethodName := ⟨RX4, "enlist", "(LKitchenDrift$House;I)V"⟩
abbrev cX4_deal : ByteArray := prog_6_method_4_code
def yX4_deal : MethodName := ⟨RX4, "deal", "(II)V"⟩
abbrev cX4_weigh : ByteArray := prog_6_method_5_code
def yX4_weigh : MethodName := ⟨RX4, "weigh", "()V"⟩
abbrev cX4_contentRooms : ByteArray := prog_6_method_6_code
def yX4_contentRooms : MethodName := ⟨RX4, "contentRooms", "(I)I"⟩
abbrev cX4_isContent : ByteArray := prog_6_method_7_code
def yX4_isContent : MethodName := ⟨RX4, "isContent", "(II)Z"⟩
abbrev cX4_put : ByteArray := prog_6_method_8_code
def yX4_put : MethodName := ⟨RX4, "put", "(II)V"⟩
abbrev cX4_roomOf : ByteArray := prog_6_method_9_code
def yX4_roomOf : MethodName := ⟨RX4, "roomOf", "(I)I"⟩
def RX5 : String := "KitchenDrift$Route"
def TX5 : u_T := fun k => match k with
  | 0 => ("KitchenDrift$Route", "toll", "[I", true)
  | _ => ("KitchenDrift$Route", "far", "[I", true)
def tyX5 : Nat → FieldType := fun k => match k with
  | 0 => .array .int
  | _ => .array .int
abbrev wsX50 : List Cond := u_ws RX5 TX5 2
theorem nmX5 : ∀ a, a < 2 → ∀ b, b < 2 → a ≠ b → (TX5 a).2.1 ≠ (TX5 b).2.1 := by decide +kernel
theorem tyX5_ok : ∀ k, k < 2 → parseFieldDescriptor (TX5 k).2.2.1 = some (tyX5 k) := by decide +kernel
abbrev cX5_init : ByteArray := prog_7_method_1_code
def yX5_init : MethodName := ⟨RX5, "<init>", "()V"⟩
abbrev cX5_measure : ByteArray := prog_7_method_2_code
def yX5_measure : MethodName := ⟨RX5, "measure", "(LKitchenDrift$House;I)V"⟩
abbrev cX5_shorten : ByteArray := prog_7_method_3_code
def yX5_shorten : MethodName := ⟨RX5, "shorten", "(LKitchenDrift$House;I)V"⟩
abbrev cX5_excusesFrom : ByteArray := prog_7_method_4_code
def yX5_excusesFrom : MethodName := ⟨RX5, "excusesFrom", "(I)I"⟩
abbrev cX5_step : ByteArray := prog_7_method_5_code
def yX5_step : MethodName := ⟨RX5, "step", "(LKitchenDrift$House;II)I"⟩
abbrev cX5_follower : ByteArray := prog_7_method_6_code
def yX5_follower : MethodName := ⟨RX5, "follower", "(LKitchenDrift$House;I)I"⟩
def RX6 : String := "KitchenDrift$Stagger"
def TX6 : u_T := fun k => match k with
  | 0 => ("KitchenDrift$Stagger", "whole", "J", false)
  | 1 => ("KitchenDrift$Stagger", "chance", "[J", false)
  | _ => ("KitchenDrift$Stagger", "next", "[J", false)
def tyX6 : Nat → FieldType := fun k => match k with
  | 0 => .long
  | 1 => .array .long
  | _ => .array .long
abbrev wsX60 : List Cond := u_ws RX6 TX6 3
theorem nmX6 : ∀ a, a < 3 → ∀ b, b < 3 → a ≠ b → (TX6 a).2.1 ≠ (TX6 b).2.1 := by decide +kernel
theorem tyX6_ok : ∀ k, k < 3 → parseFieldDescriptor (TX6 k).2.2.1 = some (tyX6 k) := by decide +kernel
abbrev cX6_init : ByteArray := prog_8_method_1_code
def yX6_init : MethodName := ⟨RX6, "<init>", "()V"⟩
abbrev cX6_walk : ByteArray := prog_8_method_2_code
def yX6_walk : MethodName := ⟨RX6, "walk", "(LKitchenDrift$House;III)V"⟩
abbrev cX6_spread : ByteArray := prog_8_method_3_code
def yX6_spread : MethodName := ⟨RX6, "spread", "(LKitchenDrift$House;II)V"⟩
abbrev cX6_upper : ByteArray := prog_8_method_4_code
def yX6_upper : MethodName := ⟨RX6, "upper", "(I)J"⟩
abbrev cX6_lower : ByteArray := prog_8_method_5_code
def yX6_lower : MethodName := ⟨RX6, "lower", "(I)J"⟩
abbrev cX6_shared : ByteArray := prog_8_method_6_code
def yX6_shared : MethodName := ⟨RX6, "shared", "(I)J"⟩
def RX7 : String := "KitchenDrift$Year"
def TX7 : u_T := fun k => match k with
  | 0 => ("KitchenDrift$Year", "went", "I", false)
  | _ => ("KitchenDrift$Year", "talks", "I", false)
def tyX7 : Nat → FieldType := fun k => match k with
  | 0 => .int
  | _ => .int
abbrev wsX70 : List Cond := u_ws RX7 TX7 2
theorem nmX7 : ∀ a, a < 2 → ∀ b, b < 2 → a ≠ b → (TX7 a).2.1 ≠ (TX7 b).2.1 := by decide +kernel
theorem tyX7_ok : ∀ k, k < 2 → parseFieldDescriptor (TX7 k).2.2.1 = some (tyX7 k) := by decide +kernel
abbrev cX7_init : ByteArray := prog_9_method_1_code
def yX7_init : MethodName := ⟨RX7, "<init>", "()V"⟩
abbrev cX7_pass : ByteArray := prog_9_method_2_code
def yX7_pass : MethodName := ⟨RX7, "pass", "(IILKitchenDrift$Drift;)V"⟩
abbrev cX7_meet : ByteArray := prog_9_method_3_code
def yX7_meet : MethodName := ⟨RX7, "meet", "(ILKitchenDrift$House;)V"⟩
def RX8 : String := "KitchenDrift"
def TX8 : u_T := fun k => match k with
  | 0 => ("KitchenDrift", "now", "LKitchenDrift$House;", true)
  | 1 => ("KitchenDrift", "images", "[LKitchenDrift$House;", true)
  | 2 => ("KitchenDrift", "kept", "[Z", true)
  | 3 => ("KitchenDrift", "pad", "LKitchenDrift$Pad;", true)
  | 4 => ("KitchenDrift", "drift", "LKitchenDrift$Drift;", true)
  | 5 => ("KitchenDrift", "play", "LKitchenDrift$Play;", true)
  | 6 => ("KitchenDrift", "rest", "LKitchenDrift$Rest;", true)
  | 7 => ("KitchenDrift", "route", "LKitchenDrift$Route;", true)
  | 8 => ("KitchenDrift", "stagger", "LKitchenDrift$Stagger;", true)
  | 9 => ("KitchenDrift", "draws", "LKitchenDrift$Year;", true)
  | _ => ("KitchenDrift", "ends", "[J", true)
def tyX8 : Nat → FieldType := fun k => match k with
  | 0 => .object "KitchenDrift$House"
  | 1 => .array (.object "KitchenDrift$House")
  | 2 => .array .boolean
  | 3 => .object "KitchenDrift$Pad"
  | 4 => .object "KitchenDrift$Drift"
  | 5 => .object "KitchenDrift$Play"
  | 6 => .object "KitchenDrift$Rest"
  | 7 => .object "KitchenDrift$Route"
  | 8 => .object "KitchenDrift$Stagger"
  | 9 => .object "KitchenDrift$Year"
  | _ => .array .long
abbrev wsX80 : List Cond := u_ws RX8 TX8 11
theorem nmX8 : ∀ a, a < 11 → ∀ b, b < 11 → a ≠ b → (TX8 a).2.1 ≠ (TX8 b).2.1 := by decide +kernel
theorem tyX8_ok : ∀ k, k < 11 → parseFieldDescriptor (TX8 k).2.2.1 = some (tyX8 k) := by decide +kernel
abbrev cX8_init : ByteArray := prog_1_method_1_code
def yX8_init : MethodName := ⟨RX8, "<init>", "()V"⟩
abbrev cX8_rooms : ByteArray := prog_1_method_2_code
def yX8_rooms : MethodName := ⟨RX8, "rooms", "(I)I"⟩
abbrev cX8_room : ByteArray := prog_1_method_3_code
def yX8_room : MethodName := ⟨RX8, "room", "(III)I"⟩
abbrev cX8_door : ByteArray := prog_1_method_4_code
def yX8_door : MethodName := ⟨RX8, "door", "(III)I"⟩
abbrev cX8_guest : ByteArray := prog_1_method_5_code
def yX8_guest : MethodName := ⟨RX8, "guest", "(II)I"⟩
abbrev cX8_likes : ByteArray := prog_1_method_6_code
def yX8_likes : MethodName := ⟨RX8, "likes", "(III)I"⟩
abbrev cX8_leave : ByteArray := prog_1_method_7_code
def yX8_leave : MethodName := ⟨RX8, "leave", "(I)I"⟩
abbrev cX8_say : ByteArray := prog_1_method_8_code
def yX8_say : MethodName := ⟨RX8, "say", "(I)I"⟩
abbrev cX8_wipe : ByteArray := prog_1_method_9_code
def yX8_wipe : MethodName := ⟨RX8, "wipe", "()I"⟩
abbrev cX8_fault : ByteArray := prog_1_method_10_code
def yX8_fault : MethodName := ⟨RX8, "fault", "()I"⟩
abbrev cX8_judge : ByteArray := prog_1_method_11_code
def yX8_judge : MethodName := ⟨RX8, "judge", "(I)I"⟩
abbrev cX8_done : ByteArray := prog_1_method_12_code
def yX8_done : MethodName := ⟨RX8, "done", "()I"⟩
abbrev cX8_state : ByteArray := prog_1_method_13_code
def yX8_state : MethodName := ⟨RX8, "state", "(II)I"⟩
abbrev cX8_behind : ByteArray := prog_1_method_14_code
def yX8_behind : MethodName := ⟨RX8, "behind", "(II)I"⟩
abbrev cX8_draw : ByteArray := prog_1_method_15_code
def yX8_draw : MethodName := ⟨RX8, "draw", "(II)I"⟩
abbrev cX8_goes : ByteArray := prog_1_method_16_code
def yX8_goes : MethodName := ⟨RX8, "goes", "(I)I"⟩
abbrev cX8_after : ByteArray := prog_1_method_17_code
def yX8_after : MethodName := ⟨RX8, "after", "(II)I"⟩
abbrev cX8_crowd : ByteArray := prog_1_method_18_code
def yX8_crowd : MethodName := ⟨RX8, "crowd", "(II)I"⟩
abbrev cX8_still : ByteArray := prog_1_method_19_code
def yX8_still : MethodName := ⟨RX8, "still", "()I"⟩
abbrev cX8_round : ByteArray := prog_1_method_20_code
def yX8_round : MethodName := ⟨RX8, "round", "()I"⟩
abbrev cX8_throng : ByteArray := prog_1_method_21_code
def yX8_throng : MethodName := ⟨RX8, "throng", "(I)I"⟩
abbrev cX8_carried : ByteArray := prog_1_method_22_code
def yX8_carried : MethodName := ⟨RX8, "carried", "(II)I"⟩
abbrev cX8_hinges : ByteArray := prog_1_method_23_code
def yX8_hinges : MethodName := ⟨RX8, "hinges", "(II)I"⟩
abbrev cX8_best : ByteArray := prog_1_method_24_code
def yX8_best : MethodName := ⟨RX8, "best", "(I)I"⟩
abbrev cX8_rests : ByteArray := prog_1_method_25_code
def yX8_rests : MethodName := ⟨RX8, "rests", "(II)I"⟩
abbrev cX8_led : ByteArray := prog_1_method_26_code
def yX8_led : MethodName := ⟨RX8, "led", "(IIII)I"⟩
abbrev cX8_excuses : ByteArray := prog_1_method_27_code
def yX8_excuses : MethodName := ⟨RX8, "excuses", "(III)I"⟩
abbrev cX8_seen : ByteArray := prog_1_method_28_code
def yX8_seen : MethodName := ⟨RX8, "seen", "(II)I"⟩
abbrev cX8_forget : ByteArray := prog_1_method_29_code
def yX8_forget : MethodName := ⟨RX8, "forget", "()I"⟩
abbrev cX8_tastes : ByteArray := prog_1_method_30_code
def yX8_tastes : MethodName := ⟨RX8, "tastes", "(II)I"⟩
abbrev cX8_drunk : ByteArray := prog_1_method_31_code
def yX8_drunk : MethodName := ⟨RX8, "drunk", "(IIIII)J"⟩
abbrev cX8_year : ByteArray := prog_1_method_32_code
def yX8_year : MethodName := ⟨RX8, "year", "(III)I"⟩
abbrev cX8_image : ByteArray := prog_1_method_33_code
def yX8_image : MethodName := ⟨RX8, "image", "(I)I"⟩
abbrev cX8_restore : ByteArray := prog_1_method_34_code
def yX8_restore : MethodName := ⟨RX8, "restore", "(I)I"⟩
abbrev cX8_told : ByteArray := prog_1_method_35_code
def yX8_told : MethodName := ⟨RX8, "told", "(I)I"⟩
abbrev cX8_toldByCode : ByteArray := prog_1_method_36_code
def yX8_toldByCode : MethodName := ⟨RX8, "toldByCode", "(I)I"⟩
abbrev cX8_playsOut : ByteArray := prog_1_method_37_code
def yX8_playsOut : MethodName := ⟨RX8, "playsOut", "()Z"⟩
abbrev cX8_firstStill : ByteArray := prog_1_method_38_code
def yX8_firstStill : MethodName := ⟨RX8, "firstStill", "()I"⟩
abbrev cX8_fullestBehind : ByteArray := prog_1_method_39_code
def yX8_fullestBehind : MethodName := ⟨RX8, "fullestBehind", "(I)I"⟩
abbrev cX8_fullestCarrying : ByteArray := prog_1_method_40_code
def yX8_fullestCarrying : MethodName := ⟨RX8, "fullestCarrying", "(IIII)I"⟩
abbrev cX8_fullestUnhinged : ByteArray := prog_1_method_41_code
def yX8_fullestUnhinged : MethodName := ⟨RX8, "fullestUnhinged", "(III)I"⟩
abbrev cX8_leadsTo : ByteArray := prog_1_method_42_code
def yX8_leadsTo : MethodName := ⟨RX8, "leadsTo", "(IIII)Z"⟩
abbrev cX8_isIn : ByteArray := prog_1_method_43_code
def yX8_isIn : MethodName := ⟨RX8, "isIn", "(II)Z"⟩
def RX9 : String := "KitchenDriftModel"
def TX9 : u_T := fun k => match k with
  | 0 => ("KitchenDriftModel", "rooms", "I", false)
  | 1 => ("KitchenDriftModel", "things", "[I", true)
  | 2 => ("KitchenDriftModel", "size", "[I", true)
  | 3 => ("KitchenDriftModel", "chairs", "[I", true)
  | 4 => ("KitchenDriftModel", "width", "[I", true)
  | 5 => ("KitchenDriftModel", "there", "I", false)
  | 6 => ("KitchenDriftModel", "likes", "[I", true)
  | 7 => ("KitchenDriftModel", "place", "[I", true)
  | 8 => ("KitchenDriftModel", "busy", "[I", true)
  | 9 => ("KitchenDriftModel", "with", "[I", true)
  | 10 => ("KitchenDriftModel", "left", "[I", true)
  | 11 => ("KitchenDriftModel", "sights", "I", false)
  | 12 => ("KitchenDriftModel", "sight", "[I", true)
  | 13 => ("KitchenDriftModel", "signs", "I", false)
  | 14 => ("KitchenDriftModel", "pad", "[I", true)
  | 15 => ("KitchenDriftModel", "at", "[I", true)
  | 16 => ("KitchenDriftModel", "busyNow", "[I", true)
  | 17 => ("KitchenDriftModel", "withNow", "[I", true)
  | 18 => ("KitchenDriftModel", "leftNow", "[I", true)
  | 19 => ("KitchenDriftModel", "thingsNow", "[I", true)
  | 20 => ("KitchenDriftModel", "loose", "I", false)
  | 21 => ("KitchenDriftModel", "through", "[I", true)
  | 22 => ("KitchenDriftModel", "reason", "I", false)
  | 23 => ("KitchenDriftModel", "events", "I", false)
  | 24 => ("KitchenDriftModel", "states", "[J", true)
  | 25 => ("KitchenDriftModel", "dear", "[I", true)
  | 26 => ("KitchenDriftModel", "chances", "[J", true)
  | 27 => ("KitchenDriftModel", "then", "[J", true)
  | 28 => ("KitchenDriftModel", "image", "[I", true)
  | _ => ("KitchenDriftModel", "isKept", "[Z", true)
def tyX9 : Nat → FieldType := fun k => match k with
  | 0 => .int
  | 1 => .array .int
  | 2 => .array .int
  | 3 => .array .int
  | 4 => .array .int
  | 5 => .int
  | 6 => .array .int
  | 7 => .array .int
  | 8 => .array .int
  | 9 => .array .int
  | 10 => .array .int
  | 11 => .int
  | 12 => .array .int
  | 13 => .int
  | 14 => .array .int
  | 15 => .array .int
  | 16 => .array .int
  | 17 => .array .int
  | 18 => .array .int
  | 19 => .array .int
  | 20 => .int
  | 21 => .array .int
  | 22 => .int
  | 23 => .int
  | 24 => .array .long
  | 25 => .array .int
  | 26 => .array .long
  | 27 => .array .long
  | 28 => .array .int
  | _ => .array .boolean
abbrev wsX90 : List Cond := u_ws RX9 TX9 30
theorem nmX9 : ∀ a, a < 30 → ∀ b, b < 30 → a ≠ b → (TX9 a).2.1 ≠ (TX9 b).2.1 := by decide +kernel
theorem tyX9_ok : ∀ k, k < 30 → parseFieldDescriptor (TX9 k).2.2.1 = some (tyX9 k) := by decide +kernel
abbrev cX9_init : ByteArray := prog_11_method_1_code
def yX9_init : MethodName := ⟨RX9, "<init>", "()V"⟩
abbrev cX9_empty : ByteArray := prog_11_method_2_code
def yX9_empty : MethodName := ⟨RX9, "empty", "()V"⟩
abbrev cX9_in : ByteArray := prog_11_method_3_code
def yX9_in : MethodName := ⟨RX9, "in", "(III)Z"⟩
abbrev cX9_has : ByteArray := prog_11_method_4_code
def yX9_has : MethodName := ⟨RX9, "has", "(II)Z"⟩
abbrev cX9_bits : ByteArray := prog_11_method_5_code
def yX9_bits : MethodName := ⟨RX9, "bits", "(I)I"⟩
abbrev cX9_isRoom : ByteArray := prog_11_method_6_code
def yX9_isRoom : MethodName := ⟨RX9, "isRoom", "(I)Z"⟩
abbrev cX9_isThere : ByteArray := prog_11_method_7_code
def yX9_isThere : MethodName := ⟨RX9, "isThere", "(I)Z"⟩
abbrev cX9_rooms : ByteArray := prog_11_method_8_code
def yX9_rooms : MethodName := ⟨RX9, "rooms", "(I)I"⟩
abbrev cX9_inRoom : ByteArray := prog_11_method_9_code
def yX9_inRoom : MethodName := ⟨RX9, "inRoom", "(III)I"⟩
abbrev cX9_room : ByteArray := prog_11_method_10_code
def yX9_room : MethodName := ⟨RX9, "room", "(III)I"⟩
abbrev cX9_standsIn : ByteArray := prog_11_method_11_code
def yX9_standsIn : MethodName := ⟨RX9, "standsIn", "(III)Z"⟩
abbrev cX9_door : ByteArray := prog_11_method_12_code
def yX9_door : MethodName := ⟨RX9, "door", "(III)I"⟩
abbrev cX9_leaveOff : ByteArray := prog_11_method_13_code
def yX9_leaveOff : MethodName := ⟨RX9, "leaveOff", "(I)V"⟩
abbrev cX9_guest : ByteArray := prog_11_method_14_code
def yX9_guest : MethodName := ⟨RX9, "guest", "(II)I"⟩
abbrev cX9_likes : ByteArray := prog_11_method_15_code
def yX9_likes : MethodName := ⟨RX9, "likes", "(III)I"⟩
abbrev cX9_leave : ByteArray := prog_11_method_16_code
def yX9_leave : MethodName := ⟨RX9, "leave", "(I)I"⟩
abbrev cX9_say : ByteArray := prog_11_method_17_code
def yX9_say : MethodName := ⟨RX9, "say", "(I)I"⟩
abbrev cX9_wipe : ByteArray := prog_11_method_18_code
def yX9_wipe : MethodName := ⟨RX9, "wipe", "()I"⟩
abbrev cX9_faultOf : ByteArray := prog_11_method_19_code
def yX9_faultOf : MethodName := ⟨RX9, "faultOf", "()I"⟩
abbrev cX9_fault : ByteArray := prog_11_method_20_code
def yX9_fault : MethodName := ⟨RX9, "fault", "()I"⟩
abbrev cX9_asNow : ByteArray := prog_11_method_21_code
def yX9_asNow : MethodName := ⟨RX9, "asNow", "()V"⟩
abbrev cX9_countIn : ByteArray := prog_11_method_22_code
def yX9_countIn : MethodName := ⟨RX9, "countIn", "(II)I"⟩
abbrev cX9_drawOf : ByteArray := prog_11_method_23_code
def yX9_drawOf : MethodName := ⟨RX9, "drawOf", "(IIII)I"⟩
abbrev cX9_canGo : ByteArray := prog_11_method_24_code
def yX9_canGo : MethodName := ⟨RX9, "canGo", "(II)Z"⟩
abbrev cX9_goal : ByteArray := prog_11_method_25_code
def yX9_goal : MethodName := ⟨RX9, "goal", "(III)I"⟩
abbrev cX9_shut : ByteArray := prog_11_method_26_code
def yX9_shut : MethodName := ⟨RX9, "shut", "()V"⟩
abbrev cX9_pass : ByteArray := prog_11_method_27_code
def yX9_pass : MethodName := ⟨RX9, "pass", "()I"⟩
abbrev cX9_isBusy : ByteArray := prog_11_method_28_code
def yX9_isBusy : MethodName := ⟨RX9, "isBusy", "(I)Z"⟩
abbrev cX9_whyNotTalk : ByteArray := prog_11_method_29_code
def yX9_whyNotTalk : MethodName := ⟨RX9, "whyNotTalk", "(II)I"⟩
abbrev cX9_talk : ByteArray := prog_11_method_30_code
def yX9_talk : MethodName := ⟨RX9, "talk", "(III)V"⟩
abbrev cX9_sittingIn : ByteArray := prog_11_method_31_code
def yX9_sittingIn : MethodName := ⟨RX9, "sittingIn", "(I)I"⟩
abbrev cX9_whyNotDo : ByteArray := prog_11_method_32_code
def yX9_whyNotDo : MethodName := ⟨RX9, "whyNotDo", "(II)I"⟩
abbrev cX9_act : ByteArray := prog_11_method_33_code
def yX9_act : MethodName := ⟨RX9, "act", "(II)V"⟩
abbrev cX9_whyNotCarry : ByteArray := prog_11_method_34_code
def yX9_whyNotCarry : MethodName := ⟨RX9, "whyNotCarry", "(III)I"⟩
abbrev cX9_carry : ByteArray := prog_11_method_35_code
def yX9_carry : MethodName := ⟨RX9, "carry", "(III)V"⟩
abbrev cX9_goParty : ByteArray := prog_11_method_36_code
def yX9_goParty : MethodName := ⟨RX9, "goParty", "()I"⟩
abbrev cX9_judge : ByteArray := prog_11_method_37_code
def yX9_judge : MethodName := ⟨RX9, "judge", "(I)I"⟩
abbrev cX9_barOfParty : ByteArray := prog_11_method_38_code
def yX9_barOfParty : MethodName := ⟨RX9, "barOfParty", "()I"⟩
abbrev cX9_done : ByteArray := prog_11_method_39_code
def yX9_done : MethodName := ⟨RX9, "done", "()I"⟩
abbrev cX9_stateNow : ByteArray := prog_11_method_40_code
def yX9_stateNow : MethodName := ⟨RX9, "stateNow", "(II)I"⟩
abbrev cX9_state : ByteArray := prog_11_method_41_code
def yX9_state : MethodName := ⟨RX9, "state", "(II)I"⟩
abbrev cX9_behind : ByteArray := prog_11_method_42_code
def yX9_behind : MethodName := ⟨RX9, "behind", "(II)I"⟩
abbrev cX9_draw : ByteArray := prog_11_method_43_code
def yX9_draw : MethodName := ⟨RX9, "draw", "(II)I"⟩
abbrev cX9_goes : ByteArray := prog_11_method_44_code
def yX9_goes : MethodName := ⟨RX9, "goes", "(I)I"⟩
abbrev cX9_goMinutes : ByteArray := prog_11_method_45_code
def yX9_goMinutes : MethodName := ⟨RX9, "goMinutes", "(I)V"⟩
abbrev cX9_after : ByteArray := prog_11_method_46_code
def yX9_after : MethodName := ⟨RX9, "after", "(II)I"⟩
abbrev cX9_crowdIn : ByteArray := prog_11_method_47_code
def yX9_crowdIn : MethodName := ⟨RX9, "crowdIn", "(I)I"⟩
abbrev cX9_crowd : ByteArray := prog_11_method_48_code
def yX9_crowd : MethodName := ⟨RX9, "crowd", "(II)I"⟩
abbrev cX9_stillAt : ByteArray := prog_11_method_49_code
def yX9_stillAt : MethodName := ⟨RX9, "stillAt", "()I"⟩
abbrev cX9_still : ByteArray := prog_11_method_50_code
def yX9_still : MethodName := ⟨RX9, "still", "()I"⟩
abbrev cX9_note : ByteArray := prog_11_method_51_code
def yX9_note : MethodName := ⟨RX9, "note", "(I)V"⟩
abbrev cX9_round : ByteArray := prog_11_method_52_code
def yX9_round : MethodName := ⟨RX9, "round", "()I"⟩
abbrev cX9_fullest : ByteArray := prog_11_method_53_code
def yX9_fullest : MethodName := ⟨RX9, "fullest", "()I"⟩
abbrev cX9_throng : ByteArray := prog_11_method_54_code
def yX9_throng : MethodName := ⟨RX9, "throng", "(I)I"⟩
abbrev cX9_carried : ByteArray := prog_11_method_55_code
def yX9_carried : MethodName := ⟨RX9, "carried", "(II)I"⟩
abbrev cX9_hinges : ByteArray := prog_11_method_56_code
def yX9_hinges : MethodName := ⟨RX9, "hinges", "(II)I"⟩
abbrev cX9_best : ByteArray := prog_11_method_57_code
def yX9_best : MethodName := ⟨RX9, "best", "(I)I"⟩
abbrev cX9_areAtRest : ByteArray := prog_11_method_58_code
def yX9_areAtRest : MethodName := ⟨RX9, "areAtRest", "(I)Z"⟩
abbrev cX9_rests : ByteArray := prog_11_method_59_code
def yX9_rests : MethodName := ⟨RX9, "rests", "(II)I"⟩
abbrev cX9_led : ByteArray := prog_11_method_60_code
def yX9_led : MethodName := ⟨RX9, "led", "(IIII)I"⟩
abbrev cX9_excuses : ByteArray := prog_11_method_61_code
def yX9_excuses : MethodName := ⟨RX9, "excuses", "(III)I"⟩
abbrev cX9_seen : ByteArray := prog_11_method_62_code
def yX9_seen : MethodName := ⟨RX9, "seen", "(II)I"⟩
abbrev cX9_forget : ByteArray := prog_11_method_63_code
def yX9_forget : MethodName := ⟨RX9, "forget", "()I"⟩
abbrev cX9_tastes : ByteArray := prog_11_method_64_code
def yX9_tastes : MethodName := ⟨RX9, "tastes", "(II)I"⟩
abbrev cX9_drunk : ByteArray := prog_11_method_65_code
def yX9_drunk : MethodName := ⟨RX9, "drunk", "(IIIII)J"⟩
abbrev cX9_year : ByteArray := prog_11_method_66_code
def yX9_year : MethodName := ⟨RX9, "year", "(III)I"⟩
abbrev cX9_image : ByteArray := prog_11_method_67_code
def yX9_image : MethodName := ⟨RX9, "image", "(I)I"⟩
abbrev cX9_restore : ByteArray := prog_11_method_68_code
def yX9_restore : MethodName := ⟨RX9, "restore", "(I)I"⟩
abbrev cX9_told : ByteArray := prog_11_method_69_code
def yX9_told : MethodName := ⟨RX9, "told", "(I)I"⟩
def RJ6 : String := "java/lang/Integer"
abbrev cJ6_bitCount_0f7a4 : ByteArray := prog_12_method_49_code
def yJ6_bitCount_0f7a4 : MethodName := ⟨RJ6, "bitCount", "(I)I"⟩
def RJ9 : String := "java/lang/Math"
abbrev cJ9_max_7cf53 : ByteArray := prog_13_method_65_code
def yJ9_max_7cf53 : MethodName := ⟨RJ9, "max", "(II)I"⟩
abbrev cJ9_min_7cf53 : ByteArray := prog_13_method_69_code
def yJ9_min_7cf53 : MethodName := ⟨RJ9, "min", "(II)I"⟩
def RJ10 : String := "java/lang/System"
def RJ7 : String := "java/util/Arrays"
abbrev cJ7_fill_d0a16 : ByteArray := prog_15_method_101_code
def yJ7_fill_d0a16 : MethodName := ⟨RJ7, "fill", "([JJ)V"⟩
abbrev cJ7_fill_53178 : ByteArray := prog_15_method_103_code
def yJ7_fill_53178 : MethodName := ⟨RJ7, "fill", "([II)V"⟩
def RL : String := "KitchenDriftLaw"
abbrev cL_law : ByteArray := code
def yL_law : MethodName := ⟨RL, "law", "([I)Z"⟩
abbrev vwCl : List vw_C := [(RX0, TX0, 5), (RX1, TX1, 12), (RX2, TX2, 2), (RX3, TX3, 2), (RX4, TX4, 11), (RX5, TX5, 2), (RX6, TX6, 3), (RX7, TX7, 2), (RX8, TX8, 11), (RX9, TX9, 30)]
/-- the words that every method may use: those of lw_tbl that hold in every later state -/
def tb : List Cond := lw_tbl.filter goodWord
theorem tb_in (i : Nat) {w : Cond} (h : lw_tbl[i]? = some w) (hg : goodWord w = true) : w ∈ tb := List.mem_filter.mpr ⟨List.mem_of_getElem? h, hg⟩
theorem tb_m0 (i : Nat) {w : Cond} (h : (k2_sels lw_privs)[i]? = some w) (hg : goodWord w = true) : w ∈ tb := List.mem_filter.mpr ⟨List.mem_append_left _ (List.mem_of_getElem? h), hg⟩
theorem tb_m1 (i : Nat) {w : Cond} (h : tables_1_1[i]? = some w) (hg : goodWord w = true) : w ∈ tb := List.mem_filter.mpr ⟨List.mem_append_right _ (List.mem_append_left _ (List.mem_of_getElem? h)), hg⟩
theorem tb_m2 (i : Nat) {w : Cond} (h : tables_1_2[i]? = some w) (hg : goodWord w = true) : w ∈ tb := List.mem_filter.mpr ⟨List.mem_append_right _ (List.mem_append_right _ (List.mem_append_left _ (List.mem_of_getElem? h))), hg⟩
theorem tb_m3 (i : Nat) {w : Cond} (h : tables_1_3[i]? = some w) (hg : goodWord w = true) : w ∈ tb := List.mem_filter.mpr ⟨List.mem_append_right _ (List.mem_append_right _ (List.mem_append_right _ (List.mem_append_left _ (List.mem_of_getElem? h)))), hg⟩
theorem tb_m4 (i : Nat) {w : Cond} (h : tables_1_4[i]? = some w) (hg : goodWord w = true) : w ∈ tb := List.mem_filter.mpr ⟨List.mem_append_right _ (List.mem_append_right _ (List.mem_append_right _ (List.mem_append_right _ (List.mem_append_left _ (List.mem_of_getElem? h))))), hg⟩
theorem tb_m5 (i : Nat) {w : Cond} (h : tables_1_5[i]? = some w) (hg : goodWord w = true) : w ∈ tb := List.mem_filter.mpr ⟨List.mem_append_right _ (List.mem_append_right _ (List.mem_append_right _ (List.mem_append_right _ (List.mem_append_right _ (List.mem_of_getElem? h))))), hg⟩
theorem tb_good : GoodIn tb tb := fun w h => ⟨h, good_of_word (List.mem_filter.mp h).2⟩
theorem tb_lw : ∀ w ∈ tb, w ∈ lw_tbl := fun w h => (List.mem_filter.mp h).1
end
section
theorem mw_0 : Cond.selects RX1 yX1_engage yX1_engage ∈ tb := tb_m0 0 rfl rfl
theorem mw_1 : Cond.selects RX2 yX2_follow yX2_follow ∈ tb := tb_m0 1 rfl rfl
theorem mw_2 : Cond.selects RX0 yX0_readyTastes yX0_readyTastes ∈ tb := tb_m0 2 rfl rfl
theorem mw_3 : Cond.selects RX0 yX0_readyJam yX0_readyJam ∈ tb := tb_m0 3 rfl rfl
theorem mw_4 : Cond.selects RX0 yX0_moves yX0_moves ∈ tb := tb_m0 4 rfl rfl
theorem mw_5 : Cond.selects RX8 yX8_playsOut yX8_playsOut ∈ tb := tb_m0 5 rfl rfl
theorem mw_6 : Cond.selects RX8 yX8_firstStill yX8_firstStill ∈ tb := tb_m0 6 rfl rfl
theorem mw_7 : Cond.selects RX8 yX8_fullestBehind yX8_fullestBehind ∈ tb := tb_m0 7 rfl rfl
theorem mw_8 : Cond.selects RX8 yX8_fullestCarrying yX8_fullestCarrying ∈ tb := tb_m0 8 rfl rfl
theorem mw_9 : Cond.selects RX8 yX8_fullestUnhinged yX8_fullestUnhinged ∈ tb := tb_m0 9 rfl rfl
theorem mw_10 : Cond.selects RX4 yX4_enlist yX4_enlist ∈ tb := tb_m0 10 rfl rfl
theorem mw_11 : Cond.selects RX4 yX4_deal yX4_deal ∈ tb := tb_m0 11 rfl rfl
theorem mw_12 : Cond.selects RX4 yX4_weigh yX4_weigh ∈ tb := tb_m0 12 rfl rfl
theorem mw_13 : Cond.selects RX4 yX4_contentRooms yX4_contentRooms ∈ tb := tb_m0 13 rfl rfl
theorem mw_14 : Cond.selects RX4 yX4_isContent yX4_isContent ∈ tb := tb_m0 14 rfl rfl
theorem mw_15 : Cond.selects RX4 yX4_put yX4_put ∈ tb := tb_m0 15 rfl rfl
theorem mw_16 : Cond.selects RX8 yX8_leadsTo yX8_leadsTo ∈ tb := tb_m0 16 rfl rfl
theorem mw_17 : Cond.selects RX5 yX5_shorten yX5_shorten ∈ tb := tb_m0 17 rfl rfl
theorem mw_18 : Cond.selects RX5 yX5_follower yX5_follower ∈ tb := tb_m0 18 rfl rfl
theorem mw_19 : Cond.selects RX6 yX6_spread yX6_spread ∈ tb := tb_m0 19 rfl rfl
theorem mw_20 : Cond.selects RX6 yX6_shared yX6_shared ∈ tb := tb_m0 20 rfl rfl
theorem mw_21 : Cond.selects RX7 yX7_meet yX7_meet ∈ tb := tb_m0 21 rfl rfl
theorem mw_22 : Cond.selects RX8 yX8_toldByCode yX8_toldByCode ∈ tb := tb_m0 22 rfl rfl
theorem mw_23 : Cond.selects RX9 yX9_empty yX9_empty ∈ tb := tb_m0 23 rfl rfl
theorem mw_24 : Cond.selects RX9 yX9_isRoom yX9_isRoom ∈ tb := tb_m0 24 rfl rfl
theorem mw_25 : Cond.selects RX9 yX9_inRoom yX9_inRoom ∈ tb := tb_m0 25 rfl rfl
theorem mw_26 : Cond.selects RX9 yX9_standsIn yX9_standsIn ∈ tb := tb_m0 26 rfl rfl
theorem mw_27 : Cond.selects RX9 yX9_leaveOff yX9_leaveOff ∈ tb := tb_m0 27 rfl rfl
theorem mw_28 : Cond.selects RX9 yX9_isThere yX9_isThere ∈ tb := tb_m0 28 rfl rfl
theorem mw_29 : Cond.selects RX9 yX9_faultOf yX9_faultOf ∈ tb := tb_m0 29 rfl rfl
theorem mw_30 : Cond.selects RX9 yX9_goParty yX9_goParty ∈ tb := tb_m0 30 rfl rfl
theorem mw_31 : Cond.selects RX9 yX9_asNow yX9_asNow ∈ tb := tb_m0 31 rfl rfl
theorem mw_32 : Cond.selects RX9 yX9_pass yX9_pass ∈ tb := tb_m0 32 rfl rfl
theorem mw_33 : Cond.selects RX9 yX9_shut yX9_shut ∈ tb := tb_m0 33 rfl rfl
theorem mw_34 : Cond.selects RX9 yX9_goal yX9_goal ∈ tb := tb_m0 34 rfl rfl
theorem mw_35 : Cond.selects RX9 yX9_drawOf yX9_drawOf ∈ tb := tb_m0 35 rfl rfl
theorem mw_36 : Cond.selects RX9 yX9_countIn yX9_countIn ∈ tb := tb_m0 36 rfl rfl
theorem mw_37 : Cond.selects RX9 yX9_canGo yX9_canGo ∈ tb := tb_m0 37 rfl rfl
theorem mw_38 : Cond.selects RX9 yX9_whyNotCarry yX9_whyNotCarry ∈ tb := tb_m0 38 rfl rfl
theorem mw_39 : Cond.selects RX9 yX9_carry yX9_carry ∈ tb := tb_m0 39 rfl rfl
theorem mw_40 : Cond.selects RX9 yX9_whyNotTalk yX9_whyNotTalk ∈ tb := tb_m0 40 rfl rfl
theorem mw_41 : Cond.selects RX9 yX9_isBusy yX9_isBusy ∈ tb := tb_m0 41 rfl rfl
theorem mw_42 : Cond.selects RX9 yX9_talk yX9_talk ∈ tb := tb_m0 42 rfl rfl
theorem mw_43 : Cond.selects RX9 yX9_whyNotDo yX9_whyNotDo ∈ tb := tb_m0 43 rfl rfl
theorem mw_44 : Cond.selects RX9 yX9_sittingIn yX9_sittingIn ∈ tb := tb_m0 44 rfl rfl
theorem mw_45 : Cond.selects RX9 yX9_act yX9_act ∈ tb := tb_m0 45 rfl rfl
theorem mw_46 : Cond.selects RX9 yX9_barOfParty yX9_barOfParty ∈ tb := tb_m0 46 rfl rfl
theorem mw_47 : Cond.selects RX9 yX9_stateNow yX9_stateNow ∈ tb := tb_m0 47 rfl rfl
theorem mw_48 : Cond.selects RX9 yX9_goMinutes yX9_goMinutes ∈ tb := tb_m0 48 rfl rfl
theorem mw_49 : Cond.selects RX9 yX9_crowdIn yX9_crowdIn ∈ tb := tb_m0 49 rfl rfl
theorem mw_50 : Cond.selects RX9 yX9_stillAt yX9_stillAt ∈ tb := tb_m0 50 rfl rfl
theorem mw_51 : Cond.selects RX9 yX9_note yX9_note ∈ tb := tb_m0 51 rfl rfl
theorem mw_52 : Cond.selects RX9 yX9_fullest yX9_fullest ∈ tb := tb_m0 52 rfl rfl
theorem mw_53 : Cond.selects RX9 yX9_areAtRest yX9_areAtRest ∈ tb := tb_m0 53 rfl rfl
theorem mw_54 : Cond.initialized RL ∈ tb := tb_m1 0 rfl rfl
theorem mw_55 : Cond.initialized RX8 ∈ tb := tb_m1 1 rfl rfl
theorem mw_56 : Cond.initialized RX1 ∈ tb := tb_m1 2 rfl rfl
theorem mw_57 : Cond.initialized RX2 ∈ tb := tb_m1 3 rfl rfl
theorem mw_58 : Cond.initialized RX0 ∈ tb := tb_m1 4 rfl rfl
theorem mw_59 : Cond.initialized RX3 ∈ tb := tb_m1 5 rfl rfl
theorem mw_60 : Cond.initialized RX4 ∈ tb := tb_m1 6 rfl rfl
theorem mw_61 : Cond.initialized RX5 ∈ tb := tb_m1 7 rfl rfl
theorem mw_62 : Cond.initialized RX6 ∈ tb := tb_m1 8 rfl rfl
theorem mw_63 : Cond.initialized RX7 ∈ tb := tb_m1 9 rfl rfl
theorem mw_64 : Cond.initialized RJ7 ∈ tb := tb_m1 10 rfl rfl
theorem mw_65 : Cond.initialized RX9 ∈ tb := tb_m1 11 rfl rfl
theorem mw_66 : Cond.initialized RJ6 ∈ tb := tb_m1 12 rfl rfl
theorem mw_67 : Cond.initialized RJ10 ∈ tb := tb_m1 13 rfl rfl
theorem mw_68 : Cond.initialized RJ9 ∈ tb := tb_m1 14 rfl rfl
theorem mw_69 : Cond.classLink RL 7 RX8 ∈ tb := tb_m1 15 rfl rfl
theorem mw_70 : Cond.instantiable RX8 11 ∈ tb := tb_m1 16 rfl rfl
theorem mw_71 : Cond.methodLink RL 9 yX8_init ∈ tb := tb_m1 17 rfl rfl
theorem mw_72 : Cond.instanceMethod yX8_init ∈ tb := tb_m1 18 rfl rfl
theorem mw_73 : Cond.code yX8_init cX8_init 1 none ∈ tb := tb_m1 19 rfl rfl
theorem mw_74 : Cond.methodLink RX8 1 objectInit ∈ tb := tb_m1 20 rfl rfl
theorem mw_75 : Cond.instanceMethod objectInit ∈ tb := tb_m1 21 rfl rfl
theorem mw_77 : Cond.classLink RX8 7 RX1 ∈ tb := tb_m1 23 rfl rfl
theorem mw_78 : Cond.instantiable RX1 12 ∈ tb := tb_m1 24 rfl rfl
theorem mw_80 : Cond.instanceMethod yX1_init ∈ tb := tb_m1 26 rfl rfl
theorem mw_81 : Cond.code yX1_init cX1_init 1 none ∈ tb := tb_m1 27 rfl rfl
theorem mw_82 : Cond.methodLink RX1 3 objectInit ∈ tb := tb_m1 28 rfl rfl
theorem mw_83 : Cond.fieldLink RX1 39 "KitchenDrift$House" "rooms" "I" ∈ tb := tb_m1 29 rfl rfl
theorem mw_84 : Cond.fieldLink RX5 18 "KitchenDrift$House" "rooms" "I" ∈ tb := tb_m1 30 rfl rfl
theorem mw_85 : Cond.fieldLink RX4 43 "KitchenDrift$House" "rooms" "I" ∈ tb := tb_m1 31 rfl rfl
theorem mw_86 : Cond.fieldLink RX8 81 "KitchenDrift$House" "rooms" "I" ∈ tb := tb_m1 32 rfl rfl
theorem mw_87 : Cond.fieldLink RX6 34 "KitchenDrift$House" "rooms" "I" ∈ tb := tb_m1 33 rfl rfl
theorem mw_88 : Cond.fieldLink RX0 67 "KitchenDrift$House" "rooms" "I" ∈ tb := tb_m1 34 rfl rfl
theorem mw_89 : Cond.fieldLink RX1 43 "KitchenDrift$House" "there" "I" ∈ tb := tb_m1 35 rfl rfl
theorem mw_90 : Cond.fieldLink RX8 119 "KitchenDrift$House" "there" "I" ∈ tb := tb_m1 36 rfl rfl
theorem mw_91 : Cond.fieldLink RX1 46 "KitchenDrift$House" "sights" "I" ∈ tb := tb_m1 37 rfl rfl
theorem mw_92 : Cond.fieldLink RX8 250 "KitchenDrift$House" "sights" "I" ∈ tb := tb_m1 38 rfl rfl
theorem mw_93 : Cond.fieldLink RX1 9 "KitchenDrift$House" "measure" "[I" ∈ tb := tb_m1 39 rfl rfl
theorem mw_94 : Cond.fieldLink RX8 96 "KitchenDrift$House" "measure" "[I" ∈ tb := tb_m1 40 rfl rfl
theorem mw_95 : Cond.fieldLink RX0 87 "KitchenDrift$House" "measure" "[I" ∈ tb := tb_m1 41 rfl rfl
theorem mw_96 : Cond.fieldLink RX1 15 "KitchenDrift$House" "width" "[I" ∈ tb := tb_m1 42 rfl rfl
theorem mw_97 : Cond.fieldLink RX0 44 "KitchenDrift$House" "width" "[I" ∈ tb := tb_m1 43 rfl rfl
theorem mw_98 : Cond.fieldLink RX8 107 "KitchenDrift$House" "width" "[I" ∈ tb := tb_m1 44 rfl rfl
theorem mw_99 : Cond.fieldLink RX1 18 "KitchenDrift$House" "place" "[I" ∈ tb := tb_m1 45 rfl rfl
theorem mw_100 : Cond.fieldLink RX6 24 "KitchenDrift$House" "place" "[I" ∈ tb := tb_m1 46 rfl rfl
theorem mw_101 : Cond.fieldLink RX0 57 "KitchenDrift$House" "place" "[I" ∈ tb := tb_m1 47 rfl rfl
theorem mw_102 : Cond.fieldLink RX8 122 "KitchenDrift$House" "place" "[I" ∈ tb := tb_m1 48 rfl rfl
theorem mw_103 : Cond.fieldLink RX1 21 "KitchenDrift$House" "busy" "[I" ∈ tb := tb_m1 49 rfl rfl
theorem mw_104 : Cond.fieldLink RX0 78 "KitchenDrift$House" "busy" "[I" ∈ tb := tb_m1 50 rfl rfl
theorem mw_105 : Cond.fieldLink RX8 172 "KitchenDrift$House" "busy" "[I" ∈ tb := tb_m1 51 rfl rfl
theorem mw_106 : Cond.fieldLink RX1 24 "KitchenDrift$House" "mate" "[I" ∈ tb := tb_m1 52 rfl rfl
theorem mw_107 : Cond.fieldLink RX0 75 "KitchenDrift$House" "mate" "[I" ∈ tb := tb_m1 53 rfl rfl
theorem mw_108 : Cond.fieldLink RX1 27 "KitchenDrift$House" "left" "[I" ∈ tb := tb_m1 54 rfl rfl
theorem mw_109 : Cond.fieldLink RX1 30 "KitchenDrift$House" "likes" "[I" ∈ tb := tb_m1 55 rfl rfl
theorem mw_110 : Cond.fieldLink RX4 73 "KitchenDrift$House" "likes" "[I" ∈ tb := tb_m1 56 rfl rfl
theorem mw_111 : Cond.fieldLink RX8 133 "KitchenDrift$House" "likes" "[I" ∈ tb := tb_m1 57 rfl rfl
theorem mw_112 : Cond.fieldLink RX0 84 "KitchenDrift$House" "likes" "[I" ∈ tb := tb_m1 58 rfl rfl
theorem mw_113 : Cond.fieldLink RX1 33 "KitchenDrift$House" "sightGuest" "[I" ∈ tb := tb_m1 59 rfl rfl
theorem mw_114 : Cond.fieldLink RX8 253 "KitchenDrift$House" "sightGuest" "[I" ∈ tb := tb_m1 60 rfl rfl
theorem mw_115 : Cond.fieldLink RX1 36 "KitchenDrift$House" "sightRoom" "[I" ∈ tb := tb_m1 61 rfl rfl
theorem mw_116 : Cond.fieldLink RX8 256 "KitchenDrift$House" "sightRoom" "[I" ∈ tb := tb_m1 62 rfl rfl
theorem mw_144 : Cond.classLink RX8 24 RX2 ∈ tb := tb_m1 90 rfl rfl
theorem mw_145 : Cond.instantiable RX2 2 ∈ tb := tb_m1 91 rfl rfl
theorem mw_147 : Cond.instanceMethod yX2_init ∈ tb := tb_m1 93 rfl rfl
theorem mw_148 : Cond.code yX2_init cX2_init 1 none ∈ tb := tb_m1 94 rfl rfl
theorem mw_149 : Cond.methodLink RX2 3 objectInit ∈ tb := tb_m1 95 rfl rfl
theorem mw_150 : Cond.fieldLink RX2 15 "KitchenDrift$Pad" "used" "I" ∈ tb := tb_m1 96 rfl rfl
theorem mw_151 : Cond.fieldLink RX3 24 "KitchenDrift$Pad" "used" "I" ∈ tb := tb_m1 97 rfl rfl
theorem mw_152 : Cond.fieldLink RX8 139 "KitchenDrift$Pad" "used" "I" ∈ tb := tb_m1 98 rfl rfl
theorem mw_153 : Cond.fieldLink RX2 9 "KitchenDrift$Pad" "signs" "[I" ∈ tb := tb_m1 99 rfl rfl
theorem mw_160 : Cond.classLink RX8 31 RX0 ∈ tb := tb_m1 106 rfl rfl
theorem mw_161 : Cond.instantiable RX0 5 ∈ tb := tb_m1 107 rfl rfl
theorem mw_163 : Cond.instanceMethod yX0_init ∈ tb := tb_m1 109 rfl rfl
theorem mw_164 : Cond.code yX0_init cX0_init 1 none ∈ tb := tb_m1 110 rfl rfl
theorem mw_165 : Cond.methodLink RX0 3 objectInit ∈ tb := tb_m1 111 rfl rfl
theorem mw_166 : Cond.classLink RX0 9 RX1 ∈ tb := tb_m1 112 rfl rfl
theorem mw_168 : Cond.fieldLink RX0 12 "KitchenDrift$Drift" "house" "LKitchenDrift$House;" ∈ tb := tb_m1 114 rfl rfl
theorem mw_169 : Cond.fieldLink RX7 19 "KitchenDrift$Drift" "house" "LKitchenDrift$House;" ∈ tb := tb_m1 115 rfl rfl
theorem mw_170 : Cond.fieldLink RX3 40 "KitchenDrift$Drift" "house" "LKitchenDrift$House;" ∈ tb := tb_m1 116 rfl rfl
theorem mw_171 : Cond.fieldLink RX8 159 "KitchenDrift$Drift" "house" "LKitchenDrift$House;" ∈ tb := tb_m1 117 rfl rfl
theorem mw_172 : Cond.fieldLink RX0 18 "KitchenDrift$Drift" "taste" "[I" ∈ tb := tb_m1 118 rfl rfl
theorem mw_173 : Cond.fieldLink RX0 22 "KitchenDrift$Drift" "crowd" "[I" ∈ tb := tb_m1 119 rfl rfl
theorem mw_174 : Cond.fieldLink RX0 25 "KitchenDrift$Drift" "wide" "[I" ∈ tb := tb_m1 120 rfl rfl
theorem mw_175 : Cond.fieldLink RX0 28 "KitchenDrift$Drift" "gone" "[I" ∈ tb := tb_m1 121 rfl rfl
theorem mw_187 : Cond.classLink RX8 38 RX3 ∈ tb := tb_m1 133 rfl rfl
theorem mw_188 : Cond.instantiable RX3 2 ∈ tb := tb_m1 134 rfl rfl
theorem mw_190 : Cond.instanceMethod yX3_init ∈ tb := tb_m1 136 rfl rfl
theorem mw_191 : Cond.code yX3_init cX3_init 1 none ∈ tb := tb_m1 137 rfl rfl
theorem mw_192 : Cond.methodLink RX3 3 objectInit ∈ tb := tb_m1 138 rfl rfl
theorem mw_193 : Cond.fieldLink RX3 15 "KitchenDrift$Play" "events" "I" ∈ tb := tb_m1 139 rfl rfl
theorem mw_194 : Cond.fieldLink RX8 152 "KitchenDrift$Play" "events" "I" ∈ tb := tb_m1 140 rfl rfl
theorem mw_195 : Cond.fieldLink RX3 21 "KitchenDrift$Play" "why" "I" ∈ tb := tb_m1 141 rfl rfl
theorem mw_196 : Cond.fieldLink RX8 149 "KitchenDrift$Play" "why" "I" ∈ tb := tb_m1 142 rfl rfl
theorem mw_202 : Cond.classLink RX8 45 RX4 ∈ tb := tb_m1 148 rfl rfl
theorem mw_203 : Cond.instantiable RX4 11 ∈ tb := tb_m1 149 rfl rfl
theorem mw_205 : Cond.instanceMethod yX4_init ∈ tb := tb_m1 151 rfl rfl
theorem mw_206 : Cond.code yX4_init cX4_init 1 none ∈ tb := tb_m1 152 rfl rfl
theorem mw_207 : Cond.methodLink RX4 3 objectInit ∈ tb := tb_m1 153 rfl rfl
theorem mw_208 : Cond.fieldLink RX4 33 "KitchenDrift$Rest" "ways" "I" ∈ tb := tb_m1 154 rfl rfl
theorem mw_209 : Cond.fieldLink RX8 228 "KitchenDrift$Rest" "ways" "I" ∈ tb := tb_m1 155 rfl rfl
theorem mw_210 : Cond.fieldLink RX4 37 "KitchenDrift$Rest" "first" "I" ∈ tb := tb_m1 156 rfl rfl
theorem mw_211 : Cond.fieldLink RX4 40 "KitchenDrift$Rest" "members" "I" ∈ tb := tb_m1 157 rfl rfl
theorem mw_212 : Cond.fieldLink RX4 48 "KitchenDrift$Rest" "rooms" "I" ∈ tb := tb_m1 158 rfl rfl
theorem mw_213 : Cond.fieldLink RX4 9 "KitchenDrift$Rest" "member" "[I" ∈ tb := tb_m1 159 rfl rfl
theorem mw_214 : Cond.fieldLink RX4 15 "KitchenDrift$Rest" "company" "[I" ∈ tb := tb_m1 160 rfl rfl
theorem mw_215 : Cond.fieldLink RX4 18 "KitchenDrift$Rest" "taste" "[I" ∈ tb := tb_m1 161 rfl rfl
theorem mw_216 : Cond.fieldLink RX4 21 "KitchenDrift$Rest" "content" "[I" ∈ tb := tb_m1 162 rfl rfl
theorem mw_217 : Cond.fieldLink RX4 24 "KitchenDrift$Rest" "size" "[I" ∈ tb := tb_m1 163 rfl rfl
theorem mw_218 : Cond.fieldLink RX4 27 "KitchenDrift$Rest" "fixed" "[I" ∈ tb := tb_m1 164 rfl rfl
theorem mw_219 : Cond.fieldLink RX4 30 "KitchenDrift$Rest" "share" "[I" ∈ tb := tb_m1 165 rfl rfl
theorem mw_243 : Cond.classLink RX8 52 RX5 ∈ tb := tb_m1 189 rfl rfl
theorem mw_244 : Cond.instantiable RX5 2 ∈ tb := tb_m1 190 rfl rfl
theorem mw_246 : Cond.instanceMethod yX5_init ∈ tb := tb_m1 192 rfl rfl
theorem mw_247 : Cond.code yX5_init cX5_init 1 none ∈ tb := tb_m1 193 rfl rfl
theorem mw_248 : Cond.methodLink RX5 3 objectInit ∈ tb := tb_m1 194 rfl rfl
theorem mw_249 : Cond.fieldLink RX5 9 "KitchenDrift$Route" "toll" "[I" ∈ tb := tb_m1 195 rfl rfl
theorem mw_250 : Cond.fieldLink RX5 15 "KitchenDrift$Route" "far" "[I" ∈ tb := tb_m1 196 rfl rfl
theorem mw_256 : Cond.classLink RX8 59 RX6 ∈ tb := tb_m1 202 rfl rfl
theorem mw_257 : Cond.instantiable RX6 3 ∈ tb := tb_m1 203 rfl rfl
theorem mw_259 : Cond.instanceMethod yX6_init ∈ tb := tb_m1 205 rfl rfl
theorem mw_260 : Cond.code yX6_init cX6_init 1 none ∈ tb := tb_m1 206 rfl rfl
theorem mw_261 : Cond.methodLink RX6 3 objectInit ∈ tb := tb_m1 207 rfl rfl
theorem mw_262 : Cond.fieldLink RX6 30 "KitchenDrift$Stagger" "whole" "J" ∈ tb := tb_m1 208 rfl rfl
theorem mw_263 : Cond.fieldLink RX6 9 "KitchenDrift$Stagger" "chance" "[J" ∈ tb := tb_m1 209 rfl rfl
theorem mw_264 : Cond.fieldLink RX6 15 "KitchenDrift$Stagger" "next" "[J" ∈ tb := tb_m1 210 rfl rfl
theorem mw_273 : Cond.classLink RX8 66 RX7 ∈ tb := tb_m1 219 rfl rfl
theorem mw_274 : Cond.instantiable RX7 2 ∈ tb := tb_m1 220 rfl rfl
theorem mw_276 : Cond.instanceMethod yX7_init ∈ tb := tb_m1 222 rfl rfl
theorem mw_277 : Cond.code yX7_init cX7_init 1 none ∈ tb := tb_m1 223 rfl rfl
theorem mw_278 : Cond.methodLink RX7 3 objectInit ∈ tb := tb_m1 224 rfl rfl
theorem mw_279 : Cond.fieldLink RX7 9 "KitchenDrift$Year" "went" "I" ∈ tb := tb_m1 225 rfl rfl
theorem mw_280 : Cond.fieldLink RX8 284 "KitchenDrift$Year" "went" "I" ∈ tb := tb_m1 226 rfl rfl
theorem mw_281 : Cond.fieldLink RX7 15 "KitchenDrift$Year" "talks" "I" ∈ tb := tb_m1 227 rfl rfl
theorem mw_282 : Cond.fieldLink RX8 287 "KitchenDrift$Year" "talks" "I" ∈ tb := tb_m1 228 rfl rfl
theorem mw_288 : Cond.methodLink RX8 77 yX1_clear ∈ tb := tb_m1 234 rfl rfl
theorem mw_289 : Cond.instanceMethod yX1_clear ∈ tb := tb_m1 235 rfl rfl
theorem mw_290 : Cond.selects RX1 yX1_clear yX1_clear ∈ tb := tb_m1 236 rfl rfl
theorem mw_291 : Cond.code yX1_clear cX1_clear 3 none ∈ tb := tb_m1 237 rfl rfl
theorem mw_292 : Cond.methodLink RX1 49 yJ7_fill_53178 ∈ tb := tb_m1 238 rfl rfl
theorem mw_293 : Cond.static yJ7_fill_53178 ∈ tb := tb_m1 239 rfl rfl
theorem mw_294 : Cond.code yJ7_fill_53178 cJ7_fill_53178 4 none ∈ tb := tb_m2 0 rfl rfl
theorem mw_295 : Cond.fieldLink RX8 10 "KitchenDrift" "now" "LKitchenDrift$House;" ∈ tb := tb_m2 1 rfl rfl
theorem mw_296 : Cond.fieldLink RX8 16 "KitchenDrift" "images" "[LKitchenDrift$House;" ∈ tb := tb_m2 2 rfl rfl
theorem mw_297 : Cond.fieldLink RX8 20 "KitchenDrift" "kept" "[Z" ∈ tb := tb_m2 3 rfl rfl
theorem mw_298 : Cond.fieldLink RX8 27 "KitchenDrift" "pad" "LKitchenDrift$Pad;" ∈ tb := tb_m2 4 rfl rfl
theorem mw_299 : Cond.fieldLink RX8 34 "KitchenDrift" "drift" "LKitchenDrift$Drift;" ∈ tb := tb_m2 5 rfl rfl
theorem mw_300 : Cond.fieldLink RX8 41 "KitchenDrift" "play" "LKitchenDrift$Play;" ∈ tb := tb_m2 6 rfl rfl
theorem mw_301 : Cond.fieldLink RX8 48 "KitchenDrift" "rest" "LKitchenDrift$Rest;" ∈ tb := tb_m2 7 rfl rfl
theorem mw_302 : Cond.fieldLink RX8 55 "KitchenDrift" "route" "LKitchenDrift$Route;" ∈ tb := tb_m2 8 rfl rfl
theorem mw_303 : Cond.fieldLink RX8 62 "KitchenDrift" "stagger" "LKitchenDrift$Stagger;" ∈ tb := tb_m2 9 rfl rfl
theorem mw_304 : Cond.fieldLink RX8 69 "KitchenDrift" "draws" "LKitchenDrift$Year;" ∈ tb := tb_m2 10 rfl rfl
theorem mw_305 : Cond.fieldLink RX8 73 "KitchenDrift" "ends" "[J" ∈ tb := tb_m2 11 rfl rfl
theorem mw_329 : Cond.methodLink RL 13 yX8_rooms ∈ tb := tb_m2 35 rfl rfl
theorem mw_330 : Cond.instanceMethod yX8_rooms ∈ tb := tb_m2 36 rfl rfl
theorem mw_331 : Cond.selects RX8 yX8_rooms yX8_rooms ∈ tb := tb_m2 37 rfl rfl
theorem mw_332 : Cond.code yX8_rooms cX8_rooms 3 (some .int) ∈ tb := tb_m2 38 rfl rfl
theorem mw_333 : Cond.methodLink RL 18 yX8_room ∈ tb := tb_m2 39 rfl rfl
theorem mw_334 : Cond.instanceMethod yX8_room ∈ tb := tb_m2 40 rfl rfl
theorem mw_335 : Cond.selects RX8 yX8_room yX8_room ∈ tb := tb_m2 41 rfl rfl
theorem mw_336 : Cond.code yX8_room cX8_room 6 (some .int) ∈ tb := tb_m2 42 rfl rfl
theorem mw_337 : Cond.methodLink RX8 85 yX1_isRoom ∈ tb := tb_m2 43 rfl rfl
theorem mw_338 : Cond.instanceMethod yX1_isRoom ∈ tb := tb_m2 44 rfl rfl
theorem mw_339 : Cond.selects RX1 yX1_isRoom yX1_isRoom ∈ tb := tb_m2 45 rfl rfl
theorem mw_340 : Cond.code yX1_isRoom cX1_isRoom 2 (some .boolean) ∈ tb := tb_m2 46 rfl rfl
theorem mw_341 : Cond.methodLink RX8 89 yX1_count ∈ tb := tb_m2 47 rfl rfl
theorem mw_342 : Cond.instanceMethod yX1_count ∈ tb := tb_m2 48 rfl rfl
theorem mw_343 : Cond.selects RX1 yX1_count yX1_count ∈ tb := tb_m2 49 rfl rfl
theorem mw_344 : Cond.code yX1_count cX1_count 2 (some .int) ∈ tb := tb_m2 50 rfl rfl
theorem mw_345 : Cond.methodLink RX1 65 yX1_bitsIn ∈ tb := tb_m2 51 rfl rfl
theorem mw_346 : Cond.instanceMethod yX1_bitsIn ∈ tb := tb_m2 52 rfl rfl
theorem mw_347 : Cond.selects RX1 yX1_bitsIn yX1_bitsIn ∈ tb := tb_m2 53 rfl rfl
theorem mw_348 : Cond.code yX1_bitsIn cX1_bitsIn 4 (some .int) ∈ tb := tb_m2 54 rfl rfl
theorem mw_349 : Cond.methodLink RX1 61 yX1_isThere ∈ tb := tb_m2 55 rfl rfl
theorem mw_350 : Cond.instanceMethod yX1_isThere ∈ tb := tb_m2 56 rfl rfl
theorem mw_351 : Cond.selects RX1 yX1_isThere yX1_isThere ∈ tb := tb_m2 57 rfl rfl
theorem mw_352 : Cond.code yX1_isThere cX1_isThere 2 (some .boolean) ∈ tb := tb_m2 58 rfl rfl
theorem mw_353 : Cond.methodLink RX1 69 yJ6_bitCount_0f7a4 ∈ tb := tb_m2 59 rfl rfl
theorem mw_354 : Cond.static yJ6_bitCount_0f7a4 ∈ tb := tb_m2 60 rfl rfl
theorem mw_355 : Cond.code yJ6_bitCount_0f7a4 cJ6_bitCount_0f7a4 1 (some .int) ∈ tb := tb_m2 61 rfl rfl
theorem mw_356 : Cond.constant RJ6 265 (1431655765) ∈ tb := tb_m2 62 rfl rfl
theorem mw_357 : Cond.constant RJ6 266 (858993459) ∈ tb := tb_m2 63 rfl rfl
theorem mw_358 : Cond.constant RJ6 267 (252645135) ∈ tb := tb_m2 64 rfl rfl
theorem mw_359 : Cond.methodLink RX8 93 yX1_sitters ∈ tb := tb_m2 65 rfl rfl
theorem mw_360 : Cond.instanceMethod yX1_sitters ∈ tb := tb_m2 66 rfl rfl
theorem mw_361 : Cond.selects RX1 yX1_sitters yX1_sitters ∈ tb := tb_m2 67 rfl rfl
theorem mw_362 : Cond.code yX1_sitters cX1_sitters 4 (some .int) ∈ tb := tb_m2 68 rfl rfl
theorem mw_363 : Cond.methodLink RL 23 yX8_door ∈ tb := tb_m2 69 rfl rfl
theorem mw_364 : Cond.instanceMethod yX8_door ∈ tb := tb_m2 70 rfl rfl
theorem mw_365 : Cond.selects RX8 yX8_door yX8_door ∈ tb := tb_m2 71 rfl rfl
theorem mw_366 : Cond.code yX8_door cX8_door 5 (some .int) ∈ tb := tb_m2 72 rfl rfl
theorem mw_367 : Cond.methodLink RX8 100 yX1_jam ∈ tb := tb_m2 73 rfl rfl
theorem mw_368 : Cond.instanceMethod yX1_jam ∈ tb := tb_m2 74 rfl rfl
theorem mw_369 : Cond.selects RX1 yX1_jam yX1_jam ∈ tb := tb_m2 75 rfl rfl
theorem mw_370 : Cond.code yX1_jam cX1_jam 6 (some .int) ∈ tb := tb_m2 76 rfl rfl
theorem mw_371 : Cond.methodLink RX8 104 yX1_widthOf ∈ tb := tb_m2 77 rfl rfl
theorem mw_372 : Cond.instanceMethod yX1_widthOf ∈ tb := tb_m2 78 rfl rfl
theorem mw_373 : Cond.selects RX1 yX1_widthOf yX1_widthOf ∈ tb := tb_m2 79 rfl rfl
theorem mw_374 : Cond.code yX1_widthOf cX1_widthOf 3 (some .int) ∈ tb := tb_m2 80 rfl rfl
theorem mw_375 : Cond.methodLink RL 27 yX8_guest ∈ tb := tb_m2 81 rfl rfl
theorem mw_376 : Cond.instanceMethod yX8_guest ∈ tb := tb_m2 82 rfl rfl
theorem mw_377 : Cond.selects RX8 yX8_guest yX8_guest ∈ tb := tb_m2 83 rfl rfl
theorem mw_378 : Cond.code yX8_guest cX8_guest 3 (some .int) ∈ tb := tb_m2 84 rfl rfl
theorem mw_379 : Cond.methodLink RX8 110 yX1_others ∈ tb := tb_m2 85 rfl rfl
theorem mw_380 : Cond.instanceMethod yX1_others ∈ tb := tb_m2 86 rfl rfl
theorem mw_381 : Cond.selects RX1 yX1_others yX1_others ∈ tb := tb_m2 87 rfl rfl
theorem mw_382 : Cond.code yX1_others cX1_others 3 (some .int) ∈ tb := tb_m2 88 rfl rfl
theorem mw_383 : Cond.methodLink RX8 113 yX1_sizeOf ∈ tb := tb_m2 89 rfl rfl
theorem mw_384 : Cond.instanceMethod yX1_sizeOf ∈ tb := tb_m2 90 rfl rfl
theorem mw_385 : Cond.selects RX1 yX1_sizeOf yX1_sizeOf ∈ tb := tb_m2 91 rfl rfl
theorem mw_386 : Cond.code yX1_sizeOf cX1_sizeOf 2 (some .int) ∈ tb := tb_m2 92 rfl rfl
theorem mw_387 : Cond.methodLink RX8 116 yX1_dismiss ∈ tb := tb_m2 93 rfl rfl
theorem mw_388 : Cond.instanceMethod yX1_dismiss ∈ tb := tb_m2 94 rfl rfl
theorem mw_389 : Cond.selects RX1 yX1_dismiss yX1_dismiss ∈ tb := tb_m2 95 rfl rfl
theorem mw_390 : Cond.code yX1_dismiss cX1_dismiss 3 none ∈ tb := tb_m2 96 rfl rfl
theorem mw_391 : Cond.methodLink RX1 81 yX1_rise ∈ tb := tb_m2 97 rfl rfl
theorem mw_392 : Cond.instanceMethod yX1_rise ∈ tb := tb_m2 98 rfl rfl
theorem mw_393 : Cond.selects RX1 yX1_rise yX1_rise ∈ tb := tb_m2 99 rfl rfl
theorem mw_394 : Cond.code yX1_rise cX1_rise 3 none ∈ tb := tb_m2 100 rfl rfl
theorem mw_395 : Cond.methodLink RX1 91 yX1_engage ∈ tb := tb_m2 101 rfl rfl
theorem mw_397 : Cond.instanceMethod yX1_engage ∈ tb := tb_m2 103 rfl rfl
theorem mw_398 : Cond.code yX1_engage cX1_engage 5 none ∈ tb := tb_m2 104 rfl rfl
theorem mw_399 : Cond.methodLink RX8 125 yJ6_bitCount_0f7a4 ∈ tb := tb_m2 105 rfl rfl
theorem mw_400 : Cond.methodLink RL 32 yX8_likes ∈ tb := tb_m2 106 rfl rfl
theorem mw_401 : Cond.instanceMethod yX8_likes ∈ tb := tb_m2 107 rfl rfl
theorem mw_402 : Cond.selects RX8 yX8_likes yX8_likes ∈ tb := tb_m2 108 rfl rfl
theorem mw_403 : Cond.code yX8_likes cX8_likes 6 (some .int) ∈ tb := tb_m2 109 rfl rfl
theorem mw_404 : Cond.methodLink RX8 130 yX1_isThere ∈ tb := tb_m2 110 rfl rfl
theorem mw_405 : Cond.methodLink RL 36 yX8_leave ∈ tb := tb_m2 111 rfl rfl
theorem mw_406 : Cond.instanceMethod yX8_leave ∈ tb := tb_m2 112 rfl rfl
theorem mw_407 : Cond.selects RX8 yX8_leave yX8_leave ∈ tb := tb_m2 113 rfl rfl
theorem mw_408 : Cond.code yX8_leave cX8_leave 2 (some .int) ∈ tb := tb_m2 114 rfl rfl
theorem mw_409 : Cond.methodLink RL 40 yX8_say ∈ tb := tb_m2 115 rfl rfl
theorem mw_410 : Cond.instanceMethod yX8_say ∈ tb := tb_m2 116 rfl rfl
theorem mw_411 : Cond.selects RX8 yX8_say yX8_say ∈ tb := tb_m2 117 rfl rfl
theorem mw_412 : Cond.code yX8_say cX8_say 2 (some .int) ∈ tb := tb_m2 118 rfl rfl
theorem mw_413 : Cond.methodLink RX8 136 yX2_add ∈ tb := tb_m2 119 rfl rfl
theorem mw_414 : Cond.instanceMethod yX2_add ∈ tb := tb_m2 120 rfl rfl
theorem mw_415 : Cond.selects RX2 yX2_add yX2_add ∈ tb := tb_m2 121 rfl rfl
theorem mw_416 : Cond.code yX2_add cX2_add 2 (some .boolean) ∈ tb := tb_m2 122 rfl rfl
theorem mw_417 : Cond.methodLink RL 44 yX8_wipe ∈ tb := tb_m2 123 rfl rfl
theorem mw_418 : Cond.instanceMethod yX8_wipe ∈ tb := tb_m2 124 rfl rfl
theorem mw_419 : Cond.selects RX8 yX8_wipe yX8_wipe ∈ tb := tb_m2 125 rfl rfl
theorem mw_420 : Cond.code yX8_wipe cX8_wipe 2 (some .int) ∈ tb := tb_m2 126 rfl rfl
theorem mw_421 : Cond.methodLink RL 49 yX8_fault ∈ tb := tb_m2 127 rfl rfl
theorem mw_422 : Cond.instanceMethod yX8_fault ∈ tb := tb_m2 128 rfl rfl
theorem mw_423 : Cond.selects RX8 yX8_fault yX8_fault ∈ tb := tb_m2 129 rfl rfl
theorem mw_424 : Cond.code yX8_fault cX8_fault 1 (some .int) ∈ tb := tb_m2 130 rfl rfl
theorem mw_425 : Cond.methodLink RX8 142 yX2_flaw ∈ tb := tb_m2 131 rfl rfl
theorem mw_426 : Cond.instanceMethod yX2_flaw ∈ tb := tb_m2 132 rfl rfl
theorem mw_427 : Cond.selects RX2 yX2_flaw yX2_flaw ∈ tb := tb_m2 133 rfl rfl
theorem mw_428 : Cond.code yX2_flaw cX2_flaw 4 (some .int) ∈ tb := tb_m2 134 rfl rfl
theorem mw_429 : Cond.methodLink RX2 19 yX2_follow ∈ tb := tb_m2 135 rfl rfl
theorem mw_431 : Cond.instanceMethod yX2_follow ∈ tb := tb_m2 137 rfl rfl
theorem mw_432 : Cond.code yX2_follow cX2_follow 5 (some .int) ∈ tb := tb_m2 138 rfl rfl
theorem mw_433 : Cond.methodLink RX2 23 yX2_followStart ∈ tb := tb_m2 139 rfl rfl
theorem mw_434 : Cond.static yX2_followStart ∈ tb := tb_m2 140 rfl rfl
theorem mw_435 : Cond.code yX2_followStart cX2_followStart 2 (some .int) ∈ tb := tb_m2 141 rfl rfl
theorem mw_436 : Cond.methodLink RX2 38 yX2_isGuestLetter ∈ tb := tb_m2 142 rfl rfl
theorem mw_437 : Cond.static yX2_isGuestLetter ∈ tb := tb_m2 143 rfl rfl
theorem mw_438 : Cond.code yX2_isGuestLetter cX2_isGuestLetter 1 (some .boolean) ∈ tb := tb_m2 144 rfl rfl
theorem mw_439 : Cond.methodLink RX2 34 yX2_isRoomLetter ∈ tb := tb_m2 145 rfl rfl
theorem mw_440 : Cond.static yX2_isRoomLetter ∈ tb := tb_m2 146 rfl rfl
theorem mw_441 : Cond.code yX2_isRoomLetter cX2_isRoomLetter 2 (some .boolean) ∈ tb := tb_m2 147 rfl rfl
theorem mw_442 : Cond.methodLink RX2 27 yX2_sign ∈ tb := tb_m2 148 rfl rfl
theorem mw_443 : Cond.instanceMethod yX2_sign ∈ tb := tb_m2 149 rfl rfl
theorem mw_444 : Cond.selects RX2 yX2_sign yX2_sign ∈ tb := tb_m2 150 rfl rfl
theorem mw_445 : Cond.code yX2_sign cX2_sign 2 (some .int) ∈ tb := tb_m2 151 rfl rfl
theorem mw_446 : Cond.methodLink RX2 31 yX2_followGuest ∈ tb := tb_m2 152 rfl rfl
theorem mw_447 : Cond.static yX2_followGuest ∈ tb := tb_m2 153 rfl rfl
theorem mw_448 : Cond.code yX2_followGuest cX2_followGuest 3 (some .int) ∈ tb := tb_m2 154 rfl rfl
theorem mw_449 : Cond.methodLink RL 53 yX8_judge ∈ tb := tb_m2 155 rfl rfl
theorem mw_450 : Cond.instanceMethod yX8_judge ∈ tb := tb_m2 156 rfl rfl
theorem mw_451 : Cond.selects RX8 yX8_judge yX8_judge ∈ tb := tb_m2 157 rfl rfl
theorem mw_452 : Cond.code yX8_judge cX8_judge 2 (some .int) ∈ tb := tb_m2 158 rfl rfl
theorem mw_453 : Cond.methodLink RX8 145 yX3_perform ∈ tb := tb_m2 159 rfl rfl
theorem mw_454 : Cond.instanceMethod yX3_perform ∈ tb := tb_m2 160 rfl rfl
theorem mw_455 : Cond.selects RX3 yX3_perform yX3_perform ∈ tb := tb_m2 161 rfl rfl
theorem mw_456 : Cond.code yX3_perform cX3_perform 7 none ∈ tb := tb_m2 162 rfl rfl
theorem mw_457 : Cond.methodLink RX3 9 yX0_begin ∈ tb := tb_m2 163 rfl rfl
theorem mw_458 : Cond.instanceMethod yX0_begin ∈ tb := tb_m2 164 rfl rfl
theorem mw_459 : Cond.selects RX0 yX0_begin yX0_begin ∈ tb := tb_m2 165 rfl rfl
theorem mw_460 : Cond.code yX0_begin cX0_begin 2 none ∈ tb := tb_m2 166 rfl rfl
theorem mw_461 : Cond.methodLink RX0 31 yX1_copy ∈ tb := tb_m2 167 rfl rfl
theorem mw_462 : Cond.instanceMethod yX1_copy ∈ tb := tb_m2 168 rfl rfl
theorem mw_463 : Cond.selects RX1 yX1_copy yX1_copy ∈ tb := tb_m2 169 rfl rfl
theorem mw_464 : Cond.code yX1_copy cX1_copy 2 none ∈ tb := tb_m2 170 rfl rfl
theorem mw_465 : Cond.methodLink RX1 55 arraycopyName ∈ tb := tb_m2 171 rfl rfl
theorem mw_466 : Cond.static arraycopyName ∈ tb := tb_m2 172 rfl rfl
theorem mw_467 : Cond.native arraycopyName ∈ tb := tb_m2 173 rfl rfl
theorem mw_468 : Cond.methodLink RX0 35 yX0_ready ∈ tb := tb_m2 174 rfl rfl
theorem mw_469 : Cond.instanceMethod yX0_ready ∈ tb := tb_m2 175 rfl rfl
theorem mw_470 : Cond.selects RX0 yX0_ready yX0_ready ∈ tb := tb_m2 176 rfl rfl
theorem mw_471 : Cond.code yX0_ready cX0_ready 2 none ∈ tb := tb_m2 177 rfl rfl
theorem mw_472 : Cond.methodLink RX0 38 yJ7_fill_53178 ∈ tb := tb_m2 178 rfl rfl
theorem mw_473 : Cond.methodLink RX0 47 arraycopyName ∈ tb := tb_m2 179 rfl rfl
theorem mw_474 : Cond.methodLink RX0 53 yX1_isThere ∈ tb := tb_m2 180 rfl rfl
theorem mw_475 : Cond.methodLink RX0 60 yX0_readyTastes ∈ tb := tb_m2 181 rfl rfl
theorem mw_477 : Cond.instanceMethod yX0_readyTastes ∈ tb := tb_m2 183 rfl rfl
theorem mw_478 : Cond.code yX0_readyTastes cX0_readyTastes 3 none ∈ tb := tb_m2 184 rfl rfl
theorem mw_479 : Cond.methodLink RX0 71 yX1_pullOfThings ∈ tb := tb_m2 185 rfl rfl
theorem mw_480 : Cond.instanceMethod yX1_pullOfThings ∈ tb := tb_m2 186 rfl rfl
theorem mw_481 : Cond.selects RX1 yX1_pullOfThings yX1_pullOfThings ∈ tb := tb_m2 187 rfl rfl
theorem mw_482 : Cond.code yX1_pullOfThings cX1_pullOfThings 5 (some .int) ∈ tb := tb_m2 188 rfl rfl
theorem mw_483 : Cond.methodLink RX0 64 yX0_readyJam ∈ tb := tb_m2 189 rfl rfl
theorem mw_485 : Cond.instanceMethod yX0_readyJam ∈ tb := tb_m2 191 rfl rfl
theorem mw_486 : Cond.code yX0_readyJam cX0_readyJam 4 none ∈ tb := tb_m2 192 rfl rfl
theorem mw_487 : Cond.methodLink RX0 81 yX1_isRoom ∈ tb := tb_m2 193 rfl rfl
theorem mw_488 : Cond.methodLink RX3 29 yX3_spanOf ∈ tb := tb_m2 194 rfl rfl
theorem mw_489 : Cond.static yX3_spanOf ∈ tb := tb_m2 195 rfl rfl
theorem mw_490 : Cond.code yX3_spanOf cX3_spanOf 3 (some .int) ∈ tb := tb_m2 196 rfl rfl
theorem mw_491 : Cond.methodLink RX3 48 yX2_sign ∈ tb := tb_m2 197 rfl rfl
theorem mw_492 : Cond.methodLink RX3 52 yX2_isGuestLetter ∈ tb := tb_m2 198 rfl rfl
theorem mw_493 : Cond.methodLink RX3 33 yX0_ready ∈ tb := tb_m2 199 rfl rfl
theorem mw_494 : Cond.methodLink RX3 36 yX0_minute ∈ tb := tb_m2 200 rfl rfl
theorem mw_495 : Cond.instanceMethod yX0_minute ∈ tb := tb_m2 201 rfl rfl
theorem mw_496 : Cond.selects RX0 yX0_minute yX0_minute ∈ tb := tb_m2 202 rfl rfl
theorem mw_497 : Cond.code yX0_minute cX0_minute 3 (some .int) ∈ tb := tb_m2 203 rfl rfl
theorem mw_498 : Cond.methodLink RX0 90 yX0_moves ∈ tb := tb_m2 204 rfl rfl
theorem mw_500 : Cond.instanceMethod yX0_moves ∈ tb := tb_m2 206 rfl rfl
theorem mw_501 : Cond.code yX0_moves cX0_moves 4 (some .boolean) ∈ tb := tb_m2 207 rfl rfl
theorem mw_502 : Cond.methodLink RX0 96 yX0_target ∈ tb := tb_m2 208 rfl rfl
theorem mw_503 : Cond.instanceMethod yX0_target ∈ tb := tb_m2 209 rfl rfl
theorem mw_504 : Cond.selects RX0 yX0_target yX0_target ∈ tb := tb_m2 210 rfl rfl
theorem mw_505 : Cond.code yX0_target cX0_target 9 (some .int) ∈ tb := tb_m2 211 rfl rfl
theorem mw_506 : Cond.methodLink RX0 93 yX1_talkOn ∈ tb := tb_m2 212 rfl rfl
theorem mw_507 : Cond.instanceMethod yX1_talkOn ∈ tb := tb_m2 213 rfl rfl
theorem mw_508 : Cond.selects RX1 yX1_talkOn yX1_talkOn ∈ tb := tb_m2 214 rfl rfl
theorem mw_509 : Cond.code yX1_talkOn cX1_talkOn 2 none ∈ tb := tb_m2 215 rfl rfl
theorem mw_510 : Cond.methodLink RX3 44 yX3_attempt ∈ tb := tb_m2 216 rfl rfl
theorem mw_511 : Cond.static yX3_attempt ∈ tb := tb_m2 217 rfl rfl
theorem mw_512 : Cond.code yX3_attempt cX3_attempt 7 (some .int) ∈ tb := tb_m2 218 rfl rfl
theorem mw_513 : Cond.methodLink RX3 56 yX3_settle ∈ tb := tb_m2 219 rfl rfl
theorem mw_514 : Cond.static yX3_settle ∈ tb := tb_m2 220 rfl rfl
theorem mw_515 : Cond.code yX3_settle cX3_settle 4 (some .int) ∈ tb := tb_m2 221 rfl rfl
theorem mw_516 : Cond.methodLink RX3 84 yX1_whyNotSit ∈ tb := tb_m2 222 rfl rfl
theorem mw_517 : Cond.instanceMethod yX1_whyNotSit ∈ tb := tb_m2 223 rfl rfl
theorem mw_518 : Cond.selects RX1 yX1_whyNotSit yX1_whyNotSit ∈ tb := tb_m2 224 rfl rfl
theorem mw_519 : Cond.code yX1_whyNotSit cX1_whyNotSit 3 (some .int) ∈ tb := tb_m2 225 rfl rfl
theorem mw_520 : Cond.methodLink RX1 85 yX1_sitters ∈ tb := tb_m2 226 rfl rfl
theorem mw_521 : Cond.methodLink RX3 87 yX1_sit ∈ tb := tb_m2 227 rfl rfl
theorem mw_522 : Cond.instanceMethod yX1_sit ∈ tb := tb_m2 228 rfl rfl
theorem mw_523 : Cond.selects RX1 yX1_sit yX1_sit ∈ tb := tb_m2 229 rfl rfl
theorem mw_524 : Cond.code yX1_sit cX1_sit 2 none ∈ tb := tb_m2 230 rfl rfl
theorem mw_525 : Cond.methodLink RX3 91 yX1_whyNotRise ∈ tb := tb_m2 231 rfl rfl
theorem mw_526 : Cond.instanceMethod yX1_whyNotRise ∈ tb := tb_m2 232 rfl rfl
theorem mw_527 : Cond.selects RX1 yX1_whyNotRise yX1_whyNotRise ∈ tb := tb_m2 233 rfl rfl
theorem mw_528 : Cond.code yX1_whyNotRise cX1_whyNotRise 2 (some .int) ∈ tb := tb_m2 234 rfl rfl
theorem mw_529 : Cond.methodLink RX3 94 yX1_rise ∈ tb := tb_m2 235 rfl rfl
theorem mw_530 : Cond.methodLink RX3 97 yX1_whyNotBlock ∈ tb := tb_m2 236 rfl rfl
theorem mw_531 : Cond.instanceMethod yX1_whyNotBlock ∈ tb := tb_m2 237 rfl rfl
theorem mw_532 : Cond.selects RX1 yX1_whyNotBlock yX1_whyNotBlock ∈ tb := tb_m2 238 rfl rfl
theorem mw_533 : Cond.code yX1_whyNotBlock cX1_whyNotBlock 3 (some .int) ∈ tb := tb_m2 239 rfl rfl
theorem mw_534 : Cond.methodLink RX1 88 yX1_widthOf ∈ tb := tb_m3 0 rfl rfl
theorem mw_535 : Cond.methodLink RX3 100 yX1_block ∈ tb := tb_m3 1 rfl rfl
theorem mw_536 : Cond.instanceMethod yX1_block ∈ tb := tb_m3 2 rfl rfl
theorem mw_537 : Cond.selects RX1 yX1_block yX1_block ∈ tb := tb_m3 3 rfl rfl
theorem mw_538 : Cond.code yX1_block cX1_block 3 none ∈ tb := tb_m3 4 rfl rfl
theorem mw_539 : Cond.methodLink RX3 60 yX3_chat ∈ tb := tb_m3 5 rfl rfl
theorem mw_540 : Cond.static yX3_chat ∈ tb := tb_m3 6 rfl rfl
theorem mw_541 : Cond.code yX3_chat cX3_chat 5 (some .int) ∈ tb := tb_m3 7 rfl rfl
theorem mw_542 : Cond.methodLink RX3 67 yX1_whyNotTalk ∈ tb := tb_m3 8 rfl rfl
theorem mw_543 : Cond.instanceMethod yX1_whyNotTalk ∈ tb := tb_m3 9 rfl rfl
theorem mw_544 : Cond.selects RX1 yX1_whyNotTalk yX1_whyNotTalk ∈ tb := tb_m3 10 rfl rfl
theorem mw_545 : Cond.code yX1_whyNotTalk cX1_whyNotTalk 3 (some .int) ∈ tb := tb_m3 11 rfl rfl
theorem mw_546 : Cond.methodLink RX3 73 yX1_talk ∈ tb := tb_m3 12 rfl rfl
theorem mw_547 : Cond.instanceMethod yX1_talk ∈ tb := tb_m3 13 rfl rfl
theorem mw_548 : Cond.selects RX1 yX1_talk yX1_talk ∈ tb := tb_m3 14 rfl rfl
theorem mw_549 : Cond.code yX1_talk cX1_talk 4 none ∈ tb := tb_m3 15 rfl rfl
theorem mw_550 : Cond.methodLink RX3 64 yX3_fetch ∈ tb := tb_m3 16 rfl rfl
theorem mw_551 : Cond.static yX3_fetch ∈ tb := tb_m3 17 rfl rfl
theorem mw_552 : Cond.code yX3_fetch cX3_fetch 5 (some .int) ∈ tb := tb_m3 18 rfl rfl
theorem mw_553 : Cond.methodLink RX3 77 yX1_whyNotCarry ∈ tb := tb_m3 19 rfl rfl
theorem mw_554 : Cond.instanceMethod yX1_whyNotCarry ∈ tb := tb_m3 20 rfl rfl
theorem mw_555 : Cond.selects RX1 yX1_whyNotCarry yX1_whyNotCarry ∈ tb := tb_m3 21 rfl rfl
theorem mw_556 : Cond.code yX1_whyNotCarry cX1_whyNotCarry 6 (some .int) ∈ tb := tb_m3 22 rfl rfl
theorem mw_557 : Cond.methodLink RX3 81 yX1_carry ∈ tb := tb_m3 23 rfl rfl
theorem mw_558 : Cond.instanceMethod yX1_carry ∈ tb := tb_m3 24 rfl rfl
theorem mw_559 : Cond.selects RX1 yX1_carry yX1_carry ∈ tb := tb_m3 25 rfl rfl
theorem mw_560 : Cond.code yX1_carry cX1_carry 4 none ∈ tb := tb_m3 26 rfl rfl
theorem mw_561 : Cond.methodLink RL 57 yX8_done ∈ tb := tb_m3 27 rfl rfl
theorem mw_562 : Cond.instanceMethod yX8_done ∈ tb := tb_m3 28 rfl rfl
theorem mw_563 : Cond.selects RX8 yX8_done yX8_done ∈ tb := tb_m3 29 rfl rfl
theorem mw_564 : Cond.code yX8_done cX8_done 1 (some .int) ∈ tb := tb_m3 30 rfl rfl
theorem mw_565 : Cond.methodLink RX8 155 yX8_playsOut ∈ tb := tb_m3 31 rfl rfl
theorem mw_567 : Cond.instanceMethod yX8_playsOut ∈ tb := tb_m3 33 rfl rfl
theorem mw_568 : Cond.code yX8_playsOut cX8_playsOut 1 (some .boolean) ∈ tb := tb_m3 34 rfl rfl
theorem mw_569 : Cond.methodLink RX8 162 yX1_copy ∈ tb := tb_m3 35 rfl rfl
theorem mw_570 : Cond.methodLink RL 61 yX8_state ∈ tb := tb_m3 36 rfl rfl
theorem mw_571 : Cond.instanceMethod yX8_state ∈ tb := tb_m3 37 rfl rfl
theorem mw_572 : Cond.selects RX8 yX8_state yX8_state ∈ tb := tb_m3 38 rfl rfl
theorem mw_573 : Cond.code yX8_state cX8_state 3 (some .int) ∈ tb := tb_m3 39 rfl rfl
theorem mw_574 : Cond.methodLink RX8 166 yX1_tellGuest ∈ tb := tb_m3 40 rfl rfl
theorem mw_575 : Cond.instanceMethod yX1_tellGuest ∈ tb := tb_m3 41 rfl rfl
theorem mw_576 : Cond.selects RX1 yX1_tellGuest yX1_tellGuest ∈ tb := tb_m3 42 rfl rfl
theorem mw_577 : Cond.code yX1_tellGuest cX1_tellGuest 3 (some .int) ∈ tb := tb_m3 43 rfl rfl
theorem mw_578 : Cond.methodLink RL 65 yX8_behind ∈ tb := tb_m3 44 rfl rfl
theorem mw_579 : Cond.instanceMethod yX8_behind ∈ tb := tb_m3 45 rfl rfl
theorem mw_580 : Cond.selects RX8 yX8_behind yX8_behind ∈ tb := tb_m3 46 rfl rfl
theorem mw_581 : Cond.code yX8_behind cX8_behind 3 (some .int) ∈ tb := tb_m3 47 rfl rfl
theorem mw_582 : Cond.methodLink RL 69 yX8_draw ∈ tb := tb_m3 48 rfl rfl
theorem mw_583 : Cond.instanceMethod yX8_draw ∈ tb := tb_m3 49 rfl rfl
theorem mw_584 : Cond.selects RX8 yX8_draw yX8_draw ∈ tb := tb_m3 50 rfl rfl
theorem mw_585 : Cond.code yX8_draw cX8_draw 3 (some .int) ∈ tb := tb_m3 51 rfl rfl
theorem mw_586 : Cond.methodLink RX8 169 yX1_pull ∈ tb := tb_m3 52 rfl rfl
theorem mw_587 : Cond.instanceMethod yX1_pull ∈ tb := tb_m3 53 rfl rfl
theorem mw_588 : Cond.selects RX1 yX1_pull yX1_pull ∈ tb := tb_m3 54 rfl rfl
theorem mw_589 : Cond.code yX1_pull cX1_pull 3 (some .int) ∈ tb := tb_m3 55 rfl rfl
theorem mw_590 : Cond.methodLink RX1 74 yX1_pullOfThings ∈ tb := tb_m3 56 rfl rfl
theorem mw_591 : Cond.methodLink RX1 78 yX1_others ∈ tb := tb_m3 57 rfl rfl
theorem mw_592 : Cond.methodLink RL 73 yX8_goes ∈ tb := tb_m3 58 rfl rfl
theorem mw_593 : Cond.instanceMethod yX8_goes ∈ tb := tb_m3 59 rfl rfl
theorem mw_594 : Cond.selects RX8 yX8_goes yX8_goes ∈ tb := tb_m3 60 rfl rfl
theorem mw_595 : Cond.code yX8_goes cX8_goes 2 (some .int) ∈ tb := tb_m3 61 rfl rfl
theorem mw_596 : Cond.methodLink RX8 175 yX0_begin ∈ tb := tb_m3 62 rfl rfl
theorem mw_597 : Cond.methodLink RX8 178 yX0_target ∈ tb := tb_m3 63 rfl rfl
theorem mw_598 : Cond.methodLink RL 77 yX8_after ∈ tb := tb_m3 64 rfl rfl
theorem mw_599 : Cond.instanceMethod yX8_after ∈ tb := tb_m3 65 rfl rfl
theorem mw_600 : Cond.selects RX8 yX8_after yX8_after ∈ tb := tb_m3 66 rfl rfl
theorem mw_601 : Cond.code yX8_after cX8_after 3 (some .int) ∈ tb := tb_m3 67 rfl rfl
theorem mw_602 : Cond.methodLink RX8 181 yX0_run ∈ tb := tb_m3 68 rfl rfl
theorem mw_603 : Cond.instanceMethod yX0_run ∈ tb := tb_m3 69 rfl rfl
theorem mw_604 : Cond.selects RX0 yX0_run yX0_run ∈ tb := tb_m3 70 rfl rfl
theorem mw_605 : Cond.code yX0_run cX0_run 3 none ∈ tb := tb_m3 71 rfl rfl
theorem mw_606 : Cond.methodLink RX0 108 yX0_stillMinute ∈ tb := tb_m3 72 rfl rfl
theorem mw_607 : Cond.instanceMethod yX0_stillMinute ∈ tb := tb_m3 73 rfl rfl
theorem mw_608 : Cond.selects RX0 yX0_stillMinute yX0_stillMinute ∈ tb := tb_m3 74 rfl rfl
theorem mw_609 : Cond.code yX0_stillMinute cX0_stillMinute 2 (some .boolean) ∈ tb := tb_m3 75 rfl rfl
theorem mw_610 : Cond.methodLink RX0 100 yX1_anyTalks ∈ tb := tb_m3 76 rfl rfl
theorem mw_611 : Cond.instanceMethod yX1_anyTalks ∈ tb := tb_m3 77 rfl rfl
theorem mw_612 : Cond.selects RX1 yX1_anyTalks yX1_anyTalks ∈ tb := tb_m3 78 rfl rfl
theorem mw_613 : Cond.code yX1_anyTalks cX1_anyTalks 2 (some .boolean) ∈ tb := tb_m3 79 rfl rfl
theorem mw_614 : Cond.methodLink RX0 104 yX0_minute ∈ tb := tb_m3 80 rfl rfl
theorem mw_615 : Cond.methodLink RL 81 yX8_crowd ∈ tb := tb_m3 81 rfl rfl
theorem mw_616 : Cond.instanceMethod yX8_crowd ∈ tb := tb_m3 82 rfl rfl
theorem mw_617 : Cond.selects RX8 yX8_crowd yX8_crowd ∈ tb := tb_m3 83 rfl rfl
theorem mw_618 : Cond.code yX8_crowd cX8_crowd 3 (some .int) ∈ tb := tb_m3 84 rfl rfl
theorem mw_619 : Cond.methodLink RX8 184 yX1_bitsIn ∈ tb := tb_m3 85 rfl rfl
theorem mw_620 : Cond.methodLink RL 85 yX8_still ∈ tb := tb_m3 86 rfl rfl
theorem mw_621 : Cond.instanceMethod yX8_still ∈ tb := tb_m3 87 rfl rfl
theorem mw_622 : Cond.selects RX8 yX8_still yX8_still ∈ tb := tb_m3 88 rfl rfl
theorem mw_623 : Cond.code yX8_still cX8_still 1 (some .int) ∈ tb := tb_m3 89 rfl rfl
theorem mw_624 : Cond.methodLink RX8 187 yX8_firstStill ∈ tb := tb_m3 90 rfl rfl
theorem mw_626 : Cond.instanceMethod yX8_firstStill ∈ tb := tb_m3 92 rfl rfl
theorem mw_627 : Cond.code yX8_firstStill cX8_firstStill 2 (some .int) ∈ tb := tb_m3 93 rfl rfl
theorem mw_628 : Cond.methodLink RX8 293 yX0_stillMinute ∈ tb := tb_m3 94 rfl rfl
theorem mw_629 : Cond.methodLink RL 89 yX8_round ∈ tb := tb_m3 95 rfl rfl
theorem mw_630 : Cond.instanceMethod yX8_round ∈ tb := tb_m3 96 rfl rfl
theorem mw_631 : Cond.selects RX8 yX8_round yX8_round ∈ tb := tb_m3 97 rfl rfl
theorem mw_632 : Cond.code yX8_round cX8_round 3 (some .int) ∈ tb := tb_m3 98 rfl rfl
theorem mw_633 : Cond.methodLink RX8 191 yX1_key ∈ tb := tb_m3 99 rfl rfl
theorem mw_634 : Cond.instanceMethod yX1_key ∈ tb := tb_m3 100 rfl rfl
theorem mw_635 : Cond.selects RX1 yX1_key yX1_key ∈ tb := tb_m3 101 rfl rfl
theorem mw_636 : Cond.code yX1_key cX1_key 4 (some .long) ∈ tb := tb_m3 102 rfl rfl
theorem mw_637 : Cond.methodLink RX8 195 yX0_minute ∈ tb := tb_m3 103 rfl rfl
theorem mw_638 : Cond.methodLink RL 93 yX8_throng ∈ tb := tb_m3 104 rfl rfl
theorem mw_639 : Cond.instanceMethod yX8_throng ∈ tb := tb_m3 105 rfl rfl
theorem mw_640 : Cond.selects RX8 yX8_throng yX8_throng ∈ tb := tb_m3 106 rfl rfl
theorem mw_641 : Cond.code yX8_throng cX8_throng 4 (some .int) ∈ tb := tb_m3 107 rfl rfl
theorem mw_642 : Cond.methodLink RX8 198 yX0_fullest ∈ tb := tb_m3 108 rfl rfl
theorem mw_643 : Cond.instanceMethod yX0_fullest ∈ tb := tb_m3 109 rfl rfl
theorem mw_644 : Cond.selects RX0 yX0_fullest yX0_fullest ∈ tb := tb_m3 110 rfl rfl
theorem mw_645 : Cond.code yX0_fullest cX0_fullest 3 (some .int) ∈ tb := tb_m3 111 rfl rfl
theorem mw_646 : Cond.methodLink RX0 111 yJ9_max_7cf53 ∈ tb := tb_m3 112 rfl rfl
theorem mw_647 : Cond.static yJ9_max_7cf53 ∈ tb := tb_m3 113 rfl rfl
theorem mw_648 : Cond.code yJ9_max_7cf53 cJ9_max_7cf53 2 (some .int) ∈ tb := tb_m3 114 rfl rfl
theorem mw_649 : Cond.methodLink RX8 201 yJ9_max_7cf53 ∈ tb := tb_m3 115 rfl rfl
theorem mw_650 : Cond.methodLink RL 97 yX8_carried ∈ tb := tb_m3 116 rfl rfl
theorem mw_651 : Cond.instanceMethod yX8_carried ∈ tb := tb_m3 117 rfl rfl
theorem mw_652 : Cond.selects RX8 yX8_carried yX8_carried ∈ tb := tb_m3 118 rfl rfl
theorem mw_653 : Cond.code yX8_carried cX8_carried 11 (some .int) ∈ tb := tb_m3 119 rfl rfl
theorem mw_654 : Cond.methodLink RX8 206 yX8_fullestBehind ∈ tb := tb_m3 120 rfl rfl
theorem mw_656 : Cond.instanceMethod yX8_fullestBehind ∈ tb := tb_m3 122 rfl rfl
theorem mw_657 : Cond.code yX8_fullestBehind cX8_fullestBehind 2 (some .int) ∈ tb := tb_m3 123 rfl rfl
theorem mw_658 : Cond.methodLink RX8 209 yX1_whyNotCarry ∈ tb := tb_m3 124 rfl rfl
theorem mw_659 : Cond.methodLink RX8 213 yX8_fullestCarrying ∈ tb := tb_m3 125 rfl rfl
theorem mw_661 : Cond.instanceMethod yX8_fullestCarrying ∈ tb := tb_m3 127 rfl rfl
theorem mw_662 : Cond.code yX8_fullestCarrying cX8_fullestCarrying 5 (some .int) ∈ tb := tb_m3 128 rfl rfl
theorem mw_663 : Cond.methodLink RX8 296 yX1_carry ∈ tb := tb_m3 129 rfl rfl
theorem mw_664 : Cond.methodLink RX8 259 yX0_ready ∈ tb := tb_m3 130 rfl rfl
theorem mw_665 : Cond.methodLink RL 101 yX8_hinges ∈ tb := tb_m3 131 rfl rfl
theorem mw_666 : Cond.instanceMethod yX8_hinges ∈ tb := tb_m3 132 rfl rfl
theorem mw_667 : Cond.selects RX8 yX8_hinges yX8_hinges ∈ tb := tb_m3 133 rfl rfl
theorem mw_668 : Cond.code yX8_hinges cX8_hinges 8 (some .int) ∈ tb := tb_m3 134 rfl rfl
theorem mw_669 : Cond.methodLink RX8 217 yX8_fullestUnhinged ∈ tb := tb_m3 135 rfl rfl
theorem mw_671 : Cond.instanceMethod yX8_fullestUnhinged ∈ tb := tb_m3 137 rfl rfl
theorem mw_672 : Cond.code yX8_fullestUnhinged cX8_fullestUnhinged 4 (some .int) ∈ tb := tb_m3 138 rfl rfl
theorem mw_673 : Cond.methodLink RX8 300 yX0_unhinge ∈ tb := tb_m3 139 rfl rfl
theorem mw_674 : Cond.instanceMethod yX0_unhinge ∈ tb := tb_m3 140 rfl rfl
theorem mw_675 : Cond.selects RX0 yX0_unhinge yX0_unhinge ∈ tb := tb_m3 141 rfl rfl
theorem mw_676 : Cond.code yX0_unhinge cX0_unhinge 3 none ∈ tb := tb_m3 142 rfl rfl
theorem mw_677 : Cond.methodLink RL 105 yX8_best ∈ tb := tb_m3 143 rfl rfl
theorem mw_678 : Cond.instanceMethod yX8_best ∈ tb := tb_m3 144 rfl rfl
theorem mw_679 : Cond.selects RX8 yX8_best yX8_best ∈ tb := tb_m3 145 rfl rfl
theorem mw_680 : Cond.code yX8_best cX8_best 6 (some .int) ∈ tb := tb_m3 146 rfl rfl
theorem mw_681 : Cond.methodLink RL 109 yX8_rests ∈ tb := tb_m3 147 rfl rfl
theorem mw_682 : Cond.instanceMethod yX8_rests ∈ tb := tb_m3 148 rfl rfl
theorem mw_683 : Cond.selects RX8 yX8_rests yX8_rests ∈ tb := tb_m3 149 rfl rfl
theorem mw_684 : Cond.code yX8_rests cX8_rests 3 (some .int) ∈ tb := tb_m3 150 rfl rfl
theorem mw_685 : Cond.methodLink RX8 220 yX8_isIn ∈ tb := tb_m3 151 rfl rfl
theorem mw_686 : Cond.static yX8_isIn ∈ tb := tb_m3 152 rfl rfl
theorem mw_687 : Cond.code yX8_isIn cX8_isIn 2 (some .boolean) ∈ tb := tb_m3 153 rfl rfl
theorem mw_688 : Cond.methodLink RX8 224 yX4_find ∈ tb := tb_m3 154 rfl rfl
theorem mw_689 : Cond.instanceMethod yX4_find ∈ tb := tb_m3 155 rfl rfl
theorem mw_690 : Cond.selects RX4 yX4_find yX4_find ∈ tb := tb_m3 156 rfl rfl
theorem mw_691 : Cond.code yX4_find cX4_find 4 none ∈ tb := tb_m3 157 rfl rfl
theorem mw_693 : Cond.methodLink RX4 53 yX4_enlist ∈ tb := tb_m3 159 rfl rfl
theorem mw_695 : Cond.instanceMethod yX4_enlist ∈ tb := tb_m3 161 rfl rfl
theorem mw_696 : Cond.code yX4_enlist cX4_enlist 4 none ∈ tb := tb_m3 162 rfl rfl
theorem mw_697 : Cond.methodLink RX4 76 yX1_pullOfThings ∈ tb := tb_m3 163 rfl rfl
theorem mw_698 : Cond.methodLink RX4 57 yX1_sizeOf ∈ tb := tb_m3 164 rfl rfl
theorem mw_699 : Cond.methodLink RX4 61 yX1_bitsIn ∈ tb := tb_m3 165 rfl rfl
theorem mw_700 : Cond.methodLink RX4 64 yJ6_bitCount_0f7a4 ∈ tb := tb_m3 166 rfl rfl
theorem mw_701 : Cond.methodLink RX4 69 yX4_deal ∈ tb := tb_m3 167 rfl rfl
theorem mw_703 : Cond.instanceMethod yX4_deal ∈ tb := tb_m3 169 rfl rfl
theorem mw_704 : Cond.code yX4_deal cX4_deal 5 none ∈ tb := tb_m3 170 rfl rfl
theorem mw_705 : Cond.methodLink RX4 80 yX4_weigh ∈ tb := tb_m3 171 rfl rfl
theorem mw_707 : Cond.instanceMethod yX4_weigh ∈ tb := tb_m3 173 rfl rfl
theorem mw_708 : Cond.code yX4_weigh cX4_weigh 2 none ∈ tb := tb_m3 174 rfl rfl
theorem mw_709 : Cond.methodLink RX4 88 yX4_contentRooms ∈ tb := tb_m3 175 rfl rfl
theorem mw_711 : Cond.instanceMethod yX4_contentRooms ∈ tb := tb_m3 177 rfl rfl
theorem mw_712 : Cond.code yX4_contentRooms cX4_contentRooms 4 (some .int) ∈ tb := tb_m3 178 rfl rfl
theorem mw_713 : Cond.methodLink RX4 94 yX4_isContent ∈ tb := tb_m3 179 rfl rfl
theorem mw_715 : Cond.instanceMethod yX4_isContent ∈ tb := tb_m3 181 rfl rfl
theorem mw_716 : Cond.code yX4_isContent cX4_isContent 7 (some .boolean) ∈ tb := tb_m3 182 rfl rfl
theorem mw_717 : Cond.methodLink RX4 91 yX4_put ∈ tb := tb_m3 183 rfl rfl
theorem mw_719 : Cond.instanceMethod yX4_put ∈ tb := tb_m3 185 rfl rfl
theorem mw_720 : Cond.code yX4_put cX4_put 4 none ∈ tb := tb_m3 186 rfl rfl
theorem mw_721 : Cond.methodLink RX4 83 yJ9_min_7cf53 ∈ tb := tb_m3 187 rfl rfl
theorem mw_722 : Cond.static yJ9_min_7cf53 ∈ tb := tb_m3 188 rfl rfl
theorem mw_723 : Cond.code yJ9_min_7cf53 cJ9_min_7cf53 2 (some .int) ∈ tb := tb_m3 189 rfl rfl
theorem mw_724 : Cond.methodLink RX8 231 yX4_roomOf ∈ tb := tb_m3 190 rfl rfl
theorem mw_725 : Cond.instanceMethod yX4_roomOf ∈ tb := tb_m3 191 rfl rfl
theorem mw_726 : Cond.selects RX4 yX4_roomOf yX4_roomOf ∈ tb := tb_m3 192 rfl rfl
theorem mw_727 : Cond.code yX4_roomOf cX4_roomOf 4 (some .int) ∈ tb := tb_m3 193 rfl rfl
theorem mw_728 : Cond.methodLink RL 113 yX8_led ∈ tb := tb_m3 194 rfl rfl
theorem mw_729 : Cond.instanceMethod yX8_led ∈ tb := tb_m3 195 rfl rfl
theorem mw_730 : Cond.selects RX8 yX8_led yX8_led ∈ tb := tb_m3 196 rfl rfl
theorem mw_731 : Cond.code yX8_led cX8_led 8 (some .int) ∈ tb := tb_m3 197 rfl rfl
theorem mw_732 : Cond.methodLink RX8 234 yX1_idle ∈ tb := tb_m3 198 rfl rfl
theorem mw_733 : Cond.instanceMethod yX1_idle ∈ tb := tb_m3 199 rfl rfl
theorem mw_734 : Cond.selects RX1 yX1_idle yX1_idle ∈ tb := tb_m3 200 rfl rfl
theorem mw_735 : Cond.code yX1_idle cX1_idle 3 (some .int) ∈ tb := tb_m3 201 rfl rfl
theorem mw_736 : Cond.methodLink RX8 237 yX8_leadsTo ∈ tb := tb_m3 202 rfl rfl
theorem mw_738 : Cond.instanceMethod yX8_leadsTo ∈ tb := tb_m3 204 rfl rfl
theorem mw_739 : Cond.code yX8_leadsTo cX8_leadsTo 7 (some .boolean) ∈ tb := tb_m3 205 rfl rfl
theorem mw_740 : Cond.methodLink RX8 304 yX1_sit ∈ tb := tb_m3 206 rfl rfl
theorem mw_741 : Cond.methodLink RL 118 yX8_excuses ∈ tb := tb_m3 207 rfl rfl
theorem mw_742 : Cond.instanceMethod yX8_excuses ∈ tb := tb_m3 208 rfl rfl
theorem mw_743 : Cond.selects RX8 yX8_excuses yX8_excuses ∈ tb := tb_m3 209 rfl rfl
theorem mw_744 : Cond.code yX8_excuses cX8_excuses 5 (some .int) ∈ tb := tb_m3 210 rfl rfl
theorem mw_745 : Cond.methodLink RX8 241 yX5_measure ∈ tb := tb_m3 211 rfl rfl
theorem mw_746 : Cond.instanceMethod yX5_measure ∈ tb := tb_m3 212 rfl rfl
theorem mw_747 : Cond.selects RX5 yX5_measure yX5_measure ∈ tb := tb_m3 213 rfl rfl
theorem mw_748 : Cond.code yX5_measure cX5_measure 5 none ∈ tb := tb_m3 214 rfl rfl
theorem mw_749 : Cond.methodLink RX5 24 yX1_count ∈ tb := tb_m3 215 rfl rfl
theorem mw_750 : Cond.constant RX5 28 (1000000) ∈ tb := tb_m3 216 rfl rfl
theorem mw_751 : Cond.methodLink RX5 29 yX5_shorten ∈ tb := tb_m3 217 rfl rfl
theorem mw_753 : Cond.instanceMethod yX5_shorten ∈ tb := tb_m3 219 rfl rfl
theorem mw_754 : Cond.code yX5_shorten cX5_shorten 4 none ∈ tb := tb_m3 220 rfl rfl
theorem mw_755 : Cond.methodLink RX5 33 yX1_widthOf ∈ tb := tb_m3 221 rfl rfl
theorem mw_756 : Cond.methodLink RX5 37 yJ9_min_7cf53 ∈ tb := tb_m3 222 rfl rfl
theorem mw_757 : Cond.methodLink RX8 243 yX5_excusesFrom ∈ tb := tb_m3 223 rfl rfl
theorem mw_758 : Cond.instanceMethod yX5_excusesFrom ∈ tb := tb_m3 224 rfl rfl
theorem mw_759 : Cond.selects RX5 yX5_excusesFrom yX5_excusesFrom ∈ tb := tb_m3 225 rfl rfl
theorem mw_760 : Cond.code yX5_excusesFrom cX5_excusesFrom 2 (some .int) ∈ tb := tb_m3 226 rfl rfl
theorem mw_761 : Cond.methodLink RX8 246 yX5_step ∈ tb := tb_m3 227 rfl rfl
theorem mw_762 : Cond.instanceMethod yX5_step ∈ tb := tb_m3 228 rfl rfl
theorem mw_763 : Cond.selects RX5 yX5_step yX5_step ∈ tb := tb_m3 229 rfl rfl
theorem mw_764 : Cond.code yX5_step cX5_step 6 (some .int) ∈ tb := tb_m3 230 rfl rfl
theorem mw_765 : Cond.methodLink RX5 42 yX5_follower ∈ tb := tb_m3 231 rfl rfl
theorem mw_767 : Cond.instanceMethod yX5_follower ∈ tb := tb_m3 233 rfl rfl
theorem mw_768 : Cond.code yX5_follower cX5_follower 4 (some .int) ∈ tb := tb_m3 234 rfl rfl
theorem mw_769 : Cond.methodLink RL 122 yX8_seen ∈ tb := tb_m3 235 rfl rfl
theorem mw_770 : Cond.instanceMethod yX8_seen ∈ tb := tb_m3 236 rfl rfl
theorem mw_771 : Cond.selects RX8 yX8_seen yX8_seen ∈ tb := tb_m3 237 rfl rfl
theorem mw_772 : Cond.code yX8_seen cX8_seen 3 (some .int) ∈ tb := tb_m3 238 rfl rfl
theorem mw_773 : Cond.methodLink RL 126 yX8_forget ∈ tb := tb_m3 239 rfl rfl
theorem mw_774 : Cond.instanceMethod yX8_forget ∈ tb := tb_m4 0 rfl rfl
theorem mw_775 : Cond.selects RX8 yX8_forget yX8_forget ∈ tb := tb_m4 1 rfl rfl
theorem mw_776 : Cond.code yX8_forget cX8_forget 2 (some .int) ∈ tb := tb_m4 2 rfl rfl
theorem mw_777 : Cond.methodLink RL 130 yX8_tastes ∈ tb := tb_m4 3 rfl rfl
theorem mw_778 : Cond.instanceMethod yX8_tastes ∈ tb := tb_m4 4 rfl rfl
theorem mw_779 : Cond.selects RX8 yX8_tastes yX8_tastes ∈ tb := tb_m4 5 rfl rfl
theorem mw_780 : Cond.code yX8_tastes cX8_tastes 5 (some .int) ∈ tb := tb_m4 6 rfl rfl
theorem mw_781 : Cond.methodLink RX8 262 yX1_sightsHold ∈ tb := tb_m4 7 rfl rfl
theorem mw_782 : Cond.instanceMethod yX1_sightsHold ∈ tb := tb_m4 8 rfl rfl
theorem mw_783 : Cond.selects RX1 yX1_sightsHold yX1_sightsHold ∈ tb := tb_m4 9 rfl rfl
theorem mw_784 : Cond.code yX1_sightsHold cX1_sightsHold 4 (some .boolean) ∈ tb := tb_m4 10 rfl rfl
theorem mw_785 : Cond.methodLink RL 134 yX8_drunk ∈ tb := tb_m4 11 rfl rfl
theorem mw_786 : Cond.instanceMethod yX8_drunk ∈ tb := tb_m4 12 rfl rfl
theorem mw_787 : Cond.selects RX8 yX8_drunk yX8_drunk ∈ tb := tb_m4 13 rfl rfl
theorem mw_788 : Cond.code yX8_drunk cX8_drunk 6 (some .long) ∈ tb := tb_m4 14 rfl rfl
theorem mw_789 : Cond.constantLong RX8 265 (-1000000000000000001) ∈ tb := tb_m4 15 rfl rfl
theorem mw_790 : Cond.constantLong RX8 267 (-1000000000000000002) ∈ tb := tb_m4 16 rfl rfl
theorem mw_791 : Cond.methodLink RX8 269 yX6_walk ∈ tb := tb_m4 17 rfl rfl
theorem mw_792 : Cond.instanceMethod yX6_walk ∈ tb := tb_m4 18 rfl rfl
theorem mw_793 : Cond.selects RX6 yX6_walk yX6_walk ∈ tb := tb_m4 19 rfl rfl
theorem mw_794 : Cond.code yX6_walk cX6_walk 7 none ∈ tb := tb_m4 20 rfl rfl
theorem mw_795 : Cond.methodLink RX6 18 yJ7_fill_d0a16 ∈ tb := tb_m4 21 rfl rfl
theorem mw_796 : Cond.static yJ7_fill_d0a16 ∈ tb := tb_m4 22 rfl rfl
theorem mw_797 : Cond.code yJ7_fill_d0a16 cJ7_fill_d0a16 5 none ∈ tb := tb_m4 23 rfl rfl
theorem mw_798 : Cond.methodLink RX6 38 yX6_spread ∈ tb := tb_m4 24 rfl rfl
theorem mw_800 : Cond.instanceMethod yX6_spread ∈ tb := tb_m4 26 rfl rfl
theorem mw_801 : Cond.code yX6_spread cX6_spread 6 none ∈ tb := tb_m4 27 rfl rfl
theorem mw_802 : Cond.methodLink RX6 44 yX1_widthOf ∈ tb := tb_m4 28 rfl rfl
theorem mw_803 : Cond.constantLong RX6 48 (60) ∈ tb := tb_m4 29 rfl rfl
theorem mw_804 : Cond.constantLong RX6 50 (10) ∈ tb := tb_m4 30 rfl rfl
theorem mw_805 : Cond.constantLong RX6 42 (600) ∈ tb := tb_m4 31 rfl rfl
theorem mw_806 : Cond.methodLink RX8 273 yX6_upper ∈ tb := tb_m4 32 rfl rfl
theorem mw_807 : Cond.instanceMethod yX6_upper ∈ tb := tb_m4 33 rfl rfl
theorem mw_808 : Cond.selects RX6 yX6_upper yX6_upper ∈ tb := tb_m4 34 rfl rfl
theorem mw_809 : Cond.code yX6_upper cX6_upper 2 (some .long) ∈ tb := tb_m4 35 rfl rfl
theorem mw_810 : Cond.methodLink RX6 52 yX6_shared ∈ tb := tb_m4 36 rfl rfl
theorem mw_812 : Cond.instanceMethod yX6_shared ∈ tb := tb_m4 38 rfl rfl
theorem mw_813 : Cond.code yX6_shared cX6_shared 9 (some .long) ∈ tb := tb_m4 39 rfl rfl
theorem mw_814 : Cond.methodLink RX8 277 yX6_lower ∈ tb := tb_m4 40 rfl rfl
theorem mw_815 : Cond.instanceMethod yX6_lower ∈ tb := tb_m4 41 rfl rfl
theorem mw_816 : Cond.selects RX6 yX6_lower yX6_lower ∈ tb := tb_m4 42 rfl rfl
theorem mw_817 : Cond.code yX6_lower cX6_lower 2 (some .long) ∈ tb := tb_m4 43 rfl rfl
theorem mw_818 : Cond.methodLink RL 139 yX8_year ∈ tb := tb_m4 44 rfl rfl
theorem mw_819 : Cond.instanceMethod yX8_year ∈ tb := tb_m4 45 rfl rfl
theorem mw_820 : Cond.selects RX8 yX8_year yX8_year ∈ tb := tb_m4 46 rfl rfl
theorem mw_821 : Cond.code yX8_year cX8_year 4 (some .int) ∈ tb := tb_m4 47 rfl rfl
theorem mw_822 : Cond.methodLink RX8 280 yX7_pass ∈ tb := tb_m4 48 rfl rfl
theorem mw_823 : Cond.instanceMethod yX7_pass ∈ tb := tb_m4 49 rfl rfl
theorem mw_824 : Cond.selects RX7 yX7_pass yX7_pass ∈ tb := tb_m4 50 rfl rfl
theorem mw_825 : Cond.code yX7_pass cX7_pass 6 none ∈ tb := tb_m4 51 rfl rfl
theorem mw_826 : Cond.constant RX7 18 (65537) ∈ tb := tb_m4 52 rfl rfl
theorem mw_827 : Cond.methodLink RX7 25 yX7_meet ∈ tb := tb_m4 53 rfl rfl
theorem mw_829 : Cond.instanceMethod yX7_meet ∈ tb := tb_m4 55 rfl rfl
theorem mw_830 : Cond.code yX7_meet cX7_meet 5 none ∈ tb := tb_m4 56 rfl rfl
theorem mw_831 : Cond.methodLink RX7 33 yX1_whyNotTalk ∈ tb := tb_m4 57 rfl rfl
theorem mw_832 : Cond.methodLink RX7 39 yX1_talk ∈ tb := tb_m4 58 rfl rfl
theorem mw_833 : Cond.methodLink RX7 29 yX0_minute ∈ tb := tb_m4 59 rfl rfl
theorem mw_834 : Cond.methodLink RL 143 yX8_image ∈ tb := tb_m4 60 rfl rfl
theorem mw_835 : Cond.instanceMethod yX8_image ∈ tb := tb_m4 61 rfl rfl
theorem mw_836 : Cond.selects RX8 yX8_image yX8_image ∈ tb := tb_m4 62 rfl rfl
theorem mw_837 : Cond.code yX8_image cX8_image 2 (some .int) ∈ tb := tb_m4 63 rfl rfl
theorem mw_838 : Cond.methodLink RL 147 yX8_restore ∈ tb := tb_m4 64 rfl rfl
theorem mw_839 : Cond.instanceMethod yX8_restore ∈ tb := tb_m4 65 rfl rfl
theorem mw_840 : Cond.selects RX8 yX8_restore yX8_restore ∈ tb := tb_m4 66 rfl rfl
theorem mw_841 : Cond.code yX8_restore cX8_restore 2 (some .int) ∈ tb := tb_m4 67 rfl rfl
theorem mw_842 : Cond.methodLink RL 151 yX8_told ∈ tb := tb_m4 68 rfl rfl
theorem mw_843 : Cond.instanceMethod yX8_told ∈ tb := tb_m4 69 rfl rfl
theorem mw_844 : Cond.selects RX8 yX8_told yX8_told ∈ tb := tb_m4 70 rfl rfl
theorem mw_845 : Cond.code yX8_told cX8_told 2 (some .int) ∈ tb := tb_m4 71 rfl rfl
theorem mw_846 : Cond.methodLink RX8 290 yX8_toldByCode ∈ tb := tb_m4 72 rfl rfl
theorem mw_848 : Cond.instanceMethod yX8_toldByCode ∈ tb := tb_m4 74 rfl rfl
theorem mw_849 : Cond.code yX8_toldByCode cX8_toldByCode 4 (some .int) ∈ tb := tb_m4 75 rfl rfl
theorem mw_850 : Cond.classLink RL 10 RX9 ∈ tb := tb_m4 76 rfl rfl
theorem mw_851 : Cond.instantiable RX9 30 ∈ tb := tb_m4 77 rfl rfl
theorem mw_852 : Cond.methodLink RL 12 yX9_init ∈ tb := tb_m4 78 rfl rfl
theorem mw_853 : Cond.instanceMethod yX9_init ∈ tb := tb_m4 79 rfl rfl
theorem mw_854 : Cond.code yX9_init cX9_init 1 none ∈ tb := tb_m4 80 rfl rfl
theorem mw_855 : Cond.methodLink RX9 1 objectInit ∈ tb := tb_m4 81 rfl rfl
theorem mw_856 : Cond.methodLink RX9 85 yX9_empty ∈ tb := tb_m4 82 rfl rfl
theorem mw_858 : Cond.instanceMethod yX9_empty ∈ tb := tb_m4 84 rfl rfl
theorem mw_859 : Cond.code yX9_empty cX9_empty 2 none ∈ tb := tb_m4 85 rfl rfl
theorem mw_860 : Cond.fieldLink RX9 7 "KitchenDriftModel" "rooms" "I" ∈ tb := tb_m4 86 rfl rfl
theorem mw_861 : Cond.fieldLink RX9 13 "KitchenDriftModel" "things" "[I" ∈ tb := tb_m4 87 rfl rfl
theorem mw_862 : Cond.fieldLink RX9 17 "KitchenDriftModel" "size" "[I" ∈ tb := tb_m4 88 rfl rfl
theorem mw_863 : Cond.fieldLink RX9 20 "KitchenDriftModel" "chairs" "[I" ∈ tb := tb_m4 89 rfl rfl
theorem mw_864 : Cond.fieldLink RX9 23 "KitchenDriftModel" "width" "[I" ∈ tb := tb_m4 90 rfl rfl
theorem mw_865 : Cond.fieldLink RX9 88 "KitchenDriftModel" "there" "I" ∈ tb := tb_m4 91 rfl rfl
theorem mw_866 : Cond.fieldLink RX9 26 "KitchenDriftModel" "likes" "[I" ∈ tb := tb_m4 92 rfl rfl
theorem mw_867 : Cond.fieldLink RX9 29 "KitchenDriftModel" "place" "[I" ∈ tb := tb_m4 93 rfl rfl
theorem mw_868 : Cond.fieldLink RX9 32 "KitchenDriftModel" "busy" "[I" ∈ tb := tb_m4 94 rfl rfl
theorem mw_869 : Cond.fieldLink RX9 35 "KitchenDriftModel" "with" "[I" ∈ tb := tb_m4 95 rfl rfl
theorem mw_870 : Cond.fieldLink RX9 38 "KitchenDriftModel" "left" "[I" ∈ tb := tb_m4 96 rfl rfl
theorem mw_871 : Cond.fieldLink RX9 91 "KitchenDriftModel" "sights" "I" ∈ tb := tb_m4 97 rfl rfl
theorem mw_872 : Cond.fieldLink RX9 41 "KitchenDriftModel" "sight" "[I" ∈ tb := tb_m4 98 rfl rfl
theorem mw_873 : Cond.fieldLink RX9 124 "KitchenDriftModel" "signs" "I" ∈ tb := tb_m4 99 rfl rfl
theorem mw_874 : Cond.fieldLink RX9 44 "KitchenDriftModel" "pad" "[I" ∈ tb := tb_m4 100 rfl rfl
theorem mw_875 : Cond.fieldLink RX9 47 "KitchenDriftModel" "at" "[I" ∈ tb := tb_m4 101 rfl rfl
theorem mw_876 : Cond.fieldLink RX9 50 "KitchenDriftModel" "busyNow" "[I" ∈ tb := tb_m4 102 rfl rfl
theorem mw_877 : Cond.fieldLink RX9 53 "KitchenDriftModel" "withNow" "[I" ∈ tb := tb_m4 103 rfl rfl
theorem mw_878 : Cond.fieldLink RX9 56 "KitchenDriftModel" "leftNow" "[I" ∈ tb := tb_m4 104 rfl rfl
theorem mw_879 : Cond.fieldLink RX9 59 "KitchenDriftModel" "thingsNow" "[I" ∈ tb := tb_m4 105 rfl rfl
theorem mw_880 : Cond.fieldLink RX9 131 "KitchenDriftModel" "loose" "I" ∈ tb := tb_m4 106 rfl rfl
theorem mw_881 : Cond.fieldLink RX9 62 "KitchenDriftModel" "through" "[I" ∈ tb := tb_m4 107 rfl rfl
theorem mw_882 : Cond.fieldLink RX9 163 "KitchenDriftModel" "reason" "I" ∈ tb := tb_m4 108 rfl rfl
theorem mw_883 : Cond.fieldLink RX9 160 "KitchenDriftModel" "events" "I" ∈ tb := tb_m4 109 rfl rfl
theorem mw_884 : Cond.fieldLink RX9 65 "KitchenDriftModel" "states" "[J" ∈ tb := tb_m4 110 rfl rfl
theorem mw_885 : Cond.fieldLink RX9 69 "KitchenDriftModel" "dear" "[I" ∈ tb := tb_m4 111 rfl rfl
theorem mw_886 : Cond.fieldLink RX9 72 "KitchenDriftModel" "chances" "[J" ∈ tb := tb_m4 112 rfl rfl
theorem mw_887 : Cond.fieldLink RX9 75 "KitchenDriftModel" "then" "[J" ∈ tb := tb_m4 113 rfl rfl
theorem mw_888 : Cond.fieldLink RX9 78 "KitchenDriftModel" "image" "[I" ∈ tb := tb_m4 114 rfl rfl
theorem mw_889 : Cond.fieldLink RX9 81 "KitchenDriftModel" "isKept" "[Z" ∈ tb := tb_m4 115 rfl rfl
theorem mw_951 : Cond.methodLink RL 17 yX9_rooms ∈ tb := tb_m4 177 rfl rfl
theorem mw_952 : Cond.instanceMethod yX9_rooms ∈ tb := tb_m4 178 rfl rfl
theorem mw_953 : Cond.selects RX9 yX9_rooms yX9_rooms ∈ tb := tb_m4 179 rfl rfl
theorem mw_954 : Cond.code yX9_rooms cX9_rooms 3 (some .int) ∈ tb := tb_m4 180 rfl rfl
theorem mw_955 : Cond.methodLink RX9 94 yX9_in ∈ tb := tb_m4 181 rfl rfl
theorem mw_956 : Cond.static yX9_in ∈ tb := tb_m4 182 rfl rfl
theorem mw_957 : Cond.code yX9_in cX9_in 3 (some .boolean) ∈ tb := tb_m4 183 rfl rfl
theorem mw_958 : Cond.methodLink RL 22 yX9_room ∈ tb := tb_m4 184 rfl rfl
theorem mw_959 : Cond.instanceMethod yX9_room ∈ tb := tb_m4 185 rfl rfl
theorem mw_960 : Cond.selects RX9 yX9_room yX9_room ∈ tb := tb_m4 186 rfl rfl
theorem mw_961 : Cond.code yX9_room cX9_room 5 (some .int) ∈ tb := tb_m4 187 rfl rfl
theorem mw_962 : Cond.methodLink RX9 102 yX9_isRoom ∈ tb := tb_m4 188 rfl rfl
theorem mw_964 : Cond.instanceMethod yX9_isRoom ∈ tb := tb_m4 190 rfl rfl
theorem mw_965 : Cond.code yX9_isRoom cX9_isRoom 2 (some .boolean) ∈ tb := tb_m4 191 rfl rfl
theorem mw_966 : Cond.methodLink RX9 106 yX9_inRoom ∈ tb := tb_m4 192 rfl rfl
theorem mw_968 : Cond.instanceMethod yX9_inRoom ∈ tb := tb_m4 194 rfl rfl
theorem mw_969 : Cond.code yX9_inRoom cX9_inRoom 6 (some .int) ∈ tb := tb_m4 195 rfl rfl
theorem mw_970 : Cond.methodLink RX9 98 yX9_has ∈ tb := tb_m4 196 rfl rfl
theorem mw_971 : Cond.static yX9_has ∈ tb := tb_m4 197 rfl rfl
theorem mw_972 : Cond.code yX9_has cX9_has 2 (some .boolean) ∈ tb := tb_m4 198 rfl rfl
theorem mw_973 : Cond.methodLink RL 26 yX9_door ∈ tb := tb_m4 199 rfl rfl
theorem mw_974 : Cond.instanceMethod yX9_door ∈ tb := tb_m4 200 rfl rfl
theorem mw_975 : Cond.selects RX9 yX9_door yX9_door ∈ tb := tb_m4 201 rfl rfl
theorem mw_976 : Cond.code yX9_door cX9_door 5 (some .int) ∈ tb := tb_m4 202 rfl rfl
theorem mw_977 : Cond.methodLink RX9 110 yX9_standsIn ∈ tb := tb_m4 203 rfl rfl
theorem mw_979 : Cond.instanceMethod yX9_standsIn ∈ tb := tb_m4 205 rfl rfl
theorem mw_980 : Cond.code yX9_standsIn cX9_standsIn 4 (some .boolean) ∈ tb := tb_m4 206 rfl rfl
theorem mw_981 : Cond.methodLink RL 31 yX9_guest ∈ tb := tb_m4 207 rfl rfl
theorem mw_982 : Cond.instanceMethod yX9_guest ∈ tb := tb_m4 208 rfl rfl
theorem mw_983 : Cond.selects RX9 yX9_guest yX9_guest ∈ tb := tb_m4 209 rfl rfl
theorem mw_984 : Cond.code yX9_guest cX9_guest 4 (some .int) ∈ tb := tb_m4 210 rfl rfl
theorem mw_985 : Cond.methodLink RX9 113 yX9_leaveOff ∈ tb := tb_m4 211 rfl rfl
theorem mw_987 : Cond.instanceMethod yX9_leaveOff ∈ tb := tb_m4 213 rfl rfl
theorem mw_988 : Cond.code yX9_leaveOff cX9_leaveOff 2 none ∈ tb := tb_m4 214 rfl rfl
theorem mw_989 : Cond.methodLink RX9 117 yX9_bits ∈ tb := tb_m4 215 rfl rfl
theorem mw_990 : Cond.static yX9_bits ∈ tb := tb_m4 216 rfl rfl
theorem mw_991 : Cond.code yX9_bits cX9_bits 3 (some .int) ∈ tb := tb_m4 217 rfl rfl
theorem mw_992 : Cond.methodLink RL 35 yX9_likes ∈ tb := tb_m4 218 rfl rfl
theorem mw_993 : Cond.instanceMethod yX9_likes ∈ tb := tb_m4 219 rfl rfl
theorem mw_994 : Cond.selects RX9 yX9_likes yX9_likes ∈ tb := tb_m4 220 rfl rfl
theorem mw_995 : Cond.code yX9_likes cX9_likes 5 (some .int) ∈ tb := tb_m4 221 rfl rfl
theorem mw_996 : Cond.methodLink RX9 121 yX9_isThere ∈ tb := tb_m4 222 rfl rfl
theorem mw_998 : Cond.instanceMethod yX9_isThere ∈ tb := tb_m4 224 rfl rfl
theorem mw_999 : Cond.code yX9_isThere cX9_isThere 2 (some .boolean) ∈ tb := tb_m4 225 rfl rfl
theorem mw_1000 : Cond.methodLink RL 39 yX9_leave ∈ tb := tb_m4 226 rfl rfl
theorem mw_1001 : Cond.instanceMethod yX9_leave ∈ tb := tb_m4 227 rfl rfl
theorem mw_1002 : Cond.selects RX9 yX9_leave yX9_leave ∈ tb := tb_m4 228 rfl rfl
theorem mw_1003 : Cond.code yX9_leave cX9_leave 2 (some .int) ∈ tb := tb_m4 229 rfl rfl
theorem mw_1004 : Cond.methodLink RL 43 yX9_say ∈ tb := tb_m4 230 rfl rfl
theorem mw_1005 : Cond.instanceMethod yX9_say ∈ tb := tb_m4 231 rfl rfl
theorem mw_1006 : Cond.selects RX9 yX9_say yX9_say ∈ tb := tb_m4 232 rfl rfl
theorem mw_1007 : Cond.code yX9_say cX9_say 2 (some .int) ∈ tb := tb_m4 233 rfl rfl
theorem mw_1008 : Cond.methodLink RL 48 yX9_wipe ∈ tb := tb_m4 234 rfl rfl
theorem mw_1009 : Cond.instanceMethod yX9_wipe ∈ tb := tb_m4 235 rfl rfl
theorem mw_1010 : Cond.selects RX9 yX9_wipe yX9_wipe ∈ tb := tb_m4 236 rfl rfl
theorem mw_1011 : Cond.code yX9_wipe cX9_wipe 2 (some .int) ∈ tb := tb_m4 237 rfl rfl
theorem mw_1012 : Cond.methodLink RL 52 yX9_fault ∈ tb := tb_m4 238 rfl rfl
theorem mw_1013 : Cond.instanceMethod yX9_fault ∈ tb := tb_m4 239 rfl rfl
theorem mw_1014 : Cond.selects RX9 yX9_fault yX9_fault ∈ tb := tb_m5 0 rfl rfl
theorem mw_1015 : Cond.code yX9_fault cX9_fault 1 (some .int) ∈ tb := tb_m5 1 rfl rfl
theorem mw_1016 : Cond.methodLink RX9 127 yX9_faultOf ∈ tb := tb_m5 2 rfl rfl
theorem mw_1018 : Cond.instanceMethod yX9_faultOf ∈ tb := tb_m5 4 rfl rfl
theorem mw_1019 : Cond.code yX9_faultOf cX9_faultOf 7 (some .int) ∈ tb := tb_m5 5 rfl rfl
theorem mw_1020 : Cond.methodLink RL 56 yX9_judge ∈ tb := tb_m5 6 rfl rfl
theorem mw_1021 : Cond.instanceMethod yX9_judge ∈ tb := tb_m5 7 rfl rfl
theorem mw_1022 : Cond.selects RX9 yX9_judge yX9_judge ∈ tb := tb_m5 8 rfl rfl
theorem mw_1023 : Cond.code yX9_judge cX9_judge 3 (some .int) ∈ tb := tb_m5 9 rfl rfl
theorem mw_1024 : Cond.methodLink RX9 189 yX9_goParty ∈ tb := tb_m5 10 rfl rfl
theorem mw_1026 : Cond.instanceMethod yX9_goParty ∈ tb := tb_m5 12 rfl rfl
theorem mw_1027 : Cond.code yX9_goParty cX9_goParty 4 (some .int) ∈ tb := tb_m5 13 rfl rfl
theorem mw_1028 : Cond.methodLink RX9 157 yX9_asNow ∈ tb := tb_m5 14 rfl rfl
theorem mw_1030 : Cond.instanceMethod yX9_asNow ∈ tb := tb_m5 16 rfl rfl
theorem mw_1031 : Cond.code yX9_asNow cX9_asNow 2 none ∈ tb := tb_m5 17 rfl rfl
theorem mw_1032 : Cond.methodLink RX9 166 yX9_pass ∈ tb := tb_m5 18 rfl rfl
theorem mw_1034 : Cond.instanceMethod yX9_pass ∈ tb := tb_m5 20 rfl rfl
theorem mw_1035 : Cond.code yX9_pass cX9_pass 5 (some .int) ∈ tb := tb_m5 21 rfl rfl
theorem mw_1036 : Cond.methodLink RX9 145 yX9_shut ∈ tb := tb_m5 22 rfl rfl
theorem mw_1038 : Cond.instanceMethod yX9_shut ∈ tb := tb_m5 24 rfl rfl
theorem mw_1039 : Cond.code yX9_shut cX9_shut 2 none ∈ tb := tb_m5 25 rfl rfl
theorem mw_1040 : Cond.methodLink RX9 148 yX9_goal ∈ tb := tb_m5 26 rfl rfl
theorem mw_1042 : Cond.instanceMethod yX9_goal ∈ tb := tb_m5 28 rfl rfl
theorem mw_1043 : Cond.code yX9_goal cX9_goal 8 (some .int) ∈ tb := tb_m5 29 rfl rfl
theorem mw_1044 : Cond.methodLink RX9 138 yX9_drawOf ∈ tb := tb_m5 30 rfl rfl
theorem mw_1046 : Cond.instanceMethod yX9_drawOf ∈ tb := tb_m5 32 rfl rfl
theorem mw_1047 : Cond.code yX9_drawOf cX9_drawOf 7 (some .int) ∈ tb := tb_m5 33 rfl rfl
theorem mw_1048 : Cond.methodLink RX9 134 yX9_countIn ∈ tb := tb_m5 34 rfl rfl
theorem mw_1050 : Cond.instanceMethod yX9_countIn ∈ tb := tb_m5 36 rfl rfl
theorem mw_1051 : Cond.code yX9_countIn cX9_countIn 5 (some .int) ∈ tb := tb_m5 37 rfl rfl
theorem mw_1052 : Cond.methodLink RX9 142 yX9_canGo ∈ tb := tb_m5 38 rfl rfl
theorem mw_1054 : Cond.instanceMethod yX9_canGo ∈ tb := tb_m5 40 rfl rfl
theorem mw_1055 : Cond.code yX9_canGo cX9_canGo 8 (some .boolean) ∈ tb := tb_m5 41 rfl rfl
theorem mw_1056 : Cond.methodLink RX9 169 yX9_whyNotCarry ∈ tb := tb_m5 42 rfl rfl
theorem mw_1058 : Cond.instanceMethod yX9_whyNotCarry ∈ tb := tb_m5 44 rfl rfl
theorem mw_1059 : Cond.code yX9_whyNotCarry cX9_whyNotCarry 4 (some .int) ∈ tb := tb_m5 45 rfl rfl
theorem mw_1060 : Cond.methodLink RX9 172 yX9_carry ∈ tb := tb_m5 46 rfl rfl
theorem mw_1062 : Cond.instanceMethod yX9_carry ∈ tb := tb_m5 48 rfl rfl
theorem mw_1063 : Cond.code yX9_carry cX9_carry 4 none ∈ tb := tb_m5 49 rfl rfl
theorem mw_1064 : Cond.methodLink RX9 176 yX9_whyNotTalk ∈ tb := tb_m5 50 rfl rfl
theorem mw_1066 : Cond.instanceMethod yX9_whyNotTalk ∈ tb := tb_m5 52 rfl rfl
theorem mw_1067 : Cond.code yX9_whyNotTalk cX9_whyNotTalk 3 (some .int) ∈ tb := tb_m5 53 rfl rfl
theorem mw_1068 : Cond.methodLink RX9 151 yX9_isBusy ∈ tb := tb_m5 54 rfl rfl
theorem mw_1070 : Cond.instanceMethod yX9_isBusy ∈ tb := tb_m5 56 rfl rfl
theorem mw_1071 : Cond.code yX9_isBusy cX9_isBusy 2 (some .boolean) ∈ tb := tb_m5 57 rfl rfl
theorem mw_1072 : Cond.methodLink RX9 179 yX9_talk ∈ tb := tb_m5 58 rfl rfl
theorem mw_1074 : Cond.instanceMethod yX9_talk ∈ tb := tb_m5 60 rfl rfl
theorem mw_1075 : Cond.code yX9_talk cX9_talk 4 none ∈ tb := tb_m5 61 rfl rfl
theorem mw_1076 : Cond.methodLink RX9 182 yX9_whyNotDo ∈ tb := tb_m5 62 rfl rfl
theorem mw_1078 : Cond.instanceMethod yX9_whyNotDo ∈ tb := tb_m5 64 rfl rfl
theorem mw_1079 : Cond.code yX9_whyNotDo cX9_whyNotDo 3 (some .int) ∈ tb := tb_m5 65 rfl rfl
theorem mw_1080 : Cond.methodLink RX9 154 yX9_sittingIn ∈ tb := tb_m5 66 rfl rfl
theorem mw_1082 : Cond.instanceMethod yX9_sittingIn ∈ tb := tb_m5 68 rfl rfl
theorem mw_1083 : Cond.code yX9_sittingIn cX9_sittingIn 4 (some .int) ∈ tb := tb_m5 69 rfl rfl
theorem mw_1084 : Cond.methodLink RX9 185 yX9_act ∈ tb := tb_m5 70 rfl rfl
theorem mw_1086 : Cond.instanceMethod yX9_act ∈ tb := tb_m5 72 rfl rfl
theorem mw_1087 : Cond.code yX9_act cX9_act 4 none ∈ tb := tb_m5 73 rfl rfl
theorem mw_1088 : Cond.methodLink RL 60 yX9_done ∈ tb := tb_m5 74 rfl rfl
theorem mw_1089 : Cond.instanceMethod yX9_done ∈ tb := tb_m5 75 rfl rfl
theorem mw_1090 : Cond.selects RX9 yX9_done yX9_done ∈ tb := tb_m5 76 rfl rfl
theorem mw_1091 : Cond.code yX9_done cX9_done 2 (some .int) ∈ tb := tb_m5 77 rfl rfl
theorem mw_1092 : Cond.methodLink RX9 192 yX9_barOfParty ∈ tb := tb_m5 78 rfl rfl
theorem mw_1094 : Cond.instanceMethod yX9_barOfParty ∈ tb := tb_m5 80 rfl rfl
theorem mw_1095 : Cond.code yX9_barOfParty cX9_barOfParty 1 (some .int) ∈ tb := tb_m5 81 rfl rfl
theorem mw_1096 : Cond.methodLink RL 64 yX9_state ∈ tb := tb_m5 82 rfl rfl
theorem mw_1097 : Cond.instanceMethod yX9_state ∈ tb := tb_m5 83 rfl rfl
theorem mw_1098 : Cond.selects RX9 yX9_state yX9_state ∈ tb := tb_m5 84 rfl rfl
theorem mw_1099 : Cond.code yX9_state cX9_state 3 (some .int) ∈ tb := tb_m5 85 rfl rfl
theorem mw_1100 : Cond.methodLink RX9 195 yX9_stateNow ∈ tb := tb_m5 86 rfl rfl
theorem mw_1102 : Cond.instanceMethod yX9_stateNow ∈ tb := tb_m5 88 rfl rfl
theorem mw_1103 : Cond.code yX9_stateNow cX9_stateNow 4 (some .int) ∈ tb := tb_m5 89 rfl rfl
theorem mw_1104 : Cond.methodLink RL 68 yX9_behind ∈ tb := tb_m5 90 rfl rfl
theorem mw_1105 : Cond.instanceMethod yX9_behind ∈ tb := tb_m5 91 rfl rfl
theorem mw_1106 : Cond.selects RX9 yX9_behind yX9_behind ∈ tb := tb_m5 92 rfl rfl
theorem mw_1107 : Cond.code yX9_behind cX9_behind 3 (some .int) ∈ tb := tb_m5 93 rfl rfl
theorem mw_1108 : Cond.methodLink RL 72 yX9_draw ∈ tb := tb_m5 94 rfl rfl
theorem mw_1109 : Cond.instanceMethod yX9_draw ∈ tb := tb_m5 95 rfl rfl
theorem mw_1110 : Cond.selects RX9 yX9_draw yX9_draw ∈ tb := tb_m5 96 rfl rfl
theorem mw_1111 : Cond.code yX9_draw cX9_draw 3 (some .int) ∈ tb := tb_m5 97 rfl rfl
theorem mw_1112 : Cond.methodLink RL 76 yX9_goes ∈ tb := tb_m5 98 rfl rfl
theorem mw_1113 : Cond.instanceMethod yX9_goes ∈ tb := tb_m5 99 rfl rfl
theorem mw_1114 : Cond.selects RX9 yX9_goes yX9_goes ∈ tb := tb_m5 100 rfl rfl
theorem mw_1115 : Cond.code yX9_goes cX9_goes 2 (some .int) ∈ tb := tb_m5 101 rfl rfl
theorem mw_1116 : Cond.methodLink RL 80 yX9_after ∈ tb := tb_m5 102 rfl rfl
theorem mw_1117 : Cond.instanceMethod yX9_after ∈ tb := tb_m5 103 rfl rfl
theorem mw_1118 : Cond.selects RX9 yX9_after yX9_after ∈ tb := tb_m5 104 rfl rfl
theorem mw_1119 : Cond.code yX9_after cX9_after 3 (some .int) ∈ tb := tb_m5 105 rfl rfl
theorem mw_1120 : Cond.methodLink RX9 198 yX9_goMinutes ∈ tb := tb_m5 106 rfl rfl
theorem mw_1122 : Cond.instanceMethod yX9_goMinutes ∈ tb := tb_m5 108 rfl rfl
theorem mw_1123 : Cond.code yX9_goMinutes cX9_goMinutes 3 none ∈ tb := tb_m5 109 rfl rfl
theorem mw_1124 : Cond.methodLink RL 84 yX9_crowd ∈ tb := tb_m5 110 rfl rfl
theorem mw_1125 : Cond.instanceMethod yX9_crowd ∈ tb := tb_m5 111 rfl rfl
theorem mw_1126 : Cond.selects RX9 yX9_crowd yX9_crowd ∈ tb := tb_m5 112 rfl rfl
theorem mw_1127 : Cond.code yX9_crowd cX9_crowd 3 (some .int) ∈ tb := tb_m5 113 rfl rfl
theorem mw_1128 : Cond.methodLink RX9 201 yX9_crowdIn ∈ tb := tb_m5 114 rfl rfl
theorem mw_1130 : Cond.instanceMethod yX9_crowdIn ∈ tb := tb_m5 116 rfl rfl
theorem mw_1131 : Cond.code yX9_crowdIn cX9_crowdIn 4 (some .int) ∈ tb := tb_m5 117 rfl rfl
theorem mw_1132 : Cond.methodLink RL 88 yX9_still ∈ tb := tb_m5 118 rfl rfl
theorem mw_1133 : Cond.instanceMethod yX9_still ∈ tb := tb_m5 119 rfl rfl
theorem mw_1134 : Cond.selects RX9 yX9_still yX9_still ∈ tb := tb_m5 120 rfl rfl
theorem mw_1135 : Cond.code yX9_still cX9_still 1 (some .int) ∈ tb := tb_m5 121 rfl rfl
theorem mw_1136 : Cond.methodLink RX9 204 yX9_stillAt ∈ tb := tb_m5 122 rfl rfl
theorem mw_1138 : Cond.instanceMethod yX9_stillAt ∈ tb := tb_m5 124 rfl rfl
theorem mw_1139 : Cond.code yX9_stillAt cX9_stillAt 4 (some .int) ∈ tb := tb_m5 125 rfl rfl
theorem mw_1140 : Cond.methodLink RL 92 yX9_round ∈ tb := tb_m5 126 rfl rfl
theorem mw_1141 : Cond.instanceMethod yX9_round ∈ tb := tb_m5 127 rfl rfl
theorem mw_1142 : Cond.selects RX9 yX9_round yX9_round ∈ tb := tb_m5 128 rfl rfl
theorem mw_1143 : Cond.code yX9_round cX9_round 3 (some .int) ∈ tb := tb_m5 129 rfl rfl
theorem mw_1144 : Cond.methodLink RX9 211 yX9_note ∈ tb := tb_m5 130 rfl rfl
theorem mw_1146 : Cond.instanceMethod yX9_note ∈ tb := tb_m5 132 rfl rfl
theorem mw_1147 : Cond.code yX9_note cX9_note 9 none ∈ tb := tb_m5 133 rfl rfl
theorem mw_1148 : Cond.constantLong RX9 207 (32) ∈ tb := tb_m5 134 rfl rfl
theorem mw_1149 : Cond.constantLong RX9 209 (80) ∈ tb := tb_m5 135 rfl rfl
theorem mw_1150 : Cond.methodLink RL 96 yX9_throng ∈ tb := tb_m5 136 rfl rfl
theorem mw_1151 : Cond.instanceMethod yX9_throng ∈ tb := tb_m5 137 rfl rfl
theorem mw_1152 : Cond.selects RX9 yX9_throng yX9_throng ∈ tb := tb_m5 138 rfl rfl
theorem mw_1153 : Cond.code yX9_throng cX9_throng 5 (some .int) ∈ tb := tb_m5 139 rfl rfl
theorem mw_1154 : Cond.methodLink RX9 214 yX9_fullest ∈ tb := tb_m5 140 rfl rfl
theorem mw_1156 : Cond.instanceMethod yX9_fullest ∈ tb := tb_m5 142 rfl rfl
theorem mw_1157 : Cond.code yX9_fullest cX9_fullest 4 (some .int) ∈ tb := tb_m5 143 rfl rfl
theorem mw_1158 : Cond.methodLink RL 100 yX9_carried ∈ tb := tb_m5 144 rfl rfl
theorem mw_1159 : Cond.instanceMethod yX9_carried ∈ tb := tb_m5 145 rfl rfl
theorem mw_1160 : Cond.selects RX9 yX9_carried yX9_carried ∈ tb := tb_m5 146 rfl rfl
theorem mw_1161 : Cond.code yX9_carried cX9_carried 9 (some .int) ∈ tb := tb_m5 147 rfl rfl
theorem mw_1162 : Cond.methodLink RL 104 yX9_hinges ∈ tb := tb_m5 148 rfl rfl
theorem mw_1163 : Cond.instanceMethod yX9_hinges ∈ tb := tb_m5 149 rfl rfl
theorem mw_1164 : Cond.selects RX9 yX9_hinges yX9_hinges ∈ tb := tb_m5 150 rfl rfl
theorem mw_1165 : Cond.code yX9_hinges cX9_hinges 8 (some .int) ∈ tb := tb_m5 151 rfl rfl
theorem mw_1166 : Cond.methodLink RL 108 yX9_best ∈ tb := tb_m5 152 rfl rfl
theorem mw_1167 : Cond.instanceMethod yX9_best ∈ tb := tb_m5 153 rfl rfl
theorem mw_1168 : Cond.selects RX9 yX9_best yX9_best ∈ tb := tb_m5 154 rfl rfl
theorem mw_1169 : Cond.code yX9_best cX9_best 6 (some .int) ∈ tb := tb_m5 155 rfl rfl
theorem mw_1170 : Cond.methodLink RL 112 yX9_rests ∈ tb := tb_m5 156 rfl rfl
theorem mw_1171 : Cond.instanceMethod yX9_rests ∈ tb := tb_m5 157 rfl rfl
theorem mw_1172 : Cond.selects RX9 yX9_rests yX9_rests ∈ tb := tb_m5 158 rfl rfl
theorem mw_1173 : Cond.code yX9_rests cX9_rests 9 (some .int) ∈ tb := tb_m5 159 rfl rfl
theorem mw_1174 : Cond.methodLink RX9 218 yX9_areAtRest ∈ tb := tb_m5 160 rfl rfl
theorem mw_1176 : Cond.instanceMethod yX9_areAtRest ∈ tb := tb_m5 162 rfl rfl
theorem mw_1177 : Cond.code yX9_areAtRest cX9_areAtRest 5 (some .boolean) ∈ tb := tb_m5 163 rfl rfl
theorem mw_1178 : Cond.constant RX9 217 (1000000) ∈ tb := tb_m5 164 rfl rfl
theorem mw_1179 : Cond.methodLink RL 117 yX9_led ∈ tb := tb_m5 165 rfl rfl
theorem mw_1180 : Cond.instanceMethod yX9_led ∈ tb := tb_m5 166 rfl rfl
theorem mw_1181 : Cond.selects RX9 yX9_led yX9_led ∈ tb := tb_m5 167 rfl rfl
theorem mw_1182 : Cond.code yX9_led cX9_led 9 (some .int) ∈ tb := tb_m5 168 rfl rfl
theorem mw_1183 : Cond.methodLink RL 121 yX9_excuses ∈ tb := tb_m5 169 rfl rfl
theorem mw_1184 : Cond.instanceMethod yX9_excuses ∈ tb := tb_m5 170 rfl rfl
theorem mw_1185 : Cond.selects RX9 yX9_excuses yX9_excuses ∈ tb := tb_m5 171 rfl rfl
theorem mw_1186 : Cond.code yX9_excuses cX9_excuses 10 (some .int) ∈ tb := tb_m5 172 rfl rfl
theorem mw_1187 : Cond.methodLink RL 125 yX9_seen ∈ tb := tb_m5 173 rfl rfl
theorem mw_1188 : Cond.instanceMethod yX9_seen ∈ tb := tb_m5 174 rfl rfl
theorem mw_1189 : Cond.selects RX9 yX9_seen yX9_seen ∈ tb := tb_m5 175 rfl rfl
theorem mw_1190 : Cond.code yX9_seen cX9_seen 3 (some .int) ∈ tb := tb_m5 176 rfl rfl
theorem mw_1191 : Cond.methodLink RL 129 yX9_forget ∈ tb := tb_m5 177 rfl rfl
theorem mw_1192 : Cond.instanceMethod yX9_forget ∈ tb := tb_m5 178 rfl rfl
theorem mw_1193 : Cond.selects RX9 yX9_forget yX9_forget ∈ tb := tb_m5 179 rfl rfl
theorem mw_1194 : Cond.code yX9_forget cX9_forget 2 (some .int) ∈ tb := tb_m5 180 rfl rfl
theorem mw_1195 : Cond.methodLink RL 133 yX9_tastes ∈ tb := tb_m5 181 rfl rfl
theorem mw_1196 : Cond.instanceMethod yX9_tastes ∈ tb := tb_m5 182 rfl rfl
theorem mw_1197 : Cond.selects RX9 yX9_tastes yX9_tastes ∈ tb := tb_m5 183 rfl rfl
theorem mw_1198 : Cond.code yX9_tastes cX9_tastes 7 (some .int) ∈ tb := tb_m5 184 rfl rfl
theorem mw_1199 : Cond.methodLink RL 138 yX9_drunk ∈ tb := tb_m5 185 rfl rfl
theorem mw_1200 : Cond.instanceMethod yX9_drunk ∈ tb := tb_m5 186 rfl rfl
theorem mw_1201 : Cond.selects RX9 yX9_drunk yX9_drunk ∈ tb := tb_m5 187 rfl rfl
theorem mw_1202 : Cond.code yX9_drunk cX9_drunk 14 (some .long) ∈ tb := tb_m5 188 rfl rfl
theorem mw_1203 : Cond.constantLong RX9 221 (-1000000000000000001) ∈ tb := tb_m5 189 rfl rfl
theorem mw_1204 : Cond.constantLong RX9 223 (-1000000000000000002) ∈ tb := tb_m5 190 rfl rfl
theorem mw_1205 : Cond.constantLong RX9 225 (600) ∈ tb := tb_m5 191 rfl rfl
theorem mw_1206 : Cond.methodLink RL 142 yX9_year ∈ tb := tb_m5 192 rfl rfl
theorem mw_1207 : Cond.instanceMethod yX9_year ∈ tb := tb_m5 193 rfl rfl
theorem mw_1208 : Cond.selects RX9 yX9_year yX9_year ∈ tb := tb_m5 194 rfl rfl
theorem mw_1209 : Cond.code yX9_year cX9_year 10 (some .int) ∈ tb := tb_m5 195 rfl rfl
theorem mw_1210 : Cond.constant RX9 227 (65537) ∈ tb := tb_m5 196 rfl rfl
theorem mw_1211 : Cond.methodLink RL 146 yX9_image ∈ tb := tb_m5 197 rfl rfl
theorem mw_1212 : Cond.instanceMethod yX9_image ∈ tb := tb_m5 198 rfl rfl
theorem mw_1213 : Cond.selects RX9 yX9_image yX9_image ∈ tb := tb_m5 199 rfl rfl
theorem mw_1214 : Cond.code yX9_image cX9_image 4 (some .int) ∈ tb := tb_m5 200 rfl rfl
theorem mw_1215 : Cond.methodLink RL 150 yX9_restore ∈ tb := tb_m5 201 rfl rfl
theorem mw_1216 : Cond.instanceMethod yX9_restore ∈ tb := tb_m5 202 rfl rfl
theorem mw_1217 : Cond.selects RX9 yX9_restore yX9_restore ∈ tb := tb_m5 203 rfl rfl
theorem mw_1218 : Cond.code yX9_restore cX9_restore 4 (some .int) ∈ tb := tb_m5 204 rfl rfl
theorem mw_1219 : Cond.methodLink RL 154 yX9_told ∈ tb := tb_m5 205 rfl rfl
theorem mw_1220 : Cond.instanceMethod yX9_told ∈ tb := tb_m5 206 rfl rfl
theorem mw_1221 : Cond.selects RX9 yX9_told yX9_told ∈ tb := tb_m5 207 rfl rfl
theorem mw_1222 : Cond.code yX9_told cX9_told 4 (some .int) ∈ tb := tb_m5 208 rfl rfl
end
section
theorem dJ6_bitCount_0f7a4_0 : decode cJ6_bitCount_0f7a4 0 = .ok (.iload_n 0, 1) := by decide +kernel
theorem dJ6_bitCount_0f7a4_1 : decode cJ6_bitCount_0f7a4 1 = .ok (.iload_n 0, 1) := by decide +kernel
theorem dJ6_bitCount_0f7a4_2 : decode cJ6_bitCount_0f7a4 2 = .ok (.iconst 1, 1) := by decide +kernel
theorem dJ6_bitCount_0f7a4_3 : decode cJ6_bitCount_0f7a4 3 = .ok (.iushr, 1) := by decide +kernel
theorem dJ6_bitCount_0f7a4_4 : decode cJ6_bitCount_0f7a4 4 = .ok (.ldc_w 265, 3) := by decide +kernel
theorem dJ6_bitCount_0f7a4_7 : decode cJ6_bitCount_0f7a4 7 = .ok (.iand, 1) := by decide +kernel
theorem dJ6_bitCount_0f7a4_8 : decode cJ6_bitCount_0f7a4 8 = .ok (.isub, 1) := by decide +kernel
theorem dJ6_bitCount_0f7a4_9 : decode cJ6_bitCount_0f7a4 9 = .ok (.istore_n 0, 1) := by decide +kernel
theorem dJ6_bitCount_0f7a4_10 : decode cJ6_bitCount_0f7a4 10 = .ok (.iload_n 0, 1) := by decide +kernel
theorem dJ6_bitCount_0f7a4_11 : decode cJ6_bitCount_0f7a4 11 = .ok (.ldc_w 266, 3) := by decide +kernel
theorem dJ6_bitCount_0f7a4_14 : decode cJ6_bitCount_0f7a4 14 = .ok (.iand, 1) := by decide +kernel
theorem dJ6_bitCount_0f7a4_15 : decode cJ6_bitCount_0f7a4 15 = .ok (.iload_n 0, 1) := by decide +kernel
theorem dJ6_bitCount_0f7a4_16 : decode cJ6_bitCount_0f7a4 16 = .ok (.iconst 2, 1) := by decide +kernel
theorem dJ6_bitCount_0f7a4_17 : decode cJ6_bitCount_0f7a4 17 = .ok (.iushr, 1) := by decide +kernel
theorem dJ6_bitCount_0f7a4_18 : decode cJ6_bitCount_0f7a4 18 = .ok (.ldc_w 266, 3) := by decide +kernel
theorem dJ6_bitCount_0f7a4_21 : decode cJ6_bitCount_0f7a4 21 = .ok (.iand, 1) := by decide +kernel
theorem dJ6_bitCount_0f7a4_22 : decode cJ6_bitCount_0f7a4 22 = .ok (.iadd, 1) := by decide +kernel
theorem dJ6_bitCount_0f7a4_23 : decode cJ6_bitCount_0f7a4 23 = .ok (.istore_n 0, 1) := by decide +kernel
theorem dJ6_bitCount_0f7a4_24 : decode cJ6_bitCount_0f7a4 24 = .ok (.iload_n 0, 1) := by decide +kernel
theorem dJ6_bitCount_0f7a4_25 : decode cJ6_bitCount_0f7a4 25 = .ok (.iload_n 0, 1) := by decide +kernel
theorem dJ6_bitCount_0f7a4_26 : decode cJ6_bitCount_0f7a4 26 = .ok (.iconst 4, 1) := by decide +kernel
theorem dJ6_bitCount_0f7a4_27 : decode cJ6_bitCount_0f7a4 27 = .ok (.iushr, 1) := by decide +kernel
theorem dJ6_bitCount_0f7a4_28 : decode cJ6_bitCount_0f7a4 28 = .ok (.iadd, 1) := by decide +kernel
theorem dJ6_bitCount_0f7a4_29 : decode cJ6_bitCount_0f7a4 29 = .ok (.ldc_w 267, 3) := by decide +kernel
theorem dJ6_bitCount_0f7a4_32 : decode cJ6_bitCount_0f7a4 32 = .ok (.iand, 1) := by decide +kernel
theorem dJ6_bitCount_0f7a4_33 : decode cJ6_bitCount_0f7a4 33 = .ok (.istore_n 0, 1) := by decide +kernel
theorem dJ6_bitCount_0f7a4_34 : decode cJ6_bitCount_0f7a4 34 = .ok (.iload_n 0, 1) := by decide +kernel
theorem dJ6_bitCount_0f7a4_35 : decode cJ6_bitCount_0f7a4 35 = .ok (.iload_n 0, 1) := by decide +kernel
theorem dJ6_bitCount_0f7a4_36 : decode cJ6_bitCount_0f7a4 36 = .ok (.bipush 8, 2) := by decide +kernel
theorem dJ6_bitCount_0f7a4_38 : decode cJ6_bitCount_0f7a4 38 = .ok (.iushr, 1) := by decide +kernel
theorem dJ6_bitCount_0f7a4_39 : decode cJ6_bitCount_0f7a4 39 = .ok (.iadd, 1) := by decide +kernel
theorem dJ6_bitCount_0f7a4_40 : decode cJ6_bitCount_0f7a4 40 = .ok (.istore_n 0, 1) := by decide +kernel
theorem dJ6_bitCount_0f7a4_41 : decode cJ6_bitCount_0f7a4 41 = .ok (.iload_n 0, 1) := by decide +kernel
theorem dJ6_bitCount_0f7a4_42 : decode cJ6_bitCount_0f7a4 42 = .ok (.iload_n 0, 1) := by decide +kernel
theorem dJ6_bitCount_0f7a4_43 : decode cJ6_bitCount_0f7a4 43 = .ok (.bipush 16, 2) := by decide +kernel
theorem dJ6_bitCount_0f7a4_45 : decode cJ6_bitCount_0f7a4 45 = .ok (.iushr, 1) := by decide +kernel
theorem dJ6_bitCount_0f7a4_46 : decode cJ6_bitCount_0f7a4 46 = .ok (.iadd, 1) := by decide +kernel
theorem dJ6_bitCount_0f7a4_47 : decode cJ6_bitCount_0f7a4 47 = .ok (.istore_n 0, 1) := by decide +kernel
theorem dJ6_bitCount_0f7a4_48 : decode cJ6_bitCount_0f7a4 48 = .ok (.iload_n 0, 1) := by decide +kernel
theorem dJ6_bitCount_0f7a4_49 : decode cJ6_bitCount_0f7a4 49 = .ok (.bipush 63, 2) := by decide +kernel
theorem dJ6_bitCount_0f7a4_51 : decode cJ6_bitCount_0f7a4 51 = .ok (.iand, 1) := by decide +kernel
theorem dJ6_bitCount_0f7a4_52 : decode cJ6_bitCount_0f7a4 52 = .ok (.ireturn, 1) := by decide +kernel
theorem dJ9_max_7cf53_0 : decode cJ9_max_7cf53 0 = .ok (.iload_n 0, 1) := by decide +kernel
theorem dJ9_max_7cf53_1 : decode cJ9_max_7cf53 1 = .ok (.iload_n 1, 1) := by decide +kernel
theorem dJ9_max_7cf53_2 : decode cJ9_max_7cf53 2 = .ok (.if_icmp .lt 7, 3) := by decide +kernel
theorem dJ9_max_7cf53_5 : decode cJ9_max_7cf53 5 = .ok (.iload_n 0, 1) := by decide +kernel
theorem dJ9_max_7cf53_6 : decode cJ9_max_7cf53 6 = .ok (.goto 4, 3) := by decide +kernel
theorem dJ9_max_7cf53_9 : decode cJ9_max_7cf53 9 = .ok (.iload_n 1, 1) := by decide +kernel
theorem dJ9_max_7cf53_10 : decode cJ9_max_7cf53 10 = .ok (.ireturn, 1) := by decide +kernel
theorem dJ9_min_7cf53_0 : decode cJ9_min_7cf53 0 = .ok (.iload_n 0, 1) := by decide +kernel
theorem dJ9_min_7cf53_1 : decode cJ9_min_7cf53 1 = .ok (.iload_n 1, 1) := by decide +kernel
theorem dJ9_min_7cf53_2 : decode cJ9_min_7cf53 2 = .ok (.if_icmp .gt 7, 3) := by decide +kernel
theorem dJ9_min_7cf53_5 : decode cJ9_min_7cf53 5 = .ok (.iload_n 0, 1) := by decide +kernel
theorem dJ9_min_7cf53_6 : decode cJ9_min_7cf53 6 = .ok (.goto 4, 3) := by decide +kernel
theorem dJ9_min_7cf53_9 : decode cJ9_min_7cf53 9 = .ok (.iload_n 1, 1) := by decide +kernel
theorem dJ9_min_7cf53_10 : decode cJ9_min_7cf53 10 = .ok (.ireturn, 1) := by decide +kernel
theorem dJ7_fill_d0a16_0 : decode cJ7_fill_d0a16 0 = .ok (.iconst 0, 1) := by decide +kernel
theorem dJ7_fill_d0a16_1 : decode cJ7_fill_d0a16 1 = .ok (.istore_n 3, 1) := by decide +kernel
theorem dJ7_fill_d0a16_2 : decode cJ7_fill_d0a16 2 = .ok (.aload_n 0, 1) := by decide +kernel
theorem dJ7_fill_d0a16_3 : decode cJ7_fill_d0a16 3 = .ok (.arraylength, 1) := by decide +kernel
theorem dJ7_fill_d0a16_4 : decode cJ7_fill_d0a16 4 = .ok (.istore 4, 2) := by decide +kernel
theorem dJ7_fill_d0a16_6 : decode cJ7_fill_d0a16 6 = .ok (.iload_n 3, 1) := by decide +kernel
theorem dJ7_fill_d0a16_7 : decode cJ7_fill_d0a16 7 = .ok (.iload 4, 2) := by decide +kernel
theorem dJ7_fill_d0a16_9 : decode cJ7_fill_d0a16 9 = .ok (.if_icmp .ge 13, 3) := by decide +kernel
theorem dJ7_fill_d0a16_12 : decode cJ7_fill_d0a16 12 = .ok (.aload_n 0, 1) := by decide +kernel
theorem dJ7_fill_d0a16_13 : decode cJ7_fill_d0a16 13 = .ok (.iload_n 3, 1) := by decide +kernel
theorem dJ7_fill_d0a16_14 : decode cJ7_fill_d0a16 14 = .ok (.lload_n 1, 1) := by decide +kernel
theorem dJ7_fill_d0a16_15 : decode cJ7_fill_d0a16 15 = .ok (.lastore, 1) := by decide +kernel
theorem dJ7_fill_d0a16_16 : decode cJ7_fill_d0a16 16 = .ok (.iinc 3 1, 3) := by decide +kernel
theorem dJ7_fill_d0a16_19 : decode cJ7_fill_d0a16 19 = .ok (.goto (-13), 3) := by decide +kernel
theorem dJ7_fill_d0a16_22 : decode cJ7_fill_d0a16 22 = .ok (.return_, 1) := by decide +kernel
theorem dJ7_fill_53178_0 : decode cJ7_fill_53178 0 = .ok (.iconst 0, 1) := by decide +kernel
theorem dJ7_fill_53178_1 : decode cJ7_fill_53178 1 = .ok (.istore_n 2, 1) := by decide +kernel
theorem dJ7_fill_53178_2 : decode cJ7_fill_53178 2 = .ok (.aload_n 0, 1) := by decide +kernel
theorem dJ7_fill_53178_3 : decode cJ7_fill_53178 3 = .ok (.arraylength, 1) := by decide +kernel
theorem dJ7_fill_53178_4 : decode cJ7_fill_53178 4 = .ok (.istore_n 3, 1) := by decide +kernel
theorem dJ7_fill_53178_5 : decode cJ7_fill_53178 5 = .ok (.iload_n 2, 1) := by decide +kernel
theorem dJ7_fill_53178_6 : decode cJ7_fill_53178 6 = .ok (.iload_n 3, 1) := by decide +kernel
theorem dJ7_fill_53178_7 : decode cJ7_fill_53178 7 = .ok (.if_icmp .ge 13, 3) := by decide +kernel
theorem dJ7_fill_53178_10 : decode cJ7_fill_53178 10 = .ok (.aload_n 0, 1) := by decide +kernel
theorem dJ7_fill_53178_11 : decode cJ7_fill_53178 11 = .ok (.iload_n 2, 1) := by decide +kernel
theorem dJ7_fill_53178_12 : decode cJ7_fill_53178 12 = .ok (.iload_n 1, 1) := by decide +kernel
theorem dJ7_fill_53178_13 : decode cJ7_fill_53178 13 = .ok (.iastore, 1) := by decide +kernel
theorem dJ7_fill_53178_14 : decode cJ7_fill_53178 14 = .ok (.iinc 2 1, 3) := by decide +kernel
theorem dJ7_fill_53178_17 : decode cJ7_fill_53178 17 = .ok (.goto (-12), 3) := by decide +kernel
theorem dJ7_fill_53178_20 : decode cJ7_fill_53178 20 = .ok (.return_, 1) := by decide +kernel
end
section
theorem dX0_init_0 : decode cX0_init 0 = .ok (.aload_n 0, 1) := by decide +kernel
theorem dX0_init_1 : decode cX0_init 1 = .ok (.invokespecial 3, 3) := by decide +kernel
theorem dX0_init_4 : decode cX0_init 4 = .ok (.aload_n 0, 1) := by decide +kernel
theorem dX0_init_5 : decode cX0_init 5 = .ok (.new 9, 3) := by decide +kernel
theorem dX0_init_8 : decode cX0_init 8 = .ok (.dup, 1) := by decide +kernel
theorem dX0_init_9 : decode cX0_init 9 = .ok (.invokespecial 11, 3) := by decide +kernel
theorem dX0_init_12 : decode cX0_init 12 = .ok (.putfield 12, 3) := by decide +kernel
theorem dX0_init_15 : decode cX0_init 15 = .ok (.aload_n 0, 1) := by decide +kernel
theorem dX0_init_16 : decode cX0_init 16 = .ok (.bipush 48, 2) := by decide +kernel
theorem dX0_init_18 : decode cX0_init 18 = .ok (.newarray .int, 2) := by decide +kernel
theorem dX0_init_20 : decode cX0_init 20 = .ok (.putfield 18, 3) := by decide +kernel
theorem dX0_init_23 : decode cX0_init 23 = .ok (.aload_n 0, 1) := by decide +kernel
theorem dX0_init_24 : decode cX0_init 24 = .ok (.bipush 6, 2) := by decide +kernel
theorem dX0_init_26 : decode cX0_init 26 = .ok (.newarray .int, 2) := by decide +kernel
theorem dX0_init_28 : decode cX0_init 28 = .ok (.putfield 22, 3) := by decide +kernel
theorem dX0_init_31 : decode cX0_init 31 = .ok (.aload_n 0, 1) := by decide +kernel
theorem dX0_init_32 : decode cX0_init 32 = .ok (.bipush 36, 2) := by decide +kernel
theorem dX0_init_34 : decode cX0_init 34 = .ok (.newarray .int, 2) := by decide +kernel
theorem dX0_init_36 : decode cX0_init 36 = .ok (.putfield 25, 3) := by decide +kernel
theorem dX0_init_39 : decode cX0_init 39 = .ok (.aload_n 0, 1) := by decide +kernel
theorem dX0_init_40 : decode cX0_init 40 = .ok (.bipush 36, 2) := by decide +kernel
theorem dX0_init_42 : decode cX0_init 42 = .ok (.newarray .int, 2) := by decide +kernel
theorem dX0_init_44 : decode cX0_init 44 = .ok (.putfield 28, 3) := by decide +kernel
theorem dX0_init_47 : decode cX0_init 47 = .ok (.return_, 1) := by decide +kernel
theorem dX0_begin_0 : decode cX0_begin 0 = .ok (.aload_n 0, 1) := by decide +kernel
theorem dX0_begin_1 : decode cX0_begin 1 = .ok (.getfield 12, 3) := by decide +kernel
theorem dX0_begin_4 : decode cX0_begin 4 = .ok (.aload_n 1, 1) := by decide +kernel
theorem dX0_begin_5 : decode cX0_begin 5 = .ok (.invokevirtual 31, 3) := by decide +kernel
theorem dX0_begin_8 : decode cX0_begin 8 = .ok (.aload_n 0, 1) := by decide +kernel
theorem dX0_begin_9 : decode cX0_begin 9 = .ok (.invokevirtual 35, 3) := by decide +kernel
theorem dX0_begin_12 : decode cX0_begin 12 = .ok (.return_, 1) := by decide +kernel
theorem dX0_ready_0 : decode cX0_ready 0 = .ok (.aload_n 0, 1) := by decide +kernel
theorem dX0_ready_1 : decode cX0_ready 1 = .ok (.getfield 28, 3) := by decide +kernel
theorem dX0_ready_4 : decode cX0_ready 4 = .ok (.iconst 0, 1) := by decide +kernel
theorem dX0_ready_5 : decode cX0_ready 5 = .ok (.invokestatic 38, 3) := by decide +kernel
theorem dX0_ready_8 : decode cX0_ready 8 = .ok (.aload_n 0, 1) := by decide +kernel
theorem dX0_ready_9 : decode cX0_ready 9 = .ok (.getfield 22, 3) := by decide +kernel
theorem dX0_ready_12 : decode cX0_ready 12 = .ok (.iconst 0, 1) := by decide +kernel
theorem dX0_ready_13 : decode cX0_ready 13 = .ok (.invokestatic 38, 3) := by decide +kernel
theorem dX0_ready_16 : decode cX0_ready 16 = .ok (.aload_n 0, 1) := by decide +kernel
theorem dX0_ready_17 : decode cX0_ready 17 = .ok (.getfield 12, 3) := by decide +kernel
theorem dX0_ready_20 : decode cX0_ready 20 = .ok (.getfield 44, 3) := by decide +kernel
theorem dX0_ready_23 : decode cX0_ready 23 = .ok (.iconst 0, 1) := by decide +kernel
theorem dX0_ready_24 : decode cX0_ready 24 = .ok (.aload_n 0, 1) := by decide +kernel
theorem dX0_ready_25 : decode cX0_ready 25 = .ok (.getfield 25, 3) := by decide +kernel
theorem dX0_ready_28 : decode cX0_ready 28 = .ok (.iconst 0, 1) := by decide +kernel
theorem dX0_ready_29 : decode cX0_ready 29 = .ok (.aload_n 0, 1) := by decide +kernel
theorem dX0_ready_30 : decode cX0_ready 30 = .ok (.getfield 25, 3) := by decide +kernel
theorem dX0_ready_33 : decode cX0_ready 33 = .ok (.arraylength, 1) := by decide +kernel
theorem dX0_ready_34 : decode cX0_ready 34 = .ok (.invokestatic 47, 3) := by decide +kernel
theorem dX0_ready_37 : decode cX0_ready 37 = .ok (.iconst 0, 1) := by decide +kernel
theorem dX0_ready_38 : decode cX0_ready 38 = .ok (.istore_n 1, 1) := by decide +kernel
theorem dX0_ready_39 : decode cX0_ready 39 = .ok (.iload_n 1, 1) := by decide +kernel
theorem dX0_ready_40 : decode cX0_ready 40 = .ok (.bipush 8, 2) := by decide +kernel
theorem dX0_ready_42 : decode cX0_ready 42 = .ok (.if_icmp .ge 48, 3) := by decide +kernel
theorem dX0_ready_45 : decode cX0_ready 45 = .ok (.aload_n 0, 1) := by decide +kernel
theorem dX0_ready_46 : decode cX0_ready 46 = .ok (.getfield 12, 3) := by decide +kernel
theorem dX0_ready_49 : decode cX0_ready 49 = .ok (.iload_n 1, 1) := by decide +kernel
theorem dX0_ready_50 : decode cX0_ready 50 = .ok (.invokevirtual 53, 3) := by decide +kernel
theorem dX0_ready_53 : decode cX0_ready 53 = .ok (.ifCond .eq 31, 3) := by decide +kernel
theorem dX0_ready_56 : decode cX0_ready 56 = .ok (.aload_n 0, 1) := by decide +kernel
theorem dX0_ready_57 : decode cX0_ready 57 = .ok (.getfield 22, 3) := by decide +kernel
theorem dX0_ready_60 : decode cX0_ready 60 = .ok (.aload_n 0, 1) := by decide +kernel
theorem dX0_ready_61 : decode cX0_ready 61 = .ok (.getfield 12, 3) := by decide +kernel
theorem dX0_ready_64 : decode cX0_ready 64 = .ok (.getfield 57, 3) := by decide +kernel
theorem dX0_ready_67 : decode cX0_ready 67 = .ok (.iload_n 1, 1) := by decide +kernel
theorem dX0_ready_68 : decode cX0_ready 68 = .ok (.iaload, 1) := by decide +kernel
theorem dX0_ready_69 : decode cX0_ready 69 = .ok (.dup2, 1) := by decide +kernel
theorem dX0_ready_70 : decode cX0_ready 70 = .ok (.iaload, 1) := by decide +kernel
theorem dX0_ready_71 : decode cX0_ready 71 = .ok (.iconst 1, 1) := by decide +kernel
theorem dX0_ready_72 : decode cX0_ready 72 = .ok (.iadd, 1) := by decide +kernel
theorem dX0_ready_73 : decode cX0_ready 73 = .ok (.iastore, 1) := by decide +kernel
theorem dX0_ready_74 : decode cX0_ready 74 = .ok (.aload_n 0, 1) := by decide +kernel
theorem dX0_ready_75 : decode cX0_ready 75 = .ok (.iload_n 1, 1) := by decide +kernel
theorem dX0_ready_76 : decode cX0_ready 76 = .ok (.invokevirtual 60, 3) := by decide +kernel
theorem dX0_ready_79 : decode cX0_ready 79 = .ok (.aload_n 0, 1) := by decide +kernel
theorem dX0_ready_80 : decode cX0_ready 80 = .ok (.iload_n 1, 1) := by decide +kernel
theorem dX0_ready_81 : decode cX0_ready 81 = .ok (.invokevirtual 64, 3) := by decide +kernel
theorem dX0_ready_84 : decode cX0_ready 84 = .ok (.iinc 1 1, 3) := by decide +kernel
theorem dX0_ready_87 : decode cX0_ready 87 = .ok (.goto (-48), 3) := by decide +kernel
theorem dX0_ready_90 : decode cX0_ready 90 = .ok (.return_, 1) := by decide +kernel
theorem dX0_readyTastes_0 : decode cX0_readyTastes 0 = .ok (.iconst 0, 1) := by decide +kernel
theorem dX0_readyTastes_1 : decode cX0_readyTastes 1 = .ok (.istore_n 2, 1) := by decide +kernel
theorem dX0_readyTastes_2 : decode cX0_readyTastes 2 = .ok (.iload_n 2, 1) := by decide +kernel
theorem dX0_readyTastes_3 : decode cX0_readyTastes 3 = .ok (.aload_n 0, 1) := by decide +kernel
theorem dX0_readyTastes_4 : decode cX0_readyTastes 4 = .ok (.getfield 12, 3) := by decide +kernel
theorem dX0_readyTastes_7 : decode cX0_readyTastes 7 = .ok (.getfield 67, 3) := by decide +kernel
theorem dX0_readyTastes_10 : decode cX0_readyTastes 10 = .ok (.if_icmp .ge 29, 3) := by decide +kernel
theorem dX0_readyTastes_13 : decode cX0_readyTastes 13 = .ok (.aload_n 0, 1) := by decide +kernel
theorem dX0_readyTastes_14 : decode cX0_readyTastes 14 = .ok (.getfield 18, 3) := by decide +kernel
theorem dX0_readyTastes_17 : decode cX0_readyTastes 17 = .ok (.iload_n 1, 1) := by decide +kernel
theorem dX0_readyTastes_18 : decode cX0_readyTastes 18 = .ok (.bipush 6, 2) := by decide +kernel
theorem dX0_readyTastes_20 : decode cX0_readyTastes 20 = .ok (.imul, 1) := by decide +kernel
theorem dX0_readyTastes_21 : decode cX0_readyTastes 21 = .ok (.iload_n 2, 1) := by decide +kernel
theorem dX0_readyTastes_22 : decode cX0_readyTastes 22 = .ok (.iadd, 1) := by decide +kernel
theorem dX0_readyTastes_23 : decode cX0_readyTastes 23 = .ok (.aload_n 0, 1) := by decide +kernel
theorem dX0_readyTastes_24 : decode cX0_readyTastes 24 = .ok (.getfield 12, 3) := by decide +kernel
theorem dX0_readyTastes_27 : decode cX0_readyTastes 27 = .ok (.iload_n 1, 1) := by decide +kernel
theorem dX0_readyTastes_28 : decode cX0_readyTastes 28 = .ok (.iload_n 2, 1) := by decide +kernel
theorem dX0_readyTastes_29 : decode cX0_readyTastes 29 = .ok (.invokevirtual 71, 3) := by decide +kernel
theorem dX0_readyTastes_32 : decode cX0_readyTastes 32 = .ok (.iastore, 1) := by decide +kernel
theorem dX0_readyTastes_33 : decode cX0_readyTastes 33 = .ok (.iinc 2 1, 3) := by decide +kernel
theorem dX0_readyTastes_36 : decode cX0_readyTastes 36 = .ok (.goto (-34), 3) := by decide +kernel
theorem dX0_readyTastes_39 : decode cX0_readyTastes 39 = .ok (.return_, 1) := by decide +kernel
theorem dX0_readyJam_0 : decode cX0_readyJam 0 = .ok (.aload_n 0, 1) := by decide +kernel
theorem dX0_readyJam_1 : decode cX0_readyJam 1 = .ok (.getfield 12, 3) := by decide +kernel
theorem dX0_readyJam_4 : decode cX0_readyJam 4 = .ok (.getfield 57, 3) := by decide +kernel
theorem dX0_readyJam_7 : decode cX0_readyJam 7 = .ok (.iload_n 1, 1) := by decide +kernel
theorem dX0_readyJam_8 : decode cX0_readyJam 8 = .ok (.iaload, 1) := by decide +kernel
theorem dX0_readyJam_9 : decode cX0_readyJam 9 = .ok (.istore_n 2, 1) := by decide +kernel
theorem dX0_readyJam_10 : decode cX0_readyJam 10 = .ok (.aload_n 0, 1) := by decide +kernel
theorem dX0_readyJam_11 : decode cX0_readyJam 11 = .ok (.getfield 12, 3) := by decide +kernel
theorem dX0_readyJam_14 : decode cX0_readyJam 14 = .ok (.getfield 75, 3) := by decide +kernel
theorem dX0_readyJam_17 : decode cX0_readyJam 17 = .ok (.iload_n 1, 1) := by decide +kernel
theorem dX0_readyJam_18 : decode cX0_readyJam 18 = .ok (.iaload, 1) := by decide +kernel
theorem dX0_readyJam_19 : decode cX0_readyJam 19 = .ok (.istore_n 3, 1) := by decide +kernel
theorem dX0_readyJam_20 : decode cX0_readyJam 20 = .ok (.aload_n 0, 1) := by decide +kernel
theorem dX0_readyJam_21 : decode cX0_readyJam 21 = .ok (.getfield 12, 3) := by decide +kernel
theorem dX0_readyJam_24 : decode cX0_readyJam 24 = .ok (.getfield 78, 3) := by decide +kernel
theorem dX0_readyJam_27 : decode cX0_readyJam 27 = .ok (.iload_n 1, 1) := by decide +kernel
theorem dX0_readyJam_28 : decode cX0_readyJam 28 = .ok (.iaload, 1) := by decide +kernel
theorem dX0_readyJam_29 : decode cX0_readyJam 29 = .ok (.iconst 3, 1) := by decide +kernel
theorem dX0_readyJam_30 : decode cX0_readyJam 30 = .ok (.if_icmp .ne 44, 3) := by decide +kernel
theorem dX0_readyJam_33 : decode cX0_readyJam 33 = .ok (.aload_n 0, 1) := by decide +kernel
theorem dX0_readyJam_34 : decode cX0_readyJam 34 = .ok (.getfield 12, 3) := by decide +kernel
theorem dX0_readyJam_37 : decode cX0_readyJam 37 = .ok (.iload_n 3, 1) := by decide +kernel
theorem dX0_readyJam_38 : decode cX0_readyJam 38 = .ok (.invokevirtual 81, 3) := by decide +kernel
theorem dX0_readyJam_41 : decode cX0_readyJam 41 = .ok (.ifCond .eq 33, 3) := by decide +kernel
theorem dX0_readyJam_44 : decode cX0_readyJam 44 = .ok (.aload_n 0, 1) := by decide +kernel
theorem dX0_readyJam_45 : decode cX0_readyJam 45 = .ok (.getfield 25, 3) := by decide +kernel
theorem dX0_readyJam_48 : decode cX0_readyJam 48 = .ok (.iload_n 2, 1) := by decide +kernel
theorem dX0_readyJam_49 : decode cX0_readyJam 49 = .ok (.bipush 6, 2) := by decide +kernel
theorem dX0_readyJam_51 : decode cX0_readyJam 51 = .ok (.imul, 1) := by decide +kernel
theorem dX0_readyJam_52 : decode cX0_readyJam 52 = .ok (.iload_n 3, 1) := by decide +kernel
theorem dX0_readyJam_53 : decode cX0_readyJam 53 = .ok (.iadd, 1) := by decide +kernel
theorem dX0_readyJam_54 : decode cX0_readyJam 54 = .ok (.dup2, 1) := by decide +kernel
theorem dX0_readyJam_55 : decode cX0_readyJam 55 = .ok (.iaload, 1) := by decide +kernel
theorem dX0_readyJam_56 : decode cX0_readyJam 56 = .ok (.iconst 1, 1) := by decide +kernel
theorem dX0_readyJam_57 : decode cX0_readyJam 57 = .ok (.isub, 1) := by decide +kernel
theorem dX0_readyJam_58 : decode cX0_readyJam 58 = .ok (.iastore, 1) := by decide +kernel
theorem dX0_readyJam_59 : decode cX0_readyJam 59 = .ok (.aload_n 0, 1) := by decide +kernel
theorem dX0_readyJam_60 : decode cX0_readyJam 60 = .ok (.getfield 25, 3) := by decide +kernel
theorem dX0_readyJam_63 : decode cX0_readyJam 63 = .ok (.iload_n 3, 1) := by decide +kernel
theorem dX0_readyJam_64 : decode cX0_readyJam 64 = .ok (.bipush 6, 2) := by decide +kernel
theorem dX0_readyJam_66 : decode cX0_readyJam 66 = .ok (.imul, 1) := by decide +kernel
theorem dX0_readyJam_67 : decode cX0_readyJam 67 = .ok (.iload_n 2, 1) := by decide +kernel
theorem dX0_readyJam_68 : decode cX0_readyJam 68 = .ok (.iadd, 1) := by decide +kernel
theorem dX0_readyJam_69 : decode cX0_readyJam 69 = .ok (.dup2, 1) := by decide +kernel
theorem dX0_readyJam_70 : decode cX0_readyJam 70 = .ok (.iaload, 1) := by decide +kernel
theorem dX0_readyJam_71 : decode cX0_readyJam 71 = .ok (.iconst 1, 1) := by decide +kernel
theorem dX0_readyJam_72 : decode cX0_readyJam 72 = .ok (.isub, 1) := by decide +kernel
theorem dX0_readyJam_73 : decode cX0_readyJam 73 = .ok (.iastore, 1) := by decide +kernel
theorem dX0_readyJam_74 : decode cX0_readyJam 74 = .ok (.return_, 1) := by decide +kernel
theorem dX0_unhinge_0 : decode cX0_unhinge 0 = .ok (.aload_n 0, 1) := by decide +kernel
theorem dX0_unhinge_1 : decode cX0_unhinge 1 = .ok (.getfield 25, 3) := by decide +kernel
theorem dX0_unhinge_4 : decode cX0_unhinge 4 = .ok (.iload_n 1, 1) := by decide +kernel
theorem dX0_unhinge_5 : decode cX0_unhinge 5 = .ok (.bipush 6, 2) := by decide +kernel
theorem dX0_unhinge_7 : decode cX0_unhinge 7 = .ok (.imul, 1) := by decide +kernel
theorem dX0_unhinge_8 : decode cX0_unhinge 8 = .ok (.iload_n 2, 1) := by decide +kernel
theorem dX0_unhinge_9 : decode cX0_unhinge 9 = .ok (.iadd, 1) := by decide +kernel
theorem dX0_unhinge_10 : decode cX0_unhinge 10 = .ok (.sipush 1000, 3) := by decide +kernel
theorem dX0_unhinge_13 : decode cX0_unhinge 13 = .ok (.iastore, 1) := by decide +kernel
theorem dX0_unhinge_14 : decode cX0_unhinge 14 = .ok (.aload_n 0, 1) := by decide +kernel
theorem dX0_unhinge_15 : decode cX0_unhinge 15 = .ok (.getfield 25, 3) := by decide +kernel
theorem dX0_unhinge_18 : decode cX0_unhinge 18 = .ok (.iload_n 2, 1) := by decide +kernel
theorem dX0_unhinge_19 : decode cX0_unhinge 19 = .ok (.bipush 6, 2) := by decide +kernel
theorem dX0_unhinge_21 : decode cX0_unhinge 21 = .ok (.imul, 1) := by decide +kernel
theorem dX0_unhinge_22 : decode cX0_unhinge 22 = .ok (.iload_n 1, 1) := by decide +kernel
theorem dX0_unhinge_23 : decode cX0_unhinge 23 = .ok (.iadd, 1) := by decide +kernel
theorem dX0_unhinge_24 : decode cX0_unhinge 24 = .ok (.sipush 1000, 3) := by decide +kernel
theorem dX0_unhinge_27 : decode cX0_unhinge 27 = .ok (.iastore, 1) := by decide +kernel
theorem dX0_unhinge_28 : decode cX0_unhinge 28 = .ok (.return_, 1) := by decide +kernel
theorem dX0_target_0 : decode cX0_target 0 = .ok (.aload_n 0, 1) := by decide +kernel
theorem dX0_target_1 : decode cX0_target 1 = .ok (.getfield 12, 3) := by decide +kernel
theorem dX0_target_4 : decode cX0_target 4 = .ok (.getfield 57, 3) := by decide +kernel
theorem dX0_target_7 : decode cX0_target 7 = .ok (.iload_n 1, 1) := by decide +kernel
theorem dX0_target_8 : decode cX0_target 8 = .ok (.iaload, 1) := by decide +kernel
theorem dX0_target_9 : decode cX0_target 9 = .ok (.istore_n 2, 1) := by decide +kernel
theorem dX0_target_10 : decode cX0_target 10 = .ok (.aload_n 0, 1) := by decide +kernel
theorem dX0_target_11 : decode cX0_target 11 = .ok (.getfield 12, 3) := by decide +kernel
theorem dX0_target_14 : decode cX0_target 14 = .ok (.getfield 84, 3) := by decide +kernel
theorem dX0_target_17 : decode cX0_target 17 = .ok (.iload_n 1, 1) := by decide +kernel
theorem dX0_target_18 : decode cX0_target 18 = .ok (.iconst 5, 1) := by decide +kernel
theorem dX0_target_19 : decode cX0_target 19 = .ok (.imul, 1) := by decide +kernel
theorem dX0_target_20 : decode cX0_target 20 = .ok (.iconst 4, 1) := by decide +kernel
theorem dX0_target_21 : decode cX0_target 21 = .ok (.iadd, 1) := by decide +kernel
theorem dX0_target_22 : decode cX0_target 22 = .ok (.iaload, 1) := by decide +kernel
theorem dX0_target_23 : decode cX0_target 23 = .ok (.istore_n 3, 1) := by decide +kernel
theorem dX0_target_24 : decode cX0_target 24 = .ok (.iload_n 2, 1) := by decide +kernel
theorem dX0_target_25 : decode cX0_target 25 = .ok (.istore 4, 2) := by decide +kernel
theorem dX0_target_27 : decode cX0_target 27 = .ok (.aload_n 0, 1) := by decide +kernel
theorem dX0_target_28 : decode cX0_target 28 = .ok (.getfield 18, 3) := by decide +kernel
theorem dX0_target_31 : decode cX0_target 31 = .ok (.iload_n 1, 1) := by decide +kernel
theorem dX0_target_32 : decode cX0_target 32 = .ok (.bipush 6, 2) := by decide +kernel
theorem dX0_target_34 : decode cX0_target 34 = .ok (.imul, 1) := by decide +kernel
theorem dX0_target_35 : decode cX0_target 35 = .ok (.iload_n 2, 1) := by decide +kernel
theorem dX0_target_36 : decode cX0_target 36 = .ok (.iadd, 1) := by decide +kernel
theorem dX0_target_37 : decode cX0_target 37 = .ok (.iaload, 1) := by decide +kernel
theorem dX0_target_38 : decode cX0_target 38 = .ok (.iload_n 3, 1) := by decide +kernel
theorem dX0_target_39 : decode cX0_target 39 = .ok (.aload_n 0, 1) := by decide +kernel
theorem dX0_target_40 : decode cX0_target 40 = .ok (.getfield 22, 3) := by decide +kernel
theorem dX0_target_43 : decode cX0_target 43 = .ok (.iload_n 2, 1) := by decide +kernel
theorem dX0_target_44 : decode cX0_target 44 = .ok (.iaload, 1) := by decide +kernel
theorem dX0_target_45 : decode cX0_target 45 = .ok (.iconst 1, 1) := by decide +kernel
theorem dX0_target_46 : decode cX0_target 46 = .ok (.isub, 1) := by decide +kernel
theorem dX0_target_47 : decode cX0_target 47 = .ok (.imul, 1) := by decide +kernel
theorem dX0_target_48 : decode cX0_target 48 = .ok (.iadd, 1) := by decide +kernel
theorem dX0_target_49 : decode cX0_target 49 = .ok (.istore 5, 2) := by decide +kernel
theorem dX0_target_51 : decode cX0_target 51 = .ok (.iconst 0, 1) := by decide +kernel
theorem dX0_target_52 : decode cX0_target 52 = .ok (.istore 6, 2) := by decide +kernel
theorem dX0_target_54 : decode cX0_target 54 = .ok (.iload 6, 2) := by decide +kernel
theorem dX0_target_56 : decode cX0_target 56 = .ok (.aload_n 0, 1) := by decide +kernel
theorem dX0_target_57 : decode cX0_target 57 = .ok (.getfield 12, 3) := by decide +kernel
theorem dX0_target_60 : decode cX0_target 60 = .ok (.getfield 67, 3) := by decide +kernel
theorem dX0_target_63 : decode cX0_target 63 = .ok (.if_icmp .ge 99, 3) := by decide +kernel
theorem dX0_target_66 : decode cX0_target 66 = .ok (.iload_n 2, 1) := by decide +kernel
theorem dX0_target_67 : decode cX0_target 67 = .ok (.bipush 6, 2) := by decide +kernel
theorem dX0_target_69 : decode cX0_target 69 = .ok (.imul, 1) := by decide +kernel
theorem dX0_target_70 : decode cX0_target 70 = .ok (.iload 6, 2) := by decide +kernel
theorem dX0_target_72 : decode cX0_target 72 = .ok (.iadd, 1) := by decide +kernel
theorem dX0_target_73 : decode cX0_target 73 = .ok (.istore 7, 2) := by decide +kernel
theorem dX0_target_75 : decode cX0_target 75 = .ok (.aload_n 0, 1) := by decide +kernel
theorem dX0_target_76 : decode cX0_target 76 = .ok (.getfield 28, 3) := by decide +kernel
theorem dX0_target_79 : decode cX0_target 79 = .ok (.iload 7, 2) := by decide +kernel
theorem dX0_target_81 : decode cX0_target 81 = .ok (.iaload, 1) := by decide +kernel
theorem dX0_target_82 : decode cX0_target 82 = .ok (.aload_n 0, 1) := by decide +kernel
theorem dX0_target_83 : decode cX0_target 83 = .ok (.getfield 25, 3) := by decide +kernel
theorem dX0_target_86 : decode cX0_target 86 = .ok (.iload 7, 2) := by decide +kernel
theorem dX0_target_88 : decode cX0_target 88 = .ok (.iaload, 1) := by decide +kernel
theorem dX0_target_89 : decode cX0_target 89 = .ok (.if_icmp .ge 67, 3) := by decide +kernel
theorem dX0_target_92 : decode cX0_target 92 = .ok (.aload_n 0, 1) := by decide +kernel
theorem dX0_target_93 : decode cX0_target 93 = .ok (.getfield 22, 3) := by decide +kernel
theorem dX0_target_96 : decode cX0_target 96 = .ok (.iload 6, 2) := by decide +kernel
theorem dX0_target_98 : decode cX0_target 98 = .ok (.iaload, 1) := by decide +kernel
theorem dX0_target_99 : decode cX0_target 99 = .ok (.aload_n 0, 1) := by decide +kernel
theorem dX0_target_100 : decode cX0_target 100 = .ok (.getfield 12, 3) := by decide +kernel
theorem dX0_target_103 : decode cX0_target 103 = .ok (.getfield 87, 3) := by decide +kernel
theorem dX0_target_106 : decode cX0_target 106 = .ok (.iload 6, 2) := by decide +kernel
theorem dX0_target_108 : decode cX0_target 108 = .ok (.bipush 6, 2) := by decide +kernel
theorem dX0_target_110 : decode cX0_target 110 = .ok (.imul, 1) := by decide +kernel
theorem dX0_target_111 : decode cX0_target 111 = .ok (.iconst 4, 1) := by decide +kernel
theorem dX0_target_112 : decode cX0_target 112 = .ok (.iadd, 1) := by decide +kernel
theorem dX0_target_113 : decode cX0_target 113 = .ok (.iaload, 1) := by decide +kernel
theorem dX0_target_114 : decode cX0_target 114 = .ok (.if_icmp .ge 42, 3) := by decide +kernel
theorem dX0_target_117 : decode cX0_target 117 = .ok (.aload_n 0, 1) := by decide +kernel
theorem dX0_target_118 : decode cX0_target 118 = .ok (.getfield 18, 3) := by decide +kernel
theorem dX0_target_121 : decode cX0_target 121 = .ok (.iload_n 1, 1) := by decide +kernel
theorem dX0_target_122 : decode cX0_target 122 = .ok (.bipush 6, 2) := by decide +kernel
theorem dX0_target_124 : decode cX0_target 124 = .ok (.imul, 1) := by decide +kernel
theorem dX0_target_125 : decode cX0_target 125 = .ok (.iload 6, 2) := by decide +kernel
theorem dX0_target_127 : decode cX0_target 127 = .ok (.iadd, 1) := by decide +kernel
theorem dX0_target_128 : decode cX0_target 128 = .ok (.iaload, 1) := by decide +kernel
theorem dX0_target_129 : decode cX0_target 129 = .ok (.iload_n 3, 1) := by decide +kernel
theorem dX0_target_130 : decode cX0_target 130 = .ok (.aload_n 0, 1) := by decide +kernel
theorem dX0_target_131 : decode cX0_target 131 = .ok (.getfield 22, 3) := by decide +kernel
theorem dX0_target_134 : decode cX0_target 134 = .ok (.iload 6, 2) := by decide +kernel
theorem dX0_target_136 : decode cX0_target 136 = .ok (.iaload, 1) := by decide +kernel
theorem dX0_target_137 : decode cX0_target 137 = .ok (.imul, 1) := by decide +kernel
theorem dX0_target_138 : decode cX0_target 138 = .ok (.iadd, 1) := by decide +kernel
theorem dX0_target_139 : decode cX0_target 139 = .ok (.istore 8, 2) := by decide +kernel
theorem dX0_target_141 : decode cX0_target 141 = .ok (.iload 8, 2) := by decide +kernel
theorem dX0_target_143 : decode cX0_target 143 = .ok (.iload 5, 2) := by decide +kernel
theorem dX0_target_145 : decode cX0_target 145 = .ok (.if_icmp .le 11, 3) := by decide +kernel
theorem dX0_target_148 : decode cX0_target 148 = .ok (.iload 8, 2) := by decide +kernel
theorem dX0_target_150 : decode cX0_target 150 = .ok (.istore 5, 2) := by decide +kernel
theorem dX0_target_152 : decode cX0_target 152 = .ok (.iload 6, 2) := by decide +kernel
theorem dX0_target_154 : decode cX0_target 154 = .ok (.istore 4, 2) := by decide +kernel
theorem dX0_target_156 : decode cX0_target 156 = .ok (.iinc 6 1, 3) := by decide +kernel
theorem dX0_target_159 : decode cX0_target 159 = .ok (.goto (-105), 3) := by decide +kernel
theorem dX0_target_162 : decode cX0_target 162 = .ok (.iload 4, 2) := by decide +kernel
theorem dX0_target_164 : decode cX0_target 164 = .ok (.ireturn, 1) := by decide +kernel
theorem dX0_minute_0 : decode cX0_minute 0 = .ok (.aload_n 0, 1) := by decide +kernel
theorem dX0_minute_1 : decode cX0_minute 1 = .ok (.getfield 28, 3) := by decide +kernel
theorem dX0_minute_4 : decode cX0_minute 4 = .ok (.iconst 0, 1) := by decide +kernel
theorem dX0_minute_5 : decode cX0_minute 5 = .ok (.invokestatic 38, 3) := by decide +kernel
theorem dX0_minute_8 : decode cX0_minute 8 = .ok (.iconst 0, 1) := by decide +kernel
theorem dX0_minute_9 : decode cX0_minute 9 = .ok (.istore_n 1, 1) := by decide +kernel
theorem dX0_minute_10 : decode cX0_minute 10 = .ok (.iconst 0, 1) := by decide +kernel
theorem dX0_minute_11 : decode cX0_minute 11 = .ok (.istore_n 2, 1) := by decide +kernel
theorem dX0_minute_12 : decode cX0_minute 12 = .ok (.iload_n 2, 1) := by decide +kernel
theorem dX0_minute_13 : decode cX0_minute 13 = .ok (.bipush 8, 2) := by decide +kernel
theorem dX0_minute_15 : decode cX0_minute 15 = .ok (.if_icmp .ge 43, 3) := by decide +kernel
theorem dX0_minute_18 : decode cX0_minute 18 = .ok (.aload_n 0, 1) := by decide +kernel
theorem dX0_minute_19 : decode cX0_minute 19 = .ok (.getfield 12, 3) := by decide +kernel
theorem dX0_minute_22 : decode cX0_minute 22 = .ok (.iload_n 2, 1) := by decide +kernel
theorem dX0_minute_23 : decode cX0_minute 23 = .ok (.invokevirtual 53, 3) := by decide +kernel
theorem dX0_minute_26 : decode cX0_minute 26 = .ok (.ifCond .eq 26, 3) := by decide +kernel
theorem dX0_minute_29 : decode cX0_minute 29 = .ok (.aload_n 0, 1) := by decide +kernel
theorem dX0_minute_30 : decode cX0_minute 30 = .ok (.getfield 12, 3) := by decide +kernel
theorem dX0_minute_33 : decode cX0_minute 33 = .ok (.getfield 78, 3) := by decide +kernel
theorem dX0_minute_36 : decode cX0_minute 36 = .ok (.iload_n 2, 1) := by decide +kernel
theorem dX0_minute_37 : decode cX0_minute 37 = .ok (.iaload, 1) := by decide +kernel
theorem dX0_minute_38 : decode cX0_minute 38 = .ok (.ifCond .ne 14, 3) := by decide +kernel
theorem dX0_minute_41 : decode cX0_minute 41 = .ok (.aload_n 0, 1) := by decide +kernel
theorem dX0_minute_42 : decode cX0_minute 42 = .ok (.iload_n 2, 1) := by decide +kernel
theorem dX0_minute_43 : decode cX0_minute 43 = .ok (.invokevirtual 90, 3) := by decide +kernel
theorem dX0_minute_46 : decode cX0_minute 46 = .ok (.ifCond .eq 6, 3) := by decide +kernel
theorem dX0_minute_49 : decode cX0_minute 49 = .ok (.iinc 1 1, 3) := by decide +kernel
theorem dX0_minute_52 : decode cX0_minute 52 = .ok (.iinc 2 1, 3) := by decide +kernel
theorem dX0_minute_55 : decode cX0_minute 55 = .ok (.goto (-43), 3) := by decide +kernel
theorem dX0_minute_58 : decode cX0_minute 58 = .ok (.aload_n 0, 1) := by decide +kernel
theorem dX0_minute_59 : decode cX0_minute 59 = .ok (.getfield 12, 3) := by decide +kernel
theorem dX0_minute_62 : decode cX0_minute 62 = .ok (.invokevirtual 93, 3) := by decide +kernel
theorem dX0_minute_65 : decode cX0_minute 65 = .ok (.iload_n 1, 1) := by decide +kernel
theorem dX0_minute_66 : decode cX0_minute 66 = .ok (.ireturn, 1) := by decide +kernel
theorem dX0_moves_0 : decode cX0_moves 0 = .ok (.aload_n 0, 1) := by decide +kernel
theorem dX0_moves_1 : decode cX0_moves 1 = .ok (.getfield 12, 3) := by decide +kernel
theorem dX0_moves_4 : decode cX0_moves 4 = .ok (.getfield 57, 3) := by decide +kernel
theorem dX0_moves_7 : decode cX0_moves 7 = .ok (.iload_n 1, 1) := by decide +kernel
theorem dX0_moves_8 : decode cX0_moves 8 = .ok (.iaload, 1) := by decide +kernel
theorem dX0_moves_9 : decode cX0_moves 9 = .ok (.istore_n 2, 1) := by decide +kernel
theorem dX0_moves_10 : decode cX0_moves 10 = .ok (.aload_n 0, 1) := by decide +kernel
theorem dX0_moves_11 : decode cX0_moves 11 = .ok (.iload_n 1, 1) := by decide +kernel
theorem dX0_moves_12 : decode cX0_moves 12 = .ok (.invokevirtual 96, 3) := by decide +kernel
theorem dX0_moves_15 : decode cX0_moves 15 = .ok (.istore_n 3, 1) := by decide +kernel
theorem dX0_moves_16 : decode cX0_moves 16 = .ok (.iload_n 3, 1) := by decide +kernel
theorem dX0_moves_17 : decode cX0_moves 17 = .ok (.iload_n 2, 1) := by decide +kernel
theorem dX0_moves_18 : decode cX0_moves 18 = .ok (.if_icmp .ne 5, 3) := by decide +kernel
theorem dX0_moves_21 : decode cX0_moves 21 = .ok (.iconst 0, 1) := by decide +kernel
theorem dX0_moves_22 : decode cX0_moves 22 = .ok (.ireturn, 1) := by decide +kernel
theorem dX0_moves_23 : decode cX0_moves 23 = .ok (.aload_n 0, 1) := by decide +kernel
theorem dX0_moves_24 : decode cX0_moves 24 = .ok (.getfield 28, 3) := by decide +kernel
theorem dX0_moves_27 : decode cX0_moves 27 = .ok (.iload_n 2, 1) := by decide +kernel
theorem dX0_moves_28 : decode cX0_moves 28 = .ok (.bipush 6, 2) := by decide +kernel
theorem dX0_moves_30 : decode cX0_moves 30 = .ok (.imul, 1) := by decide +kernel
theorem dX0_moves_31 : decode cX0_moves 31 = .ok (.iload_n 3, 1) := by decide +kernel
theorem dX0_moves_32 : decode cX0_moves 32 = .ok (.iadd, 1) := by decide +kernel
theorem dX0_moves_33 : decode cX0_moves 33 = .ok (.dup2, 1) := by decide +kernel
theorem dX0_moves_34 : decode cX0_moves 34 = .ok (.iaload, 1) := by decide +kernel
theorem dX0_moves_35 : decode cX0_moves 35 = .ok (.iconst 1, 1) := by decide +kernel
theorem dX0_moves_36 : decode cX0_moves 36 = .ok (.iadd, 1) := by decide +kernel
theorem dX0_moves_37 : decode cX0_moves 37 = .ok (.iastore, 1) := by decide +kernel
theorem dX0_moves_38 : decode cX0_moves 38 = .ok (.aload_n 0, 1) := by decide +kernel
theorem dX0_moves_39 : decode cX0_moves 39 = .ok (.getfield 28, 3) := by decide +kernel
theorem dX0_moves_42 : decode cX0_moves 42 = .ok (.iload_n 3, 1) := by decide +kernel
theorem dX0_moves_43 : decode cX0_moves 43 = .ok (.bipush 6, 2) := by decide +kernel
theorem dX0_moves_45 : decode cX0_moves 45 = .ok (.imul, 1) := by decide +kernel
theorem dX0_moves_46 : decode cX0_moves 46 = .ok (.iload_n 2, 1) := by decide +kernel
theorem dX0_moves_47 : decode cX0_moves 47 = .ok (.iadd, 1) := by decide +kernel
theorem dX0_moves_48 : decode cX0_moves 48 = .ok (.dup2, 1) := by decide +kernel
theorem dX0_moves_49 : decode cX0_moves 49 = .ok (.iaload, 1) := by decide +kernel
theorem dX0_moves_50 : decode cX0_moves 50 = .ok (.iconst 1, 1) := by decide +kernel
theorem dX0_moves_51 : decode cX0_moves 51 = .ok (.iadd, 1) := by decide +kernel
theorem dX0_moves_52 : decode cX0_moves 52 = .ok (.iastore, 1) := by decide +kernel
theorem dX0_moves_53 : decode cX0_moves 53 = .ok (.aload_n 0, 1) := by decide +kernel
theorem dX0_moves_54 : decode cX0_moves 54 = .ok (.getfield 22, 3) := by decide +kernel
theorem dX0_moves_57 : decode cX0_moves 57 = .ok (.iload_n 2, 1) := by decide +kernel
theorem dX0_moves_58 : decode cX0_moves 58 = .ok (.dup2, 1) := by decide +kernel
theorem dX0_moves_59 : decode cX0_moves 59 = .ok (.iaload, 1) := by decide +kernel
theorem dX0_moves_60 : decode cX0_moves 60 = .ok (.iconst 1, 1) := by decide +kernel
theorem dX0_moves_61 : decode cX0_moves 61 = .ok (.isub, 1) := by decide +kernel
theorem dX0_moves_62 : decode cX0_moves 62 = .ok (.iastore, 1) := by decide +kernel
theorem dX0_moves_63 : decode cX0_moves 63 = .ok (.aload_n 0, 1) := by decide +kernel
theorem dX0_moves_64 : decode cX0_moves 64 = .ok (.getfield 22, 3) := by decide +kernel
theorem dX0_moves_67 : decode cX0_moves 67 = .ok (.iload_n 3, 1) := by decide +kernel
theorem dX0_moves_68 : decode cX0_moves 68 = .ok (.dup2, 1) := by decide +kernel
theorem dX0_moves_69 : decode cX0_moves 69 = .ok (.iaload, 1) := by decide +kernel
theorem dX0_moves_70 : decode cX0_moves 70 = .ok (.iconst 1, 1) := by decide +kernel
theorem dX0_moves_71 : decode cX0_moves 71 = .ok (.iadd, 1) := by decide +kernel
theorem dX0_moves_72 : decode cX0_moves 72 = .ok (.iastore, 1) := by decide +kernel
theorem dX0_moves_73 : decode cX0_moves 73 = .ok (.aload_n 0, 1) := by decide +kernel
theorem dX0_moves_74 : decode cX0_moves 74 = .ok (.getfield 12, 3) := by decide +kernel
theorem dX0_moves_77 : decode cX0_moves 77 = .ok (.getfield 57, 3) := by decide +kernel
theorem dX0_moves_80 : decode cX0_moves 80 = .ok (.iload_n 1, 1) := by decide +kernel
theorem dX0_moves_81 : decode cX0_moves 81 = .ok (.iload_n 3, 1) := by decide +kernel
theorem dX0_moves_82 : decode cX0_moves 82 = .ok (.iastore, 1) := by decide +kernel
theorem dX0_moves_83 : decode cX0_moves 83 = .ok (.iconst 1, 1) := by decide +kernel
theorem dX0_moves_84 : decode cX0_moves 84 = .ok (.ireturn, 1) := by decide +kernel
theorem dX0_stillMinute_0 : decode cX0_stillMinute 0 = .ok (.aload_n 0, 1) := by decide +kernel
theorem dX0_stillMinute_1 : decode cX0_stillMinute 1 = .ok (.getfield 12, 3) := by decide +kernel
theorem dX0_stillMinute_4 : decode cX0_stillMinute 4 = .ok (.invokevirtual 100, 3) := by decide +kernel
theorem dX0_stillMinute_7 : decode cX0_stillMinute 7 = .ok (.istore_n 1, 1) := by decide +kernel
theorem dX0_stillMinute_8 : decode cX0_stillMinute 8 = .ok (.aload_n 0, 1) := by decide +kernel
theorem dX0_stillMinute_9 : decode cX0_stillMinute 9 = .ok (.invokevirtual 104, 3) := by decide +kernel
theorem dX0_stillMinute_12 : decode cX0_stillMinute 12 = .ok (.ifCond .ne 11, 3) := by decide +kernel
theorem dX0_stillMinute_15 : decode cX0_stillMinute 15 = .ok (.iload_n 1, 1) := by decide +kernel
theorem dX0_stillMinute_16 : decode cX0_stillMinute 16 = .ok (.ifCond .ne 7, 3) := by decide +kernel
theorem dX0_stillMinute_19 : decode cX0_stillMinute 19 = .ok (.iconst 1, 1) := by decide +kernel
theorem dX0_stillMinute_20 : decode cX0_stillMinute 20 = .ok (.goto 4, 3) := by decide +kernel
theorem dX0_stillMinute_23 : decode cX0_stillMinute 23 = .ok (.iconst 0, 1) := by decide +kernel
theorem dX0_stillMinute_24 : decode cX0_stillMinute 24 = .ok (.ireturn, 1) := by decide +kernel
theorem dX0_run_0 : decode cX0_run 0 = .ok (.iconst 0, 1) := by decide +kernel
theorem dX0_run_1 : decode cX0_run 1 = .ok (.istore_n 2, 1) := by decide +kernel
theorem dX0_run_2 : decode cX0_run 2 = .ok (.iload_n 2, 1) := by decide +kernel
theorem dX0_run_3 : decode cX0_run 3 = .ok (.iload_n 1, 1) := by decide +kernel
theorem dX0_run_4 : decode cX0_run 4 = .ok (.if_icmp .ge 17, 3) := by decide +kernel
theorem dX0_run_7 : decode cX0_run 7 = .ok (.aload_n 0, 1) := by decide +kernel
theorem dX0_run_8 : decode cX0_run 8 = .ok (.invokevirtual 108, 3) := by decide +kernel
theorem dX0_run_11 : decode cX0_run 11 = .ok (.ifCond .eq 4, 3) := by decide +kernel
theorem dX0_run_14 : decode cX0_run 14 = .ok (.return_, 1) := by decide +kernel
theorem dX0_run_15 : decode cX0_run 15 = .ok (.iinc 2 1, 3) := by decide +kernel
theorem dX0_run_18 : decode cX0_run 18 = .ok (.goto (-16), 3) := by decide +kernel
theorem dX0_run_21 : decode cX0_run 21 = .ok (.return_, 1) := by decide +kernel
theorem dX0_fullest_0 : decode cX0_fullest 0 = .ok (.iconst 0, 1) := by decide +kernel
theorem dX0_fullest_1 : decode cX0_fullest 1 = .ok (.istore_n 1, 1) := by decide +kernel
theorem dX0_fullest_2 : decode cX0_fullest 2 = .ok (.iconst 0, 1) := by decide +kernel
theorem dX0_fullest_3 : decode cX0_fullest 3 = .ok (.istore_n 2, 1) := by decide +kernel
theorem dX0_fullest_4 : decode cX0_fullest 4 = .ok (.iload_n 2, 1) := by decide +kernel
theorem dX0_fullest_5 : decode cX0_fullest 5 = .ok (.aload_n 0, 1) := by decide +kernel
theorem dX0_fullest_6 : decode cX0_fullest 6 = .ok (.getfield 12, 3) := by decide +kernel
theorem dX0_fullest_9 : decode cX0_fullest 9 = .ok (.getfield 67, 3) := by decide +kernel
theorem dX0_fullest_12 : decode cX0_fullest 12 = .ok (.if_icmp .ge 20, 3) := by decide +kernel
theorem dX0_fullest_15 : decode cX0_fullest 15 = .ok (.iload_n 1, 1) := by decide +kernel
theorem dX0_fullest_16 : decode cX0_fullest 16 = .ok (.aload_n 0, 1) := by decide +kernel
theorem dX0_fullest_17 : decode cX0_fullest 17 = .ok (.getfield 22, 3) := by decide +kernel
theorem dX0_fullest_20 : decode cX0_fullest 20 = .ok (.iload_n 2, 1) := by decide +kernel
theorem dX0_fullest_21 : decode cX0_fullest 21 = .ok (.iaload, 1) := by decide +kernel
theorem dX0_fullest_22 : decode cX0_fullest 22 = .ok (.invokestatic 111, 3) := by decide +kernel
theorem dX0_fullest_25 : decode cX0_fullest 25 = .ok (.istore_n 1, 1) := by decide +kernel
theorem dX0_fullest_26 : decode cX0_fullest 26 = .ok (.iinc 2 1, 3) := by decide +kernel
theorem dX0_fullest_29 : decode cX0_fullest 29 = .ok (.goto (-25), 3) := by decide +kernel
theorem dX0_fullest_32 : decode cX0_fullest 32 = .ok (.iload_n 1, 1) := by decide +kernel
theorem dX0_fullest_33 : decode cX0_fullest 33 = .ok (.ireturn, 1) := by decide +kernel
end
section
theorem dX1_init_0 : decode cX1_init 0 = .ok (.aload_n 0, 1) := by decide +kernel
theorem dX1_init_1 : decode cX1_init 1 = .ok (.invokespecial 3, 3) := by decide +kernel
theorem dX1_init_4 : decode cX1_init 4 = .ok (.aload_n 0, 1) := by decide +kernel
theorem dX1_init_5 : decode cX1_init 5 = .ok (.bipush 36, 2) := by decide +kernel
theorem dX1_init_7 : decode cX1_init 7 = .ok (.newarray .int, 2) := by decide +kernel
theorem dX1_init_9 : decode cX1_init 9 = .ok (.putfield 9, 3) := by decide +kernel
theorem dX1_init_12 : decode cX1_init 12 = .ok (.aload_n 0, 1) := by decide +kernel
theorem dX1_init_13 : decode cX1_init 13 = .ok (.bipush 36, 2) := by decide +kernel
theorem dX1_init_15 : decode cX1_init 15 = .ok (.newarray .int, 2) := by decide +kernel
theorem dX1_init_17 : decode cX1_init 17 = .ok (.putfield 15, 3) := by decide +kernel
theorem dX1_init_20 : decode cX1_init 20 = .ok (.aload_n 0, 1) := by decide +kernel
theorem dX1_init_21 : decode cX1_init 21 = .ok (.bipush 8, 2) := by decide +kernel
theorem dX1_init_23 : decode cX1_init 23 = .ok (.newarray .int, 2) := by decide +kernel
theorem dX1_init_25 : decode cX1_init 25 = .ok (.putfield 18, 3) := by decide +kernel
theorem dX1_init_28 : decode cX1_init 28 = .ok (.aload_n 0, 1) := by decide +kernel
theorem dX1_init_29 : decode cX1_init 29 = .ok (.bipush 8, 2) := by decide +kernel
theorem dX1_init_31 : decode cX1_init 31 = .ok (.newarray .int, 2) := by decide +kernel
theorem dX1_init_33 : decode cX1_init 33 = .ok (.putfield 21, 3) := by decide +kernel
theorem dX1_init_36 : decode cX1_init 36 = .ok (.aload_n 0, 1) := by decide +kernel
theorem dX1_init_37 : decode cX1_init 37 = .ok (.bipush 8, 2) := by decide +kernel
theorem dX1_init_39 : decode cX1_init 39 = .ok (.newarray .int, 2) := by decide +kernel
theorem dX1_init_41 : decode cX1_init 41 = .ok (.putfield 24, 3) := by decide +kernel
theorem dX1_init_44 : decode cX1_init 44 = .ok (.aload_n 0, 1) := by decide +kernel
theorem dX1_init_45 : decode cX1_init 45 = .ok (.bipush 8, 2) := by decide +kernel
theorem dX1_init_47 : decode cX1_init 47 = .ok (.newarray .int, 2) := by decide +kernel
theorem dX1_init_49 : decode cX1_init 49 = .ok (.putfield 27, 3) := by decide +kernel
theorem dX1_init_52 : decode cX1_init 52 = .ok (.aload_n 0, 1) := by decide +kernel
theorem dX1_init_53 : decode cX1_init 53 = .ok (.bipush 40, 2) := by decide +kernel
theorem dX1_init_55 : decode cX1_init 55 = .ok (.newarray .int, 2) := by decide +kernel
theorem dX1_init_57 : decode cX1_init 57 = .ok (.putfield 30, 3) := by decide +kernel
theorem dX1_init_60 : decode cX1_init 60 = .ok (.aload_n 0, 1) := by decide +kernel
theorem dX1_init_61 : decode cX1_init 61 = .ok (.bipush 6, 2) := by decide +kernel
theorem dX1_init_63 : decode cX1_init 63 = .ok (.newarray .int, 2) := by decide +kernel
theorem dX1_init_65 : decode cX1_init 65 = .ok (.putfield 33, 3) := by decide +kernel
theorem dX1_init_68 : decode cX1_init 68 = .ok (.aload_n 0, 1) := by decide +kernel
theorem dX1_init_69 : decode cX1_init 69 = .ok (.bipush 6, 2) := by decide +kernel
theorem dX1_init_71 : decode cX1_init 71 = .ok (.newarray .int, 2) := by decide +kernel
theorem dX1_init_73 : decode cX1_init 73 = .ok (.putfield 36, 3) := by decide +kernel
theorem dX1_init_76 : decode cX1_init 76 = .ok (.return_, 1) := by decide +kernel
theorem dX1_clear_0 : decode cX1_clear 0 = .ok (.aload_n 0, 1) := by decide +kernel
theorem dX1_clear_1 : decode cX1_clear 1 = .ok (.iload_n 1, 1) := by decide +kernel
theorem dX1_clear_2 : decode cX1_clear 2 = .ok (.putfield 39, 3) := by decide +kernel
theorem dX1_clear_5 : decode cX1_clear 5 = .ok (.aload_n 0, 1) := by decide +kernel
theorem dX1_clear_6 : decode cX1_clear 6 = .ok (.iconst 0, 1) := by decide +kernel
theorem dX1_clear_7 : decode cX1_clear 7 = .ok (.putfield 43, 3) := by decide +kernel
theorem dX1_clear_10 : decode cX1_clear 10 = .ok (.aload_n 0, 1) := by decide +kernel
theorem dX1_clear_11 : decode cX1_clear 11 = .ok (.iconst 0, 1) := by decide +kernel
theorem dX1_clear_12 : decode cX1_clear 12 = .ok (.putfield 46, 3) := by decide +kernel
theorem dX1_clear_15 : decode cX1_clear 15 = .ok (.aload_n 0, 1) := by decide +kernel
theorem dX1_clear_16 : decode cX1_clear 16 = .ok (.getfield 9, 3) := by decide +kernel
theorem dX1_clear_19 : decode cX1_clear 19 = .ok (.iconst 0, 1) := by decide +kernel
theorem dX1_clear_20 : decode cX1_clear 20 = .ok (.invokestatic 49, 3) := by decide +kernel
theorem dX1_clear_23 : decode cX1_clear 23 = .ok (.iconst 0, 1) := by decide +kernel
theorem dX1_clear_24 : decode cX1_clear 24 = .ok (.istore_n 2, 1) := by decide +kernel
theorem dX1_clear_25 : decode cX1_clear 25 = .ok (.iload_n 2, 1) := by decide +kernel
theorem dX1_clear_26 : decode cX1_clear 26 = .ok (.bipush 6, 2) := by decide +kernel
theorem dX1_clear_28 : decode cX1_clear 28 = .ok (.if_icmp .ge 22, 3) := by decide +kernel
theorem dX1_clear_31 : decode cX1_clear 31 = .ok (.aload_n 0, 1) := by decide +kernel
theorem dX1_clear_32 : decode cX1_clear 32 = .ok (.getfield 9, 3) := by decide +kernel
theorem dX1_clear_35 : decode cX1_clear 35 = .ok (.iload_n 2, 1) := by decide +kernel
theorem dX1_clear_36 : decode cX1_clear 36 = .ok (.bipush 6, 2) := by decide +kernel
theorem dX1_clear_38 : decode cX1_clear 38 = .ok (.imul, 1) := by decide +kernel
theorem dX1_clear_39 : decode cX1_clear 39 = .ok (.iconst 4, 1) := by decide +kernel
theorem dX1_clear_40 : decode cX1_clear 40 = .ok (.iadd, 1) := by decide +kernel
theorem dX1_clear_41 : decode cX1_clear 41 = .ok (.bipush 8, 2) := by decide +kernel
theorem dX1_clear_43 : decode cX1_clear 43 = .ok (.iastore, 1) := by decide +kernel
theorem dX1_clear_44 : decode cX1_clear 44 = .ok (.iinc 2 1, 3) := by decide +kernel
theorem dX1_clear_47 : decode cX1_clear 47 = .ok (.goto (-22), 3) := by decide +kernel
theorem dX1_clear_50 : decode cX1_clear 50 = .ok (.aload_n 0, 1) := by decide +kernel
theorem dX1_clear_51 : decode cX1_clear 51 = .ok (.getfield 15, 3) := by decide +kernel
theorem dX1_clear_54 : decode cX1_clear 54 = .ok (.iconst 0, 1) := by decide +kernel
theorem dX1_clear_55 : decode cX1_clear 55 = .ok (.invokestatic 49, 3) := by decide +kernel
theorem dX1_clear_58 : decode cX1_clear 58 = .ok (.aload_n 0, 1) := by decide +kernel
theorem dX1_clear_59 : decode cX1_clear 59 = .ok (.getfield 18, 3) := by decide +kernel
theorem dX1_clear_62 : decode cX1_clear 62 = .ok (.iconst 0, 1) := by decide +kernel
theorem dX1_clear_63 : decode cX1_clear 63 = .ok (.invokestatic 49, 3) := by decide +kernel
theorem dX1_clear_66 : decode cX1_clear 66 = .ok (.aload_n 0, 1) := by decide +kernel
theorem dX1_clear_67 : decode cX1_clear 67 = .ok (.getfield 21, 3) := by decide +kernel
theorem dX1_clear_70 : decode cX1_clear 70 = .ok (.iconst 0, 1) := by decide +kernel
theorem dX1_clear_71 : decode cX1_clear 71 = .ok (.invokestatic 49, 3) := by decide +kernel
theorem dX1_clear_74 : decode cX1_clear 74 = .ok (.aload_n 0, 1) := by decide +kernel
theorem dX1_clear_75 : decode cX1_clear 75 = .ok (.getfield 24, 3) := by decide +kernel
theorem dX1_clear_78 : decode cX1_clear 78 = .ok (.bipush (-6), 2) := by decide +kernel
theorem dX1_clear_80 : decode cX1_clear 80 = .ok (.invokestatic 49, 3) := by decide +kernel
theorem dX1_clear_83 : decode cX1_clear 83 = .ok (.aload_n 0, 1) := by decide +kernel
theorem dX1_clear_84 : decode cX1_clear 84 = .ok (.getfield 27, 3) := by decide +kernel
theorem dX1_clear_87 : decode cX1_clear 87 = .ok (.iconst 0, 1) := by decide +kernel
theorem dX1_clear_88 : decode cX1_clear 88 = .ok (.invokestatic 49, 3) := by decide +kernel
theorem dX1_clear_91 : decode cX1_clear 91 = .ok (.aload_n 0, 1) := by decide +kernel
theorem dX1_clear_92 : decode cX1_clear 92 = .ok (.getfield 30, 3) := by decide +kernel
theorem dX1_clear_95 : decode cX1_clear 95 = .ok (.iconst 0, 1) := by decide +kernel
theorem dX1_clear_96 : decode cX1_clear 96 = .ok (.invokestatic 49, 3) := by decide +kernel
theorem dX1_clear_99 : decode cX1_clear 99 = .ok (.return_, 1) := by decide +kernel
theorem dX1_copy_0 : decode cX1_copy 0 = .ok (.aload_n 0, 1) := by decide +kernel
theorem dX1_copy_1 : decode cX1_copy 1 = .ok (.aload_n 1, 1) := by decide +kernel
theorem dX1_copy_2 : decode cX1_copy 2 = .ok (.getfield 39, 3) := by decide +kernel
theorem dX1_copy_5 : decode cX1_copy 5 = .ok (.putfield 39, 3) := by decide +kernel
theorem dX1_copy_8 : decode cX1_copy 8 = .ok (.aload_n 0, 1) := by decide +kernel
theorem dX1_copy_9 : decode cX1_copy 9 = .ok (.aload_n 1, 1) := by decide +kernel
theorem dX1_copy_10 : decode cX1_copy 10 = .ok (.getfield 43, 3) := by decide +kernel
theorem dX1_copy_13 : decode cX1_copy 13 = .ok (.putfield 43, 3) := by decide +kernel
theorem dX1_copy_16 : decode cX1_copy 16 = .ok (.aload_n 0, 1) := by decide +kernel
theorem dX1_copy_17 : decode cX1_copy 17 = .ok (.aload_n 1, 1) := by decide +kernel
theorem dX1_copy_18 : decode cX1_copy 18 = .ok (.getfield 46, 3) := by decide +kernel
theorem dX1_copy_21 : decode cX1_copy 21 = .ok (.putfield 46, 3) := by decide +kernel
theorem dX1_copy_24 : decode cX1_copy 24 = .ok (.aload_n 1, 1) := by decide +kernel
theorem dX1_copy_25 : decode cX1_copy 25 = .ok (.getfield 9, 3) := by decide +kernel
theorem dX1_copy_28 : decode cX1_copy 28 = .ok (.iconst 0, 1) := by decide +kernel
theorem dX1_copy_29 : decode cX1_copy 29 = .ok (.aload_n 0, 1) := by decide +kernel
theorem dX1_copy_30 : decode cX1_copy 30 = .ok (.getfield 9, 3) := by decide +kernel
theorem dX1_copy_33 : decode cX1_copy 33 = .ok (.iconst 0, 1) := by decide +kernel
theorem dX1_copy_34 : decode cX1_copy 34 = .ok (.aload_n 0, 1) := by decide +kernel
theorem dX1_copy_35 : decode cX1_copy 35 = .ok (.getfield 9, 3) := by decide +kernel
theorem dX1_copy_38 : decode cX1_copy 38 = .ok (.arraylength, 1) := by decide +kernel
theorem dX1_copy_39 : decode cX1_copy 39 = .ok (.invokestatic 55, 3) := by decide +kernel
theorem dX1_copy_42 : decode cX1_copy 42 = .ok (.aload_n 1, 1) := by decide +kernel
theorem dX1_copy_43 : decode cX1_copy 43 = .ok (.getfield 15, 3) := by decide +kernel
theorem dX1_copy_46 : decode cX1_copy 46 = .ok (.iconst 0, 1) := by decide +kernel
theorem dX1_copy_47 : decode cX1_copy 47 = .ok (.aload_n 0, 1) := by decide +kernel
theorem dX1_copy_48 : decode cX1_copy 48 = .ok (.getfield 15, 3) := by decide +kernel
theorem dX1_copy_51 : decode cX1_copy 51 = .ok (.iconst 0, 1) := by decide +kernel
theorem dX1_copy_52 : decode cX1_copy 52 = .ok (.aload_n 0, 1) := by decide +kernel
theorem dX1_copy_53 : decode cX1_copy 53 = .ok (.getfield 15, 3) := by decide +kernel
theorem dX1_copy_56 : decode cX1_copy 56 = .ok (.arraylength, 1) := by decide +kernel
theorem dX1_copy_57 : decode cX1_copy 57 = .ok (.invokestatic 55, 3) := by decide +kernel
theorem dX1_copy_60 : decode cX1_copy 60 = .ok (.aload_n 1, 1) := by decide +kernel
theorem dX1_copy_61 : decode cX1_copy 61 = .ok (.getfield 18, 3) := by decide +kernel
theorem dX1_copy_64 : decode cX1_copy 64 = .ok (.iconst 0, 1) := by decide +kernel
theorem dX1_copy_65 : decode cX1_copy 65 = .ok (.aload_n 0, 1) := by decide +kernel
theorem dX1_copy_66 : decode cX1_copy 66 = .ok (.getfield 18, 3) := by decide +kernel
theorem dX1_copy_69 : decode cX1_copy 69 = .ok (.iconst 0, 1) := by decide +kernel
theorem dX1_copy_70 : decode cX1_copy 70 = .ok (.aload_n 0, 1) := by decide +kernel
theorem dX1_copy_71 : decode cX1_copy 71 = .ok (.getfield 18, 3) := by decide +kernel
theorem dX1_copy_74 : decode cX1_copy 74 = .ok (.arraylength, 1) := by decide +kernel
theorem dX1_copy_75 : decode cX1_copy 75 = .ok (.invokestatic 55, 3) := by decide +kernel
theorem dX1_copy_78 : decode cX1_copy 78 = .ok (.aload_n 1, 1) := by decide +kernel
theorem dX1_copy_79 : decode cX1_copy 79 = .ok (.getfield 21, 3) := by decide +kernel
theorem dX1_copy_82 : decode cX1_copy 82 = .ok (.iconst 0, 1) := by decide +kernel
theorem dX1_copy_83 : decode cX1_copy 83 = .ok (.aload_n 0, 1) := by decide +kernel
theorem dX1_copy_84 : decode cX1_copy 84 = .ok (.getfield 21, 3) := by decide +kernel
theorem dX1_copy_87 : decode cX1_copy 87 = .ok (.iconst 0, 1) := by decide +kernel
theorem dX1_copy_88 : decode cX1_copy 88 = .ok (.aload_n 0, 1) := by decide +kernel
theorem dX1_copy_89 : decode cX1_copy 89 = .ok (.getfield 21, 3) := by decide +kernel
theorem dX1_copy_92 : decode cX1_copy 92 = .ok (.arraylength, 1) := by decide +kernel
theorem dX1_copy_93 : decode cX1_copy 93 = .ok (.invokestatic 55, 3) := by decide +kernel
theorem dX1_copy_96 : decode cX1_copy 96 = .ok (.aload_n 1, 1) := by decide +kernel
theorem dX1_copy_97 : decode cX1_copy 97 = .ok (.getfield 24, 3) := by decide +kernel
theorem dX1_copy_100 : decode cX1_copy 100 = .ok (.iconst 0, 1) := by decide +kernel
theorem dX1_copy_101 : decode cX1_copy 101 = .ok (.aload_n 0, 1) := by decide +kernel
theorem dX1_copy_102 : decode cX1_copy 102 = .ok (.getfield 24, 3) := by decide +kernel
theorem dX1_copy_105 : decode cX1_copy 105 = .ok (.iconst 0, 1) := by decide +kernel
theorem dX1_copy_106 : decode cX1_copy 106 = .ok (.aload_n 0, 1) := by decide +kernel
theorem dX1_copy_107 : decode cX1_copy 107 = .ok (.getfield 24, 3) := by decide +kernel
theorem dX1_copy_110 : decode cX1_copy 110 = .ok (.arraylength, 1) := by decide +kernel
theorem dX1_copy_111 : decode cX1_copy 111 = .ok (.invokestatic 55, 3) := by decide +kernel
theorem dX1_copy_114 : decode cX1_copy 114 = .ok (.aload_n 1, 1) := by decide +kernel
theorem dX1_copy_115 : decode cX1_copy 115 = .ok (.getfield 27, 3) := by decide +kernel
theorem dX1_copy_118 : decode cX1_copy 118 = .ok (.iconst 0, 1) := by decide +kernel
theorem dX1_copy_119 : decode cX1_copy 119 = .ok (.aload_n 0, 1) := by decide +kernel
theorem dX1_copy_120 : decode cX1_copy 120 = .ok (.getfield 27, 3) := by decide +kernel
theorem dX1_copy_123 : decode cX1_copy 123 = .ok (.iconst 0, 1) := by decide +kernel
theorem dX1_copy_124 : decode cX1_copy 124 = .ok (.aload_n 0, 1) := by decide +kernel
theorem dX1_copy_125 : decode cX1_copy 125 = .ok (.getfield 27, 3) := by decide +kernel
theorem dX1_copy_128 : decode cX1_copy 128 = .ok (.arraylength, 1) := by decide +kernel
theorem dX1_copy_129 : decode cX1_copy 129 = .ok (.invokestatic 55, 3) := by decide +kernel
theorem dX1_copy_132 : decode cX1_copy 132 = .ok (.aload_n 1, 1) := by decide +kernel
theorem dX1_copy_133 : decode cX1_copy 133 = .ok (.getfield 30, 3) := by decide +kernel
theorem dX1_copy_136 : decode cX1_copy 136 = .ok (.iconst 0, 1) := by decide +kernel
theorem dX1_copy_137 : decode cX1_copy 137 = .ok (.aload_n 0, 1) := by decide +kernel
theorem dX1_copy_138 : decode cX1_copy 138 = .ok (.getfield 30, 3) := by decide +kernel
theorem dX1_copy_141 : decode cX1_copy 141 = .ok (.iconst 0, 1) := by decide +kernel
theorem dX1_copy_142 : decode cX1_copy 142 = .ok (.aload_n 0, 1) := by decide +kernel
theorem dX1_copy_143 : decode cX1_copy 143 = .ok (.getfield 30, 3) := by decide +kernel
theorem dX1_copy_146 : decode cX1_copy 146 = .ok (.arraylength, 1) := by decide +kernel
theorem dX1_copy_147 : decode cX1_copy 147 = .ok (.invokestatic 55, 3) := by decide +kernel
theorem dX1_copy_150 : decode cX1_copy 150 = .ok (.aload_n 1, 1) := by decide +kernel
theorem dX1_copy_151 : decode cX1_copy 151 = .ok (.getfield 33, 3) := by decide +kernel
theorem dX1_copy_154 : decode cX1_copy 154 = .ok (.iconst 0, 1) := by decide +kernel
theorem dX1_copy_155 : decode cX1_copy 155 = .ok (.aload_n 0, 1) := by decide +kernel
theorem dX1_copy_156 : decode cX1_copy 156 = .ok (.getfield 33, 3) := by decide +kernel
theorem dX1_copy_159 : decode cX1_copy 159 = .ok (.iconst 0, 1) := by decide +kernel
theorem dX1_copy_160 : decode cX1_copy 160 = .ok (.aload_n 0, 1) := by decide +kernel
theorem dX1_copy_161 : decode cX1_copy 161 = .ok (.getfield 33, 3) := by decide +kernel
theorem dX1_copy_164 : decode cX1_copy 164 = .ok (.arraylength, 1) := by decide +kernel
theorem dX1_copy_165 : decode cX1_copy 165 = .ok (.invokestatic 55, 3) := by decide +kernel
theorem dX1_copy_168 : decode cX1_copy 168 = .ok (.aload_n 1, 1) := by decide +kernel
theorem dX1_copy_169 : decode cX1_copy 169 = .ok (.getfield 36, 3) := by decide +kernel
theorem dX1_copy_172 : decode cX1_copy 172 = .ok (.iconst 0, 1) := by decide +kernel
theorem dX1_copy_173 : decode cX1_copy 173 = .ok (.aload_n 0, 1) := by decide +kernel
theorem dX1_copy_174 : decode cX1_copy 174 = .ok (.getfield 36, 3) := by decide +kernel
theorem dX1_copy_177 : decode cX1_copy 177 = .ok (.iconst 0, 1) := by decide +kernel
theorem dX1_copy_178 : decode cX1_copy 178 = .ok (.aload_n 0, 1) := by decide +kernel
theorem dX1_copy_179 : decode cX1_copy 179 = .ok (.getfield 36, 3) := by decide +kernel
theorem dX1_copy_182 : decode cX1_copy 182 = .ok (.arraylength, 1) := by decide +kernel
theorem dX1_copy_183 : decode cX1_copy 183 = .ok (.invokestatic 55, 3) := by decide +kernel
theorem dX1_copy_186 : decode cX1_copy 186 = .ok (.return_, 1) := by decide +kernel
theorem dX1_isRoom_0 : decode cX1_isRoom 0 = .ok (.iload_n 1, 1) := by decide +kernel
theorem dX1_isRoom_1 : decode cX1_isRoom 1 = .ok (.ifCond .lt 15, 3) := by decide +kernel
theorem dX1_isRoom_4 : decode cX1_isRoom 4 = .ok (.iload_n 1, 1) := by decide +kernel
theorem dX1_isRoom_5 : decode cX1_isRoom 5 = .ok (.aload_n 0, 1) := by decide +kernel
theorem dX1_isRoom_6 : decode cX1_isRoom 6 = .ok (.getfield 39, 3) := by decide +kernel
theorem dX1_isRoom_9 : decode cX1_isRoom 9 = .ok (.if_icmp .ge 7, 3) := by decide +kernel
theorem dX1_isRoom_12 : decode cX1_isRoom 12 = .ok (.iconst 1, 1) := by decide +kernel
theorem dX1_isRoom_13 : decode cX1_isRoom 13 = .ok (.goto 4, 3) := by decide +kernel
theorem dX1_isRoom_16 : decode cX1_isRoom 16 = .ok (.iconst 0, 1) := by decide +kernel
theorem dX1_isRoom_17 : decode cX1_isRoom 17 = .ok (.ireturn, 1) := by decide +kernel
theorem dX1_isThere_0 : decode cX1_isThere 0 = .ok (.iload_n 1, 1) := by decide +kernel
theorem dX1_isThere_1 : decode cX1_isThere 1 = .ok (.ifCond .lt 25, 3) := by decide +kernel
theorem dX1_isThere_4 : decode cX1_isThere 4 = .ok (.iload_n 1, 1) := by decide +kernel
theorem dX1_isThere_5 : decode cX1_isThere 5 = .ok (.bipush 8, 2) := by decide +kernel
theorem dX1_isThere_7 : decode cX1_isThere 7 = .ok (.if_icmp .ge 19, 3) := by decide +kernel
theorem dX1_isThere_10 : decode cX1_isThere 10 = .ok (.aload_n 0, 1) := by decide +kernel
theorem dX1_isThere_11 : decode cX1_isThere 11 = .ok (.getfield 43, 3) := by decide +kernel
theorem dX1_isThere_14 : decode cX1_isThere 14 = .ok (.iload_n 1, 1) := by decide +kernel
theorem dX1_isThere_15 : decode cX1_isThere 15 = .ok (.ishr, 1) := by decide +kernel
theorem dX1_isThere_16 : decode cX1_isThere 16 = .ok (.iconst 1, 1) := by decide +kernel
theorem dX1_isThere_17 : decode cX1_isThere 17 = .ok (.iand, 1) := by decide +kernel
theorem dX1_isThere_18 : decode cX1_isThere 18 = .ok (.iconst 1, 1) := by decide +kernel
theorem dX1_isThere_19 : decode cX1_isThere 19 = .ok (.if_icmp .ne 7, 3) := by decide +kernel
theorem dX1_isThere_22 : decode cX1_isThere 22 = .ok (.iconst 1, 1) := by decide +kernel
theorem dX1_isThere_23 : decode cX1_isThere 23 = .ok (.goto 4, 3) := by decide +kernel
theorem dX1_isThere_26 : decode cX1_isThere 26 = .ok (.iconst 0, 1) := by decide +kernel
theorem dX1_isThere_27 : decode cX1_isThere 27 = .ok (.ireturn, 1) := by decide +kernel
theorem dX1_sizeOf_0 : decode cX1_sizeOf 0 = .ok (.aload_n 0, 1) := by decide +kernel
theorem dX1_sizeOf_1 : decode cX1_sizeOf 1 = .ok (.getfield 9, 3) := by decide +kernel
theorem dX1_sizeOf_4 : decode cX1_sizeOf 4 = .ok (.iload_n 1, 1) := by decide +kernel
theorem dX1_sizeOf_5 : decode cX1_sizeOf 5 = .ok (.bipush 6, 2) := by decide +kernel
theorem dX1_sizeOf_7 : decode cX1_sizeOf 7 = .ok (.imul, 1) := by decide +kernel
theorem dX1_sizeOf_8 : decode cX1_sizeOf 8 = .ok (.iconst 4, 1) := by decide +kernel
theorem dX1_sizeOf_9 : decode cX1_sizeOf 9 = .ok (.iadd, 1) := by decide +kernel
theorem dX1_sizeOf_10 : decode cX1_sizeOf 10 = .ok (.iaload, 1) := by decide +kernel
theorem dX1_sizeOf_11 : decode cX1_sizeOf 11 = .ok (.ireturn, 1) := by decide +kernel
theorem dX1_widthOf_0 : decode cX1_widthOf 0 = .ok (.aload_n 0, 1) := by decide +kernel
theorem dX1_widthOf_1 : decode cX1_widthOf 1 = .ok (.getfield 15, 3) := by decide +kernel
theorem dX1_widthOf_4 : decode cX1_widthOf 4 = .ok (.iload_n 1, 1) := by decide +kernel
theorem dX1_widthOf_5 : decode cX1_widthOf 5 = .ok (.bipush 6, 2) := by decide +kernel
theorem dX1_widthOf_7 : decode cX1_widthOf 7 = .ok (.imul, 1) := by decide +kernel
theorem dX1_widthOf_8 : decode cX1_widthOf 8 = .ok (.iload_n 2, 1) := by decide +kernel
theorem dX1_widthOf_9 : decode cX1_widthOf 9 = .ok (.iadd, 1) := by decide +kernel
theorem dX1_widthOf_10 : decode cX1_widthOf 10 = .ok (.iaload, 1) := by decide +kernel
theorem dX1_widthOf_11 : decode cX1_widthOf 11 = .ok (.ireturn, 1) := by decide +kernel
theorem dX1_bitsIn_0 : decode cX1_bitsIn 0 = .ok (.iconst 0, 1) := by decide +kernel
theorem dX1_bitsIn_1 : decode cX1_bitsIn 1 = .ok (.istore_n 2, 1) := by decide +kernel
theorem dX1_bitsIn_2 : decode cX1_bitsIn 2 = .ok (.iconst 0, 1) := by decide +kernel
theorem dX1_bitsIn_3 : decode cX1_bitsIn 3 = .ok (.istore_n 3, 1) := by decide +kernel
theorem dX1_bitsIn_4 : decode cX1_bitsIn 4 = .ok (.iload_n 3, 1) := by decide +kernel
theorem dX1_bitsIn_5 : decode cX1_bitsIn 5 = .ok (.bipush 8, 2) := by decide +kernel
theorem dX1_bitsIn_7 : decode cX1_bitsIn 7 = .ok (.if_icmp .ge 33, 3) := by decide +kernel
theorem dX1_bitsIn_10 : decode cX1_bitsIn 10 = .ok (.aload_n 0, 1) := by decide +kernel
theorem dX1_bitsIn_11 : decode cX1_bitsIn 11 = .ok (.iload_n 3, 1) := by decide +kernel
theorem dX1_bitsIn_12 : decode cX1_bitsIn 12 = .ok (.invokevirtual 61, 3) := by decide +kernel
theorem dX1_bitsIn_15 : decode cX1_bitsIn 15 = .ok (.ifCond .eq 19, 3) := by decide +kernel
theorem dX1_bitsIn_18 : decode cX1_bitsIn 18 = .ok (.aload_n 0, 1) := by decide +kernel
theorem dX1_bitsIn_19 : decode cX1_bitsIn 19 = .ok (.getfield 18, 3) := by decide +kernel
theorem dX1_bitsIn_22 : decode cX1_bitsIn 22 = .ok (.iload_n 3, 1) := by decide +kernel
theorem dX1_bitsIn_23 : decode cX1_bitsIn 23 = .ok (.iaload, 1) := by decide +kernel
theorem dX1_bitsIn_24 : decode cX1_bitsIn 24 = .ok (.iload_n 1, 1) := by decide +kernel
theorem dX1_bitsIn_25 : decode cX1_bitsIn 25 = .ok (.if_icmp .ne 9, 3) := by decide +kernel
theorem dX1_bitsIn_28 : decode cX1_bitsIn 28 = .ok (.iload_n 2, 1) := by decide +kernel
theorem dX1_bitsIn_29 : decode cX1_bitsIn 29 = .ok (.iconst 1, 1) := by decide +kernel
theorem dX1_bitsIn_30 : decode cX1_bitsIn 30 = .ok (.iload_n 3, 1) := by decide +kernel
theorem dX1_bitsIn_31 : decode cX1_bitsIn 31 = .ok (.ishl, 1) := by decide +kernel
theorem dX1_bitsIn_32 : decode cX1_bitsIn 32 = .ok (.ior, 1) := by decide +kernel
theorem dX1_bitsIn_33 : decode cX1_bitsIn 33 = .ok (.istore_n 2, 1) := by decide +kernel
theorem dX1_bitsIn_34 : decode cX1_bitsIn 34 = .ok (.iinc 3 1, 3) := by decide +kernel
theorem dX1_bitsIn_37 : decode cX1_bitsIn 37 = .ok (.goto (-33), 3) := by decide +kernel
theorem dX1_bitsIn_40 : decode cX1_bitsIn 40 = .ok (.iload_n 2, 1) := by decide +kernel
theorem dX1_bitsIn_41 : decode cX1_bitsIn 41 = .ok (.ireturn, 1) := by decide +kernel
theorem dX1_count_0 : decode cX1_count 0 = .ok (.aload_n 0, 1) := by decide +kernel
theorem dX1_count_1 : decode cX1_count 1 = .ok (.iload_n 1, 1) := by decide +kernel
theorem dX1_count_2 : decode cX1_count 2 = .ok (.invokevirtual 65, 3) := by decide +kernel
theorem dX1_count_5 : decode cX1_count 5 = .ok (.invokestatic 69, 3) := by decide +kernel
theorem dX1_count_8 : decode cX1_count 8 = .ok (.ireturn, 1) := by decide +kernel
theorem dX1_others_0 : decode cX1_others 0 = .ok (.aload_n 0, 1) := by decide +kernel
theorem dX1_others_1 : decode cX1_others 1 = .ok (.iload_n 2, 1) := by decide +kernel
theorem dX1_others_2 : decode cX1_others 2 = .ok (.invokevirtual 65, 3) := by decide +kernel
theorem dX1_others_5 : decode cX1_others 5 = .ok (.iconst 1, 1) := by decide +kernel
theorem dX1_others_6 : decode cX1_others 6 = .ok (.iload_n 1, 1) := by decide +kernel
theorem dX1_others_7 : decode cX1_others 7 = .ok (.ishl, 1) := by decide +kernel
theorem dX1_others_8 : decode cX1_others 8 = .ok (.iconst (-1), 1) := by decide +kernel
theorem dX1_others_9 : decode cX1_others 9 = .ok (.ixor, 1) := by decide +kernel
theorem dX1_others_10 : decode cX1_others 10 = .ok (.iand, 1) := by decide +kernel
theorem dX1_others_11 : decode cX1_others 11 = .ok (.invokestatic 69, 3) := by decide +kernel
theorem dX1_others_14 : decode cX1_others 14 = .ok (.ireturn, 1) := by decide +kernel
theorem dX1_sitters_0 : decode cX1_sitters 0 = .ok (.iconst 0, 1) := by decide +kernel
theorem dX1_sitters_1 : decode cX1_sitters 1 = .ok (.istore_n 2, 1) := by decide +kernel
theorem dX1_sitters_2 : decode cX1_sitters 2 = .ok (.iconst 0, 1) := by decide +kernel
theorem dX1_sitters_3 : decode cX1_sitters 3 = .ok (.istore_n 3, 1) := by decide +kernel
theorem dX1_sitters_4 : decode cX1_sitters 4 = .ok (.iload_n 3, 1) := by decide +kernel
theorem dX1_sitters_5 : decode cX1_sitters 5 = .ok (.bipush 8, 2) := by decide +kernel
theorem dX1_sitters_7 : decode cX1_sitters 7 = .ok (.if_icmp .ge 32, 3) := by decide +kernel
theorem dX1_sitters_10 : decode cX1_sitters 10 = .ok (.aload_n 0, 1) := by decide +kernel
theorem dX1_sitters_11 : decode cX1_sitters 11 = .ok (.getfield 21, 3) := by decide +kernel
theorem dX1_sitters_14 : decode cX1_sitters 14 = .ok (.iload_n 3, 1) := by decide +kernel
theorem dX1_sitters_15 : decode cX1_sitters 15 = .ok (.iaload, 1) := by decide +kernel
theorem dX1_sitters_16 : decode cX1_sitters 16 = .ok (.iconst 2, 1) := by decide +kernel
theorem dX1_sitters_17 : decode cX1_sitters 17 = .ok (.if_icmp .ne 16, 3) := by decide +kernel
theorem dX1_sitters_20 : decode cX1_sitters 20 = .ok (.aload_n 0, 1) := by decide +kernel
theorem dX1_sitters_21 : decode cX1_sitters 21 = .ok (.getfield 18, 3) := by decide +kernel
theorem dX1_sitters_24 : decode cX1_sitters 24 = .ok (.iload_n 3, 1) := by decide +kernel
theorem dX1_sitters_25 : decode cX1_sitters 25 = .ok (.iaload, 1) := by decide +kernel
theorem dX1_sitters_26 : decode cX1_sitters 26 = .ok (.iload_n 1, 1) := by decide +kernel
theorem dX1_sitters_27 : decode cX1_sitters 27 = .ok (.if_icmp .ne 6, 3) := by decide +kernel
theorem dX1_sitters_30 : decode cX1_sitters 30 = .ok (.iinc 2 1, 3) := by decide +kernel
theorem dX1_sitters_33 : decode cX1_sitters 33 = .ok (.iinc 3 1, 3) := by decide +kernel
theorem dX1_sitters_36 : decode cX1_sitters 36 = .ok (.goto (-32), 3) := by decide +kernel
theorem dX1_sitters_39 : decode cX1_sitters 39 = .ok (.iload_n 2, 1) := by decide +kernel
theorem dX1_sitters_40 : decode cX1_sitters 40 = .ok (.ireturn, 1) := by decide +kernel
theorem dX1_jam_0 : decode cX1_jam 0 = .ok (.iconst 0, 1) := by decide +kernel
theorem dX1_jam_1 : decode cX1_jam 1 = .ok (.istore_n 3, 1) := by decide +kernel
theorem dX1_jam_2 : decode cX1_jam 2 = .ok (.iconst 0, 1) := by decide +kernel
theorem dX1_jam_3 : decode cX1_jam 3 = .ok (.istore 4, 2) := by decide +kernel
theorem dX1_jam_5 : decode cX1_jam 5 = .ok (.iload 4, 2) := by decide +kernel
theorem dX1_jam_7 : decode cX1_jam 7 = .ok (.bipush 8, 2) := by decide +kernel
theorem dX1_jam_9 : decode cX1_jam 9 = .ok (.if_icmp .ge 79, 3) := by decide +kernel
theorem dX1_jam_12 : decode cX1_jam 12 = .ok (.aload_n 0, 1) := by decide +kernel
theorem dX1_jam_13 : decode cX1_jam 13 = .ok (.getfield 18, 3) := by decide +kernel
theorem dX1_jam_16 : decode cX1_jam 16 = .ok (.iload 4, 2) := by decide +kernel
theorem dX1_jam_18 : decode cX1_jam 18 = .ok (.iaload, 1) := by decide +kernel
theorem dX1_jam_19 : decode cX1_jam 19 = .ok (.iload_n 1, 1) := by decide +kernel
theorem dX1_jam_20 : decode cX1_jam 20 = .ok (.if_icmp .ne 14, 3) := by decide +kernel
theorem dX1_jam_23 : decode cX1_jam 23 = .ok (.aload_n 0, 1) := by decide +kernel
theorem dX1_jam_24 : decode cX1_jam 24 = .ok (.getfield 24, 3) := by decide +kernel
theorem dX1_jam_27 : decode cX1_jam 27 = .ok (.iload 4, 2) := by decide +kernel
theorem dX1_jam_29 : decode cX1_jam 29 = .ok (.iaload, 1) := by decide +kernel
theorem dX1_jam_30 : decode cX1_jam 30 = .ok (.iload_n 2, 1) := by decide +kernel
theorem dX1_jam_31 : decode cX1_jam 31 = .ok (.if_icmp .eq 25, 3) := by decide +kernel
theorem dX1_jam_34 : decode cX1_jam 34 = .ok (.aload_n 0, 1) := by decide +kernel
theorem dX1_jam_35 : decode cX1_jam 35 = .ok (.getfield 18, 3) := by decide +kernel
theorem dX1_jam_38 : decode cX1_jam 38 = .ok (.iload 4, 2) := by decide +kernel
theorem dX1_jam_40 : decode cX1_jam 40 = .ok (.iaload, 1) := by decide +kernel
theorem dX1_jam_41 : decode cX1_jam 41 = .ok (.iload_n 2, 1) := by decide +kernel
theorem dX1_jam_42 : decode cX1_jam 42 = .ok (.if_icmp .ne 18, 3) := by decide +kernel
theorem dX1_jam_45 : decode cX1_jam 45 = .ok (.aload_n 0, 1) := by decide +kernel
theorem dX1_jam_46 : decode cX1_jam 46 = .ok (.getfield 24, 3) := by decide +kernel
theorem dX1_jam_49 : decode cX1_jam 49 = .ok (.iload 4, 2) := by decide +kernel
theorem dX1_jam_51 : decode cX1_jam 51 = .ok (.iaload, 1) := by decide +kernel
theorem dX1_jam_52 : decode cX1_jam 52 = .ok (.iload_n 1, 1) := by decide +kernel
theorem dX1_jam_53 : decode cX1_jam 53 = .ok (.if_icmp .ne 7, 3) := by decide +kernel
theorem dX1_jam_56 : decode cX1_jam 56 = .ok (.iconst 1, 1) := by decide +kernel
theorem dX1_jam_57 : decode cX1_jam 57 = .ok (.goto 4, 3) := by decide +kernel
theorem dX1_jam_60 : decode cX1_jam 60 = .ok (.iconst 0, 1) := by decide +kernel
theorem dX1_jam_61 : decode cX1_jam 61 = .ok (.istore 5, 2) := by decide +kernel
theorem dX1_jam_63 : decode cX1_jam 63 = .ok (.aload_n 0, 1) := by decide +kernel
theorem dX1_jam_64 : decode cX1_jam 64 = .ok (.getfield 21, 3) := by decide +kernel
theorem dX1_jam_67 : decode cX1_jam 67 = .ok (.iload 4, 2) := by decide +kernel
theorem dX1_jam_69 : decode cX1_jam 69 = .ok (.iaload, 1) := by decide +kernel
theorem dX1_jam_70 : decode cX1_jam 70 = .ok (.iconst 3, 1) := by decide +kernel
theorem dX1_jam_71 : decode cX1_jam 71 = .ok (.if_icmp .ne 11, 3) := by decide +kernel
theorem dX1_jam_74 : decode cX1_jam 74 = .ok (.iload 5, 2) := by decide +kernel
theorem dX1_jam_76 : decode cX1_jam 76 = .ok (.ifCond .eq 6, 3) := by decide +kernel
theorem dX1_jam_79 : decode cX1_jam 79 = .ok (.iinc 3 1, 3) := by decide +kernel
theorem dX1_jam_82 : decode cX1_jam 82 = .ok (.iinc 4 1, 3) := by decide +kernel
theorem dX1_jam_85 : decode cX1_jam 85 = .ok (.goto (-80), 3) := by decide +kernel
theorem dX1_jam_88 : decode cX1_jam 88 = .ok (.iload_n 3, 1) := by decide +kernel
theorem dX1_jam_89 : decode cX1_jam 89 = .ok (.ireturn, 1) := by decide +kernel
theorem dX1_idle_0 : decode cX1_idle 0 = .ok (.iconst 0, 1) := by decide +kernel
theorem dX1_idle_1 : decode cX1_idle 1 = .ok (.istore_n 1, 1) := by decide +kernel
theorem dX1_idle_2 : decode cX1_idle 2 = .ok (.iconst 0, 1) := by decide +kernel
theorem dX1_idle_3 : decode cX1_idle 3 = .ok (.istore_n 2, 1) := by decide +kernel
theorem dX1_idle_4 : decode cX1_idle 4 = .ok (.iload_n 2, 1) := by decide +kernel
theorem dX1_idle_5 : decode cX1_idle 5 = .ok (.bipush 8, 2) := by decide +kernel
theorem dX1_idle_7 : decode cX1_idle 7 = .ok (.if_icmp .ge 32, 3) := by decide +kernel
theorem dX1_idle_10 : decode cX1_idle 10 = .ok (.aload_n 0, 1) := by decide +kernel
theorem dX1_idle_11 : decode cX1_idle 11 = .ok (.iload_n 2, 1) := by decide +kernel
theorem dX1_idle_12 : decode cX1_idle 12 = .ok (.invokevirtual 61, 3) := by decide +kernel
theorem dX1_idle_15 : decode cX1_idle 15 = .ok (.ifCond .eq 18, 3) := by decide +kernel
theorem dX1_idle_18 : decode cX1_idle 18 = .ok (.aload_n 0, 1) := by decide +kernel
theorem dX1_idle_19 : decode cX1_idle 19 = .ok (.getfield 21, 3) := by decide +kernel
theorem dX1_idle_22 : decode cX1_idle 22 = .ok (.iload_n 2, 1) := by decide +kernel
theorem dX1_idle_23 : decode cX1_idle 23 = .ok (.iaload, 1) := by decide +kernel
theorem dX1_idle_24 : decode cX1_idle 24 = .ok (.ifCond .ne 9, 3) := by decide +kernel
theorem dX1_idle_27 : decode cX1_idle 27 = .ok (.iload_n 1, 1) := by decide +kernel
theorem dX1_idle_28 : decode cX1_idle 28 = .ok (.iconst 1, 1) := by decide +kernel
theorem dX1_idle_29 : decode cX1_idle 29 = .ok (.iload_n 2, 1) := by decide +kernel
theorem dX1_idle_30 : decode cX1_idle 30 = .ok (.ishl, 1) := by decide +kernel
theorem dX1_idle_31 : decode cX1_idle 31 = .ok (.ior, 1) := by decide +kernel
theorem dX1_idle_32 : decode cX1_idle 32 = .ok (.istore_n 1, 1) := by decide +kernel
theorem dX1_idle_33 : decode cX1_idle 33 = .ok (.iinc 2 1, 3) := by decide +kernel
theorem dX1_idle_36 : decode cX1_idle 36 = .ok (.goto (-32), 3) := by decide +kernel
theorem dX1_idle_39 : decode cX1_idle 39 = .ok (.iload_n 1, 1) := by decide +kernel
theorem dX1_idle_40 : decode cX1_idle 40 = .ok (.ireturn, 1) := by decide +kernel
theorem dX1_anyTalks_0 : decode cX1_anyTalks 0 = .ok (.iconst 0, 1) := by decide +kernel
theorem dX1_anyTalks_1 : decode cX1_anyTalks 1 = .ok (.istore_n 1, 1) := by decide +kernel
theorem dX1_anyTalks_2 : decode cX1_anyTalks 2 = .ok (.iload_n 1, 1) := by decide +kernel
theorem dX1_anyTalks_3 : decode cX1_anyTalks 3 = .ok (.bipush 8, 2) := by decide +kernel
theorem dX1_anyTalks_5 : decode cX1_anyTalks 5 = .ok (.if_icmp .ge 21, 3) := by decide +kernel
theorem dX1_anyTalks_8 : decode cX1_anyTalks 8 = .ok (.aload_n 0, 1) := by decide +kernel
theorem dX1_anyTalks_9 : decode cX1_anyTalks 9 = .ok (.getfield 21, 3) := by decide +kernel
theorem dX1_anyTalks_12 : decode cX1_anyTalks 12 = .ok (.iload_n 1, 1) := by decide +kernel
theorem dX1_anyTalks_13 : decode cX1_anyTalks 13 = .ok (.iaload, 1) := by decide +kernel
theorem dX1_anyTalks_14 : decode cX1_anyTalks 14 = .ok (.iconst 1, 1) := by decide +kernel
theorem dX1_anyTalks_15 : decode cX1_anyTalks 15 = .ok (.if_icmp .ne 5, 3) := by decide +kernel
theorem dX1_anyTalks_18 : decode cX1_anyTalks 18 = .ok (.iconst 1, 1) := by decide +kernel
theorem dX1_anyTalks_19 : decode cX1_anyTalks 19 = .ok (.ireturn, 1) := by decide +kernel
theorem dX1_anyTalks_20 : decode cX1_anyTalks 20 = .ok (.iinc 1 1, 3) := by decide +kernel
theorem dX1_anyTalks_23 : decode cX1_anyTalks 23 = .ok (.goto (-21), 3) := by decide +kernel
theorem dX1_anyTalks_26 : decode cX1_anyTalks 26 = .ok (.iconst 0, 1) := by decide +kernel
theorem dX1_anyTalks_27 : decode cX1_anyTalks 27 = .ok (.ireturn, 1) := by decide +kernel
theorem dX1_pullOfThings_0 : decode cX1_pullOfThings 0 = .ok (.iconst 0, 1) := by decide +kernel
theorem dX1_pullOfThings_1 : decode cX1_pullOfThings 1 = .ok (.istore_n 3, 1) := by decide +kernel
theorem dX1_pullOfThings_2 : decode cX1_pullOfThings 2 = .ok (.iconst 0, 1) := by decide +kernel
theorem dX1_pullOfThings_3 : decode cX1_pullOfThings 3 = .ok (.istore 4, 2) := by decide +kernel
theorem dX1_pullOfThings_5 : decode cX1_pullOfThings 5 = .ok (.iload 4, 2) := by decide +kernel
theorem dX1_pullOfThings_7 : decode cX1_pullOfThings 7 = .ok (.iconst 4, 1) := by decide +kernel
theorem dX1_pullOfThings_8 : decode cX1_pullOfThings 8 = .ok (.if_icmp .ge 36, 3) := by decide +kernel
theorem dX1_pullOfThings_11 : decode cX1_pullOfThings 11 = .ok (.iload_n 3, 1) := by decide +kernel
theorem dX1_pullOfThings_12 : decode cX1_pullOfThings 12 = .ok (.aload_n 0, 1) := by decide +kernel
theorem dX1_pullOfThings_13 : decode cX1_pullOfThings 13 = .ok (.getfield 30, 3) := by decide +kernel
theorem dX1_pullOfThings_16 : decode cX1_pullOfThings 16 = .ok (.iload_n 1, 1) := by decide +kernel
theorem dX1_pullOfThings_17 : decode cX1_pullOfThings 17 = .ok (.iconst 5, 1) := by decide +kernel
theorem dX1_pullOfThings_18 : decode cX1_pullOfThings 18 = .ok (.imul, 1) := by decide +kernel
theorem dX1_pullOfThings_19 : decode cX1_pullOfThings 19 = .ok (.iload 4, 2) := by decide +kernel
theorem dX1_pullOfThings_21 : decode cX1_pullOfThings 21 = .ok (.iadd, 1) := by decide +kernel
theorem dX1_pullOfThings_22 : decode cX1_pullOfThings 22 = .ok (.iaload, 1) := by decide +kernel
theorem dX1_pullOfThings_23 : decode cX1_pullOfThings 23 = .ok (.aload_n 0, 1) := by decide +kernel
theorem dX1_pullOfThings_24 : decode cX1_pullOfThings 24 = .ok (.getfield 9, 3) := by decide +kernel
theorem dX1_pullOfThings_27 : decode cX1_pullOfThings 27 = .ok (.iload_n 2, 1) := by decide +kernel
theorem dX1_pullOfThings_28 : decode cX1_pullOfThings 28 = .ok (.bipush 6, 2) := by decide +kernel
theorem dX1_pullOfThings_30 : decode cX1_pullOfThings 30 = .ok (.imul, 1) := by decide +kernel
theorem dX1_pullOfThings_31 : decode cX1_pullOfThings 31 = .ok (.iload 4, 2) := by decide +kernel
theorem dX1_pullOfThings_33 : decode cX1_pullOfThings 33 = .ok (.iadd, 1) := by decide +kernel
theorem dX1_pullOfThings_34 : decode cX1_pullOfThings 34 = .ok (.iaload, 1) := by decide +kernel
theorem dX1_pullOfThings_35 : decode cX1_pullOfThings 35 = .ok (.imul, 1) := by decide +kernel
theorem dX1_pullOfThings_36 : decode cX1_pullOfThings 36 = .ok (.iadd, 1) := by decide +kernel
theorem dX1_pullOfThings_37 : decode cX1_pullOfThings 37 = .ok (.istore_n 3, 1) := by decide +kernel
theorem dX1_pullOfThings_38 : decode cX1_pullOfThings 38 = .ok (.iinc 4 1, 3) := by decide +kernel
theorem dX1_pullOfThings_41 : decode cX1_pullOfThings 41 = .ok (.goto (-36), 3) := by decide +kernel
theorem dX1_pullOfThings_44 : decode cX1_pullOfThings 44 = .ok (.iload_n 3, 1) := by decide +kernel
theorem dX1_pullOfThings_45 : decode cX1_pullOfThings 45 = .ok (.ireturn, 1) := by decide +kernel
theorem dX1_pull_0 : decode cX1_pull 0 = .ok (.aload_n 0, 1) := by decide +kernel
theorem dX1_pull_1 : decode cX1_pull 1 = .ok (.iload_n 1, 1) := by decide +kernel
theorem dX1_pull_2 : decode cX1_pull 2 = .ok (.iload_n 2, 1) := by decide +kernel
theorem dX1_pull_3 : decode cX1_pull 3 = .ok (.invokevirtual 74, 3) := by decide +kernel
theorem dX1_pull_6 : decode cX1_pull 6 = .ok (.aload_n 0, 1) := by decide +kernel
theorem dX1_pull_7 : decode cX1_pull 7 = .ok (.getfield 30, 3) := by decide +kernel
theorem dX1_pull_10 : decode cX1_pull 10 = .ok (.iload_n 1, 1) := by decide +kernel
theorem dX1_pull_11 : decode cX1_pull 11 = .ok (.iconst 5, 1) := by decide +kernel
theorem dX1_pull_12 : decode cX1_pull 12 = .ok (.imul, 1) := by decide +kernel
theorem dX1_pull_13 : decode cX1_pull 13 = .ok (.iconst 4, 1) := by decide +kernel
theorem dX1_pull_14 : decode cX1_pull 14 = .ok (.iadd, 1) := by decide +kernel
theorem dX1_pull_15 : decode cX1_pull 15 = .ok (.iaload, 1) := by decide +kernel
theorem dX1_pull_16 : decode cX1_pull 16 = .ok (.aload_n 0, 1) := by decide +kernel
theorem dX1_pull_17 : decode cX1_pull 17 = .ok (.iload_n 1, 1) := by decide +kernel
theorem dX1_pull_18 : decode cX1_pull 18 = .ok (.iload_n 2, 1) := by decide +kernel
theorem dX1_pull_19 : decode cX1_pull 19 = .ok (.invokevirtual 78, 3) := by decide +kernel
theorem dX1_pull_22 : decode cX1_pull 22 = .ok (.imul, 1) := by decide +kernel
theorem dX1_pull_23 : decode cX1_pull 23 = .ok (.iadd, 1) := by decide +kernel
theorem dX1_pull_24 : decode cX1_pull 24 = .ok (.ireturn, 1) := by decide +kernel
theorem dX1_sightsHold_0 : decode cX1_sightsHold 0 = .ok (.iconst 0, 1) := by decide +kernel
theorem dX1_sightsHold_1 : decode cX1_sightsHold 1 = .ok (.istore_n 3, 1) := by decide +kernel
theorem dX1_sightsHold_2 : decode cX1_sightsHold 2 = .ok (.iload_n 3, 1) := by decide +kernel
theorem dX1_sightsHold_3 : decode cX1_sightsHold 3 = .ok (.aload_n 0, 1) := by decide +kernel
theorem dX1_sightsHold_4 : decode cX1_sightsHold 4 = .ok (.getfield 46, 3) := by decide +kernel
theorem dX1_sightsHold_7 : decode cX1_sightsHold 7 = .ok (.if_icmp .ge 31, 3) := by decide +kernel
theorem dX1_sightsHold_10 : decode cX1_sightsHold 10 = .ok (.aload_n 0, 1) := by decide +kernel
theorem dX1_sightsHold_11 : decode cX1_sightsHold 11 = .ok (.getfield 33, 3) := by decide +kernel
theorem dX1_sightsHold_14 : decode cX1_sightsHold 14 = .ok (.iload_n 3, 1) := by decide +kernel
theorem dX1_sightsHold_15 : decode cX1_sightsHold 15 = .ok (.iaload, 1) := by decide +kernel
theorem dX1_sightsHold_16 : decode cX1_sightsHold 16 = .ok (.iload_n 1, 1) := by decide +kernel
theorem dX1_sightsHold_17 : decode cX1_sightsHold 17 = .ok (.if_icmp .ne 15, 3) := by decide +kernel
theorem dX1_sightsHold_20 : decode cX1_sightsHold 20 = .ok (.aload_n 0, 1) := by decide +kernel
theorem dX1_sightsHold_21 : decode cX1_sightsHold 21 = .ok (.getfield 36, 3) := by decide +kernel
theorem dX1_sightsHold_24 : decode cX1_sightsHold 24 = .ok (.iload_n 3, 1) := by decide +kernel
theorem dX1_sightsHold_25 : decode cX1_sightsHold 25 = .ok (.iaload, 1) := by decide +kernel
theorem dX1_sightsHold_26 : decode cX1_sightsHold 26 = .ok (.iload_n 2, 1) := by decide +kernel
theorem dX1_sightsHold_27 : decode cX1_sightsHold 27 = .ok (.if_icmp .eq 5, 3) := by decide +kernel
theorem dX1_sightsHold_30 : decode cX1_sightsHold 30 = .ok (.iconst 0, 1) := by decide +kernel
theorem dX1_sightsHold_31 : decode cX1_sightsHold 31 = .ok (.ireturn, 1) := by decide +kernel
theorem dX1_sightsHold_32 : decode cX1_sightsHold 32 = .ok (.iinc 3 1, 3) := by decide +kernel
theorem dX1_sightsHold_35 : decode cX1_sightsHold 35 = .ok (.goto (-33), 3) := by decide +kernel
theorem dX1_sightsHold_38 : decode cX1_sightsHold 38 = .ok (.iconst 1, 1) := by decide +kernel
theorem dX1_sightsHold_39 : decode cX1_sightsHold 39 = .ok (.ireturn, 1) := by decide +kernel
theorem dX1_tellGuest_0 : decode cX1_tellGuest 0 = .ok (.iload_n 2, 1) := by decide +kernel
theorem dX1_tellGuest_1 : decode cX1_tellGuest 1 = .ok (.tableswitch 59 0 3 #[31, 38, 45, 52], 31) := by decide +kernel
theorem dX1_tellGuest_32 : decode cX1_tellGuest 32 = .ok (.aload_n 0, 1) := by decide +kernel
theorem dX1_tellGuest_33 : decode cX1_tellGuest 33 = .ok (.getfield 18, 3) := by decide +kernel
theorem dX1_tellGuest_36 : decode cX1_tellGuest 36 = .ok (.iload_n 1, 1) := by decide +kernel
theorem dX1_tellGuest_37 : decode cX1_tellGuest 37 = .ok (.iaload, 1) := by decide +kernel
theorem dX1_tellGuest_38 : decode cX1_tellGuest 38 = .ok (.ireturn, 1) := by decide +kernel
theorem dX1_tellGuest_39 : decode cX1_tellGuest 39 = .ok (.aload_n 0, 1) := by decide +kernel
theorem dX1_tellGuest_40 : decode cX1_tellGuest 40 = .ok (.getfield 21, 3) := by decide +kernel
theorem dX1_tellGuest_43 : decode cX1_tellGuest 43 = .ok (.iload_n 1, 1) := by decide +kernel
theorem dX1_tellGuest_44 : decode cX1_tellGuest 44 = .ok (.iaload, 1) := by decide +kernel
theorem dX1_tellGuest_45 : decode cX1_tellGuest 45 = .ok (.ireturn, 1) := by decide +kernel
theorem dX1_tellGuest_46 : decode cX1_tellGuest 46 = .ok (.aload_n 0, 1) := by decide +kernel
theorem dX1_tellGuest_47 : decode cX1_tellGuest 47 = .ok (.getfield 24, 3) := by decide +kernel
theorem dX1_tellGuest_50 : decode cX1_tellGuest 50 = .ok (.iload_n 1, 1) := by decide +kernel
theorem dX1_tellGuest_51 : decode cX1_tellGuest 51 = .ok (.iaload, 1) := by decide +kernel
theorem dX1_tellGuest_52 : decode cX1_tellGuest 52 = .ok (.ireturn, 1) := by decide +kernel
theorem dX1_tellGuest_53 : decode cX1_tellGuest 53 = .ok (.aload_n 0, 1) := by decide +kernel
theorem dX1_tellGuest_54 : decode cX1_tellGuest 54 = .ok (.getfield 27, 3) := by decide +kernel
theorem dX1_tellGuest_57 : decode cX1_tellGuest 57 = .ok (.iload_n 1, 1) := by decide +kernel
theorem dX1_tellGuest_58 : decode cX1_tellGuest 58 = .ok (.iaload, 1) := by decide +kernel
theorem dX1_tellGuest_59 : decode cX1_tellGuest 59 = .ok (.ireturn, 1) := by decide +kernel
theorem dX1_tellGuest_60 : decode cX1_tellGuest 60 = .ok (.bipush (-2), 2) := by decide +kernel
theorem dX1_tellGuest_62 : decode cX1_tellGuest 62 = .ok (.ireturn, 1) := by decide +kernel
theorem dX1_key_0 : decode cX1_key 0 = .ok (.lconst 0, 1) := by decide +kernel
theorem dX1_key_1 : decode cX1_key 1 = .ok (.lstore_n 1, 1) := by decide +kernel
theorem dX1_key_2 : decode cX1_key 2 = .ok (.iconst 0, 1) := by decide +kernel
theorem dX1_key_3 : decode cX1_key 3 = .ok (.istore_n 3, 1) := by decide +kernel
theorem dX1_key_4 : decode cX1_key 4 = .ok (.iload_n 3, 1) := by decide +kernel
theorem dX1_key_5 : decode cX1_key 5 = .ok (.bipush 8, 2) := by decide +kernel
theorem dX1_key_7 : decode cX1_key 7 = .ok (.if_icmp .ge 32, 3) := by decide +kernel
theorem dX1_key_10 : decode cX1_key 10 = .ok (.lload_n 1, 1) := by decide +kernel
theorem dX1_key_11 : decode cX1_key 11 = .ok (.bipush 7, 2) := by decide +kernel
theorem dX1_key_13 : decode cX1_key 13 = .ok (.lshl, 1) := by decide +kernel
theorem dX1_key_14 : decode cX1_key 14 = .ok (.aload_n 0, 1) := by decide +kernel
theorem dX1_key_15 : decode cX1_key 15 = .ok (.getfield 18, 3) := by decide +kernel
theorem dX1_key_18 : decode cX1_key 18 = .ok (.iload_n 3, 1) := by decide +kernel
theorem dX1_key_19 : decode cX1_key 19 = .ok (.iaload, 1) := by decide +kernel
theorem dX1_key_20 : decode cX1_key 20 = .ok (.iconst 4, 1) := by decide +kernel
theorem dX1_key_21 : decode cX1_key 21 = .ok (.ishl, 1) := by decide +kernel
theorem dX1_key_22 : decode cX1_key 22 = .ok (.i2l, 1) := by decide +kernel
theorem dX1_key_23 : decode cX1_key 23 = .ok (.lor, 1) := by decide +kernel
theorem dX1_key_24 : decode cX1_key 24 = .ok (.aload_n 0, 1) := by decide +kernel
theorem dX1_key_25 : decode cX1_key 25 = .ok (.getfield 27, 3) := by decide +kernel
theorem dX1_key_28 : decode cX1_key 28 = .ok (.iload_n 3, 1) := by decide +kernel
theorem dX1_key_29 : decode cX1_key 29 = .ok (.iaload, 1) := by decide +kernel
theorem dX1_key_30 : decode cX1_key 30 = .ok (.i2l, 1) := by decide +kernel
theorem dX1_key_31 : decode cX1_key 31 = .ok (.lor, 1) := by decide +kernel
theorem dX1_key_32 : decode cX1_key 32 = .ok (.lstore_n 1, 1) := by decide +kernel
theorem dX1_key_33 : decode cX1_key 33 = .ok (.iinc 3 1, 3) := by decide +kernel
theorem dX1_key_36 : decode cX1_key 36 = .ok (.goto (-32), 3) := by decide +kernel
theorem dX1_key_39 : decode cX1_key 39 = .ok (.lload_n 1, 1) := by decide +kernel
theorem dX1_key_40 : decode cX1_key 40 = .ok (.lreturn, 1) := by decide +kernel
theorem dX1_dismiss_0 : decode cX1_dismiss 0 = .ok (.aload_n 0, 1) := by decide +kernel
theorem dX1_dismiss_1 : decode cX1_dismiss 1 = .ok (.iload_n 1, 1) := by decide +kernel
theorem dX1_dismiss_2 : decode cX1_dismiss 2 = .ok (.invokevirtual 81, 3) := by decide +kernel
theorem dX1_dismiss_5 : decode cX1_dismiss 5 = .ok (.aload_n 0, 1) := by decide +kernel
theorem dX1_dismiss_6 : decode cX1_dismiss 6 = .ok (.dup, 1) := by decide +kernel
theorem dX1_dismiss_7 : decode cX1_dismiss 7 = .ok (.getfield 43, 3) := by decide +kernel
theorem dX1_dismiss_10 : decode cX1_dismiss 10 = .ok (.iconst 1, 1) := by decide +kernel
theorem dX1_dismiss_11 : decode cX1_dismiss 11 = .ok (.iload_n 1, 1) := by decide +kernel
theorem dX1_dismiss_12 : decode cX1_dismiss 12 = .ok (.ishl, 1) := by decide +kernel
theorem dX1_dismiss_13 : decode cX1_dismiss 13 = .ok (.iconst (-1), 1) := by decide +kernel
theorem dX1_dismiss_14 : decode cX1_dismiss 14 = .ok (.ixor, 1) := by decide +kernel
theorem dX1_dismiss_15 : decode cX1_dismiss 15 = .ok (.iand, 1) := by decide +kernel
theorem dX1_dismiss_16 : decode cX1_dismiss 16 = .ok (.putfield 43, 3) := by decide +kernel
theorem dX1_dismiss_19 : decode cX1_dismiss 19 = .ok (.aload_n 0, 1) := by decide +kernel
theorem dX1_dismiss_20 : decode cX1_dismiss 20 = .ok (.getfield 18, 3) := by decide +kernel
theorem dX1_dismiss_23 : decode cX1_dismiss 23 = .ok (.iload_n 1, 1) := by decide +kernel
theorem dX1_dismiss_24 : decode cX1_dismiss 24 = .ok (.iconst 0, 1) := by decide +kernel
theorem dX1_dismiss_25 : decode cX1_dismiss 25 = .ok (.iastore, 1) := by decide +kernel
theorem dX1_dismiss_26 : decode cX1_dismiss 26 = .ok (.iconst 0, 1) := by decide +kernel
theorem dX1_dismiss_27 : decode cX1_dismiss 27 = .ok (.istore_n 2, 1) := by decide +kernel
theorem dX1_dismiss_28 : decode cX1_dismiss 28 = .ok (.iload_n 2, 1) := by decide +kernel
theorem dX1_dismiss_29 : decode cX1_dismiss 29 = .ok (.iconst 5, 1) := by decide +kernel
theorem dX1_dismiss_30 : decode cX1_dismiss 30 = .ok (.if_icmp .ge 20, 3) := by decide +kernel
theorem dX1_dismiss_33 : decode cX1_dismiss 33 = .ok (.aload_n 0, 1) := by decide +kernel
theorem dX1_dismiss_34 : decode cX1_dismiss 34 = .ok (.getfield 30, 3) := by decide +kernel
theorem dX1_dismiss_37 : decode cX1_dismiss 37 = .ok (.iload_n 1, 1) := by decide +kernel
theorem dX1_dismiss_38 : decode cX1_dismiss 38 = .ok (.iconst 5, 1) := by decide +kernel
theorem dX1_dismiss_39 : decode cX1_dismiss 39 = .ok (.imul, 1) := by decide +kernel
theorem dX1_dismiss_40 : decode cX1_dismiss 40 = .ok (.iload_n 2, 1) := by decide +kernel
theorem dX1_dismiss_41 : decode cX1_dismiss 41 = .ok (.iadd, 1) := by decide +kernel
theorem dX1_dismiss_42 : decode cX1_dismiss 42 = .ok (.iconst 0, 1) := by decide +kernel
theorem dX1_dismiss_43 : decode cX1_dismiss 43 = .ok (.iastore, 1) := by decide +kernel
theorem dX1_dismiss_44 : decode cX1_dismiss 44 = .ok (.iinc 2 1, 3) := by decide +kernel
theorem dX1_dismiss_47 : decode cX1_dismiss 47 = .ok (.goto (-19), 3) := by decide +kernel
theorem dX1_dismiss_50 : decode cX1_dismiss 50 = .ok (.return_, 1) := by decide +kernel
theorem dX1_whyNotTalk_0 : decode cX1_whyNotTalk 0 = .ok (.aload_n 0, 1) := by decide +kernel
theorem dX1_whyNotTalk_1 : decode cX1_whyNotTalk 1 = .ok (.iload_n 1, 1) := by decide +kernel
theorem dX1_whyNotTalk_2 : decode cX1_whyNotTalk 2 = .ok (.invokevirtual 61, 3) := by decide +kernel
theorem dX1_whyNotTalk_5 : decode cX1_whyNotTalk 5 = .ok (.ifCond .eq 11, 3) := by decide +kernel
theorem dX1_whyNotTalk_8 : decode cX1_whyNotTalk 8 = .ok (.aload_n 0, 1) := by decide +kernel
theorem dX1_whyNotTalk_9 : decode cX1_whyNotTalk 9 = .ok (.iload_n 2, 1) := by decide +kernel
theorem dX1_whyNotTalk_10 : decode cX1_whyNotTalk 10 = .ok (.invokevirtual 61, 3) := by decide +kernel
theorem dX1_whyNotTalk_13 : decode cX1_whyNotTalk 13 = .ok (.ifCond .ne 5, 3) := by decide +kernel
theorem dX1_whyNotTalk_16 : decode cX1_whyNotTalk 16 = .ok (.iconst 1, 1) := by decide +kernel
theorem dX1_whyNotTalk_17 : decode cX1_whyNotTalk 17 = .ok (.ireturn, 1) := by decide +kernel
theorem dX1_whyNotTalk_18 : decode cX1_whyNotTalk 18 = .ok (.aload_n 0, 1) := by decide +kernel
theorem dX1_whyNotTalk_19 : decode cX1_whyNotTalk 19 = .ok (.getfield 21, 3) := by decide +kernel
theorem dX1_whyNotTalk_22 : decode cX1_whyNotTalk 22 = .ok (.iload_n 1, 1) := by decide +kernel
theorem dX1_whyNotTalk_23 : decode cX1_whyNotTalk 23 = .ok (.iaload, 1) := by decide +kernel
theorem dX1_whyNotTalk_24 : decode cX1_whyNotTalk 24 = .ok (.ifCond .ne 12, 3) := by decide +kernel
theorem dX1_whyNotTalk_27 : decode cX1_whyNotTalk 27 = .ok (.aload_n 0, 1) := by decide +kernel
theorem dX1_whyNotTalk_28 : decode cX1_whyNotTalk 28 = .ok (.getfield 21, 3) := by decide +kernel
theorem dX1_whyNotTalk_31 : decode cX1_whyNotTalk 31 = .ok (.iload_n 2, 1) := by decide +kernel
theorem dX1_whyNotTalk_32 : decode cX1_whyNotTalk 32 = .ok (.iaload, 1) := by decide +kernel
theorem dX1_whyNotTalk_33 : decode cX1_whyNotTalk 33 = .ok (.ifCond .eq 5, 3) := by decide +kernel
theorem dX1_whyNotTalk_36 : decode cX1_whyNotTalk 36 = .ok (.iconst 2, 1) := by decide +kernel
theorem dX1_whyNotTalk_37 : decode cX1_whyNotTalk 37 = .ok (.ireturn, 1) := by decide +kernel
theorem dX1_whyNotTalk_38 : decode cX1_whyNotTalk 38 = .ok (.aload_n 0, 1) := by decide +kernel
theorem dX1_whyNotTalk_39 : decode cX1_whyNotTalk 39 = .ok (.getfield 18, 3) := by decide +kernel
theorem dX1_whyNotTalk_42 : decode cX1_whyNotTalk 42 = .ok (.iload_n 1, 1) := by decide +kernel
theorem dX1_whyNotTalk_43 : decode cX1_whyNotTalk 43 = .ok (.iaload, 1) := by decide +kernel
theorem dX1_whyNotTalk_44 : decode cX1_whyNotTalk 44 = .ok (.aload_n 0, 1) := by decide +kernel
theorem dX1_whyNotTalk_45 : decode cX1_whyNotTalk 45 = .ok (.getfield 18, 3) := by decide +kernel
theorem dX1_whyNotTalk_48 : decode cX1_whyNotTalk 48 = .ok (.iload_n 2, 1) := by decide +kernel
theorem dX1_whyNotTalk_49 : decode cX1_whyNotTalk 49 = .ok (.iaload, 1) := by decide +kernel
theorem dX1_whyNotTalk_50 : decode cX1_whyNotTalk 50 = .ok (.if_icmp .eq 7, 3) := by decide +kernel
theorem dX1_whyNotTalk_53 : decode cX1_whyNotTalk 53 = .ok (.iconst 3, 1) := by decide +kernel
theorem dX1_whyNotTalk_54 : decode cX1_whyNotTalk 54 = .ok (.goto 4, 3) := by decide +kernel
theorem dX1_whyNotTalk_57 : decode cX1_whyNotTalk 57 = .ok (.iconst 0, 1) := by decide +kernel
theorem dX1_whyNotTalk_58 : decode cX1_whyNotTalk 58 = .ok (.ireturn, 1) := by decide +kernel
theorem dX1_whyNotSit_0 : decode cX1_whyNotSit 0 = .ok (.aload_n 0, 1) := by decide +kernel
theorem dX1_whyNotSit_1 : decode cX1_whyNotSit 1 = .ok (.iload_n 1, 1) := by decide +kernel
theorem dX1_whyNotSit_2 : decode cX1_whyNotSit 2 = .ok (.invokevirtual 61, 3) := by decide +kernel
theorem dX1_whyNotSit_5 : decode cX1_whyNotSit 5 = .ok (.ifCond .ne 5, 3) := by decide +kernel
theorem dX1_whyNotSit_8 : decode cX1_whyNotSit 8 = .ok (.iconst 1, 1) := by decide +kernel
theorem dX1_whyNotSit_9 : decode cX1_whyNotSit 9 = .ok (.ireturn, 1) := by decide +kernel
theorem dX1_whyNotSit_10 : decode cX1_whyNotSit 10 = .ok (.aload_n 0, 1) := by decide +kernel
theorem dX1_whyNotSit_11 : decode cX1_whyNotSit 11 = .ok (.getfield 21, 3) := by decide +kernel
theorem dX1_whyNotSit_14 : decode cX1_whyNotSit 14 = .ok (.iload_n 1, 1) := by decide +kernel
theorem dX1_whyNotSit_15 : decode cX1_whyNotSit 15 = .ok (.iaload, 1) := by decide +kernel
theorem dX1_whyNotSit_16 : decode cX1_whyNotSit 16 = .ok (.ifCond .eq 5, 3) := by decide +kernel
theorem dX1_whyNotSit_19 : decode cX1_whyNotSit 19 = .ok (.iconst 2, 1) := by decide +kernel
theorem dX1_whyNotSit_20 : decode cX1_whyNotSit 20 = .ok (.ireturn, 1) := by decide +kernel
theorem dX1_whyNotSit_21 : decode cX1_whyNotSit 21 = .ok (.aload_n 0, 1) := by decide +kernel
theorem dX1_whyNotSit_22 : decode cX1_whyNotSit 22 = .ok (.getfield 18, 3) := by decide +kernel
theorem dX1_whyNotSit_25 : decode cX1_whyNotSit 25 = .ok (.iload_n 1, 1) := by decide +kernel
theorem dX1_whyNotSit_26 : decode cX1_whyNotSit 26 = .ok (.iaload, 1) := by decide +kernel
theorem dX1_whyNotSit_27 : decode cX1_whyNotSit 27 = .ok (.istore_n 2, 1) := by decide +kernel
theorem dX1_whyNotSit_28 : decode cX1_whyNotSit 28 = .ok (.aload_n 0, 1) := by decide +kernel
theorem dX1_whyNotSit_29 : decode cX1_whyNotSit 29 = .ok (.iload_n 2, 1) := by decide +kernel
theorem dX1_whyNotSit_30 : decode cX1_whyNotSit 30 = .ok (.invokevirtual 85, 3) := by decide +kernel
theorem dX1_whyNotSit_33 : decode cX1_whyNotSit 33 = .ok (.aload_n 0, 1) := by decide +kernel
theorem dX1_whyNotSit_34 : decode cX1_whyNotSit 34 = .ok (.getfield 9, 3) := by decide +kernel
theorem dX1_whyNotSit_37 : decode cX1_whyNotSit 37 = .ok (.iload_n 2, 1) := by decide +kernel
theorem dX1_whyNotSit_38 : decode cX1_whyNotSit 38 = .ok (.bipush 6, 2) := by decide +kernel
theorem dX1_whyNotSit_40 : decode cX1_whyNotSit 40 = .ok (.imul, 1) := by decide +kernel
theorem dX1_whyNotSit_41 : decode cX1_whyNotSit 41 = .ok (.iconst 5, 1) := by decide +kernel
theorem dX1_whyNotSit_42 : decode cX1_whyNotSit 42 = .ok (.iadd, 1) := by decide +kernel
theorem dX1_whyNotSit_43 : decode cX1_whyNotSit 43 = .ok (.iaload, 1) := by decide +kernel
theorem dX1_whyNotSit_44 : decode cX1_whyNotSit 44 = .ok (.if_icmp .lt 7, 3) := by decide +kernel
theorem dX1_whyNotSit_47 : decode cX1_whyNotSit 47 = .ok (.iconst 4, 1) := by decide +kernel
theorem dX1_whyNotSit_48 : decode cX1_whyNotSit 48 = .ok (.goto 4, 3) := by decide +kernel
theorem dX1_whyNotSit_51 : decode cX1_whyNotSit 51 = .ok (.iconst 0, 1) := by decide +kernel
theorem dX1_whyNotSit_52 : decode cX1_whyNotSit 52 = .ok (.ireturn, 1) := by decide +kernel
theorem dX1_whyNotBlock_0 : decode cX1_whyNotBlock 0 = .ok (.aload_n 0, 1) := by decide +kernel
theorem dX1_whyNotBlock_1 : decode cX1_whyNotBlock 1 = .ok (.iload_n 1, 1) := by decide +kernel
theorem dX1_whyNotBlock_2 : decode cX1_whyNotBlock 2 = .ok (.invokevirtual 61, 3) := by decide +kernel
theorem dX1_whyNotBlock_5 : decode cX1_whyNotBlock 5 = .ok (.ifCond .ne 5, 3) := by decide +kernel
theorem dX1_whyNotBlock_8 : decode cX1_whyNotBlock 8 = .ok (.iconst 1, 1) := by decide +kernel
theorem dX1_whyNotBlock_9 : decode cX1_whyNotBlock 9 = .ok (.ireturn, 1) := by decide +kernel
theorem dX1_whyNotBlock_10 : decode cX1_whyNotBlock 10 = .ok (.aload_n 0, 1) := by decide +kernel
theorem dX1_whyNotBlock_11 : decode cX1_whyNotBlock 11 = .ok (.getfield 21, 3) := by decide +kernel
theorem dX1_whyNotBlock_14 : decode cX1_whyNotBlock 14 = .ok (.iload_n 1, 1) := by decide +kernel
theorem dX1_whyNotBlock_15 : decode cX1_whyNotBlock 15 = .ok (.iaload, 1) := by decide +kernel
theorem dX1_whyNotBlock_16 : decode cX1_whyNotBlock 16 = .ok (.ifCond .eq 5, 3) := by decide +kernel
theorem dX1_whyNotBlock_19 : decode cX1_whyNotBlock 19 = .ok (.iconst 2, 1) := by decide +kernel
theorem dX1_whyNotBlock_20 : decode cX1_whyNotBlock 20 = .ok (.ireturn, 1) := by decide +kernel
theorem dX1_whyNotBlock_21 : decode cX1_whyNotBlock 21 = .ok (.aload_n 0, 1) := by decide +kernel
theorem dX1_whyNotBlock_22 : decode cX1_whyNotBlock 22 = .ok (.aload_n 0, 1) := by decide +kernel
theorem dX1_whyNotBlock_23 : decode cX1_whyNotBlock 23 = .ok (.getfield 18, 3) := by decide +kernel
theorem dX1_whyNotBlock_26 : decode cX1_whyNotBlock 26 = .ok (.iload_n 1, 1) := by decide +kernel
theorem dX1_whyNotBlock_27 : decode cX1_whyNotBlock 27 = .ok (.iaload, 1) := by decide +kernel
theorem dX1_whyNotBlock_28 : decode cX1_whyNotBlock 28 = .ok (.iload_n 2, 1) := by decide +kernel
theorem dX1_whyNotBlock_29 : decode cX1_whyNotBlock 29 = .ok (.invokevirtual 88, 3) := by decide +kernel
theorem dX1_whyNotBlock_32 : decode cX1_whyNotBlock 32 = .ok (.ifCond .ne 7, 3) := by decide +kernel
theorem dX1_whyNotBlock_35 : decode cX1_whyNotBlock 35 = .ok (.iconst 5, 1) := by decide +kernel
theorem dX1_whyNotBlock_36 : decode cX1_whyNotBlock 36 = .ok (.goto 4, 3) := by decide +kernel
theorem dX1_whyNotBlock_39 : decode cX1_whyNotBlock 39 = .ok (.iconst 0, 1) := by decide +kernel
theorem dX1_whyNotBlock_40 : decode cX1_whyNotBlock 40 = .ok (.ireturn, 1) := by decide +kernel
theorem dX1_whyNotRise_0 : decode cX1_whyNotRise 0 = .ok (.aload_n 0, 1) := by decide +kernel
theorem dX1_whyNotRise_1 : decode cX1_whyNotRise 1 = .ok (.iload_n 1, 1) := by decide +kernel
theorem dX1_whyNotRise_2 : decode cX1_whyNotRise 2 = .ok (.invokevirtual 61, 3) := by decide +kernel
theorem dX1_whyNotRise_5 : decode cX1_whyNotRise 5 = .ok (.ifCond .ne 5, 3) := by decide +kernel
theorem dX1_whyNotRise_8 : decode cX1_whyNotRise 8 = .ok (.iconst 1, 1) := by decide +kernel
theorem dX1_whyNotRise_9 : decode cX1_whyNotRise 9 = .ok (.ireturn, 1) := by decide +kernel
theorem dX1_whyNotRise_10 : decode cX1_whyNotRise 10 = .ok (.aload_n 0, 1) := by decide +kernel
theorem dX1_whyNotRise_11 : decode cX1_whyNotRise 11 = .ok (.getfield 21, 3) := by decide +kernel
theorem dX1_whyNotRise_14 : decode cX1_whyNotRise 14 = .ok (.iload_n 1, 1) := by decide +kernel
theorem dX1_whyNotRise_15 : decode cX1_whyNotRise 15 = .ok (.iaload, 1) := by decide +kernel
theorem dX1_whyNotRise_16 : decode cX1_whyNotRise 16 = .ok (.ifCond .ne 7, 3) := by decide +kernel
theorem dX1_whyNotRise_19 : decode cX1_whyNotRise 19 = .ok (.iconst 2, 1) := by decide +kernel
theorem dX1_whyNotRise_20 : decode cX1_whyNotRise 20 = .ok (.goto 4, 3) := by decide +kernel
theorem dX1_whyNotRise_23 : decode cX1_whyNotRise 23 = .ok (.iconst 0, 1) := by decide +kernel
theorem dX1_whyNotRise_24 : decode cX1_whyNotRise 24 = .ok (.ireturn, 1) := by decide +kernel
theorem dX1_whyNotCarry_0 : decode cX1_whyNotCarry 0 = .ok (.aload_n 0, 1) := by decide +kernel
theorem dX1_whyNotCarry_1 : decode cX1_whyNotCarry 1 = .ok (.getfield 9, 3) := by decide +kernel
theorem dX1_whyNotCarry_4 : decode cX1_whyNotCarry 4 = .ok (.iload_n 1, 1) := by decide +kernel
theorem dX1_whyNotCarry_5 : decode cX1_whyNotCarry 5 = .ok (.bipush 6, 2) := by decide +kernel
theorem dX1_whyNotCarry_7 : decode cX1_whyNotCarry 7 = .ok (.imul, 1) := by decide +kernel
theorem dX1_whyNotCarry_8 : decode cX1_whyNotCarry 8 = .ok (.iload_n 3, 1) := by decide +kernel
theorem dX1_whyNotCarry_9 : decode cX1_whyNotCarry 9 = .ok (.iadd, 1) := by decide +kernel
theorem dX1_whyNotCarry_10 : decode cX1_whyNotCarry 10 = .ok (.iaload, 1) := by decide +kernel
theorem dX1_whyNotCarry_11 : decode cX1_whyNotCarry 11 = .ok (.ifCond .le 7, 3) := by decide +kernel
theorem dX1_whyNotCarry_14 : decode cX1_whyNotCarry 14 = .ok (.iconst 1, 1) := by decide +kernel
theorem dX1_whyNotCarry_15 : decode cX1_whyNotCarry 15 = .ok (.goto 4, 3) := by decide +kernel
theorem dX1_whyNotCarry_18 : decode cX1_whyNotCarry 18 = .ok (.iconst 0, 1) := by decide +kernel
theorem dX1_whyNotCarry_19 : decode cX1_whyNotCarry 19 = .ok (.istore 4, 2) := by decide +kernel
theorem dX1_whyNotCarry_21 : decode cX1_whyNotCarry 21 = .ok (.aload_n 0, 1) := by decide +kernel
theorem dX1_whyNotCarry_22 : decode cX1_whyNotCarry 22 = .ok (.getfield 9, 3) := by decide +kernel
theorem dX1_whyNotCarry_25 : decode cX1_whyNotCarry 25 = .ok (.iload_n 2, 1) := by decide +kernel
theorem dX1_whyNotCarry_26 : decode cX1_whyNotCarry 26 = .ok (.bipush 6, 2) := by decide +kernel
theorem dX1_whyNotCarry_28 : decode cX1_whyNotCarry 28 = .ok (.imul, 1) := by decide +kernel
theorem dX1_whyNotCarry_29 : decode cX1_whyNotCarry 29 = .ok (.iload_n 3, 1) := by decide +kernel
theorem dX1_whyNotCarry_30 : decode cX1_whyNotCarry 30 = .ok (.iadd, 1) := by decide +kernel
theorem dX1_whyNotCarry_31 : decode cX1_whyNotCarry 31 = .ok (.iaload, 1) := by decide +kernel
theorem dX1_whyNotCarry_32 : decode cX1_whyNotCarry 32 = .ok (.bipush 9, 2) := by decide +kernel
theorem dX1_whyNotCarry_34 : decode cX1_whyNotCarry 34 = .ok (.if_icmp .ge 7, 3) := by decide +kernel
theorem dX1_whyNotCarry_37 : decode cX1_whyNotCarry 37 = .ok (.iconst 1, 1) := by decide +kernel
theorem dX1_whyNotCarry_38 : decode cX1_whyNotCarry 38 = .ok (.goto 4, 3) := by decide +kernel
theorem dX1_whyNotCarry_41 : decode cX1_whyNotCarry 41 = .ok (.iconst 0, 1) := by decide +kernel
theorem dX1_whyNotCarry_42 : decode cX1_whyNotCarry 42 = .ok (.istore 5, 2) := by decide +kernel
theorem dX1_whyNotCarry_44 : decode cX1_whyNotCarry 44 = .ok (.iload_n 1, 1) := by decide +kernel
theorem dX1_whyNotCarry_45 : decode cX1_whyNotCarry 45 = .ok (.iload_n 2, 1) := by decide +kernel
theorem dX1_whyNotCarry_46 : decode cX1_whyNotCarry 46 = .ok (.if_icmp .eq 17, 3) := by decide +kernel
theorem dX1_whyNotCarry_49 : decode cX1_whyNotCarry 49 = .ok (.iload 4, 2) := by decide +kernel
theorem dX1_whyNotCarry_51 : decode cX1_whyNotCarry 51 = .ok (.ifCond .eq 12, 3) := by decide +kernel
theorem dX1_whyNotCarry_54 : decode cX1_whyNotCarry 54 = .ok (.iload 5, 2) := by decide +kernel
theorem dX1_whyNotCarry_56 : decode cX1_whyNotCarry 56 = .ok (.ifCond .eq 7, 3) := by decide +kernel
theorem dX1_whyNotCarry_59 : decode cX1_whyNotCarry 59 = .ok (.iconst 0, 1) := by decide +kernel
theorem dX1_whyNotCarry_60 : decode cX1_whyNotCarry 60 = .ok (.goto 5, 3) := by decide +kernel
theorem dX1_whyNotCarry_63 : decode cX1_whyNotCarry 63 = .ok (.bipush 6, 2) := by decide +kernel
theorem dX1_whyNotCarry_65 : decode cX1_whyNotCarry 65 = .ok (.ireturn, 1) := by decide +kernel
theorem dX1_talk_0 : decode cX1_talk 0 = .ok (.aload_n 0, 1) := by decide +kernel
theorem dX1_talk_1 : decode cX1_talk 1 = .ok (.iload_n 1, 1) := by decide +kernel
theorem dX1_talk_2 : decode cX1_talk 2 = .ok (.iconst 1, 1) := by decide +kernel
theorem dX1_talk_3 : decode cX1_talk 3 = .ok (.iload_n 2, 1) := by decide +kernel
theorem dX1_talk_4 : decode cX1_talk 4 = .ok (.iload_n 3, 1) := by decide +kernel
theorem dX1_talk_5 : decode cX1_talk 5 = .ok (.invokevirtual 91, 3) := by decide +kernel
theorem dX1_talk_8 : decode cX1_talk 8 = .ok (.aload_n 0, 1) := by decide +kernel
theorem dX1_talk_9 : decode cX1_talk 9 = .ok (.iload_n 2, 1) := by decide +kernel
theorem dX1_talk_10 : decode cX1_talk 10 = .ok (.iconst 1, 1) := by decide +kernel
theorem dX1_talk_11 : decode cX1_talk 11 = .ok (.iload_n 1, 1) := by decide +kernel
theorem dX1_talk_12 : decode cX1_talk 12 = .ok (.iload_n 3, 1) := by decide +kernel
theorem dX1_talk_13 : decode cX1_talk 13 = .ok (.invokevirtual 91, 3) := by decide +kernel
theorem dX1_talk_16 : decode cX1_talk 16 = .ok (.return_, 1) := by decide +kernel
theorem dX1_sit_0 : decode cX1_sit 0 = .ok (.aload_n 0, 1) := by decide +kernel
theorem dX1_sit_1 : decode cX1_sit 1 = .ok (.iload_n 1, 1) := by decide +kernel
theorem dX1_sit_2 : decode cX1_sit 2 = .ok (.iconst 2, 1) := by decide +kernel
theorem dX1_sit_3 : decode cX1_sit 3 = .ok (.bipush (-6), 2) := by decide +kernel
theorem dX1_sit_5 : decode cX1_sit 5 = .ok (.iconst 0, 1) := by decide +kernel
theorem dX1_sit_6 : decode cX1_sit 6 = .ok (.invokevirtual 91, 3) := by decide +kernel
theorem dX1_sit_9 : decode cX1_sit 9 = .ok (.return_, 1) := by decide +kernel
theorem dX1_block_0 : decode cX1_block 0 = .ok (.aload_n 0, 1) := by decide +kernel
theorem dX1_block_1 : decode cX1_block 1 = .ok (.iload_n 1, 1) := by decide +kernel
theorem dX1_block_2 : decode cX1_block 2 = .ok (.iconst 3, 1) := by decide +kernel
theorem dX1_block_3 : decode cX1_block 3 = .ok (.iload_n 2, 1) := by decide +kernel
theorem dX1_block_4 : decode cX1_block 4 = .ok (.iconst 0, 1) := by decide +kernel
theorem dX1_block_5 : decode cX1_block 5 = .ok (.invokevirtual 91, 3) := by decide +kernel
theorem dX1_block_8 : decode cX1_block 8 = .ok (.return_, 1) := by decide +kernel
theorem dX1_rise_0 : decode cX1_rise 0 = .ok (.aload_n 0, 1) := by decide +kernel
theorem dX1_rise_1 : decode cX1_rise 1 = .ok (.getfield 24, 3) := by decide +kernel
theorem dX1_rise_4 : decode cX1_rise 4 = .ok (.iload_n 1, 1) := by decide +kernel
theorem dX1_rise_5 : decode cX1_rise 5 = .ok (.iaload, 1) := by decide +kernel
theorem dX1_rise_6 : decode cX1_rise 6 = .ok (.istore_n 2, 1) := by decide +kernel
theorem dX1_rise_7 : decode cX1_rise 7 = .ok (.aload_n 0, 1) := by decide +kernel
theorem dX1_rise_8 : decode cX1_rise 8 = .ok (.getfield 21, 3) := by decide +kernel
theorem dX1_rise_11 : decode cX1_rise 11 = .ok (.iload_n 1, 1) := by decide +kernel
theorem dX1_rise_12 : decode cX1_rise 12 = .ok (.iaload, 1) := by decide +kernel
theorem dX1_rise_13 : decode cX1_rise 13 = .ok (.iconst 1, 1) := by decide +kernel
theorem dX1_rise_14 : decode cX1_rise 14 = .ok (.if_icmp .ne 20, 3) := by decide +kernel
theorem dX1_rise_17 : decode cX1_rise 17 = .ok (.aload_n 0, 1) := by decide +kernel
theorem dX1_rise_18 : decode cX1_rise 18 = .ok (.iload_n 2, 1) := by decide +kernel
theorem dX1_rise_19 : decode cX1_rise 19 = .ok (.invokevirtual 61, 3) := by decide +kernel
theorem dX1_rise_22 : decode cX1_rise 22 = .ok (.ifCond .eq 12, 3) := by decide +kernel
theorem dX1_rise_25 : decode cX1_rise 25 = .ok (.aload_n 0, 1) := by decide +kernel
theorem dX1_rise_26 : decode cX1_rise 26 = .ok (.iload_n 2, 1) := by decide +kernel
theorem dX1_rise_27 : decode cX1_rise 27 = .ok (.iconst 0, 1) := by decide +kernel
theorem dX1_rise_28 : decode cX1_rise 28 = .ok (.bipush (-6), 2) := by decide +kernel
theorem dX1_rise_30 : decode cX1_rise 30 = .ok (.iconst 0, 1) := by decide +kernel
theorem dX1_rise_31 : decode cX1_rise 31 = .ok (.invokevirtual 91, 3) := by decide +kernel
theorem dX1_rise_34 : decode cX1_rise 34 = .ok (.aload_n 0, 1) := by decide +kernel
theorem dX1_rise_35 : decode cX1_rise 35 = .ok (.iload_n 1, 1) := by decide +kernel
theorem dX1_rise_36 : decode cX1_rise 36 = .ok (.iconst 0, 1) := by decide +kernel
theorem dX1_rise_37 : decode cX1_rise 37 = .ok (.bipush (-6), 2) := by decide +kernel
theorem dX1_rise_39 : decode cX1_rise 39 = .ok (.iconst 0, 1) := by decide +kernel
theorem dX1_rise_40 : decode cX1_rise 40 = .ok (.invokevirtual 91, 3) := by decide +kernel
theorem dX1_rise_43 : decode cX1_rise 43 = .ok (.return_, 1) := by decide +kernel
theorem dX1_carry_0 : decode cX1_carry 0 = .ok (.aload_n 0, 1) := by decide +kernel
theorem dX1_carry_1 : decode cX1_carry 1 = .ok (.getfield 9, 3) := by decide +kernel
theorem dX1_carry_4 : decode cX1_carry 4 = .ok (.iload_n 1, 1) := by decide +kernel
theorem dX1_carry_5 : decode cX1_carry 5 = .ok (.bipush 6, 2) := by decide +kernel
theorem dX1_carry_7 : decode cX1_carry 7 = .ok (.imul, 1) := by decide +kernel
theorem dX1_carry_8 : decode cX1_carry 8 = .ok (.iload_n 3, 1) := by decide +kernel
theorem dX1_carry_9 : decode cX1_carry 9 = .ok (.iadd, 1) := by decide +kernel
theorem dX1_carry_10 : decode cX1_carry 10 = .ok (.dup2, 1) := by decide +kernel
theorem dX1_carry_11 : decode cX1_carry 11 = .ok (.iaload, 1) := by decide +kernel
theorem dX1_carry_12 : decode cX1_carry 12 = .ok (.iconst 1, 1) := by decide +kernel
theorem dX1_carry_13 : decode cX1_carry 13 = .ok (.isub, 1) := by decide +kernel
theorem dX1_carry_14 : decode cX1_carry 14 = .ok (.iastore, 1) := by decide +kernel
theorem dX1_carry_15 : decode cX1_carry 15 = .ok (.aload_n 0, 1) := by decide +kernel
theorem dX1_carry_16 : decode cX1_carry 16 = .ok (.getfield 9, 3) := by decide +kernel
theorem dX1_carry_19 : decode cX1_carry 19 = .ok (.iload_n 2, 1) := by decide +kernel
theorem dX1_carry_20 : decode cX1_carry 20 = .ok (.bipush 6, 2) := by decide +kernel
theorem dX1_carry_22 : decode cX1_carry 22 = .ok (.imul, 1) := by decide +kernel
theorem dX1_carry_23 : decode cX1_carry 23 = .ok (.iload_n 3, 1) := by decide +kernel
theorem dX1_carry_24 : decode cX1_carry 24 = .ok (.iadd, 1) := by decide +kernel
theorem dX1_carry_25 : decode cX1_carry 25 = .ok (.dup2, 1) := by decide +kernel
theorem dX1_carry_26 : decode cX1_carry 26 = .ok (.iaload, 1) := by decide +kernel
theorem dX1_carry_27 : decode cX1_carry 27 = .ok (.iconst 1, 1) := by decide +kernel
theorem dX1_carry_28 : decode cX1_carry 28 = .ok (.iadd, 1) := by decide +kernel
theorem dX1_carry_29 : decode cX1_carry 29 = .ok (.iastore, 1) := by decide +kernel
theorem dX1_carry_30 : decode cX1_carry 30 = .ok (.return_, 1) := by decide +kernel
theorem dX1_talkOn_0 : decode cX1_talkOn 0 = .ok (.iconst 0, 1) := by decide +kernel
theorem dX1_talkOn_1 : decode cX1_talkOn 1 = .ok (.istore_n 1, 1) := by decide +kernel
theorem dX1_talkOn_2 : decode cX1_talkOn 2 = .ok (.iload_n 1, 1) := by decide +kernel
theorem dX1_talkOn_3 : decode cX1_talkOn 3 = .ok (.bipush 8, 2) := by decide +kernel
theorem dX1_talkOn_5 : decode cX1_talkOn 5 = .ok (.if_icmp .ge 47, 3) := by decide +kernel
theorem dX1_talkOn_8 : decode cX1_talkOn 8 = .ok (.aload_n 0, 1) := by decide +kernel
theorem dX1_talkOn_9 : decode cX1_talkOn 9 = .ok (.getfield 21, 3) := by decide +kernel
theorem dX1_talkOn_12 : decode cX1_talkOn 12 = .ok (.iload_n 1, 1) := by decide +kernel
theorem dX1_talkOn_13 : decode cX1_talkOn 13 = .ok (.iaload, 1) := by decide +kernel
theorem dX1_talkOn_14 : decode cX1_talkOn 14 = .ok (.iconst 1, 1) := by decide +kernel
theorem dX1_talkOn_15 : decode cX1_talkOn 15 = .ok (.if_icmp .ne 31, 3) := by decide +kernel
theorem dX1_talkOn_18 : decode cX1_talkOn 18 = .ok (.aload_n 0, 1) := by decide +kernel
theorem dX1_talkOn_19 : decode cX1_talkOn 19 = .ok (.getfield 27, 3) := by decide +kernel
theorem dX1_talkOn_22 : decode cX1_talkOn 22 = .ok (.iload_n 1, 1) := by decide +kernel
theorem dX1_talkOn_23 : decode cX1_talkOn 23 = .ok (.dup2, 1) := by decide +kernel
theorem dX1_talkOn_24 : decode cX1_talkOn 24 = .ok (.iaload, 1) := by decide +kernel
theorem dX1_talkOn_25 : decode cX1_talkOn 25 = .ok (.iconst 1, 1) := by decide +kernel
theorem dX1_talkOn_26 : decode cX1_talkOn 26 = .ok (.isub, 1) := by decide +kernel
theorem dX1_talkOn_27 : decode cX1_talkOn 27 = .ok (.iastore, 1) := by decide +kernel
theorem dX1_talkOn_28 : decode cX1_talkOn 28 = .ok (.aload_n 0, 1) := by decide +kernel
theorem dX1_talkOn_29 : decode cX1_talkOn 29 = .ok (.getfield 27, 3) := by decide +kernel
theorem dX1_talkOn_32 : decode cX1_talkOn 32 = .ok (.iload_n 1, 1) := by decide +kernel
theorem dX1_talkOn_33 : decode cX1_talkOn 33 = .ok (.iaload, 1) := by decide +kernel
theorem dX1_talkOn_34 : decode cX1_talkOn 34 = .ok (.ifCond .gt 12, 3) := by decide +kernel
theorem dX1_talkOn_37 : decode cX1_talkOn 37 = .ok (.aload_n 0, 1) := by decide +kernel
theorem dX1_talkOn_38 : decode cX1_talkOn 38 = .ok (.iload_n 1, 1) := by decide +kernel
theorem dX1_talkOn_39 : decode cX1_talkOn 39 = .ok (.iconst 0, 1) := by decide +kernel
theorem dX1_talkOn_40 : decode cX1_talkOn 40 = .ok (.bipush (-6), 2) := by decide +kernel
theorem dX1_talkOn_42 : decode cX1_talkOn 42 = .ok (.iconst 0, 1) := by decide +kernel
theorem dX1_talkOn_43 : decode cX1_talkOn 43 = .ok (.invokevirtual 91, 3) := by decide +kernel
theorem dX1_talkOn_46 : decode cX1_talkOn 46 = .ok (.iinc 1 1, 3) := by decide +kernel
theorem dX1_talkOn_49 : decode cX1_talkOn 49 = .ok (.goto (-47), 3) := by decide +kernel
theorem dX1_talkOn_52 : decode cX1_talkOn 52 = .ok (.return_, 1) := by decide +kernel
theorem dX1_engage_0 : decode cX1_engage 0 = .ok (.aload_n 0, 1) := by decide +kernel
theorem dX1_engage_1 : decode cX1_engage 1 = .ok (.getfield 21, 3) := by decide +kernel
theorem dX1_engage_4 : decode cX1_engage 4 = .ok (.iload_n 1, 1) := by decide +kernel
theorem dX1_engage_5 : decode cX1_engage 5 = .ok (.iload_n 2, 1) := by decide +kernel
theorem dX1_engage_6 : decode cX1_engage 6 = .ok (.iastore, 1) := by decide +kernel
theorem dX1_engage_7 : decode cX1_engage 7 = .ok (.aload_n 0, 1) := by decide +kernel
theorem dX1_engage_8 : decode cX1_engage 8 = .ok (.getfield 24, 3) := by decide +kernel
theorem dX1_engage_11 : decode cX1_engage 11 = .ok (.iload_n 1, 1) := by decide +kernel
theorem dX1_engage_12 : decode cX1_engage 12 = .ok (.iload_n 3, 1) := by decide +kernel
theorem dX1_engage_13 : decode cX1_engage 13 = .ok (.iastore, 1) := by decide +kernel
theorem dX1_engage_14 : decode cX1_engage 14 = .ok (.aload_n 0, 1) := by decide +kernel
theorem dX1_engage_15 : decode cX1_engage 15 = .ok (.getfield 27, 3) := by decide +kernel
theorem dX1_engage_18 : decode cX1_engage 18 = .ok (.iload_n 1, 1) := by decide +kernel
theorem dX1_engage_19 : decode cX1_engage 19 = .ok (.iload 4, 2) := by decide +kernel
theorem dX1_engage_21 : decode cX1_engage 21 = .ok (.iastore, 1) := by decide +kernel
theorem dX1_engage_22 : decode cX1_engage 22 = .ok (.return_, 1) := by decide +kernel
end
section
theorem dX2_init_0 : decode cX2_init 0 = .ok (.aload_n 0, 1) := by decide +kernel
theorem dX2_init_1 : decode cX2_init 1 = .ok (.invokespecial 3, 3) := by decide +kernel
theorem dX2_init_4 : decode cX2_init 4 = .ok (.aload_n 0, 1) := by decide +kernel
theorem dX2_init_5 : decode cX2_init 5 = .ok (.bipush 60, 2) := by decide +kernel
theorem dX2_init_7 : decode cX2_init 7 = .ok (.newarray .int, 2) := by decide +kernel
theorem dX2_init_9 : decode cX2_init 9 = .ok (.putfield 9, 3) := by decide +kernel
theorem dX2_init_12 : decode cX2_init 12 = .ok (.return_, 1) := by decide +kernel
theorem dX2_add_0 : decode cX2_add 0 = .ok (.aload_n 0, 1) := by decide +kernel
theorem dX2_add_1 : decode cX2_add 1 = .ok (.getfield 15, 3) := by decide +kernel
theorem dX2_add_4 : decode cX2_add 4 = .ok (.bipush 60, 2) := by decide +kernel
theorem dX2_add_6 : decode cX2_add 6 = .ok (.if_icmp .lt 5, 3) := by decide +kernel
theorem dX2_add_9 : decode cX2_add 9 = .ok (.iconst 0, 1) := by decide +kernel
theorem dX2_add_10 : decode cX2_add 10 = .ok (.ireturn, 1) := by decide +kernel
theorem dX2_add_11 : decode cX2_add 11 = .ok (.aload_n 0, 1) := by decide +kernel
theorem dX2_add_12 : decode cX2_add 12 = .ok (.getfield 9, 3) := by decide +kernel
theorem dX2_add_15 : decode cX2_add 15 = .ok (.aload_n 0, 1) := by decide +kernel
theorem dX2_add_16 : decode cX2_add 16 = .ok (.getfield 15, 3) := by decide +kernel
theorem dX2_add_19 : decode cX2_add 19 = .ok (.iload_n 1, 1) := by decide +kernel
theorem dX2_add_20 : decode cX2_add 20 = .ok (.iastore, 1) := by decide +kernel
theorem dX2_add_21 : decode cX2_add 21 = .ok (.aload_n 0, 1) := by decide +kernel
theorem dX2_add_22 : decode cX2_add 22 = .ok (.dup, 1) := by decide +kernel
theorem dX2_add_23 : decode cX2_add 23 = .ok (.getfield 15, 3) := by decide +kernel
theorem dX2_add_26 : decode cX2_add 26 = .ok (.iconst 1, 1) := by decide +kernel
theorem dX2_add_27 : decode cX2_add 27 = .ok (.iadd, 1) := by decide +kernel
theorem dX2_add_28 : decode cX2_add 28 = .ok (.putfield 15, 3) := by decide +kernel
theorem dX2_add_31 : decode cX2_add 31 = .ok (.iconst 1, 1) := by decide +kernel
theorem dX2_add_32 : decode cX2_add 32 = .ok (.ireturn, 1) := by decide +kernel
theorem dX2_sign_0 : decode cX2_sign 0 = .ok (.iload_n 1, 1) := by decide +kernel
theorem dX2_sign_1 : decode cX2_sign 1 = .ok (.ifCond .lt 20, 3) := by decide +kernel
theorem dX2_sign_4 : decode cX2_sign 4 = .ok (.iload_n 1, 1) := by decide +kernel
theorem dX2_sign_5 : decode cX2_sign 5 = .ok (.aload_n 0, 1) := by decide +kernel
theorem dX2_sign_6 : decode cX2_sign 6 = .ok (.getfield 15, 3) := by decide +kernel
theorem dX2_sign_9 : decode cX2_sign 9 = .ok (.if_icmp .ge 12, 3) := by decide +kernel
theorem dX2_sign_12 : decode cX2_sign 12 = .ok (.aload_n 0, 1) := by decide +kernel
theorem dX2_sign_13 : decode cX2_sign 13 = .ok (.getfield 9, 3) := by decide +kernel
theorem dX2_sign_16 : decode cX2_sign 16 = .ok (.iload_n 1, 1) := by decide +kernel
theorem dX2_sign_17 : decode cX2_sign 17 = .ok (.iaload, 1) := by decide +kernel
theorem dX2_sign_18 : decode cX2_sign 18 = .ok (.goto 4, 3) := by decide +kernel
theorem dX2_sign_21 : decode cX2_sign 21 = .ok (.iconst 0, 1) := by decide +kernel
theorem dX2_sign_22 : decode cX2_sign 22 = .ok (.ireturn, 1) := by decide +kernel
theorem dX2_flaw_0 : decode cX2_flaw 0 = .ok (.iconst 0, 1) := by decide +kernel
theorem dX2_flaw_1 : decode cX2_flaw 1 = .ok (.istore_n 2, 1) := by decide +kernel
theorem dX2_flaw_2 : decode cX2_flaw 2 = .ok (.iconst 0, 1) := by decide +kernel
theorem dX2_flaw_3 : decode cX2_flaw 3 = .ok (.istore_n 3, 1) := by decide +kernel
theorem dX2_flaw_4 : decode cX2_flaw 4 = .ok (.iload_n 3, 1) := by decide +kernel
theorem dX2_flaw_5 : decode cX2_flaw 5 = .ok (.aload_n 0, 1) := by decide +kernel
theorem dX2_flaw_6 : decode cX2_flaw 6 = .ok (.getfield 15, 3) := by decide +kernel
theorem dX2_flaw_9 : decode cX2_flaw 9 = .ok (.if_icmp .ge 24, 3) := by decide +kernel
theorem dX2_flaw_12 : decode cX2_flaw 12 = .ok (.aload_n 0, 1) := by decide +kernel
theorem dX2_flaw_13 : decode cX2_flaw 13 = .ok (.iload_n 2, 1) := by decide +kernel
theorem dX2_flaw_14 : decode cX2_flaw 14 = .ok (.iload_n 3, 1) := by decide +kernel
theorem dX2_flaw_15 : decode cX2_flaw 15 = .ok (.iload_n 1, 1) := by decide +kernel
theorem dX2_flaw_16 : decode cX2_flaw 16 = .ok (.invokevirtual 19, 3) := by decide +kernel
theorem dX2_flaw_19 : decode cX2_flaw 19 = .ok (.istore_n 2, 1) := by decide +kernel
theorem dX2_flaw_20 : decode cX2_flaw 20 = .ok (.iload_n 2, 1) := by decide +kernel
theorem dX2_flaw_21 : decode cX2_flaw 21 = .ok (.iconst 5, 1) := by decide +kernel
theorem dX2_flaw_22 : decode cX2_flaw 22 = .ok (.if_icmp .ne 5, 3) := by decide +kernel
theorem dX2_flaw_25 : decode cX2_flaw 25 = .ok (.iload_n 3, 1) := by decide +kernel
theorem dX2_flaw_26 : decode cX2_flaw 26 = .ok (.ireturn, 1) := by decide +kernel
theorem dX2_flaw_27 : decode cX2_flaw 27 = .ok (.iinc 3 1, 3) := by decide +kernel
theorem dX2_flaw_30 : decode cX2_flaw 30 = .ok (.goto (-26), 3) := by decide +kernel
theorem dX2_flaw_33 : decode cX2_flaw 33 = .ok (.iload_n 2, 1) := by decide +kernel
theorem dX2_flaw_34 : decode cX2_flaw 34 = .ok (.ifCond .ne 8, 3) := by decide +kernel
theorem dX2_flaw_37 : decode cX2_flaw 37 = .ok (.bipush (-6), 2) := by decide +kernel
theorem dX2_flaw_39 : decode cX2_flaw 39 = .ok (.goto 7, 3) := by decide +kernel
theorem dX2_flaw_42 : decode cX2_flaw 42 = .ok (.aload_n 0, 1) := by decide +kernel
theorem dX2_flaw_43 : decode cX2_flaw 43 = .ok (.getfield 15, 3) := by decide +kernel
theorem dX2_flaw_46 : decode cX2_flaw 46 = .ok (.ireturn, 1) := by decide +kernel
theorem dX2_follow_0 : decode cX2_follow 0 = .ok (.aload_n 0, 1) := by decide +kernel
theorem dX2_follow_1 : decode cX2_follow 1 = .ok (.getfield 9, 3) := by decide +kernel
theorem dX2_follow_4 : decode cX2_follow 4 = .ok (.iload_n 2, 1) := by decide +kernel
theorem dX2_follow_5 : decode cX2_follow 5 = .ok (.iaload, 1) := by decide +kernel
theorem dX2_follow_6 : decode cX2_follow 6 = .ok (.istore 4, 2) := by decide +kernel
theorem dX2_follow_8 : decode cX2_follow 8 = .ok (.iload_n 1, 1) := by decide +kernel
theorem dX2_follow_9 : decode cX2_follow 9 = .ok (.tableswitch 87 0 3 #[31, 38, 52, 72], 31) := by decide +kernel
theorem dX2_follow_40 : decode cX2_follow 40 = .ok (.iload 4, 2) := by decide +kernel
theorem dX2_follow_42 : decode cX2_follow 42 = .ok (.iload_n 3, 1) := by decide +kernel
theorem dX2_follow_43 : decode cX2_follow 43 = .ok (.invokestatic 23, 3) := by decide +kernel
theorem dX2_follow_46 : decode cX2_follow 46 = .ok (.ireturn, 1) := by decide +kernel
theorem dX2_follow_47 : decode cX2_follow 47 = .ok (.iload 4, 2) := by decide +kernel
theorem dX2_follow_49 : decode cX2_follow 49 = .ok (.aload_n 0, 1) := by decide +kernel
theorem dX2_follow_50 : decode cX2_follow 50 = .ok (.iload_n 2, 1) := by decide +kernel
theorem dX2_follow_51 : decode cX2_follow 51 = .ok (.iconst 1, 1) := by decide +kernel
theorem dX2_follow_52 : decode cX2_follow 52 = .ok (.isub, 1) := by decide +kernel
theorem dX2_follow_53 : decode cX2_follow 53 = .ok (.invokevirtual 27, 3) := by decide +kernel
theorem dX2_follow_56 : decode cX2_follow 56 = .ok (.iload_n 3, 1) := by decide +kernel
theorem dX2_follow_57 : decode cX2_follow 57 = .ok (.invokestatic 31, 3) := by decide +kernel
theorem dX2_follow_60 : decode cX2_follow 60 = .ok (.ireturn, 1) := by decide +kernel
theorem dX2_follow_61 : decode cX2_follow 61 = .ok (.iload 4, 2) := by decide +kernel
theorem dX2_follow_63 : decode cX2_follow 63 = .ok (.bipush 49, 2) := by decide +kernel
theorem dX2_follow_65 : decode cX2_follow 65 = .ok (.if_icmp .lt 14, 3) := by decide +kernel
theorem dX2_follow_68 : decode cX2_follow 68 = .ok (.iload 4, 2) := by decide +kernel
theorem dX2_follow_70 : decode cX2_follow 70 = .ok (.bipush 57, 2) := by decide +kernel
theorem dX2_follow_72 : decode cX2_follow 72 = .ok (.if_icmp .gt 7, 3) := by decide +kernel
theorem dX2_follow_75 : decode cX2_follow 75 = .ok (.iconst 0, 1) := by decide +kernel
theorem dX2_follow_76 : decode cX2_follow 76 = .ok (.goto 4, 3) := by decide +kernel
theorem dX2_follow_79 : decode cX2_follow 79 = .ok (.iconst 5, 1) := by decide +kernel
theorem dX2_follow_80 : decode cX2_follow 80 = .ok (.ireturn, 1) := by decide +kernel
theorem dX2_follow_81 : decode cX2_follow 81 = .ok (.iload 4, 2) := by decide +kernel
theorem dX2_follow_83 : decode cX2_follow 83 = .ok (.iload_n 3, 1) := by decide +kernel
theorem dX2_follow_84 : decode cX2_follow 84 = .ok (.invokestatic 34, 3) := by decide +kernel
theorem dX2_follow_87 : decode cX2_follow 87 = .ok (.ifCond .eq 7, 3) := by decide +kernel
theorem dX2_follow_90 : decode cX2_follow 90 = .ok (.iconst 4, 1) := by decide +kernel
theorem dX2_follow_91 : decode cX2_follow 91 = .ok (.goto 4, 3) := by decide +kernel
theorem dX2_follow_94 : decode cX2_follow 94 = .ok (.iconst 5, 1) := by decide +kernel
theorem dX2_follow_95 : decode cX2_follow 95 = .ok (.ireturn, 1) := by decide +kernel
theorem dX2_follow_96 : decode cX2_follow 96 = .ok (.iload 4, 2) := by decide +kernel
theorem dX2_follow_98 : decode cX2_follow 98 = .ok (.bipush 48, 2) := by decide +kernel
theorem dX2_follow_100 : decode cX2_follow 100 = .ok (.if_icmp .lt 14, 3) := by decide +kernel
theorem dX2_follow_103 : decode cX2_follow 103 = .ok (.iload 4, 2) := by decide +kernel
theorem dX2_follow_105 : decode cX2_follow 105 = .ok (.bipush 51, 2) := by decide +kernel
theorem dX2_follow_107 : decode cX2_follow 107 = .ok (.if_icmp .gt 7, 3) := by decide +kernel
theorem dX2_follow_110 : decode cX2_follow 110 = .ok (.iconst 0, 1) := by decide +kernel
theorem dX2_follow_111 : decode cX2_follow 111 = .ok (.goto 4, 3) := by decide +kernel
theorem dX2_follow_114 : decode cX2_follow 114 = .ok (.iconst 5, 1) := by decide +kernel
theorem dX2_follow_115 : decode cX2_follow 115 = .ok (.ireturn, 1) := by decide +kernel
theorem dX2_followStart_0 : decode cX2_followStart 0 = .ok (.iload_n 0, 1) := by decide +kernel
theorem dX2_followStart_1 : decode cX2_followStart 1 = .ok (.bipush 46, 2) := by decide +kernel
theorem dX2_followStart_3 : decode cX2_followStart 3 = .ok (.if_icmp .ne 5, 3) := by decide +kernel
theorem dX2_followStart_6 : decode cX2_followStart 6 = .ok (.iconst 0, 1) := by decide +kernel
theorem dX2_followStart_7 : decode cX2_followStart 7 = .ok (.ireturn, 1) := by decide +kernel
theorem dX2_followStart_8 : decode cX2_followStart 8 = .ok (.iload_n 0, 1) := by decide +kernel
theorem dX2_followStart_9 : decode cX2_followStart 9 = .ok (.invokestatic 38, 3) := by decide +kernel
theorem dX2_followStart_12 : decode cX2_followStart 12 = .ok (.ifCond .eq 5, 3) := by decide +kernel
theorem dX2_followStart_15 : decode cX2_followStart 15 = .ok (.iconst 1, 1) := by decide +kernel
theorem dX2_followStart_16 : decode cX2_followStart 16 = .ok (.ireturn, 1) := by decide +kernel
theorem dX2_followStart_17 : decode cX2_followStart 17 = .ok (.iload_n 0, 1) := by decide +kernel
theorem dX2_followStart_18 : decode cX2_followStart 18 = .ok (.iload_n 1, 1) := by decide +kernel
theorem dX2_followStart_19 : decode cX2_followStart 19 = .ok (.invokestatic 34, 3) := by decide +kernel
theorem dX2_followStart_22 : decode cX2_followStart 22 = .ok (.ifCond .eq 7, 3) := by decide +kernel
theorem dX2_followStart_25 : decode cX2_followStart 25 = .ok (.iconst 3, 1) := by decide +kernel
theorem dX2_followStart_26 : decode cX2_followStart 26 = .ok (.goto 4, 3) := by decide +kernel
theorem dX2_followStart_29 : decode cX2_followStart 29 = .ok (.iconst 5, 1) := by decide +kernel
theorem dX2_followStart_30 : decode cX2_followStart 30 = .ok (.ireturn, 1) := by decide +kernel
theorem dX2_followGuest_0 : decode cX2_followGuest 0 = .ok (.iload_n 0, 1) := by decide +kernel
theorem dX2_followGuest_1 : decode cX2_followGuest 1 = .ok (.invokestatic 38, 3) := by decide +kernel
theorem dX2_followGuest_4 : decode cX2_followGuest 4 = .ok (.ifCond .eq 14, 3) := by decide +kernel
theorem dX2_followGuest_7 : decode cX2_followGuest 7 = .ok (.iload_n 0, 1) := by decide +kernel
theorem dX2_followGuest_8 : decode cX2_followGuest 8 = .ok (.iload_n 1, 1) := by decide +kernel
theorem dX2_followGuest_9 : decode cX2_followGuest 9 = .ok (.if_icmp .le 7, 3) := by decide +kernel
theorem dX2_followGuest_12 : decode cX2_followGuest 12 = .ok (.iconst 2, 1) := by decide +kernel
theorem dX2_followGuest_13 : decode cX2_followGuest 13 = .ok (.goto 4, 3) := by decide +kernel
theorem dX2_followGuest_16 : decode cX2_followGuest 16 = .ok (.iconst 5, 1) := by decide +kernel
theorem dX2_followGuest_17 : decode cX2_followGuest 17 = .ok (.ireturn, 1) := by decide +kernel
theorem dX2_followGuest_18 : decode cX2_followGuest 18 = .ok (.iload_n 0, 1) := by decide +kernel
theorem dX2_followGuest_19 : decode cX2_followGuest 19 = .ok (.bipush 95, 2) := by decide +kernel
theorem dX2_followGuest_21 : decode cX2_followGuest 21 = .ok (.if_icmp .eq 17, 3) := by decide +kernel
theorem dX2_followGuest_24 : decode cX2_followGuest 24 = .ok (.iload_n 0, 1) := by decide +kernel
theorem dX2_followGuest_25 : decode cX2_followGuest 25 = .ok (.bipush 94, 2) := by decide +kernel
theorem dX2_followGuest_27 : decode cX2_followGuest 27 = .ok (.if_icmp .eq 11, 3) := by decide +kernel
theorem dX2_followGuest_30 : decode cX2_followGuest 30 = .ok (.iload_n 0, 1) := by decide +kernel
theorem dX2_followGuest_31 : decode cX2_followGuest 31 = .ok (.iload_n 2, 1) := by decide +kernel
theorem dX2_followGuest_32 : decode cX2_followGuest 32 = .ok (.invokestatic 34, 3) := by decide +kernel
theorem dX2_followGuest_35 : decode cX2_followGuest 35 = .ok (.ifCond .eq 7, 3) := by decide +kernel
theorem dX2_followGuest_38 : decode cX2_followGuest 38 = .ok (.iconst 0, 1) := by decide +kernel
theorem dX2_followGuest_39 : decode cX2_followGuest 39 = .ok (.goto 4, 3) := by decide +kernel
theorem dX2_followGuest_42 : decode cX2_followGuest 42 = .ok (.iconst 5, 1) := by decide +kernel
theorem dX2_followGuest_43 : decode cX2_followGuest 43 = .ok (.ireturn, 1) := by decide +kernel
theorem dX2_isGuestLetter_0 : decode cX2_isGuestLetter 0 = .ok (.iload_n 0, 1) := by decide +kernel
theorem dX2_isGuestLetter_1 : decode cX2_isGuestLetter 1 = .ok (.bipush 65, 2) := by decide +kernel
theorem dX2_isGuestLetter_3 : decode cX2_isGuestLetter 3 = .ok (.if_icmp .lt 13, 3) := by decide +kernel
theorem dX2_isGuestLetter_6 : decode cX2_isGuestLetter 6 = .ok (.iload_n 0, 1) := by decide +kernel
theorem dX2_isGuestLetter_7 : decode cX2_isGuestLetter 7 = .ok (.bipush 72, 2) := by decide +kernel
theorem dX2_isGuestLetter_9 : decode cX2_isGuestLetter 9 = .ok (.if_icmp .gt 7, 3) := by decide +kernel
theorem dX2_isGuestLetter_12 : decode cX2_isGuestLetter 12 = .ok (.iconst 1, 1) := by decide +kernel
theorem dX2_isGuestLetter_13 : decode cX2_isGuestLetter 13 = .ok (.goto 4, 3) := by decide +kernel
theorem dX2_isGuestLetter_16 : decode cX2_isGuestLetter 16 = .ok (.iconst 0, 1) := by decide +kernel
theorem dX2_isGuestLetter_17 : decode cX2_isGuestLetter 17 = .ok (.ireturn, 1) := by decide +kernel
theorem dX2_isRoomLetter_0 : decode cX2_isRoomLetter 0 = .ok (.iload_n 0, 1) := by decide +kernel
theorem dX2_isRoomLetter_1 : decode cX2_isRoomLetter 1 = .ok (.bipush 97, 2) := by decide +kernel
theorem dX2_isRoomLetter_3 : decode cX2_isRoomLetter 3 = .ok (.if_icmp .lt 15, 3) := by decide +kernel
theorem dX2_isRoomLetter_6 : decode cX2_isRoomLetter 6 = .ok (.iload_n 0, 1) := by decide +kernel
theorem dX2_isRoomLetter_7 : decode cX2_isRoomLetter 7 = .ok (.bipush 97, 2) := by decide +kernel
theorem dX2_isRoomLetter_9 : decode cX2_isRoomLetter 9 = .ok (.iload_n 1, 1) := by decide +kernel
theorem dX2_isRoomLetter_10 : decode cX2_isRoomLetter 10 = .ok (.iadd, 1) := by decide +kernel
theorem dX2_isRoomLetter_11 : decode cX2_isRoomLetter 11 = .ok (.if_icmp .ge 7, 3) := by decide +kernel
theorem dX2_isRoomLetter_14 : decode cX2_isRoomLetter 14 = .ok (.iconst 1, 1) := by decide +kernel
theorem dX2_isRoomLetter_15 : decode cX2_isRoomLetter 15 = .ok (.goto 4, 3) := by decide +kernel
theorem dX2_isRoomLetter_18 : decode cX2_isRoomLetter 18 = .ok (.iconst 0, 1) := by decide +kernel
theorem dX2_isRoomLetter_19 : decode cX2_isRoomLetter 19 = .ok (.ireturn, 1) := by decide +kernel
end
section
theorem dX3_init_0 : decode cX3_init 0 = .ok (.aload_n 0, 1) := by decide +kernel
theorem dX3_init_1 : decode cX3_init 1 = .ok (.invokespecial 3, 3) := by decide +kernel
theorem dX3_init_4 : decode cX3_init 4 = .ok (.return_, 1) := by decide +kernel
theorem dX3_perform_0 : decode cX3_perform 0 = .ok (.aload_n 3, 1) := by decide +kernel
theorem dX3_perform_1 : decode cX3_perform 1 = .ok (.aload_n 2, 1) := by decide +kernel
theorem dX3_perform_2 : decode cX3_perform 2 = .ok (.invokevirtual 9, 3) := by decide +kernel
theorem dX3_perform_5 : decode cX3_perform 5 = .ok (.aload_n 0, 1) := by decide +kernel
theorem dX3_perform_6 : decode cX3_perform 6 = .ok (.iconst 0, 1) := by decide +kernel
theorem dX3_perform_7 : decode cX3_perform 7 = .ok (.putfield 15, 3) := by decide +kernel
theorem dX3_perform_10 : decode cX3_perform 10 = .ok (.aload_n 0, 1) := by decide +kernel
theorem dX3_perform_11 : decode cX3_perform 11 = .ok (.iconst 0, 1) := by decide +kernel
theorem dX3_perform_12 : decode cX3_perform 12 = .ok (.putfield 21, 3) := by decide +kernel
theorem dX3_perform_15 : decode cX3_perform 15 = .ok (.iconst 0, 1) := by decide +kernel
theorem dX3_perform_16 : decode cX3_perform 16 = .ok (.istore 4, 2) := by decide +kernel
theorem dX3_perform_18 : decode cX3_perform 18 = .ok (.iconst 0, 1) := by decide +kernel
theorem dX3_perform_19 : decode cX3_perform 19 = .ok (.istore 5, 2) := by decide +kernel
theorem dX3_perform_21 : decode cX3_perform 21 = .ok (.iload 5, 2) := by decide +kernel
theorem dX3_perform_23 : decode cX3_perform 23 = .ok (.bipush 60, 2) := by decide +kernel
theorem dX3_perform_25 : decode cX3_perform 25 = .ok (.if_icmp .ge 85, 3) := by decide +kernel
theorem dX3_perform_28 : decode cX3_perform 28 = .ok (.iload 4, 2) := by decide +kernel
theorem dX3_perform_30 : decode cX3_perform 30 = .ok (.aload_n 1, 1) := by decide +kernel
theorem dX3_perform_31 : decode cX3_perform 31 = .ok (.getfield 24, 3) := by decide +kernel
theorem dX3_perform_34 : decode cX3_perform 34 = .ok (.if_icmp .ge 76, 3) := by decide +kernel
theorem dX3_perform_37 : decode cX3_perform 37 = .ok (.aload_n 1, 1) := by decide +kernel
theorem dX3_perform_38 : decode cX3_perform 38 = .ok (.iload 4, 2) := by decide +kernel
theorem dX3_perform_40 : decode cX3_perform 40 = .ok (.invokestatic 29, 3) := by decide +kernel
theorem dX3_perform_43 : decode cX3_perform 43 = .ok (.istore 6, 2) := by decide +kernel
theorem dX3_perform_45 : decode cX3_perform 45 = .ok (.iload 6, 2) := by decide +kernel
theorem dX3_perform_47 : decode cX3_perform 47 = .ok (.iconst 1, 1) := by decide +kernel
theorem dX3_perform_48 : decode cX3_perform 48 = .ok (.if_icmp .ne 15, 3) := by decide +kernel
theorem dX3_perform_51 : decode cX3_perform 51 = .ok (.aload_n 3, 1) := by decide +kernel
theorem dX3_perform_52 : decode cX3_perform 52 = .ok (.invokevirtual 33, 3) := by decide +kernel
theorem dX3_perform_55 : decode cX3_perform 55 = .ok (.aload_n 3, 1) := by decide +kernel
theorem dX3_perform_56 : decode cX3_perform 56 = .ok (.invokevirtual 36, 3) := by decide +kernel
theorem dX3_perform_59 : decode cX3_perform 59 = .ok (.pop, 1) := by decide +kernel
theorem dX3_perform_60 : decode cX3_perform 60 = .ok (.goto 19, 3) := by decide +kernel
theorem dX3_perform_63 : decode cX3_perform 63 = .ok (.aload_n 0, 1) := by decide +kernel
theorem dX3_perform_64 : decode cX3_perform 64 = .ok (.aload_n 1, 1) := by decide +kernel
theorem dX3_perform_65 : decode cX3_perform 65 = .ok (.iload 4, 2) := by decide +kernel
theorem dX3_perform_67 : decode cX3_perform 67 = .ok (.iload 6, 2) := by decide +kernel
theorem dX3_perform_69 : decode cX3_perform 69 = .ok (.aload_n 3, 1) := by decide +kernel
theorem dX3_perform_70 : decode cX3_perform 70 = .ok (.getfield 40, 3) := by decide +kernel
theorem dX3_perform_73 : decode cX3_perform 73 = .ok (.invokestatic 44, 3) := by decide +kernel
theorem dX3_perform_76 : decode cX3_perform 76 = .ok (.putfield 21, 3) := by decide +kernel
theorem dX3_perform_79 : decode cX3_perform 79 = .ok (.aload_n 0, 1) := by decide +kernel
theorem dX3_perform_80 : decode cX3_perform 80 = .ok (.getfield 21, 3) := by decide +kernel
theorem dX3_perform_83 : decode cX3_perform 83 = .ok (.ifCond .eq 4, 3) := by decide +kernel
theorem dX3_perform_86 : decode cX3_perform 86 = .ok (.return_, 1) := by decide +kernel
theorem dX3_perform_87 : decode cX3_perform 87 = .ok (.aload_n 0, 1) := by decide +kernel
theorem dX3_perform_88 : decode cX3_perform 88 = .ok (.dup, 1) := by decide +kernel
theorem dX3_perform_89 : decode cX3_perform 89 = .ok (.getfield 15, 3) := by decide +kernel
theorem dX3_perform_92 : decode cX3_perform 92 = .ok (.iconst 1, 1) := by decide +kernel
theorem dX3_perform_93 : decode cX3_perform 93 = .ok (.iadd, 1) := by decide +kernel
theorem dX3_perform_94 : decode cX3_perform 94 = .ok (.putfield 15, 3) := by decide +kernel
theorem dX3_perform_97 : decode cX3_perform 97 = .ok (.iload 4, 2) := by decide +kernel
theorem dX3_perform_99 : decode cX3_perform 99 = .ok (.iload 6, 2) := by decide +kernel
theorem dX3_perform_101 : decode cX3_perform 101 = .ok (.iadd, 1) := by decide +kernel
theorem dX3_perform_102 : decode cX3_perform 102 = .ok (.istore 4, 2) := by decide +kernel
theorem dX3_perform_104 : decode cX3_perform 104 = .ok (.iinc 5 1, 3) := by decide +kernel
theorem dX3_perform_107 : decode cX3_perform 107 = .ok (.goto (-86), 3) := by decide +kernel
theorem dX3_perform_110 : decode cX3_perform 110 = .ok (.return_, 1) := by decide +kernel
theorem dX3_spanOf_0 : decode cX3_spanOf 0 = .ok (.aload_n 0, 1) := by decide +kernel
theorem dX3_spanOf_1 : decode cX3_spanOf 1 = .ok (.iload_n 1, 1) := by decide +kernel
theorem dX3_spanOf_2 : decode cX3_spanOf 2 = .ok (.invokevirtual 48, 3) := by decide +kernel
theorem dX3_spanOf_5 : decode cX3_spanOf 5 = .ok (.bipush 46, 2) := by decide +kernel
theorem dX3_spanOf_7 : decode cX3_spanOf 7 = .ok (.if_icmp .ne 5, 3) := by decide +kernel
theorem dX3_spanOf_10 : decode cX3_spanOf 10 = .ok (.iconst 1, 1) := by decide +kernel
theorem dX3_spanOf_11 : decode cX3_spanOf 11 = .ok (.ireturn, 1) := by decide +kernel
theorem dX3_spanOf_12 : decode cX3_spanOf 12 = .ok (.aload_n 0, 1) := by decide +kernel
theorem dX3_spanOf_13 : decode cX3_spanOf 13 = .ok (.iload_n 1, 1) := by decide +kernel
theorem dX3_spanOf_14 : decode cX3_spanOf 14 = .ok (.invokevirtual 48, 3) := by decide +kernel
theorem dX3_spanOf_17 : decode cX3_spanOf 17 = .ok (.invokestatic 52, 3) := by decide +kernel
theorem dX3_spanOf_20 : decode cX3_spanOf 20 = .ok (.ifCond .eq 20, 3) := by decide +kernel
theorem dX3_spanOf_23 : decode cX3_spanOf 23 = .ok (.aload_n 0, 1) := by decide +kernel
theorem dX3_spanOf_24 : decode cX3_spanOf 24 = .ok (.iload_n 1, 1) := by decide +kernel
theorem dX3_spanOf_25 : decode cX3_spanOf 25 = .ok (.iconst 1, 1) := by decide +kernel
theorem dX3_spanOf_26 : decode cX3_spanOf 26 = .ok (.iadd, 1) := by decide +kernel
theorem dX3_spanOf_27 : decode cX3_spanOf 27 = .ok (.invokevirtual 48, 3) := by decide +kernel
theorem dX3_spanOf_30 : decode cX3_spanOf 30 = .ok (.invokestatic 52, 3) := by decide +kernel
theorem dX3_spanOf_33 : decode cX3_spanOf 33 = .ok (.ifCond .ne 7, 3) := by decide +kernel
theorem dX3_spanOf_36 : decode cX3_spanOf 36 = .ok (.iconst 1, 1) := by decide +kernel
theorem dX3_spanOf_37 : decode cX3_spanOf 37 = .ok (.goto 4, 3) := by decide +kernel
theorem dX3_spanOf_40 : decode cX3_spanOf 40 = .ok (.iconst 0, 1) := by decide +kernel
theorem dX3_spanOf_41 : decode cX3_spanOf 41 = .ok (.istore_n 2, 1) := by decide +kernel
theorem dX3_spanOf_42 : decode cX3_spanOf 42 = .ok (.iload_n 2, 1) := by decide +kernel
theorem dX3_spanOf_43 : decode cX3_spanOf 43 = .ok (.ifCond .eq 7, 3) := by decide +kernel
theorem dX3_spanOf_46 : decode cX3_spanOf 46 = .ok (.iconst 2, 1) := by decide +kernel
theorem dX3_spanOf_47 : decode cX3_spanOf 47 = .ok (.goto 4, 3) := by decide +kernel
theorem dX3_spanOf_50 : decode cX3_spanOf 50 = .ok (.iconst 3, 1) := by decide +kernel
theorem dX3_spanOf_51 : decode cX3_spanOf 51 = .ok (.ireturn, 1) := by decide +kernel
theorem dX3_attempt_0 : decode cX3_attempt 0 = .ok (.aload_n 0, 1) := by decide +kernel
theorem dX3_attempt_1 : decode cX3_attempt 1 = .ok (.iload_n 1, 1) := by decide +kernel
theorem dX3_attempt_2 : decode cX3_attempt 2 = .ok (.invokevirtual 48, 3) := by decide +kernel
theorem dX3_attempt_5 : decode cX3_attempt 5 = .ok (.istore 4, 2) := by decide +kernel
theorem dX3_attempt_7 : decode cX3_attempt 7 = .ok (.aload_n 0, 1) := by decide +kernel
theorem dX3_attempt_8 : decode cX3_attempt 8 = .ok (.iload_n 1, 1) := by decide +kernel
theorem dX3_attempt_9 : decode cX3_attempt 9 = .ok (.iconst 1, 1) := by decide +kernel
theorem dX3_attempt_10 : decode cX3_attempt 10 = .ok (.iadd, 1) := by decide +kernel
theorem dX3_attempt_11 : decode cX3_attempt 11 = .ok (.invokevirtual 48, 3) := by decide +kernel
theorem dX3_attempt_14 : decode cX3_attempt 14 = .ok (.istore 5, 2) := by decide +kernel
theorem dX3_attempt_16 : decode cX3_attempt 16 = .ok (.iload_n 2, 1) := by decide +kernel
theorem dX3_attempt_17 : decode cX3_attempt 17 = .ok (.iconst 2, 1) := by decide +kernel
theorem dX3_attempt_18 : decode cX3_attempt 18 = .ok (.if_icmp .ne 15, 3) := by decide +kernel
theorem dX3_attempt_21 : decode cX3_attempt 21 = .ok (.aload_n 3, 1) := by decide +kernel
theorem dX3_attempt_22 : decode cX3_attempt 22 = .ok (.iload 4, 2) := by decide +kernel
theorem dX3_attempt_24 : decode cX3_attempt 24 = .ok (.bipush 65, 2) := by decide +kernel
theorem dX3_attempt_26 : decode cX3_attempt 26 = .ok (.isub, 1) := by decide +kernel
theorem dX3_attempt_27 : decode cX3_attempt 27 = .ok (.iload 5, 2) := by decide +kernel
theorem dX3_attempt_29 : decode cX3_attempt 29 = .ok (.invokestatic 56, 3) := by decide +kernel
theorem dX3_attempt_32 : decode cX3_attempt 32 = .ok (.ireturn, 1) := by decide +kernel
theorem dX3_attempt_33 : decode cX3_attempt 33 = .ok (.aload_n 0, 1) := by decide +kernel
theorem dX3_attempt_34 : decode cX3_attempt 34 = .ok (.iload_n 1, 1) := by decide +kernel
theorem dX3_attempt_35 : decode cX3_attempt 35 = .ok (.iconst 2, 1) := by decide +kernel
theorem dX3_attempt_36 : decode cX3_attempt 36 = .ok (.iadd, 1) := by decide +kernel
theorem dX3_attempt_37 : decode cX3_attempt 37 = .ok (.invokevirtual 48, 3) := by decide +kernel
theorem dX3_attempt_40 : decode cX3_attempt 40 = .ok (.bipush 48, 2) := by decide +kernel
theorem dX3_attempt_42 : decode cX3_attempt 42 = .ok (.isub, 1) := by decide +kernel
theorem dX3_attempt_43 : decode cX3_attempt 43 = .ok (.istore 6, 2) := by decide +kernel
theorem dX3_attempt_45 : decode cX3_attempt 45 = .ok (.iload 4, 2) := by decide +kernel
theorem dX3_attempt_47 : decode cX3_attempt 47 = .ok (.invokestatic 52, 3) := by decide +kernel
theorem dX3_attempt_50 : decode cX3_attempt 50 = .ok (.ifCond .eq 20, 3) := by decide +kernel
theorem dX3_attempt_53 : decode cX3_attempt 53 = .ok (.aload_n 3, 1) := by decide +kernel
theorem dX3_attempt_54 : decode cX3_attempt 54 = .ok (.iload 4, 2) := by decide +kernel
theorem dX3_attempt_56 : decode cX3_attempt 56 = .ok (.bipush 65, 2) := by decide +kernel
theorem dX3_attempt_58 : decode cX3_attempt 58 = .ok (.isub, 1) := by decide +kernel
theorem dX3_attempt_59 : decode cX3_attempt 59 = .ok (.iload 5, 2) := by decide +kernel
theorem dX3_attempt_61 : decode cX3_attempt 61 = .ok (.bipush 65, 2) := by decide +kernel
theorem dX3_attempt_63 : decode cX3_attempt 63 = .ok (.isub, 1) := by decide +kernel
theorem dX3_attempt_64 : decode cX3_attempt 64 = .ok (.iload 6, 2) := by decide +kernel
theorem dX3_attempt_66 : decode cX3_attempt 66 = .ok (.invokestatic 60, 3) := by decide +kernel
theorem dX3_attempt_69 : decode cX3_attempt 69 = .ok (.ireturn, 1) := by decide +kernel
theorem dX3_attempt_70 : decode cX3_attempt 70 = .ok (.aload_n 3, 1) := by decide +kernel
theorem dX3_attempt_71 : decode cX3_attempt 71 = .ok (.iload 4, 2) := by decide +kernel
theorem dX3_attempt_73 : decode cX3_attempt 73 = .ok (.bipush 97, 2) := by decide +kernel
theorem dX3_attempt_75 : decode cX3_attempt 75 = .ok (.isub, 1) := by decide +kernel
theorem dX3_attempt_76 : decode cX3_attempt 76 = .ok (.iload 5, 2) := by decide +kernel
theorem dX3_attempt_78 : decode cX3_attempt 78 = .ok (.bipush 97, 2) := by decide +kernel
theorem dX3_attempt_80 : decode cX3_attempt 80 = .ok (.isub, 1) := by decide +kernel
theorem dX3_attempt_81 : decode cX3_attempt 81 = .ok (.iload 6, 2) := by decide +kernel
theorem dX3_attempt_83 : decode cX3_attempt 83 = .ok (.invokestatic 64, 3) := by decide +kernel
theorem dX3_attempt_86 : decode cX3_attempt 86 = .ok (.ireturn, 1) := by decide +kernel
theorem dX3_chat_0 : decode cX3_chat 0 = .ok (.aload_n 0, 1) := by decide +kernel
theorem dX3_chat_1 : decode cX3_chat 1 = .ok (.iload_n 1, 1) := by decide +kernel
theorem dX3_chat_2 : decode cX3_chat 2 = .ok (.iload_n 2, 1) := by decide +kernel
theorem dX3_chat_3 : decode cX3_chat 3 = .ok (.invokevirtual 67, 3) := by decide +kernel
theorem dX3_chat_6 : decode cX3_chat 6 = .ok (.istore 4, 2) := by decide +kernel
theorem dX3_chat_8 : decode cX3_chat 8 = .ok (.iload 4, 2) := by decide +kernel
theorem dX3_chat_10 : decode cX3_chat 10 = .ok (.ifCond .ne 10, 3) := by decide +kernel
theorem dX3_chat_13 : decode cX3_chat 13 = .ok (.aload_n 0, 1) := by decide +kernel
theorem dX3_chat_14 : decode cX3_chat 14 = .ok (.iload_n 1, 1) := by decide +kernel
theorem dX3_chat_15 : decode cX3_chat 15 = .ok (.iload_n 2, 1) := by decide +kernel
theorem dX3_chat_16 : decode cX3_chat 16 = .ok (.iload_n 3, 1) := by decide +kernel
theorem dX3_chat_17 : decode cX3_chat 17 = .ok (.invokevirtual 73, 3) := by decide +kernel
theorem dX3_chat_20 : decode cX3_chat 20 = .ok (.iload 4, 2) := by decide +kernel
theorem dX3_chat_22 : decode cX3_chat 22 = .ok (.ireturn, 1) := by decide +kernel
theorem dX3_fetch_0 : decode cX3_fetch 0 = .ok (.aload_n 0, 1) := by decide +kernel
theorem dX3_fetch_1 : decode cX3_fetch 1 = .ok (.iload_n 1, 1) := by decide +kernel
theorem dX3_fetch_2 : decode cX3_fetch 2 = .ok (.iload_n 2, 1) := by decide +kernel
theorem dX3_fetch_3 : decode cX3_fetch 3 = .ok (.iload_n 3, 1) := by decide +kernel
theorem dX3_fetch_4 : decode cX3_fetch 4 = .ok (.invokevirtual 77, 3) := by decide +kernel
theorem dX3_fetch_7 : decode cX3_fetch 7 = .ok (.istore 4, 2) := by decide +kernel
theorem dX3_fetch_9 : decode cX3_fetch 9 = .ok (.iload 4, 2) := by decide +kernel
theorem dX3_fetch_11 : decode cX3_fetch 11 = .ok (.ifCond .ne 10, 3) := by decide +kernel
theorem dX3_fetch_14 : decode cX3_fetch 14 = .ok (.aload_n 0, 1) := by decide +kernel
theorem dX3_fetch_15 : decode cX3_fetch 15 = .ok (.iload_n 1, 1) := by decide +kernel
theorem dX3_fetch_16 : decode cX3_fetch 16 = .ok (.iload_n 2, 1) := by decide +kernel
theorem dX3_fetch_17 : decode cX3_fetch 17 = .ok (.iload_n 3, 1) := by decide +kernel
theorem dX3_fetch_18 : decode cX3_fetch 18 = .ok (.invokevirtual 81, 3) := by decide +kernel
theorem dX3_fetch_21 : decode cX3_fetch 21 = .ok (.iload 4, 2) := by decide +kernel
theorem dX3_fetch_23 : decode cX3_fetch 23 = .ok (.ireturn, 1) := by decide +kernel
theorem dX3_settle_0 : decode cX3_settle 0 = .ok (.iload_n 2, 1) := by decide +kernel
theorem dX3_settle_1 : decode cX3_settle 1 = .ok (.bipush 95, 2) := by decide +kernel
theorem dX3_settle_3 : decode cX3_settle 3 = .ok (.if_icmp .ne 21, 3) := by decide +kernel
theorem dX3_settle_6 : decode cX3_settle 6 = .ok (.aload_n 0, 1) := by decide +kernel
theorem dX3_settle_7 : decode cX3_settle 7 = .ok (.iload_n 1, 1) := by decide +kernel
theorem dX3_settle_8 : decode cX3_settle 8 = .ok (.invokevirtual 84, 3) := by decide +kernel
theorem dX3_settle_11 : decode cX3_settle 11 = .ok (.istore_n 3, 1) := by decide +kernel
theorem dX3_settle_12 : decode cX3_settle 12 = .ok (.iload_n 3, 1) := by decide +kernel
theorem dX3_settle_13 : decode cX3_settle 13 = .ok (.ifCond .ne 58, 3) := by decide +kernel
theorem dX3_settle_16 : decode cX3_settle 16 = .ok (.aload_n 0, 1) := by decide +kernel
theorem dX3_settle_17 : decode cX3_settle 17 = .ok (.iload_n 1, 1) := by decide +kernel
theorem dX3_settle_18 : decode cX3_settle 18 = .ok (.invokevirtual 87, 3) := by decide +kernel
theorem dX3_settle_21 : decode cX3_settle 21 = .ok (.goto 50, 3) := by decide +kernel
theorem dX3_settle_24 : decode cX3_settle 24 = .ok (.iload_n 2, 1) := by decide +kernel
theorem dX3_settle_25 : decode cX3_settle 25 = .ok (.bipush 94, 2) := by decide +kernel
theorem dX3_settle_27 : decode cX3_settle 27 = .ok (.if_icmp .ne 21, 3) := by decide +kernel
theorem dX3_settle_30 : decode cX3_settle 30 = .ok (.aload_n 0, 1) := by decide +kernel
theorem dX3_settle_31 : decode cX3_settle 31 = .ok (.iload_n 1, 1) := by decide +kernel
theorem dX3_settle_32 : decode cX3_settle 32 = .ok (.invokevirtual 91, 3) := by decide +kernel
theorem dX3_settle_35 : decode cX3_settle 35 = .ok (.istore_n 3, 1) := by decide +kernel
theorem dX3_settle_36 : decode cX3_settle 36 = .ok (.iload_n 3, 1) := by decide +kernel
theorem dX3_settle_37 : decode cX3_settle 37 = .ok (.ifCond .ne 34, 3) := by decide +kernel
theorem dX3_settle_40 : decode cX3_settle 40 = .ok (.aload_n 0, 1) := by decide +kernel
theorem dX3_settle_41 : decode cX3_settle 41 = .ok (.iload_n 1, 1) := by decide +kernel
theorem dX3_settle_42 : decode cX3_settle 42 = .ok (.invokevirtual 94, 3) := by decide +kernel
theorem dX3_settle_45 : decode cX3_settle 45 = .ok (.goto 26, 3) := by decide +kernel
theorem dX3_settle_48 : decode cX3_settle 48 = .ok (.aload_n 0, 1) := by decide +kernel
theorem dX3_settle_49 : decode cX3_settle 49 = .ok (.iload_n 1, 1) := by decide +kernel
theorem dX3_settle_50 : decode cX3_settle 50 = .ok (.iload_n 2, 1) := by decide +kernel
theorem dX3_settle_51 : decode cX3_settle 51 = .ok (.bipush 97, 2) := by decide +kernel
theorem dX3_settle_53 : decode cX3_settle 53 = .ok (.isub, 1) := by decide +kernel
theorem dX3_settle_54 : decode cX3_settle 54 = .ok (.invokevirtual 97, 3) := by decide +kernel
theorem dX3_settle_57 : decode cX3_settle 57 = .ok (.istore_n 3, 1) := by decide +kernel
theorem dX3_settle_58 : decode cX3_settle 58 = .ok (.iload_n 3, 1) := by decide +kernel
theorem dX3_settle_59 : decode cX3_settle 59 = .ok (.ifCond .ne 12, 3) := by decide +kernel
theorem dX3_settle_62 : decode cX3_settle 62 = .ok (.aload_n 0, 1) := by decide +kernel
theorem dX3_settle_63 : decode cX3_settle 63 = .ok (.iload_n 1, 1) := by decide +kernel
theorem dX3_settle_64 : decode cX3_settle 64 = .ok (.iload_n 2, 1) := by decide +kernel
theorem dX3_settle_65 : decode cX3_settle 65 = .ok (.bipush 97, 2) := by decide +kernel
theorem dX3_settle_67 : decode cX3_settle 67 = .ok (.isub, 1) := by decide +kernel
theorem dX3_settle_68 : decode cX3_settle 68 = .ok (.invokevirtual 100, 3) := by decide +kernel
theorem dX3_settle_71 : decode cX3_settle 71 = .ok (.iload_n 3, 1) := by decide +kernel
theorem dX3_settle_72 : decode cX3_settle 72 = .ok (.ireturn, 1) := by decide +kernel
end
section
theorem dX4_init_0 : decode cX4_init 0 = .ok (.aload_n 0, 1) := by decide +kernel
theorem dX4_init_1 : decode cX4_init 1 = .ok (.invokespecial 3, 3) := by decide +kernel
theorem dX4_init_4 : decode cX4_init 4 = .ok (.aload_n 0, 1) := by decide +kernel
theorem dX4_init_5 : decode cX4_init 5 = .ok (.bipush 6, 2) := by decide +kernel
theorem dX4_init_7 : decode cX4_init 7 = .ok (.newarray .int, 2) := by decide +kernel
theorem dX4_init_9 : decode cX4_init 9 = .ok (.putfield 9, 3) := by decide +kernel
theorem dX4_init_12 : decode cX4_init 12 = .ok (.aload_n 0, 1) := by decide +kernel
theorem dX4_init_13 : decode cX4_init 13 = .ok (.bipush 6, 2) := by decide +kernel
theorem dX4_init_15 : decode cX4_init 15 = .ok (.newarray .int, 2) := by decide +kernel
theorem dX4_init_17 : decode cX4_init 17 = .ok (.putfield 15, 3) := by decide +kernel
theorem dX4_init_20 : decode cX4_init 20 = .ok (.aload_n 0, 1) := by decide +kernel
theorem dX4_init_21 : decode cX4_init 21 = .ok (.bipush 36, 2) := by decide +kernel
theorem dX4_init_23 : decode cX4_init 23 = .ok (.newarray .int, 2) := by decide +kernel
theorem dX4_init_25 : decode cX4_init 25 = .ok (.putfield 18, 3) := by decide +kernel
theorem dX4_init_28 : decode cX4_init 28 = .ok (.aload_n 0, 1) := by decide +kernel
theorem dX4_init_29 : decode cX4_init 29 = .ok (.bipush 6, 2) := by decide +kernel
theorem dX4_init_31 : decode cX4_init 31 = .ok (.newarray .int, 2) := by decide +kernel
theorem dX4_init_33 : decode cX4_init 33 = .ok (.putfield 21, 3) := by decide +kernel
theorem dX4_init_36 : decode cX4_init 36 = .ok (.aload_n 0, 1) := by decide +kernel
theorem dX4_init_37 : decode cX4_init 37 = .ok (.bipush 6, 2) := by decide +kernel
theorem dX4_init_39 : decode cX4_init 39 = .ok (.newarray .int, 2) := by decide +kernel
theorem dX4_init_41 : decode cX4_init 41 = .ok (.putfield 24, 3) := by decide +kernel
theorem dX4_init_44 : decode cX4_init 44 = .ok (.aload_n 0, 1) := by decide +kernel
theorem dX4_init_45 : decode cX4_init 45 = .ok (.bipush 6, 2) := by decide +kernel
theorem dX4_init_47 : decode cX4_init 47 = .ok (.newarray .int, 2) := by decide +kernel
theorem dX4_init_49 : decode cX4_init 49 = .ok (.putfield 27, 3) := by decide +kernel
theorem dX4_init_52 : decode cX4_init 52 = .ok (.aload_n 0, 1) := by decide +kernel
theorem dX4_init_53 : decode cX4_init 53 = .ok (.bipush 6, 2) := by decide +kernel
theorem dX4_init_55 : decode cX4_init 55 = .ok (.newarray .int, 2) := by decide +kernel
theorem dX4_init_57 : decode cX4_init 57 = .ok (.putfield 30, 3) := by decide +kernel
theorem dX4_init_60 : decode cX4_init 60 = .ok (.return_, 1) := by decide +kernel
theorem dX4_find_0 : decode cX4_find 0 = .ok (.aload_n 0, 1) := by decide +kernel
theorem dX4_find_1 : decode cX4_find 1 = .ok (.iconst 0, 1) := by decide +kernel
theorem dX4_find_2 : decode cX4_find 2 = .ok (.putfield 33, 3) := by decide +kernel
theorem dX4_find_5 : decode cX4_find 5 = .ok (.aload_n 0, 1) := by decide +kernel
theorem dX4_find_6 : decode cX4_find 6 = .ok (.iconst 0, 1) := by decide +kernel
theorem dX4_find_7 : decode cX4_find 7 = .ok (.putfield 37, 3) := by decide +kernel
theorem dX4_find_10 : decode cX4_find 10 = .ok (.aload_n 0, 1) := by decide +kernel
theorem dX4_find_11 : decode cX4_find 11 = .ok (.iconst 0, 1) := by decide +kernel
theorem dX4_find_12 : decode cX4_find 12 = .ok (.putfield 40, 3) := by decide +kernel
theorem dX4_find_15 : decode cX4_find 15 = .ok (.aload_n 0, 1) := by decide +kernel
theorem dX4_find_16 : decode cX4_find 16 = .ok (.aload_n 1, 1) := by decide +kernel
theorem dX4_find_17 : decode cX4_find 17 = .ok (.getfield 43, 3) := by decide +kernel
theorem dX4_find_20 : decode cX4_find 20 = .ok (.putfield 48, 3) := by decide +kernel
theorem dX4_find_23 : decode cX4_find 23 = .ok (.iconst 0, 1) := by decide +kernel
theorem dX4_find_24 : decode cX4_find 24 = .ok (.istore_n 3, 1) := by decide +kernel
theorem dX4_find_25 : decode cX4_find 25 = .ok (.iload_n 3, 1) := by decide +kernel
theorem dX4_find_26 : decode cX4_find 26 = .ok (.bipush 8, 2) := by decide +kernel
theorem dX4_find_28 : decode cX4_find 28 = .ok (.if_icmp .ge 32, 3) := by decide +kernel
theorem dX4_find_31 : decode cX4_find 31 = .ok (.iload_n 2, 1) := by decide +kernel
theorem dX4_find_32 : decode cX4_find 32 = .ok (.iload_n 3, 1) := by decide +kernel
theorem dX4_find_33 : decode cX4_find 33 = .ok (.invokestatic 49, 3) := by decide +kernel
theorem dX4_find_36 : decode cX4_find 36 = .ok (.ifCond .eq 18, 3) := by decide +kernel
theorem dX4_find_39 : decode cX4_find 39 = .ok (.aload_n 0, 1) := by decide +kernel
theorem dX4_find_40 : decode cX4_find 40 = .ok (.getfield 40, 3) := by decide +kernel
theorem dX4_find_43 : decode cX4_find 43 = .ok (.bipush 6, 2) := by decide +kernel
theorem dX4_find_45 : decode cX4_find 45 = .ok (.if_icmp .ge 9, 3) := by decide +kernel
theorem dX4_find_48 : decode cX4_find 48 = .ok (.aload_n 0, 1) := by decide +kernel
theorem dX4_find_49 : decode cX4_find 49 = .ok (.aload_n 1, 1) := by decide +kernel
theorem dX4_find_50 : decode cX4_find 50 = .ok (.iload_n 3, 1) := by decide +kernel
theorem dX4_find_51 : decode cX4_find 51 = .ok (.invokevirtual 53, 3) := by decide +kernel
theorem dX4_find_54 : decode cX4_find 54 = .ok (.iinc 3 1, 3) := by decide +kernel
theorem dX4_find_57 : decode cX4_find 57 = .ok (.goto (-32), 3) := by decide +kernel
theorem dX4_find_60 : decode cX4_find 60 = .ok (.iconst 0, 1) := by decide +kernel
theorem dX4_find_61 : decode cX4_find 61 = .ok (.istore_n 3, 1) := by decide +kernel
theorem dX4_find_62 : decode cX4_find 62 = .ok (.iload_n 3, 1) := by decide +kernel
theorem dX4_find_63 : decode cX4_find 63 = .ok (.aload_n 0, 1) := by decide +kernel
theorem dX4_find_64 : decode cX4_find 64 = .ok (.getfield 48, 3) := by decide +kernel
theorem dX4_find_67 : decode cX4_find 67 = .ok (.if_icmp .ge 38, 3) := by decide +kernel
theorem dX4_find_70 : decode cX4_find 70 = .ok (.aload_n 0, 1) := by decide +kernel
theorem dX4_find_71 : decode cX4_find 71 = .ok (.getfield 24, 3) := by decide +kernel
theorem dX4_find_74 : decode cX4_find 74 = .ok (.iload_n 3, 1) := by decide +kernel
theorem dX4_find_75 : decode cX4_find 75 = .ok (.aload_n 1, 1) := by decide +kernel
theorem dX4_find_76 : decode cX4_find 76 = .ok (.iload_n 3, 1) := by decide +kernel
theorem dX4_find_77 : decode cX4_find 77 = .ok (.invokevirtual 57, 3) := by decide +kernel
theorem dX4_find_80 : decode cX4_find 80 = .ok (.iastore, 1) := by decide +kernel
theorem dX4_find_81 : decode cX4_find 81 = .ok (.aload_n 0, 1) := by decide +kernel
theorem dX4_find_82 : decode cX4_find 82 = .ok (.getfield 27, 3) := by decide +kernel
theorem dX4_find_85 : decode cX4_find 85 = .ok (.iload_n 3, 1) := by decide +kernel
theorem dX4_find_86 : decode cX4_find 86 = .ok (.aload_n 1, 1) := by decide +kernel
theorem dX4_find_87 : decode cX4_find 87 = .ok (.iload_n 3, 1) := by decide +kernel
theorem dX4_find_88 : decode cX4_find 88 = .ok (.invokevirtual 61, 3) := by decide +kernel
theorem dX4_find_91 : decode cX4_find 91 = .ok (.iload_n 2, 1) := by decide +kernel
theorem dX4_find_92 : decode cX4_find 92 = .ok (.iconst (-1), 1) := by decide +kernel
theorem dX4_find_93 : decode cX4_find 93 = .ok (.ixor, 1) := by decide +kernel
theorem dX4_find_94 : decode cX4_find 94 = .ok (.iand, 1) := by decide +kernel
theorem dX4_find_95 : decode cX4_find 95 = .ok (.invokestatic 64, 3) := by decide +kernel
theorem dX4_find_98 : decode cX4_find 98 = .ok (.iastore, 1) := by decide +kernel
theorem dX4_find_99 : decode cX4_find 99 = .ok (.iinc 3 1, 3) := by decide +kernel
theorem dX4_find_102 : decode cX4_find 102 = .ok (.goto (-40), 3) := by decide +kernel
theorem dX4_find_105 : decode cX4_find 105 = .ok (.aload_n 0, 1) := by decide +kernel
theorem dX4_find_106 : decode cX4_find 106 = .ok (.iconst 0, 1) := by decide +kernel
theorem dX4_find_107 : decode cX4_find 107 = .ok (.aload_n 0, 1) := by decide +kernel
theorem dX4_find_108 : decode cX4_find 108 = .ok (.getfield 40, 3) := by decide +kernel
theorem dX4_find_111 : decode cX4_find 111 = .ok (.invokevirtual 69, 3) := by decide +kernel
theorem dX4_find_114 : decode cX4_find 114 = .ok (.return_, 1) := by decide +kernel
theorem dX4_enlist_0 : decode cX4_enlist 0 = .ok (.aload_n 0, 1) := by decide +kernel
theorem dX4_enlist_1 : decode cX4_enlist 1 = .ok (.getfield 9, 3) := by decide +kernel
theorem dX4_enlist_4 : decode cX4_enlist 4 = .ok (.aload_n 0, 1) := by decide +kernel
theorem dX4_enlist_5 : decode cX4_enlist 5 = .ok (.getfield 40, 3) := by decide +kernel
theorem dX4_enlist_8 : decode cX4_enlist 8 = .ok (.iload_n 2, 1) := by decide +kernel
theorem dX4_enlist_9 : decode cX4_enlist 9 = .ok (.iastore, 1) := by decide +kernel
theorem dX4_enlist_10 : decode cX4_enlist 10 = .ok (.aload_n 0, 1) := by decide +kernel
theorem dX4_enlist_11 : decode cX4_enlist 11 = .ok (.getfield 15, 3) := by decide +kernel
theorem dX4_enlist_14 : decode cX4_enlist 14 = .ok (.aload_n 0, 1) := by decide +kernel
theorem dX4_enlist_15 : decode cX4_enlist 15 = .ok (.getfield 40, 3) := by decide +kernel
theorem dX4_enlist_18 : decode cX4_enlist 18 = .ok (.aload_n 1, 1) := by decide +kernel
theorem dX4_enlist_19 : decode cX4_enlist 19 = .ok (.getfield 73, 3) := by decide +kernel
theorem dX4_enlist_22 : decode cX4_enlist 22 = .ok (.iload_n 2, 1) := by decide +kernel
theorem dX4_enlist_23 : decode cX4_enlist 23 = .ok (.iconst 5, 1) := by decide +kernel
theorem dX4_enlist_24 : decode cX4_enlist 24 = .ok (.imul, 1) := by decide +kernel
theorem dX4_enlist_25 : decode cX4_enlist 25 = .ok (.iconst 4, 1) := by decide +kernel
theorem dX4_enlist_26 : decode cX4_enlist 26 = .ok (.iadd, 1) := by decide +kernel
theorem dX4_enlist_27 : decode cX4_enlist 27 = .ok (.iaload, 1) := by decide +kernel
theorem dX4_enlist_28 : decode cX4_enlist 28 = .ok (.iastore, 1) := by decide +kernel
theorem dX4_enlist_29 : decode cX4_enlist 29 = .ok (.iconst 0, 1) := by decide +kernel
theorem dX4_enlist_30 : decode cX4_enlist 30 = .ok (.istore_n 3, 1) := by decide +kernel
theorem dX4_enlist_31 : decode cX4_enlist 31 = .ok (.iload_n 3, 1) := by decide +kernel
theorem dX4_enlist_32 : decode cX4_enlist 32 = .ok (.aload_n 0, 1) := by decide +kernel
theorem dX4_enlist_33 : decode cX4_enlist 33 = .ok (.getfield 48, 3) := by decide +kernel
theorem dX4_enlist_36 : decode cX4_enlist 36 = .ok (.if_icmp .ge 29, 3) := by decide +kernel
theorem dX4_enlist_39 : decode cX4_enlist 39 = .ok (.aload_n 0, 1) := by decide +kernel
theorem dX4_enlist_40 : decode cX4_enlist 40 = .ok (.getfield 18, 3) := by decide +kernel
theorem dX4_enlist_43 : decode cX4_enlist 43 = .ok (.aload_n 0, 1) := by decide +kernel
theorem dX4_enlist_44 : decode cX4_enlist 44 = .ok (.getfield 40, 3) := by decide +kernel
theorem dX4_enlist_47 : decode cX4_enlist 47 = .ok (.bipush 6, 2) := by decide +kernel
theorem dX4_enlist_49 : decode cX4_enlist 49 = .ok (.imul, 1) := by decide +kernel
theorem dX4_enlist_50 : decode cX4_enlist 50 = .ok (.iload_n 3, 1) := by decide +kernel
theorem dX4_enlist_51 : decode cX4_enlist 51 = .ok (.iadd, 1) := by decide +kernel
theorem dX4_enlist_52 : decode cX4_enlist 52 = .ok (.aload_n 1, 1) := by decide +kernel
theorem dX4_enlist_53 : decode cX4_enlist 53 = .ok (.iload_n 2, 1) := by decide +kernel
theorem dX4_enlist_54 : decode cX4_enlist 54 = .ok (.iload_n 3, 1) := by decide +kernel
theorem dX4_enlist_55 : decode cX4_enlist 55 = .ok (.invokevirtual 76, 3) := by decide +kernel
theorem dX4_enlist_58 : decode cX4_enlist 58 = .ok (.iastore, 1) := by decide +kernel
theorem dX4_enlist_59 : decode cX4_enlist 59 = .ok (.iinc 3 1, 3) := by decide +kernel
theorem dX4_enlist_62 : decode cX4_enlist 62 = .ok (.goto (-31), 3) := by decide +kernel
theorem dX4_enlist_65 : decode cX4_enlist 65 = .ok (.aload_n 0, 1) := by decide +kernel
theorem dX4_enlist_66 : decode cX4_enlist 66 = .ok (.dup, 1) := by decide +kernel
theorem dX4_enlist_67 : decode cX4_enlist 67 = .ok (.getfield 40, 3) := by decide +kernel
theorem dX4_enlist_70 : decode cX4_enlist 70 = .ok (.iconst 1, 1) := by decide +kernel
theorem dX4_enlist_71 : decode cX4_enlist 71 = .ok (.iadd, 1) := by decide +kernel
theorem dX4_enlist_72 : decode cX4_enlist 72 = .ok (.putfield 40, 3) := by decide +kernel
theorem dX4_enlist_75 : decode cX4_enlist 75 = .ok (.return_, 1) := by decide +kernel
theorem dX4_deal_0 : decode cX4_deal 0 = .ok (.iload_n 1, 1) := by decide +kernel
theorem dX4_deal_1 : decode cX4_deal 1 = .ok (.aload_n 0, 1) := by decide +kernel
theorem dX4_deal_2 : decode cX4_deal 2 = .ok (.getfield 48, 3) := by decide +kernel
theorem dX4_deal_5 : decode cX4_deal 5 = .ok (.if_icmp .lt 12, 3) := by decide +kernel
theorem dX4_deal_8 : decode cX4_deal 8 = .ok (.iload_n 2, 1) := by decide +kernel
theorem dX4_deal_9 : decode cX4_deal 9 = .ok (.ifCond .ne 7, 3) := by decide +kernel
theorem dX4_deal_12 : decode cX4_deal 12 = .ok (.aload_n 0, 1) := by decide +kernel
theorem dX4_deal_13 : decode cX4_deal 13 = .ok (.invokevirtual 80, 3) := by decide +kernel
theorem dX4_deal_16 : decode cX4_deal 16 = .ok (.return_, 1) := by decide +kernel
theorem dX4_deal_17 : decode cX4_deal 17 = .ok (.iload_n 2, 1) := by decide +kernel
theorem dX4_deal_18 : decode cX4_deal 18 = .ok (.aload_n 0, 1) := by decide +kernel
theorem dX4_deal_19 : decode cX4_deal 19 = .ok (.getfield 24, 3) := by decide +kernel
theorem dX4_deal_22 : decode cX4_deal 22 = .ok (.iload_n 1, 1) := by decide +kernel
theorem dX4_deal_23 : decode cX4_deal 23 = .ok (.iaload, 1) := by decide +kernel
theorem dX4_deal_24 : decode cX4_deal 24 = .ok (.aload_n 0, 1) := by decide +kernel
theorem dX4_deal_25 : decode cX4_deal 25 = .ok (.getfield 27, 3) := by decide +kernel
theorem dX4_deal_28 : decode cX4_deal 28 = .ok (.iload_n 1, 1) := by decide +kernel
theorem dX4_deal_29 : decode cX4_deal 29 = .ok (.iaload, 1) := by decide +kernel
theorem dX4_deal_30 : decode cX4_deal 30 = .ok (.isub, 1) := by decide +kernel
theorem dX4_deal_31 : decode cX4_deal 31 = .ok (.invokestatic 83, 3) := by decide +kernel
theorem dX4_deal_34 : decode cX4_deal 34 = .ok (.istore_n 3, 1) := by decide +kernel
theorem dX4_deal_35 : decode cX4_deal 35 = .ok (.iconst 0, 1) := by decide +kernel
theorem dX4_deal_36 : decode cX4_deal 36 = .ok (.istore 4, 2) := by decide +kernel
theorem dX4_deal_38 : decode cX4_deal 38 = .ok (.iload 4, 2) := by decide +kernel
theorem dX4_deal_40 : decode cX4_deal 40 = .ok (.iload_n 3, 1) := by decide +kernel
theorem dX4_deal_41 : decode cX4_deal 41 = .ok (.if_icmp .gt 28, 3) := by decide +kernel
theorem dX4_deal_44 : decode cX4_deal 44 = .ok (.aload_n 0, 1) := by decide +kernel
theorem dX4_deal_45 : decode cX4_deal 45 = .ok (.getfield 30, 3) := by decide +kernel
theorem dX4_deal_48 : decode cX4_deal 48 = .ok (.iload_n 1, 1) := by decide +kernel
theorem dX4_deal_49 : decode cX4_deal 49 = .ok (.iload 4, 2) := by decide +kernel
theorem dX4_deal_51 : decode cX4_deal 51 = .ok (.iastore, 1) := by decide +kernel
theorem dX4_deal_52 : decode cX4_deal 52 = .ok (.aload_n 0, 1) := by decide +kernel
theorem dX4_deal_53 : decode cX4_deal 53 = .ok (.iload_n 1, 1) := by decide +kernel
theorem dX4_deal_54 : decode cX4_deal 54 = .ok (.iconst 1, 1) := by decide +kernel
theorem dX4_deal_55 : decode cX4_deal 55 = .ok (.iadd, 1) := by decide +kernel
theorem dX4_deal_56 : decode cX4_deal 56 = .ok (.iload_n 2, 1) := by decide +kernel
theorem dX4_deal_57 : decode cX4_deal 57 = .ok (.iload 4, 2) := by decide +kernel
theorem dX4_deal_59 : decode cX4_deal 59 = .ok (.isub, 1) := by decide +kernel
theorem dX4_deal_60 : decode cX4_deal 60 = .ok (.invokevirtual 69, 3) := by decide +kernel
theorem dX4_deal_63 : decode cX4_deal 63 = .ok (.iinc 4 1, 3) := by decide +kernel
theorem dX4_deal_66 : decode cX4_deal 66 = .ok (.goto (-28), 3) := by decide +kernel
theorem dX4_deal_69 : decode cX4_deal 69 = .ok (.return_, 1) := by decide +kernel
theorem dX4_weigh_0 : decode cX4_weigh 0 = .ok (.iconst 0, 1) := by decide +kernel
theorem dX4_weigh_1 : decode cX4_weigh 1 = .ok (.istore_n 1, 1) := by decide +kernel
theorem dX4_weigh_2 : decode cX4_weigh 2 = .ok (.iload_n 1, 1) := by decide +kernel
theorem dX4_weigh_3 : decode cX4_weigh 3 = .ok (.aload_n 0, 1) := by decide +kernel
theorem dX4_weigh_4 : decode cX4_weigh 4 = .ok (.getfield 40, 3) := by decide +kernel
theorem dX4_weigh_7 : decode cX4_weigh 7 = .ok (.if_icmp .ge 30, 3) := by decide +kernel
theorem dX4_weigh_10 : decode cX4_weigh 10 = .ok (.aload_n 0, 1) := by decide +kernel
theorem dX4_weigh_11 : decode cX4_weigh 11 = .ok (.getfield 21, 3) := by decide +kernel
theorem dX4_weigh_14 : decode cX4_weigh 14 = .ok (.iload_n 1, 1) := by decide +kernel
theorem dX4_weigh_15 : decode cX4_weigh 15 = .ok (.aload_n 0, 1) := by decide +kernel
theorem dX4_weigh_16 : decode cX4_weigh 16 = .ok (.iload_n 1, 1) := by decide +kernel
theorem dX4_weigh_17 : decode cX4_weigh 17 = .ok (.invokevirtual 88, 3) := by decide +kernel
theorem dX4_weigh_20 : decode cX4_weigh 20 = .ok (.iastore, 1) := by decide +kernel
theorem dX4_weigh_21 : decode cX4_weigh 21 = .ok (.aload_n 0, 1) := by decide +kernel
theorem dX4_weigh_22 : decode cX4_weigh 22 = .ok (.getfield 21, 3) := by decide +kernel
theorem dX4_weigh_25 : decode cX4_weigh 25 = .ok (.iload_n 1, 1) := by decide +kernel
theorem dX4_weigh_26 : decode cX4_weigh 26 = .ok (.iaload, 1) := by decide +kernel
theorem dX4_weigh_27 : decode cX4_weigh 27 = .ok (.ifCond .ne 4, 3) := by decide +kernel
theorem dX4_weigh_30 : decode cX4_weigh 30 = .ok (.return_, 1) := by decide +kernel
theorem dX4_weigh_31 : decode cX4_weigh 31 = .ok (.iinc 1 1, 3) := by decide +kernel
theorem dX4_weigh_34 : decode cX4_weigh 34 = .ok (.goto (-32), 3) := by decide +kernel
theorem dX4_weigh_37 : decode cX4_weigh 37 = .ok (.aload_n 0, 1) := by decide +kernel
theorem dX4_weigh_38 : decode cX4_weigh 38 = .ok (.iconst 0, 1) := by decide +kernel
theorem dX4_weigh_39 : decode cX4_weigh 39 = .ok (.iconst 0, 1) := by decide +kernel
theorem dX4_weigh_40 : decode cX4_weigh 40 = .ok (.invokevirtual 91, 3) := by decide +kernel
theorem dX4_weigh_43 : decode cX4_weigh 43 = .ok (.return_, 1) := by decide +kernel
theorem dX4_contentRooms_0 : decode cX4_contentRooms 0 = .ok (.iconst 0, 1) := by decide +kernel
theorem dX4_contentRooms_1 : decode cX4_contentRooms 1 = .ok (.istore_n 2, 1) := by decide +kernel
theorem dX4_contentRooms_2 : decode cX4_contentRooms 2 = .ok (.iconst 0, 1) := by decide +kernel
theorem dX4_contentRooms_3 : decode cX4_contentRooms 3 = .ok (.istore_n 3, 1) := by decide +kernel
theorem dX4_contentRooms_4 : decode cX4_contentRooms 4 = .ok (.iload_n 3, 1) := by decide +kernel
theorem dX4_contentRooms_5 : decode cX4_contentRooms 5 = .ok (.aload_n 0, 1) := by decide +kernel
theorem dX4_contentRooms_6 : decode cX4_contentRooms 6 = .ok (.getfield 48, 3) := by decide +kernel
theorem dX4_contentRooms_9 : decode cX4_contentRooms 9 = .ok (.if_icmp .ge 33, 3) := by decide +kernel
theorem dX4_contentRooms_12 : decode cX4_contentRooms 12 = .ok (.aload_n 0, 1) := by decide +kernel
theorem dX4_contentRooms_13 : decode cX4_contentRooms 13 = .ok (.getfield 30, 3) := by decide +kernel
theorem dX4_contentRooms_16 : decode cX4_contentRooms 16 = .ok (.iload_n 3, 1) := by decide +kernel
theorem dX4_contentRooms_17 : decode cX4_contentRooms 17 = .ok (.iaload, 1) := by decide +kernel
theorem dX4_contentRooms_18 : decode cX4_contentRooms 18 = .ok (.ifCond .le 18, 3) := by decide +kernel
theorem dX4_contentRooms_21 : decode cX4_contentRooms 21 = .ok (.aload_n 0, 1) := by decide +kernel
theorem dX4_contentRooms_22 : decode cX4_contentRooms 22 = .ok (.iload_n 1, 1) := by decide +kernel
theorem dX4_contentRooms_23 : decode cX4_contentRooms 23 = .ok (.iload_n 3, 1) := by decide +kernel
theorem dX4_contentRooms_24 : decode cX4_contentRooms 24 = .ok (.invokevirtual 94, 3) := by decide +kernel
theorem dX4_contentRooms_27 : decode cX4_contentRooms 27 = .ok (.ifCond .eq 9, 3) := by decide +kernel
theorem dX4_contentRooms_30 : decode cX4_contentRooms 30 = .ok (.iload_n 2, 1) := by decide +kernel
theorem dX4_contentRooms_31 : decode cX4_contentRooms 31 = .ok (.iconst 1, 1) := by decide +kernel
theorem dX4_contentRooms_32 : decode cX4_contentRooms 32 = .ok (.iload_n 3, 1) := by decide +kernel
theorem dX4_contentRooms_33 : decode cX4_contentRooms 33 = .ok (.ishl, 1) := by decide +kernel
theorem dX4_contentRooms_34 : decode cX4_contentRooms 34 = .ok (.ior, 1) := by decide +kernel
theorem dX4_contentRooms_35 : decode cX4_contentRooms 35 = .ok (.istore_n 2, 1) := by decide +kernel
theorem dX4_contentRooms_36 : decode cX4_contentRooms 36 = .ok (.iinc 3 1, 3) := by decide +kernel
theorem dX4_contentRooms_39 : decode cX4_contentRooms 39 = .ok (.goto (-35), 3) := by decide +kernel
theorem dX4_contentRooms_42 : decode cX4_contentRooms 42 = .ok (.iload_n 2, 1) := by decide +kernel
theorem dX4_contentRooms_43 : decode cX4_contentRooms 43 = .ok (.ireturn, 1) := by decide +kernel
theorem dX4_isContent_0 : decode cX4_isContent 0 = .ok (.aload_n 0, 1) := by decide +kernel
theorem dX4_isContent_1 : decode cX4_isContent 1 = .ok (.getfield 18, 3) := by decide +kernel
theorem dX4_isContent_4 : decode cX4_isContent 4 = .ok (.iload_n 1, 1) := by decide +kernel
theorem dX4_isContent_5 : decode cX4_isContent 5 = .ok (.bipush 6, 2) := by decide +kernel
theorem dX4_isContent_7 : decode cX4_isContent 7 = .ok (.imul, 1) := by decide +kernel
theorem dX4_isContent_8 : decode cX4_isContent 8 = .ok (.iload_n 2, 1) := by decide +kernel
theorem dX4_isContent_9 : decode cX4_isContent 9 = .ok (.iadd, 1) := by decide +kernel
theorem dX4_isContent_10 : decode cX4_isContent 10 = .ok (.iaload, 1) := by decide +kernel
theorem dX4_isContent_11 : decode cX4_isContent 11 = .ok (.aload_n 0, 1) := by decide +kernel
theorem dX4_isContent_12 : decode cX4_isContent 12 = .ok (.getfield 15, 3) := by decide +kernel
theorem dX4_isContent_15 : decode cX4_isContent 15 = .ok (.iload_n 1, 1) := by decide +kernel
theorem dX4_isContent_16 : decode cX4_isContent 16 = .ok (.iaload, 1) := by decide +kernel
theorem dX4_isContent_17 : decode cX4_isContent 17 = .ok (.aload_n 0, 1) := by decide +kernel
theorem dX4_isContent_18 : decode cX4_isContent 18 = .ok (.getfield 27, 3) := by decide +kernel
theorem dX4_isContent_21 : decode cX4_isContent 21 = .ok (.iload_n 2, 1) := by decide +kernel
theorem dX4_isContent_22 : decode cX4_isContent 22 = .ok (.iaload, 1) := by decide +kernel
theorem dX4_isContent_23 : decode cX4_isContent 23 = .ok (.aload_n 0, 1) := by decide +kernel
theorem dX4_isContent_24 : decode cX4_isContent 24 = .ok (.getfield 30, 3) := by decide +kernel
theorem dX4_isContent_27 : decode cX4_isContent 27 = .ok (.iload_n 2, 1) := by decide +kernel
theorem dX4_isContent_28 : decode cX4_isContent 28 = .ok (.iaload, 1) := by decide +kernel
theorem dX4_isContent_29 : decode cX4_isContent 29 = .ok (.iadd, 1) := by decide +kernel
theorem dX4_isContent_30 : decode cX4_isContent 30 = .ok (.iconst 1, 1) := by decide +kernel
theorem dX4_isContent_31 : decode cX4_isContent 31 = .ok (.isub, 1) := by decide +kernel
theorem dX4_isContent_32 : decode cX4_isContent 32 = .ok (.imul, 1) := by decide +kernel
theorem dX4_isContent_33 : decode cX4_isContent 33 = .ok (.iadd, 1) := by decide +kernel
theorem dX4_isContent_34 : decode cX4_isContent 34 = .ok (.istore_n 3, 1) := by decide +kernel
theorem dX4_isContent_35 : decode cX4_isContent 35 = .ok (.iconst 0, 1) := by decide +kernel
theorem dX4_isContent_36 : decode cX4_isContent 36 = .ok (.istore 4, 2) := by decide +kernel
theorem dX4_isContent_38 : decode cX4_isContent 38 = .ok (.iload 4, 2) := by decide +kernel
theorem dX4_isContent_40 : decode cX4_isContent 40 = .ok (.aload_n 0, 1) := by decide +kernel
theorem dX4_isContent_41 : decode cX4_isContent 41 = .ok (.getfield 48, 3) := by decide +kernel
theorem dX4_isContent_44 : decode cX4_isContent 44 = .ok (.if_icmp .ge 84, 3) := by decide +kernel
theorem dX4_isContent_47 : decode cX4_isContent 47 = .ok (.aload_n 0, 1) := by decide +kernel
theorem dX4_isContent_48 : decode cX4_isContent 48 = .ok (.getfield 27, 3) := by decide +kernel
theorem dX4_isContent_51 : decode cX4_isContent 51 = .ok (.iload 4, 2) := by decide +kernel
theorem dX4_isContent_53 : decode cX4_isContent 53 = .ok (.iaload, 1) := by decide +kernel
theorem dX4_isContent_54 : decode cX4_isContent 54 = .ok (.aload_n 0, 1) := by decide +kernel
theorem dX4_isContent_55 : decode cX4_isContent 55 = .ok (.getfield 30, 3) := by decide +kernel
theorem dX4_isContent_58 : decode cX4_isContent 58 = .ok (.iload 4, 2) := by decide +kernel
theorem dX4_isContent_60 : decode cX4_isContent 60 = .ok (.iaload, 1) := by decide +kernel
theorem dX4_isContent_61 : decode cX4_isContent 61 = .ok (.iadd, 1) := by decide +kernel
theorem dX4_isContent_62 : decode cX4_isContent 62 = .ok (.istore 5, 2) := by decide +kernel
theorem dX4_isContent_64 : decode cX4_isContent 64 = .ok (.iload 4, 2) := by decide +kernel
theorem dX4_isContent_66 : decode cX4_isContent 66 = .ok (.iload_n 2, 1) := by decide +kernel
theorem dX4_isContent_67 : decode cX4_isContent 67 = .ok (.if_icmp .eq 19, 3) := by decide +kernel
theorem dX4_isContent_70 : decode cX4_isContent 70 = .ok (.iload 5, 2) := by decide +kernel
theorem dX4_isContent_72 : decode cX4_isContent 72 = .ok (.aload_n 0, 1) := by decide +kernel
theorem dX4_isContent_73 : decode cX4_isContent 73 = .ok (.getfield 24, 3) := by decide +kernel
theorem dX4_isContent_76 : decode cX4_isContent 76 = .ok (.iload 4, 2) := by decide +kernel
theorem dX4_isContent_78 : decode cX4_isContent 78 = .ok (.iaload, 1) := by decide +kernel
theorem dX4_isContent_79 : decode cX4_isContent 79 = .ok (.if_icmp .ge 7, 3) := by decide +kernel
theorem dX4_isContent_82 : decode cX4_isContent 82 = .ok (.iconst 1, 1) := by decide +kernel
theorem dX4_isContent_83 : decode cX4_isContent 83 = .ok (.goto 4, 3) := by decide +kernel
theorem dX4_isContent_86 : decode cX4_isContent 86 = .ok (.iconst 0, 1) := by decide +kernel
theorem dX4_isContent_87 : decode cX4_isContent 87 = .ok (.istore 6, 2) := by decide +kernel
theorem dX4_isContent_89 : decode cX4_isContent 89 = .ok (.iload 6, 2) := by decide +kernel
theorem dX4_isContent_91 : decode cX4_isContent 91 = .ok (.ifCond .eq 31, 3) := by decide +kernel
theorem dX4_isContent_94 : decode cX4_isContent 94 = .ok (.aload_n 0, 1) := by decide +kernel
theorem dX4_isContent_95 : decode cX4_isContent 95 = .ok (.getfield 18, 3) := by decide +kernel
theorem dX4_isContent_98 : decode cX4_isContent 98 = .ok (.iload_n 1, 1) := by decide +kernel
theorem dX4_isContent_99 : decode cX4_isContent 99 = .ok (.bipush 6, 2) := by decide +kernel
theorem dX4_isContent_101 : decode cX4_isContent 101 = .ok (.imul, 1) := by decide +kernel
theorem dX4_isContent_102 : decode cX4_isContent 102 = .ok (.iload 4, 2) := by decide +kernel
theorem dX4_isContent_104 : decode cX4_isContent 104 = .ok (.iadd, 1) := by decide +kernel
theorem dX4_isContent_105 : decode cX4_isContent 105 = .ok (.iaload, 1) := by decide +kernel
theorem dX4_isContent_106 : decode cX4_isContent 106 = .ok (.aload_n 0, 1) := by decide +kernel
theorem dX4_isContent_107 : decode cX4_isContent 107 = .ok (.getfield 15, 3) := by decide +kernel
theorem dX4_isContent_110 : decode cX4_isContent 110 = .ok (.iload_n 1, 1) := by decide +kernel
theorem dX4_isContent_111 : decode cX4_isContent 111 = .ok (.iaload, 1) := by decide +kernel
theorem dX4_isContent_112 : decode cX4_isContent 112 = .ok (.iload 5, 2) := by decide +kernel
theorem dX4_isContent_114 : decode cX4_isContent 114 = .ok (.imul, 1) := by decide +kernel
theorem dX4_isContent_115 : decode cX4_isContent 115 = .ok (.iadd, 1) := by decide +kernel
theorem dX4_isContent_116 : decode cX4_isContent 116 = .ok (.iload_n 3, 1) := by decide +kernel
theorem dX4_isContent_117 : decode cX4_isContent 117 = .ok (.if_icmp .le 5, 3) := by decide +kernel
theorem dX4_isContent_120 : decode cX4_isContent 120 = .ok (.iconst 0, 1) := by decide +kernel
theorem dX4_isContent_121 : decode cX4_isContent 121 = .ok (.ireturn, 1) := by decide +kernel
theorem dX4_isContent_122 : decode cX4_isContent 122 = .ok (.iinc 4 1, 3) := by decide +kernel
theorem dX4_isContent_125 : decode cX4_isContent 125 = .ok (.goto (-87), 3) := by decide +kernel
theorem dX4_isContent_128 : decode cX4_isContent 128 = .ok (.iconst 1, 1) := by decide +kernel
theorem dX4_isContent_129 : decode cX4_isContent 129 = .ok (.ireturn, 1) := by decide +kernel
theorem dX4_put_0 : decode cX4_put 0 = .ok (.iload_n 1, 1) := by decide +kernel
theorem dX4_put_1 : decode cX4_put 1 = .ok (.aload_n 0, 1) := by decide +kernel
theorem dX4_put_2 : decode cX4_put 2 = .ok (.getfield 40, 3) := by decide +kernel
theorem dX4_put_5 : decode cX4_put 5 = .ok (.if_icmp .lt 37, 3) := by decide +kernel
theorem dX4_put_8 : decode cX4_put 8 = .ok (.aload_n 0, 1) := by decide +kernel
theorem dX4_put_9 : decode cX4_put 9 = .ok (.aload_n 0, 1) := by decide +kernel
theorem dX4_put_10 : decode cX4_put 10 = .ok (.getfield 33, 3) := by decide +kernel
theorem dX4_put_13 : decode cX4_put 13 = .ok (.ifCond .ne 7, 3) := by decide +kernel
theorem dX4_put_16 : decode cX4_put 16 = .ok (.iload_n 2, 1) := by decide +kernel
theorem dX4_put_17 : decode cX4_put 17 = .ok (.goto 11, 3) := by decide +kernel
theorem dX4_put_20 : decode cX4_put 20 = .ok (.aload_n 0, 1) := by decide +kernel
theorem dX4_put_21 : decode cX4_put 21 = .ok (.getfield 37, 3) := by decide +kernel
theorem dX4_put_24 : decode cX4_put 24 = .ok (.iload_n 2, 1) := by decide +kernel
theorem dX4_put_25 : decode cX4_put 25 = .ok (.invokestatic 83, 3) := by decide +kernel
theorem dX4_put_28 : decode cX4_put 28 = .ok (.putfield 37, 3) := by decide +kernel
theorem dX4_put_31 : decode cX4_put 31 = .ok (.aload_n 0, 1) := by decide +kernel
theorem dX4_put_32 : decode cX4_put 32 = .ok (.dup, 1) := by decide +kernel
theorem dX4_put_33 : decode cX4_put 33 = .ok (.getfield 33, 3) := by decide +kernel
theorem dX4_put_36 : decode cX4_put 36 = .ok (.iconst 1, 1) := by decide +kernel
theorem dX4_put_37 : decode cX4_put 37 = .ok (.iadd, 1) := by decide +kernel
theorem dX4_put_38 : decode cX4_put 38 = .ok (.putfield 33, 3) := by decide +kernel
theorem dX4_put_41 : decode cX4_put 41 = .ok (.return_, 1) := by decide +kernel
theorem dX4_put_42 : decode cX4_put 42 = .ok (.iconst 0, 1) := by decide +kernel
theorem dX4_put_43 : decode cX4_put 43 = .ok (.istore_n 3, 1) := by decide +kernel
theorem dX4_put_44 : decode cX4_put 44 = .ok (.iload_n 3, 1) := by decide +kernel
theorem dX4_put_45 : decode cX4_put 45 = .ok (.aload_n 0, 1) := by decide +kernel
theorem dX4_put_46 : decode cX4_put 46 = .ok (.getfield 48, 3) := by decide +kernel
theorem dX4_put_49 : decode cX4_put 49 = .ok (.if_icmp .ge 65, 3) := by decide +kernel
theorem dX4_put_52 : decode cX4_put 52 = .ok (.aload_n 0, 1) := by decide +kernel
theorem dX4_put_53 : decode cX4_put 53 = .ok (.getfield 21, 3) := by decide +kernel
theorem dX4_put_56 : decode cX4_put 56 = .ok (.iload_n 1, 1) := by decide +kernel
theorem dX4_put_57 : decode cX4_put 57 = .ok (.iaload, 1) := by decide +kernel
theorem dX4_put_58 : decode cX4_put 58 = .ok (.iload_n 3, 1) := by decide +kernel
theorem dX4_put_59 : decode cX4_put 59 = .ok (.ishr, 1) := by decide +kernel
theorem dX4_put_60 : decode cX4_put 60 = .ok (.iconst 1, 1) := by decide +kernel
theorem dX4_put_61 : decode cX4_put 61 = .ok (.iand, 1) := by decide +kernel
theorem dX4_put_62 : decode cX4_put 62 = .ok (.iconst 1, 1) := by decide +kernel
theorem dX4_put_63 : decode cX4_put 63 = .ok (.if_icmp .ne 45, 3) := by decide +kernel
theorem dX4_put_66 : decode cX4_put 66 = .ok (.aload_n 0, 1) := by decide +kernel
theorem dX4_put_67 : decode cX4_put 67 = .ok (.getfield 30, 3) := by decide +kernel
theorem dX4_put_70 : decode cX4_put 70 = .ok (.iload_n 3, 1) := by decide +kernel
theorem dX4_put_71 : decode cX4_put 71 = .ok (.iaload, 1) := by decide +kernel
theorem dX4_put_72 : decode cX4_put 72 = .ok (.ifCond .le 36, 3) := by decide +kernel
theorem dX4_put_75 : decode cX4_put 75 = .ok (.aload_n 0, 1) := by decide +kernel
theorem dX4_put_76 : decode cX4_put 76 = .ok (.getfield 30, 3) := by decide +kernel
theorem dX4_put_79 : decode cX4_put 79 = .ok (.iload_n 3, 1) := by decide +kernel
theorem dX4_put_80 : decode cX4_put 80 = .ok (.dup2, 1) := by decide +kernel
theorem dX4_put_81 : decode cX4_put 81 = .ok (.iaload, 1) := by decide +kernel
theorem dX4_put_82 : decode cX4_put 82 = .ok (.iconst 1, 1) := by decide +kernel
theorem dX4_put_83 : decode cX4_put 83 = .ok (.isub, 1) := by decide +kernel
theorem dX4_put_84 : decode cX4_put 84 = .ok (.iastore, 1) := by decide +kernel
theorem dX4_put_85 : decode cX4_put 85 = .ok (.aload_n 0, 1) := by decide +kernel
theorem dX4_put_86 : decode cX4_put 86 = .ok (.iload_n 1, 1) := by decide +kernel
theorem dX4_put_87 : decode cX4_put 87 = .ok (.iconst 1, 1) := by decide +kernel
theorem dX4_put_88 : decode cX4_put 88 = .ok (.iadd, 1) := by decide +kernel
theorem dX4_put_89 : decode cX4_put 89 = .ok (.iload_n 2, 1) := by decide +kernel
theorem dX4_put_90 : decode cX4_put 90 = .ok (.bipush 10, 2) := by decide +kernel
theorem dX4_put_92 : decode cX4_put 92 = .ok (.imul, 1) := by decide +kernel
theorem dX4_put_93 : decode cX4_put 93 = .ok (.iload_n 3, 1) := by decide +kernel
theorem dX4_put_94 : decode cX4_put 94 = .ok (.iadd, 1) := by decide +kernel
theorem dX4_put_95 : decode cX4_put 95 = .ok (.invokevirtual 91, 3) := by decide +kernel
theorem dX4_put_98 : decode cX4_put 98 = .ok (.aload_n 0, 1) := by decide +kernel
theorem dX4_put_99 : decode cX4_put 99 = .ok (.getfield 30, 3) := by decide +kernel
theorem dX4_put_102 : decode cX4_put 102 = .ok (.iload_n 3, 1) := by decide +kernel
theorem dX4_put_103 : decode cX4_put 103 = .ok (.dup2, 1) := by decide +kernel
theorem dX4_put_104 : decode cX4_put 104 = .ok (.iaload, 1) := by decide +kernel
theorem dX4_put_105 : decode cX4_put 105 = .ok (.iconst 1, 1) := by decide +kernel
theorem dX4_put_106 : decode cX4_put 106 = .ok (.iadd, 1) := by decide +kernel
theorem dX4_put_107 : decode cX4_put 107 = .ok (.iastore, 1) := by decide +kernel
theorem dX4_put_108 : decode cX4_put 108 = .ok (.iinc 3 1, 3) := by decide +kernel
theorem dX4_put_111 : decode cX4_put 111 = .ok (.goto (-67), 3) := by decide +kernel
theorem dX4_put_114 : decode cX4_put 114 = .ok (.return_, 1) := by decide +kernel
theorem dX4_roomOf_0 : decode cX4_roomOf 0 = .ok (.aload_n 0, 1) := by decide +kernel
theorem dX4_roomOf_1 : decode cX4_roomOf 1 = .ok (.getfield 33, 3) := by decide +kernel
theorem dX4_roomOf_4 : decode cX4_roomOf 4 = .ok (.ifCond .ne 6, 3) := by decide +kernel
theorem dX4_roomOf_7 : decode cX4_roomOf 7 = .ok (.bipush (-6), 2) := by decide +kernel
theorem dX4_roomOf_9 : decode cX4_roomOf 9 = .ok (.ireturn, 1) := by decide +kernel
theorem dX4_roomOf_10 : decode cX4_roomOf 10 = .ok (.aload_n 0, 1) := by decide +kernel
theorem dX4_roomOf_11 : decode cX4_roomOf 11 = .ok (.getfield 37, 3) := by decide +kernel
theorem dX4_roomOf_14 : decode cX4_roomOf 14 = .ok (.istore_n 2, 1) := by decide +kernel
theorem dX4_roomOf_15 : decode cX4_roomOf 15 = .ok (.aload_n 0, 1) := by decide +kernel
theorem dX4_roomOf_16 : decode cX4_roomOf 16 = .ok (.getfield 40, 3) := by decide +kernel
theorem dX4_roomOf_19 : decode cX4_roomOf 19 = .ok (.iconst 1, 1) := by decide +kernel
theorem dX4_roomOf_20 : decode cX4_roomOf 20 = .ok (.isub, 1) := by decide +kernel
theorem dX4_roomOf_21 : decode cX4_roomOf 21 = .ok (.istore_n 3, 1) := by decide +kernel
theorem dX4_roomOf_22 : decode cX4_roomOf 22 = .ok (.iload_n 3, 1) := by decide +kernel
theorem dX4_roomOf_23 : decode cX4_roomOf 23 = .ok (.ifCond .lt 29, 3) := by decide +kernel
theorem dX4_roomOf_26 : decode cX4_roomOf 26 = .ok (.aload_n 0, 1) := by decide +kernel
theorem dX4_roomOf_27 : decode cX4_roomOf 27 = .ok (.getfield 9, 3) := by decide +kernel
theorem dX4_roomOf_30 : decode cX4_roomOf 30 = .ok (.iload_n 3, 1) := by decide +kernel
theorem dX4_roomOf_31 : decode cX4_roomOf 31 = .ok (.iaload, 1) := by decide +kernel
theorem dX4_roomOf_32 : decode cX4_roomOf 32 = .ok (.iload_n 1, 1) := by decide +kernel
theorem dX4_roomOf_33 : decode cX4_roomOf 33 = .ok (.if_icmp .ne 8, 3) := by decide +kernel
theorem dX4_roomOf_36 : decode cX4_roomOf 36 = .ok (.iload_n 2, 1) := by decide +kernel
theorem dX4_roomOf_37 : decode cX4_roomOf 37 = .ok (.bipush 10, 2) := by decide +kernel
theorem dX4_roomOf_39 : decode cX4_roomOf 39 = .ok (.irem, 1) := by decide +kernel
theorem dX4_roomOf_40 : decode cX4_roomOf 40 = .ok (.ireturn, 1) := by decide +kernel
theorem dX4_roomOf_41 : decode cX4_roomOf 41 = .ok (.iload_n 2, 1) := by decide +kernel
theorem dX4_roomOf_42 : decode cX4_roomOf 42 = .ok (.bipush 10, 2) := by decide +kernel
theorem dX4_roomOf_44 : decode cX4_roomOf 44 = .ok (.idiv, 1) := by decide +kernel
theorem dX4_roomOf_45 : decode cX4_roomOf 45 = .ok (.istore_n 2, 1) := by decide +kernel
theorem dX4_roomOf_46 : decode cX4_roomOf 46 = .ok (.iinc 3 (-1), 3) := by decide +kernel
theorem dX4_roomOf_49 : decode cX4_roomOf 49 = .ok (.goto (-27), 3) := by decide +kernel
theorem dX4_roomOf_52 : decode cX4_roomOf 52 = .ok (.bipush (-6), 2) := by decide +kernel
theorem dX4_roomOf_54 : decode cX4_roomOf 54 = .ok (.ireturn, 1) := by decide +kernel
end
section
theorem dX5_init_0 : decode cX5_init 0 = .ok (.aload_n 0, 1) := by decide +kernel
theorem dX5_init_1 : decode cX5_init 1 = .ok (.invokespecial 3, 3) := by decide +kernel
theorem dX5_init_4 : decode cX5_init 4 = .ok (.aload_n 0, 1) := by decide +kernel
theorem dX5_init_5 : decode cX5_init 5 = .ok (.bipush 6, 2) := by decide +kernel
theorem dX5_init_7 : decode cX5_init 7 = .ok (.newarray .int, 2) := by decide +kernel
theorem dX5_init_9 : decode cX5_init 9 = .ok (.putfield 9, 3) := by decide +kernel
theorem dX5_init_12 : decode cX5_init 12 = .ok (.aload_n 0, 1) := by decide +kernel
theorem dX5_init_13 : decode cX5_init 13 = .ok (.bipush 6, 2) := by decide +kernel
theorem dX5_init_15 : decode cX5_init 15 = .ok (.newarray .int, 2) := by decide +kernel
theorem dX5_init_17 : decode cX5_init 17 = .ok (.putfield 15, 3) := by decide +kernel
theorem dX5_init_20 : decode cX5_init 20 = .ok (.return_, 1) := by decide +kernel
theorem dX5_measure_0 : decode cX5_measure 0 = .ok (.iconst 0, 1) := by decide +kernel
theorem dX5_measure_1 : decode cX5_measure 1 = .ok (.istore_n 3, 1) := by decide +kernel
theorem dX5_measure_2 : decode cX5_measure 2 = .ok (.iload_n 3, 1) := by decide +kernel
theorem dX5_measure_3 : decode cX5_measure 3 = .ok (.aload_n 1, 1) := by decide +kernel
theorem dX5_measure_4 : decode cX5_measure 4 = .ok (.getfield 18, 3) := by decide +kernel
theorem dX5_measure_7 : decode cX5_measure 7 = .ok (.if_icmp .ge 42, 3) := by decide +kernel
theorem dX5_measure_10 : decode cX5_measure 10 = .ok (.aload_n 0, 1) := by decide +kernel
theorem dX5_measure_11 : decode cX5_measure 11 = .ok (.getfield 9, 3) := by decide +kernel
theorem dX5_measure_14 : decode cX5_measure 14 = .ok (.iload_n 3, 1) := by decide +kernel
theorem dX5_measure_15 : decode cX5_measure 15 = .ok (.bipush 100, 2) := by decide +kernel
theorem dX5_measure_17 : decode cX5_measure 17 = .ok (.aload_n 1, 1) := by decide +kernel
theorem dX5_measure_18 : decode cX5_measure 18 = .ok (.iload_n 3, 1) := by decide +kernel
theorem dX5_measure_19 : decode cX5_measure 19 = .ok (.invokevirtual 24, 3) := by decide +kernel
theorem dX5_measure_22 : decode cX5_measure 22 = .ok (.imul, 1) := by decide +kernel
theorem dX5_measure_23 : decode cX5_measure 23 = .ok (.iconst 1, 1) := by decide +kernel
theorem dX5_measure_24 : decode cX5_measure 24 = .ok (.iadd, 1) := by decide +kernel
theorem dX5_measure_25 : decode cX5_measure 25 = .ok (.iastore, 1) := by decide +kernel
theorem dX5_measure_26 : decode cX5_measure 26 = .ok (.aload_n 0, 1) := by decide +kernel
theorem dX5_measure_27 : decode cX5_measure 27 = .ok (.getfield 15, 3) := by decide +kernel
theorem dX5_measure_30 : decode cX5_measure 30 = .ok (.iload_n 3, 1) := by decide +kernel
theorem dX5_measure_31 : decode cX5_measure 31 = .ok (.iload_n 3, 1) := by decide +kernel
theorem dX5_measure_32 : decode cX5_measure 32 = .ok (.iload_n 2, 1) := by decide +kernel
theorem dX5_measure_33 : decode cX5_measure 33 = .ok (.if_icmp .ne 7, 3) := by decide +kernel
theorem dX5_measure_36 : decode cX5_measure 36 = .ok (.iconst 0, 1) := by decide +kernel
theorem dX5_measure_37 : decode cX5_measure 37 = .ok (.goto 5, 3) := by decide +kernel
theorem dX5_measure_40 : decode cX5_measure 40 = .ok (.ldc 28, 2) := by decide +kernel
theorem dX5_measure_42 : decode cX5_measure 42 = .ok (.iastore, 1) := by decide +kernel
theorem dX5_measure_43 : decode cX5_measure 43 = .ok (.iinc 3 1, 3) := by decide +kernel
theorem dX5_measure_46 : decode cX5_measure 46 = .ok (.goto (-44), 3) := by decide +kernel
theorem dX5_measure_49 : decode cX5_measure 49 = .ok (.iconst 0, 1) := by decide +kernel
theorem dX5_measure_50 : decode cX5_measure 50 = .ok (.istore_n 3, 1) := by decide +kernel
theorem dX5_measure_51 : decode cX5_measure 51 = .ok (.iload_n 3, 1) := by decide +kernel
theorem dX5_measure_52 : decode cX5_measure 52 = .ok (.aload_n 1, 1) := by decide +kernel
theorem dX5_measure_53 : decode cX5_measure 53 = .ok (.getfield 18, 3) := by decide +kernel
theorem dX5_measure_56 : decode cX5_measure 56 = .ok (.if_icmp .ge 34, 3) := by decide +kernel
theorem dX5_measure_59 : decode cX5_measure 59 = .ok (.iconst 0, 1) := by decide +kernel
theorem dX5_measure_60 : decode cX5_measure 60 = .ok (.istore 4, 2) := by decide +kernel
theorem dX5_measure_62 : decode cX5_measure 62 = .ok (.iload 4, 2) := by decide +kernel
theorem dX5_measure_64 : decode cX5_measure 64 = .ok (.aload_n 1, 1) := by decide +kernel
theorem dX5_measure_65 : decode cX5_measure 65 = .ok (.getfield 18, 3) := by decide +kernel
theorem dX5_measure_68 : decode cX5_measure 68 = .ok (.if_icmp .ge 16, 3) := by decide +kernel
theorem dX5_measure_71 : decode cX5_measure 71 = .ok (.aload_n 0, 1) := by decide +kernel
theorem dX5_measure_72 : decode cX5_measure 72 = .ok (.aload_n 1, 1) := by decide +kernel
theorem dX5_measure_73 : decode cX5_measure 73 = .ok (.iload 4, 2) := by decide +kernel
theorem dX5_measure_75 : decode cX5_measure 75 = .ok (.invokevirtual 29, 3) := by decide +kernel
theorem dX5_measure_78 : decode cX5_measure 78 = .ok (.iinc 4 1, 3) := by decide +kernel
theorem dX5_measure_81 : decode cX5_measure 81 = .ok (.goto (-19), 3) := by decide +kernel
theorem dX5_measure_84 : decode cX5_measure 84 = .ok (.iinc 3 1, 3) := by decide +kernel
theorem dX5_measure_87 : decode cX5_measure 87 = .ok (.goto (-36), 3) := by decide +kernel
theorem dX5_measure_90 : decode cX5_measure 90 = .ok (.return_, 1) := by decide +kernel
theorem dX5_shorten_0 : decode cX5_shorten 0 = .ok (.iconst 0, 1) := by decide +kernel
theorem dX5_shorten_1 : decode cX5_shorten 1 = .ok (.istore_n 3, 1) := by decide +kernel
theorem dX5_shorten_2 : decode cX5_shorten 2 = .ok (.iload_n 3, 1) := by decide +kernel
theorem dX5_shorten_3 : decode cX5_shorten 3 = .ok (.aload_n 1, 1) := by decide +kernel
theorem dX5_shorten_4 : decode cX5_shorten 4 = .ok (.getfield 18, 3) := by decide +kernel
theorem dX5_shorten_7 : decode cX5_shorten 7 = .ok (.if_icmp .ge 46, 3) := by decide +kernel
theorem dX5_shorten_10 : decode cX5_shorten 10 = .ok (.aload_n 1, 1) := by decide +kernel
theorem dX5_shorten_11 : decode cX5_shorten 11 = .ok (.iload_n 2, 1) := by decide +kernel
theorem dX5_shorten_12 : decode cX5_shorten 12 = .ok (.iload_n 3, 1) := by decide +kernel
theorem dX5_shorten_13 : decode cX5_shorten 13 = .ok (.invokevirtual 33, 3) := by decide +kernel
theorem dX5_shorten_16 : decode cX5_shorten 16 = .ok (.ifCond .le 31, 3) := by decide +kernel
theorem dX5_shorten_19 : decode cX5_shorten 19 = .ok (.aload_n 0, 1) := by decide +kernel
theorem dX5_shorten_20 : decode cX5_shorten 20 = .ok (.getfield 15, 3) := by decide +kernel
theorem dX5_shorten_23 : decode cX5_shorten 23 = .ok (.iload_n 2, 1) := by decide +kernel
theorem dX5_shorten_24 : decode cX5_shorten 24 = .ok (.aload_n 0, 1) := by decide +kernel
theorem dX5_shorten_25 : decode cX5_shorten 25 = .ok (.getfield 15, 3) := by decide +kernel
theorem dX5_shorten_28 : decode cX5_shorten 28 = .ok (.iload_n 2, 1) := by decide +kernel
theorem dX5_shorten_29 : decode cX5_shorten 29 = .ok (.iaload, 1) := by decide +kernel
theorem dX5_shorten_30 : decode cX5_shorten 30 = .ok (.aload_n 0, 1) := by decide +kernel
theorem dX5_shorten_31 : decode cX5_shorten 31 = .ok (.getfield 9, 3) := by decide +kernel
theorem dX5_shorten_34 : decode cX5_shorten 34 = .ok (.iload_n 3, 1) := by decide +kernel
theorem dX5_shorten_35 : decode cX5_shorten 35 = .ok (.iaload, 1) := by decide +kernel
theorem dX5_shorten_36 : decode cX5_shorten 36 = .ok (.aload_n 0, 1) := by decide +kernel
theorem dX5_shorten_37 : decode cX5_shorten 37 = .ok (.getfield 15, 3) := by decide +kernel
theorem dX5_shorten_40 : decode cX5_shorten 40 = .ok (.iload_n 3, 1) := by decide +kernel
theorem dX5_shorten_41 : decode cX5_shorten 41 = .ok (.iaload, 1) := by decide +kernel
theorem dX5_shorten_42 : decode cX5_shorten 42 = .ok (.iadd, 1) := by decide +kernel
theorem dX5_shorten_43 : decode cX5_shorten 43 = .ok (.invokestatic 37, 3) := by decide +kernel
theorem dX5_shorten_46 : decode cX5_shorten 46 = .ok (.iastore, 1) := by decide +kernel
theorem dX5_shorten_47 : decode cX5_shorten 47 = .ok (.iinc 3 1, 3) := by decide +kernel
theorem dX5_shorten_50 : decode cX5_shorten 50 = .ok (.goto (-48), 3) := by decide +kernel
theorem dX5_shorten_53 : decode cX5_shorten 53 = .ok (.return_, 1) := by decide +kernel
theorem dX5_excusesFrom_0 : decode cX5_excusesFrom 0 = .ok (.aload_n 0, 1) := by decide +kernel
theorem dX5_excusesFrom_1 : decode cX5_excusesFrom 1 = .ok (.getfield 15, 3) := by decide +kernel
theorem dX5_excusesFrom_4 : decode cX5_excusesFrom 4 = .ok (.iload_n 1, 1) := by decide +kernel
theorem dX5_excusesFrom_5 : decode cX5_excusesFrom 5 = .ok (.iaload, 1) := by decide +kernel
theorem dX5_excusesFrom_6 : decode cX5_excusesFrom 6 = .ok (.ldc 28, 2) := by decide +kernel
theorem dX5_excusesFrom_8 : decode cX5_excusesFrom 8 = .ok (.if_icmp .lt 8, 3) := by decide +kernel
theorem dX5_excusesFrom_11 : decode cX5_excusesFrom 11 = .ok (.bipush (-6), 2) := by decide +kernel
theorem dX5_excusesFrom_13 : decode cX5_excusesFrom 13 = .ok (.goto 12, 3) := by decide +kernel
theorem dX5_excusesFrom_16 : decode cX5_excusesFrom 16 = .ok (.aload_n 0, 1) := by decide +kernel
theorem dX5_excusesFrom_17 : decode cX5_excusesFrom 17 = .ok (.getfield 15, 3) := by decide +kernel
theorem dX5_excusesFrom_20 : decode cX5_excusesFrom 20 = .ok (.iload_n 1, 1) := by decide +kernel
theorem dX5_excusesFrom_21 : decode cX5_excusesFrom 21 = .ok (.iaload, 1) := by decide +kernel
theorem dX5_excusesFrom_22 : decode cX5_excusesFrom 22 = .ok (.bipush 100, 2) := by decide +kernel
theorem dX5_excusesFrom_24 : decode cX5_excusesFrom 24 = .ok (.idiv, 1) := by decide +kernel
theorem dX5_excusesFrom_25 : decode cX5_excusesFrom 25 = .ok (.ireturn, 1) := by decide +kernel
theorem dX5_step_0 : decode cX5_step 0 = .ok (.iload_n 3, 1) := by decide +kernel
theorem dX5_step_1 : decode cX5_step 1 = .ok (.ifCond .lt 20, 3) := by decide +kernel
theorem dX5_step_4 : decode cX5_step 4 = .ok (.iload_n 3, 1) := by decide +kernel
theorem dX5_step_5 : decode cX5_step 5 = .ok (.bipush 6, 2) := by decide +kernel
theorem dX5_step_7 : decode cX5_step 7 = .ok (.if_icmp .ge 14, 3) := by decide +kernel
theorem dX5_step_10 : decode cX5_step 10 = .ok (.aload_n 0, 1) := by decide +kernel
theorem dX5_step_11 : decode cX5_step 11 = .ok (.getfield 15, 3) := by decide +kernel
theorem dX5_step_14 : decode cX5_step 14 = .ok (.iload_n 2, 1) := by decide +kernel
theorem dX5_step_15 : decode cX5_step 15 = .ok (.iaload, 1) := by decide +kernel
theorem dX5_step_16 : decode cX5_step 16 = .ok (.ldc 28, 2) := by decide +kernel
theorem dX5_step_18 : decode cX5_step 18 = .ok (.if_icmp .lt 6, 3) := by decide +kernel
theorem dX5_step_21 : decode cX5_step 21 = .ok (.bipush (-6), 2) := by decide +kernel
theorem dX5_step_23 : decode cX5_step 23 = .ok (.ireturn, 1) := by decide +kernel
theorem dX5_step_24 : decode cX5_step 24 = .ok (.iload_n 2, 1) := by decide +kernel
theorem dX5_step_25 : decode cX5_step 25 = .ok (.istore 4, 2) := by decide +kernel
theorem dX5_step_27 : decode cX5_step 27 = .ok (.iconst 0, 1) := by decide +kernel
theorem dX5_step_28 : decode cX5_step 28 = .ok (.istore 5, 2) := by decide +kernel
theorem dX5_step_30 : decode cX5_step 30 = .ok (.iload 5, 2) := by decide +kernel
theorem dX5_step_32 : decode cX5_step 32 = .ok (.iload_n 3, 1) := by decide +kernel
theorem dX5_step_33 : decode cX5_step 33 = .ok (.if_icmp .ge 31, 3) := by decide +kernel
theorem dX5_step_36 : decode cX5_step 36 = .ok (.aload_n 0, 1) := by decide +kernel
theorem dX5_step_37 : decode cX5_step 37 = .ok (.getfield 15, 3) := by decide +kernel
theorem dX5_step_40 : decode cX5_step 40 = .ok (.iload 4, 2) := by decide +kernel
theorem dX5_step_42 : decode cX5_step 42 = .ok (.iaload, 1) := by decide +kernel
theorem dX5_step_43 : decode cX5_step 43 = .ok (.ifCond .ne 6, 3) := by decide +kernel
theorem dX5_step_46 : decode cX5_step 46 = .ok (.bipush (-6), 2) := by decide +kernel
theorem dX5_step_48 : decode cX5_step 48 = .ok (.ireturn, 1) := by decide +kernel
theorem dX5_step_49 : decode cX5_step 49 = .ok (.aload_n 0, 1) := by decide +kernel
theorem dX5_step_50 : decode cX5_step 50 = .ok (.aload_n 1, 1) := by decide +kernel
theorem dX5_step_51 : decode cX5_step 51 = .ok (.iload 4, 2) := by decide +kernel
theorem dX5_step_53 : decode cX5_step 53 = .ok (.invokevirtual 42, 3) := by decide +kernel
theorem dX5_step_56 : decode cX5_step 56 = .ok (.istore 4, 2) := by decide +kernel
theorem dX5_step_58 : decode cX5_step 58 = .ok (.iinc 5 1, 3) := by decide +kernel
theorem dX5_step_61 : decode cX5_step 61 = .ok (.goto (-31), 3) := by decide +kernel
theorem dX5_step_64 : decode cX5_step 64 = .ok (.iload 4, 2) := by decide +kernel
theorem dX5_step_66 : decode cX5_step 66 = .ok (.ireturn, 1) := by decide +kernel
theorem dX5_follower_0 : decode cX5_follower 0 = .ok (.iconst 0, 1) := by decide +kernel
theorem dX5_follower_1 : decode cX5_follower 1 = .ok (.istore_n 3, 1) := by decide +kernel
theorem dX5_follower_2 : decode cX5_follower 2 = .ok (.iload_n 3, 1) := by decide +kernel
theorem dX5_follower_3 : decode cX5_follower 3 = .ok (.aload_n 1, 1) := by decide +kernel
theorem dX5_follower_4 : decode cX5_follower 4 = .ok (.getfield 18, 3) := by decide +kernel
theorem dX5_follower_7 : decode cX5_follower 7 = .ok (.if_icmp .ge 42, 3) := by decide +kernel
theorem dX5_follower_10 : decode cX5_follower 10 = .ok (.aload_n 1, 1) := by decide +kernel
theorem dX5_follower_11 : decode cX5_follower 11 = .ok (.iload_n 2, 1) := by decide +kernel
theorem dX5_follower_12 : decode cX5_follower 12 = .ok (.iload_n 3, 1) := by decide +kernel
theorem dX5_follower_13 : decode cX5_follower 13 = .ok (.invokevirtual 33, 3) := by decide +kernel
theorem dX5_follower_16 : decode cX5_follower 16 = .ok (.ifCond .le 27, 3) := by decide +kernel
theorem dX5_follower_19 : decode cX5_follower 19 = .ok (.aload_n 0, 1) := by decide +kernel
theorem dX5_follower_20 : decode cX5_follower 20 = .ok (.getfield 9, 3) := by decide +kernel
theorem dX5_follower_23 : decode cX5_follower 23 = .ok (.iload_n 3, 1) := by decide +kernel
theorem dX5_follower_24 : decode cX5_follower 24 = .ok (.iaload, 1) := by decide +kernel
theorem dX5_follower_25 : decode cX5_follower 25 = .ok (.aload_n 0, 1) := by decide +kernel
theorem dX5_follower_26 : decode cX5_follower 26 = .ok (.getfield 15, 3) := by decide +kernel
theorem dX5_follower_29 : decode cX5_follower 29 = .ok (.iload_n 3, 1) := by decide +kernel
theorem dX5_follower_30 : decode cX5_follower 30 = .ok (.iaload, 1) := by decide +kernel
theorem dX5_follower_31 : decode cX5_follower 31 = .ok (.iadd, 1) := by decide +kernel
theorem dX5_follower_32 : decode cX5_follower 32 = .ok (.aload_n 0, 1) := by decide +kernel
theorem dX5_follower_33 : decode cX5_follower 33 = .ok (.getfield 15, 3) := by decide +kernel
theorem dX5_follower_36 : decode cX5_follower 36 = .ok (.iload_n 2, 1) := by decide +kernel
theorem dX5_follower_37 : decode cX5_follower 37 = .ok (.iaload, 1) := by decide +kernel
theorem dX5_follower_38 : decode cX5_follower 38 = .ok (.if_icmp .ne 5, 3) := by decide +kernel
theorem dX5_follower_41 : decode cX5_follower 41 = .ok (.iload_n 3, 1) := by decide +kernel
theorem dX5_follower_42 : decode cX5_follower 42 = .ok (.ireturn, 1) := by decide +kernel
theorem dX5_follower_43 : decode cX5_follower 43 = .ok (.iinc 3 1, 3) := by decide +kernel
theorem dX5_follower_46 : decode cX5_follower 46 = .ok (.goto (-44), 3) := by decide +kernel
theorem dX5_follower_49 : decode cX5_follower 49 = .ok (.iload_n 2, 1) := by decide +kernel
theorem dX5_follower_50 : decode cX5_follower 50 = .ok (.ireturn, 1) := by decide +kernel
end
section
theorem dX6_init_0 : decode cX6_init 0 = .ok (.aload_n 0, 1) := by decide +kernel
theorem dX6_init_1 : decode cX6_init 1 = .ok (.invokespecial 3, 3) := by decide +kernel
theorem dX6_init_4 : decode cX6_init 4 = .ok (.aload_n 0, 1) := by decide +kernel
theorem dX6_init_5 : decode cX6_init 5 = .ok (.bipush 6, 2) := by decide +kernel
theorem dX6_init_7 : decode cX6_init 7 = .ok (.newarray .long, 2) := by decide +kernel
theorem dX6_init_9 : decode cX6_init 9 = .ok (.putfield 9, 3) := by decide +kernel
theorem dX6_init_12 : decode cX6_init 12 = .ok (.aload_n 0, 1) := by decide +kernel
theorem dX6_init_13 : decode cX6_init 13 = .ok (.bipush 6, 2) := by decide +kernel
theorem dX6_init_15 : decode cX6_init 15 = .ok (.newarray .long, 2) := by decide +kernel
theorem dX6_init_17 : decode cX6_init 17 = .ok (.putfield 15, 3) := by decide +kernel
theorem dX6_init_20 : decode cX6_init 20 = .ok (.return_, 1) := by decide +kernel
theorem dX6_walk_0 : decode cX6_walk 0 = .ok (.aload_n 0, 1) := by decide +kernel
theorem dX6_walk_1 : decode cX6_walk 1 = .ok (.getfield 9, 3) := by decide +kernel
theorem dX6_walk_4 : decode cX6_walk 4 = .ok (.lconst 0, 1) := by decide +kernel
theorem dX6_walk_5 : decode cX6_walk 5 = .ok (.invokestatic 18, 3) := by decide +kernel
theorem dX6_walk_8 : decode cX6_walk 8 = .ok (.aload_n 0, 1) := by decide +kernel
theorem dX6_walk_9 : decode cX6_walk 9 = .ok (.getfield 9, 3) := by decide +kernel
theorem dX6_walk_12 : decode cX6_walk 12 = .ok (.aload_n 1, 1) := by decide +kernel
theorem dX6_walk_13 : decode cX6_walk 13 = .ok (.getfield 24, 3) := by decide +kernel
theorem dX6_walk_16 : decode cX6_walk 16 = .ok (.iload_n 2, 1) := by decide +kernel
theorem dX6_walk_17 : decode cX6_walk 17 = .ok (.iaload, 1) := by decide +kernel
theorem dX6_walk_18 : decode cX6_walk 18 = .ok (.lconst 1, 1) := by decide +kernel
theorem dX6_walk_19 : decode cX6_walk 19 = .ok (.lastore, 1) := by decide +kernel
theorem dX6_walk_20 : decode cX6_walk 20 = .ok (.aload_n 0, 1) := by decide +kernel
theorem dX6_walk_21 : decode cX6_walk 21 = .ok (.lconst 1, 1) := by decide +kernel
theorem dX6_walk_22 : decode cX6_walk 22 = .ok (.putfield 30, 3) := by decide +kernel
theorem dX6_walk_25 : decode cX6_walk 25 = .ok (.iconst 0, 1) := by decide +kernel
theorem dX6_walk_26 : decode cX6_walk 26 = .ok (.istore 5, 2) := by decide +kernel
theorem dX6_walk_28 : decode cX6_walk 28 = .ok (.iload 5, 2) := by decide +kernel
theorem dX6_walk_30 : decode cX6_walk 30 = .ok (.iload 4, 2) := by decide +kernel
theorem dX6_walk_32 : decode cX6_walk 32 = .ok (.if_icmp .ge 75, 3) := by decide +kernel
theorem dX6_walk_35 : decode cX6_walk 35 = .ok (.aload_n 0, 1) := by decide +kernel
theorem dX6_walk_36 : decode cX6_walk 36 = .ok (.getfield 15, 3) := by decide +kernel
theorem dX6_walk_39 : decode cX6_walk 39 = .ok (.lconst 0, 1) := by decide +kernel
theorem dX6_walk_40 : decode cX6_walk 40 = .ok (.invokestatic 18, 3) := by decide +kernel
theorem dX6_walk_43 : decode cX6_walk 43 = .ok (.iconst 0, 1) := by decide +kernel
theorem dX6_walk_44 : decode cX6_walk 44 = .ok (.istore 6, 2) := by decide +kernel
theorem dX6_walk_46 : decode cX6_walk 46 = .ok (.iload 6, 2) := by decide +kernel
theorem dX6_walk_48 : decode cX6_walk 48 = .ok (.aload_n 1, 1) := by decide +kernel
theorem dX6_walk_49 : decode cX6_walk 49 = .ok (.getfield 34, 3) := by decide +kernel
theorem dX6_walk_52 : decode cX6_walk 52 = .ok (.if_icmp .ge 17, 3) := by decide +kernel
theorem dX6_walk_55 : decode cX6_walk 55 = .ok (.aload_n 0, 1) := by decide +kernel
theorem dX6_walk_56 : decode cX6_walk 56 = .ok (.aload_n 1, 1) := by decide +kernel
theorem dX6_walk_57 : decode cX6_walk 57 = .ok (.iload 6, 2) := by decide +kernel
theorem dX6_walk_59 : decode cX6_walk 59 = .ok (.iload_n 3, 1) := by decide +kernel
theorem dX6_walk_60 : decode cX6_walk 60 = .ok (.invokevirtual 38, 3) := by decide +kernel
theorem dX6_walk_63 : decode cX6_walk 63 = .ok (.iinc 6 1, 3) := by decide +kernel
theorem dX6_walk_66 : decode cX6_walk 66 = .ok (.goto (-20), 3) := by decide +kernel
theorem dX6_walk_69 : decode cX6_walk 69 = .ok (.aload_n 0, 1) := by decide +kernel
theorem dX6_walk_70 : decode cX6_walk 70 = .ok (.getfield 9, 3) := by decide +kernel
theorem dX6_walk_73 : decode cX6_walk 73 = .ok (.astore 6, 2) := by decide +kernel
theorem dX6_walk_75 : decode cX6_walk 75 = .ok (.aload_n 0, 1) := by decide +kernel
theorem dX6_walk_76 : decode cX6_walk 76 = .ok (.aload_n 0, 1) := by decide +kernel
theorem dX6_walk_77 : decode cX6_walk 77 = .ok (.getfield 15, 3) := by decide +kernel
theorem dX6_walk_80 : decode cX6_walk 80 = .ok (.putfield 9, 3) := by decide +kernel
theorem dX6_walk_83 : decode cX6_walk 83 = .ok (.aload_n 0, 1) := by decide +kernel
theorem dX6_walk_84 : decode cX6_walk 84 = .ok (.aload 6, 2) := by decide +kernel
theorem dX6_walk_86 : decode cX6_walk 86 = .ok (.putfield 15, 3) := by decide +kernel
theorem dX6_walk_89 : decode cX6_walk 89 = .ok (.aload_n 0, 1) := by decide +kernel
theorem dX6_walk_90 : decode cX6_walk 90 = .ok (.dup, 1) := by decide +kernel
theorem dX6_walk_91 : decode cX6_walk 91 = .ok (.getfield 30, 3) := by decide +kernel
theorem dX6_walk_94 : decode cX6_walk 94 = .ok (.ldc2_w 42, 3) := by decide +kernel
theorem dX6_walk_97 : decode cX6_walk 97 = .ok (.lmul, 1) := by decide +kernel
theorem dX6_walk_98 : decode cX6_walk 98 = .ok (.putfield 30, 3) := by decide +kernel
theorem dX6_walk_101 : decode cX6_walk 101 = .ok (.iinc 5 1, 3) := by decide +kernel
theorem dX6_walk_104 : decode cX6_walk 104 = .ok (.goto (-76), 3) := by decide +kernel
theorem dX6_walk_107 : decode cX6_walk 107 = .ok (.return_, 1) := by decide +kernel
theorem dX6_spread_0 : decode cX6_spread 0 = .ok (.iconst 0, 1) := by decide +kernel
theorem dX6_spread_1 : decode cX6_spread 1 = .ok (.istore 4, 2) := by decide +kernel
theorem dX6_spread_3 : decode cX6_spread 3 = .ok (.iconst 0, 1) := by decide +kernel
theorem dX6_spread_4 : decode cX6_spread 4 = .ok (.istore 5, 2) := by decide +kernel
theorem dX6_spread_6 : decode cX6_spread 6 = .ok (.iload 5, 2) := by decide +kernel
theorem dX6_spread_8 : decode cX6_spread 8 = .ok (.aload_n 1, 1) := by decide +kernel
theorem dX6_spread_9 : decode cX6_spread 9 = .ok (.getfield 34, 3) := by decide +kernel
theorem dX6_spread_12 : decode cX6_spread 12 = .ok (.if_icmp .ge 29, 3) := by decide +kernel
theorem dX6_spread_15 : decode cX6_spread 15 = .ok (.iload 4, 2) := by decide +kernel
theorem dX6_spread_17 : decode cX6_spread 17 = .ok (.aload_n 1, 1) := by decide +kernel
theorem dX6_spread_18 : decode cX6_spread 18 = .ok (.iload_n 2, 1) := by decide +kernel
theorem dX6_spread_19 : decode cX6_spread 19 = .ok (.iload 5, 2) := by decide +kernel
theorem dX6_spread_21 : decode cX6_spread 21 = .ok (.invokevirtual 44, 3) := by decide +kernel
theorem dX6_spread_24 : decode cX6_spread 24 = .ok (.ifCond .le 7, 3) := by decide +kernel
theorem dX6_spread_27 : decode cX6_spread 27 = .ok (.iconst 1, 1) := by decide +kernel
theorem dX6_spread_28 : decode cX6_spread 28 = .ok (.goto 4, 3) := by decide +kernel
theorem dX6_spread_31 : decode cX6_spread 31 = .ok (.iconst 0, 1) := by decide +kernel
theorem dX6_spread_32 : decode cX6_spread 32 = .ok (.iadd, 1) := by decide +kernel
theorem dX6_spread_33 : decode cX6_spread 33 = .ok (.istore 4, 2) := by decide +kernel
theorem dX6_spread_35 : decode cX6_spread 35 = .ok (.iinc 5 1, 3) := by decide +kernel
theorem dX6_spread_38 : decode cX6_spread 38 = .ok (.goto (-32), 3) := by decide +kernel
theorem dX6_spread_41 : decode cX6_spread 41 = .ok (.iload 4, 2) := by decide +kernel
theorem dX6_spread_43 : decode cX6_spread 43 = .ok (.ifCond .ne 27, 3) := by decide +kernel
theorem dX6_spread_46 : decode cX6_spread 46 = .ok (.aload_n 0, 1) := by decide +kernel
theorem dX6_spread_47 : decode cX6_spread 47 = .ok (.getfield 15, 3) := by decide +kernel
theorem dX6_spread_50 : decode cX6_spread 50 = .ok (.iload_n 2, 1) := by decide +kernel
theorem dX6_spread_51 : decode cX6_spread 51 = .ok (.dup2, 1) := by decide +kernel
theorem dX6_spread_52 : decode cX6_spread 52 = .ok (.laload, 1) := by decide +kernel
theorem dX6_spread_53 : decode cX6_spread 53 = .ok (.aload_n 0, 1) := by decide +kernel
theorem dX6_spread_54 : decode cX6_spread 54 = .ok (.getfield 9, 3) := by decide +kernel
theorem dX6_spread_57 : decode cX6_spread 57 = .ok (.iload_n 2, 1) := by decide +kernel
theorem dX6_spread_58 : decode cX6_spread 58 = .ok (.laload, 1) := by decide +kernel
theorem dX6_spread_59 : decode cX6_spread 59 = .ok (.ldc2_w 48, 3) := by decide +kernel
theorem dX6_spread_62 : decode cX6_spread 62 = .ok (.lmul, 1) := by decide +kernel
theorem dX6_spread_63 : decode cX6_spread 63 = .ok (.ldc2_w 50, 3) := by decide +kernel
theorem dX6_spread_66 : decode cX6_spread 66 = .ok (.lmul, 1) := by decide +kernel
theorem dX6_spread_67 : decode cX6_spread 67 = .ok (.ladd, 1) := by decide +kernel
theorem dX6_spread_68 : decode cX6_spread 68 = .ok (.lastore, 1) := by decide +kernel
theorem dX6_spread_69 : decode cX6_spread 69 = .ok (.return_, 1) := by decide +kernel
theorem dX6_spread_70 : decode cX6_spread 70 = .ok (.aload_n 0, 1) := by decide +kernel
theorem dX6_spread_71 : decode cX6_spread 71 = .ok (.getfield 15, 3) := by decide +kernel
theorem dX6_spread_74 : decode cX6_spread 74 = .ok (.iload_n 2, 1) := by decide +kernel
theorem dX6_spread_75 : decode cX6_spread 75 = .ok (.dup2, 1) := by decide +kernel
theorem dX6_spread_76 : decode cX6_spread 76 = .ok (.laload, 1) := by decide +kernel
theorem dX6_spread_77 : decode cX6_spread 77 = .ok (.aload_n 0, 1) := by decide +kernel
theorem dX6_spread_78 : decode cX6_spread 78 = .ok (.getfield 9, 3) := by decide +kernel
theorem dX6_spread_81 : decode cX6_spread 81 = .ok (.iload_n 2, 1) := by decide +kernel
theorem dX6_spread_82 : decode cX6_spread 82 = .ok (.laload, 1) := by decide +kernel
theorem dX6_spread_83 : decode cX6_spread 83 = .ok (.ldc2_w 48, 3) := by decide +kernel
theorem dX6_spread_86 : decode cX6_spread 86 = .ok (.lmul, 1) := by decide +kernel
theorem dX6_spread_87 : decode cX6_spread 87 = .ok (.iload_n 3, 1) := by decide +kernel
theorem dX6_spread_88 : decode cX6_spread 88 = .ok (.i2l, 1) := by decide +kernel
theorem dX6_spread_89 : decode cX6_spread 89 = .ok (.lmul, 1) := by decide +kernel
theorem dX6_spread_90 : decode cX6_spread 90 = .ok (.ladd, 1) := by decide +kernel
theorem dX6_spread_91 : decode cX6_spread 91 = .ok (.lastore, 1) := by decide +kernel
theorem dX6_spread_92 : decode cX6_spread 92 = .ok (.iconst 0, 1) := by decide +kernel
theorem dX6_spread_93 : decode cX6_spread 93 = .ok (.istore 5, 2) := by decide +kernel
theorem dX6_spread_95 : decode cX6_spread 95 = .ok (.iload 5, 2) := by decide +kernel
theorem dX6_spread_97 : decode cX6_spread 97 = .ok (.aload_n 1, 1) := by decide +kernel
theorem dX6_spread_98 : decode cX6_spread 98 = .ok (.getfield 34, 3) := by decide +kernel
theorem dX6_spread_101 : decode cX6_spread 101 = .ok (.if_icmp .ge 48, 3) := by decide +kernel
theorem dX6_spread_104 : decode cX6_spread 104 = .ok (.aload_n 1, 1) := by decide +kernel
theorem dX6_spread_105 : decode cX6_spread 105 = .ok (.iload_n 2, 1) := by decide +kernel
theorem dX6_spread_106 : decode cX6_spread 106 = .ok (.iload 5, 2) := by decide +kernel
theorem dX6_spread_108 : decode cX6_spread 108 = .ok (.invokevirtual 44, 3) := by decide +kernel
theorem dX6_spread_111 : decode cX6_spread 111 = .ok (.ifCond .le 32, 3) := by decide +kernel
theorem dX6_spread_114 : decode cX6_spread 114 = .ok (.aload_n 0, 1) := by decide +kernel
theorem dX6_spread_115 : decode cX6_spread 115 = .ok (.getfield 15, 3) := by decide +kernel
theorem dX6_spread_118 : decode cX6_spread 118 = .ok (.iload 5, 2) := by decide +kernel
theorem dX6_spread_120 : decode cX6_spread 120 = .ok (.dup2, 1) := by decide +kernel
theorem dX6_spread_121 : decode cX6_spread 121 = .ok (.laload, 1) := by decide +kernel
theorem dX6_spread_122 : decode cX6_spread 122 = .ok (.aload_n 0, 1) := by decide +kernel
theorem dX6_spread_123 : decode cX6_spread 123 = .ok (.getfield 9, 3) := by decide +kernel
theorem dX6_spread_126 : decode cX6_spread 126 = .ok (.iload_n 2, 1) := by decide +kernel
theorem dX6_spread_127 : decode cX6_spread 127 = .ok (.laload, 1) := by decide +kernel
theorem dX6_spread_128 : decode cX6_spread 128 = .ok (.bipush 60, 2) := by decide +kernel
theorem dX6_spread_130 : decode cX6_spread 130 = .ok (.iload 4, 2) := by decide +kernel
theorem dX6_spread_132 : decode cX6_spread 132 = .ok (.idiv, 1) := by decide +kernel
theorem dX6_spread_133 : decode cX6_spread 133 = .ok (.i2l, 1) := by decide +kernel
theorem dX6_spread_134 : decode cX6_spread 134 = .ok (.lmul, 1) := by decide +kernel
theorem dX6_spread_135 : decode cX6_spread 135 = .ok (.bipush 10, 2) := by decide +kernel
theorem dX6_spread_137 : decode cX6_spread 137 = .ok (.iload_n 3, 1) := by decide +kernel
theorem dX6_spread_138 : decode cX6_spread 138 = .ok (.isub, 1) := by decide +kernel
theorem dX6_spread_139 : decode cX6_spread 139 = .ok (.i2l, 1) := by decide +kernel
theorem dX6_spread_140 : decode cX6_spread 140 = .ok (.lmul, 1) := by decide +kernel
theorem dX6_spread_141 : decode cX6_spread 141 = .ok (.ladd, 1) := by decide +kernel
theorem dX6_spread_142 : decode cX6_spread 142 = .ok (.lastore, 1) := by decide +kernel
theorem dX6_spread_143 : decode cX6_spread 143 = .ok (.iinc 5 1, 3) := by decide +kernel
theorem dX6_spread_146 : decode cX6_spread 146 = .ok (.goto (-51), 3) := by decide +kernel
theorem dX6_spread_149 : decode cX6_spread 149 = .ok (.return_, 1) := by decide +kernel
theorem dX6_upper_0 : decode cX6_upper 0 = .ok (.aload_n 0, 1) := by decide +kernel
theorem dX6_upper_1 : decode cX6_upper 1 = .ok (.getfield 9, 3) := by decide +kernel
theorem dX6_upper_4 : decode cX6_upper 4 = .ok (.iload_n 1, 1) := by decide +kernel
theorem dX6_upper_5 : decode cX6_upper 5 = .ok (.laload, 1) := by decide +kernel
theorem dX6_upper_6 : decode cX6_upper 6 = .ok (.aload_n 0, 1) := by decide +kernel
theorem dX6_upper_7 : decode cX6_upper 7 = .ok (.iload_n 1, 1) := by decide +kernel
theorem dX6_upper_8 : decode cX6_upper 8 = .ok (.invokevirtual 52, 3) := by decide +kernel
theorem dX6_upper_11 : decode cX6_upper 11 = .ok (.ldiv, 1) := by decide +kernel
theorem dX6_upper_12 : decode cX6_upper 12 = .ok (.lreturn, 1) := by decide +kernel
theorem dX6_lower_0 : decode cX6_lower 0 = .ok (.aload_n 0, 1) := by decide +kernel
theorem dX6_lower_1 : decode cX6_lower 1 = .ok (.getfield 30, 3) := by decide +kernel
theorem dX6_lower_4 : decode cX6_lower 4 = .ok (.aload_n 0, 1) := by decide +kernel
theorem dX6_lower_5 : decode cX6_lower 5 = .ok (.iload_n 1, 1) := by decide +kernel
theorem dX6_lower_6 : decode cX6_lower 6 = .ok (.invokevirtual 52, 3) := by decide +kernel
theorem dX6_lower_9 : decode cX6_lower 9 = .ok (.ldiv, 1) := by decide +kernel
theorem dX6_lower_10 : decode cX6_lower 10 = .ok (.lreturn, 1) := by decide +kernel
theorem dX6_shared_0 : decode cX6_shared 0 = .ok (.aload_n 0, 1) := by decide +kernel
theorem dX6_shared_1 : decode cX6_shared 1 = .ok (.getfield 30, 3) := by decide +kernel
theorem dX6_shared_4 : decode cX6_shared 4 = .ok (.lstore_n 2, 1) := by decide +kernel
theorem dX6_shared_5 : decode cX6_shared 5 = .ok (.aload_n 0, 1) := by decide +kernel
theorem dX6_shared_6 : decode cX6_shared 6 = .ok (.getfield 9, 3) := by decide +kernel
theorem dX6_shared_9 : decode cX6_shared 9 = .ok (.iload_n 1, 1) := by decide +kernel
theorem dX6_shared_10 : decode cX6_shared 10 = .ok (.laload, 1) := by decide +kernel
theorem dX6_shared_11 : decode cX6_shared 11 = .ok (.lstore 4, 2) := by decide +kernel
theorem dX6_shared_13 : decode cX6_shared 13 = .ok (.iconst 0, 1) := by decide +kernel
theorem dX6_shared_14 : decode cX6_shared 14 = .ok (.istore 6, 2) := by decide +kernel
theorem dX6_shared_16 : decode cX6_shared 16 = .ok (.iload 6, 2) := by decide +kernel
theorem dX6_shared_18 : decode cX6_shared 18 = .ok (.sipush 1000, 3) := by decide +kernel
theorem dX6_shared_21 : decode cX6_shared 21 = .ok (.if_icmp .ge 29, 3) := by decide +kernel
theorem dX6_shared_24 : decode cX6_shared 24 = .ok (.lload 4, 2) := by decide +kernel
theorem dX6_shared_26 : decode cX6_shared 26 = .ok (.lconst 0, 1) := by decide +kernel
theorem dX6_shared_27 : decode cX6_shared 27 = .ok (.lcmp, 1) := by decide +kernel
theorem dX6_shared_28 : decode cX6_shared 28 = .ok (.ifCond .eq 22, 3) := by decide +kernel
theorem dX6_shared_31 : decode cX6_shared 31 = .ok (.lload_n 2, 1) := by decide +kernel
theorem dX6_shared_32 : decode cX6_shared 32 = .ok (.lload 4, 2) := by decide +kernel
theorem dX6_shared_34 : decode cX6_shared 34 = .ok (.lrem, 1) := by decide +kernel
theorem dX6_shared_35 : decode cX6_shared 35 = .ok (.lstore 7, 2) := by decide +kernel
theorem dX6_shared_37 : decode cX6_shared 37 = .ok (.lload 4, 2) := by decide +kernel
theorem dX6_shared_39 : decode cX6_shared 39 = .ok (.lstore_n 2, 1) := by decide +kernel
theorem dX6_shared_40 : decode cX6_shared 40 = .ok (.lload 7, 2) := by decide +kernel
theorem dX6_shared_42 : decode cX6_shared 42 = .ok (.lstore 4, 2) := by decide +kernel
theorem dX6_shared_44 : decode cX6_shared 44 = .ok (.iinc 6 1, 3) := by decide +kernel
theorem dX6_shared_47 : decode cX6_shared 47 = .ok (.goto (-31), 3) := by decide +kernel
theorem dX6_shared_50 : decode cX6_shared 50 = .ok (.lload_n 2, 1) := by decide +kernel
theorem dX6_shared_51 : decode cX6_shared 51 = .ok (.lconst 0, 1) := by decide +kernel
theorem dX6_shared_52 : decode cX6_shared 52 = .ok (.lcmp, 1) := by decide +kernel
theorem dX6_shared_53 : decode cX6_shared 53 = .ok (.ifCond .ne 7, 3) := by decide +kernel
theorem dX6_shared_56 : decode cX6_shared 56 = .ok (.lconst 1, 1) := by decide +kernel
theorem dX6_shared_57 : decode cX6_shared 57 = .ok (.goto 4, 3) := by decide +kernel
theorem dX6_shared_60 : decode cX6_shared 60 = .ok (.lload_n 2, 1) := by decide +kernel
theorem dX6_shared_61 : decode cX6_shared 61 = .ok (.lreturn, 1) := by decide +kernel
end
section
theorem dX7_init_0 : decode cX7_init 0 = .ok (.aload_n 0, 1) := by decide +kernel
theorem dX7_init_1 : decode cX7_init 1 = .ok (.invokespecial 3, 3) := by decide +kernel
theorem dX7_init_4 : decode cX7_init 4 = .ok (.return_, 1) := by decide +kernel
theorem dX7_pass_0 : decode cX7_pass 0 = .ok (.aload_n 0, 1) := by decide +kernel
theorem dX7_pass_1 : decode cX7_pass 1 = .ok (.iconst 0, 1) := by decide +kernel
theorem dX7_pass_2 : decode cX7_pass 2 = .ok (.putfield 9, 3) := by decide +kernel
theorem dX7_pass_5 : decode cX7_pass 5 = .ok (.aload_n 0, 1) := by decide +kernel
theorem dX7_pass_6 : decode cX7_pass 6 = .ok (.iconst 0, 1) := by decide +kernel
theorem dX7_pass_7 : decode cX7_pass 7 = .ok (.putfield 15, 3) := by decide +kernel
theorem dX7_pass_10 : decode cX7_pass 10 = .ok (.iload_n 1, 1) := by decide +kernel
theorem dX7_pass_11 : decode cX7_pass 11 = .ok (.istore 4, 2) := by decide +kernel
theorem dX7_pass_13 : decode cX7_pass 13 = .ok (.iconst 0, 1) := by decide +kernel
theorem dX7_pass_14 : decode cX7_pass 14 = .ok (.istore 5, 2) := by decide +kernel
theorem dX7_pass_16 : decode cX7_pass 16 = .ok (.iload 5, 2) := by decide +kernel
theorem dX7_pass_18 : decode cX7_pass 18 = .ok (.iload_n 2, 1) := by decide +kernel
theorem dX7_pass_19 : decode cX7_pass 19 = .ok (.if_icmp .ge 45, 3) := by decide +kernel
theorem dX7_pass_22 : decode cX7_pass 22 = .ok (.bipush 75, 2) := by decide +kernel
theorem dX7_pass_24 : decode cX7_pass 24 = .ok (.iload 4, 2) := by decide +kernel
theorem dX7_pass_26 : decode cX7_pass 26 = .ok (.imul, 1) := by decide +kernel
theorem dX7_pass_27 : decode cX7_pass 27 = .ok (.bipush 74, 2) := by decide +kernel
theorem dX7_pass_29 : decode cX7_pass 29 = .ok (.iadd, 1) := by decide +kernel
theorem dX7_pass_30 : decode cX7_pass 30 = .ok (.ldc 18, 2) := by decide +kernel
theorem dX7_pass_32 : decode cX7_pass 32 = .ok (.irem, 1) := by decide +kernel
theorem dX7_pass_33 : decode cX7_pass 33 = .ok (.istore 4, 2) := by decide +kernel
theorem dX7_pass_35 : decode cX7_pass 35 = .ok (.aload_n 0, 1) := by decide +kernel
theorem dX7_pass_36 : decode cX7_pass 36 = .ok (.iload 4, 2) := by decide +kernel
theorem dX7_pass_38 : decode cX7_pass 38 = .ok (.aload_n 3, 1) := by decide +kernel
theorem dX7_pass_39 : decode cX7_pass 39 = .ok (.getfield 19, 3) := by decide +kernel
theorem dX7_pass_42 : decode cX7_pass 42 = .ok (.invokevirtual 25, 3) := by decide +kernel
theorem dX7_pass_45 : decode cX7_pass 45 = .ok (.aload_n 0, 1) := by decide +kernel
theorem dX7_pass_46 : decode cX7_pass 46 = .ok (.dup, 1) := by decide +kernel
theorem dX7_pass_47 : decode cX7_pass 47 = .ok (.getfield 9, 3) := by decide +kernel
theorem dX7_pass_50 : decode cX7_pass 50 = .ok (.aload_n 3, 1) := by decide +kernel
theorem dX7_pass_51 : decode cX7_pass 51 = .ok (.invokevirtual 29, 3) := by decide +kernel
theorem dX7_pass_54 : decode cX7_pass 54 = .ok (.iadd, 1) := by decide +kernel
theorem dX7_pass_55 : decode cX7_pass 55 = .ok (.putfield 9, 3) := by decide +kernel
theorem dX7_pass_58 : decode cX7_pass 58 = .ok (.iinc 5 1, 3) := by decide +kernel
theorem dX7_pass_61 : decode cX7_pass 61 = .ok (.goto (-45), 3) := by decide +kernel
theorem dX7_pass_64 : decode cX7_pass 64 = .ok (.return_, 1) := by decide +kernel
theorem dX7_meet_0 : decode cX7_meet 0 = .ok (.iload_n 1, 1) := by decide +kernel
theorem dX7_meet_1 : decode cX7_meet 1 = .ok (.bipush 8, 2) := by decide +kernel
theorem dX7_meet_3 : decode cX7_meet 3 = .ok (.irem, 1) := by decide +kernel
theorem dX7_meet_4 : decode cX7_meet 4 = .ok (.istore_n 3, 1) := by decide +kernel
theorem dX7_meet_5 : decode cX7_meet 5 = .ok (.iload_n 1, 1) := by decide +kernel
theorem dX7_meet_6 : decode cX7_meet 6 = .ok (.bipush 8, 2) := by decide +kernel
theorem dX7_meet_8 : decode cX7_meet 8 = .ok (.idiv, 1) := by decide +kernel
theorem dX7_meet_9 : decode cX7_meet 9 = .ok (.bipush 8, 2) := by decide +kernel
theorem dX7_meet_11 : decode cX7_meet 11 = .ok (.irem, 1) := by decide +kernel
theorem dX7_meet_12 : decode cX7_meet 12 = .ok (.istore 4, 2) := by decide +kernel
theorem dX7_meet_14 : decode cX7_meet 14 = .ok (.iload_n 3, 1) := by decide +kernel
theorem dX7_meet_15 : decode cX7_meet 15 = .ok (.iload 4, 2) := by decide +kernel
theorem dX7_meet_17 : decode cX7_meet 17 = .ok (.if_icmp .eq 38, 3) := by decide +kernel
theorem dX7_meet_20 : decode cX7_meet 20 = .ok (.aload_n 2, 1) := by decide +kernel
theorem dX7_meet_21 : decode cX7_meet 21 = .ok (.iload_n 3, 1) := by decide +kernel
theorem dX7_meet_22 : decode cX7_meet 22 = .ok (.iload 4, 2) := by decide +kernel
theorem dX7_meet_24 : decode cX7_meet 24 = .ok (.invokevirtual 33, 3) := by decide +kernel
theorem dX7_meet_27 : decode cX7_meet 27 = .ok (.ifCond .ne 28, 3) := by decide +kernel
theorem dX7_meet_30 : decode cX7_meet 30 = .ok (.aload_n 2, 1) := by decide +kernel
theorem dX7_meet_31 : decode cX7_meet 31 = .ok (.iload_n 3, 1) := by decide +kernel
theorem dX7_meet_32 : decode cX7_meet 32 = .ok (.iload 4, 2) := by decide +kernel
theorem dX7_meet_34 : decode cX7_meet 34 = .ok (.iconst 1, 1) := by decide +kernel
theorem dX7_meet_35 : decode cX7_meet 35 = .ok (.iload_n 1, 1) := by decide +kernel
theorem dX7_meet_36 : decode cX7_meet 36 = .ok (.bipush 64, 2) := by decide +kernel
theorem dX7_meet_38 : decode cX7_meet 38 = .ok (.idiv, 1) := by decide +kernel
theorem dX7_meet_39 : decode cX7_meet 39 = .ok (.iconst 5, 1) := by decide +kernel
theorem dX7_meet_40 : decode cX7_meet 40 = .ok (.irem, 1) := by decide +kernel
theorem dX7_meet_41 : decode cX7_meet 41 = .ok (.iadd, 1) := by decide +kernel
theorem dX7_meet_42 : decode cX7_meet 42 = .ok (.invokevirtual 39, 3) := by decide +kernel
theorem dX7_meet_45 : decode cX7_meet 45 = .ok (.aload_n 0, 1) := by decide +kernel
theorem dX7_meet_46 : decode cX7_meet 46 = .ok (.dup, 1) := by decide +kernel
theorem dX7_meet_47 : decode cX7_meet 47 = .ok (.getfield 15, 3) := by decide +kernel
theorem dX7_meet_50 : decode cX7_meet 50 = .ok (.iconst 1, 1) := by decide +kernel
theorem dX7_meet_51 : decode cX7_meet 51 = .ok (.iadd, 1) := by decide +kernel
theorem dX7_meet_52 : decode cX7_meet 52 = .ok (.putfield 15, 3) := by decide +kernel
theorem dX7_meet_55 : decode cX7_meet 55 = .ok (.return_, 1) := by decide +kernel
end
section
theorem dX8_init_0 : decode cX8_init 0 = .ok (.aload_n 0, 1) := by decide +kernel
theorem dX8_init_1 : decode cX8_init 1 = .ok (.invokespecial 1, 3) := by decide +kernel
theorem dX8_init_4 : decode cX8_init 4 = .ok (.aload_n 0, 1) := by decide +kernel
theorem dX8_init_5 : decode cX8_init 5 = .ok (.new 7, 3) := by decide +kernel
theorem dX8_init_8 : decode cX8_init 8 = .ok (.dup, 1) := by decide +kernel
theorem dX8_init_9 : decode cX8_init 9 = .ok (.invokespecial 9, 3) := by decide +kernel
theorem dX8_init_12 : decode cX8_init 12 = .ok (.putfield 10, 3) := by decide +kernel
theorem dX8_init_15 : decode cX8_init 15 = .ok (.aload_n 0, 1) := by decide +kernel
theorem dX8_init_16 : decode cX8_init 16 = .ok (.iconst 2, 1) := by decide +kernel
theorem dX8_init_17 : decode cX8_init 17 = .ok (.anewarray 7, 3) := by decide +kernel
theorem dX8_init_20 : decode cX8_init 20 = .ok (.dup, 1) := by decide +kernel
theorem dX8_init_21 : decode cX8_init 21 = .ok (.iconst 0, 1) := by decide +kernel
theorem dX8_init_22 : decode cX8_init 22 = .ok (.new 7, 3) := by decide +kernel
theorem dX8_init_25 : decode cX8_init 25 = .ok (.dup, 1) := by decide +kernel
theorem dX8_init_26 : decode cX8_init 26 = .ok (.invokespecial 9, 3) := by decide +kernel
theorem dX8_init_29 : decode cX8_init 29 = .ok (.aastore, 1) := by decide +kernel
theorem dX8_init_30 : decode cX8_init 30 = .ok (.dup, 1) := by decide +kernel
theorem dX8_init_31 : decode cX8_init 31 = .ok (.iconst 1, 1) := by decide +kernel
theorem dX8_init_32 : decode cX8_init 32 = .ok (.new 7, 3) := by decide +kernel
theorem dX8_init_35 : decode cX8_init 35 = .ok (.dup, 1) := by decide +kernel
theorem dX8_init_36 : decode cX8_init 36 = .ok (.invokespecial 9, 3) := by decide +kernel
theorem dX8_init_39 : decode cX8_init 39 = .ok (.aastore, 1) := by decide +kernel
theorem dX8_init_40 : decode cX8_init 40 = .ok (.putfield 16, 3) := by decide +kernel
theorem dX8_init_43 : decode cX8_init 43 = .ok (.aload_n 0, 1) := by decide +kernel
theorem dX8_init_44 : decode cX8_init 44 = .ok (.iconst 2, 1) := by decide +kernel
theorem dX8_init_45 : decode cX8_init 45 = .ok (.newarray .boolean, 2) := by decide +kernel
theorem dX8_init_47 : decode cX8_init 47 = .ok (.putfield 20, 3) := by decide +kernel
theorem dX8_init_50 : decode cX8_init 50 = .ok (.aload_n 0, 1) := by decide +kernel
theorem dX8_init_51 : decode cX8_init 51 = .ok (.new 24, 3) := by decide +kernel
theorem dX8_init_54 : decode cX8_init 54 = .ok (.dup, 1) := by decide +kernel
theorem dX8_init_55 : decode cX8_init 55 = .ok (.invokespecial 26, 3) := by decide +kernel
theorem dX8_init_58 : decode cX8_init 58 = .ok (.putfield 27, 3) := by decide +kernel
theorem dX8_init_61 : decode cX8_init 61 = .ok (.aload_n 0, 1) := by decide +kernel
theorem dX8_init_62 : decode cX8_init 62 = .ok (.new 31, 3) := by decide +kernel
theorem dX8_init_65 : decode cX8_init 65 = .ok (.dup, 1) := by decide +kernel
theorem dX8_init_66 : decode cX8_init 66 = .ok (.invokespecial 33, 3) := by decide +kernel
theorem dX8_init_69 : decode cX8_init 69 = .ok (.putfield 34, 3) := by decide +kernel
theorem dX8_init_72 : decode cX8_init 72 = .ok (.aload_n 0, 1) := by decide +kernel
theorem dX8_init_73 : decode cX8_init 73 = .ok (.new 38, 3) := by decide +kernel
theorem dX8_init_76 : decode cX8_init 76 = .ok (.dup, 1) := by decide +kernel
theorem dX8_init_77 : decode cX8_init 77 = .ok (.invokespecial 40, 3) := by decide +kernel
theorem dX8_init_80 : decode cX8_init 80 = .ok (.putfield 41, 3) := by decide +kernel
theorem dX8_init_83 : decode cX8_init 83 = .ok (.aload_n 0, 1) := by decide +kernel
theorem dX8_init_84 : decode cX8_init 84 = .ok (.new 45, 3) := by decide +kernel
theorem dX8_init_87 : decode cX8_init 87 = .ok (.dup, 1) := by decide +kernel
theorem dX8_init_88 : decode cX8_init 88 = .ok (.invokespecial 47, 3) := by decide +kernel
theorem dX8_init_91 : decode cX8_init 91 = .ok (.putfield 48, 3) := by decide +kernel
theorem dX8_init_94 : decode cX8_init 94 = .ok (.aload_n 0, 1) := by decide +kernel
theorem dX8_init_95 : decode cX8_init 95 = .ok (.new 52, 3) := by decide +kernel
theorem dX8_init_98 : decode cX8_init 98 = .ok (.dup, 1) := by decide +kernel
theorem dX8_init_99 : decode cX8_init 99 = .ok (.invokespecial 54, 3) := by decide +kernel
theorem dX8_init_102 : decode cX8_init 102 = .ok (.putfield 55, 3) := by decide +kernel
theorem dX8_init_105 : decode cX8_init 105 = .ok (.aload_n 0, 1) := by decide +kernel
theorem dX8_init_106 : decode cX8_init 106 = .ok (.new 59, 3) := by decide +kernel
theorem dX8_init_109 : decode cX8_init 109 = .ok (.dup, 1) := by decide +kernel
theorem dX8_init_110 : decode cX8_init 110 = .ok (.invokespecial 61, 3) := by decide +kernel
theorem dX8_init_113 : decode cX8_init 113 = .ok (.putfield 62, 3) := by decide +kernel
theorem dX8_init_116 : decode cX8_init 116 = .ok (.aload_n 0, 1) := by decide +kernel
theorem dX8_init_117 : decode cX8_init 117 = .ok (.new 66, 3) := by decide +kernel
theorem dX8_init_120 : decode cX8_init 120 = .ok (.dup, 1) := by decide +kernel
theorem dX8_init_121 : decode cX8_init 121 = .ok (.invokespecial 68, 3) := by decide +kernel
theorem dX8_init_124 : decode cX8_init 124 = .ok (.putfield 69, 3) := by decide +kernel
theorem dX8_init_127 : decode cX8_init 127 = .ok (.aload_n 0, 1) := by decide +kernel
theorem dX8_init_128 : decode cX8_init 128 = .ok (.bipush 100, 2) := by decide +kernel
theorem dX8_init_130 : decode cX8_init 130 = .ok (.newarray .long, 2) := by decide +kernel
theorem dX8_init_132 : decode cX8_init 132 = .ok (.putfield 73, 3) := by decide +kernel
theorem dX8_init_135 : decode cX8_init 135 = .ok (.aload_n 0, 1) := by decide +kernel
theorem dX8_init_136 : decode cX8_init 136 = .ok (.getfield 10, 3) := by decide +kernel
theorem dX8_init_139 : decode cX8_init 139 = .ok (.iconst 3, 1) := by decide +kernel
theorem dX8_init_140 : decode cX8_init 140 = .ok (.invokevirtual 77, 3) := by decide +kernel
theorem dX8_init_143 : decode cX8_init 143 = .ok (.return_, 1) := by decide +kernel
theorem dX8_rooms_0 : decode cX8_rooms 0 = .ok (.iload_n 1, 1) := by decide +kernel
theorem dX8_rooms_1 : decode cX8_rooms 1 = .ok (.iconst 2, 1) := by decide +kernel
theorem dX8_rooms_2 : decode cX8_rooms 2 = .ok (.if_icmp .lt 9, 3) := by decide +kernel
theorem dX8_rooms_5 : decode cX8_rooms 5 = .ok (.iload_n 1, 1) := by decide +kernel
theorem dX8_rooms_6 : decode cX8_rooms 6 = .ok (.bipush 6, 2) := by decide +kernel
theorem dX8_rooms_8 : decode cX8_rooms 8 = .ok (.if_icmp .le 6, 3) := by decide +kernel
theorem dX8_rooms_11 : decode cX8_rooms 11 = .ok (.bipush (-2), 2) := by decide +kernel
theorem dX8_rooms_13 : decode cX8_rooms 13 = .ok (.ireturn, 1) := by decide +kernel
theorem dX8_rooms_14 : decode cX8_rooms 14 = .ok (.aload_n 0, 1) := by decide +kernel
theorem dX8_rooms_15 : decode cX8_rooms 15 = .ok (.getfield 10, 3) := by decide +kernel
theorem dX8_rooms_18 : decode cX8_rooms 18 = .ok (.getfield 81, 3) := by decide +kernel
theorem dX8_rooms_21 : decode cX8_rooms 21 = .ok (.istore_n 2, 1) := by decide +kernel
theorem dX8_rooms_22 : decode cX8_rooms 22 = .ok (.aload_n 0, 1) := by decide +kernel
theorem dX8_rooms_23 : decode cX8_rooms 23 = .ok (.getfield 10, 3) := by decide +kernel
theorem dX8_rooms_26 : decode cX8_rooms 26 = .ok (.iload_n 1, 1) := by decide +kernel
theorem dX8_rooms_27 : decode cX8_rooms 27 = .ok (.invokevirtual 77, 3) := by decide +kernel
theorem dX8_rooms_30 : decode cX8_rooms 30 = .ok (.iload_n 2, 1) := by decide +kernel
theorem dX8_rooms_31 : decode cX8_rooms 31 = .ok (.ireturn, 1) := by decide +kernel
theorem dX8_room_0 : decode cX8_room 0 = .ok (.aload_n 0, 1) := by decide +kernel
theorem dX8_room_1 : decode cX8_room 1 = .ok (.getfield 10, 3) := by decide +kernel
theorem dX8_room_4 : decode cX8_room 4 = .ok (.iload_n 1, 1) := by decide +kernel
theorem dX8_room_5 : decode cX8_room 5 = .ok (.invokevirtual 85, 3) := by decide +kernel
theorem dX8_room_8 : decode cX8_room 8 = .ok (.ifCond .ne 5, 3) := by decide +kernel
theorem dX8_room_11 : decode cX8_room 11 = .ok (.iconst (-1), 1) := by decide +kernel
theorem dX8_room_12 : decode cX8_room 12 = .ok (.ireturn, 1) := by decide +kernel
theorem dX8_room_13 : decode cX8_room 13 = .ok (.iload_n 2, 1) := by decide +kernel
theorem dX8_room_14 : decode cX8_room 14 = .ok (.ifCond .lt 29, 3) := by decide +kernel
theorem dX8_room_17 : decode cX8_room 17 = .ok (.iload_n 2, 1) := by decide +kernel
theorem dX8_room_18 : decode cX8_room 18 = .ok (.bipush 6, 2) := by decide +kernel
theorem dX8_room_20 : decode cX8_room 20 = .ok (.if_icmp .ge 23, 3) := by decide +kernel
theorem dX8_room_23 : decode cX8_room 23 = .ok (.iload_n 3, 1) := by decide +kernel
theorem dX8_room_24 : decode cX8_room 24 = .ok (.iload_n 2, 1) := by decide +kernel
theorem dX8_room_25 : decode cX8_room 25 = .ok (.iconst 4, 1) := by decide +kernel
theorem dX8_room_26 : decode cX8_room 26 = .ok (.if_icmp .ne 7, 3) := by decide +kernel
theorem dX8_room_29 : decode cX8_room 29 = .ok (.iconst 1, 1) := by decide +kernel
theorem dX8_room_30 : decode cX8_room 30 = .ok (.goto 4, 3) := by decide +kernel
theorem dX8_room_33 : decode cX8_room 33 = .ok (.iconst 0, 1) := by decide +kernel
theorem dX8_room_34 : decode cX8_room 34 = .ok (.if_icmp .lt 9, 3) := by decide +kernel
theorem dX8_room_37 : decode cX8_room 37 = .ok (.iload_n 3, 1) := by decide +kernel
theorem dX8_room_38 : decode cX8_room 38 = .ok (.bipush 9, 2) := by decide +kernel
theorem dX8_room_40 : decode cX8_room 40 = .ok (.if_icmp .le 6, 3) := by decide +kernel
theorem dX8_room_43 : decode cX8_room 43 = .ok (.bipush (-2), 2) := by decide +kernel
theorem dX8_room_45 : decode cX8_room 45 = .ok (.ireturn, 1) := by decide +kernel
theorem dX8_room_46 : decode cX8_room 46 = .ok (.iload_n 2, 1) := by decide +kernel
theorem dX8_room_47 : decode cX8_room 47 = .ok (.iconst 4, 1) := by decide +kernel
theorem dX8_room_48 : decode cX8_room 48 = .ok (.if_icmp .ne 15, 3) := by decide +kernel
theorem dX8_room_51 : decode cX8_room 51 = .ok (.iload_n 3, 1) := by decide +kernel
theorem dX8_room_52 : decode cX8_room 52 = .ok (.aload_n 0, 1) := by decide +kernel
theorem dX8_room_53 : decode cX8_room 53 = .ok (.getfield 10, 3) := by decide +kernel
theorem dX8_room_56 : decode cX8_room 56 = .ok (.iload_n 1, 1) := by decide +kernel
theorem dX8_room_57 : decode cX8_room 57 = .ok (.invokevirtual 89, 3) := by decide +kernel
theorem dX8_room_60 : decode cX8_room 60 = .ok (.if_icmp .lt 20, 3) := by decide +kernel
theorem dX8_room_63 : decode cX8_room 63 = .ok (.iload_n 2, 1) := by decide +kernel
theorem dX8_room_64 : decode cX8_room 64 = .ok (.iconst 5, 1) := by decide +kernel
theorem dX8_room_65 : decode cX8_room 65 = .ok (.if_icmp .ne 18, 3) := by decide +kernel
theorem dX8_room_68 : decode cX8_room 68 = .ok (.iload_n 3, 1) := by decide +kernel
theorem dX8_room_69 : decode cX8_room 69 = .ok (.aload_n 0, 1) := by decide +kernel
theorem dX8_room_70 : decode cX8_room 70 = .ok (.getfield 10, 3) := by decide +kernel
theorem dX8_room_73 : decode cX8_room 73 = .ok (.iload_n 1, 1) := by decide +kernel
theorem dX8_room_74 : decode cX8_room 74 = .ok (.invokevirtual 93, 3) := by decide +kernel
theorem dX8_room_77 : decode cX8_room 77 = .ok (.if_icmp .ge 6, 3) := by decide +kernel
theorem dX8_room_80 : decode cX8_room 80 = .ok (.bipush (-3), 2) := by decide +kernel
theorem dX8_room_82 : decode cX8_room 82 = .ok (.ireturn, 1) := by decide +kernel
theorem dX8_room_83 : decode cX8_room 83 = .ok (.iload_n 1, 1) := by decide +kernel
theorem dX8_room_84 : decode cX8_room 84 = .ok (.bipush 6, 2) := by decide +kernel
theorem dX8_room_86 : decode cX8_room 86 = .ok (.imul, 1) := by decide +kernel
theorem dX8_room_87 : decode cX8_room 87 = .ok (.iload_n 2, 1) := by decide +kernel
theorem dX8_room_88 : decode cX8_room 88 = .ok (.iadd, 1) := by decide +kernel
theorem dX8_room_89 : decode cX8_room 89 = .ok (.istore 4, 2) := by decide +kernel
theorem dX8_room_91 : decode cX8_room 91 = .ok (.aload_n 0, 1) := by decide +kernel
theorem dX8_room_92 : decode cX8_room 92 = .ok (.getfield 10, 3) := by decide +kernel
theorem dX8_room_95 : decode cX8_room 95 = .ok (.getfield 96, 3) := by decide +kernel
theorem dX8_room_98 : decode cX8_room 98 = .ok (.iload 4, 2) := by decide +kernel
theorem dX8_room_100 : decode cX8_room 100 = .ok (.iaload, 1) := by decide +kernel
theorem dX8_room_101 : decode cX8_room 101 = .ok (.istore 5, 2) := by decide +kernel
theorem dX8_room_103 : decode cX8_room 103 = .ok (.aload_n 0, 1) := by decide +kernel
theorem dX8_room_104 : decode cX8_room 104 = .ok (.getfield 10, 3) := by decide +kernel
theorem dX8_room_107 : decode cX8_room 107 = .ok (.getfield 96, 3) := by decide +kernel
theorem dX8_room_110 : decode cX8_room 110 = .ok (.iload 4, 2) := by decide +kernel
theorem dX8_room_112 : decode cX8_room 112 = .ok (.iload_n 3, 1) := by decide +kernel
theorem dX8_room_113 : decode cX8_room 113 = .ok (.iastore, 1) := by decide +kernel
theorem dX8_room_114 : decode cX8_room 114 = .ok (.iload 5, 2) := by decide +kernel
theorem dX8_room_116 : decode cX8_room 116 = .ok (.ireturn, 1) := by decide +kernel
theorem dX8_door_0 : decode cX8_door 0 = .ok (.aload_n 0, 1) := by decide +kernel
theorem dX8_door_1 : decode cX8_door 1 = .ok (.getfield 10, 3) := by decide +kernel
theorem dX8_door_4 : decode cX8_door 4 = .ok (.iload_n 1, 1) := by decide +kernel
theorem dX8_door_5 : decode cX8_door 5 = .ok (.invokevirtual 85, 3) := by decide +kernel
theorem dX8_door_8 : decode cX8_door 8 = .ok (.ifCond .eq 19, 3) := by decide +kernel
theorem dX8_door_11 : decode cX8_door 11 = .ok (.aload_n 0, 1) := by decide +kernel
theorem dX8_door_12 : decode cX8_door 12 = .ok (.getfield 10, 3) := by decide +kernel
theorem dX8_door_15 : decode cX8_door 15 = .ok (.iload_n 2, 1) := by decide +kernel
theorem dX8_door_16 : decode cX8_door 16 = .ok (.invokevirtual 85, 3) := by decide +kernel
theorem dX8_door_19 : decode cX8_door 19 = .ok (.ifCond .eq 8, 3) := by decide +kernel
theorem dX8_door_22 : decode cX8_door 22 = .ok (.iload_n 1, 1) := by decide +kernel
theorem dX8_door_23 : decode cX8_door 23 = .ok (.iload_n 2, 1) := by decide +kernel
theorem dX8_door_24 : decode cX8_door 24 = .ok (.if_icmp .ne 5, 3) := by decide +kernel
theorem dX8_door_27 : decode cX8_door 27 = .ok (.iconst (-1), 1) := by decide +kernel
theorem dX8_door_28 : decode cX8_door 28 = .ok (.ireturn, 1) := by decide +kernel
theorem dX8_door_29 : decode cX8_door 29 = .ok (.iload_n 3, 1) := by decide +kernel
theorem dX8_door_30 : decode cX8_door 30 = .ok (.ifCond .lt 8, 3) := by decide +kernel
theorem dX8_door_33 : decode cX8_door 33 = .ok (.iload_n 3, 1) := by decide +kernel
theorem dX8_door_34 : decode cX8_door 34 = .ok (.iconst 3, 1) := by decide +kernel
theorem dX8_door_35 : decode cX8_door 35 = .ok (.if_icmp .le 6, 3) := by decide +kernel
theorem dX8_door_38 : decode cX8_door 38 = .ok (.bipush (-2), 2) := by decide +kernel
theorem dX8_door_40 : decode cX8_door 40 = .ok (.ireturn, 1) := by decide +kernel
theorem dX8_door_41 : decode cX8_door 41 = .ok (.iload_n 3, 1) := by decide +kernel
theorem dX8_door_42 : decode cX8_door 42 = .ok (.ifCond .ne 18, 3) := by decide +kernel
theorem dX8_door_45 : decode cX8_door 45 = .ok (.aload_n 0, 1) := by decide +kernel
theorem dX8_door_46 : decode cX8_door 46 = .ok (.getfield 10, 3) := by decide +kernel
theorem dX8_door_49 : decode cX8_door 49 = .ok (.iload_n 1, 1) := by decide +kernel
theorem dX8_door_50 : decode cX8_door 50 = .ok (.iload_n 2, 1) := by decide +kernel
theorem dX8_door_51 : decode cX8_door 51 = .ok (.invokevirtual 100, 3) := by decide +kernel
theorem dX8_door_54 : decode cX8_door 54 = .ok (.ifCond .le 6, 3) := by decide +kernel
theorem dX8_door_57 : decode cX8_door 57 = .ok (.bipush (-3), 2) := by decide +kernel
theorem dX8_door_59 : decode cX8_door 59 = .ok (.ireturn, 1) := by decide +kernel
theorem dX8_door_60 : decode cX8_door 60 = .ok (.aload_n 0, 1) := by decide +kernel
theorem dX8_door_61 : decode cX8_door 61 = .ok (.getfield 10, 3) := by decide +kernel
theorem dX8_door_64 : decode cX8_door 64 = .ok (.iload_n 1, 1) := by decide +kernel
theorem dX8_door_65 : decode cX8_door 65 = .ok (.iload_n 2, 1) := by decide +kernel
theorem dX8_door_66 : decode cX8_door 66 = .ok (.invokevirtual 104, 3) := by decide +kernel
theorem dX8_door_69 : decode cX8_door 69 = .ok (.istore 4, 2) := by decide +kernel
theorem dX8_door_71 : decode cX8_door 71 = .ok (.aload_n 0, 1) := by decide +kernel
theorem dX8_door_72 : decode cX8_door 72 = .ok (.getfield 10, 3) := by decide +kernel
theorem dX8_door_75 : decode cX8_door 75 = .ok (.getfield 107, 3) := by decide +kernel
theorem dX8_door_78 : decode cX8_door 78 = .ok (.iload_n 1, 1) := by decide +kernel
theorem dX8_door_79 : decode cX8_door 79 = .ok (.bipush 6, 2) := by decide +kernel
theorem dX8_door_81 : decode cX8_door 81 = .ok (.imul, 1) := by decide +kernel
theorem dX8_door_82 : decode cX8_door 82 = .ok (.iload_n 2, 1) := by decide +kernel
theorem dX8_door_83 : decode cX8_door 83 = .ok (.iadd, 1) := by decide +kernel
theorem dX8_door_84 : decode cX8_door 84 = .ok (.iload_n 3, 1) := by decide +kernel
theorem dX8_door_85 : decode cX8_door 85 = .ok (.iastore, 1) := by decide +kernel
theorem dX8_door_86 : decode cX8_door 86 = .ok (.aload_n 0, 1) := by decide +kernel
theorem dX8_door_87 : decode cX8_door 87 = .ok (.getfield 10, 3) := by decide +kernel
theorem dX8_door_90 : decode cX8_door 90 = .ok (.getfield 107, 3) := by decide +kernel
theorem dX8_door_93 : decode cX8_door 93 = .ok (.iload_n 2, 1) := by decide +kernel
theorem dX8_door_94 : decode cX8_door 94 = .ok (.bipush 6, 2) := by decide +kernel
theorem dX8_door_96 : decode cX8_door 96 = .ok (.imul, 1) := by decide +kernel
theorem dX8_door_97 : decode cX8_door 97 = .ok (.iload_n 1, 1) := by decide +kernel
theorem dX8_door_98 : decode cX8_door 98 = .ok (.iadd, 1) := by decide +kernel
theorem dX8_door_99 : decode cX8_door 99 = .ok (.iload_n 3, 1) := by decide +kernel
theorem dX8_door_100 : decode cX8_door 100 = .ok (.iastore, 1) := by decide +kernel
theorem dX8_door_101 : decode cX8_door 101 = .ok (.iload 4, 2) := by decide +kernel
theorem dX8_door_103 : decode cX8_door 103 = .ok (.ireturn, 1) := by decide +kernel
theorem dX8_guest_0 : decode cX8_guest 0 = .ok (.iload_n 1, 1) := by decide +kernel
theorem dX8_guest_1 : decode cX8_guest 1 = .ok (.ifCond .lt 20, 3) := by decide +kernel
theorem dX8_guest_4 : decode cX8_guest 4 = .ok (.iload_n 1, 1) := by decide +kernel
theorem dX8_guest_5 : decode cX8_guest 5 = .ok (.bipush 8, 2) := by decide +kernel
theorem dX8_guest_7 : decode cX8_guest 7 = .ok (.if_icmp .ge 14, 3) := by decide +kernel
theorem dX8_guest_10 : decode cX8_guest 10 = .ok (.aload_n 0, 1) := by decide +kernel
theorem dX8_guest_11 : decode cX8_guest 11 = .ok (.getfield 10, 3) := by decide +kernel
theorem dX8_guest_14 : decode cX8_guest 14 = .ok (.iload_n 2, 1) := by decide +kernel
theorem dX8_guest_15 : decode cX8_guest 15 = .ok (.invokevirtual 85, 3) := by decide +kernel
theorem dX8_guest_18 : decode cX8_guest 18 = .ok (.ifCond .ne 5, 3) := by decide +kernel
theorem dX8_guest_21 : decode cX8_guest 21 = .ok (.iconst (-1), 1) := by decide +kernel
theorem dX8_guest_22 : decode cX8_guest 22 = .ok (.ireturn, 1) := by decide +kernel
theorem dX8_guest_23 : decode cX8_guest 23 = .ok (.aload_n 0, 1) := by decide +kernel
theorem dX8_guest_24 : decode cX8_guest 24 = .ok (.getfield 10, 3) := by decide +kernel
theorem dX8_guest_27 : decode cX8_guest 27 = .ok (.iload_n 1, 1) := by decide +kernel
theorem dX8_guest_28 : decode cX8_guest 28 = .ok (.iload_n 2, 1) := by decide +kernel
theorem dX8_guest_29 : decode cX8_guest 29 = .ok (.invokevirtual 110, 3) := by decide +kernel
theorem dX8_guest_32 : decode cX8_guest 32 = .ok (.aload_n 0, 1) := by decide +kernel
theorem dX8_guest_33 : decode cX8_guest 33 = .ok (.getfield 10, 3) := by decide +kernel
theorem dX8_guest_36 : decode cX8_guest 36 = .ok (.iload_n 2, 1) := by decide +kernel
theorem dX8_guest_37 : decode cX8_guest 37 = .ok (.invokevirtual 113, 3) := by decide +kernel
theorem dX8_guest_40 : decode cX8_guest 40 = .ok (.if_icmp .lt 6, 3) := by decide +kernel
theorem dX8_guest_43 : decode cX8_guest 43 = .ok (.bipush (-4), 2) := by decide +kernel
theorem dX8_guest_45 : decode cX8_guest 45 = .ok (.ireturn, 1) := by decide +kernel
theorem dX8_guest_46 : decode cX8_guest 46 = .ok (.aload_n 0, 1) := by decide +kernel
theorem dX8_guest_47 : decode cX8_guest 47 = .ok (.getfield 10, 3) := by decide +kernel
theorem dX8_guest_50 : decode cX8_guest 50 = .ok (.iload_n 1, 1) := by decide +kernel
theorem dX8_guest_51 : decode cX8_guest 51 = .ok (.invokevirtual 116, 3) := by decide +kernel
theorem dX8_guest_54 : decode cX8_guest 54 = .ok (.aload_n 0, 1) := by decide +kernel
theorem dX8_guest_55 : decode cX8_guest 55 = .ok (.getfield 10, 3) := by decide +kernel
theorem dX8_guest_58 : decode cX8_guest 58 = .ok (.dup, 1) := by decide +kernel
theorem dX8_guest_59 : decode cX8_guest 59 = .ok (.getfield 119, 3) := by decide +kernel
theorem dX8_guest_62 : decode cX8_guest 62 = .ok (.iconst 1, 1) := by decide +kernel
theorem dX8_guest_63 : decode cX8_guest 63 = .ok (.iload_n 1, 1) := by decide +kernel
theorem dX8_guest_64 : decode cX8_guest 64 = .ok (.ishl, 1) := by decide +kernel
theorem dX8_guest_65 : decode cX8_guest 65 = .ok (.ior, 1) := by decide +kernel
theorem dX8_guest_66 : decode cX8_guest 66 = .ok (.putfield 119, 3) := by decide +kernel
theorem dX8_guest_69 : decode cX8_guest 69 = .ok (.aload_n 0, 1) := by decide +kernel
theorem dX8_guest_70 : decode cX8_guest 70 = .ok (.getfield 10, 3) := by decide +kernel
theorem dX8_guest_73 : decode cX8_guest 73 = .ok (.getfield 122, 3) := by decide +kernel
theorem dX8_guest_76 : decode cX8_guest 76 = .ok (.iload_n 1, 1) := by decide +kernel
theorem dX8_guest_77 : decode cX8_guest 77 = .ok (.iload_n 2, 1) := by decide +kernel
theorem dX8_guest_78 : decode cX8_guest 78 = .ok (.iastore, 1) := by decide +kernel
theorem dX8_guest_79 : decode cX8_guest 79 = .ok (.aload_n 0, 1) := by decide +kernel
theorem dX8_guest_80 : decode cX8_guest 80 = .ok (.getfield 10, 3) := by decide +kernel
theorem dX8_guest_83 : decode cX8_guest 83 = .ok (.getfield 119, 3) := by decide +kernel
theorem dX8_guest_86 : decode cX8_guest 86 = .ok (.invokestatic 125, 3) := by decide +kernel
theorem dX8_guest_89 : decode cX8_guest 89 = .ok (.ireturn, 1) := by decide +kernel
theorem dX8_likes_0 : decode cX8_likes 0 = .ok (.aload_n 0, 1) := by decide +kernel
theorem dX8_likes_1 : decode cX8_likes 1 = .ok (.getfield 10, 3) := by decide +kernel
theorem dX8_likes_4 : decode cX8_likes 4 = .ok (.iload_n 1, 1) := by decide +kernel
theorem dX8_likes_5 : decode cX8_likes 5 = .ok (.invokevirtual 130, 3) := by decide +kernel
theorem dX8_likes_8 : decode cX8_likes 8 = .ok (.ifCond .ne 5, 3) := by decide +kernel
theorem dX8_likes_11 : decode cX8_likes 11 = .ok (.iconst (-1), 1) := by decide +kernel
theorem dX8_likes_12 : decode cX8_likes 12 = .ok (.ireturn, 1) := by decide +kernel
theorem dX8_likes_13 : decode cX8_likes 13 = .ok (.iload_n 2, 1) := by decide +kernel
theorem dX8_likes_14 : decode cX8_likes 14 = .ok (.ifCond .lt 19, 3) := by decide +kernel
theorem dX8_likes_17 : decode cX8_likes 17 = .ok (.iload_n 2, 1) := by decide +kernel
theorem dX8_likes_18 : decode cX8_likes 18 = .ok (.iconst 5, 1) := by decide +kernel
theorem dX8_likes_19 : decode cX8_likes 19 = .ok (.if_icmp .ge 14, 3) := by decide +kernel
theorem dX8_likes_22 : decode cX8_likes 22 = .ok (.iload_n 3, 1) := by decide +kernel
theorem dX8_likes_23 : decode cX8_likes 23 = .ok (.bipush (-3), 2) := by decide +kernel
theorem dX8_likes_25 : decode cX8_likes 25 = .ok (.if_icmp .lt 8, 3) := by decide +kernel
theorem dX8_likes_28 : decode cX8_likes 28 = .ok (.iload_n 3, 1) := by decide +kernel
theorem dX8_likes_29 : decode cX8_likes 29 = .ok (.iconst 3, 1) := by decide +kernel
theorem dX8_likes_30 : decode cX8_likes 30 = .ok (.if_icmp .le 6, 3) := by decide +kernel
theorem dX8_likes_33 : decode cX8_likes 33 = .ok (.bipush (-2), 2) := by decide +kernel
theorem dX8_likes_35 : decode cX8_likes 35 = .ok (.ireturn, 1) := by decide +kernel
theorem dX8_likes_36 : decode cX8_likes 36 = .ok (.iload_n 1, 1) := by decide +kernel
theorem dX8_likes_37 : decode cX8_likes 37 = .ok (.iconst 5, 1) := by decide +kernel
theorem dX8_likes_38 : decode cX8_likes 38 = .ok (.imul, 1) := by decide +kernel
theorem dX8_likes_39 : decode cX8_likes 39 = .ok (.iload_n 2, 1) := by decide +kernel
theorem dX8_likes_40 : decode cX8_likes 40 = .ok (.iadd, 1) := by decide +kernel
theorem dX8_likes_41 : decode cX8_likes 41 = .ok (.istore 4, 2) := by decide +kernel
theorem dX8_likes_43 : decode cX8_likes 43 = .ok (.aload_n 0, 1) := by decide +kernel
theorem dX8_likes_44 : decode cX8_likes 44 = .ok (.getfield 10, 3) := by decide +kernel
theorem dX8_likes_47 : decode cX8_likes 47 = .ok (.getfield 133, 3) := by decide +kernel
theorem dX8_likes_50 : decode cX8_likes 50 = .ok (.iload 4, 2) := by decide +kernel
theorem dX8_likes_52 : decode cX8_likes 52 = .ok (.iaload, 1) := by decide +kernel
theorem dX8_likes_53 : decode cX8_likes 53 = .ok (.istore 5, 2) := by decide +kernel
theorem dX8_likes_55 : decode cX8_likes 55 = .ok (.aload_n 0, 1) := by decide +kernel
theorem dX8_likes_56 : decode cX8_likes 56 = .ok (.getfield 10, 3) := by decide +kernel
theorem dX8_likes_59 : decode cX8_likes 59 = .ok (.getfield 133, 3) := by decide +kernel
theorem dX8_likes_62 : decode cX8_likes 62 = .ok (.iload 4, 2) := by decide +kernel
theorem dX8_likes_64 : decode cX8_likes 64 = .ok (.iload_n 3, 1) := by decide +kernel
theorem dX8_likes_65 : decode cX8_likes 65 = .ok (.iastore, 1) := by decide +kernel
theorem dX8_likes_66 : decode cX8_likes 66 = .ok (.iload 5, 2) := by decide +kernel
theorem dX8_likes_68 : decode cX8_likes 68 = .ok (.bipush 10, 2) := by decide +kernel
theorem dX8_likes_70 : decode cX8_likes 70 = .ok (.iadd, 1) := by decide +kernel
theorem dX8_likes_71 : decode cX8_likes 71 = .ok (.ireturn, 1) := by decide +kernel
theorem dX8_leave_0 : decode cX8_leave 0 = .ok (.aload_n 0, 1) := by decide +kernel
theorem dX8_leave_1 : decode cX8_leave 1 = .ok (.getfield 10, 3) := by decide +kernel
theorem dX8_leave_4 : decode cX8_leave 4 = .ok (.iload_n 1, 1) := by decide +kernel
theorem dX8_leave_5 : decode cX8_leave 5 = .ok (.invokevirtual 130, 3) := by decide +kernel
theorem dX8_leave_8 : decode cX8_leave 8 = .ok (.ifCond .ne 5, 3) := by decide +kernel
theorem dX8_leave_11 : decode cX8_leave 11 = .ok (.iconst (-1), 1) := by decide +kernel
theorem dX8_leave_12 : decode cX8_leave 12 = .ok (.ireturn, 1) := by decide +kernel
theorem dX8_leave_13 : decode cX8_leave 13 = .ok (.aload_n 0, 1) := by decide +kernel
theorem dX8_leave_14 : decode cX8_leave 14 = .ok (.getfield 10, 3) := by decide +kernel
theorem dX8_leave_17 : decode cX8_leave 17 = .ok (.iload_n 1, 1) := by decide +kernel
theorem dX8_leave_18 : decode cX8_leave 18 = .ok (.invokevirtual 116, 3) := by decide +kernel
theorem dX8_leave_21 : decode cX8_leave 21 = .ok (.aload_n 0, 1) := by decide +kernel
theorem dX8_leave_22 : decode cX8_leave 22 = .ok (.getfield 10, 3) := by decide +kernel
theorem dX8_leave_25 : decode cX8_leave 25 = .ok (.getfield 119, 3) := by decide +kernel
theorem dX8_leave_28 : decode cX8_leave 28 = .ok (.invokestatic 125, 3) := by decide +kernel
theorem dX8_leave_31 : decode cX8_leave 31 = .ok (.ireturn, 1) := by decide +kernel
theorem dX8_say_0 : decode cX8_say 0 = .ok (.iload_n 1, 1) := by decide +kernel
theorem dX8_say_1 : decode cX8_say 1 = .ok (.bipush 33, 2) := by decide +kernel
theorem dX8_say_3 : decode cX8_say 3 = .ok (.if_icmp .lt 9, 3) := by decide +kernel
theorem dX8_say_6 : decode cX8_say 6 = .ok (.iload_n 1, 1) := by decide +kernel
theorem dX8_say_7 : decode cX8_say 7 = .ok (.bipush 126, 2) := by decide +kernel
theorem dX8_say_9 : decode cX8_say 9 = .ok (.if_icmp .le 6, 3) := by decide +kernel
theorem dX8_say_12 : decode cX8_say 12 = .ok (.bipush (-2), 2) := by decide +kernel
theorem dX8_say_14 : decode cX8_say 14 = .ok (.ireturn, 1) := by decide +kernel
theorem dX8_say_15 : decode cX8_say 15 = .ok (.aload_n 0, 1) := by decide +kernel
theorem dX8_say_16 : decode cX8_say 16 = .ok (.getfield 27, 3) := by decide +kernel
theorem dX8_say_19 : decode cX8_say 19 = .ok (.iload_n 1, 1) := by decide +kernel
theorem dX8_say_20 : decode cX8_say 20 = .ok (.invokevirtual 136, 3) := by decide +kernel
theorem dX8_say_23 : decode cX8_say 23 = .ok (.ifCond .eq 13, 3) := by decide +kernel
theorem dX8_say_26 : decode cX8_say 26 = .ok (.aload_n 0, 1) := by decide +kernel
theorem dX8_say_27 : decode cX8_say 27 = .ok (.getfield 27, 3) := by decide +kernel
theorem dX8_say_30 : decode cX8_say 30 = .ok (.getfield 139, 3) := by decide +kernel
theorem dX8_say_33 : decode cX8_say 33 = .ok (.goto 5, 3) := by decide +kernel
theorem dX8_say_36 : decode cX8_say 36 = .ok (.bipush (-4), 2) := by decide +kernel
theorem dX8_say_38 : decode cX8_say 38 = .ok (.ireturn, 1) := by decide +kernel
theorem dX8_wipe_0 : decode cX8_wipe 0 = .ok (.aload_n 0, 1) := by decide +kernel
theorem dX8_wipe_1 : decode cX8_wipe 1 = .ok (.getfield 27, 3) := by decide +kernel
theorem dX8_wipe_4 : decode cX8_wipe 4 = .ok (.getfield 139, 3) := by decide +kernel
theorem dX8_wipe_7 : decode cX8_wipe 7 = .ok (.istore_n 1, 1) := by decide +kernel
theorem dX8_wipe_8 : decode cX8_wipe 8 = .ok (.aload_n 0, 1) := by decide +kernel
theorem dX8_wipe_9 : decode cX8_wipe 9 = .ok (.getfield 27, 3) := by decide +kernel
theorem dX8_wipe_12 : decode cX8_wipe 12 = .ok (.iconst 0, 1) := by decide +kernel
theorem dX8_wipe_13 : decode cX8_wipe 13 = .ok (.putfield 139, 3) := by decide +kernel
theorem dX8_wipe_16 : decode cX8_wipe 16 = .ok (.iload_n 1, 1) := by decide +kernel
theorem dX8_wipe_17 : decode cX8_wipe 17 = .ok (.ireturn, 1) := by decide +kernel
theorem dX8_fault_0 : decode cX8_fault 0 = .ok (.aload_n 0, 1) := by decide +kernel
theorem dX8_fault_1 : decode cX8_fault 1 = .ok (.getfield 27, 3) := by decide +kernel
theorem dX8_fault_4 : decode cX8_fault 4 = .ok (.aload_n 0, 1) := by decide +kernel
theorem dX8_fault_5 : decode cX8_fault 5 = .ok (.getfield 10, 3) := by decide +kernel
theorem dX8_fault_8 : decode cX8_fault 8 = .ok (.getfield 81, 3) := by decide +kernel
theorem dX8_fault_11 : decode cX8_fault 11 = .ok (.invokevirtual 142, 3) := by decide +kernel
theorem dX8_fault_14 : decode cX8_fault 14 = .ok (.ireturn, 1) := by decide +kernel
theorem dX8_judge_0 : decode cX8_judge 0 = .ok (.iload_n 1, 1) := by decide +kernel
theorem dX8_judge_1 : decode cX8_judge 1 = .ok (.ifCond .lt 8, 3) := by decide +kernel
theorem dX8_judge_4 : decode cX8_judge 4 = .ok (.iload_n 1, 1) := by decide +kernel
theorem dX8_judge_5 : decode cX8_judge 5 = .ok (.iconst 1, 1) := by decide +kernel
theorem dX8_judge_6 : decode cX8_judge 6 = .ok (.if_icmp .le 6, 3) := by decide +kernel
theorem dX8_judge_9 : decode cX8_judge 9 = .ok (.bipush (-2), 2) := by decide +kernel
theorem dX8_judge_11 : decode cX8_judge 11 = .ok (.ireturn, 1) := by decide +kernel
theorem dX8_judge_12 : decode cX8_judge 12 = .ok (.aload_n 0, 1) := by decide +kernel
theorem dX8_judge_13 : decode cX8_judge 13 = .ok (.getfield 27, 3) := by decide +kernel
theorem dX8_judge_16 : decode cX8_judge 16 = .ok (.aload_n 0, 1) := by decide +kernel
theorem dX8_judge_17 : decode cX8_judge 17 = .ok (.getfield 10, 3) := by decide +kernel
theorem dX8_judge_20 : decode cX8_judge 20 = .ok (.getfield 81, 3) := by decide +kernel
theorem dX8_judge_23 : decode cX8_judge 23 = .ok (.invokevirtual 142, 3) := by decide +kernel
theorem dX8_judge_26 : decode cX8_judge 26 = .ok (.bipush (-6), 2) := by decide +kernel
theorem dX8_judge_28 : decode cX8_judge 28 = .ok (.if_icmp .eq 6, 3) := by decide +kernel
theorem dX8_judge_31 : decode cX8_judge 31 = .ok (.bipush (-5), 2) := by decide +kernel
theorem dX8_judge_33 : decode cX8_judge 33 = .ok (.ireturn, 1) := by decide +kernel
theorem dX8_judge_34 : decode cX8_judge 34 = .ok (.aload_n 0, 1) := by decide +kernel
theorem dX8_judge_35 : decode cX8_judge 35 = .ok (.getfield 41, 3) := by decide +kernel
theorem dX8_judge_38 : decode cX8_judge 38 = .ok (.aload_n 0, 1) := by decide +kernel
theorem dX8_judge_39 : decode cX8_judge 39 = .ok (.getfield 27, 3) := by decide +kernel
theorem dX8_judge_42 : decode cX8_judge 42 = .ok (.aload_n 0, 1) := by decide +kernel
theorem dX8_judge_43 : decode cX8_judge 43 = .ok (.getfield 10, 3) := by decide +kernel
theorem dX8_judge_46 : decode cX8_judge 46 = .ok (.aload_n 0, 1) := by decide +kernel
theorem dX8_judge_47 : decode cX8_judge 47 = .ok (.getfield 34, 3) := by decide +kernel
theorem dX8_judge_50 : decode cX8_judge 50 = .ok (.invokevirtual 145, 3) := by decide +kernel
theorem dX8_judge_53 : decode cX8_judge 53 = .ok (.aload_n 0, 1) := by decide +kernel
theorem dX8_judge_54 : decode cX8_judge 54 = .ok (.getfield 41, 3) := by decide +kernel
theorem dX8_judge_57 : decode cX8_judge 57 = .ok (.getfield 149, 3) := by decide +kernel
theorem dX8_judge_60 : decode cX8_judge 60 = .ok (.ifCond .ne 6, 3) := by decide +kernel
theorem dX8_judge_63 : decode cX8_judge 63 = .ok (.bipush (-6), 2) := by decide +kernel
theorem dX8_judge_65 : decode cX8_judge 65 = .ok (.ireturn, 1) := by decide +kernel
theorem dX8_judge_66 : decode cX8_judge 66 = .ok (.iload_n 1, 1) := by decide +kernel
theorem dX8_judge_67 : decode cX8_judge 67 = .ok (.ifCond .ne 13, 3) := by decide +kernel
theorem dX8_judge_70 : decode cX8_judge 70 = .ok (.aload_n 0, 1) := by decide +kernel
theorem dX8_judge_71 : decode cX8_judge 71 = .ok (.getfield 41, 3) := by decide +kernel
theorem dX8_judge_74 : decode cX8_judge 74 = .ok (.getfield 152, 3) := by decide +kernel
theorem dX8_judge_77 : decode cX8_judge 77 = .ok (.goto 10, 3) := by decide +kernel
theorem dX8_judge_80 : decode cX8_judge 80 = .ok (.aload_n 0, 1) := by decide +kernel
theorem dX8_judge_81 : decode cX8_judge 81 = .ok (.getfield 41, 3) := by decide +kernel
theorem dX8_judge_84 : decode cX8_judge 84 = .ok (.getfield 149, 3) := by decide +kernel
theorem dX8_judge_87 : decode cX8_judge 87 = .ok (.ireturn, 1) := by decide +kernel
theorem dX8_done_0 : decode cX8_done 0 = .ok (.aload_n 0, 1) := by decide +kernel
theorem dX8_done_1 : decode cX8_done 1 = .ok (.invokevirtual 155, 3) := by decide +kernel
theorem dX8_done_4 : decode cX8_done 4 = .ok (.ifCond .ne 6, 3) := by decide +kernel
theorem dX8_done_7 : decode cX8_done 7 = .ok (.bipush (-5), 2) := by decide +kernel
theorem dX8_done_9 : decode cX8_done 9 = .ok (.ireturn, 1) := by decide +kernel
theorem dX8_done_10 : decode cX8_done 10 = .ok (.aload_n 0, 1) := by decide +kernel
theorem dX8_done_11 : decode cX8_done 11 = .ok (.getfield 10, 3) := by decide +kernel
theorem dX8_done_14 : decode cX8_done 14 = .ok (.aload_n 0, 1) := by decide +kernel
theorem dX8_done_15 : decode cX8_done 15 = .ok (.getfield 34, 3) := by decide +kernel
theorem dX8_done_18 : decode cX8_done 18 = .ok (.getfield 159, 3) := by decide +kernel
theorem dX8_done_21 : decode cX8_done 21 = .ok (.invokevirtual 162, 3) := by decide +kernel
theorem dX8_done_24 : decode cX8_done 24 = .ok (.aload_n 0, 1) := by decide +kernel
theorem dX8_done_25 : decode cX8_done 25 = .ok (.getfield 27, 3) := by decide +kernel
theorem dX8_done_28 : decode cX8_done 28 = .ok (.iconst 0, 1) := by decide +kernel
theorem dX8_done_29 : decode cX8_done 29 = .ok (.putfield 139, 3) := by decide +kernel
theorem dX8_done_32 : decode cX8_done 32 = .ok (.aload_n 0, 1) := by decide +kernel
theorem dX8_done_33 : decode cX8_done 33 = .ok (.getfield 41, 3) := by decide +kernel
theorem dX8_done_36 : decode cX8_done 36 = .ok (.getfield 152, 3) := by decide +kernel
theorem dX8_done_39 : decode cX8_done 39 = .ok (.ireturn, 1) := by decide +kernel
theorem dX8_state_0 : decode cX8_state 0 = .ok (.aload_n 0, 1) := by decide +kernel
theorem dX8_state_1 : decode cX8_state 1 = .ok (.getfield 10, 3) := by decide +kernel
theorem dX8_state_4 : decode cX8_state 4 = .ok (.iload_n 1, 1) := by decide +kernel
theorem dX8_state_5 : decode cX8_state 5 = .ok (.invokevirtual 130, 3) := by decide +kernel
theorem dX8_state_8 : decode cX8_state 8 = .ok (.ifCond .ne 5, 3) := by decide +kernel
theorem dX8_state_11 : decode cX8_state 11 = .ok (.iconst (-1), 1) := by decide +kernel
theorem dX8_state_12 : decode cX8_state 12 = .ok (.ireturn, 1) := by decide +kernel
theorem dX8_state_13 : decode cX8_state 13 = .ok (.aload_n 0, 1) := by decide +kernel
theorem dX8_state_14 : decode cX8_state 14 = .ok (.getfield 10, 3) := by decide +kernel
theorem dX8_state_17 : decode cX8_state 17 = .ok (.iload_n 1, 1) := by decide +kernel
theorem dX8_state_18 : decode cX8_state 18 = .ok (.iload_n 2, 1) := by decide +kernel
theorem dX8_state_19 : decode cX8_state 19 = .ok (.invokevirtual 166, 3) := by decide +kernel
theorem dX8_state_22 : decode cX8_state 22 = .ok (.ireturn, 1) := by decide +kernel
theorem dX8_behind_0 : decode cX8_behind 0 = .ok (.aload_n 0, 1) := by decide +kernel
theorem dX8_behind_1 : decode cX8_behind 1 = .ok (.getfield 10, 3) := by decide +kernel
theorem dX8_behind_4 : decode cX8_behind 4 = .ok (.iload_n 1, 1) := by decide +kernel
theorem dX8_behind_5 : decode cX8_behind 5 = .ok (.invokevirtual 130, 3) := by decide +kernel
theorem dX8_behind_8 : decode cX8_behind 8 = .ok (.ifCond .ne 5, 3) := by decide +kernel
theorem dX8_behind_11 : decode cX8_behind 11 = .ok (.iconst (-1), 1) := by decide +kernel
theorem dX8_behind_12 : decode cX8_behind 12 = .ok (.ireturn, 1) := by decide +kernel
theorem dX8_behind_13 : decode cX8_behind 13 = .ok (.iload_n 2, 1) := by decide +kernel
theorem dX8_behind_14 : decode cX8_behind 14 = .ok (.ifCond .lt 8, 3) := by decide +kernel
theorem dX8_behind_17 : decode cX8_behind 17 = .ok (.iload_n 2, 1) := by decide +kernel
theorem dX8_behind_18 : decode cX8_behind 18 = .ok (.iconst 3, 1) := by decide +kernel
theorem dX8_behind_19 : decode cX8_behind 19 = .ok (.if_icmp .le 6, 3) := by decide +kernel
theorem dX8_behind_22 : decode cX8_behind 22 = .ok (.bipush (-2), 2) := by decide +kernel
theorem dX8_behind_24 : decode cX8_behind 24 = .ok (.ireturn, 1) := by decide +kernel
theorem dX8_behind_25 : decode cX8_behind 25 = .ok (.aload_n 0, 1) := by decide +kernel
theorem dX8_behind_26 : decode cX8_behind 26 = .ok (.invokevirtual 155, 3) := by decide +kernel
theorem dX8_behind_29 : decode cX8_behind 29 = .ok (.ifCond .eq 18, 3) := by decide +kernel
theorem dX8_behind_32 : decode cX8_behind 32 = .ok (.aload_n 0, 1) := by decide +kernel
theorem dX8_behind_33 : decode cX8_behind 33 = .ok (.getfield 34, 3) := by decide +kernel
theorem dX8_behind_36 : decode cX8_behind 36 = .ok (.getfield 159, 3) := by decide +kernel
theorem dX8_behind_39 : decode cX8_behind 39 = .ok (.iload_n 1, 1) := by decide +kernel
theorem dX8_behind_40 : decode cX8_behind 40 = .ok (.iload_n 2, 1) := by decide +kernel
theorem dX8_behind_41 : decode cX8_behind 41 = .ok (.invokevirtual 166, 3) := by decide +kernel
theorem dX8_behind_44 : decode cX8_behind 44 = .ok (.goto 5, 3) := by decide +kernel
theorem dX8_behind_47 : decode cX8_behind 47 = .ok (.bipush (-5), 2) := by decide +kernel
theorem dX8_behind_49 : decode cX8_behind 49 = .ok (.ireturn, 1) := by decide +kernel
theorem dX8_draw_0 : decode cX8_draw 0 = .ok (.aload_n 0, 1) := by decide +kernel
theorem dX8_draw_1 : decode cX8_draw 1 = .ok (.getfield 10, 3) := by decide +kernel
theorem dX8_draw_4 : decode cX8_draw 4 = .ok (.iload_n 1, 1) := by decide +kernel
theorem dX8_draw_5 : decode cX8_draw 5 = .ok (.invokevirtual 130, 3) := by decide +kernel
theorem dX8_draw_8 : decode cX8_draw 8 = .ok (.ifCond .eq 14, 3) := by decide +kernel
theorem dX8_draw_11 : decode cX8_draw 11 = .ok (.aload_n 0, 1) := by decide +kernel
theorem dX8_draw_12 : decode cX8_draw 12 = .ok (.getfield 10, 3) := by decide +kernel
theorem dX8_draw_15 : decode cX8_draw 15 = .ok (.iload_n 2, 1) := by decide +kernel
theorem dX8_draw_16 : decode cX8_draw 16 = .ok (.invokevirtual 85, 3) := by decide +kernel
theorem dX8_draw_19 : decode cX8_draw 19 = .ok (.ifCond .ne 5, 3) := by decide +kernel
theorem dX8_draw_22 : decode cX8_draw 22 = .ok (.iconst (-1), 1) := by decide +kernel
theorem dX8_draw_23 : decode cX8_draw 23 = .ok (.ireturn, 1) := by decide +kernel
theorem dX8_draw_24 : decode cX8_draw 24 = .ok (.aload_n 0, 1) := by decide +kernel
theorem dX8_draw_25 : decode cX8_draw 25 = .ok (.getfield 10, 3) := by decide +kernel
theorem dX8_draw_28 : decode cX8_draw 28 = .ok (.iload_n 1, 1) := by decide +kernel
theorem dX8_draw_29 : decode cX8_draw 29 = .ok (.iload_n 2, 1) := by decide +kernel
theorem dX8_draw_30 : decode cX8_draw 30 = .ok (.invokevirtual 169, 3) := by decide +kernel
theorem dX8_draw_33 : decode cX8_draw 33 = .ok (.sipush 1000, 3) := by decide +kernel
theorem dX8_draw_36 : decode cX8_draw 36 = .ok (.iadd, 1) := by decide +kernel
theorem dX8_draw_37 : decode cX8_draw 37 = .ok (.ireturn, 1) := by decide +kernel
theorem dX8_goes_0 : decode cX8_goes 0 = .ok (.aload_n 0, 1) := by decide +kernel
theorem dX8_goes_1 : decode cX8_goes 1 = .ok (.getfield 10, 3) := by decide +kernel
theorem dX8_goes_4 : decode cX8_goes 4 = .ok (.iload_n 1, 1) := by decide +kernel
theorem dX8_goes_5 : decode cX8_goes 5 = .ok (.invokevirtual 130, 3) := by decide +kernel
theorem dX8_goes_8 : decode cX8_goes 8 = .ok (.ifCond .ne 5, 3) := by decide +kernel
theorem dX8_goes_11 : decode cX8_goes 11 = .ok (.iconst (-1), 1) := by decide +kernel
theorem dX8_goes_12 : decode cX8_goes 12 = .ok (.ireturn, 1) := by decide +kernel
theorem dX8_goes_13 : decode cX8_goes 13 = .ok (.aload_n 0, 1) := by decide +kernel
theorem dX8_goes_14 : decode cX8_goes 14 = .ok (.getfield 10, 3) := by decide +kernel
theorem dX8_goes_17 : decode cX8_goes 17 = .ok (.getfield 172, 3) := by decide +kernel
theorem dX8_goes_20 : decode cX8_goes 20 = .ok (.iload_n 1, 1) := by decide +kernel
theorem dX8_goes_21 : decode cX8_goes 21 = .ok (.iaload, 1) := by decide +kernel
theorem dX8_goes_22 : decode cX8_goes 22 = .ok (.ifCond .eq 6, 3) := by decide +kernel
theorem dX8_goes_25 : decode cX8_goes 25 = .ok (.bipush (-3), 2) := by decide +kernel
theorem dX8_goes_27 : decode cX8_goes 27 = .ok (.ireturn, 1) := by decide +kernel
theorem dX8_goes_28 : decode cX8_goes 28 = .ok (.aload_n 0, 1) := by decide +kernel
theorem dX8_goes_29 : decode cX8_goes 29 = .ok (.getfield 34, 3) := by decide +kernel
theorem dX8_goes_32 : decode cX8_goes 32 = .ok (.aload_n 0, 1) := by decide +kernel
theorem dX8_goes_33 : decode cX8_goes 33 = .ok (.getfield 10, 3) := by decide +kernel
theorem dX8_goes_36 : decode cX8_goes 36 = .ok (.invokevirtual 175, 3) := by decide +kernel
theorem dX8_goes_39 : decode cX8_goes 39 = .ok (.aload_n 0, 1) := by decide +kernel
theorem dX8_goes_40 : decode cX8_goes 40 = .ok (.getfield 34, 3) := by decide +kernel
theorem dX8_goes_43 : decode cX8_goes 43 = .ok (.iload_n 1, 1) := by decide +kernel
theorem dX8_goes_44 : decode cX8_goes 44 = .ok (.invokevirtual 178, 3) := by decide +kernel
theorem dX8_goes_47 : decode cX8_goes 47 = .ok (.ireturn, 1) := by decide +kernel
theorem dX8_after_0 : decode cX8_after 0 = .ok (.aload_n 0, 1) := by decide +kernel
theorem dX8_after_1 : decode cX8_after 1 = .ok (.getfield 10, 3) := by decide +kernel
theorem dX8_after_4 : decode cX8_after 4 = .ok (.iload_n 1, 1) := by decide +kernel
theorem dX8_after_5 : decode cX8_after 5 = .ok (.invokevirtual 130, 3) := by decide +kernel
theorem dX8_after_8 : decode cX8_after 8 = .ok (.ifCond .ne 5, 3) := by decide +kernel
theorem dX8_after_11 : decode cX8_after 11 = .ok (.iconst (-1), 1) := by decide +kernel
theorem dX8_after_12 : decode cX8_after 12 = .ok (.ireturn, 1) := by decide +kernel
theorem dX8_after_13 : decode cX8_after 13 = .ok (.iload_n 2, 1) := by decide +kernel
theorem dX8_after_14 : decode cX8_after 14 = .ok (.ifCond .lt 9, 3) := by decide +kernel
theorem dX8_after_17 : decode cX8_after 17 = .ok (.iload_n 2, 1) := by decide +kernel
theorem dX8_after_18 : decode cX8_after 18 = .ok (.bipush 99, 2) := by decide +kernel
theorem dX8_after_20 : decode cX8_after 20 = .ok (.if_icmp .le 6, 3) := by decide +kernel
theorem dX8_after_23 : decode cX8_after 23 = .ok (.bipush (-2), 2) := by decide +kernel
theorem dX8_after_25 : decode cX8_after 25 = .ok (.ireturn, 1) := by decide +kernel
theorem dX8_after_26 : decode cX8_after 26 = .ok (.aload_n 0, 1) := by decide +kernel
theorem dX8_after_27 : decode cX8_after 27 = .ok (.getfield 34, 3) := by decide +kernel
theorem dX8_after_30 : decode cX8_after 30 = .ok (.aload_n 0, 1) := by decide +kernel
theorem dX8_after_31 : decode cX8_after 31 = .ok (.getfield 10, 3) := by decide +kernel
theorem dX8_after_34 : decode cX8_after 34 = .ok (.invokevirtual 175, 3) := by decide +kernel
theorem dX8_after_37 : decode cX8_after 37 = .ok (.aload_n 0, 1) := by decide +kernel
theorem dX8_after_38 : decode cX8_after 38 = .ok (.getfield 34, 3) := by decide +kernel
theorem dX8_after_41 : decode cX8_after 41 = .ok (.iload_n 2, 1) := by decide +kernel
theorem dX8_after_42 : decode cX8_after 42 = .ok (.invokevirtual 181, 3) := by decide +kernel
theorem dX8_after_45 : decode cX8_after 45 = .ok (.aload_n 0, 1) := by decide +kernel
theorem dX8_after_46 : decode cX8_after 46 = .ok (.getfield 34, 3) := by decide +kernel
theorem dX8_after_49 : decode cX8_after 49 = .ok (.getfield 159, 3) := by decide +kernel
theorem dX8_after_52 : decode cX8_after 52 = .ok (.getfield 122, 3) := by decide +kernel
theorem dX8_after_55 : decode cX8_after 55 = .ok (.iload_n 1, 1) := by decide +kernel
theorem dX8_after_56 : decode cX8_after 56 = .ok (.iaload, 1) := by decide +kernel
theorem dX8_after_57 : decode cX8_after 57 = .ok (.ireturn, 1) := by decide +kernel
theorem dX8_crowd_0 : decode cX8_crowd 0 = .ok (.aload_n 0, 1) := by decide +kernel
theorem dX8_crowd_1 : decode cX8_crowd 1 = .ok (.getfield 10, 3) := by decide +kernel
theorem dX8_crowd_4 : decode cX8_crowd 4 = .ok (.iload_n 1, 1) := by decide +kernel
theorem dX8_crowd_5 : decode cX8_crowd 5 = .ok (.invokevirtual 85, 3) := by decide +kernel
theorem dX8_crowd_8 : decode cX8_crowd 8 = .ok (.ifCond .ne 5, 3) := by decide +kernel
theorem dX8_crowd_11 : decode cX8_crowd 11 = .ok (.iconst (-1), 1) := by decide +kernel
theorem dX8_crowd_12 : decode cX8_crowd 12 = .ok (.ireturn, 1) := by decide +kernel
theorem dX8_crowd_13 : decode cX8_crowd 13 = .ok (.iload_n 2, 1) := by decide +kernel
theorem dX8_crowd_14 : decode cX8_crowd 14 = .ok (.ifCond .lt 9, 3) := by decide +kernel
theorem dX8_crowd_17 : decode cX8_crowd 17 = .ok (.iload_n 2, 1) := by decide +kernel
theorem dX8_crowd_18 : decode cX8_crowd 18 = .ok (.bipush 99, 2) := by decide +kernel
theorem dX8_crowd_20 : decode cX8_crowd 20 = .ok (.if_icmp .le 6, 3) := by decide +kernel
theorem dX8_crowd_23 : decode cX8_crowd 23 = .ok (.bipush (-2), 2) := by decide +kernel
theorem dX8_crowd_25 : decode cX8_crowd 25 = .ok (.ireturn, 1) := by decide +kernel
theorem dX8_crowd_26 : decode cX8_crowd 26 = .ok (.aload_n 0, 1) := by decide +kernel
theorem dX8_crowd_27 : decode cX8_crowd 27 = .ok (.getfield 34, 3) := by decide +kernel
theorem dX8_crowd_30 : decode cX8_crowd 30 = .ok (.aload_n 0, 1) := by decide +kernel
theorem dX8_crowd_31 : decode cX8_crowd 31 = .ok (.getfield 10, 3) := by decide +kernel
theorem dX8_crowd_34 : decode cX8_crowd 34 = .ok (.invokevirtual 175, 3) := by decide +kernel
theorem dX8_crowd_37 : decode cX8_crowd 37 = .ok (.aload_n 0, 1) := by decide +kernel
theorem dX8_crowd_38 : decode cX8_crowd 38 = .ok (.getfield 34, 3) := by decide +kernel
theorem dX8_crowd_41 : decode cX8_crowd 41 = .ok (.iload_n 2, 1) := by decide +kernel
theorem dX8_crowd_42 : decode cX8_crowd 42 = .ok (.invokevirtual 181, 3) := by decide +kernel
theorem dX8_crowd_45 : decode cX8_crowd 45 = .ok (.aload_n 0, 1) := by decide +kernel
theorem dX8_crowd_46 : decode cX8_crowd 46 = .ok (.getfield 34, 3) := by decide +kernel
theorem dX8_crowd_49 : decode cX8_crowd 49 = .ok (.getfield 159, 3) := by decide +kernel
theorem dX8_crowd_52 : decode cX8_crowd 52 = .ok (.iload_n 1, 1) := by decide +kernel
theorem dX8_crowd_53 : decode cX8_crowd 53 = .ok (.invokevirtual 184, 3) := by decide +kernel
theorem dX8_crowd_56 : decode cX8_crowd 56 = .ok (.ireturn, 1) := by decide +kernel
theorem dX8_still_0 : decode cX8_still 0 = .ok (.aload_n 0, 1) := by decide +kernel
theorem dX8_still_1 : decode cX8_still 1 = .ok (.invokevirtual 187, 3) := by decide +kernel
theorem dX8_still_4 : decode cX8_still 4 = .ok (.ireturn, 1) := by decide +kernel
theorem dX8_round_0 : decode cX8_round 0 = .ok (.aload_n 0, 1) := by decide +kernel
theorem dX8_round_1 : decode cX8_round 1 = .ok (.invokevirtual 187, 3) := by decide +kernel
theorem dX8_round_4 : decode cX8_round 4 = .ok (.bipush (-6), 2) := by decide +kernel
theorem dX8_round_6 : decode cX8_round 6 = .ok (.if_icmp .eq 6, 3) := by decide +kernel
theorem dX8_round_9 : decode cX8_round 9 = .ok (.bipush (-6), 2) := by decide +kernel
theorem dX8_round_11 : decode cX8_round 11 = .ok (.ireturn, 1) := by decide +kernel
theorem dX8_round_12 : decode cX8_round 12 = .ok (.aload_n 0, 1) := by decide +kernel
theorem dX8_round_13 : decode cX8_round 13 = .ok (.getfield 34, 3) := by decide +kernel
theorem dX8_round_16 : decode cX8_round 16 = .ok (.aload_n 0, 1) := by decide +kernel
theorem dX8_round_17 : decode cX8_round 17 = .ok (.getfield 10, 3) := by decide +kernel
theorem dX8_round_20 : decode cX8_round 20 = .ok (.invokevirtual 175, 3) := by decide +kernel
theorem dX8_round_23 : decode cX8_round 23 = .ok (.aload_n 0, 1) := by decide +kernel
theorem dX8_round_24 : decode cX8_round 24 = .ok (.getfield 73, 3) := by decide +kernel
theorem dX8_round_27 : decode cX8_round 27 = .ok (.iconst 0, 1) := by decide +kernel
theorem dX8_round_28 : decode cX8_round 28 = .ok (.aload_n 0, 1) := by decide +kernel
theorem dX8_round_29 : decode cX8_round 29 = .ok (.getfield 34, 3) := by decide +kernel
theorem dX8_round_32 : decode cX8_round 32 = .ok (.getfield 159, 3) := by decide +kernel
theorem dX8_round_35 : decode cX8_round 35 = .ok (.invokevirtual 191, 3) := by decide +kernel
theorem dX8_round_38 : decode cX8_round 38 = .ok (.lastore, 1) := by decide +kernel
theorem dX8_round_39 : decode cX8_round 39 = .ok (.iconst 1, 1) := by decide +kernel
theorem dX8_round_40 : decode cX8_round 40 = .ok (.istore_n 1, 1) := by decide +kernel
theorem dX8_round_41 : decode cX8_round 41 = .ok (.iload_n 1, 1) := by decide +kernel
theorem dX8_round_42 : decode cX8_round 42 = .ok (.bipush 99, 2) := by decide +kernel
theorem dX8_round_44 : decode cX8_round 44 = .ok (.if_icmp .gt 66, 3) := by decide +kernel
theorem dX8_round_47 : decode cX8_round 47 = .ok (.aload_n 0, 1) := by decide +kernel
theorem dX8_round_48 : decode cX8_round 48 = .ok (.getfield 34, 3) := by decide +kernel
theorem dX8_round_51 : decode cX8_round 51 = .ok (.invokevirtual 195, 3) := by decide +kernel
theorem dX8_round_54 : decode cX8_round 54 = .ok (.pop, 1) := by decide +kernel
theorem dX8_round_55 : decode cX8_round 55 = .ok (.aload_n 0, 1) := by decide +kernel
theorem dX8_round_56 : decode cX8_round 56 = .ok (.getfield 73, 3) := by decide +kernel
theorem dX8_round_59 : decode cX8_round 59 = .ok (.iload_n 1, 1) := by decide +kernel
theorem dX8_round_60 : decode cX8_round 60 = .ok (.aload_n 0, 1) := by decide +kernel
theorem dX8_round_61 : decode cX8_round 61 = .ok (.getfield 34, 3) := by decide +kernel
theorem dX8_round_64 : decode cX8_round 64 = .ok (.getfield 159, 3) := by decide +kernel
theorem dX8_round_67 : decode cX8_round 67 = .ok (.invokevirtual 191, 3) := by decide +kernel
theorem dX8_round_70 : decode cX8_round 70 = .ok (.lastore, 1) := by decide +kernel
theorem dX8_round_71 : decode cX8_round 71 = .ok (.iconst 0, 1) := by decide +kernel
theorem dX8_round_72 : decode cX8_round 72 = .ok (.istore_n 2, 1) := by decide +kernel
theorem dX8_round_73 : decode cX8_round 73 = .ok (.iload_n 2, 1) := by decide +kernel
theorem dX8_round_74 : decode cX8_round 74 = .ok (.iload_n 1, 1) := by decide +kernel
theorem dX8_round_75 : decode cX8_round 75 = .ok (.if_icmp .ge 29, 3) := by decide +kernel
theorem dX8_round_78 : decode cX8_round 78 = .ok (.aload_n 0, 1) := by decide +kernel
theorem dX8_round_79 : decode cX8_round 79 = .ok (.getfield 73, 3) := by decide +kernel
theorem dX8_round_82 : decode cX8_round 82 = .ok (.iload_n 2, 1) := by decide +kernel
theorem dX8_round_83 : decode cX8_round 83 = .ok (.laload, 1) := by decide +kernel
theorem dX8_round_84 : decode cX8_round 84 = .ok (.aload_n 0, 1) := by decide +kernel
theorem dX8_round_85 : decode cX8_round 85 = .ok (.getfield 73, 3) := by decide +kernel
theorem dX8_round_88 : decode cX8_round 88 = .ok (.iload_n 1, 1) := by decide +kernel
theorem dX8_round_89 : decode cX8_round 89 = .ok (.laload, 1) := by decide +kernel
theorem dX8_round_90 : decode cX8_round 90 = .ok (.lcmp, 1) := by decide +kernel
theorem dX8_round_91 : decode cX8_round 91 = .ok (.ifCond .ne 7, 3) := by decide +kernel
theorem dX8_round_94 : decode cX8_round 94 = .ok (.iload_n 1, 1) := by decide +kernel
theorem dX8_round_95 : decode cX8_round 95 = .ok (.iload_n 2, 1) := by decide +kernel
theorem dX8_round_96 : decode cX8_round 96 = .ok (.isub, 1) := by decide +kernel
theorem dX8_round_97 : decode cX8_round 97 = .ok (.ireturn, 1) := by decide +kernel
theorem dX8_round_98 : decode cX8_round 98 = .ok (.iinc 2 1, 3) := by decide +kernel
theorem dX8_round_101 : decode cX8_round 101 = .ok (.goto (-28), 3) := by decide +kernel
theorem dX8_round_104 : decode cX8_round 104 = .ok (.iinc 1 1, 3) := by decide +kernel
theorem dX8_round_107 : decode cX8_round 107 = .ok (.goto (-66), 3) := by decide +kernel
theorem dX8_round_110 : decode cX8_round 110 = .ok (.bipush (-6), 2) := by decide +kernel
theorem dX8_round_112 : decode cX8_round 112 = .ok (.ireturn, 1) := by decide +kernel
theorem dX8_throng_0 : decode cX8_throng 0 = .ok (.iload_n 1, 1) := by decide +kernel
theorem dX8_throng_1 : decode cX8_throng 1 = .ok (.iconst 1, 1) := by decide +kernel
theorem dX8_throng_2 : decode cX8_throng 2 = .ok (.if_icmp .lt 9, 3) := by decide +kernel
theorem dX8_throng_5 : decode cX8_throng 5 = .ok (.iload_n 1, 1) := by decide +kernel
theorem dX8_throng_6 : decode cX8_throng 6 = .ok (.bipush 99, 2) := by decide +kernel
theorem dX8_throng_8 : decode cX8_throng 8 = .ok (.if_icmp .le 6, 3) := by decide +kernel
theorem dX8_throng_11 : decode cX8_throng 11 = .ok (.bipush (-2), 2) := by decide +kernel
theorem dX8_throng_13 : decode cX8_throng 13 = .ok (.ireturn, 1) := by decide +kernel
theorem dX8_throng_14 : decode cX8_throng 14 = .ok (.aload_n 0, 1) := by decide +kernel
theorem dX8_throng_15 : decode cX8_throng 15 = .ok (.getfield 34, 3) := by decide +kernel
theorem dX8_throng_18 : decode cX8_throng 18 = .ok (.aload_n 0, 1) := by decide +kernel
theorem dX8_throng_19 : decode cX8_throng 19 = .ok (.getfield 10, 3) := by decide +kernel
theorem dX8_throng_22 : decode cX8_throng 22 = .ok (.invokevirtual 175, 3) := by decide +kernel
theorem dX8_throng_25 : decode cX8_throng 25 = .ok (.iconst 0, 1) := by decide +kernel
theorem dX8_throng_26 : decode cX8_throng 26 = .ok (.istore_n 2, 1) := by decide +kernel
theorem dX8_throng_27 : decode cX8_throng 27 = .ok (.iconst 0, 1) := by decide +kernel
theorem dX8_throng_28 : decode cX8_throng 28 = .ok (.istore_n 3, 1) := by decide +kernel
theorem dX8_throng_29 : decode cX8_throng 29 = .ok (.iload_n 3, 1) := by decide +kernel
theorem dX8_throng_30 : decode cX8_throng 30 = .ok (.iload_n 1, 1) := by decide +kernel
theorem dX8_throng_31 : decode cX8_throng 31 = .ok (.if_icmp .ge 29, 3) := by decide +kernel
theorem dX8_throng_34 : decode cX8_throng 34 = .ok (.aload_n 0, 1) := by decide +kernel
theorem dX8_throng_35 : decode cX8_throng 35 = .ok (.getfield 34, 3) := by decide +kernel
theorem dX8_throng_38 : decode cX8_throng 38 = .ok (.invokevirtual 195, 3) := by decide +kernel
theorem dX8_throng_41 : decode cX8_throng 41 = .ok (.pop, 1) := by decide +kernel
theorem dX8_throng_42 : decode cX8_throng 42 = .ok (.iload_n 2, 1) := by decide +kernel
theorem dX8_throng_43 : decode cX8_throng 43 = .ok (.aload_n 0, 1) := by decide +kernel
theorem dX8_throng_44 : decode cX8_throng 44 = .ok (.getfield 34, 3) := by decide +kernel
theorem dX8_throng_47 : decode cX8_throng 47 = .ok (.invokevirtual 198, 3) := by decide +kernel
theorem dX8_throng_50 : decode cX8_throng 50 = .ok (.invokestatic 201, 3) := by decide +kernel
theorem dX8_throng_53 : decode cX8_throng 53 = .ok (.istore_n 2, 1) := by decide +kernel
theorem dX8_throng_54 : decode cX8_throng 54 = .ok (.iinc 3 1, 3) := by decide +kernel
theorem dX8_throng_57 : decode cX8_throng 57 = .ok (.goto (-28), 3) := by decide +kernel
theorem dX8_throng_60 : decode cX8_throng 60 = .ok (.iload_n 2, 1) := by decide +kernel
theorem dX8_throng_61 : decode cX8_throng 61 = .ok (.ireturn, 1) := by decide +kernel
theorem dX8_carried_0 : decode cX8_carried 0 = .ok (.iload_n 1, 1) := by decide +kernel
theorem dX8_carried_1 : decode cX8_carried 1 = .ok (.ifCond .lt 18, 3) := by decide +kernel
theorem dX8_carried_4 : decode cX8_carried 4 = .ok (.iload_n 1, 1) := by decide +kernel
theorem dX8_carried_5 : decode cX8_carried 5 = .ok (.bipush 20, 2) := by decide +kernel
theorem dX8_carried_7 : decode cX8_carried 7 = .ok (.if_icmp .gt 12, 3) := by decide +kernel
theorem dX8_carried_10 : decode cX8_carried 10 = .ok (.iload_n 2, 1) := by decide +kernel
theorem dX8_carried_11 : decode cX8_carried 11 = .ok (.ifCond .lt 8, 3) := by decide +kernel
theorem dX8_carried_14 : decode cX8_carried 14 = .ok (.iload_n 2, 1) := by decide +kernel
theorem dX8_carried_15 : decode cX8_carried 15 = .ok (.iconst 1, 1) := by decide +kernel
theorem dX8_carried_16 : decode cX8_carried 16 = .ok (.if_icmp .le 6, 3) := by decide +kernel
theorem dX8_carried_19 : decode cX8_carried 19 = .ok (.bipush (-2), 2) := by decide +kernel
theorem dX8_carried_21 : decode cX8_carried 21 = .ok (.ireturn, 1) := by decide +kernel
theorem dX8_carried_22 : decode cX8_carried 22 = .ok (.aload_n 0, 1) := by decide +kernel
theorem dX8_carried_23 : decode cX8_carried 23 = .ok (.iload_n 1, 1) := by decide +kernel
theorem dX8_carried_24 : decode cX8_carried 24 = .ok (.invokevirtual 206, 3) := by decide +kernel
theorem dX8_carried_27 : decode cX8_carried 27 = .ok (.istore_n 3, 1) := by decide +kernel
theorem dX8_carried_28 : decode cX8_carried 28 = .ok (.iconst 0, 1) := by decide +kernel
theorem dX8_carried_29 : decode cX8_carried 29 = .ok (.istore 4, 2) := by decide +kernel
theorem dX8_carried_31 : decode cX8_carried 31 = .ok (.iconst 0, 1) := by decide +kernel
theorem dX8_carried_32 : decode cX8_carried 32 = .ok (.istore 5, 2) := by decide +kernel
theorem dX8_carried_34 : decode cX8_carried 34 = .ok (.iload 5, 2) := by decide +kernel
theorem dX8_carried_36 : decode cX8_carried 36 = .ok (.sipush 144, 3) := by decide +kernel
theorem dX8_carried_39 : decode cX8_carried 39 = .ok (.if_icmp .ge 127, 3) := by decide +kernel
theorem dX8_carried_42 : decode cX8_carried 42 = .ok (.iload 5, 2) := by decide +kernel
theorem dX8_carried_44 : decode cX8_carried 44 = .ok (.bipush 24, 2) := by decide +kernel
theorem dX8_carried_46 : decode cX8_carried 46 = .ok (.idiv, 1) := by decide +kernel
theorem dX8_carried_47 : decode cX8_carried 47 = .ok (.istore 6, 2) := by decide +kernel
theorem dX8_carried_49 : decode cX8_carried 49 = .ok (.iload 5, 2) := by decide +kernel
theorem dX8_carried_51 : decode cX8_carried 51 = .ok (.iconst 4, 1) := by decide +kernel
theorem dX8_carried_52 : decode cX8_carried 52 = .ok (.idiv, 1) := by decide +kernel
theorem dX8_carried_53 : decode cX8_carried 53 = .ok (.bipush 6, 2) := by decide +kernel
theorem dX8_carried_55 : decode cX8_carried 55 = .ok (.irem, 1) := by decide +kernel
theorem dX8_carried_56 : decode cX8_carried 56 = .ok (.istore 7, 2) := by decide +kernel
theorem dX8_carried_58 : decode cX8_carried 58 = .ok (.iload 5, 2) := by decide +kernel
theorem dX8_carried_60 : decode cX8_carried 60 = .ok (.iconst 4, 1) := by decide +kernel
theorem dX8_carried_61 : decode cX8_carried 61 = .ok (.irem, 1) := by decide +kernel
theorem dX8_carried_62 : decode cX8_carried 62 = .ok (.istore 8, 2) := by decide +kernel
theorem dX8_carried_64 : decode cX8_carried 64 = .ok (.aload_n 0, 1) := by decide +kernel
theorem dX8_carried_65 : decode cX8_carried 65 = .ok (.getfield 10, 3) := by decide +kernel
theorem dX8_carried_68 : decode cX8_carried 68 = .ok (.iload 6, 2) := by decide +kernel
theorem dX8_carried_70 : decode cX8_carried 70 = .ok (.invokevirtual 85, 3) := by decide +kernel
theorem dX8_carried_73 : decode cX8_carried 73 = .ok (.ifCond .eq 35, 3) := by decide +kernel
theorem dX8_carried_76 : decode cX8_carried 76 = .ok (.aload_n 0, 1) := by decide +kernel
theorem dX8_carried_77 : decode cX8_carried 77 = .ok (.getfield 10, 3) := by decide +kernel
theorem dX8_carried_80 : decode cX8_carried 80 = .ok (.iload 7, 2) := by decide +kernel
theorem dX8_carried_82 : decode cX8_carried 82 = .ok (.invokevirtual 85, 3) := by decide +kernel
theorem dX8_carried_85 : decode cX8_carried 85 = .ok (.ifCond .eq 23, 3) := by decide +kernel
theorem dX8_carried_88 : decode cX8_carried 88 = .ok (.aload_n 0, 1) := by decide +kernel
theorem dX8_carried_89 : decode cX8_carried 89 = .ok (.getfield 10, 3) := by decide +kernel
theorem dX8_carried_92 : decode cX8_carried 92 = .ok (.iload 6, 2) := by decide +kernel
theorem dX8_carried_94 : decode cX8_carried 94 = .ok (.iload 7, 2) := by decide +kernel
theorem dX8_carried_96 : decode cX8_carried 96 = .ok (.iload 8, 2) := by decide +kernel
theorem dX8_carried_98 : decode cX8_carried 98 = .ok (.invokevirtual 209, 3) := by decide +kernel
theorem dX8_carried_101 : decode cX8_carried 101 = .ok (.ifCond .ne 7, 3) := by decide +kernel
theorem dX8_carried_104 : decode cX8_carried 104 = .ok (.iconst 1, 1) := by decide +kernel
theorem dX8_carried_105 : decode cX8_carried 105 = .ok (.goto 4, 3) := by decide +kernel
theorem dX8_carried_108 : decode cX8_carried 108 = .ok (.iconst 0, 1) := by decide +kernel
theorem dX8_carried_109 : decode cX8_carried 109 = .ok (.istore 9, 2) := by decide +kernel
theorem dX8_carried_111 : decode cX8_carried 111 = .ok (.iload 9, 2) := by decide +kernel
theorem dX8_carried_113 : decode cX8_carried 113 = .ok (.ifCond .eq 17, 3) := by decide +kernel
theorem dX8_carried_116 : decode cX8_carried 116 = .ok (.aload_n 0, 1) := by decide +kernel
theorem dX8_carried_117 : decode cX8_carried 117 = .ok (.iload 6, 2) := by decide +kernel
theorem dX8_carried_119 : decode cX8_carried 119 = .ok (.iload 7, 2) := by decide +kernel
theorem dX8_carried_121 : decode cX8_carried 121 = .ok (.iload 8, 2) := by decide +kernel
theorem dX8_carried_123 : decode cX8_carried 123 = .ok (.iload_n 1, 1) := by decide +kernel
theorem dX8_carried_124 : decode cX8_carried 124 = .ok (.invokevirtual 213, 3) := by decide +kernel
theorem dX8_carried_127 : decode cX8_carried 127 = .ok (.goto 4, 3) := by decide +kernel
theorem dX8_carried_130 : decode cX8_carried 130 = .ok (.iload_n 3, 1) := by decide +kernel
theorem dX8_carried_131 : decode cX8_carried 131 = .ok (.istore 10, 2) := by decide +kernel
theorem dX8_carried_133 : decode cX8_carried 133 = .ok (.iload 10, 2) := by decide +kernel
theorem dX8_carried_135 : decode cX8_carried 135 = .ok (.iload_n 3, 1) := by decide +kernel
theorem dX8_carried_136 : decode cX8_carried 136 = .ok (.if_icmp .ge 24, 3) := by decide +kernel
theorem dX8_carried_139 : decode cX8_carried 139 = .ok (.iload 10, 2) := by decide +kernel
theorem dX8_carried_141 : decode cX8_carried 141 = .ok (.istore_n 3, 1) := by decide +kernel
theorem dX8_carried_142 : decode cX8_carried 142 = .ok (.bipush 100, 2) := by decide +kernel
theorem dX8_carried_144 : decode cX8_carried 144 = .ok (.iload 6, 2) := by decide +kernel
theorem dX8_carried_146 : decode cX8_carried 146 = .ok (.iconst 1, 1) := by decide +kernel
theorem dX8_carried_147 : decode cX8_carried 147 = .ok (.iadd, 1) := by decide +kernel
theorem dX8_carried_148 : decode cX8_carried 148 = .ok (.imul, 1) := by decide +kernel
theorem dX8_carried_149 : decode cX8_carried 149 = .ok (.bipush 10, 2) := by decide +kernel
theorem dX8_carried_151 : decode cX8_carried 151 = .ok (.iload 7, 2) := by decide +kernel
theorem dX8_carried_153 : decode cX8_carried 153 = .ok (.imul, 1) := by decide +kernel
theorem dX8_carried_154 : decode cX8_carried 154 = .ok (.iadd, 1) := by decide +kernel
theorem dX8_carried_155 : decode cX8_carried 155 = .ok (.iload 8, 2) := by decide +kernel
theorem dX8_carried_157 : decode cX8_carried 157 = .ok (.iadd, 1) := by decide +kernel
theorem dX8_carried_158 : decode cX8_carried 158 = .ok (.istore 4, 2) := by decide +kernel
theorem dX8_carried_160 : decode cX8_carried 160 = .ok (.iinc 5 1, 3) := by decide +kernel
theorem dX8_carried_163 : decode cX8_carried 163 = .ok (.goto (-129), 3) := by decide +kernel
theorem dX8_carried_166 : decode cX8_carried 166 = .ok (.iload_n 2, 1) := by decide +kernel
theorem dX8_carried_167 : decode cX8_carried 167 = .ok (.ifCond .ne 7, 3) := by decide +kernel
theorem dX8_carried_170 : decode cX8_carried 170 = .ok (.iload_n 3, 1) := by decide +kernel
theorem dX8_carried_171 : decode cX8_carried 171 = .ok (.goto 5, 3) := by decide +kernel
theorem dX8_carried_174 : decode cX8_carried 174 = .ok (.iload 4, 2) := by decide +kernel
theorem dX8_carried_176 : decode cX8_carried 176 = .ok (.ireturn, 1) := by decide +kernel
theorem dX8_hinges_0 : decode cX8_hinges 0 = .ok (.iload_n 1, 1) := by decide +kernel
theorem dX8_hinges_1 : decode cX8_hinges 1 = .ok (.ifCond .lt 18, 3) := by decide +kernel
theorem dX8_hinges_4 : decode cX8_hinges 4 = .ok (.iload_n 1, 1) := by decide +kernel
theorem dX8_hinges_5 : decode cX8_hinges 5 = .ok (.bipush 20, 2) := by decide +kernel
theorem dX8_hinges_7 : decode cX8_hinges 7 = .ok (.if_icmp .gt 12, 3) := by decide +kernel
theorem dX8_hinges_10 : decode cX8_hinges 10 = .ok (.iload_n 2, 1) := by decide +kernel
theorem dX8_hinges_11 : decode cX8_hinges 11 = .ok (.ifCond .lt 8, 3) := by decide +kernel
theorem dX8_hinges_14 : decode cX8_hinges 14 = .ok (.iload_n 2, 1) := by decide +kernel
theorem dX8_hinges_15 : decode cX8_hinges 15 = .ok (.iconst 1, 1) := by decide +kernel
theorem dX8_hinges_16 : decode cX8_hinges 16 = .ok (.if_icmp .le 6, 3) := by decide +kernel
theorem dX8_hinges_19 : decode cX8_hinges 19 = .ok (.bipush (-2), 2) := by decide +kernel
theorem dX8_hinges_21 : decode cX8_hinges 21 = .ok (.ireturn, 1) := by decide +kernel
theorem dX8_hinges_22 : decode cX8_hinges 22 = .ok (.aload_n 0, 1) := by decide +kernel
theorem dX8_hinges_23 : decode cX8_hinges 23 = .ok (.iload_n 1, 1) := by decide +kernel
theorem dX8_hinges_24 : decode cX8_hinges 24 = .ok (.invokevirtual 206, 3) := by decide +kernel
theorem dX8_hinges_27 : decode cX8_hinges 27 = .ok (.istore_n 3, 1) := by decide +kernel
theorem dX8_hinges_28 : decode cX8_hinges 28 = .ok (.bipush (-6), 2) := by decide +kernel
theorem dX8_hinges_30 : decode cX8_hinges 30 = .ok (.istore 4, 2) := by decide +kernel
theorem dX8_hinges_32 : decode cX8_hinges 32 = .ok (.iconst 0, 1) := by decide +kernel
theorem dX8_hinges_33 : decode cX8_hinges 33 = .ok (.istore 5, 2) := by decide +kernel
theorem dX8_hinges_35 : decode cX8_hinges 35 = .ok (.iload 5, 2) := by decide +kernel
theorem dX8_hinges_37 : decode cX8_hinges 37 = .ok (.aload_n 0, 1) := by decide +kernel
theorem dX8_hinges_38 : decode cX8_hinges 38 = .ok (.getfield 10, 3) := by decide +kernel
theorem dX8_hinges_41 : decode cX8_hinges 41 = .ok (.getfield 81, 3) := by decide +kernel
theorem dX8_hinges_44 : decode cX8_hinges 44 = .ok (.if_icmp .ge 81, 3) := by decide +kernel
theorem dX8_hinges_47 : decode cX8_hinges 47 = .ok (.iload 5, 2) := by decide +kernel
theorem dX8_hinges_49 : decode cX8_hinges 49 = .ok (.iconst 1, 1) := by decide +kernel
theorem dX8_hinges_50 : decode cX8_hinges 50 = .ok (.iadd, 1) := by decide +kernel
theorem dX8_hinges_51 : decode cX8_hinges 51 = .ok (.istore 6, 2) := by decide +kernel
theorem dX8_hinges_53 : decode cX8_hinges 53 = .ok (.iload 6, 2) := by decide +kernel
theorem dX8_hinges_55 : decode cX8_hinges 55 = .ok (.aload_n 0, 1) := by decide +kernel
theorem dX8_hinges_56 : decode cX8_hinges 56 = .ok (.getfield 10, 3) := by decide +kernel
theorem dX8_hinges_59 : decode cX8_hinges 59 = .ok (.getfield 81, 3) := by decide +kernel
theorem dX8_hinges_62 : decode cX8_hinges 62 = .ok (.if_icmp .ge 57, 3) := by decide +kernel
theorem dX8_hinges_65 : decode cX8_hinges 65 = .ok (.aload_n 0, 1) := by decide +kernel
theorem dX8_hinges_66 : decode cX8_hinges 66 = .ok (.getfield 10, 3) := by decide +kernel
theorem dX8_hinges_69 : decode cX8_hinges 69 = .ok (.iload 5, 2) := by decide +kernel
theorem dX8_hinges_71 : decode cX8_hinges 71 = .ok (.iload 6, 2) := by decide +kernel
theorem dX8_hinges_73 : decode cX8_hinges 73 = .ok (.invokevirtual 104, 3) := by decide +kernel
theorem dX8_hinges_76 : decode cX8_hinges 76 = .ok (.ifCond .le 15, 3) := by decide +kernel
theorem dX8_hinges_79 : decode cX8_hinges 79 = .ok (.aload_n 0, 1) := by decide +kernel
theorem dX8_hinges_80 : decode cX8_hinges 80 = .ok (.iload 5, 2) := by decide +kernel
theorem dX8_hinges_82 : decode cX8_hinges 82 = .ok (.iload 6, 2) := by decide +kernel
theorem dX8_hinges_84 : decode cX8_hinges 84 = .ok (.iload_n 1, 1) := by decide +kernel
theorem dX8_hinges_85 : decode cX8_hinges 85 = .ok (.invokevirtual 217, 3) := by decide +kernel
theorem dX8_hinges_88 : decode cX8_hinges 88 = .ok (.goto 4, 3) := by decide +kernel
theorem dX8_hinges_91 : decode cX8_hinges 91 = .ok (.iload_n 3, 1) := by decide +kernel
theorem dX8_hinges_92 : decode cX8_hinges 92 = .ok (.istore 7, 2) := by decide +kernel
theorem dX8_hinges_94 : decode cX8_hinges 94 = .ok (.iload 7, 2) := by decide +kernel
theorem dX8_hinges_96 : decode cX8_hinges 96 = .ok (.iload_n 3, 1) := by decide +kernel
theorem dX8_hinges_97 : decode cX8_hinges 97 = .ok (.if_icmp .ge 16, 3) := by decide +kernel
theorem dX8_hinges_100 : decode cX8_hinges 100 = .ok (.iload 7, 2) := by decide +kernel
theorem dX8_hinges_102 : decode cX8_hinges 102 = .ok (.istore_n 3, 1) := by decide +kernel
theorem dX8_hinges_103 : decode cX8_hinges 103 = .ok (.bipush 10, 2) := by decide +kernel
theorem dX8_hinges_105 : decode cX8_hinges 105 = .ok (.iload 5, 2) := by decide +kernel
theorem dX8_hinges_107 : decode cX8_hinges 107 = .ok (.imul, 1) := by decide +kernel
theorem dX8_hinges_108 : decode cX8_hinges 108 = .ok (.iload 6, 2) := by decide +kernel
theorem dX8_hinges_110 : decode cX8_hinges 110 = .ok (.iadd, 1) := by decide +kernel
theorem dX8_hinges_111 : decode cX8_hinges 111 = .ok (.istore 4, 2) := by decide +kernel
theorem dX8_hinges_113 : decode cX8_hinges 113 = .ok (.iinc 6 1, 3) := by decide +kernel
theorem dX8_hinges_116 : decode cX8_hinges 116 = .ok (.goto (-63), 3) := by decide +kernel
theorem dX8_hinges_119 : decode cX8_hinges 119 = .ok (.iinc 5 1, 3) := by decide +kernel
theorem dX8_hinges_122 : decode cX8_hinges 122 = .ok (.goto (-87), 3) := by decide +kernel
theorem dX8_hinges_125 : decode cX8_hinges 125 = .ok (.iload_n 2, 1) := by decide +kernel
theorem dX8_hinges_126 : decode cX8_hinges 126 = .ok (.ifCond .ne 7, 3) := by decide +kernel
theorem dX8_hinges_129 : decode cX8_hinges 129 = .ok (.iload_n 3, 1) := by decide +kernel
theorem dX8_hinges_130 : decode cX8_hinges 130 = .ok (.goto 5, 3) := by decide +kernel
theorem dX8_hinges_133 : decode cX8_hinges 133 = .ok (.iload 4, 2) := by decide +kernel
theorem dX8_hinges_135 : decode cX8_hinges 135 = .ok (.ireturn, 1) := by decide +kernel
theorem dX8_best_0 : decode cX8_best 0 = .ok (.aload_n 0, 1) := by decide +kernel
theorem dX8_best_1 : decode cX8_best 1 = .ok (.getfield 10, 3) := by decide +kernel
theorem dX8_best_4 : decode cX8_best 4 = .ok (.iload_n 1, 1) := by decide +kernel
theorem dX8_best_5 : decode cX8_best 5 = .ok (.invokevirtual 130, 3) := by decide +kernel
theorem dX8_best_8 : decode cX8_best 8 = .ok (.ifCond .ne 5, 3) := by decide +kernel
theorem dX8_best_11 : decode cX8_best 11 = .ok (.iconst (-1), 1) := by decide +kernel
theorem dX8_best_12 : decode cX8_best 12 = .ok (.ireturn, 1) := by decide +kernel
theorem dX8_best_13 : decode cX8_best 13 = .ok (.aload_n 0, 1) := by decide +kernel
theorem dX8_best_14 : decode cX8_best 14 = .ok (.getfield 10, 3) := by decide +kernel
theorem dX8_best_17 : decode cX8_best 17 = .ok (.getfield 122, 3) := by decide +kernel
theorem dX8_best_20 : decode cX8_best 20 = .ok (.iload_n 1, 1) := by decide +kernel
theorem dX8_best_21 : decode cX8_best 21 = .ok (.iaload, 1) := by decide +kernel
theorem dX8_best_22 : decode cX8_best 22 = .ok (.istore_n 2, 1) := by decide +kernel
theorem dX8_best_23 : decode cX8_best 23 = .ok (.aload_n 0, 1) := by decide +kernel
theorem dX8_best_24 : decode cX8_best 24 = .ok (.getfield 10, 3) := by decide +kernel
theorem dX8_best_27 : decode cX8_best 27 = .ok (.iload_n 1, 1) := by decide +kernel
theorem dX8_best_28 : decode cX8_best 28 = .ok (.iload_n 2, 1) := by decide +kernel
theorem dX8_best_29 : decode cX8_best 29 = .ok (.invokevirtual 169, 3) := by decide +kernel
theorem dX8_best_32 : decode cX8_best 32 = .ok (.istore_n 3, 1) := by decide +kernel
theorem dX8_best_33 : decode cX8_best 33 = .ok (.iconst 0, 1) := by decide +kernel
theorem dX8_best_34 : decode cX8_best 34 = .ok (.istore 4, 2) := by decide +kernel
theorem dX8_best_36 : decode cX8_best 36 = .ok (.iload 4, 2) := by decide +kernel
theorem dX8_best_38 : decode cX8_best 38 = .ok (.aload_n 0, 1) := by decide +kernel
theorem dX8_best_39 : decode cX8_best 39 = .ok (.getfield 10, 3) := by decide +kernel
theorem dX8_best_42 : decode cX8_best 42 = .ok (.getfield 81, 3) := by decide +kernel
theorem dX8_best_45 : decode cX8_best 45 = .ok (.if_icmp .ge 33, 3) := by decide +kernel
theorem dX8_best_48 : decode cX8_best 48 = .ok (.aload_n 0, 1) := by decide +kernel
theorem dX8_best_49 : decode cX8_best 49 = .ok (.getfield 10, 3) := by decide +kernel
theorem dX8_best_52 : decode cX8_best 52 = .ok (.iload_n 1, 1) := by decide +kernel
theorem dX8_best_53 : decode cX8_best 53 = .ok (.iload 4, 2) := by decide +kernel
theorem dX8_best_55 : decode cX8_best 55 = .ok (.invokevirtual 169, 3) := by decide +kernel
theorem dX8_best_58 : decode cX8_best 58 = .ok (.istore 5, 2) := by decide +kernel
theorem dX8_best_60 : decode cX8_best 60 = .ok (.iload 5, 2) := by decide +kernel
theorem dX8_best_62 : decode cX8_best 62 = .ok (.iload_n 3, 1) := by decide +kernel
theorem dX8_best_63 : decode cX8_best 63 = .ok (.if_icmp .le 9, 3) := by decide +kernel
theorem dX8_best_66 : decode cX8_best 66 = .ok (.iload 5, 2) := by decide +kernel
theorem dX8_best_68 : decode cX8_best 68 = .ok (.istore_n 3, 1) := by decide +kernel
theorem dX8_best_69 : decode cX8_best 69 = .ok (.iload 4, 2) := by decide +kernel
theorem dX8_best_71 : decode cX8_best 71 = .ok (.istore_n 2, 1) := by decide +kernel
theorem dX8_best_72 : decode cX8_best 72 = .ok (.iinc 4 1, 3) := by decide +kernel
theorem dX8_best_75 : decode cX8_best 75 = .ok (.goto (-39), 3) := by decide +kernel
theorem dX8_best_78 : decode cX8_best 78 = .ok (.iload_n 2, 1) := by decide +kernel
theorem dX8_best_79 : decode cX8_best 79 = .ok (.ireturn, 1) := by decide +kernel
theorem dX8_rests_0 : decode cX8_rests 0 = .ok (.iload_n 1, 1) := by decide +kernel
theorem dX8_rests_1 : decode cX8_rests 1 = .ok (.ifCond .lt 24, 3) := by decide +kernel
theorem dX8_rests_4 : decode cX8_rests 4 = .ok (.iload_n 1, 1) := by decide +kernel
theorem dX8_rests_5 : decode cX8_rests 5 = .ok (.sipush 255, 3) := by decide +kernel
theorem dX8_rests_8 : decode cX8_rests 8 = .ok (.if_icmp .gt 17, 3) := by decide +kernel
theorem dX8_rests_11 : decode cX8_rests 11 = .ok (.iload_n 1, 1) := by decide +kernel
theorem dX8_rests_12 : decode cX8_rests 12 = .ok (.aload_n 0, 1) := by decide +kernel
theorem dX8_rests_13 : decode cX8_rests 13 = .ok (.getfield 10, 3) := by decide +kernel
theorem dX8_rests_16 : decode cX8_rests 16 = .ok (.getfield 119, 3) := by decide +kernel
theorem dX8_rests_19 : decode cX8_rests 19 = .ok (.iconst (-1), 1) := by decide +kernel
theorem dX8_rests_20 : decode cX8_rests 20 = .ok (.ixor, 1) := by decide +kernel
theorem dX8_rests_21 : decode cX8_rests 21 = .ok (.iand, 1) := by decide +kernel
theorem dX8_rests_22 : decode cX8_rests 22 = .ok (.ifCond .eq 6, 3) := by decide +kernel
theorem dX8_rests_25 : decode cX8_rests 25 = .ok (.bipush (-2), 2) := by decide +kernel
theorem dX8_rests_27 : decode cX8_rests 27 = .ok (.ireturn, 1) := by decide +kernel
theorem dX8_rests_28 : decode cX8_rests 28 = .ok (.iload_n 2, 1) := by decide +kernel
theorem dX8_rests_29 : decode cX8_rests 29 = .ok (.iconst (-1), 1) := by decide +kernel
theorem dX8_rests_30 : decode cX8_rests 30 = .ok (.if_icmp .eq 13, 3) := by decide +kernel
theorem dX8_rests_33 : decode cX8_rests 33 = .ok (.iload_n 1, 1) := by decide +kernel
theorem dX8_rests_34 : decode cX8_rests 34 = .ok (.iload_n 2, 1) := by decide +kernel
theorem dX8_rests_35 : decode cX8_rests 35 = .ok (.invokestatic 220, 3) := by decide +kernel
theorem dX8_rests_38 : decode cX8_rests 38 = .ok (.ifCond .ne 5, 3) := by decide +kernel
theorem dX8_rests_41 : decode cX8_rests 41 = .ok (.iconst (-1), 1) := by decide +kernel
theorem dX8_rests_42 : decode cX8_rests 42 = .ok (.ireturn, 1) := by decide +kernel
theorem dX8_rests_43 : decode cX8_rests 43 = .ok (.iload_n 1, 1) := by decide +kernel
theorem dX8_rests_44 : decode cX8_rests 44 = .ok (.invokestatic 125, 3) := by decide +kernel
theorem dX8_rests_47 : decode cX8_rests 47 = .ok (.bipush 6, 2) := by decide +kernel
theorem dX8_rests_49 : decode cX8_rests 49 = .ok (.if_icmp .le 6, 3) := by decide +kernel
theorem dX8_rests_52 : decode cX8_rests 52 = .ok (.bipush (-4), 2) := by decide +kernel
theorem dX8_rests_54 : decode cX8_rests 54 = .ok (.ireturn, 1) := by decide +kernel
theorem dX8_rests_55 : decode cX8_rests 55 = .ok (.aload_n 0, 1) := by decide +kernel
theorem dX8_rests_56 : decode cX8_rests 56 = .ok (.getfield 48, 3) := by decide +kernel
theorem dX8_rests_59 : decode cX8_rests 59 = .ok (.aload_n 0, 1) := by decide +kernel
theorem dX8_rests_60 : decode cX8_rests 60 = .ok (.getfield 10, 3) := by decide +kernel
theorem dX8_rests_63 : decode cX8_rests 63 = .ok (.iload_n 1, 1) := by decide +kernel
theorem dX8_rests_64 : decode cX8_rests 64 = .ok (.invokevirtual 224, 3) := by decide +kernel
theorem dX8_rests_67 : decode cX8_rests 67 = .ok (.iload_n 2, 1) := by decide +kernel
theorem dX8_rests_68 : decode cX8_rests 68 = .ok (.iconst (-1), 1) := by decide +kernel
theorem dX8_rests_69 : decode cX8_rests 69 = .ok (.if_icmp .ne 13, 3) := by decide +kernel
theorem dX8_rests_72 : decode cX8_rests 72 = .ok (.aload_n 0, 1) := by decide +kernel
theorem dX8_rests_73 : decode cX8_rests 73 = .ok (.getfield 48, 3) := by decide +kernel
theorem dX8_rests_76 : decode cX8_rests 76 = .ok (.getfield 228, 3) := by decide +kernel
theorem dX8_rests_79 : decode cX8_rests 79 = .ok (.goto 11, 3) := by decide +kernel
theorem dX8_rests_82 : decode cX8_rests 82 = .ok (.aload_n 0, 1) := by decide +kernel
theorem dX8_rests_83 : decode cX8_rests 83 = .ok (.getfield 48, 3) := by decide +kernel
theorem dX8_rests_86 : decode cX8_rests 86 = .ok (.iload_n 2, 1) := by decide +kernel
theorem dX8_rests_87 : decode cX8_rests 87 = .ok (.invokevirtual 231, 3) := by decide +kernel
theorem dX8_rests_90 : decode cX8_rests 90 = .ok (.ireturn, 1) := by decide +kernel
theorem dX8_led_0 : decode cX8_led 0 = .ok (.aload_n 0, 1) := by decide +kernel
theorem dX8_led_1 : decode cX8_led 1 = .ok (.getfield 10, 3) := by decide +kernel
theorem dX8_led_4 : decode cX8_led 4 = .ok (.iload_n 1, 1) := by decide +kernel
theorem dX8_led_5 : decode cX8_led 5 = .ok (.invokevirtual 85, 3) := by decide +kernel
theorem dX8_led_8 : decode cX8_led 8 = .ok (.ifCond .ne 5, 3) := by decide +kernel
theorem dX8_led_11 : decode cX8_led 11 = .ok (.iconst (-1), 1) := by decide +kernel
theorem dX8_led_12 : decode cX8_led 12 = .ok (.ireturn, 1) := by decide +kernel
theorem dX8_led_13 : decode cX8_led 13 = .ok (.iload_n 2, 1) := by decide +kernel
theorem dX8_led_14 : decode cX8_led 14 = .ok (.iconst 1, 1) := by decide +kernel
theorem dX8_led_15 : decode cX8_led 15 = .ok (.if_icmp .lt 30, 3) := by decide +kernel
theorem dX8_led_18 : decode cX8_led 18 = .ok (.iload_n 2, 1) := by decide +kernel
theorem dX8_led_19 : decode cX8_led 19 = .ok (.bipush 8, 2) := by decide +kernel
theorem dX8_led_21 : decode cX8_led 21 = .ok (.if_icmp .gt 24, 3) := by decide +kernel
theorem dX8_led_24 : decode cX8_led 24 = .ok (.iload_n 3, 1) := by decide +kernel
theorem dX8_led_25 : decode cX8_led 25 = .ok (.ifCond .lt 20, 3) := by decide +kernel
theorem dX8_led_28 : decode cX8_led 28 = .ok (.iload_n 3, 1) := by decide +kernel
theorem dX8_led_29 : decode cX8_led 29 = .ok (.bipush 20, 2) := by decide +kernel
theorem dX8_led_31 : decode cX8_led 31 = .ok (.if_icmp .gt 14, 3) := by decide +kernel
theorem dX8_led_34 : decode cX8_led 34 = .ok (.iload 4, 2) := by decide +kernel
theorem dX8_led_36 : decode cX8_led 36 = .ok (.ifCond .lt 9, 3) := by decide +kernel
theorem dX8_led_39 : decode cX8_led 39 = .ok (.iload 4, 2) := by decide +kernel
theorem dX8_led_41 : decode cX8_led 41 = .ok (.iconst 1, 1) := by decide +kernel
theorem dX8_led_42 : decode cX8_led 42 = .ok (.if_icmp .le 6, 3) := by decide +kernel
theorem dX8_led_45 : decode cX8_led 45 = .ok (.bipush (-2), 2) := by decide +kernel
theorem dX8_led_47 : decode cX8_led 47 = .ok (.ireturn, 1) := by decide +kernel
theorem dX8_led_48 : decode cX8_led 48 = .ok (.aload_n 0, 1) := by decide +kernel
theorem dX8_led_49 : decode cX8_led 49 = .ok (.getfield 10, 3) := by decide +kernel
theorem dX8_led_52 : decode cX8_led 52 = .ok (.invokevirtual 234, 3) := by decide +kernel
theorem dX8_led_55 : decode cX8_led 55 = .ok (.istore 5, 2) := by decide +kernel
theorem dX8_led_57 : decode cX8_led 57 = .ok (.iconst 0, 1) := by decide +kernel
theorem dX8_led_58 : decode cX8_led 58 = .ok (.istore 6, 2) := by decide +kernel
theorem dX8_led_60 : decode cX8_led 60 = .ok (.iload 6, 2) := by decide +kernel
theorem dX8_led_62 : decode cX8_led 62 = .ok (.iload 5, 2) := by decide +kernel
theorem dX8_led_64 : decode cX8_led 64 = .ok (.invokestatic 125, 3) := by decide +kernel
theorem dX8_led_67 : decode cX8_led 67 = .ok (.if_icmp .gt 70, 3) := by decide +kernel
theorem dX8_led_70 : decode cX8_led 70 = .ok (.iconst 0, 1) := by decide +kernel
theorem dX8_led_71 : decode cX8_led 71 = .ok (.istore 7, 2) := by decide +kernel
theorem dX8_led_73 : decode cX8_led 73 = .ok (.iload 7, 2) := by decide +kernel
theorem dX8_led_75 : decode cX8_led 75 = .ok (.iload 5, 2) := by decide +kernel
theorem dX8_led_77 : decode cX8_led 77 = .ok (.if_icmp .gt 54, 3) := by decide +kernel
theorem dX8_led_80 : decode cX8_led 80 = .ok (.iload 7, 2) := by decide +kernel
theorem dX8_led_82 : decode cX8_led 82 = .ok (.invokestatic 125, 3) := by decide +kernel
theorem dX8_led_85 : decode cX8_led 85 = .ok (.iload 6, 2) := by decide +kernel
theorem dX8_led_87 : decode cX8_led 87 = .ok (.if_icmp .ne 38, 3) := by decide +kernel
theorem dX8_led_90 : decode cX8_led 90 = .ok (.iload 7, 2) := by decide +kernel
theorem dX8_led_92 : decode cX8_led 92 = .ok (.iload 5, 2) := by decide +kernel
theorem dX8_led_94 : decode cX8_led 94 = .ok (.iconst (-1), 1) := by decide +kernel
theorem dX8_led_95 : decode cX8_led 95 = .ok (.ixor, 1) := by decide +kernel
theorem dX8_led_96 : decode cX8_led 96 = .ok (.iand, 1) := by decide +kernel
theorem dX8_led_97 : decode cX8_led 97 = .ok (.ifCond .ne 28, 3) := by decide +kernel
theorem dX8_led_100 : decode cX8_led 100 = .ok (.aload_n 0, 1) := by decide +kernel
theorem dX8_led_101 : decode cX8_led 101 = .ok (.iload 7, 2) := by decide +kernel
theorem dX8_led_103 : decode cX8_led 103 = .ok (.iload_n 1, 1) := by decide +kernel
theorem dX8_led_104 : decode cX8_led 104 = .ok (.iload_n 2, 1) := by decide +kernel
theorem dX8_led_105 : decode cX8_led 105 = .ok (.iload_n 3, 1) := by decide +kernel
theorem dX8_led_106 : decode cX8_led 106 = .ok (.invokevirtual 237, 3) := by decide +kernel
theorem dX8_led_109 : decode cX8_led 109 = .ok (.ifCond .eq 16, 3) := by decide +kernel
theorem dX8_led_112 : decode cX8_led 112 = .ok (.iload 4, 2) := by decide +kernel
theorem dX8_led_114 : decode cX8_led 114 = .ok (.ifCond .ne 8, 3) := by decide +kernel
theorem dX8_led_117 : decode cX8_led 117 = .ok (.iload 6, 2) := by decide +kernel
theorem dX8_led_119 : decode cX8_led 119 = .ok (.goto 5, 3) := by decide +kernel
theorem dX8_led_122 : decode cX8_led 122 = .ok (.iload 7, 2) := by decide +kernel
theorem dX8_led_124 : decode cX8_led 124 = .ok (.ireturn, 1) := by decide +kernel
theorem dX8_led_125 : decode cX8_led 125 = .ok (.iinc 7 1, 3) := by decide +kernel
theorem dX8_led_128 : decode cX8_led 128 = .ok (.goto (-55), 3) := by decide +kernel
theorem dX8_led_131 : decode cX8_led 131 = .ok (.iinc 6 1, 3) := by decide +kernel
theorem dX8_led_134 : decode cX8_led 134 = .ok (.goto (-74), 3) := by decide +kernel
theorem dX8_led_137 : decode cX8_led 137 = .ok (.bipush (-6), 2) := by decide +kernel
theorem dX8_led_139 : decode cX8_led 139 = .ok (.ireturn, 1) := by decide +kernel
theorem dX8_excuses_0 : decode cX8_excuses 0 = .ok (.aload_n 0, 1) := by decide +kernel
theorem dX8_excuses_1 : decode cX8_excuses 1 = .ok (.getfield 10, 3) := by decide +kernel
theorem dX8_excuses_4 : decode cX8_excuses 4 = .ok (.iload_n 1, 1) := by decide +kernel
theorem dX8_excuses_5 : decode cX8_excuses 5 = .ok (.invokevirtual 130, 3) := by decide +kernel
theorem dX8_excuses_8 : decode cX8_excuses 8 = .ok (.ifCond .eq 14, 3) := by decide +kernel
theorem dX8_excuses_11 : decode cX8_excuses 11 = .ok (.aload_n 0, 1) := by decide +kernel
theorem dX8_excuses_12 : decode cX8_excuses 12 = .ok (.getfield 10, 3) := by decide +kernel
theorem dX8_excuses_15 : decode cX8_excuses 15 = .ok (.iload_n 2, 1) := by decide +kernel
theorem dX8_excuses_16 : decode cX8_excuses 16 = .ok (.invokevirtual 85, 3) := by decide +kernel
theorem dX8_excuses_19 : decode cX8_excuses 19 = .ok (.ifCond .ne 5, 3) := by decide +kernel
theorem dX8_excuses_22 : decode cX8_excuses 22 = .ok (.iconst (-1), 1) := by decide +kernel
theorem dX8_excuses_23 : decode cX8_excuses 23 = .ok (.ireturn, 1) := by decide +kernel
theorem dX8_excuses_24 : decode cX8_excuses 24 = .ok (.aload_n 0, 1) := by decide +kernel
theorem dX8_excuses_25 : decode cX8_excuses 25 = .ok (.getfield 55, 3) := by decide +kernel
theorem dX8_excuses_28 : decode cX8_excuses 28 = .ok (.aload_n 0, 1) := by decide +kernel
theorem dX8_excuses_29 : decode cX8_excuses 29 = .ok (.getfield 10, 3) := by decide +kernel
theorem dX8_excuses_32 : decode cX8_excuses 32 = .ok (.iload_n 2, 1) := by decide +kernel
theorem dX8_excuses_33 : decode cX8_excuses 33 = .ok (.invokevirtual 241, 3) := by decide +kernel
theorem dX8_excuses_36 : decode cX8_excuses 36 = .ok (.aload_n 0, 1) := by decide +kernel
theorem dX8_excuses_37 : decode cX8_excuses 37 = .ok (.getfield 10, 3) := by decide +kernel
theorem dX8_excuses_40 : decode cX8_excuses 40 = .ok (.getfield 122, 3) := by decide +kernel
theorem dX8_excuses_43 : decode cX8_excuses 43 = .ok (.iload_n 1, 1) := by decide +kernel
theorem dX8_excuses_44 : decode cX8_excuses 44 = .ok (.iaload, 1) := by decide +kernel
theorem dX8_excuses_45 : decode cX8_excuses 45 = .ok (.istore 4, 2) := by decide +kernel
theorem dX8_excuses_47 : decode cX8_excuses 47 = .ok (.iload_n 3, 1) := by decide +kernel
theorem dX8_excuses_48 : decode cX8_excuses 48 = .ok (.iconst (-1), 1) := by decide +kernel
theorem dX8_excuses_49 : decode cX8_excuses 49 = .ok (.if_icmp .ne 15, 3) := by decide +kernel
theorem dX8_excuses_52 : decode cX8_excuses 52 = .ok (.aload_n 0, 1) := by decide +kernel
theorem dX8_excuses_53 : decode cX8_excuses 53 = .ok (.getfield 55, 3) := by decide +kernel
theorem dX8_excuses_56 : decode cX8_excuses 56 = .ok (.iload 4, 2) := by decide +kernel
theorem dX8_excuses_58 : decode cX8_excuses 58 = .ok (.invokevirtual 243, 3) := by decide +kernel
theorem dX8_excuses_61 : decode cX8_excuses 61 = .ok (.goto 17, 3) := by decide +kernel
theorem dX8_excuses_64 : decode cX8_excuses 64 = .ok (.aload_n 0, 1) := by decide +kernel
theorem dX8_excuses_65 : decode cX8_excuses 65 = .ok (.getfield 55, 3) := by decide +kernel
theorem dX8_excuses_68 : decode cX8_excuses 68 = .ok (.aload_n 0, 1) := by decide +kernel
theorem dX8_excuses_69 : decode cX8_excuses 69 = .ok (.getfield 10, 3) := by decide +kernel
theorem dX8_excuses_72 : decode cX8_excuses 72 = .ok (.iload 4, 2) := by decide +kernel
theorem dX8_excuses_74 : decode cX8_excuses 74 = .ok (.iload_n 3, 1) := by decide +kernel
theorem dX8_excuses_75 : decode cX8_excuses 75 = .ok (.invokevirtual 246, 3) := by decide +kernel
theorem dX8_excuses_78 : decode cX8_excuses 78 = .ok (.ireturn, 1) := by decide +kernel
theorem dX8_seen_0 : decode cX8_seen 0 = .ok (.iload_n 1, 1) := by decide +kernel
theorem dX8_seen_1 : decode cX8_seen 1 = .ok (.ifCond .lt 20, 3) := by decide +kernel
theorem dX8_seen_4 : decode cX8_seen 4 = .ok (.iload_n 1, 1) := by decide +kernel
theorem dX8_seen_5 : decode cX8_seen 5 = .ok (.bipush 8, 2) := by decide +kernel
theorem dX8_seen_7 : decode cX8_seen 7 = .ok (.if_icmp .ge 14, 3) := by decide +kernel
theorem dX8_seen_10 : decode cX8_seen 10 = .ok (.aload_n 0, 1) := by decide +kernel
theorem dX8_seen_11 : decode cX8_seen 11 = .ok (.getfield 10, 3) := by decide +kernel
theorem dX8_seen_14 : decode cX8_seen 14 = .ok (.iload_n 2, 1) := by decide +kernel
theorem dX8_seen_15 : decode cX8_seen 15 = .ok (.invokevirtual 85, 3) := by decide +kernel
theorem dX8_seen_18 : decode cX8_seen 18 = .ok (.ifCond .ne 5, 3) := by decide +kernel
theorem dX8_seen_21 : decode cX8_seen 21 = .ok (.iconst (-1), 1) := by decide +kernel
theorem dX8_seen_22 : decode cX8_seen 22 = .ok (.ireturn, 1) := by decide +kernel
theorem dX8_seen_23 : decode cX8_seen 23 = .ok (.aload_n 0, 1) := by decide +kernel
theorem dX8_seen_24 : decode cX8_seen 24 = .ok (.getfield 10, 3) := by decide +kernel
theorem dX8_seen_27 : decode cX8_seen 27 = .ok (.getfield 250, 3) := by decide +kernel
theorem dX8_seen_30 : decode cX8_seen 30 = .ok (.bipush 6, 2) := by decide +kernel
theorem dX8_seen_32 : decode cX8_seen 32 = .ok (.if_icmp .lt 6, 3) := by decide +kernel
theorem dX8_seen_35 : decode cX8_seen 35 = .ok (.bipush (-4), 2) := by decide +kernel
theorem dX8_seen_37 : decode cX8_seen 37 = .ok (.ireturn, 1) := by decide +kernel
theorem dX8_seen_38 : decode cX8_seen 38 = .ok (.aload_n 0, 1) := by decide +kernel
theorem dX8_seen_39 : decode cX8_seen 39 = .ok (.getfield 10, 3) := by decide +kernel
theorem dX8_seen_42 : decode cX8_seen 42 = .ok (.getfield 253, 3) := by decide +kernel
theorem dX8_seen_45 : decode cX8_seen 45 = .ok (.aload_n 0, 1) := by decide +kernel
theorem dX8_seen_46 : decode cX8_seen 46 = .ok (.getfield 10, 3) := by decide +kernel
theorem dX8_seen_49 : decode cX8_seen 49 = .ok (.getfield 250, 3) := by decide +kernel
theorem dX8_seen_52 : decode cX8_seen 52 = .ok (.iload_n 1, 1) := by decide +kernel
theorem dX8_seen_53 : decode cX8_seen 53 = .ok (.iastore, 1) := by decide +kernel
theorem dX8_seen_54 : decode cX8_seen 54 = .ok (.aload_n 0, 1) := by decide +kernel
theorem dX8_seen_55 : decode cX8_seen 55 = .ok (.getfield 10, 3) := by decide +kernel
theorem dX8_seen_58 : decode cX8_seen 58 = .ok (.getfield 256, 3) := by decide +kernel
theorem dX8_seen_61 : decode cX8_seen 61 = .ok (.aload_n 0, 1) := by decide +kernel
theorem dX8_seen_62 : decode cX8_seen 62 = .ok (.getfield 10, 3) := by decide +kernel
theorem dX8_seen_65 : decode cX8_seen 65 = .ok (.getfield 250, 3) := by decide +kernel
theorem dX8_seen_68 : decode cX8_seen 68 = .ok (.iload_n 2, 1) := by decide +kernel
theorem dX8_seen_69 : decode cX8_seen 69 = .ok (.iastore, 1) := by decide +kernel
theorem dX8_seen_70 : decode cX8_seen 70 = .ok (.aload_n 0, 1) := by decide +kernel
theorem dX8_seen_71 : decode cX8_seen 71 = .ok (.getfield 10, 3) := by decide +kernel
theorem dX8_seen_74 : decode cX8_seen 74 = .ok (.dup, 1) := by decide +kernel
theorem dX8_seen_75 : decode cX8_seen 75 = .ok (.getfield 250, 3) := by decide +kernel
theorem dX8_seen_78 : decode cX8_seen 78 = .ok (.iconst 1, 1) := by decide +kernel
theorem dX8_seen_79 : decode cX8_seen 79 = .ok (.iadd, 1) := by decide +kernel
theorem dX8_seen_80 : decode cX8_seen 80 = .ok (.putfield 250, 3) := by decide +kernel
theorem dX8_seen_83 : decode cX8_seen 83 = .ok (.aload_n 0, 1) := by decide +kernel
theorem dX8_seen_84 : decode cX8_seen 84 = .ok (.getfield 10, 3) := by decide +kernel
theorem dX8_seen_87 : decode cX8_seen 87 = .ok (.getfield 250, 3) := by decide +kernel
theorem dX8_seen_90 : decode cX8_seen 90 = .ok (.ireturn, 1) := by decide +kernel
theorem dX8_forget_0 : decode cX8_forget 0 = .ok (.aload_n 0, 1) := by decide +kernel
theorem dX8_forget_1 : decode cX8_forget 1 = .ok (.getfield 10, 3) := by decide +kernel
theorem dX8_forget_4 : decode cX8_forget 4 = .ok (.getfield 250, 3) := by decide +kernel
theorem dX8_forget_7 : decode cX8_forget 7 = .ok (.istore_n 1, 1) := by decide +kernel
theorem dX8_forget_8 : decode cX8_forget 8 = .ok (.aload_n 0, 1) := by decide +kernel
theorem dX8_forget_9 : decode cX8_forget 9 = .ok (.getfield 10, 3) := by decide +kernel
theorem dX8_forget_12 : decode cX8_forget 12 = .ok (.iconst 0, 1) := by decide +kernel
theorem dX8_forget_13 : decode cX8_forget 13 = .ok (.putfield 250, 3) := by decide +kernel
theorem dX8_forget_16 : decode cX8_forget 16 = .ok (.iload_n 1, 1) := by decide +kernel
theorem dX8_forget_17 : decode cX8_forget 17 = .ok (.ireturn, 1) := by decide +kernel
theorem dX8_tastes_0 : decode cX8_tastes 0 = .ok (.aload_n 0, 1) := by decide +kernel
theorem dX8_tastes_1 : decode cX8_tastes 1 = .ok (.getfield 10, 3) := by decide +kernel
theorem dX8_tastes_4 : decode cX8_tastes 4 = .ok (.iload_n 1, 1) := by decide +kernel
theorem dX8_tastes_5 : decode cX8_tastes 5 = .ok (.invokevirtual 130, 3) := by decide +kernel
theorem dX8_tastes_8 : decode cX8_tastes 8 = .ok (.ifCond .ne 5, 3) := by decide +kernel
theorem dX8_tastes_11 : decode cX8_tastes 11 = .ok (.iconst (-1), 1) := by decide +kernel
theorem dX8_tastes_12 : decode cX8_tastes 12 = .ok (.ireturn, 1) := by decide +kernel
theorem dX8_tastes_13 : decode cX8_tastes 13 = .ok (.iload_n 2, 1) := by decide +kernel
theorem dX8_tastes_14 : decode cX8_tastes 14 = .ok (.ifCond .lt 8, 3) := by decide +kernel
theorem dX8_tastes_17 : decode cX8_tastes 17 = .ok (.iload_n 2, 1) := by decide +kernel
theorem dX8_tastes_18 : decode cX8_tastes 18 = .ok (.iconst 5, 1) := by decide +kernel
theorem dX8_tastes_19 : decode cX8_tastes 19 = .ok (.if_icmp .lt 6, 3) := by decide +kernel
theorem dX8_tastes_22 : decode cX8_tastes 22 = .ok (.bipush (-2), 2) := by decide +kernel
theorem dX8_tastes_24 : decode cX8_tastes 24 = .ok (.ireturn, 1) := by decide +kernel
theorem dX8_tastes_25 : decode cX8_tastes 25 = .ok (.aload_n 0, 1) := by decide +kernel
theorem dX8_tastes_26 : decode cX8_tastes 26 = .ok (.getfield 34, 3) := by decide +kernel
theorem dX8_tastes_29 : decode cX8_tastes 29 = .ok (.aload_n 0, 1) := by decide +kernel
theorem dX8_tastes_30 : decode cX8_tastes 30 = .ok (.getfield 10, 3) := by decide +kernel
theorem dX8_tastes_33 : decode cX8_tastes 33 = .ok (.invokevirtual 175, 3) := by decide +kernel
theorem dX8_tastes_36 : decode cX8_tastes 36 = .ok (.iconst 0, 1) := by decide +kernel
theorem dX8_tastes_37 : decode cX8_tastes 37 = .ok (.istore_n 3, 1) := by decide +kernel
theorem dX8_tastes_38 : decode cX8_tastes 38 = .ok (.iconst 0, 1) := by decide +kernel
theorem dX8_tastes_39 : decode cX8_tastes 39 = .ok (.istore 4, 2) := by decide +kernel
end
section
theorem dX8_tastes_41 : decode cX8_tastes 41 = .ok (.iload 4, 2) := by decide +kernel
theorem dX8_tastes_43 : decode cX8_tastes 43 = .ok (.bipush 6, 2) := by decide +kernel
theorem dX8_tastes_45 : decode cX8_tastes 45 = .ok (.if_icmp .gt 62, 3) := by decide +kernel
theorem dX8_tastes_48 : decode cX8_tastes 48 = .ok (.aload_n 0, 1) := by decide +kernel
theorem dX8_tastes_49 : decode cX8_tastes 49 = .ok (.getfield 34, 3) := by decide +kernel
theorem dX8_tastes_52 : decode cX8_tastes 52 = .ok (.getfield 159, 3) := by decide +kernel
theorem dX8_tastes_55 : decode cX8_tastes 55 = .ok (.getfield 133, 3) := by decide +kernel
theorem dX8_tastes_58 : decode cX8_tastes 58 = .ok (.iload_n 1, 1) := by decide +kernel
theorem dX8_tastes_59 : decode cX8_tastes 59 = .ok (.iconst 5, 1) := by decide +kernel
theorem dX8_tastes_60 : decode cX8_tastes 60 = .ok (.imul, 1) := by decide +kernel
theorem dX8_tastes_61 : decode cX8_tastes 61 = .ok (.iload_n 2, 1) := by decide +kernel
theorem dX8_tastes_62 : decode cX8_tastes 62 = .ok (.iadd, 1) := by decide +kernel
theorem dX8_tastes_63 : decode cX8_tastes 63 = .ok (.iload 4, 2) := by decide +kernel
theorem dX8_tastes_65 : decode cX8_tastes 65 = .ok (.iconst 3, 1) := by decide +kernel
theorem dX8_tastes_66 : decode cX8_tastes 66 = .ok (.isub, 1) := by decide +kernel
theorem dX8_tastes_67 : decode cX8_tastes 67 = .ok (.iastore, 1) := by decide +kernel
theorem dX8_tastes_68 : decode cX8_tastes 68 = .ok (.aload_n 0, 1) := by decide +kernel
theorem dX8_tastes_69 : decode cX8_tastes 69 = .ok (.getfield 34, 3) := by decide +kernel
theorem dX8_tastes_72 : decode cX8_tastes 72 = .ok (.invokevirtual 259, 3) := by decide +kernel
theorem dX8_tastes_75 : decode cX8_tastes 75 = .ok (.aload_n 0, 1) := by decide +kernel
theorem dX8_tastes_76 : decode cX8_tastes 76 = .ok (.getfield 10, 3) := by decide +kernel
theorem dX8_tastes_79 : decode cX8_tastes 79 = .ok (.iload_n 1, 1) := by decide +kernel
theorem dX8_tastes_80 : decode cX8_tastes 80 = .ok (.aload_n 0, 1) := by decide +kernel
theorem dX8_tastes_81 : decode cX8_tastes 81 = .ok (.getfield 34, 3) := by decide +kernel
theorem dX8_tastes_84 : decode cX8_tastes 84 = .ok (.iload_n 1, 1) := by decide +kernel
theorem dX8_tastes_85 : decode cX8_tastes 85 = .ok (.invokevirtual 178, 3) := by decide +kernel
theorem dX8_tastes_88 : decode cX8_tastes 88 = .ok (.invokevirtual 262, 3) := by decide +kernel
theorem dX8_tastes_91 : decode cX8_tastes 91 = .ok (.ifCond .eq 10, 3) := by decide +kernel
theorem dX8_tastes_94 : decode cX8_tastes 94 = .ok (.iload_n 3, 1) := by decide +kernel
theorem dX8_tastes_95 : decode cX8_tastes 95 = .ok (.iconst 1, 1) := by decide +kernel
theorem dX8_tastes_96 : decode cX8_tastes 96 = .ok (.iload 4, 2) := by decide +kernel
theorem dX8_tastes_98 : decode cX8_tastes 98 = .ok (.ishl, 1) := by decide +kernel
theorem dX8_tastes_99 : decode cX8_tastes 99 = .ok (.ior, 1) := by decide +kernel
theorem dX8_tastes_100 : decode cX8_tastes 100 = .ok (.istore_n 3, 1) := by decide +kernel
theorem dX8_tastes_101 : decode cX8_tastes 101 = .ok (.iinc 4 1, 3) := by decide +kernel
theorem dX8_tastes_104 : decode cX8_tastes 104 = .ok (.goto (-63), 3) := by decide +kernel
theorem dX8_tastes_107 : decode cX8_tastes 107 = .ok (.iload_n 3, 1) := by decide +kernel
theorem dX8_tastes_108 : decode cX8_tastes 108 = .ok (.ireturn, 1) := by decide +kernel
theorem dX8_drunk_0 : decode cX8_drunk 0 = .ok (.aload_n 0, 1) := by decide +kernel
theorem dX8_drunk_1 : decode cX8_drunk 1 = .ok (.getfield 10, 3) := by decide +kernel
theorem dX8_drunk_4 : decode cX8_drunk 4 = .ok (.iload_n 1, 1) := by decide +kernel
theorem dX8_drunk_5 : decode cX8_drunk 5 = .ok (.invokevirtual 130, 3) := by decide +kernel
theorem dX8_drunk_8 : decode cX8_drunk 8 = .ok (.ifCond .eq 14, 3) := by decide +kernel
theorem dX8_drunk_11 : decode cX8_drunk 11 = .ok (.aload_n 0, 1) := by decide +kernel
theorem dX8_drunk_12 : decode cX8_drunk 12 = .ok (.getfield 10, 3) := by decide +kernel
theorem dX8_drunk_15 : decode cX8_drunk 15 = .ok (.iload_n 2, 1) := by decide +kernel
theorem dX8_drunk_16 : decode cX8_drunk 16 = .ok (.invokevirtual 85, 3) := by decide +kernel
theorem dX8_drunk_19 : decode cX8_drunk 19 = .ok (.ifCond .ne 7, 3) := by decide +kernel
theorem dX8_drunk_22 : decode cX8_drunk 22 = .ok (.ldc2_w 265, 3) := by decide +kernel
theorem dX8_drunk_25 : decode cX8_drunk 25 = .ok (.lreturn, 1) := by decide +kernel
theorem dX8_drunk_26 : decode cX8_drunk 26 = .ok (.iload_n 3, 1) := by decide +kernel
theorem dX8_drunk_27 : decode cX8_drunk 27 = .ok (.ifCond .lt 32, 3) := by decide +kernel
theorem dX8_drunk_30 : decode cX8_drunk 30 = .ok (.iload_n 3, 1) := by decide +kernel
theorem dX8_drunk_31 : decode cX8_drunk 31 = .ok (.bipush 10, 2) := by decide +kernel
theorem dX8_drunk_33 : decode cX8_drunk 33 = .ok (.if_icmp .gt 26, 3) := by decide +kernel
theorem dX8_drunk_36 : decode cX8_drunk 36 = .ok (.iload 4, 2) := by decide +kernel
theorem dX8_drunk_38 : decode cX8_drunk 38 = .ok (.ifCond .lt 21, 3) := by decide +kernel
theorem dX8_drunk_41 : decode cX8_drunk 41 = .ok (.iload 4, 2) := by decide +kernel
theorem dX8_drunk_43 : decode cX8_drunk 43 = .ok (.bipush 6, 2) := by decide +kernel
theorem dX8_drunk_45 : decode cX8_drunk 45 = .ok (.if_icmp .gt 14, 3) := by decide +kernel
theorem dX8_drunk_48 : decode cX8_drunk 48 = .ok (.iload 5, 2) := by decide +kernel
theorem dX8_drunk_50 : decode cX8_drunk 50 = .ok (.ifCond .lt 9, 3) := by decide +kernel
theorem dX8_drunk_53 : decode cX8_drunk 53 = .ok (.iload 5, 2) := by decide +kernel
theorem dX8_drunk_55 : decode cX8_drunk 55 = .ok (.iconst 1, 1) := by decide +kernel
theorem dX8_drunk_56 : decode cX8_drunk 56 = .ok (.if_icmp .le 7, 3) := by decide +kernel
theorem dX8_drunk_59 : decode cX8_drunk 59 = .ok (.ldc2_w 267, 3) := by decide +kernel
theorem dX8_drunk_62 : decode cX8_drunk 62 = .ok (.lreturn, 1) := by decide +kernel
theorem dX8_drunk_63 : decode cX8_drunk 63 = .ok (.aload_n 0, 1) := by decide +kernel
theorem dX8_drunk_64 : decode cX8_drunk 64 = .ok (.getfield 62, 3) := by decide +kernel
theorem dX8_drunk_67 : decode cX8_drunk 67 = .ok (.aload_n 0, 1) := by decide +kernel
theorem dX8_drunk_68 : decode cX8_drunk 68 = .ok (.getfield 10, 3) := by decide +kernel
theorem dX8_drunk_71 : decode cX8_drunk 71 = .ok (.iload_n 1, 1) := by decide +kernel
theorem dX8_drunk_72 : decode cX8_drunk 72 = .ok (.iload_n 3, 1) := by decide +kernel
theorem dX8_drunk_73 : decode cX8_drunk 73 = .ok (.iload 4, 2) := by decide +kernel
theorem dX8_drunk_75 : decode cX8_drunk 75 = .ok (.invokevirtual 269, 3) := by decide +kernel
theorem dX8_drunk_78 : decode cX8_drunk 78 = .ok (.iload 5, 2) := by decide +kernel
theorem dX8_drunk_80 : decode cX8_drunk 80 = .ok (.ifCond .ne 14, 3) := by decide +kernel
theorem dX8_drunk_83 : decode cX8_drunk 83 = .ok (.aload_n 0, 1) := by decide +kernel
theorem dX8_drunk_84 : decode cX8_drunk 84 = .ok (.getfield 62, 3) := by decide +kernel
theorem dX8_drunk_87 : decode cX8_drunk 87 = .ok (.iload_n 2, 1) := by decide +kernel
theorem dX8_drunk_88 : decode cX8_drunk 88 = .ok (.invokevirtual 273, 3) := by decide +kernel
theorem dX8_drunk_91 : decode cX8_drunk 91 = .ok (.goto 11, 3) := by decide +kernel
theorem dX8_drunk_94 : decode cX8_drunk 94 = .ok (.aload_n 0, 1) := by decide +kernel
theorem dX8_drunk_95 : decode cX8_drunk 95 = .ok (.getfield 62, 3) := by decide +kernel
theorem dX8_drunk_98 : decode cX8_drunk 98 = .ok (.iload_n 2, 1) := by decide +kernel
theorem dX8_drunk_99 : decode cX8_drunk 99 = .ok (.invokevirtual 277, 3) := by decide +kernel
theorem dX8_drunk_102 : decode cX8_drunk 102 = .ok (.lreturn, 1) := by decide +kernel
theorem dX8_year_0 : decode cX8_year 0 = .ok (.iload_n 1, 1) := by decide +kernel
theorem dX8_year_1 : decode cX8_year 1 = .ok (.ifCond .lt 30, 3) := by decide +kernel
theorem dX8_year_4 : decode cX8_year 4 = .ok (.iload_n 1, 1) := by decide +kernel
theorem dX8_year_5 : decode cX8_year 5 = .ok (.sipush 9999, 3) := by decide +kernel
theorem dX8_year_8 : decode cX8_year 8 = .ok (.if_icmp .gt 23, 3) := by decide +kernel
theorem dX8_year_11 : decode cX8_year 11 = .ok (.iload_n 2, 1) := by decide +kernel
theorem dX8_year_12 : decode cX8_year 12 = .ok (.iconst 1, 1) := by decide +kernel
theorem dX8_year_13 : decode cX8_year 13 = .ok (.if_icmp .lt 18, 3) := by decide +kernel
theorem dX8_year_16 : decode cX8_year 16 = .ok (.iload_n 2, 1) := by decide +kernel
theorem dX8_year_17 : decode cX8_year 17 = .ok (.bipush 99, 2) := by decide +kernel
theorem dX8_year_19 : decode cX8_year 19 = .ok (.if_icmp .gt 12, 3) := by decide +kernel
theorem dX8_year_22 : decode cX8_year 22 = .ok (.iload_n 3, 1) := by decide +kernel
theorem dX8_year_23 : decode cX8_year 23 = .ok (.ifCond .lt 8, 3) := by decide +kernel
theorem dX8_year_26 : decode cX8_year 26 = .ok (.iload_n 3, 1) := by decide +kernel
theorem dX8_year_27 : decode cX8_year 27 = .ok (.iconst 2, 1) := by decide +kernel
theorem dX8_year_28 : decode cX8_year 28 = .ok (.if_icmp .le 6, 3) := by decide +kernel
theorem dX8_year_31 : decode cX8_year 31 = .ok (.bipush (-2), 2) := by decide +kernel
theorem dX8_year_33 : decode cX8_year 33 = .ok (.ireturn, 1) := by decide +kernel
theorem dX8_year_34 : decode cX8_year 34 = .ok (.aload_n 0, 1) := by decide +kernel
theorem dX8_year_35 : decode cX8_year 35 = .ok (.getfield 34, 3) := by decide +kernel
theorem dX8_year_38 : decode cX8_year 38 = .ok (.aload_n 0, 1) := by decide +kernel
theorem dX8_year_39 : decode cX8_year 39 = .ok (.getfield 10, 3) := by decide +kernel
theorem dX8_year_42 : decode cX8_year 42 = .ok (.invokevirtual 175, 3) := by decide +kernel
theorem dX8_year_45 : decode cX8_year 45 = .ok (.aload_n 0, 1) := by decide +kernel
theorem dX8_year_46 : decode cX8_year 46 = .ok (.getfield 69, 3) := by decide +kernel
theorem dX8_year_49 : decode cX8_year 49 = .ok (.iload_n 1, 1) := by decide +kernel
theorem dX8_year_50 : decode cX8_year 50 = .ok (.iload_n 2, 1) := by decide +kernel
theorem dX8_year_51 : decode cX8_year 51 = .ok (.aload_n 0, 1) := by decide +kernel
theorem dX8_year_52 : decode cX8_year 52 = .ok (.getfield 34, 3) := by decide +kernel
theorem dX8_year_55 : decode cX8_year 55 = .ok (.invokevirtual 280, 3) := by decide +kernel
theorem dX8_year_58 : decode cX8_year 58 = .ok (.iload_n 3, 1) := by decide +kernel
theorem dX8_year_59 : decode cX8_year 59 = .ok (.ifCond .ne 11, 3) := by decide +kernel
theorem dX8_year_62 : decode cX8_year 62 = .ok (.aload_n 0, 1) := by decide +kernel
theorem dX8_year_63 : decode cX8_year 63 = .ok (.getfield 69, 3) := by decide +kernel
theorem dX8_year_66 : decode cX8_year 66 = .ok (.getfield 284, 3) := by decide +kernel
theorem dX8_year_69 : decode cX8_year 69 = .ok (.ireturn, 1) := by decide +kernel
theorem dX8_year_70 : decode cX8_year 70 = .ok (.iload_n 3, 1) := by decide +kernel
theorem dX8_year_71 : decode cX8_year 71 = .ok (.iconst 1, 1) := by decide +kernel
theorem dX8_year_72 : decode cX8_year 72 = .ok (.if_icmp .ne 13, 3) := by decide +kernel
theorem dX8_year_75 : decode cX8_year 75 = .ok (.aload_n 0, 1) := by decide +kernel
theorem dX8_year_76 : decode cX8_year 76 = .ok (.getfield 69, 3) := by decide +kernel
theorem dX8_year_79 : decode cX8_year 79 = .ok (.getfield 287, 3) := by decide +kernel
theorem dX8_year_82 : decode cX8_year 82 = .ok (.goto 14, 3) := by decide +kernel
theorem dX8_year_85 : decode cX8_year 85 = .ok (.aload_n 0, 1) := by decide +kernel
theorem dX8_year_86 : decode cX8_year 86 = .ok (.getfield 34, 3) := by decide +kernel
theorem dX8_year_89 : decode cX8_year 89 = .ok (.getfield 159, 3) := by decide +kernel
theorem dX8_year_92 : decode cX8_year 92 = .ok (.iconst 0, 1) := by decide +kernel
theorem dX8_year_93 : decode cX8_year 93 = .ok (.invokevirtual 89, 3) := by decide +kernel
theorem dX8_year_96 : decode cX8_year 96 = .ok (.ireturn, 1) := by decide +kernel
theorem dX8_image_0 : decode cX8_image 0 = .ok (.iload_n 1, 1) := by decide +kernel
theorem dX8_image_1 : decode cX8_image 1 = .ok (.ifCond .lt 8, 3) := by decide +kernel
theorem dX8_image_4 : decode cX8_image 4 = .ok (.iload_n 1, 1) := by decide +kernel
theorem dX8_image_5 : decode cX8_image 5 = .ok (.iconst 2, 1) := by decide +kernel
theorem dX8_image_6 : decode cX8_image 6 = .ok (.if_icmp .lt 6, 3) := by decide +kernel
theorem dX8_image_9 : decode cX8_image 9 = .ok (.bipush (-2), 2) := by decide +kernel
theorem dX8_image_11 : decode cX8_image 11 = .ok (.ireturn, 1) := by decide +kernel
theorem dX8_image_12 : decode cX8_image 12 = .ok (.aload_n 0, 1) := by decide +kernel
theorem dX8_image_13 : decode cX8_image 13 = .ok (.getfield 16, 3) := by decide +kernel
theorem dX8_image_16 : decode cX8_image 16 = .ok (.iload_n 1, 1) := by decide +kernel
theorem dX8_image_17 : decode cX8_image 17 = .ok (.aaload, 1) := by decide +kernel
theorem dX8_image_18 : decode cX8_image 18 = .ok (.aload_n 0, 1) := by decide +kernel
theorem dX8_image_19 : decode cX8_image 19 = .ok (.getfield 10, 3) := by decide +kernel
theorem dX8_image_22 : decode cX8_image 22 = .ok (.invokevirtual 162, 3) := by decide +kernel
theorem dX8_image_25 : decode cX8_image 25 = .ok (.aload_n 0, 1) := by decide +kernel
theorem dX8_image_26 : decode cX8_image 26 = .ok (.getfield 20, 3) := by decide +kernel
theorem dX8_image_29 : decode cX8_image 29 = .ok (.iload_n 1, 1) := by decide +kernel
theorem dX8_image_30 : decode cX8_image 30 = .ok (.iconst 1, 1) := by decide +kernel
theorem dX8_image_31 : decode cX8_image 31 = .ok (.bastore, 1) := by decide +kernel
theorem dX8_image_32 : decode cX8_image 32 = .ok (.iconst 1, 1) := by decide +kernel
theorem dX8_image_33 : decode cX8_image 33 = .ok (.ireturn, 1) := by decide +kernel
theorem dX8_restore_0 : decode cX8_restore 0 = .ok (.iload_n 1, 1) := by decide +kernel
theorem dX8_restore_1 : decode cX8_restore 1 = .ok (.ifCond .lt 8, 3) := by decide +kernel
theorem dX8_restore_4 : decode cX8_restore 4 = .ok (.iload_n 1, 1) := by decide +kernel
theorem dX8_restore_5 : decode cX8_restore 5 = .ok (.iconst 2, 1) := by decide +kernel
theorem dX8_restore_6 : decode cX8_restore 6 = .ok (.if_icmp .lt 6, 3) := by decide +kernel
theorem dX8_restore_9 : decode cX8_restore 9 = .ok (.bipush (-2), 2) := by decide +kernel
theorem dX8_restore_11 : decode cX8_restore 11 = .ok (.ireturn, 1) := by decide +kernel
theorem dX8_restore_12 : decode cX8_restore 12 = .ok (.aload_n 0, 1) := by decide +kernel
theorem dX8_restore_13 : decode cX8_restore 13 = .ok (.getfield 20, 3) := by decide +kernel
theorem dX8_restore_16 : decode cX8_restore 16 = .ok (.iload_n 1, 1) := by decide +kernel
theorem dX8_restore_17 : decode cX8_restore 17 = .ok (.baload, 1) := by decide +kernel
theorem dX8_restore_18 : decode cX8_restore 18 = .ok (.ifCond .ne 6, 3) := by decide +kernel
theorem dX8_restore_21 : decode cX8_restore 21 = .ok (.bipush (-3), 2) := by decide +kernel
theorem dX8_restore_23 : decode cX8_restore 23 = .ok (.ireturn, 1) := by decide +kernel
theorem dX8_restore_24 : decode cX8_restore 24 = .ok (.aload_n 0, 1) := by decide +kernel
theorem dX8_restore_25 : decode cX8_restore 25 = .ok (.getfield 10, 3) := by decide +kernel
theorem dX8_restore_28 : decode cX8_restore 28 = .ok (.aload_n 0, 1) := by decide +kernel
theorem dX8_restore_29 : decode cX8_restore 29 = .ok (.getfield 16, 3) := by decide +kernel
theorem dX8_restore_32 : decode cX8_restore 32 = .ok (.iload_n 1, 1) := by decide +kernel
theorem dX8_restore_33 : decode cX8_restore 33 = .ok (.aaload, 1) := by decide +kernel
theorem dX8_restore_34 : decode cX8_restore 34 = .ok (.invokevirtual 162, 3) := by decide +kernel
theorem dX8_restore_37 : decode cX8_restore 37 = .ok (.iconst 1, 1) := by decide +kernel
theorem dX8_restore_38 : decode cX8_restore 38 = .ok (.ireturn, 1) := by decide +kernel
theorem dX8_told_0 : decode cX8_told 0 = .ok (.iload_n 1, 1) := by decide +kernel
theorem dX8_told_1 : decode cX8_told 1 = .ok (.tableswitch 63 0 3 #[31, 39, 47, 55], 31) := by decide +kernel
theorem dX8_told_32 : decode cX8_told 32 = .ok (.aload_n 0, 1) := by decide +kernel
theorem dX8_told_33 : decode cX8_told 33 = .ok (.getfield 27, 3) := by decide +kernel
theorem dX8_told_36 : decode cX8_told 36 = .ok (.getfield 139, 3) := by decide +kernel
theorem dX8_told_39 : decode cX8_told 39 = .ok (.ireturn, 1) := by decide +kernel
theorem dX8_told_40 : decode cX8_told 40 = .ok (.aload_n 0, 1) := by decide +kernel
theorem dX8_told_41 : decode cX8_told 41 = .ok (.getfield 10, 3) := by decide +kernel
theorem dX8_told_44 : decode cX8_told 44 = .ok (.getfield 81, 3) := by decide +kernel
theorem dX8_told_47 : decode cX8_told 47 = .ok (.ireturn, 1) := by decide +kernel
theorem dX8_told_48 : decode cX8_told 48 = .ok (.aload_n 0, 1) := by decide +kernel
theorem dX8_told_49 : decode cX8_told 49 = .ok (.getfield 10, 3) := by decide +kernel
theorem dX8_told_52 : decode cX8_told 52 = .ok (.getfield 119, 3) := by decide +kernel
theorem dX8_told_55 : decode cX8_told 55 = .ok (.ireturn, 1) := by decide +kernel
theorem dX8_told_56 : decode cX8_told 56 = .ok (.aload_n 0, 1) := by decide +kernel
theorem dX8_told_57 : decode cX8_told 57 = .ok (.getfield 10, 3) := by decide +kernel
theorem dX8_told_60 : decode cX8_told 60 = .ok (.getfield 250, 3) := by decide +kernel
theorem dX8_told_63 : decode cX8_told 63 = .ok (.ireturn, 1) := by decide +kernel
theorem dX8_told_64 : decode cX8_told 64 = .ok (.aload_n 0, 1) := by decide +kernel
theorem dX8_told_65 : decode cX8_told 65 = .ok (.iload_n 1, 1) := by decide +kernel
theorem dX8_told_66 : decode cX8_told 66 = .ok (.invokevirtual 290, 3) := by decide +kernel
theorem dX8_told_69 : decode cX8_told 69 = .ok (.ireturn, 1) := by decide +kernel
theorem dX8_toldByCode_0 : decode cX8_toldByCode 0 = .ok (.iload_n 1, 1) := by decide +kernel
theorem dX8_toldByCode_1 : decode cX8_toldByCode 1 = .ok (.bipush 10, 2) := by decide +kernel
theorem dX8_toldByCode_3 : decode cX8_toldByCode 3 = .ok (.if_icmp .ge 6, 3) := by decide +kernel
theorem dX8_toldByCode_6 : decode cX8_toldByCode 6 = .ok (.bipush (-2), 2) := by decide +kernel
theorem dX8_toldByCode_8 : decode cX8_toldByCode 8 = .ok (.ireturn, 1) := by decide +kernel
theorem dX8_toldByCode_9 : decode cX8_toldByCode 9 = .ok (.iload_n 1, 1) := by decide +kernel
theorem dX8_toldByCode_10 : decode cX8_toldByCode 10 = .ok (.bipush 100, 2) := by decide +kernel
theorem dX8_toldByCode_12 : decode cX8_toldByCode 12 = .ok (.if_icmp .ge 52, 3) := by decide +kernel
theorem dX8_toldByCode_15 : decode cX8_toldByCode 15 = .ok (.iload_n 1, 1) := by decide +kernel
theorem dX8_toldByCode_16 : decode cX8_toldByCode 16 = .ok (.bipush 10, 2) := by decide +kernel
theorem dX8_toldByCode_18 : decode cX8_toldByCode 18 = .ok (.idiv, 1) := by decide +kernel
theorem dX8_toldByCode_19 : decode cX8_toldByCode 19 = .ok (.iconst 1, 1) := by decide +kernel
theorem dX8_toldByCode_20 : decode cX8_toldByCode 20 = .ok (.isub, 1) := by decide +kernel
theorem dX8_toldByCode_21 : decode cX8_toldByCode 21 = .ok (.istore_n 2, 1) := by decide +kernel
theorem dX8_toldByCode_22 : decode cX8_toldByCode 22 = .ok (.iload_n 1, 1) := by decide +kernel
theorem dX8_toldByCode_23 : decode cX8_toldByCode 23 = .ok (.bipush 10, 2) := by decide +kernel
theorem dX8_toldByCode_25 : decode cX8_toldByCode 25 = .ok (.irem, 1) := by decide +kernel
theorem dX8_toldByCode_26 : decode cX8_toldByCode 26 = .ok (.istore_n 3, 1) := by decide +kernel
theorem dX8_toldByCode_27 : decode cX8_toldByCode 27 = .ok (.aload_n 0, 1) := by decide +kernel
theorem dX8_toldByCode_28 : decode cX8_toldByCode 28 = .ok (.getfield 10, 3) := by decide +kernel
theorem dX8_toldByCode_31 : decode cX8_toldByCode 31 = .ok (.iload_n 2, 1) := by decide +kernel
theorem dX8_toldByCode_32 : decode cX8_toldByCode 32 = .ok (.invokevirtual 85, 3) := by decide +kernel
theorem dX8_toldByCode_35 : decode cX8_toldByCode 35 = .ok (.ifCond .eq 26, 3) := by decide +kernel
theorem dX8_toldByCode_38 : decode cX8_toldByCode 38 = .ok (.iload_n 3, 1) := by decide +kernel
theorem dX8_toldByCode_39 : decode cX8_toldByCode 39 = .ok (.bipush 6, 2) := by decide +kernel
theorem dX8_toldByCode_41 : decode cX8_toldByCode 41 = .ok (.if_icmp .ge 20, 3) := by decide +kernel
theorem dX8_toldByCode_44 : decode cX8_toldByCode 44 = .ok (.aload_n 0, 1) := by decide +kernel
theorem dX8_toldByCode_45 : decode cX8_toldByCode 45 = .ok (.getfield 10, 3) := by decide +kernel
theorem dX8_toldByCode_48 : decode cX8_toldByCode 48 = .ok (.getfield 96, 3) := by decide +kernel
theorem dX8_toldByCode_51 : decode cX8_toldByCode 51 = .ok (.iload_n 2, 1) := by decide +kernel
theorem dX8_toldByCode_52 : decode cX8_toldByCode 52 = .ok (.bipush 6, 2) := by decide +kernel
theorem dX8_toldByCode_54 : decode cX8_toldByCode 54 = .ok (.imul, 1) := by decide +kernel
theorem dX8_toldByCode_55 : decode cX8_toldByCode 55 = .ok (.iload_n 3, 1) := by decide +kernel
theorem dX8_toldByCode_56 : decode cX8_toldByCode 56 = .ok (.iadd, 1) := by decide +kernel
theorem dX8_toldByCode_57 : decode cX8_toldByCode 57 = .ok (.iaload, 1) := by decide +kernel
theorem dX8_toldByCode_58 : decode cX8_toldByCode 58 = .ok (.goto 5, 3) := by decide +kernel
theorem dX8_toldByCode_61 : decode cX8_toldByCode 61 = .ok (.bipush (-2), 2) := by decide +kernel
theorem dX8_toldByCode_63 : decode cX8_toldByCode 63 = .ok (.ireturn, 1) := by decide +kernel
theorem dX8_toldByCode_64 : decode cX8_toldByCode 64 = .ok (.iload_n 1, 1) := by decide +kernel
theorem dX8_toldByCode_65 : decode cX8_toldByCode 65 = .ok (.sipush 1000, 3) := by decide +kernel
theorem dX8_toldByCode_68 : decode cX8_toldByCode 68 = .ok (.if_icmp .ge 57, 3) := by decide +kernel
theorem dX8_toldByCode_71 : decode cX8_toldByCode 71 = .ok (.iload_n 1, 1) := by decide +kernel
theorem dX8_toldByCode_72 : decode cX8_toldByCode 72 = .ok (.bipush 100, 2) := by decide +kernel
theorem dX8_toldByCode_74 : decode cX8_toldByCode 74 = .ok (.idiv, 1) := by decide +kernel
theorem dX8_toldByCode_75 : decode cX8_toldByCode 75 = .ok (.iconst 1, 1) := by decide +kernel
theorem dX8_toldByCode_76 : decode cX8_toldByCode 76 = .ok (.isub, 1) := by decide +kernel
theorem dX8_toldByCode_77 : decode cX8_toldByCode 77 = .ok (.istore_n 2, 1) := by decide +kernel
theorem dX8_toldByCode_78 : decode cX8_toldByCode 78 = .ok (.iload_n 1, 1) := by decide +kernel
theorem dX8_toldByCode_79 : decode cX8_toldByCode 79 = .ok (.bipush 100, 2) := by decide +kernel
theorem dX8_toldByCode_81 : decode cX8_toldByCode 81 = .ok (.irem, 1) := by decide +kernel
theorem dX8_toldByCode_82 : decode cX8_toldByCode 82 = .ok (.istore_n 3, 1) := by decide +kernel
theorem dX8_toldByCode_83 : decode cX8_toldByCode 83 = .ok (.aload_n 0, 1) := by decide +kernel
theorem dX8_toldByCode_84 : decode cX8_toldByCode 84 = .ok (.getfield 10, 3) := by decide +kernel
theorem dX8_toldByCode_87 : decode cX8_toldByCode 87 = .ok (.iload_n 2, 1) := by decide +kernel
theorem dX8_toldByCode_88 : decode cX8_toldByCode 88 = .ok (.invokevirtual 85, 3) := by decide +kernel
theorem dX8_toldByCode_91 : decode cX8_toldByCode 91 = .ok (.ifCond .eq 31, 3) := by decide +kernel
theorem dX8_toldByCode_94 : decode cX8_toldByCode 94 = .ok (.aload_n 0, 1) := by decide +kernel
theorem dX8_toldByCode_95 : decode cX8_toldByCode 95 = .ok (.getfield 10, 3) := by decide +kernel
theorem dX8_toldByCode_98 : decode cX8_toldByCode 98 = .ok (.iload_n 3, 1) := by decide +kernel
theorem dX8_toldByCode_99 : decode cX8_toldByCode 99 = .ok (.invokevirtual 85, 3) := by decide +kernel
theorem dX8_toldByCode_102 : decode cX8_toldByCode 102 = .ok (.ifCond .eq 20, 3) := by decide +kernel
theorem dX8_toldByCode_105 : decode cX8_toldByCode 105 = .ok (.iload_n 2, 1) := by decide +kernel
theorem dX8_toldByCode_106 : decode cX8_toldByCode 106 = .ok (.iload_n 3, 1) := by decide +kernel
theorem dX8_toldByCode_107 : decode cX8_toldByCode 107 = .ok (.if_icmp .eq 15, 3) := by decide +kernel
theorem dX8_toldByCode_110 : decode cX8_toldByCode 110 = .ok (.aload_n 0, 1) := by decide +kernel
theorem dX8_toldByCode_111 : decode cX8_toldByCode 111 = .ok (.getfield 10, 3) := by decide +kernel
theorem dX8_toldByCode_114 : decode cX8_toldByCode 114 = .ok (.iload_n 2, 1) := by decide +kernel
theorem dX8_toldByCode_115 : decode cX8_toldByCode 115 = .ok (.iload_n 3, 1) := by decide +kernel
theorem dX8_toldByCode_116 : decode cX8_toldByCode 116 = .ok (.invokevirtual 104, 3) := by decide +kernel
theorem dX8_toldByCode_119 : decode cX8_toldByCode 119 = .ok (.goto 5, 3) := by decide +kernel
theorem dX8_toldByCode_122 : decode cX8_toldByCode 122 = .ok (.bipush (-2), 2) := by decide +kernel
theorem dX8_toldByCode_124 : decode cX8_toldByCode 124 = .ok (.ireturn, 1) := by decide +kernel
theorem dX8_toldByCode_125 : decode cX8_toldByCode 125 = .ok (.iload_n 1, 1) := by decide +kernel
theorem dX8_toldByCode_126 : decode cX8_toldByCode 126 = .ok (.sipush 1000, 3) := by decide +kernel
theorem dX8_toldByCode_129 : decode cX8_toldByCode 129 = .ok (.idiv, 1) := by decide +kernel
theorem dX8_toldByCode_130 : decode cX8_toldByCode 130 = .ok (.iconst 1, 1) := by decide +kernel
theorem dX8_toldByCode_131 : decode cX8_toldByCode 131 = .ok (.isub, 1) := by decide +kernel
theorem dX8_toldByCode_132 : decode cX8_toldByCode 132 = .ok (.istore_n 2, 1) := by decide +kernel
theorem dX8_toldByCode_133 : decode cX8_toldByCode 133 = .ok (.iload_n 1, 1) := by decide +kernel
theorem dX8_toldByCode_134 : decode cX8_toldByCode 134 = .ok (.sipush 1000, 3) := by decide +kernel
theorem dX8_toldByCode_137 : decode cX8_toldByCode 137 = .ok (.irem, 1) := by decide +kernel
theorem dX8_toldByCode_138 : decode cX8_toldByCode 138 = .ok (.istore_n 3, 1) := by decide +kernel
theorem dX8_toldByCode_139 : decode cX8_toldByCode 139 = .ok (.aload_n 0, 1) := by decide +kernel
theorem dX8_toldByCode_140 : decode cX8_toldByCode 140 = .ok (.getfield 10, 3) := by decide +kernel
theorem dX8_toldByCode_143 : decode cX8_toldByCode 143 = .ok (.iload_n 2, 1) := by decide +kernel
theorem dX8_toldByCode_144 : decode cX8_toldByCode 144 = .ok (.invokevirtual 130, 3) := by decide +kernel
theorem dX8_toldByCode_147 : decode cX8_toldByCode 147 = .ok (.ifCond .eq 27, 3) := by decide +kernel
theorem dX8_toldByCode_150 : decode cX8_toldByCode 150 = .ok (.iload_n 3, 1) := by decide +kernel
theorem dX8_toldByCode_151 : decode cX8_toldByCode 151 = .ok (.iconst 5, 1) := by decide +kernel
theorem dX8_toldByCode_152 : decode cX8_toldByCode 152 = .ok (.if_icmp .ge 22, 3) := by decide +kernel
theorem dX8_toldByCode_155 : decode cX8_toldByCode 155 = .ok (.aload_n 0, 1) := by decide +kernel
theorem dX8_toldByCode_156 : decode cX8_toldByCode 156 = .ok (.getfield 10, 3) := by decide +kernel
theorem dX8_toldByCode_159 : decode cX8_toldByCode 159 = .ok (.getfield 133, 3) := by decide +kernel
theorem dX8_toldByCode_162 : decode cX8_toldByCode 162 = .ok (.iload_n 2, 1) := by decide +kernel
theorem dX8_toldByCode_163 : decode cX8_toldByCode 163 = .ok (.iconst 5, 1) := by decide +kernel
theorem dX8_toldByCode_164 : decode cX8_toldByCode 164 = .ok (.imul, 1) := by decide +kernel
theorem dX8_toldByCode_165 : decode cX8_toldByCode 165 = .ok (.iload_n 3, 1) := by decide +kernel
theorem dX8_toldByCode_166 : decode cX8_toldByCode 166 = .ok (.iadd, 1) := by decide +kernel
theorem dX8_toldByCode_167 : decode cX8_toldByCode 167 = .ok (.iaload, 1) := by decide +kernel
theorem dX8_toldByCode_168 : decode cX8_toldByCode 168 = .ok (.bipush 10, 2) := by decide +kernel
theorem dX8_toldByCode_170 : decode cX8_toldByCode 170 = .ok (.iadd, 1) := by decide +kernel
theorem dX8_toldByCode_171 : decode cX8_toldByCode 171 = .ok (.goto 5, 3) := by decide +kernel
theorem dX8_toldByCode_174 : decode cX8_toldByCode 174 = .ok (.bipush (-2), 2) := by decide +kernel
theorem dX8_toldByCode_176 : decode cX8_toldByCode 176 = .ok (.ireturn, 1) := by decide +kernel
theorem dX8_playsOut_0 : decode cX8_playsOut 0 = .ok (.aload_n 0, 1) := by decide +kernel
theorem dX8_playsOut_1 : decode cX8_playsOut 1 = .ok (.getfield 27, 3) := by decide +kernel
theorem dX8_playsOut_4 : decode cX8_playsOut 4 = .ok (.aload_n 0, 1) := by decide +kernel
theorem dX8_playsOut_5 : decode cX8_playsOut 5 = .ok (.getfield 10, 3) := by decide +kernel
theorem dX8_playsOut_8 : decode cX8_playsOut 8 = .ok (.getfield 81, 3) := by decide +kernel
theorem dX8_playsOut_11 : decode cX8_playsOut 11 = .ok (.invokevirtual 142, 3) := by decide +kernel
theorem dX8_playsOut_14 : decode cX8_playsOut 14 = .ok (.bipush (-6), 2) := by decide +kernel
theorem dX8_playsOut_16 : decode cX8_playsOut 16 = .ok (.if_icmp .eq 5, 3) := by decide +kernel
theorem dX8_playsOut_19 : decode cX8_playsOut 19 = .ok (.iconst 0, 1) := by decide +kernel
theorem dX8_playsOut_20 : decode cX8_playsOut 20 = .ok (.ireturn, 1) := by decide +kernel
theorem dX8_playsOut_21 : decode cX8_playsOut 21 = .ok (.aload_n 0, 1) := by decide +kernel
theorem dX8_playsOut_22 : decode cX8_playsOut 22 = .ok (.getfield 41, 3) := by decide +kernel
theorem dX8_playsOut_25 : decode cX8_playsOut 25 = .ok (.aload_n 0, 1) := by decide +kernel
theorem dX8_playsOut_26 : decode cX8_playsOut 26 = .ok (.getfield 27, 3) := by decide +kernel
theorem dX8_playsOut_29 : decode cX8_playsOut 29 = .ok (.aload_n 0, 1) := by decide +kernel
theorem dX8_playsOut_30 : decode cX8_playsOut 30 = .ok (.getfield 10, 3) := by decide +kernel
theorem dX8_playsOut_33 : decode cX8_playsOut 33 = .ok (.aload_n 0, 1) := by decide +kernel
theorem dX8_playsOut_34 : decode cX8_playsOut 34 = .ok (.getfield 34, 3) := by decide +kernel
theorem dX8_playsOut_37 : decode cX8_playsOut 37 = .ok (.invokevirtual 145, 3) := by decide +kernel
theorem dX8_playsOut_40 : decode cX8_playsOut 40 = .ok (.aload_n 0, 1) := by decide +kernel
theorem dX8_playsOut_41 : decode cX8_playsOut 41 = .ok (.getfield 41, 3) := by decide +kernel
theorem dX8_playsOut_44 : decode cX8_playsOut 44 = .ok (.getfield 149, 3) := by decide +kernel
theorem dX8_playsOut_47 : decode cX8_playsOut 47 = .ok (.ifCond .ne 7, 3) := by decide +kernel
theorem dX8_playsOut_50 : decode cX8_playsOut 50 = .ok (.iconst 1, 1) := by decide +kernel
theorem dX8_playsOut_51 : decode cX8_playsOut 51 = .ok (.goto 4, 3) := by decide +kernel
theorem dX8_playsOut_54 : decode cX8_playsOut 54 = .ok (.iconst 0, 1) := by decide +kernel
theorem dX8_playsOut_55 : decode cX8_playsOut 55 = .ok (.ireturn, 1) := by decide +kernel
theorem dX8_firstStill_0 : decode cX8_firstStill 0 = .ok (.aload_n 0, 1) := by decide +kernel
theorem dX8_firstStill_1 : decode cX8_firstStill 1 = .ok (.getfield 34, 3) := by decide +kernel
theorem dX8_firstStill_4 : decode cX8_firstStill 4 = .ok (.aload_n 0, 1) := by decide +kernel
theorem dX8_firstStill_5 : decode cX8_firstStill 5 = .ok (.getfield 10, 3) := by decide +kernel
theorem dX8_firstStill_8 : decode cX8_firstStill 8 = .ok (.invokevirtual 175, 3) := by decide +kernel
theorem dX8_firstStill_11 : decode cX8_firstStill 11 = .ok (.iconst 1, 1) := by decide +kernel
theorem dX8_firstStill_12 : decode cX8_firstStill 12 = .ok (.istore_n 1, 1) := by decide +kernel
theorem dX8_firstStill_13 : decode cX8_firstStill 13 = .ok (.iload_n 1, 1) := by decide +kernel
theorem dX8_firstStill_14 : decode cX8_firstStill 14 = .ok (.bipush 99, 2) := by decide +kernel
theorem dX8_firstStill_16 : decode cX8_firstStill 16 = .ok (.if_icmp .gt 21, 3) := by decide +kernel
theorem dX8_firstStill_19 : decode cX8_firstStill 19 = .ok (.aload_n 0, 1) := by decide +kernel
theorem dX8_firstStill_20 : decode cX8_firstStill 20 = .ok (.getfield 34, 3) := by decide +kernel
theorem dX8_firstStill_23 : decode cX8_firstStill 23 = .ok (.invokevirtual 293, 3) := by decide +kernel
theorem dX8_firstStill_26 : decode cX8_firstStill 26 = .ok (.ifCond .eq 5, 3) := by decide +kernel
theorem dX8_firstStill_29 : decode cX8_firstStill 29 = .ok (.iload_n 1, 1) := by decide +kernel
theorem dX8_firstStill_30 : decode cX8_firstStill 30 = .ok (.ireturn, 1) := by decide +kernel
theorem dX8_firstStill_31 : decode cX8_firstStill 31 = .ok (.iinc 1 1, 3) := by decide +kernel
theorem dX8_firstStill_34 : decode cX8_firstStill 34 = .ok (.goto (-21), 3) := by decide +kernel
theorem dX8_firstStill_37 : decode cX8_firstStill 37 = .ok (.bipush (-6), 2) := by decide +kernel
theorem dX8_firstStill_39 : decode cX8_firstStill 39 = .ok (.ireturn, 1) := by decide +kernel
theorem dX8_fullestBehind_0 : decode cX8_fullestBehind 0 = .ok (.aload_n 0, 1) := by decide +kernel
theorem dX8_fullestBehind_1 : decode cX8_fullestBehind 1 = .ok (.getfield 34, 3) := by decide +kernel
theorem dX8_fullestBehind_4 : decode cX8_fullestBehind 4 = .ok (.aload_n 0, 1) := by decide +kernel
theorem dX8_fullestBehind_5 : decode cX8_fullestBehind 5 = .ok (.getfield 10, 3) := by decide +kernel
theorem dX8_fullestBehind_8 : decode cX8_fullestBehind 8 = .ok (.invokevirtual 175, 3) := by decide +kernel
theorem dX8_fullestBehind_11 : decode cX8_fullestBehind 11 = .ok (.aload_n 0, 1) := by decide +kernel
theorem dX8_fullestBehind_12 : decode cX8_fullestBehind 12 = .ok (.getfield 34, 3) := by decide +kernel
theorem dX8_fullestBehind_15 : decode cX8_fullestBehind 15 = .ok (.iload_n 1, 1) := by decide +kernel
theorem dX8_fullestBehind_16 : decode cX8_fullestBehind 16 = .ok (.invokevirtual 181, 3) := by decide +kernel
theorem dX8_fullestBehind_19 : decode cX8_fullestBehind 19 = .ok (.aload_n 0, 1) := by decide +kernel
theorem dX8_fullestBehind_20 : decode cX8_fullestBehind 20 = .ok (.getfield 34, 3) := by decide +kernel
theorem dX8_fullestBehind_23 : decode cX8_fullestBehind 23 = .ok (.invokevirtual 198, 3) := by decide +kernel
theorem dX8_fullestBehind_26 : decode cX8_fullestBehind 26 = .ok (.ireturn, 1) := by decide +kernel
theorem dX8_fullestCarrying_0 : decode cX8_fullestCarrying 0 = .ok (.aload_n 0, 1) := by decide +kernel
theorem dX8_fullestCarrying_1 : decode cX8_fullestCarrying 1 = .ok (.getfield 34, 3) := by decide +kernel
theorem dX8_fullestCarrying_4 : decode cX8_fullestCarrying 4 = .ok (.getfield 159, 3) := by decide +kernel
theorem dX8_fullestCarrying_7 : decode cX8_fullestCarrying 7 = .ok (.aload_n 0, 1) := by decide +kernel
theorem dX8_fullestCarrying_8 : decode cX8_fullestCarrying 8 = .ok (.getfield 10, 3) := by decide +kernel
theorem dX8_fullestCarrying_11 : decode cX8_fullestCarrying 11 = .ok (.invokevirtual 162, 3) := by decide +kernel
theorem dX8_fullestCarrying_14 : decode cX8_fullestCarrying 14 = .ok (.aload_n 0, 1) := by decide +kernel
theorem dX8_fullestCarrying_15 : decode cX8_fullestCarrying 15 = .ok (.getfield 34, 3) := by decide +kernel
theorem dX8_fullestCarrying_18 : decode cX8_fullestCarrying 18 = .ok (.getfield 159, 3) := by decide +kernel
theorem dX8_fullestCarrying_21 : decode cX8_fullestCarrying 21 = .ok (.iload_n 1, 1) := by decide +kernel
theorem dX8_fullestCarrying_22 : decode cX8_fullestCarrying 22 = .ok (.iload_n 2, 1) := by decide +kernel
theorem dX8_fullestCarrying_23 : decode cX8_fullestCarrying 23 = .ok (.iload_n 3, 1) := by decide +kernel
theorem dX8_fullestCarrying_24 : decode cX8_fullestCarrying 24 = .ok (.invokevirtual 296, 3) := by decide +kernel
theorem dX8_fullestCarrying_27 : decode cX8_fullestCarrying 27 = .ok (.aload_n 0, 1) := by decide +kernel
theorem dX8_fullestCarrying_28 : decode cX8_fullestCarrying 28 = .ok (.getfield 34, 3) := by decide +kernel
theorem dX8_fullestCarrying_31 : decode cX8_fullestCarrying 31 = .ok (.invokevirtual 259, 3) := by decide +kernel
theorem dX8_fullestCarrying_34 : decode cX8_fullestCarrying 34 = .ok (.aload_n 0, 1) := by decide +kernel
theorem dX8_fullestCarrying_35 : decode cX8_fullestCarrying 35 = .ok (.getfield 34, 3) := by decide +kernel
theorem dX8_fullestCarrying_38 : decode cX8_fullestCarrying 38 = .ok (.iload 4, 2) := by decide +kernel
theorem dX8_fullestCarrying_40 : decode cX8_fullestCarrying 40 = .ok (.invokevirtual 181, 3) := by decide +kernel
theorem dX8_fullestCarrying_43 : decode cX8_fullestCarrying 43 = .ok (.aload_n 0, 1) := by decide +kernel
theorem dX8_fullestCarrying_44 : decode cX8_fullestCarrying 44 = .ok (.getfield 34, 3) := by decide +kernel
theorem dX8_fullestCarrying_47 : decode cX8_fullestCarrying 47 = .ok (.invokevirtual 198, 3) := by decide +kernel
theorem dX8_fullestCarrying_50 : decode cX8_fullestCarrying 50 = .ok (.ireturn, 1) := by decide +kernel
theorem dX8_fullestUnhinged_0 : decode cX8_fullestUnhinged 0 = .ok (.aload_n 0, 1) := by decide +kernel
theorem dX8_fullestUnhinged_1 : decode cX8_fullestUnhinged 1 = .ok (.getfield 34, 3) := by decide +kernel
theorem dX8_fullestUnhinged_4 : decode cX8_fullestUnhinged 4 = .ok (.aload_n 0, 1) := by decide +kernel
theorem dX8_fullestUnhinged_5 : decode cX8_fullestUnhinged 5 = .ok (.getfield 10, 3) := by decide +kernel
theorem dX8_fullestUnhinged_8 : decode cX8_fullestUnhinged 8 = .ok (.invokevirtual 175, 3) := by decide +kernel
theorem dX8_fullestUnhinged_11 : decode cX8_fullestUnhinged 11 = .ok (.aload_n 0, 1) := by decide +kernel
theorem dX8_fullestUnhinged_12 : decode cX8_fullestUnhinged 12 = .ok (.getfield 34, 3) := by decide +kernel
theorem dX8_fullestUnhinged_15 : decode cX8_fullestUnhinged 15 = .ok (.iload_n 1, 1) := by decide +kernel
theorem dX8_fullestUnhinged_16 : decode cX8_fullestUnhinged 16 = .ok (.iload_n 2, 1) := by decide +kernel
theorem dX8_fullestUnhinged_17 : decode cX8_fullestUnhinged 17 = .ok (.invokevirtual 300, 3) := by decide +kernel
theorem dX8_fullestUnhinged_20 : decode cX8_fullestUnhinged 20 = .ok (.aload_n 0, 1) := by decide +kernel
theorem dX8_fullestUnhinged_21 : decode cX8_fullestUnhinged 21 = .ok (.getfield 34, 3) := by decide +kernel
theorem dX8_fullestUnhinged_24 : decode cX8_fullestUnhinged 24 = .ok (.iload_n 3, 1) := by decide +kernel
theorem dX8_fullestUnhinged_25 : decode cX8_fullestUnhinged 25 = .ok (.invokevirtual 181, 3) := by decide +kernel
theorem dX8_fullestUnhinged_28 : decode cX8_fullestUnhinged 28 = .ok (.aload_n 0, 1) := by decide +kernel
theorem dX8_fullestUnhinged_29 : decode cX8_fullestUnhinged 29 = .ok (.getfield 34, 3) := by decide +kernel
theorem dX8_fullestUnhinged_32 : decode cX8_fullestUnhinged 32 = .ok (.invokevirtual 198, 3) := by decide +kernel
theorem dX8_fullestUnhinged_35 : decode cX8_fullestUnhinged 35 = .ok (.ireturn, 1) := by decide +kernel
theorem dX8_leadsTo_0 : decode cX8_leadsTo 0 = .ok (.aload_n 0, 1) := by decide +kernel
theorem dX8_leadsTo_1 : decode cX8_leadsTo 1 = .ok (.getfield 10, 3) := by decide +kernel
theorem dX8_leadsTo_4 : decode cX8_leadsTo 4 = .ok (.iload_n 2, 1) := by decide +kernel
theorem dX8_leadsTo_5 : decode cX8_leadsTo 5 = .ok (.invokevirtual 184, 3) := by decide +kernel
theorem dX8_leadsTo_8 : decode cX8_leadsTo 8 = .ok (.iload_n 1, 1) := by decide +kernel
theorem dX8_leadsTo_9 : decode cX8_leadsTo 9 = .ok (.ior, 1) := by decide +kernel
theorem dX8_leadsTo_10 : decode cX8_leadsTo 10 = .ok (.invokestatic 125, 3) := by decide +kernel
theorem dX8_leadsTo_13 : decode cX8_leadsTo 13 = .ok (.istore 5, 2) := by decide +kernel
theorem dX8_leadsTo_15 : decode cX8_leadsTo 15 = .ok (.iload 5, 2) := by decide +kernel
theorem dX8_leadsTo_17 : decode cX8_leadsTo 17 = .ok (.aload_n 0, 1) := by decide +kernel
theorem dX8_leadsTo_18 : decode cX8_leadsTo 18 = .ok (.getfield 10, 3) := by decide +kernel
theorem dX8_leadsTo_21 : decode cX8_leadsTo 21 = .ok (.iload_n 2, 1) := by decide +kernel
theorem dX8_leadsTo_22 : decode cX8_leadsTo 22 = .ok (.invokevirtual 113, 3) := by decide +kernel
theorem dX8_leadsTo_25 : decode cX8_leadsTo 25 = .ok (.if_icmp .le 5, 3) := by decide +kernel
theorem dX8_leadsTo_28 : decode cX8_leadsTo 28 = .ok (.iconst 0, 1) := by decide +kernel
theorem dX8_leadsTo_29 : decode cX8_leadsTo 29 = .ok (.ireturn, 1) := by decide +kernel
theorem dX8_leadsTo_30 : decode cX8_leadsTo 30 = .ok (.aload_n 0, 1) := by decide +kernel
theorem dX8_leadsTo_31 : decode cX8_leadsTo 31 = .ok (.getfield 34, 3) := by decide +kernel
theorem dX8_leadsTo_34 : decode cX8_leadsTo 34 = .ok (.getfield 159, 3) := by decide +kernel
theorem dX8_leadsTo_37 : decode cX8_leadsTo 37 = .ok (.aload_n 0, 1) := by decide +kernel
theorem dX8_leadsTo_38 : decode cX8_leadsTo 38 = .ok (.getfield 10, 3) := by decide +kernel
theorem dX8_leadsTo_41 : decode cX8_leadsTo 41 = .ok (.invokevirtual 162, 3) := by decide +kernel
theorem dX8_leadsTo_44 : decode cX8_leadsTo 44 = .ok (.iconst 0, 1) := by decide +kernel
theorem dX8_leadsTo_45 : decode cX8_leadsTo 45 = .ok (.istore 6, 2) := by decide +kernel
theorem dX8_leadsTo_47 : decode cX8_leadsTo 47 = .ok (.iload 6, 2) := by decide +kernel
theorem dX8_leadsTo_49 : decode cX8_leadsTo 49 = .ok (.bipush 8, 2) := by decide +kernel
theorem dX8_leadsTo_51 : decode cX8_leadsTo 51 = .ok (.if_icmp .ge 44, 3) := by decide +kernel
theorem dX8_leadsTo_54 : decode cX8_leadsTo 54 = .ok (.iload_n 1, 1) := by decide +kernel
theorem dX8_leadsTo_55 : decode cX8_leadsTo 55 = .ok (.iload 6, 2) := by decide +kernel
theorem dX8_leadsTo_57 : decode cX8_leadsTo 57 = .ok (.invokestatic 220, 3) := by decide +kernel
theorem dX8_leadsTo_60 : decode cX8_leadsTo 60 = .ok (.ifCond .eq 29, 3) := by decide +kernel
theorem dX8_leadsTo_63 : decode cX8_leadsTo 63 = .ok (.aload_n 0, 1) := by decide +kernel
theorem dX8_leadsTo_64 : decode cX8_leadsTo 64 = .ok (.getfield 34, 3) := by decide +kernel
theorem dX8_leadsTo_67 : decode cX8_leadsTo 67 = .ok (.getfield 159, 3) := by decide +kernel
theorem dX8_leadsTo_70 : decode cX8_leadsTo 70 = .ok (.getfield 122, 3) := by decide +kernel
theorem dX8_leadsTo_73 : decode cX8_leadsTo 73 = .ok (.iload 6, 2) := by decide +kernel
theorem dX8_leadsTo_75 : decode cX8_leadsTo 75 = .ok (.iload_n 2, 1) := by decide +kernel
theorem dX8_leadsTo_76 : decode cX8_leadsTo 76 = .ok (.iastore, 1) := by decide +kernel
theorem dX8_leadsTo_77 : decode cX8_leadsTo 77 = .ok (.aload_n 0, 1) := by decide +kernel
theorem dX8_leadsTo_78 : decode cX8_leadsTo 78 = .ok (.getfield 34, 3) := by decide +kernel
theorem dX8_leadsTo_81 : decode cX8_leadsTo 81 = .ok (.getfield 159, 3) := by decide +kernel
theorem dX8_leadsTo_84 : decode cX8_leadsTo 84 = .ok (.iload 6, 2) := by decide +kernel
theorem dX8_leadsTo_86 : decode cX8_leadsTo 86 = .ok (.invokevirtual 304, 3) := by decide +kernel
theorem dX8_leadsTo_89 : decode cX8_leadsTo 89 = .ok (.iinc 6 1, 3) := by decide +kernel
theorem dX8_leadsTo_92 : decode cX8_leadsTo 92 = .ok (.goto (-45), 3) := by decide +kernel
theorem dX8_leadsTo_95 : decode cX8_leadsTo 95 = .ok (.aload_n 0, 1) := by decide +kernel
theorem dX8_leadsTo_96 : decode cX8_leadsTo 96 = .ok (.getfield 34, 3) := by decide +kernel
theorem dX8_leadsTo_99 : decode cX8_leadsTo 99 = .ok (.invokevirtual 259, 3) := by decide +kernel
theorem dX8_leadsTo_102 : decode cX8_leadsTo 102 = .ok (.aload_n 0, 1) := by decide +kernel
theorem dX8_leadsTo_103 : decode cX8_leadsTo 103 = .ok (.getfield 34, 3) := by decide +kernel
theorem dX8_leadsTo_106 : decode cX8_leadsTo 106 = .ok (.iload 4, 2) := by decide +kernel
theorem dX8_leadsTo_108 : decode cX8_leadsTo 108 = .ok (.invokevirtual 181, 3) := by decide +kernel
theorem dX8_leadsTo_111 : decode cX8_leadsTo 111 = .ok (.aload_n 0, 1) := by decide +kernel
theorem dX8_leadsTo_112 : decode cX8_leadsTo 112 = .ok (.getfield 34, 3) := by decide +kernel
theorem dX8_leadsTo_115 : decode cX8_leadsTo 115 = .ok (.getfield 159, 3) := by decide +kernel
theorem dX8_leadsTo_118 : decode cX8_leadsTo 118 = .ok (.iload_n 2, 1) := by decide +kernel
theorem dX8_leadsTo_119 : decode cX8_leadsTo 119 = .ok (.invokevirtual 89, 3) := by decide +kernel
theorem dX8_leadsTo_122 : decode cX8_leadsTo 122 = .ok (.iload_n 3, 1) := by decide +kernel
theorem dX8_leadsTo_123 : decode cX8_leadsTo 123 = .ok (.if_icmp .lt 7, 3) := by decide +kernel
theorem dX8_leadsTo_126 : decode cX8_leadsTo 126 = .ok (.iconst 1, 1) := by decide +kernel
theorem dX8_leadsTo_127 : decode cX8_leadsTo 127 = .ok (.goto 4, 3) := by decide +kernel
theorem dX8_leadsTo_130 : decode cX8_leadsTo 130 = .ok (.iconst 0, 1) := by decide +kernel
theorem dX8_leadsTo_131 : decode cX8_leadsTo 131 = .ok (.ireturn, 1) := by decide +kernel
theorem dX8_isIn_0 : decode cX8_isIn 0 = .ok (.iload_n 1, 1) := by decide +kernel
theorem dX8_isIn_1 : decode cX8_isIn 1 = .ok (.ifCond .lt 22, 3) := by decide +kernel
theorem dX8_isIn_4 : decode cX8_isIn 4 = .ok (.iload_n 1, 1) := by decide +kernel
theorem dX8_isIn_5 : decode cX8_isIn 5 = .ok (.bipush 8, 2) := by decide +kernel
theorem dX8_isIn_7 : decode cX8_isIn 7 = .ok (.if_icmp .ge 16, 3) := by decide +kernel
theorem dX8_isIn_10 : decode cX8_isIn 10 = .ok (.iload_n 0, 1) := by decide +kernel
theorem dX8_isIn_11 : decode cX8_isIn 11 = .ok (.iload_n 1, 1) := by decide +kernel
theorem dX8_isIn_12 : decode cX8_isIn 12 = .ok (.ishr, 1) := by decide +kernel
theorem dX8_isIn_13 : decode cX8_isIn 13 = .ok (.iconst 1, 1) := by decide +kernel
theorem dX8_isIn_14 : decode cX8_isIn 14 = .ok (.iand, 1) := by decide +kernel
theorem dX8_isIn_15 : decode cX8_isIn 15 = .ok (.iconst 1, 1) := by decide +kernel
theorem dX8_isIn_16 : decode cX8_isIn 16 = .ok (.if_icmp .ne 7, 3) := by decide +kernel
theorem dX8_isIn_19 : decode cX8_isIn 19 = .ok (.iconst 1, 1) := by decide +kernel
theorem dX8_isIn_20 : decode cX8_isIn 20 = .ok (.goto 4, 3) := by decide +kernel
theorem dX8_isIn_23 : decode cX8_isIn 23 = .ok (.iconst 0, 1) := by decide +kernel
theorem dX8_isIn_24 : decode cX8_isIn 24 = .ok (.ireturn, 1) := by decide +kernel
end
section
theorem dX9_init_0 : decode cX9_init 0 = .ok (.aload_n 0, 1) := by decide +kernel
theorem dX9_init_1 : decode cX9_init 1 = .ok (.invokespecial 1, 3) := by decide +kernel
theorem dX9_init_4 : decode cX9_init 4 = .ok (.aload_n 0, 1) := by decide +kernel
theorem dX9_init_5 : decode cX9_init 5 = .ok (.iconst 3, 1) := by decide +kernel
theorem dX9_init_6 : decode cX9_init 6 = .ok (.putfield 7, 3) := by decide +kernel
theorem dX9_init_9 : decode cX9_init 9 = .ok (.aload_n 0, 1) := by decide +kernel
theorem dX9_init_10 : decode cX9_init 10 = .ok (.bipush 24, 2) := by decide +kernel
theorem dX9_init_12 : decode cX9_init 12 = .ok (.newarray .int, 2) := by decide +kernel
theorem dX9_init_14 : decode cX9_init 14 = .ok (.putfield 13, 3) := by decide +kernel
theorem dX9_init_17 : decode cX9_init 17 = .ok (.aload_n 0, 1) := by decide +kernel
theorem dX9_init_18 : decode cX9_init 18 = .ok (.bipush 6, 2) := by decide +kernel
theorem dX9_init_20 : decode cX9_init 20 = .ok (.newarray .int, 2) := by decide +kernel
theorem dX9_init_22 : decode cX9_init 22 = .ok (.putfield 17, 3) := by decide +kernel
theorem dX9_init_25 : decode cX9_init 25 = .ok (.aload_n 0, 1) := by decide +kernel
theorem dX9_init_26 : decode cX9_init 26 = .ok (.bipush 6, 2) := by decide +kernel
theorem dX9_init_28 : decode cX9_init 28 = .ok (.newarray .int, 2) := by decide +kernel
theorem dX9_init_30 : decode cX9_init 30 = .ok (.putfield 20, 3) := by decide +kernel
theorem dX9_init_33 : decode cX9_init 33 = .ok (.aload_n 0, 1) := by decide +kernel
theorem dX9_init_34 : decode cX9_init 34 = .ok (.bipush 36, 2) := by decide +kernel
theorem dX9_init_36 : decode cX9_init 36 = .ok (.newarray .int, 2) := by decide +kernel
theorem dX9_init_38 : decode cX9_init 38 = .ok (.putfield 23, 3) := by decide +kernel
theorem dX9_init_41 : decode cX9_init 41 = .ok (.aload_n 0, 1) := by decide +kernel
theorem dX9_init_42 : decode cX9_init 42 = .ok (.bipush 40, 2) := by decide +kernel
theorem dX9_init_44 : decode cX9_init 44 = .ok (.newarray .int, 2) := by decide +kernel
theorem dX9_init_46 : decode cX9_init 46 = .ok (.putfield 26, 3) := by decide +kernel
theorem dX9_init_49 : decode cX9_init 49 = .ok (.aload_n 0, 1) := by decide +kernel
theorem dX9_init_50 : decode cX9_init 50 = .ok (.bipush 8, 2) := by decide +kernel
theorem dX9_init_52 : decode cX9_init 52 = .ok (.newarray .int, 2) := by decide +kernel
theorem dX9_init_54 : decode cX9_init 54 = .ok (.putfield 29, 3) := by decide +kernel
theorem dX9_init_57 : decode cX9_init 57 = .ok (.aload_n 0, 1) := by decide +kernel
theorem dX9_init_58 : decode cX9_init 58 = .ok (.bipush 8, 2) := by decide +kernel
theorem dX9_init_60 : decode cX9_init 60 = .ok (.newarray .int, 2) := by decide +kernel
theorem dX9_init_62 : decode cX9_init 62 = .ok (.putfield 32, 3) := by decide +kernel
theorem dX9_init_65 : decode cX9_init 65 = .ok (.aload_n 0, 1) := by decide +kernel
theorem dX9_init_66 : decode cX9_init 66 = .ok (.bipush 8, 2) := by decide +kernel
theorem dX9_init_68 : decode cX9_init 68 = .ok (.newarray .int, 2) := by decide +kernel
theorem dX9_init_70 : decode cX9_init 70 = .ok (.putfield 35, 3) := by decide +kernel
theorem dX9_init_73 : decode cX9_init 73 = .ok (.aload_n 0, 1) := by decide +kernel
theorem dX9_init_74 : decode cX9_init 74 = .ok (.bipush 8, 2) := by decide +kernel
theorem dX9_init_76 : decode cX9_init 76 = .ok (.newarray .int, 2) := by decide +kernel
theorem dX9_init_78 : decode cX9_init 78 = .ok (.putfield 38, 3) := by decide +kernel
theorem dX9_init_81 : decode cX9_init 81 = .ok (.aload_n 0, 1) := by decide +kernel
theorem dX9_init_82 : decode cX9_init 82 = .ok (.bipush 12, 2) := by decide +kernel
theorem dX9_init_84 : decode cX9_init 84 = .ok (.newarray .int, 2) := by decide +kernel
theorem dX9_init_86 : decode cX9_init 86 = .ok (.putfield 41, 3) := by decide +kernel
theorem dX9_init_89 : decode cX9_init 89 = .ok (.aload_n 0, 1) := by decide +kernel
theorem dX9_init_90 : decode cX9_init 90 = .ok (.bipush 60, 2) := by decide +kernel
theorem dX9_init_92 : decode cX9_init 92 = .ok (.newarray .int, 2) := by decide +kernel
theorem dX9_init_94 : decode cX9_init 94 = .ok (.putfield 44, 3) := by decide +kernel
theorem dX9_init_97 : decode cX9_init 97 = .ok (.aload_n 0, 1) := by decide +kernel
theorem dX9_init_98 : decode cX9_init 98 = .ok (.bipush 8, 2) := by decide +kernel
theorem dX9_init_100 : decode cX9_init 100 = .ok (.newarray .int, 2) := by decide +kernel
theorem dX9_init_102 : decode cX9_init 102 = .ok (.putfield 47, 3) := by decide +kernel
theorem dX9_init_105 : decode cX9_init 105 = .ok (.aload_n 0, 1) := by decide +kernel
theorem dX9_init_106 : decode cX9_init 106 = .ok (.bipush 8, 2) := by decide +kernel
theorem dX9_init_108 : decode cX9_init 108 = .ok (.newarray .int, 2) := by decide +kernel
theorem dX9_init_110 : decode cX9_init 110 = .ok (.putfield 50, 3) := by decide +kernel
theorem dX9_init_113 : decode cX9_init 113 = .ok (.aload_n 0, 1) := by decide +kernel
theorem dX9_init_114 : decode cX9_init 114 = .ok (.bipush 8, 2) := by decide +kernel
theorem dX9_init_116 : decode cX9_init 116 = .ok (.newarray .int, 2) := by decide +kernel
theorem dX9_init_118 : decode cX9_init 118 = .ok (.putfield 53, 3) := by decide +kernel
theorem dX9_init_121 : decode cX9_init 121 = .ok (.aload_n 0, 1) := by decide +kernel
theorem dX9_init_122 : decode cX9_init 122 = .ok (.bipush 8, 2) := by decide +kernel
theorem dX9_init_124 : decode cX9_init 124 = .ok (.newarray .int, 2) := by decide +kernel
theorem dX9_init_126 : decode cX9_init 126 = .ok (.putfield 56, 3) := by decide +kernel
theorem dX9_init_129 : decode cX9_init 129 = .ok (.aload_n 0, 1) := by decide +kernel
theorem dX9_init_130 : decode cX9_init 130 = .ok (.bipush 24, 2) := by decide +kernel
theorem dX9_init_132 : decode cX9_init 132 = .ok (.newarray .int, 2) := by decide +kernel
theorem dX9_init_134 : decode cX9_init 134 = .ok (.putfield 59, 3) := by decide +kernel
theorem dX9_init_137 : decode cX9_init 137 = .ok (.aload_n 0, 1) := by decide +kernel
theorem dX9_init_138 : decode cX9_init 138 = .ok (.bipush 36, 2) := by decide +kernel
theorem dX9_init_140 : decode cX9_init 140 = .ok (.newarray .int, 2) := by decide +kernel
theorem dX9_init_142 : decode cX9_init 142 = .ok (.putfield 62, 3) := by decide +kernel
theorem dX9_init_145 : decode cX9_init 145 = .ok (.aload_n 0, 1) := by decide +kernel
theorem dX9_init_146 : decode cX9_init 146 = .ok (.sipush 200, 3) := by decide +kernel
theorem dX9_init_149 : decode cX9_init 149 = .ok (.newarray .long, 2) := by decide +kernel
theorem dX9_init_151 : decode cX9_init 151 = .ok (.putfield 65, 3) := by decide +kernel
theorem dX9_init_154 : decode cX9_init 154 = .ok (.aload_n 0, 1) := by decide +kernel
theorem dX9_init_155 : decode cX9_init 155 = .ok (.bipush 36, 2) := by decide +kernel
theorem dX9_init_157 : decode cX9_init 157 = .ok (.newarray .int, 2) := by decide +kernel
theorem dX9_init_159 : decode cX9_init 159 = .ok (.putfield 69, 3) := by decide +kernel
theorem dX9_init_162 : decode cX9_init 162 = .ok (.aload_n 0, 1) := by decide +kernel
theorem dX9_init_163 : decode cX9_init 163 = .ok (.bipush 6, 2) := by decide +kernel
theorem dX9_init_165 : decode cX9_init 165 = .ok (.newarray .long, 2) := by decide +kernel
theorem dX9_init_167 : decode cX9_init 167 = .ok (.putfield 72, 3) := by decide +kernel
theorem dX9_init_170 : decode cX9_init 170 = .ok (.aload_n 0, 1) := by decide +kernel
theorem dX9_init_171 : decode cX9_init 171 = .ok (.bipush 6, 2) := by decide +kernel
theorem dX9_init_173 : decode cX9_init 173 = .ok (.newarray .long, 2) := by decide +kernel
theorem dX9_init_175 : decode cX9_init 175 = .ok (.putfield 75, 3) := by decide +kernel
theorem dX9_init_178 : decode cX9_init 178 = .ok (.aload_n 0, 1) := by decide +kernel
theorem dX9_init_179 : decode cX9_init 179 = .ok (.sipush 400, 3) := by decide +kernel
theorem dX9_init_182 : decode cX9_init 182 = .ok (.newarray .int, 2) := by decide +kernel
theorem dX9_init_184 : decode cX9_init 184 = .ok (.putfield 78, 3) := by decide +kernel
theorem dX9_init_187 : decode cX9_init 187 = .ok (.aload_n 0, 1) := by decide +kernel
theorem dX9_init_188 : decode cX9_init 188 = .ok (.iconst 2, 1) := by decide +kernel
theorem dX9_init_189 : decode cX9_init 189 = .ok (.newarray .boolean, 2) := by decide +kernel
theorem dX9_init_191 : decode cX9_init 191 = .ok (.putfield 81, 3) := by decide +kernel
theorem dX9_init_194 : decode cX9_init 194 = .ok (.aload_n 0, 1) := by decide +kernel
theorem dX9_init_195 : decode cX9_init 195 = .ok (.invokevirtual 85, 3) := by decide +kernel
theorem dX9_init_198 : decode cX9_init 198 = .ok (.return_, 1) := by decide +kernel
theorem dX9_empty_0 : decode cX9_empty 0 = .ok (.aload_n 0, 1) := by decide +kernel
theorem dX9_empty_1 : decode cX9_empty 1 = .ok (.iconst 0, 1) := by decide +kernel
theorem dX9_empty_2 : decode cX9_empty 2 = .ok (.putfield 88, 3) := by decide +kernel
theorem dX9_empty_5 : decode cX9_empty 5 = .ok (.aload_n 0, 1) := by decide +kernel
theorem dX9_empty_6 : decode cX9_empty 6 = .ok (.iconst 0, 1) := by decide +kernel
theorem dX9_empty_7 : decode cX9_empty 7 = .ok (.putfield 91, 3) := by decide +kernel
theorem dX9_empty_10 : decode cX9_empty 10 = .ok (.iconst 0, 1) := by decide +kernel
theorem dX9_empty_11 : decode cX9_empty 11 = .ok (.istore_n 1, 1) := by decide +kernel
theorem dX9_empty_12 : decode cX9_empty 12 = .ok (.iload_n 1, 1) := by decide +kernel
theorem dX9_empty_13 : decode cX9_empty 13 = .ok (.bipush 6, 2) := by decide +kernel
theorem dX9_empty_15 : decode cX9_empty 15 = .ok (.if_icmp .ge 24, 3) := by decide +kernel
theorem dX9_empty_18 : decode cX9_empty 18 = .ok (.aload_n 0, 1) := by decide +kernel
theorem dX9_empty_19 : decode cX9_empty 19 = .ok (.getfield 17, 3) := by decide +kernel
theorem dX9_empty_22 : decode cX9_empty 22 = .ok (.iload_n 1, 1) := by decide +kernel
theorem dX9_empty_23 : decode cX9_empty 23 = .ok (.bipush 8, 2) := by decide +kernel
theorem dX9_empty_25 : decode cX9_empty 25 = .ok (.iastore, 1) := by decide +kernel
theorem dX9_empty_26 : decode cX9_empty 26 = .ok (.aload_n 0, 1) := by decide +kernel
theorem dX9_empty_27 : decode cX9_empty 27 = .ok (.getfield 20, 3) := by decide +kernel
theorem dX9_empty_30 : decode cX9_empty 30 = .ok (.iload_n 1, 1) := by decide +kernel
theorem dX9_empty_31 : decode cX9_empty 31 = .ok (.iconst 0, 1) := by decide +kernel
theorem dX9_empty_32 : decode cX9_empty 32 = .ok (.iastore, 1) := by decide +kernel
theorem dX9_empty_33 : decode cX9_empty 33 = .ok (.iinc 1 1, 3) := by decide +kernel
theorem dX9_empty_36 : decode cX9_empty 36 = .ok (.goto (-24), 3) := by decide +kernel
theorem dX9_empty_39 : decode cX9_empty 39 = .ok (.iconst 0, 1) := by decide +kernel
theorem dX9_empty_40 : decode cX9_empty 40 = .ok (.istore_n 1, 1) := by decide +kernel
theorem dX9_empty_41 : decode cX9_empty 41 = .ok (.iload_n 1, 1) := by decide +kernel
theorem dX9_empty_42 : decode cX9_empty 42 = .ok (.bipush 24, 2) := by decide +kernel
theorem dX9_empty_44 : decode cX9_empty 44 = .ok (.if_icmp .ge 16, 3) := by decide +kernel
theorem dX9_empty_47 : decode cX9_empty 47 = .ok (.aload_n 0, 1) := by decide +kernel
theorem dX9_empty_48 : decode cX9_empty 48 = .ok (.getfield 13, 3) := by decide +kernel
theorem dX9_empty_51 : decode cX9_empty 51 = .ok (.iload_n 1, 1) := by decide +kernel
theorem dX9_empty_52 : decode cX9_empty 52 = .ok (.iconst 0, 1) := by decide +kernel
theorem dX9_empty_53 : decode cX9_empty 53 = .ok (.iastore, 1) := by decide +kernel
theorem dX9_empty_54 : decode cX9_empty 54 = .ok (.iinc 1 1, 3) := by decide +kernel
theorem dX9_empty_57 : decode cX9_empty 57 = .ok (.goto (-16), 3) := by decide +kernel
theorem dX9_empty_60 : decode cX9_empty 60 = .ok (.iconst 0, 1) := by decide +kernel
theorem dX9_empty_61 : decode cX9_empty 61 = .ok (.istore_n 1, 1) := by decide +kernel
theorem dX9_empty_62 : decode cX9_empty 62 = .ok (.iload_n 1, 1) := by decide +kernel
theorem dX9_empty_63 : decode cX9_empty 63 = .ok (.bipush 36, 2) := by decide +kernel
theorem dX9_empty_65 : decode cX9_empty 65 = .ok (.if_icmp .ge 16, 3) := by decide +kernel
theorem dX9_empty_68 : decode cX9_empty 68 = .ok (.aload_n 0, 1) := by decide +kernel
theorem dX9_empty_69 : decode cX9_empty 69 = .ok (.getfield 23, 3) := by decide +kernel
theorem dX9_empty_72 : decode cX9_empty 72 = .ok (.iload_n 1, 1) := by decide +kernel
theorem dX9_empty_73 : decode cX9_empty 73 = .ok (.iconst 0, 1) := by decide +kernel
theorem dX9_empty_74 : decode cX9_empty 74 = .ok (.iastore, 1) := by decide +kernel
theorem dX9_empty_75 : decode cX9_empty 75 = .ok (.iinc 1 1, 3) := by decide +kernel
theorem dX9_empty_78 : decode cX9_empty 78 = .ok (.goto (-16), 3) := by decide +kernel
theorem dX9_empty_81 : decode cX9_empty 81 = .ok (.return_, 1) := by decide +kernel
theorem dX9_in_0 : decode cX9_in 0 = .ok (.iload_n 0, 1) := by decide +kernel
theorem dX9_in_1 : decode cX9_in 1 = .ok (.iload_n 1, 1) := by decide +kernel
theorem dX9_in_2 : decode cX9_in 2 = .ok (.if_icmp .lt 12, 3) := by decide +kernel
theorem dX9_in_5 : decode cX9_in 5 = .ok (.iload_n 0, 1) := by decide +kernel
theorem dX9_in_6 : decode cX9_in 6 = .ok (.iload_n 2, 1) := by decide +kernel
theorem dX9_in_7 : decode cX9_in 7 = .ok (.if_icmp .gt 7, 3) := by decide +kernel
theorem dX9_in_10 : decode cX9_in 10 = .ok (.iconst 1, 1) := by decide +kernel
theorem dX9_in_11 : decode cX9_in 11 = .ok (.goto 4, 3) := by decide +kernel
theorem dX9_in_14 : decode cX9_in 14 = .ok (.iconst 0, 1) := by decide +kernel
theorem dX9_in_15 : decode cX9_in 15 = .ok (.ireturn, 1) := by decide +kernel
theorem dX9_has_0 : decode cX9_has 0 = .ok (.iload_n 0, 1) := by decide +kernel
theorem dX9_has_1 : decode cX9_has 1 = .ok (.iload_n 1, 1) := by decide +kernel
theorem dX9_has_2 : decode cX9_has 2 = .ok (.ishr, 1) := by decide +kernel
theorem dX9_has_3 : decode cX9_has 3 = .ok (.iconst 1, 1) := by decide +kernel
theorem dX9_has_4 : decode cX9_has 4 = .ok (.iand, 1) := by decide +kernel
theorem dX9_has_5 : decode cX9_has 5 = .ok (.iconst 1, 1) := by decide +kernel
theorem dX9_has_6 : decode cX9_has 6 = .ok (.if_icmp .ne 7, 3) := by decide +kernel
theorem dX9_has_9 : decode cX9_has 9 = .ok (.iconst 1, 1) := by decide +kernel
theorem dX9_has_10 : decode cX9_has 10 = .ok (.goto 4, 3) := by decide +kernel
theorem dX9_has_13 : decode cX9_has 13 = .ok (.iconst 0, 1) := by decide +kernel
theorem dX9_has_14 : decode cX9_has 14 = .ok (.ireturn, 1) := by decide +kernel
theorem dX9_bits_0 : decode cX9_bits 0 = .ok (.iconst 0, 1) := by decide +kernel
theorem dX9_bits_1 : decode cX9_bits 1 = .ok (.istore_n 1, 1) := by decide +kernel
theorem dX9_bits_2 : decode cX9_bits 2 = .ok (.iconst 0, 1) := by decide +kernel
theorem dX9_bits_3 : decode cX9_bits 3 = .ok (.istore_n 2, 1) := by decide +kernel
theorem dX9_bits_4 : decode cX9_bits 4 = .ok (.iload_n 2, 1) := by decide +kernel
theorem dX9_bits_5 : decode cX9_bits 5 = .ok (.bipush 8, 2) := by decide +kernel
theorem dX9_bits_7 : decode cX9_bits 7 = .ok (.if_icmp .ge 17, 3) := by decide +kernel
theorem dX9_bits_10 : decode cX9_bits 10 = .ok (.iload_n 1, 1) := by decide +kernel
theorem dX9_bits_11 : decode cX9_bits 11 = .ok (.iload_n 0, 1) := by decide +kernel
theorem dX9_bits_12 : decode cX9_bits 12 = .ok (.iload_n 2, 1) := by decide +kernel
theorem dX9_bits_13 : decode cX9_bits 13 = .ok (.ishr, 1) := by decide +kernel
theorem dX9_bits_14 : decode cX9_bits 14 = .ok (.iconst 1, 1) := by decide +kernel
theorem dX9_bits_15 : decode cX9_bits 15 = .ok (.iand, 1) := by decide +kernel
theorem dX9_bits_16 : decode cX9_bits 16 = .ok (.iadd, 1) := by decide +kernel
theorem dX9_bits_17 : decode cX9_bits 17 = .ok (.istore_n 1, 1) := by decide +kernel
theorem dX9_bits_18 : decode cX9_bits 18 = .ok (.iinc 2 1, 3) := by decide +kernel
theorem dX9_bits_21 : decode cX9_bits 21 = .ok (.goto (-17), 3) := by decide +kernel
theorem dX9_bits_24 : decode cX9_bits 24 = .ok (.iload_n 1, 1) := by decide +kernel
theorem dX9_bits_25 : decode cX9_bits 25 = .ok (.ireturn, 1) := by decide +kernel
theorem dX9_isRoom_0 : decode cX9_isRoom 0 = .ok (.iload_n 1, 1) := by decide +kernel
theorem dX9_isRoom_1 : decode cX9_isRoom 1 = .ok (.iconst 0, 1) := by decide +kernel
theorem dX9_isRoom_2 : decode cX9_isRoom 2 = .ok (.aload_n 0, 1) := by decide +kernel
theorem dX9_isRoom_3 : decode cX9_isRoom 3 = .ok (.getfield 7, 3) := by decide +kernel
theorem dX9_isRoom_6 : decode cX9_isRoom 6 = .ok (.iconst 1, 1) := by decide +kernel
theorem dX9_isRoom_7 : decode cX9_isRoom 7 = .ok (.isub, 1) := by decide +kernel
theorem dX9_isRoom_8 : decode cX9_isRoom 8 = .ok (.invokestatic 94, 3) := by decide +kernel
theorem dX9_isRoom_11 : decode cX9_isRoom 11 = .ok (.ireturn, 1) := by decide +kernel
theorem dX9_isThere_0 : decode cX9_isThere 0 = .ok (.iload_n 1, 1) := by decide +kernel
theorem dX9_isThere_1 : decode cX9_isThere 1 = .ok (.iconst 0, 1) := by decide +kernel
theorem dX9_isThere_2 : decode cX9_isThere 2 = .ok (.bipush 7, 2) := by decide +kernel
theorem dX9_isThere_4 : decode cX9_isThere 4 = .ok (.invokestatic 94, 3) := by decide +kernel
theorem dX9_isThere_7 : decode cX9_isThere 7 = .ok (.ifCond .eq 18, 3) := by decide +kernel
theorem dX9_isThere_10 : decode cX9_isThere 10 = .ok (.aload_n 0, 1) := by decide +kernel
theorem dX9_isThere_11 : decode cX9_isThere 11 = .ok (.getfield 88, 3) := by decide +kernel
theorem dX9_isThere_14 : decode cX9_isThere 14 = .ok (.iload_n 1, 1) := by decide +kernel
theorem dX9_isThere_15 : decode cX9_isThere 15 = .ok (.invokestatic 98, 3) := by decide +kernel
theorem dX9_isThere_18 : decode cX9_isThere 18 = .ok (.ifCond .eq 7, 3) := by decide +kernel
theorem dX9_isThere_21 : decode cX9_isThere 21 = .ok (.iconst 1, 1) := by decide +kernel
theorem dX9_isThere_22 : decode cX9_isThere 22 = .ok (.goto 4, 3) := by decide +kernel
theorem dX9_isThere_25 : decode cX9_isThere 25 = .ok (.iconst 0, 1) := by decide +kernel
theorem dX9_isThere_26 : decode cX9_isThere 26 = .ok (.ireturn, 1) := by decide +kernel
theorem dX9_rooms_0 : decode cX9_rooms 0 = .ok (.iload_n 1, 1) := by decide +kernel
theorem dX9_rooms_1 : decode cX9_rooms 1 = .ok (.iconst 2, 1) := by decide +kernel
theorem dX9_rooms_2 : decode cX9_rooms 2 = .ok (.bipush 6, 2) := by decide +kernel
theorem dX9_rooms_4 : decode cX9_rooms 4 = .ok (.invokestatic 94, 3) := by decide +kernel
theorem dX9_rooms_7 : decode cX9_rooms 7 = .ok (.ifCond .ne 6, 3) := by decide +kernel
theorem dX9_rooms_10 : decode cX9_rooms 10 = .ok (.bipush (-2), 2) := by decide +kernel
theorem dX9_rooms_12 : decode cX9_rooms 12 = .ok (.ireturn, 1) := by decide +kernel
theorem dX9_rooms_13 : decode cX9_rooms 13 = .ok (.aload_n 0, 1) := by decide +kernel
theorem dX9_rooms_14 : decode cX9_rooms 14 = .ok (.getfield 7, 3) := by decide +kernel
theorem dX9_rooms_17 : decode cX9_rooms 17 = .ok (.istore_n 2, 1) := by decide +kernel
theorem dX9_rooms_18 : decode cX9_rooms 18 = .ok (.aload_n 0, 1) := by decide +kernel
theorem dX9_rooms_19 : decode cX9_rooms 19 = .ok (.iload_n 1, 1) := by decide +kernel
theorem dX9_rooms_20 : decode cX9_rooms 20 = .ok (.putfield 7, 3) := by decide +kernel
theorem dX9_rooms_23 : decode cX9_rooms 23 = .ok (.aload_n 0, 1) := by decide +kernel
theorem dX9_rooms_24 : decode cX9_rooms 24 = .ok (.invokevirtual 85, 3) := by decide +kernel
theorem dX9_rooms_27 : decode cX9_rooms 27 = .ok (.iload_n 2, 1) := by decide +kernel
theorem dX9_rooms_28 : decode cX9_rooms 28 = .ok (.ireturn, 1) := by decide +kernel
theorem dX9_inRoom_0 : decode cX9_inRoom 0 = .ok (.iconst 0, 1) := by decide +kernel
theorem dX9_inRoom_1 : decode cX9_inRoom 1 = .ok (.istore 4, 2) := by decide +kernel
theorem dX9_inRoom_3 : decode cX9_inRoom 3 = .ok (.iconst 0, 1) := by decide +kernel
theorem dX9_inRoom_4 : decode cX9_inRoom 4 = .ok (.istore 5, 2) := by decide +kernel
theorem dX9_inRoom_6 : decode cX9_inRoom 6 = .ok (.iload 5, 2) := by decide +kernel
theorem dX9_inRoom_8 : decode cX9_inRoom 8 = .ok (.bipush 8, 2) := by decide +kernel
theorem dX9_inRoom_10 : decode cX9_inRoom 10 = .ok (.if_icmp .ge 63, 3) := by decide +kernel
theorem dX9_inRoom_13 : decode cX9_inRoom 13 = .ok (.iload 4, 2) := by decide +kernel
theorem dX9_inRoom_15 : decode cX9_inRoom 15 = .ok (.aload_n 0, 1) := by decide +kernel
theorem dX9_inRoom_16 : decode cX9_inRoom 16 = .ok (.getfield 88, 3) := by decide +kernel
theorem dX9_inRoom_19 : decode cX9_inRoom 19 = .ok (.iload 5, 2) := by decide +kernel
theorem dX9_inRoom_21 : decode cX9_inRoom 21 = .ok (.invokestatic 98, 3) := by decide +kernel
theorem dX9_inRoom_24 : decode cX9_inRoom 24 = .ok (.ifCond .eq 39, 3) := by decide +kernel
theorem dX9_inRoom_27 : decode cX9_inRoom 27 = .ok (.iload 5, 2) := by decide +kernel
theorem dX9_inRoom_29 : decode cX9_inRoom 29 = .ok (.iload_n 3, 1) := by decide +kernel
theorem dX9_inRoom_30 : decode cX9_inRoom 30 = .ok (.if_icmp .eq 33, 3) := by decide +kernel
theorem dX9_inRoom_33 : decode cX9_inRoom 33 = .ok (.aload_n 0, 1) := by decide +kernel
theorem dX9_inRoom_34 : decode cX9_inRoom 34 = .ok (.getfield 29, 3) := by decide +kernel
theorem dX9_inRoom_37 : decode cX9_inRoom 37 = .ok (.iload 5, 2) := by decide +kernel
theorem dX9_inRoom_39 : decode cX9_inRoom 39 = .ok (.iaload, 1) := by decide +kernel
theorem dX9_inRoom_40 : decode cX9_inRoom 40 = .ok (.iload_n 1, 1) := by decide +kernel
theorem dX9_inRoom_41 : decode cX9_inRoom 41 = .ok (.if_icmp .ne 22, 3) := by decide +kernel
theorem dX9_inRoom_44 : decode cX9_inRoom 44 = .ok (.iload_n 2, 1) := by decide +kernel
theorem dX9_inRoom_45 : decode cX9_inRoom 45 = .ok (.ifCond .lt 14, 3) := by decide +kernel
theorem dX9_inRoom_48 : decode cX9_inRoom 48 = .ok (.aload_n 0, 1) := by decide +kernel
theorem dX9_inRoom_49 : decode cX9_inRoom 49 = .ok (.getfield 32, 3) := by decide +kernel
theorem dX9_inRoom_52 : decode cX9_inRoom 52 = .ok (.iload 5, 2) := by decide +kernel
theorem dX9_inRoom_54 : decode cX9_inRoom 54 = .ok (.iaload, 1) := by decide +kernel
theorem dX9_inRoom_55 : decode cX9_inRoom 55 = .ok (.iload_n 2, 1) := by decide +kernel
theorem dX9_inRoom_56 : decode cX9_inRoom 56 = .ok (.if_icmp .ne 7, 3) := by decide +kernel
theorem dX9_inRoom_59 : decode cX9_inRoom 59 = .ok (.iconst 1, 1) := by decide +kernel
theorem dX9_inRoom_60 : decode cX9_inRoom 60 = .ok (.goto 4, 3) := by decide +kernel
theorem dX9_inRoom_63 : decode cX9_inRoom 63 = .ok (.iconst 0, 1) := by decide +kernel
theorem dX9_inRoom_64 : decode cX9_inRoom 64 = .ok (.iadd, 1) := by decide +kernel
theorem dX9_inRoom_65 : decode cX9_inRoom 65 = .ok (.istore 4, 2) := by decide +kernel
theorem dX9_inRoom_67 : decode cX9_inRoom 67 = .ok (.iinc 5 1, 3) := by decide +kernel
theorem dX9_inRoom_70 : decode cX9_inRoom 70 = .ok (.goto (-64), 3) := by decide +kernel
theorem dX9_inRoom_73 : decode cX9_inRoom 73 = .ok (.iload 4, 2) := by decide +kernel
theorem dX9_inRoom_75 : decode cX9_inRoom 75 = .ok (.ireturn, 1) := by decide +kernel
theorem dX9_room_0 : decode cX9_room 0 = .ok (.aload_n 0, 1) := by decide +kernel
theorem dX9_room_1 : decode cX9_room 1 = .ok (.iload_n 1, 1) := by decide +kernel
theorem dX9_room_2 : decode cX9_room 2 = .ok (.invokevirtual 102, 3) := by decide +kernel
theorem dX9_room_5 : decode cX9_room 5 = .ok (.ifCond .ne 5, 3) := by decide +kernel
theorem dX9_room_8 : decode cX9_room 8 = .ok (.iconst (-1), 1) := by decide +kernel
theorem dX9_room_9 : decode cX9_room 9 = .ok (.ireturn, 1) := by decide +kernel
theorem dX9_room_10 : decode cX9_room 10 = .ok (.iload_n 2, 1) := by decide +kernel
theorem dX9_room_11 : decode cX9_room 11 = .ok (.iconst 0, 1) := by decide +kernel
theorem dX9_room_12 : decode cX9_room 12 = .ok (.iconst 5, 1) := by decide +kernel
theorem dX9_room_13 : decode cX9_room 13 = .ok (.invokestatic 94, 3) := by decide +kernel
theorem dX9_room_16 : decode cX9_room 16 = .ok (.ifCond .eq 22, 3) := by decide +kernel
theorem dX9_room_19 : decode cX9_room 19 = .ok (.iload_n 3, 1) := by decide +kernel
theorem dX9_room_20 : decode cX9_room 20 = .ok (.iload_n 2, 1) := by decide +kernel
theorem dX9_room_21 : decode cX9_room 21 = .ok (.iconst 4, 1) := by decide +kernel
theorem dX9_room_22 : decode cX9_room 22 = .ok (.if_icmp .ne 7, 3) := by decide +kernel
theorem dX9_room_25 : decode cX9_room 25 = .ok (.iconst 1, 1) := by decide +kernel
theorem dX9_room_26 : decode cX9_room 26 = .ok (.goto 4, 3) := by decide +kernel
theorem dX9_room_29 : decode cX9_room 29 = .ok (.iconst 0, 1) := by decide +kernel
theorem dX9_room_30 : decode cX9_room 30 = .ok (.bipush 9, 2) := by decide +kernel
theorem dX9_room_32 : decode cX9_room 32 = .ok (.invokestatic 94, 3) := by decide +kernel
theorem dX9_room_35 : decode cX9_room 35 = .ok (.ifCond .ne 6, 3) := by decide +kernel
theorem dX9_room_38 : decode cX9_room 38 = .ok (.bipush (-2), 2) := by decide +kernel
theorem dX9_room_40 : decode cX9_room 40 = .ok (.ireturn, 1) := by decide +kernel
theorem dX9_room_41 : decode cX9_room 41 = .ok (.iload_n 2, 1) := by decide +kernel
theorem dX9_room_42 : decode cX9_room 42 = .ok (.iconst 4, 1) := by decide +kernel
theorem dX9_room_43 : decode cX9_room 43 = .ok (.if_icmp .ne 15, 3) := by decide +kernel
theorem dX9_room_46 : decode cX9_room 46 = .ok (.aload_n 0, 1) := by decide +kernel
theorem dX9_room_47 : decode cX9_room 47 = .ok (.iload_n 1, 1) := by decide +kernel
theorem dX9_room_48 : decode cX9_room 48 = .ok (.iconst (-1), 1) := by decide +kernel
theorem dX9_room_49 : decode cX9_room 49 = .ok (.bipush (-6), 2) := by decide +kernel
theorem dX9_room_51 : decode cX9_room 51 = .ok (.invokevirtual 106, 3) := by decide +kernel
theorem dX9_room_54 : decode cX9_room 54 = .ok (.iload_n 3, 1) := by decide +kernel
theorem dX9_room_55 : decode cX9_room 55 = .ok (.if_icmp .gt 20, 3) := by decide +kernel
theorem dX9_room_58 : decode cX9_room 58 = .ok (.iload_n 2, 1) := by decide +kernel
theorem dX9_room_59 : decode cX9_room 59 = .ok (.iconst 5, 1) := by decide +kernel
theorem dX9_room_60 : decode cX9_room 60 = .ok (.if_icmp .ne 18, 3) := by decide +kernel
theorem dX9_room_63 : decode cX9_room 63 = .ok (.aload_n 0, 1) := by decide +kernel
theorem dX9_room_64 : decode cX9_room 64 = .ok (.iload_n 1, 1) := by decide +kernel
theorem dX9_room_65 : decode cX9_room 65 = .ok (.iconst 2, 1) := by decide +kernel
theorem dX9_room_66 : decode cX9_room 66 = .ok (.bipush (-6), 2) := by decide +kernel
theorem dX9_room_68 : decode cX9_room 68 = .ok (.invokevirtual 106, 3) := by decide +kernel
theorem dX9_room_71 : decode cX9_room 71 = .ok (.iload_n 3, 1) := by decide +kernel
theorem dX9_room_72 : decode cX9_room 72 = .ok (.if_icmp .le 6, 3) := by decide +kernel
theorem dX9_room_75 : decode cX9_room 75 = .ok (.bipush (-3), 2) := by decide +kernel
theorem dX9_room_77 : decode cX9_room 77 = .ok (.ireturn, 1) := by decide +kernel
theorem dX9_room_78 : decode cX9_room 78 = .ok (.iload_n 2, 1) := by decide +kernel
theorem dX9_room_79 : decode cX9_room 79 = .ok (.iconst 4, 1) := by decide +kernel
theorem dX9_room_80 : decode cX9_room 80 = .ok (.if_icmp .ge 16, 3) := by decide +kernel
theorem dX9_room_83 : decode cX9_room 83 = .ok (.aload_n 0, 1) := by decide +kernel
theorem dX9_room_84 : decode cX9_room 84 = .ok (.getfield 13, 3) := by decide +kernel
theorem dX9_room_87 : decode cX9_room 87 = .ok (.iconst 4, 1) := by decide +kernel
theorem dX9_room_88 : decode cX9_room 88 = .ok (.iload_n 1, 1) := by decide +kernel
theorem dX9_room_89 : decode cX9_room 89 = .ok (.imul, 1) := by decide +kernel
theorem dX9_room_90 : decode cX9_room 90 = .ok (.iload_n 2, 1) := by decide +kernel
theorem dX9_room_91 : decode cX9_room 91 = .ok (.iadd, 1) := by decide +kernel
theorem dX9_room_92 : decode cX9_room 92 = .ok (.iaload, 1) := by decide +kernel
theorem dX9_room_93 : decode cX9_room 93 = .ok (.goto 23, 3) := by decide +kernel
theorem dX9_room_96 : decode cX9_room 96 = .ok (.iload_n 2, 1) := by decide +kernel
theorem dX9_room_97 : decode cX9_room 97 = .ok (.iconst 4, 1) := by decide +kernel
theorem dX9_room_98 : decode cX9_room 98 = .ok (.if_icmp .ne 12, 3) := by decide +kernel
theorem dX9_room_101 : decode cX9_room 101 = .ok (.aload_n 0, 1) := by decide +kernel
theorem dX9_room_102 : decode cX9_room 102 = .ok (.getfield 17, 3) := by decide +kernel
theorem dX9_room_105 : decode cX9_room 105 = .ok (.iload_n 1, 1) := by decide +kernel
theorem dX9_room_106 : decode cX9_room 106 = .ok (.iaload, 1) := by decide +kernel
theorem dX9_room_107 : decode cX9_room 107 = .ok (.goto 9, 3) := by decide +kernel
theorem dX9_room_110 : decode cX9_room 110 = .ok (.aload_n 0, 1) := by decide +kernel
theorem dX9_room_111 : decode cX9_room 111 = .ok (.getfield 20, 3) := by decide +kernel
theorem dX9_room_114 : decode cX9_room 114 = .ok (.iload_n 1, 1) := by decide +kernel
theorem dX9_room_115 : decode cX9_room 115 = .ok (.iaload, 1) := by decide +kernel
theorem dX9_room_116 : decode cX9_room 116 = .ok (.istore 4, 2) := by decide +kernel
theorem dX9_room_118 : decode cX9_room 118 = .ok (.iload_n 2, 1) := by decide +kernel
theorem dX9_room_119 : decode cX9_room 119 = .ok (.iconst 4, 1) := by decide +kernel
theorem dX9_room_120 : decode cX9_room 120 = .ok (.if_icmp .ge 17, 3) := by decide +kernel
theorem dX9_room_123 : decode cX9_room 123 = .ok (.aload_n 0, 1) := by decide +kernel
theorem dX9_room_124 : decode cX9_room 124 = .ok (.getfield 13, 3) := by decide +kernel
theorem dX9_room_127 : decode cX9_room 127 = .ok (.iconst 4, 1) := by decide +kernel
theorem dX9_room_128 : decode cX9_room 128 = .ok (.iload_n 1, 1) := by decide +kernel
theorem dX9_room_129 : decode cX9_room 129 = .ok (.imul, 1) := by decide +kernel
theorem dX9_room_130 : decode cX9_room 130 = .ok (.iload_n 2, 1) := by decide +kernel
theorem dX9_room_131 : decode cX9_room 131 = .ok (.iadd, 1) := by decide +kernel
theorem dX9_room_132 : decode cX9_room 132 = .ok (.iload_n 3, 1) := by decide +kernel
theorem dX9_room_133 : decode cX9_room 133 = .ok (.iastore, 1) := by decide +kernel
theorem dX9_room_134 : decode cX9_room 134 = .ok (.goto 25, 3) := by decide +kernel
theorem dX9_room_137 : decode cX9_room 137 = .ok (.iload_n 2, 1) := by decide +kernel
theorem dX9_room_138 : decode cX9_room 138 = .ok (.iconst 4, 1) := by decide +kernel
theorem dX9_room_139 : decode cX9_room 139 = .ok (.if_icmp .ne 13, 3) := by decide +kernel
theorem dX9_room_142 : decode cX9_room 142 = .ok (.aload_n 0, 1) := by decide +kernel
theorem dX9_room_143 : decode cX9_room 143 = .ok (.getfield 17, 3) := by decide +kernel
theorem dX9_room_146 : decode cX9_room 146 = .ok (.iload_n 1, 1) := by decide +kernel
theorem dX9_room_147 : decode cX9_room 147 = .ok (.iload_n 3, 1) := by decide +kernel
theorem dX9_room_148 : decode cX9_room 148 = .ok (.iastore, 1) := by decide +kernel
theorem dX9_room_149 : decode cX9_room 149 = .ok (.goto 10, 3) := by decide +kernel
theorem dX9_room_152 : decode cX9_room 152 = .ok (.aload_n 0, 1) := by decide +kernel
theorem dX9_room_153 : decode cX9_room 153 = .ok (.getfield 20, 3) := by decide +kernel
theorem dX9_room_156 : decode cX9_room 156 = .ok (.iload_n 1, 1) := by decide +kernel
theorem dX9_room_157 : decode cX9_room 157 = .ok (.iload_n 3, 1) := by decide +kernel
theorem dX9_room_158 : decode cX9_room 158 = .ok (.iastore, 1) := by decide +kernel
theorem dX9_room_159 : decode cX9_room 159 = .ok (.iload 4, 2) := by decide +kernel
theorem dX9_room_161 : decode cX9_room 161 = .ok (.ireturn, 1) := by decide +kernel
theorem dX9_standsIn_0 : decode cX9_standsIn 0 = .ok (.aload_n 0, 1) := by decide +kernel
theorem dX9_standsIn_1 : decode cX9_standsIn 1 = .ok (.getfield 88, 3) := by decide +kernel
theorem dX9_standsIn_4 : decode cX9_standsIn 4 = .ok (.iload_n 1, 1) := by decide +kernel
theorem dX9_standsIn_5 : decode cX9_standsIn 5 = .ok (.invokestatic 98, 3) := by decide +kernel
theorem dX9_standsIn_8 : decode cX9_standsIn 8 = .ok (.ifCond .eq 57, 3) := by decide +kernel
theorem dX9_standsIn_11 : decode cX9_standsIn 11 = .ok (.aload_n 0, 1) := by decide +kernel
theorem dX9_standsIn_12 : decode cX9_standsIn 12 = .ok (.getfield 32, 3) := by decide +kernel
theorem dX9_standsIn_15 : decode cX9_standsIn 15 = .ok (.iload_n 1, 1) := by decide +kernel
theorem dX9_standsIn_16 : decode cX9_standsIn 16 = .ok (.iaload, 1) := by decide +kernel
theorem dX9_standsIn_17 : decode cX9_standsIn 17 = .ok (.iconst 3, 1) := by decide +kernel
theorem dX9_standsIn_18 : decode cX9_standsIn 18 = .ok (.if_icmp .ne 47, 3) := by decide +kernel
theorem dX9_standsIn_21 : decode cX9_standsIn 21 = .ok (.aload_n 0, 1) := by decide +kernel
theorem dX9_standsIn_22 : decode cX9_standsIn 22 = .ok (.getfield 29, 3) := by decide +kernel
theorem dX9_standsIn_25 : decode cX9_standsIn 25 = .ok (.iload_n 1, 1) := by decide +kernel
theorem dX9_standsIn_26 : decode cX9_standsIn 26 = .ok (.iaload, 1) := by decide +kernel
theorem dX9_standsIn_27 : decode cX9_standsIn 27 = .ok (.iload_n 2, 1) := by decide +kernel
theorem dX9_standsIn_28 : decode cX9_standsIn 28 = .ok (.if_icmp .ne 13, 3) := by decide +kernel
theorem dX9_standsIn_31 : decode cX9_standsIn 31 = .ok (.aload_n 0, 1) := by decide +kernel
theorem dX9_standsIn_32 : decode cX9_standsIn 32 = .ok (.getfield 35, 3) := by decide +kernel
theorem dX9_standsIn_35 : decode cX9_standsIn 35 = .ok (.iload_n 1, 1) := by decide +kernel
theorem dX9_standsIn_36 : decode cX9_standsIn 36 = .ok (.iaload, 1) := by decide +kernel
theorem dX9_standsIn_37 : decode cX9_standsIn 37 = .ok (.iload_n 3, 1) := by decide +kernel
theorem dX9_standsIn_38 : decode cX9_standsIn 38 = .ok (.if_icmp .eq 23, 3) := by decide +kernel
theorem dX9_standsIn_41 : decode cX9_standsIn 41 = .ok (.aload_n 0, 1) := by decide +kernel
theorem dX9_standsIn_42 : decode cX9_standsIn 42 = .ok (.getfield 29, 3) := by decide +kernel
theorem dX9_standsIn_45 : decode cX9_standsIn 45 = .ok (.iload_n 1, 1) := by decide +kernel
theorem dX9_standsIn_46 : decode cX9_standsIn 46 = .ok (.iaload, 1) := by decide +kernel
theorem dX9_standsIn_47 : decode cX9_standsIn 47 = .ok (.iload_n 3, 1) := by decide +kernel
theorem dX9_standsIn_48 : decode cX9_standsIn 48 = .ok (.if_icmp .ne 17, 3) := by decide +kernel
theorem dX9_standsIn_51 : decode cX9_standsIn 51 = .ok (.aload_n 0, 1) := by decide +kernel
theorem dX9_standsIn_52 : decode cX9_standsIn 52 = .ok (.getfield 35, 3) := by decide +kernel
theorem dX9_standsIn_55 : decode cX9_standsIn 55 = .ok (.iload_n 1, 1) := by decide +kernel
theorem dX9_standsIn_56 : decode cX9_standsIn 56 = .ok (.iaload, 1) := by decide +kernel
theorem dX9_standsIn_57 : decode cX9_standsIn 57 = .ok (.iload_n 2, 1) := by decide +kernel
theorem dX9_standsIn_58 : decode cX9_standsIn 58 = .ok (.if_icmp .ne 7, 3) := by decide +kernel
theorem dX9_standsIn_61 : decode cX9_standsIn 61 = .ok (.iconst 1, 1) := by decide +kernel
theorem dX9_standsIn_62 : decode cX9_standsIn 62 = .ok (.goto 4, 3) := by decide +kernel
theorem dX9_standsIn_65 : decode cX9_standsIn 65 = .ok (.iconst 0, 1) := by decide +kernel
theorem dX9_standsIn_66 : decode cX9_standsIn 66 = .ok (.ireturn, 1) := by decide +kernel
theorem dX9_door_0 : decode cX9_door 0 = .ok (.aload_n 0, 1) := by decide +kernel
theorem dX9_door_1 : decode cX9_door 1 = .ok (.iload_n 1, 1) := by decide +kernel
theorem dX9_door_2 : decode cX9_door 2 = .ok (.invokevirtual 102, 3) := by decide +kernel
theorem dX9_door_5 : decode cX9_door 5 = .ok (.ifCond .eq 16, 3) := by decide +kernel
theorem dX9_door_8 : decode cX9_door 8 = .ok (.aload_n 0, 1) := by decide +kernel
theorem dX9_door_9 : decode cX9_door 9 = .ok (.iload_n 2, 1) := by decide +kernel
theorem dX9_door_10 : decode cX9_door 10 = .ok (.invokevirtual 102, 3) := by decide +kernel
theorem dX9_door_13 : decode cX9_door 13 = .ok (.ifCond .eq 8, 3) := by decide +kernel
theorem dX9_door_16 : decode cX9_door 16 = .ok (.iload_n 1, 1) := by decide +kernel
theorem dX9_door_17 : decode cX9_door 17 = .ok (.iload_n 2, 1) := by decide +kernel
theorem dX9_door_18 : decode cX9_door 18 = .ok (.if_icmp .ne 5, 3) := by decide +kernel
theorem dX9_door_21 : decode cX9_door 21 = .ok (.iconst (-1), 1) := by decide +kernel
theorem dX9_door_22 : decode cX9_door 22 = .ok (.ireturn, 1) := by decide +kernel
theorem dX9_door_23 : decode cX9_door 23 = .ok (.iload_n 3, 1) := by decide +kernel
theorem dX9_door_24 : decode cX9_door 24 = .ok (.iconst 0, 1) := by decide +kernel
theorem dX9_door_25 : decode cX9_door 25 = .ok (.iconst 3, 1) := by decide +kernel
theorem dX9_door_26 : decode cX9_door 26 = .ok (.invokestatic 94, 3) := by decide +kernel
theorem dX9_door_29 : decode cX9_door 29 = .ok (.ifCond .ne 6, 3) := by decide +kernel
theorem dX9_door_32 : decode cX9_door 32 = .ok (.bipush (-2), 2) := by decide +kernel
theorem dX9_door_34 : decode cX9_door 34 = .ok (.ireturn, 1) := by decide +kernel
theorem dX9_door_35 : decode cX9_door 35 = .ok (.iconst 0, 1) := by decide +kernel
theorem dX9_door_36 : decode cX9_door 36 = .ok (.istore 4, 2) := by decide +kernel
theorem dX9_door_38 : decode cX9_door 38 = .ok (.iload 4, 2) := by decide +kernel
theorem dX9_door_40 : decode cX9_door 40 = .ok (.bipush 8, 2) := by decide +kernel
theorem dX9_door_42 : decode cX9_door 42 = .ok (.if_icmp .ge 27, 3) := by decide +kernel
theorem dX9_door_45 : decode cX9_door 45 = .ok (.iload_n 3, 1) := by decide +kernel
theorem dX9_door_46 : decode cX9_door 46 = .ok (.ifCond .ne 17, 3) := by decide +kernel
theorem dX9_door_49 : decode cX9_door 49 = .ok (.aload_n 0, 1) := by decide +kernel
theorem dX9_door_50 : decode cX9_door 50 = .ok (.iload 4, 2) := by decide +kernel
theorem dX9_door_52 : decode cX9_door 52 = .ok (.iload_n 1, 1) := by decide +kernel
theorem dX9_door_53 : decode cX9_door 53 = .ok (.iload_n 2, 1) := by decide +kernel
theorem dX9_door_54 : decode cX9_door 54 = .ok (.invokevirtual 110, 3) := by decide +kernel
theorem dX9_door_57 : decode cX9_door 57 = .ok (.ifCond .eq 6, 3) := by decide +kernel
theorem dX9_door_60 : decode cX9_door 60 = .ok (.bipush (-3), 2) := by decide +kernel
theorem dX9_door_62 : decode cX9_door 62 = .ok (.ireturn, 1) := by decide +kernel
theorem dX9_door_63 : decode cX9_door 63 = .ok (.iinc 4 1, 3) := by decide +kernel
theorem dX9_door_66 : decode cX9_door 66 = .ok (.goto (-28), 3) := by decide +kernel
theorem dX9_door_69 : decode cX9_door 69 = .ok (.aload_n 0, 1) := by decide +kernel
theorem dX9_door_70 : decode cX9_door 70 = .ok (.getfield 23, 3) := by decide +kernel
theorem dX9_door_73 : decode cX9_door 73 = .ok (.bipush 6, 2) := by decide +kernel
theorem dX9_door_75 : decode cX9_door 75 = .ok (.iload_n 1, 1) := by decide +kernel
theorem dX9_door_76 : decode cX9_door 76 = .ok (.imul, 1) := by decide +kernel
theorem dX9_door_77 : decode cX9_door 77 = .ok (.iload_n 2, 1) := by decide +kernel
theorem dX9_door_78 : decode cX9_door 78 = .ok (.iadd, 1) := by decide +kernel
theorem dX9_door_79 : decode cX9_door 79 = .ok (.iaload, 1) := by decide +kernel
theorem dX9_door_80 : decode cX9_door 80 = .ok (.istore 4, 2) := by decide +kernel
theorem dX9_door_82 : decode cX9_door 82 = .ok (.aload_n 0, 1) := by decide +kernel
theorem dX9_door_83 : decode cX9_door 83 = .ok (.getfield 23, 3) := by decide +kernel
theorem dX9_door_86 : decode cX9_door 86 = .ok (.bipush 6, 2) := by decide +kernel
theorem dX9_door_88 : decode cX9_door 88 = .ok (.iload_n 1, 1) := by decide +kernel
theorem dX9_door_89 : decode cX9_door 89 = .ok (.imul, 1) := by decide +kernel
theorem dX9_door_90 : decode cX9_door 90 = .ok (.iload_n 2, 1) := by decide +kernel
theorem dX9_door_91 : decode cX9_door 91 = .ok (.iadd, 1) := by decide +kernel
theorem dX9_door_92 : decode cX9_door 92 = .ok (.iload_n 3, 1) := by decide +kernel
theorem dX9_door_93 : decode cX9_door 93 = .ok (.iastore, 1) := by decide +kernel
theorem dX9_door_94 : decode cX9_door 94 = .ok (.aload_n 0, 1) := by decide +kernel
theorem dX9_door_95 : decode cX9_door 95 = .ok (.getfield 23, 3) := by decide +kernel
theorem dX9_door_98 : decode cX9_door 98 = .ok (.bipush 6, 2) := by decide +kernel
theorem dX9_door_100 : decode cX9_door 100 = .ok (.iload_n 2, 1) := by decide +kernel
theorem dX9_door_101 : decode cX9_door 101 = .ok (.imul, 1) := by decide +kernel
theorem dX9_door_102 : decode cX9_door 102 = .ok (.iload_n 1, 1) := by decide +kernel
theorem dX9_door_103 : decode cX9_door 103 = .ok (.iadd, 1) := by decide +kernel
theorem dX9_door_104 : decode cX9_door 104 = .ok (.iload_n 3, 1) := by decide +kernel
theorem dX9_door_105 : decode cX9_door 105 = .ok (.iastore, 1) := by decide +kernel
theorem dX9_door_106 : decode cX9_door 106 = .ok (.iload 4, 2) := by decide +kernel
theorem dX9_door_108 : decode cX9_door 108 = .ok (.ireturn, 1) := by decide +kernel
theorem dX9_leaveOff_0 : decode cX9_leaveOff 0 = .ok (.aload_n 0, 1) := by decide +kernel
theorem dX9_leaveOff_1 : decode cX9_leaveOff 1 = .ok (.getfield 88, 3) := by decide +kernel
theorem dX9_leaveOff_4 : decode cX9_leaveOff 4 = .ok (.iload_n 1, 1) := by decide +kernel
theorem dX9_leaveOff_5 : decode cX9_leaveOff 5 = .ok (.invokestatic 98, 3) := by decide +kernel
theorem dX9_leaveOff_8 : decode cX9_leaveOff 8 = .ok (.ifCond .eq 37, 3) := by decide +kernel
theorem dX9_leaveOff_11 : decode cX9_leaveOff 11 = .ok (.aload_n 0, 1) := by decide +kernel
theorem dX9_leaveOff_12 : decode cX9_leaveOff 12 = .ok (.getfield 32, 3) := by decide +kernel
theorem dX9_leaveOff_15 : decode cX9_leaveOff 15 = .ok (.iload_n 1, 1) := by decide +kernel
theorem dX9_leaveOff_16 : decode cX9_leaveOff 16 = .ok (.iaload, 1) := by decide +kernel
theorem dX9_leaveOff_17 : decode cX9_leaveOff 17 = .ok (.iconst 1, 1) := by decide +kernel
theorem dX9_leaveOff_18 : decode cX9_leaveOff 18 = .ok (.if_icmp .ne 27, 3) := by decide +kernel
theorem dX9_leaveOff_21 : decode cX9_leaveOff 21 = .ok (.aload_n 0, 1) := by decide +kernel
theorem dX9_leaveOff_22 : decode cX9_leaveOff 22 = .ok (.getfield 32, 3) := by decide +kernel
theorem dX9_leaveOff_25 : decode cX9_leaveOff 25 = .ok (.aload_n 0, 1) := by decide +kernel
theorem dX9_leaveOff_26 : decode cX9_leaveOff 26 = .ok (.getfield 35, 3) := by decide +kernel
theorem dX9_leaveOff_29 : decode cX9_leaveOff 29 = .ok (.iload_n 1, 1) := by decide +kernel
theorem dX9_leaveOff_30 : decode cX9_leaveOff 30 = .ok (.iaload, 1) := by decide +kernel
theorem dX9_leaveOff_31 : decode cX9_leaveOff 31 = .ok (.iconst 0, 1) := by decide +kernel
theorem dX9_leaveOff_32 : decode cX9_leaveOff 32 = .ok (.iastore, 1) := by decide +kernel
theorem dX9_leaveOff_33 : decode cX9_leaveOff 33 = .ok (.aload_n 0, 1) := by decide +kernel
theorem dX9_leaveOff_34 : decode cX9_leaveOff 34 = .ok (.getfield 38, 3) := by decide +kernel
theorem dX9_leaveOff_37 : decode cX9_leaveOff 37 = .ok (.aload_n 0, 1) := by decide +kernel
theorem dX9_leaveOff_38 : decode cX9_leaveOff 38 = .ok (.getfield 35, 3) := by decide +kernel
theorem dX9_leaveOff_41 : decode cX9_leaveOff 41 = .ok (.iload_n 1, 1) := by decide +kernel
theorem dX9_leaveOff_42 : decode cX9_leaveOff 42 = .ok (.iaload, 1) := by decide +kernel
theorem dX9_leaveOff_43 : decode cX9_leaveOff 43 = .ok (.iconst 0, 1) := by decide +kernel
theorem dX9_leaveOff_44 : decode cX9_leaveOff 44 = .ok (.iastore, 1) := by decide +kernel
theorem dX9_leaveOff_45 : decode cX9_leaveOff 45 = .ok (.aload_n 0, 1) := by decide +kernel
theorem dX9_leaveOff_46 : decode cX9_leaveOff 46 = .ok (.getfield 32, 3) := by decide +kernel
theorem dX9_leaveOff_49 : decode cX9_leaveOff 49 = .ok (.iload_n 1, 1) := by decide +kernel
theorem dX9_leaveOff_50 : decode cX9_leaveOff 50 = .ok (.iconst 0, 1) := by decide +kernel
theorem dX9_leaveOff_51 : decode cX9_leaveOff 51 = .ok (.iastore, 1) := by decide +kernel
theorem dX9_leaveOff_52 : decode cX9_leaveOff 52 = .ok (.aload_n 0, 1) := by decide +kernel
theorem dX9_leaveOff_53 : decode cX9_leaveOff 53 = .ok (.getfield 38, 3) := by decide +kernel
theorem dX9_leaveOff_56 : decode cX9_leaveOff 56 = .ok (.iload_n 1, 1) := by decide +kernel
theorem dX9_leaveOff_57 : decode cX9_leaveOff 57 = .ok (.iconst 0, 1) := by decide +kernel
theorem dX9_leaveOff_58 : decode cX9_leaveOff 58 = .ok (.iastore, 1) := by decide +kernel
theorem dX9_leaveOff_59 : decode cX9_leaveOff 59 = .ok (.return_, 1) := by decide +kernel
theorem dX9_guest_0 : decode cX9_guest 0 = .ok (.iload_n 1, 1) := by decide +kernel
theorem dX9_guest_1 : decode cX9_guest 1 = .ok (.iconst 0, 1) := by decide +kernel
theorem dX9_guest_2 : decode cX9_guest 2 = .ok (.bipush 7, 2) := by decide +kernel
theorem dX9_guest_4 : decode cX9_guest 4 = .ok (.invokestatic 94, 3) := by decide +kernel
theorem dX9_guest_7 : decode cX9_guest 7 = .ok (.ifCond .eq 11, 3) := by decide +kernel
theorem dX9_guest_10 : decode cX9_guest 10 = .ok (.aload_n 0, 1) := by decide +kernel
theorem dX9_guest_11 : decode cX9_guest 11 = .ok (.iload_n 2, 1) := by decide +kernel
theorem dX9_guest_12 : decode cX9_guest 12 = .ok (.invokevirtual 102, 3) := by decide +kernel
theorem dX9_guest_15 : decode cX9_guest 15 = .ok (.ifCond .ne 5, 3) := by decide +kernel
theorem dX9_guest_18 : decode cX9_guest 18 = .ok (.iconst (-1), 1) := by decide +kernel
theorem dX9_guest_19 : decode cX9_guest 19 = .ok (.ireturn, 1) := by decide +kernel
theorem dX9_guest_20 : decode cX9_guest 20 = .ok (.aload_n 0, 1) := by decide +kernel
theorem dX9_guest_21 : decode cX9_guest 21 = .ok (.iload_n 2, 1) := by decide +kernel
theorem dX9_guest_22 : decode cX9_guest 22 = .ok (.iconst (-1), 1) := by decide +kernel
theorem dX9_guest_23 : decode cX9_guest 23 = .ok (.iload_n 1, 1) := by decide +kernel
theorem dX9_guest_24 : decode cX9_guest 24 = .ok (.invokevirtual 106, 3) := by decide +kernel
theorem dX9_guest_27 : decode cX9_guest 27 = .ok (.aload_n 0, 1) := by decide +kernel
theorem dX9_guest_28 : decode cX9_guest 28 = .ok (.getfield 17, 3) := by decide +kernel
theorem dX9_guest_31 : decode cX9_guest 31 = .ok (.iload_n 2, 1) := by decide +kernel
theorem dX9_guest_32 : decode cX9_guest 32 = .ok (.iaload, 1) := by decide +kernel
theorem dX9_guest_33 : decode cX9_guest 33 = .ok (.if_icmp .lt 6, 3) := by decide +kernel
theorem dX9_guest_36 : decode cX9_guest 36 = .ok (.bipush (-4), 2) := by decide +kernel
theorem dX9_guest_38 : decode cX9_guest 38 = .ok (.ireturn, 1) := by decide +kernel
theorem dX9_guest_39 : decode cX9_guest 39 = .ok (.aload_n 0, 1) := by decide +kernel
theorem dX9_guest_40 : decode cX9_guest 40 = .ok (.iload_n 1, 1) := by decide +kernel
theorem dX9_guest_41 : decode cX9_guest 41 = .ok (.invokevirtual 113, 3) := by decide +kernel
theorem dX9_guest_44 : decode cX9_guest 44 = .ok (.aload_n 0, 1) := by decide +kernel
theorem dX9_guest_45 : decode cX9_guest 45 = .ok (.dup, 1) := by decide +kernel
theorem dX9_guest_46 : decode cX9_guest 46 = .ok (.getfield 88, 3) := by decide +kernel
theorem dX9_guest_49 : decode cX9_guest 49 = .ok (.iconst 1, 1) := by decide +kernel
theorem dX9_guest_50 : decode cX9_guest 50 = .ok (.iload_n 1, 1) := by decide +kernel
theorem dX9_guest_51 : decode cX9_guest 51 = .ok (.ishl, 1) := by decide +kernel
theorem dX9_guest_52 : decode cX9_guest 52 = .ok (.ior, 1) := by decide +kernel
theorem dX9_guest_53 : decode cX9_guest 53 = .ok (.putfield 88, 3) := by decide +kernel
theorem dX9_guest_56 : decode cX9_guest 56 = .ok (.aload_n 0, 1) := by decide +kernel
theorem dX9_guest_57 : decode cX9_guest 57 = .ok (.getfield 29, 3) := by decide +kernel
theorem dX9_guest_60 : decode cX9_guest 60 = .ok (.iload_n 1, 1) := by decide +kernel
theorem dX9_guest_61 : decode cX9_guest 61 = .ok (.iload_n 2, 1) := by decide +kernel
theorem dX9_guest_62 : decode cX9_guest 62 = .ok (.iastore, 1) := by decide +kernel
theorem dX9_guest_63 : decode cX9_guest 63 = .ok (.iconst 0, 1) := by decide +kernel
theorem dX9_guest_64 : decode cX9_guest 64 = .ok (.istore_n 3, 1) := by decide +kernel
theorem dX9_guest_65 : decode cX9_guest 65 = .ok (.iload_n 3, 1) := by decide +kernel
theorem dX9_guest_66 : decode cX9_guest 66 = .ok (.iconst 5, 1) := by decide +kernel
theorem dX9_guest_67 : decode cX9_guest 67 = .ok (.if_icmp .ge 20, 3) := by decide +kernel
theorem dX9_guest_70 : decode cX9_guest 70 = .ok (.aload_n 0, 1) := by decide +kernel
theorem dX9_guest_71 : decode cX9_guest 71 = .ok (.getfield 26, 3) := by decide +kernel
theorem dX9_guest_74 : decode cX9_guest 74 = .ok (.iconst 5, 1) := by decide +kernel
theorem dX9_guest_75 : decode cX9_guest 75 = .ok (.iload_n 1, 1) := by decide +kernel
theorem dX9_guest_76 : decode cX9_guest 76 = .ok (.imul, 1) := by decide +kernel
theorem dX9_guest_77 : decode cX9_guest 77 = .ok (.iload_n 3, 1) := by decide +kernel
theorem dX9_guest_78 : decode cX9_guest 78 = .ok (.iadd, 1) := by decide +kernel
theorem dX9_guest_79 : decode cX9_guest 79 = .ok (.iconst 0, 1) := by decide +kernel
theorem dX9_guest_80 : decode cX9_guest 80 = .ok (.iastore, 1) := by decide +kernel
theorem dX9_guest_81 : decode cX9_guest 81 = .ok (.iinc 3 1, 3) := by decide +kernel
theorem dX9_guest_84 : decode cX9_guest 84 = .ok (.goto (-19), 3) := by decide +kernel
theorem dX9_guest_87 : decode cX9_guest 87 = .ok (.aload_n 0, 1) := by decide +kernel
theorem dX9_guest_88 : decode cX9_guest 88 = .ok (.getfield 88, 3) := by decide +kernel
theorem dX9_guest_91 : decode cX9_guest 91 = .ok (.invokestatic 117, 3) := by decide +kernel
theorem dX9_guest_94 : decode cX9_guest 94 = .ok (.ireturn, 1) := by decide +kernel
theorem dX9_likes_0 : decode cX9_likes 0 = .ok (.aload_n 0, 1) := by decide +kernel
theorem dX9_likes_1 : decode cX9_likes 1 = .ok (.iload_n 1, 1) := by decide +kernel
theorem dX9_likes_2 : decode cX9_likes 2 = .ok (.invokevirtual 121, 3) := by decide +kernel
theorem dX9_likes_5 : decode cX9_likes 5 = .ok (.ifCond .ne 5, 3) := by decide +kernel
theorem dX9_likes_8 : decode cX9_likes 8 = .ok (.iconst (-1), 1) := by decide +kernel
theorem dX9_likes_9 : decode cX9_likes 9 = .ok (.ireturn, 1) := by decide +kernel
theorem dX9_likes_10 : decode cX9_likes 10 = .ok (.iload_n 2, 1) := by decide +kernel
theorem dX9_likes_11 : decode cX9_likes 11 = .ok (.iconst 0, 1) := by decide +kernel
theorem dX9_likes_12 : decode cX9_likes 12 = .ok (.iconst 4, 1) := by decide +kernel
theorem dX9_likes_13 : decode cX9_likes 13 = .ok (.invokestatic 94, 3) := by decide +kernel
theorem dX9_likes_16 : decode cX9_likes 16 = .ok (.ifCond .eq 13, 3) := by decide +kernel
theorem dX9_likes_19 : decode cX9_likes 19 = .ok (.iload_n 3, 1) := by decide +kernel
theorem dX9_likes_20 : decode cX9_likes 20 = .ok (.bipush (-3), 2) := by decide +kernel
theorem dX9_likes_22 : decode cX9_likes 22 = .ok (.iconst 3, 1) := by decide +kernel
theorem dX9_likes_23 : decode cX9_likes 23 = .ok (.invokestatic 94, 3) := by decide +kernel
theorem dX9_likes_26 : decode cX9_likes 26 = .ok (.ifCond .ne 6, 3) := by decide +kernel
theorem dX9_likes_29 : decode cX9_likes 29 = .ok (.bipush (-2), 2) := by decide +kernel
theorem dX9_likes_31 : decode cX9_likes 31 = .ok (.ireturn, 1) := by decide +kernel
theorem dX9_likes_32 : decode cX9_likes 32 = .ok (.aload_n 0, 1) := by decide +kernel
theorem dX9_likes_33 : decode cX9_likes 33 = .ok (.getfield 26, 3) := by decide +kernel
theorem dX9_likes_36 : decode cX9_likes 36 = .ok (.iconst 5, 1) := by decide +kernel
theorem dX9_likes_37 : decode cX9_likes 37 = .ok (.iload_n 1, 1) := by decide +kernel
theorem dX9_likes_38 : decode cX9_likes 38 = .ok (.imul, 1) := by decide +kernel
theorem dX9_likes_39 : decode cX9_likes 39 = .ok (.iload_n 2, 1) := by decide +kernel
theorem dX9_likes_40 : decode cX9_likes 40 = .ok (.iadd, 1) := by decide +kernel
theorem dX9_likes_41 : decode cX9_likes 41 = .ok (.iaload, 1) := by decide +kernel
theorem dX9_likes_42 : decode cX9_likes 42 = .ok (.bipush 10, 2) := by decide +kernel
theorem dX9_likes_44 : decode cX9_likes 44 = .ok (.iadd, 1) := by decide +kernel
theorem dX9_likes_45 : decode cX9_likes 45 = .ok (.istore 4, 2) := by decide +kernel
theorem dX9_likes_47 : decode cX9_likes 47 = .ok (.aload_n 0, 1) := by decide +kernel
theorem dX9_likes_48 : decode cX9_likes 48 = .ok (.getfield 26, 3) := by decide +kernel
theorem dX9_likes_51 : decode cX9_likes 51 = .ok (.iconst 5, 1) := by decide +kernel
theorem dX9_likes_52 : decode cX9_likes 52 = .ok (.iload_n 1, 1) := by decide +kernel
theorem dX9_likes_53 : decode cX9_likes 53 = .ok (.imul, 1) := by decide +kernel
theorem dX9_likes_54 : decode cX9_likes 54 = .ok (.iload_n 2, 1) := by decide +kernel
theorem dX9_likes_55 : decode cX9_likes 55 = .ok (.iadd, 1) := by decide +kernel
theorem dX9_likes_56 : decode cX9_likes 56 = .ok (.iload_n 3, 1) := by decide +kernel
theorem dX9_likes_57 : decode cX9_likes 57 = .ok (.iastore, 1) := by decide +kernel
theorem dX9_likes_58 : decode cX9_likes 58 = .ok (.iload 4, 2) := by decide +kernel
theorem dX9_likes_60 : decode cX9_likes 60 = .ok (.ireturn, 1) := by decide +kernel
theorem dX9_leave_0 : decode cX9_leave 0 = .ok (.aload_n 0, 1) := by decide +kernel
theorem dX9_leave_1 : decode cX9_leave 1 = .ok (.iload_n 1, 1) := by decide +kernel
theorem dX9_leave_2 : decode cX9_leave 2 = .ok (.invokevirtual 121, 3) := by decide +kernel
theorem dX9_leave_5 : decode cX9_leave 5 = .ok (.ifCond .ne 5, 3) := by decide +kernel
theorem dX9_leave_8 : decode cX9_leave 8 = .ok (.iconst (-1), 1) := by decide +kernel
theorem dX9_leave_9 : decode cX9_leave 9 = .ok (.ireturn, 1) := by decide +kernel
theorem dX9_leave_10 : decode cX9_leave 10 = .ok (.aload_n 0, 1) := by decide +kernel
theorem dX9_leave_11 : decode cX9_leave 11 = .ok (.iload_n 1, 1) := by decide +kernel
theorem dX9_leave_12 : decode cX9_leave 12 = .ok (.invokevirtual 113, 3) := by decide +kernel
theorem dX9_leave_15 : decode cX9_leave 15 = .ok (.aload_n 0, 1) := by decide +kernel
theorem dX9_leave_16 : decode cX9_leave 16 = .ok (.dup, 1) := by decide +kernel
theorem dX9_leave_17 : decode cX9_leave 17 = .ok (.getfield 88, 3) := by decide +kernel
theorem dX9_leave_20 : decode cX9_leave 20 = .ok (.iconst 1, 1) := by decide +kernel
theorem dX9_leave_21 : decode cX9_leave 21 = .ok (.iload_n 1, 1) := by decide +kernel
theorem dX9_leave_22 : decode cX9_leave 22 = .ok (.ishl, 1) := by decide +kernel
theorem dX9_leave_23 : decode cX9_leave 23 = .ok (.iconst (-1), 1) := by decide +kernel
theorem dX9_leave_24 : decode cX9_leave 24 = .ok (.ixor, 1) := by decide +kernel
theorem dX9_leave_25 : decode cX9_leave 25 = .ok (.iand, 1) := by decide +kernel
theorem dX9_leave_26 : decode cX9_leave 26 = .ok (.putfield 88, 3) := by decide +kernel
theorem dX9_leave_29 : decode cX9_leave 29 = .ok (.aload_n 0, 1) := by decide +kernel
theorem dX9_leave_30 : decode cX9_leave 30 = .ok (.getfield 88, 3) := by decide +kernel
theorem dX9_leave_33 : decode cX9_leave 33 = .ok (.invokestatic 117, 3) := by decide +kernel
theorem dX9_leave_36 : decode cX9_leave 36 = .ok (.ireturn, 1) := by decide +kernel
theorem dX9_say_0 : decode cX9_say 0 = .ok (.iload_n 1, 1) := by decide +kernel
theorem dX9_say_1 : decode cX9_say 1 = .ok (.bipush 33, 2) := by decide +kernel
theorem dX9_say_3 : decode cX9_say 3 = .ok (.bipush 126, 2) := by decide +kernel
theorem dX9_say_5 : decode cX9_say 5 = .ok (.invokestatic 94, 3) := by decide +kernel
theorem dX9_say_8 : decode cX9_say 8 = .ok (.ifCond .ne 6, 3) := by decide +kernel
theorem dX9_say_11 : decode cX9_say 11 = .ok (.bipush (-2), 2) := by decide +kernel
theorem dX9_say_13 : decode cX9_say 13 = .ok (.ireturn, 1) := by decide +kernel
theorem dX9_say_14 : decode cX9_say 14 = .ok (.aload_n 0, 1) := by decide +kernel
theorem dX9_say_15 : decode cX9_say 15 = .ok (.getfield 124, 3) := by decide +kernel
theorem dX9_say_18 : decode cX9_say 18 = .ok (.bipush 60, 2) := by decide +kernel
theorem dX9_say_20 : decode cX9_say 20 = .ok (.if_icmp .ne 6, 3) := by decide +kernel
theorem dX9_say_23 : decode cX9_say 23 = .ok (.bipush (-4), 2) := by decide +kernel
theorem dX9_say_25 : decode cX9_say 25 = .ok (.ireturn, 1) := by decide +kernel
theorem dX9_say_26 : decode cX9_say 26 = .ok (.aload_n 0, 1) := by decide +kernel
theorem dX9_say_27 : decode cX9_say 27 = .ok (.getfield 44, 3) := by decide +kernel
theorem dX9_say_30 : decode cX9_say 30 = .ok (.aload_n 0, 1) := by decide +kernel
theorem dX9_say_31 : decode cX9_say 31 = .ok (.getfield 124, 3) := by decide +kernel
theorem dX9_say_34 : decode cX9_say 34 = .ok (.iload_n 1, 1) := by decide +kernel
theorem dX9_say_35 : decode cX9_say 35 = .ok (.iastore, 1) := by decide +kernel
theorem dX9_say_36 : decode cX9_say 36 = .ok (.aload_n 0, 1) := by decide +kernel
theorem dX9_say_37 : decode cX9_say 37 = .ok (.dup, 1) := by decide +kernel
theorem dX9_say_38 : decode cX9_say 38 = .ok (.getfield 124, 3) := by decide +kernel
theorem dX9_say_41 : decode cX9_say 41 = .ok (.iconst 1, 1) := by decide +kernel
theorem dX9_say_42 : decode cX9_say 42 = .ok (.iadd, 1) := by decide +kernel
theorem dX9_say_43 : decode cX9_say 43 = .ok (.putfield 124, 3) := by decide +kernel
theorem dX9_say_46 : decode cX9_say 46 = .ok (.aload_n 0, 1) := by decide +kernel
theorem dX9_say_47 : decode cX9_say 47 = .ok (.getfield 124, 3) := by decide +kernel
theorem dX9_say_50 : decode cX9_say 50 = .ok (.ireturn, 1) := by decide +kernel
theorem dX9_wipe_0 : decode cX9_wipe 0 = .ok (.aload_n 0, 1) := by decide +kernel
theorem dX9_wipe_1 : decode cX9_wipe 1 = .ok (.getfield 124, 3) := by decide +kernel
theorem dX9_wipe_4 : decode cX9_wipe 4 = .ok (.istore_n 1, 1) := by decide +kernel
theorem dX9_wipe_5 : decode cX9_wipe 5 = .ok (.aload_n 0, 1) := by decide +kernel
theorem dX9_wipe_6 : decode cX9_wipe 6 = .ok (.iconst 0, 1) := by decide +kernel
theorem dX9_wipe_7 : decode cX9_wipe 7 = .ok (.putfield 124, 3) := by decide +kernel
theorem dX9_wipe_10 : decode cX9_wipe 10 = .ok (.iload_n 1, 1) := by decide +kernel
theorem dX9_wipe_11 : decode cX9_wipe 11 = .ok (.ireturn, 1) := by decide +kernel
theorem dX9_faultOf_0 : decode cX9_faultOf 0 = .ok (.iconst 0, 1) := by decide +kernel
theorem dX9_faultOf_1 : decode cX9_faultOf 1 = .ok (.istore_n 1, 1) := by decide +kernel
theorem dX9_faultOf_2 : decode cX9_faultOf 2 = .ok (.iconst 0, 1) := by decide +kernel
theorem dX9_faultOf_3 : decode cX9_faultOf 3 = .ok (.istore_n 2, 1) := by decide +kernel
theorem dX9_faultOf_4 : decode cX9_faultOf 4 = .ok (.iload_n 2, 1) := by decide +kernel
theorem dX9_faultOf_5 : decode cX9_faultOf 5 = .ok (.aload_n 0, 1) := by decide +kernel
theorem dX9_faultOf_6 : decode cX9_faultOf 6 = .ok (.getfield 124, 3) := by decide +kernel
theorem dX9_faultOf_9 : decode cX9_faultOf 9 = .ok (.if_icmp .ge 206, 3) := by decide +kernel
theorem dX9_faultOf_12 : decode cX9_faultOf 12 = .ok (.aload_n 0, 1) := by decide +kernel
theorem dX9_faultOf_13 : decode cX9_faultOf 13 = .ok (.getfield 44, 3) := by decide +kernel
theorem dX9_faultOf_16 : decode cX9_faultOf 16 = .ok (.iload_n 2, 1) := by decide +kernel
theorem dX9_faultOf_17 : decode cX9_faultOf 17 = .ok (.iaload, 1) := by decide +kernel
theorem dX9_faultOf_18 : decode cX9_faultOf 18 = .ok (.istore_n 3, 1) := by decide +kernel
theorem dX9_faultOf_19 : decode cX9_faultOf 19 = .ok (.iload_n 3, 1) := by decide +kernel
theorem dX9_faultOf_20 : decode cX9_faultOf 20 = .ok (.bipush 65, 2) := by decide +kernel
theorem dX9_faultOf_22 : decode cX9_faultOf 22 = .ok (.bipush 72, 2) := by decide +kernel
theorem dX9_faultOf_24 : decode cX9_faultOf 24 = .ok (.invokestatic 94, 3) := by decide +kernel
theorem dX9_faultOf_27 : decode cX9_faultOf 27 = .ok (.istore 4, 2) := by decide +kernel
theorem dX9_faultOf_29 : decode cX9_faultOf 29 = .ok (.iload_n 3, 1) := by decide +kernel
theorem dX9_faultOf_30 : decode cX9_faultOf 30 = .ok (.bipush 97, 2) := by decide +kernel
theorem dX9_faultOf_32 : decode cX9_faultOf 32 = .ok (.bipush 97, 2) := by decide +kernel
theorem dX9_faultOf_34 : decode cX9_faultOf 34 = .ok (.aload_n 0, 1) := by decide +kernel
theorem dX9_faultOf_35 : decode cX9_faultOf 35 = .ok (.getfield 7, 3) := by decide +kernel
theorem dX9_faultOf_38 : decode cX9_faultOf 38 = .ok (.iadd, 1) := by decide +kernel
theorem dX9_faultOf_39 : decode cX9_faultOf 39 = .ok (.iconst 1, 1) := by decide +kernel
theorem dX9_faultOf_40 : decode cX9_faultOf 40 = .ok (.isub, 1) := by decide +kernel
theorem dX9_faultOf_41 : decode cX9_faultOf 41 = .ok (.invokestatic 94, 3) := by decide +kernel
theorem dX9_faultOf_44 : decode cX9_faultOf 44 = .ok (.istore 5, 2) := by decide +kernel
theorem dX9_faultOf_46 : decode cX9_faultOf 46 = .ok (.iload_n 1, 1) := by decide +kernel
theorem dX9_faultOf_47 : decode cX9_faultOf 47 = .ok (.ifCond .ne 49, 3) := by decide +kernel
theorem dX9_faultOf_50 : decode cX9_faultOf 50 = .ok (.iload 4, 2) := by decide +kernel
theorem dX9_faultOf_52 : decode cX9_faultOf 52 = .ok (.ifCond .ne 14, 3) := by decide +kernel
theorem dX9_faultOf_55 : decode cX9_faultOf 55 = .ok (.iload 5, 2) := by decide +kernel
theorem dX9_faultOf_57 : decode cX9_faultOf 57 = .ok (.ifCond .ne 9, 3) := by decide +kernel
theorem dX9_faultOf_60 : decode cX9_faultOf 60 = .ok (.iload_n 3, 1) := by decide +kernel
theorem dX9_faultOf_61 : decode cX9_faultOf 61 = .ok (.bipush 46, 2) := by decide +kernel
theorem dX9_faultOf_63 : decode cX9_faultOf 63 = .ok (.if_icmp .ne 7, 3) := by decide +kernel
theorem dX9_faultOf_66 : decode cX9_faultOf 66 = .ok (.iconst 1, 1) := by decide +kernel
theorem dX9_faultOf_67 : decode cX9_faultOf 67 = .ok (.goto 4, 3) := by decide +kernel
theorem dX9_faultOf_70 : decode cX9_faultOf 70 = .ok (.iconst 0, 1) := by decide +kernel
theorem dX9_faultOf_71 : decode cX9_faultOf 71 = .ok (.istore 6, 2) := by decide +kernel
theorem dX9_faultOf_73 : decode cX9_faultOf 73 = .ok (.iload 4, 2) := by decide +kernel
theorem dX9_faultOf_75 : decode cX9_faultOf 75 = .ok (.ifCond .eq 7, 3) := by decide +kernel
theorem dX9_faultOf_78 : decode cX9_faultOf 78 = .ok (.iconst 1, 1) := by decide +kernel
theorem dX9_faultOf_79 : decode cX9_faultOf 79 = .ok (.goto 13, 3) := by decide +kernel
theorem dX9_faultOf_82 : decode cX9_faultOf 82 = .ok (.iload 5, 2) := by decide +kernel
theorem dX9_faultOf_84 : decode cX9_faultOf 84 = .ok (.ifCond .eq 7, 3) := by decide +kernel
theorem dX9_faultOf_87 : decode cX9_faultOf 87 = .ok (.iconst 3, 1) := by decide +kernel
theorem dX9_faultOf_88 : decode cX9_faultOf 88 = .ok (.goto 4, 3) := by decide +kernel
theorem dX9_faultOf_91 : decode cX9_faultOf 91 = .ok (.iconst 0, 1) := by decide +kernel
theorem dX9_faultOf_92 : decode cX9_faultOf 92 = .ok (.istore_n 1, 1) := by decide +kernel
theorem dX9_faultOf_93 : decode cX9_faultOf 93 = .ok (.goto 109, 3) := by decide +kernel
theorem dX9_faultOf_96 : decode cX9_faultOf 96 = .ok (.iload_n 1, 1) := by decide +kernel
theorem dX9_faultOf_97 : decode cX9_faultOf 97 = .ok (.iconst 1, 1) := by decide +kernel
theorem dX9_faultOf_98 : decode cX9_faultOf 98 = .ok (.if_icmp .ne 58, 3) := by decide +kernel
theorem dX9_faultOf_101 : decode cX9_faultOf 101 = .ok (.iload 4, 2) := by decide +kernel
theorem dX9_faultOf_103 : decode cX9_faultOf 103 = .ok (.ifCond .eq 15, 3) := by decide +kernel
theorem dX9_faultOf_106 : decode cX9_faultOf 106 = .ok (.iload_n 3, 1) := by decide +kernel
theorem dX9_faultOf_107 : decode cX9_faultOf 107 = .ok (.aload_n 0, 1) := by decide +kernel
theorem dX9_faultOf_108 : decode cX9_faultOf 108 = .ok (.getfield 44, 3) := by decide +kernel
theorem dX9_faultOf_111 : decode cX9_faultOf 111 = .ok (.iload_n 2, 1) := by decide +kernel
theorem dX9_faultOf_112 : decode cX9_faultOf 112 = .ok (.iconst 1, 1) := by decide +kernel
theorem dX9_faultOf_113 : decode cX9_faultOf 113 = .ok (.isub, 1) := by decide +kernel
theorem dX9_faultOf_114 : decode cX9_faultOf 114 = .ok (.iaload, 1) := by decide +kernel
theorem dX9_faultOf_115 : decode cX9_faultOf 115 = .ok (.if_icmp .gt 20, 3) := by decide +kernel
theorem dX9_faultOf_118 : decode cX9_faultOf 118 = .ok (.iload 5, 2) := by decide +kernel
theorem dX9_faultOf_120 : decode cX9_faultOf 120 = .ok (.ifCond .ne 15, 3) := by decide +kernel
theorem dX9_faultOf_123 : decode cX9_faultOf 123 = .ok (.iload_n 3, 1) := by decide +kernel
theorem dX9_faultOf_124 : decode cX9_faultOf 124 = .ok (.bipush 95, 2) := by decide +kernel
theorem dX9_faultOf_126 : decode cX9_faultOf 126 = .ok (.if_icmp .eq 9, 3) := by decide +kernel
theorem dX9_faultOf_129 : decode cX9_faultOf 129 = .ok (.iload_n 3, 1) := by decide +kernel
theorem dX9_faultOf_130 : decode cX9_faultOf 130 = .ok (.bipush 94, 2) := by decide +kernel
theorem dX9_faultOf_132 : decode cX9_faultOf 132 = .ok (.if_icmp .ne 7, 3) := by decide +kernel
theorem dX9_faultOf_135 : decode cX9_faultOf 135 = .ok (.iconst 1, 1) := by decide +kernel
theorem dX9_faultOf_136 : decode cX9_faultOf 136 = .ok (.goto 4, 3) := by decide +kernel
theorem dX9_faultOf_139 : decode cX9_faultOf 139 = .ok (.iconst 0, 1) := by decide +kernel
theorem dX9_faultOf_140 : decode cX9_faultOf 140 = .ok (.istore 6, 2) := by decide +kernel
theorem dX9_faultOf_142 : decode cX9_faultOf 142 = .ok (.iload 4, 2) := by decide +kernel
theorem dX9_faultOf_144 : decode cX9_faultOf 144 = .ok (.ifCond .eq 7, 3) := by decide +kernel
theorem dX9_faultOf_147 : decode cX9_faultOf 147 = .ok (.iconst 2, 1) := by decide +kernel
theorem dX9_faultOf_148 : decode cX9_faultOf 148 = .ok (.goto 4, 3) := by decide +kernel
theorem dX9_faultOf_151 : decode cX9_faultOf 151 = .ok (.iconst 0, 1) := by decide +kernel
theorem dX9_faultOf_152 : decode cX9_faultOf 152 = .ok (.istore_n 1, 1) := by decide +kernel
theorem dX9_faultOf_153 : decode cX9_faultOf 153 = .ok (.goto 49, 3) := by decide +kernel
theorem dX9_faultOf_156 : decode cX9_faultOf 156 = .ok (.iload_n 1, 1) := by decide +kernel
theorem dX9_faultOf_157 : decode cX9_faultOf 157 = .ok (.iconst 2, 1) := by decide +kernel
theorem dX9_faultOf_158 : decode cX9_faultOf 158 = .ok (.if_icmp .ne 18, 3) := by decide +kernel
theorem dX9_faultOf_161 : decode cX9_faultOf 161 = .ok (.iload_n 3, 1) := by decide +kernel
theorem dX9_faultOf_162 : decode cX9_faultOf 162 = .ok (.bipush 49, 2) := by decide +kernel
theorem dX9_faultOf_164 : decode cX9_faultOf 164 = .ok (.bipush 57, 2) := by decide +kernel
theorem dX9_faultOf_166 : decode cX9_faultOf 166 = .ok (.invokestatic 94, 3) := by decide +kernel
theorem dX9_faultOf_169 : decode cX9_faultOf 169 = .ok (.istore 6, 2) := by decide +kernel
theorem dX9_faultOf_171 : decode cX9_faultOf 171 = .ok (.iconst 0, 1) := by decide +kernel
theorem dX9_faultOf_172 : decode cX9_faultOf 172 = .ok (.istore_n 1, 1) := by decide +kernel
theorem dX9_faultOf_173 : decode cX9_faultOf 173 = .ok (.goto 29, 3) := by decide +kernel
theorem dX9_faultOf_176 : decode cX9_faultOf 176 = .ok (.iload_n 1, 1) := by decide +kernel
theorem dX9_faultOf_177 : decode cX9_faultOf 177 = .ok (.iconst 3, 1) := by decide +kernel
theorem dX9_faultOf_178 : decode cX9_faultOf 178 = .ok (.if_icmp .ne 12, 3) := by decide +kernel
theorem dX9_faultOf_181 : decode cX9_faultOf 181 = .ok (.iload 5, 2) := by decide +kernel
theorem dX9_faultOf_183 : decode cX9_faultOf 183 = .ok (.istore 6, 2) := by decide +kernel
theorem dX9_faultOf_185 : decode cX9_faultOf 185 = .ok (.iconst 4, 1) := by decide +kernel
theorem dX9_faultOf_186 : decode cX9_faultOf 186 = .ok (.istore_n 1, 1) := by decide +kernel
theorem dX9_faultOf_187 : decode cX9_faultOf 187 = .ok (.goto 15, 3) := by decide +kernel
theorem dX9_faultOf_190 : decode cX9_faultOf 190 = .ok (.iload_n 3, 1) := by decide +kernel
theorem dX9_faultOf_191 : decode cX9_faultOf 191 = .ok (.bipush 48, 2) := by decide +kernel
theorem dX9_faultOf_193 : decode cX9_faultOf 193 = .ok (.bipush 51, 2) := by decide +kernel
theorem dX9_faultOf_195 : decode cX9_faultOf 195 = .ok (.invokestatic 94, 3) := by decide +kernel
theorem dX9_faultOf_198 : decode cX9_faultOf 198 = .ok (.istore 6, 2) := by decide +kernel
theorem dX9_faultOf_200 : decode cX9_faultOf 200 = .ok (.iconst 0, 1) := by decide +kernel
theorem dX9_faultOf_201 : decode cX9_faultOf 201 = .ok (.istore_n 1, 1) := by decide +kernel
theorem dX9_faultOf_202 : decode cX9_faultOf 202 = .ok (.iload 6, 2) := by decide +kernel
theorem dX9_faultOf_204 : decode cX9_faultOf 204 = .ok (.ifCond .ne 5, 3) := by decide +kernel
theorem dX9_faultOf_207 : decode cX9_faultOf 207 = .ok (.iload_n 2, 1) := by decide +kernel
theorem dX9_faultOf_208 : decode cX9_faultOf 208 = .ok (.ireturn, 1) := by decide +kernel
theorem dX9_faultOf_209 : decode cX9_faultOf 209 = .ok (.iinc 2 1, 3) := by decide +kernel
theorem dX9_faultOf_212 : decode cX9_faultOf 212 = .ok (.goto (-208), 3) := by decide +kernel
theorem dX9_faultOf_215 : decode cX9_faultOf 215 = .ok (.iload_n 1, 1) := by decide +kernel
theorem dX9_faultOf_216 : decode cX9_faultOf 216 = .ok (.ifCond .ne 8, 3) := by decide +kernel
theorem dX9_faultOf_219 : decode cX9_faultOf 219 = .ok (.bipush (-6), 2) := by decide +kernel
theorem dX9_faultOf_221 : decode cX9_faultOf 221 = .ok (.goto 7, 3) := by decide +kernel
theorem dX9_faultOf_224 : decode cX9_faultOf 224 = .ok (.aload_n 0, 1) := by decide +kernel
theorem dX9_faultOf_225 : decode cX9_faultOf 225 = .ok (.getfield 124, 3) := by decide +kernel
theorem dX9_faultOf_228 : decode cX9_faultOf 228 = .ok (.ireturn, 1) := by decide +kernel
theorem dX9_fault_0 : decode cX9_fault 0 = .ok (.aload_n 0, 1) := by decide +kernel
theorem dX9_fault_1 : decode cX9_fault 1 = .ok (.invokevirtual 127, 3) := by decide +kernel
theorem dX9_fault_4 : decode cX9_fault 4 = .ok (.ireturn, 1) := by decide +kernel
theorem dX9_asNow_0 : decode cX9_asNow 0 = .ok (.iconst 0, 1) := by decide +kernel
theorem dX9_asNow_1 : decode cX9_asNow 1 = .ok (.istore_n 1, 1) := by decide +kernel
theorem dX9_asNow_2 : decode cX9_asNow 2 = .ok (.iload_n 1, 1) := by decide +kernel
theorem dX9_asNow_3 : decode cX9_asNow 3 = .ok (.bipush 8, 2) := by decide +kernel
theorem dX9_asNow_5 : decode cX9_asNow 5 = .ok (.if_icmp .ge 57, 3) := by decide +kernel
theorem dX9_asNow_8 : decode cX9_asNow 8 = .ok (.aload_n 0, 1) := by decide +kernel
theorem dX9_asNow_9 : decode cX9_asNow 9 = .ok (.getfield 47, 3) := by decide +kernel
theorem dX9_asNow_12 : decode cX9_asNow 12 = .ok (.iload_n 1, 1) := by decide +kernel
theorem dX9_asNow_13 : decode cX9_asNow 13 = .ok (.aload_n 0, 1) := by decide +kernel
theorem dX9_asNow_14 : decode cX9_asNow 14 = .ok (.getfield 29, 3) := by decide +kernel
theorem dX9_asNow_17 : decode cX9_asNow 17 = .ok (.iload_n 1, 1) := by decide +kernel
theorem dX9_asNow_18 : decode cX9_asNow 18 = .ok (.iaload, 1) := by decide +kernel
theorem dX9_asNow_19 : decode cX9_asNow 19 = .ok (.iastore, 1) := by decide +kernel
theorem dX9_asNow_20 : decode cX9_asNow 20 = .ok (.aload_n 0, 1) := by decide +kernel
theorem dX9_asNow_21 : decode cX9_asNow 21 = .ok (.getfield 50, 3) := by decide +kernel
theorem dX9_asNow_24 : decode cX9_asNow 24 = .ok (.iload_n 1, 1) := by decide +kernel
theorem dX9_asNow_25 : decode cX9_asNow 25 = .ok (.aload_n 0, 1) := by decide +kernel
theorem dX9_asNow_26 : decode cX9_asNow 26 = .ok (.getfield 32, 3) := by decide +kernel
theorem dX9_asNow_29 : decode cX9_asNow 29 = .ok (.iload_n 1, 1) := by decide +kernel
theorem dX9_asNow_30 : decode cX9_asNow 30 = .ok (.iaload, 1) := by decide +kernel
theorem dX9_asNow_31 : decode cX9_asNow 31 = .ok (.iastore, 1) := by decide +kernel
theorem dX9_asNow_32 : decode cX9_asNow 32 = .ok (.aload_n 0, 1) := by decide +kernel
theorem dX9_asNow_33 : decode cX9_asNow 33 = .ok (.getfield 53, 3) := by decide +kernel
theorem dX9_asNow_36 : decode cX9_asNow 36 = .ok (.iload_n 1, 1) := by decide +kernel
theorem dX9_asNow_37 : decode cX9_asNow 37 = .ok (.aload_n 0, 1) := by decide +kernel
theorem dX9_asNow_38 : decode cX9_asNow 38 = .ok (.getfield 35, 3) := by decide +kernel
theorem dX9_asNow_41 : decode cX9_asNow 41 = .ok (.iload_n 1, 1) := by decide +kernel
theorem dX9_asNow_42 : decode cX9_asNow 42 = .ok (.iaload, 1) := by decide +kernel
theorem dX9_asNow_43 : decode cX9_asNow 43 = .ok (.iastore, 1) := by decide +kernel
theorem dX9_asNow_44 : decode cX9_asNow 44 = .ok (.aload_n 0, 1) := by decide +kernel
theorem dX9_asNow_45 : decode cX9_asNow 45 = .ok (.getfield 56, 3) := by decide +kernel
theorem dX9_asNow_48 : decode cX9_asNow 48 = .ok (.iload_n 1, 1) := by decide +kernel
theorem dX9_asNow_49 : decode cX9_asNow 49 = .ok (.aload_n 0, 1) := by decide +kernel
theorem dX9_asNow_50 : decode cX9_asNow 50 = .ok (.getfield 38, 3) := by decide +kernel
theorem dX9_asNow_53 : decode cX9_asNow 53 = .ok (.iload_n 1, 1) := by decide +kernel
theorem dX9_asNow_54 : decode cX9_asNow 54 = .ok (.iaload, 1) := by decide +kernel
theorem dX9_asNow_55 : decode cX9_asNow 55 = .ok (.iastore, 1) := by decide +kernel
theorem dX9_asNow_56 : decode cX9_asNow 56 = .ok (.iinc 1 1, 3) := by decide +kernel
theorem dX9_asNow_59 : decode cX9_asNow 59 = .ok (.goto (-57), 3) := by decide +kernel
theorem dX9_asNow_62 : decode cX9_asNow 62 = .ok (.iconst 0, 1) := by decide +kernel
theorem dX9_asNow_63 : decode cX9_asNow 63 = .ok (.istore_n 1, 1) := by decide +kernel
theorem dX9_asNow_64 : decode cX9_asNow 64 = .ok (.iload_n 1, 1) := by decide +kernel
theorem dX9_asNow_65 : decode cX9_asNow 65 = .ok (.bipush 24, 2) := by decide +kernel
theorem dX9_asNow_67 : decode cX9_asNow 67 = .ok (.if_icmp .ge 21, 3) := by decide +kernel
theorem dX9_asNow_70 : decode cX9_asNow 70 = .ok (.aload_n 0, 1) := by decide +kernel
theorem dX9_asNow_71 : decode cX9_asNow 71 = .ok (.getfield 59, 3) := by decide +kernel
theorem dX9_asNow_74 : decode cX9_asNow 74 = .ok (.iload_n 1, 1) := by decide +kernel
theorem dX9_asNow_75 : decode cX9_asNow 75 = .ok (.aload_n 0, 1) := by decide +kernel
theorem dX9_asNow_76 : decode cX9_asNow 76 = .ok (.getfield 13, 3) := by decide +kernel
theorem dX9_asNow_79 : decode cX9_asNow 79 = .ok (.iload_n 1, 1) := by decide +kernel
theorem dX9_asNow_80 : decode cX9_asNow 80 = .ok (.iaload, 1) := by decide +kernel
theorem dX9_asNow_81 : decode cX9_asNow 81 = .ok (.iastore, 1) := by decide +kernel
theorem dX9_asNow_82 : decode cX9_asNow 82 = .ok (.iinc 1 1, 3) := by decide +kernel
theorem dX9_asNow_85 : decode cX9_asNow 85 = .ok (.goto (-21), 3) := by decide +kernel
theorem dX9_asNow_88 : decode cX9_asNow 88 = .ok (.aload_n 0, 1) := by decide +kernel
theorem dX9_asNow_89 : decode cX9_asNow 89 = .ok (.bipush (-6), 2) := by decide +kernel
theorem dX9_asNow_91 : decode cX9_asNow 91 = .ok (.putfield 131, 3) := by decide +kernel
theorem dX9_asNow_94 : decode cX9_asNow 94 = .ok (.return_, 1) := by decide +kernel
theorem dX9_countIn_0 : decode cX9_countIn 0 = .ok (.iconst 0, 1) := by decide +kernel
theorem dX9_countIn_1 : decode cX9_countIn 1 = .ok (.istore_n 3, 1) := by decide +kernel
theorem dX9_countIn_2 : decode cX9_countIn 2 = .ok (.iconst 0, 1) := by decide +kernel
theorem dX9_countIn_3 : decode cX9_countIn 3 = .ok (.istore 4, 2) := by decide +kernel
theorem dX9_countIn_5 : decode cX9_countIn 5 = .ok (.iload 4, 2) := by decide +kernel
theorem dX9_countIn_7 : decode cX9_countIn 7 = .ok (.bipush 8, 2) := by decide +kernel
theorem dX9_countIn_9 : decode cX9_countIn 9 = .ok (.if_icmp .ge 46, 3) := by decide +kernel
theorem dX9_countIn_12 : decode cX9_countIn 12 = .ok (.iload_n 3, 1) := by decide +kernel
theorem dX9_countIn_13 : decode cX9_countIn 13 = .ok (.aload_n 0, 1) := by decide +kernel
theorem dX9_countIn_14 : decode cX9_countIn 14 = .ok (.getfield 88, 3) := by decide +kernel
theorem dX9_countIn_17 : decode cX9_countIn 17 = .ok (.iload 4, 2) := by decide +kernel
theorem dX9_countIn_19 : decode cX9_countIn 19 = .ok (.invokestatic 98, 3) := by decide +kernel
theorem dX9_countIn_22 : decode cX9_countIn 22 = .ok (.ifCond .eq 24, 3) := by decide +kernel
theorem dX9_countIn_25 : decode cX9_countIn 25 = .ok (.iload 4, 2) := by decide +kernel
theorem dX9_countIn_27 : decode cX9_countIn 27 = .ok (.iload_n 2, 1) := by decide +kernel
theorem dX9_countIn_28 : decode cX9_countIn 28 = .ok (.if_icmp .eq 18, 3) := by decide +kernel
theorem dX9_countIn_31 : decode cX9_countIn 31 = .ok (.aload_n 0, 1) := by decide +kernel
theorem dX9_countIn_32 : decode cX9_countIn 32 = .ok (.getfield 47, 3) := by decide +kernel
theorem dX9_countIn_35 : decode cX9_countIn 35 = .ok (.iload 4, 2) := by decide +kernel
theorem dX9_countIn_37 : decode cX9_countIn 37 = .ok (.iaload, 1) := by decide +kernel
theorem dX9_countIn_38 : decode cX9_countIn 38 = .ok (.iload_n 1, 1) := by decide +kernel
theorem dX9_countIn_39 : decode cX9_countIn 39 = .ok (.if_icmp .ne 7, 3) := by decide +kernel
theorem dX9_countIn_42 : decode cX9_countIn 42 = .ok (.iconst 1, 1) := by decide +kernel
theorem dX9_countIn_43 : decode cX9_countIn 43 = .ok (.goto 4, 3) := by decide +kernel
theorem dX9_countIn_46 : decode cX9_countIn 46 = .ok (.iconst 0, 1) := by decide +kernel
theorem dX9_countIn_47 : decode cX9_countIn 47 = .ok (.iadd, 1) := by decide +kernel
theorem dX9_countIn_48 : decode cX9_countIn 48 = .ok (.istore_n 3, 1) := by decide +kernel
theorem dX9_countIn_49 : decode cX9_countIn 49 = .ok (.iinc 4 1, 3) := by decide +kernel
theorem dX9_countIn_52 : decode cX9_countIn 52 = .ok (.goto (-47), 3) := by decide +kernel
theorem dX9_countIn_55 : decode cX9_countIn 55 = .ok (.iload_n 3, 1) := by decide +kernel
theorem dX9_countIn_56 : decode cX9_countIn 56 = .ok (.ireturn, 1) := by decide +kernel
theorem dX9_drawOf_0 : decode cX9_drawOf 0 = .ok (.iload_n 3, 1) := by decide +kernel
theorem dX9_drawOf_1 : decode cX9_drawOf 1 = .ok (.iconst 4, 1) := by decide +kernel
theorem dX9_drawOf_2 : decode cX9_drawOf 2 = .ok (.if_icmp .ne 8, 3) := by decide +kernel
theorem dX9_drawOf_5 : decode cX9_drawOf 5 = .ok (.iload 4, 2) := by decide +kernel
theorem dX9_drawOf_7 : decode cX9_drawOf 7 = .ok (.goto 13, 3) := by decide +kernel
theorem dX9_drawOf_10 : decode cX9_drawOf 10 = .ok (.aload_n 0, 1) := by decide +kernel
theorem dX9_drawOf_11 : decode cX9_drawOf 11 = .ok (.getfield 26, 3) := by decide +kernel
theorem dX9_drawOf_14 : decode cX9_drawOf 14 = .ok (.iconst 5, 1) := by decide +kernel
theorem dX9_drawOf_15 : decode cX9_drawOf 15 = .ok (.iload_n 1, 1) := by decide +kernel
theorem dX9_drawOf_16 : decode cX9_drawOf 16 = .ok (.imul, 1) := by decide +kernel
theorem dX9_drawOf_17 : decode cX9_drawOf 17 = .ok (.iconst 4, 1) := by decide +kernel
theorem dX9_drawOf_18 : decode cX9_drawOf 18 = .ok (.iadd, 1) := by decide +kernel
theorem dX9_drawOf_19 : decode cX9_drawOf 19 = .ok (.iaload, 1) := by decide +kernel
theorem dX9_drawOf_20 : decode cX9_drawOf 20 = .ok (.aload_n 0, 1) := by decide +kernel
theorem dX9_drawOf_21 : decode cX9_drawOf 21 = .ok (.iload_n 2, 1) := by decide +kernel
theorem dX9_drawOf_22 : decode cX9_drawOf 22 = .ok (.iload_n 1, 1) := by decide +kernel
theorem dX9_drawOf_23 : decode cX9_drawOf 23 = .ok (.invokevirtual 134, 3) := by decide +kernel
theorem dX9_drawOf_26 : decode cX9_drawOf 26 = .ok (.imul, 1) := by decide +kernel
theorem dX9_drawOf_27 : decode cX9_drawOf 27 = .ok (.istore 5, 2) := by decide +kernel
theorem dX9_drawOf_29 : decode cX9_drawOf 29 = .ok (.iconst 0, 1) := by decide +kernel
theorem dX9_drawOf_30 : decode cX9_drawOf 30 = .ok (.istore 6, 2) := by decide +kernel
theorem dX9_drawOf_32 : decode cX9_drawOf 32 = .ok (.iload 6, 2) := by decide +kernel
theorem dX9_drawOf_34 : decode cX9_drawOf 34 = .ok (.iconst 4, 1) := by decide +kernel
theorem dX9_drawOf_35 : decode cX9_drawOf 35 = .ok (.if_icmp .ge 48, 3) := by decide +kernel
theorem dX9_drawOf_38 : decode cX9_drawOf 38 = .ok (.iload 5, 2) := by decide +kernel
theorem dX9_drawOf_40 : decode cX9_drawOf 40 = .ok (.iload_n 3, 1) := by decide +kernel
theorem dX9_drawOf_41 : decode cX9_drawOf 41 = .ok (.iload 6, 2) := by decide +kernel
theorem dX9_drawOf_43 : decode cX9_drawOf 43 = .ok (.if_icmp .ne 8, 3) := by decide +kernel
theorem dX9_drawOf_46 : decode cX9_drawOf 46 = .ok (.iload 4, 2) := by decide +kernel
theorem dX9_drawOf_48 : decode cX9_drawOf 48 = .ok (.goto 14, 3) := by decide +kernel
theorem dX9_drawOf_51 : decode cX9_drawOf 51 = .ok (.aload_n 0, 1) := by decide +kernel
theorem dX9_drawOf_52 : decode cX9_drawOf 52 = .ok (.getfield 26, 3) := by decide +kernel
theorem dX9_drawOf_55 : decode cX9_drawOf 55 = .ok (.iconst 5, 1) := by decide +kernel
theorem dX9_drawOf_56 : decode cX9_drawOf 56 = .ok (.iload_n 1, 1) := by decide +kernel
theorem dX9_drawOf_57 : decode cX9_drawOf 57 = .ok (.imul, 1) := by decide +kernel
theorem dX9_drawOf_58 : decode cX9_drawOf 58 = .ok (.iload 6, 2) := by decide +kernel
theorem dX9_drawOf_60 : decode cX9_drawOf 60 = .ok (.iadd, 1) := by decide +kernel
theorem dX9_drawOf_61 : decode cX9_drawOf 61 = .ok (.iaload, 1) := by decide +kernel
theorem dX9_drawOf_62 : decode cX9_drawOf 62 = .ok (.aload_n 0, 1) := by decide +kernel
theorem dX9_drawOf_63 : decode cX9_drawOf 63 = .ok (.getfield 59, 3) := by decide +kernel
theorem dX9_drawOf_66 : decode cX9_drawOf 66 = .ok (.iconst 4, 1) := by decide +kernel
theorem dX9_drawOf_67 : decode cX9_drawOf 67 = .ok (.iload_n 2, 1) := by decide +kernel
theorem dX9_drawOf_68 : decode cX9_drawOf 68 = .ok (.imul, 1) := by decide +kernel
theorem dX9_drawOf_69 : decode cX9_drawOf 69 = .ok (.iload 6, 2) := by decide +kernel
theorem dX9_drawOf_71 : decode cX9_drawOf 71 = .ok (.iadd, 1) := by decide +kernel
theorem dX9_drawOf_72 : decode cX9_drawOf 72 = .ok (.iaload, 1) := by decide +kernel
theorem dX9_drawOf_73 : decode cX9_drawOf 73 = .ok (.imul, 1) := by decide +kernel
theorem dX9_drawOf_74 : decode cX9_drawOf 74 = .ok (.iadd, 1) := by decide +kernel
theorem dX9_drawOf_75 : decode cX9_drawOf 75 = .ok (.istore 5, 2) := by decide +kernel
theorem dX9_drawOf_77 : decode cX9_drawOf 77 = .ok (.iinc 6 1, 3) := by decide +kernel
theorem dX9_drawOf_80 : decode cX9_drawOf 80 = .ok (.goto (-48), 3) := by decide +kernel
theorem dX9_drawOf_83 : decode cX9_drawOf 83 = .ok (.iload 5, 2) := by decide +kernel
theorem dX9_drawOf_85 : decode cX9_drawOf 85 = .ok (.ireturn, 1) := by decide +kernel
theorem dX9_canGo_0 : decode cX9_canGo 0 = .ok (.aload_n 0, 1) := by decide +kernel
theorem dX9_canGo_1 : decode cX9_canGo 1 = .ok (.getfield 47, 3) := by decide +kernel
theorem dX9_canGo_4 : decode cX9_canGo 4 = .ok (.iload_n 1, 1) := by decide +kernel
theorem dX9_canGo_5 : decode cX9_canGo 5 = .ok (.iaload, 1) := by decide +kernel
theorem dX9_canGo_6 : decode cX9_canGo 6 = .ok (.istore_n 3, 1) := by decide +kernel
theorem dX9_canGo_7 : decode cX9_canGo 7 = .ok (.bipush 6, 2) := by decide +kernel
theorem dX9_canGo_9 : decode cX9_canGo 9 = .ok (.iload_n 3, 1) := by decide +kernel
theorem dX9_canGo_10 : decode cX9_canGo 10 = .ok (.imul, 1) := by decide +kernel
theorem dX9_canGo_11 : decode cX9_canGo 11 = .ok (.iload_n 2, 1) := by decide +kernel
theorem dX9_canGo_12 : decode cX9_canGo 12 = .ok (.iadd, 1) := by decide +kernel
theorem dX9_canGo_13 : decode cX9_canGo 13 = .ok (.istore 4, 2) := by decide +kernel
theorem dX9_canGo_15 : decode cX9_canGo 15 = .ok (.aload_n 0, 1) := by decide +kernel
theorem dX9_canGo_16 : decode cX9_canGo 16 = .ok (.getfield 23, 3) := by decide +kernel
theorem dX9_canGo_19 : decode cX9_canGo 19 = .ok (.iload 4, 2) := by decide +kernel
theorem dX9_canGo_21 : decode cX9_canGo 21 = .ok (.iaload, 1) := by decide +kernel
theorem dX9_canGo_22 : decode cX9_canGo 22 = .ok (.istore 5, 2) := by decide +kernel
theorem dX9_canGo_24 : decode cX9_canGo 24 = .ok (.iconst 0, 1) := by decide +kernel
theorem dX9_canGo_25 : decode cX9_canGo 25 = .ok (.istore 6, 2) := by decide +kernel
theorem dX9_canGo_27 : decode cX9_canGo 27 = .ok (.iload 6, 2) := by decide +kernel
theorem dX9_canGo_29 : decode cX9_canGo 29 = .ok (.bipush 8, 2) := by decide +kernel
theorem dX9_canGo_31 : decode cX9_canGo 31 = .ok (.if_icmp .ge 98, 3) := by decide +kernel
theorem dX9_canGo_34 : decode cX9_canGo 34 = .ok (.aload_n 0, 1) := by decide +kernel
theorem dX9_canGo_35 : decode cX9_canGo 35 = .ok (.getfield 88, 3) := by decide +kernel
theorem dX9_canGo_38 : decode cX9_canGo 38 = .ok (.iload 6, 2) := by decide +kernel
theorem dX9_canGo_40 : decode cX9_canGo 40 = .ok (.invokestatic 98, 3) := by decide +kernel
theorem dX9_canGo_43 : decode cX9_canGo 43 = .ok (.ifCond .eq 62, 3) := by decide +kernel
theorem dX9_canGo_46 : decode cX9_canGo 46 = .ok (.aload_n 0, 1) := by decide +kernel
theorem dX9_canGo_47 : decode cX9_canGo 47 = .ok (.getfield 50, 3) := by decide +kernel
theorem dX9_canGo_50 : decode cX9_canGo 50 = .ok (.iload 6, 2) := by decide +kernel
theorem dX9_canGo_52 : decode cX9_canGo 52 = .ok (.iaload, 1) := by decide +kernel
theorem dX9_canGo_53 : decode cX9_canGo 53 = .ok (.iconst 3, 1) := by decide +kernel
theorem dX9_canGo_54 : decode cX9_canGo 54 = .ok (.if_icmp .ne 51, 3) := by decide +kernel
theorem dX9_canGo_57 : decode cX9_canGo 57 = .ok (.aload_n 0, 1) := by decide +kernel
theorem dX9_canGo_58 : decode cX9_canGo 58 = .ok (.getfield 47, 3) := by decide +kernel
theorem dX9_canGo_61 : decode cX9_canGo 61 = .ok (.iload 6, 2) := by decide +kernel
theorem dX9_canGo_63 : decode cX9_canGo 63 = .ok (.iaload, 1) := by decide +kernel
theorem dX9_canGo_64 : decode cX9_canGo 64 = .ok (.iload_n 3, 1) := by decide +kernel
theorem dX9_canGo_65 : decode cX9_canGo 65 = .ok (.if_icmp .ne 14, 3) := by decide +kernel
theorem dX9_canGo_68 : decode cX9_canGo 68 = .ok (.aload_n 0, 1) := by decide +kernel
theorem dX9_canGo_69 : decode cX9_canGo 69 = .ok (.getfield 53, 3) := by decide +kernel
theorem dX9_canGo_72 : decode cX9_canGo 72 = .ok (.iload 6, 2) := by decide +kernel
theorem dX9_canGo_74 : decode cX9_canGo 74 = .ok (.iaload, 1) := by decide +kernel
theorem dX9_canGo_75 : decode cX9_canGo 75 = .ok (.iload_n 2, 1) := by decide +kernel
theorem dX9_canGo_76 : decode cX9_canGo 76 = .ok (.if_icmp .eq 25, 3) := by decide +kernel
theorem dX9_canGo_79 : decode cX9_canGo 79 = .ok (.aload_n 0, 1) := by decide +kernel
theorem dX9_canGo_80 : decode cX9_canGo 80 = .ok (.getfield 47, 3) := by decide +kernel
theorem dX9_canGo_83 : decode cX9_canGo 83 = .ok (.iload 6, 2) := by decide +kernel
theorem dX9_canGo_85 : decode cX9_canGo 85 = .ok (.iaload, 1) := by decide +kernel
theorem dX9_canGo_86 : decode cX9_canGo 86 = .ok (.iload_n 2, 1) := by decide +kernel
theorem dX9_canGo_87 : decode cX9_canGo 87 = .ok (.if_icmp .ne 18, 3) := by decide +kernel
theorem dX9_canGo_90 : decode cX9_canGo 90 = .ok (.aload_n 0, 1) := by decide +kernel
theorem dX9_canGo_91 : decode cX9_canGo 91 = .ok (.getfield 53, 3) := by decide +kernel
theorem dX9_canGo_94 : decode cX9_canGo 94 = .ok (.iload 6, 2) := by decide +kernel
theorem dX9_canGo_96 : decode cX9_canGo 96 = .ok (.iaload, 1) := by decide +kernel
theorem dX9_canGo_97 : decode cX9_canGo 97 = .ok (.iload_n 3, 1) := by decide +kernel
theorem dX9_canGo_98 : decode cX9_canGo 98 = .ok (.if_icmp .ne 7, 3) := by decide +kernel
theorem dX9_canGo_101 : decode cX9_canGo 101 = .ok (.iconst 1, 1) := by decide +kernel
theorem dX9_canGo_102 : decode cX9_canGo 102 = .ok (.goto 4, 3) := by decide +kernel
theorem dX9_canGo_105 : decode cX9_canGo 105 = .ok (.iconst 0, 1) := by decide +kernel
theorem dX9_canGo_106 : decode cX9_canGo 106 = .ok (.istore 7, 2) := by decide +kernel
theorem dX9_canGo_108 : decode cX9_canGo 108 = .ok (.iload 5, 2) := by decide +kernel
theorem dX9_canGo_110 : decode cX9_canGo 110 = .ok (.iload 7, 2) := by decide +kernel
theorem dX9_canGo_112 : decode cX9_canGo 112 = .ok (.ifCond .eq 7, 3) := by decide +kernel
theorem dX9_canGo_115 : decode cX9_canGo 115 = .ok (.iconst 1, 1) := by decide +kernel
theorem dX9_canGo_116 : decode cX9_canGo 116 = .ok (.goto 4, 3) := by decide +kernel
theorem dX9_canGo_119 : decode cX9_canGo 119 = .ok (.iconst 0, 1) := by decide +kernel
theorem dX9_canGo_120 : decode cX9_canGo 120 = .ok (.isub, 1) := by decide +kernel
theorem dX9_canGo_121 : decode cX9_canGo 121 = .ok (.istore 5, 2) := by decide +kernel
theorem dX9_canGo_123 : decode cX9_canGo 123 = .ok (.iinc 6 1, 3) := by decide +kernel
theorem dX9_canGo_126 : decode cX9_canGo 126 = .ok (.goto (-99), 3) := by decide +kernel
theorem dX9_canGo_129 : decode cX9_canGo 129 = .ok (.iload_n 3, 1) := by decide +kernel
theorem dX9_canGo_130 : decode cX9_canGo 130 = .ok (.iload_n 2, 1) := by decide +kernel
theorem dX9_canGo_131 : decode cX9_canGo 131 = .ok (.if_icmp .eq 51, 3) := by decide +kernel
theorem dX9_canGo_134 : decode cX9_canGo 134 = .ok (.aload_n 0, 1) := by decide +kernel
theorem dX9_canGo_135 : decode cX9_canGo 135 = .ok (.getfield 23, 3) := by decide +kernel
theorem dX9_canGo_138 : decode cX9_canGo 138 = .ok (.iload 4, 2) := by decide +kernel
theorem dX9_canGo_140 : decode cX9_canGo 140 = .ok (.iaload, 1) := by decide +kernel
theorem dX9_canGo_141 : decode cX9_canGo 141 = .ok (.ifCond .le 41, 3) := by decide +kernel
theorem dX9_canGo_144 : decode cX9_canGo 144 = .ok (.aload_n 0, 1) := by decide +kernel
theorem dX9_canGo_145 : decode cX9_canGo 145 = .ok (.getfield 62, 3) := by decide +kernel
theorem dX9_canGo_148 : decode cX9_canGo 148 = .ok (.iload 4, 2) := by decide +kernel
theorem dX9_canGo_150 : decode cX9_canGo 150 = .ok (.iaload, 1) := by decide +kernel
theorem dX9_canGo_151 : decode cX9_canGo 151 = .ok (.iload 5, 2) := by decide +kernel
theorem dX9_canGo_153 : decode cX9_canGo 153 = .ok (.if_icmp .lt 25, 3) := by decide +kernel
theorem dX9_canGo_156 : decode cX9_canGo 156 = .ok (.aload_n 0, 1) := by decide +kernel
theorem dX9_canGo_157 : decode cX9_canGo 157 = .ok (.getfield 131, 3) := by decide +kernel
theorem dX9_canGo_160 : decode cX9_canGo 160 = .ok (.iload 4, 2) := by decide +kernel
theorem dX9_canGo_162 : decode cX9_canGo 162 = .ok (.if_icmp .eq 16, 3) := by decide +kernel
theorem dX9_canGo_165 : decode cX9_canGo 165 = .ok (.aload_n 0, 1) := by decide +kernel
theorem dX9_canGo_166 : decode cX9_canGo 166 = .ok (.getfield 131, 3) := by decide +kernel
theorem dX9_canGo_169 : decode cX9_canGo 169 = .ok (.bipush 6, 2) := by decide +kernel
theorem dX9_canGo_171 : decode cX9_canGo 171 = .ok (.iload_n 2, 1) := by decide +kernel
theorem dX9_canGo_172 : decode cX9_canGo 172 = .ok (.imul, 1) := by decide +kernel
theorem dX9_canGo_173 : decode cX9_canGo 173 = .ok (.iload_n 3, 1) := by decide +kernel
theorem dX9_canGo_174 : decode cX9_canGo 174 = .ok (.iadd, 1) := by decide +kernel
theorem dX9_canGo_175 : decode cX9_canGo 175 = .ok (.if_icmp .ne 7, 3) := by decide +kernel
theorem dX9_canGo_178 : decode cX9_canGo 178 = .ok (.iconst 1, 1) := by decide +kernel
theorem dX9_canGo_179 : decode cX9_canGo 179 = .ok (.goto 4, 3) := by decide +kernel
theorem dX9_canGo_182 : decode cX9_canGo 182 = .ok (.iconst 0, 1) := by decide +kernel
theorem dX9_canGo_183 : decode cX9_canGo 183 = .ok (.istore 6, 2) := by decide +kernel
theorem dX9_canGo_185 : decode cX9_canGo 185 = .ok (.iload 6, 2) := by decide +kernel
theorem dX9_canGo_187 : decode cX9_canGo 187 = .ok (.ifCond .eq 23, 3) := by decide +kernel
theorem dX9_canGo_190 : decode cX9_canGo 190 = .ok (.aload_n 0, 1) := by decide +kernel
theorem dX9_canGo_191 : decode cX9_canGo 191 = .ok (.iload_n 2, 1) := by decide +kernel
theorem dX9_canGo_192 : decode cX9_canGo 192 = .ok (.bipush (-6), 2) := by decide +kernel
theorem dX9_canGo_194 : decode cX9_canGo 194 = .ok (.invokevirtual 134, 3) := by decide +kernel
theorem dX9_canGo_197 : decode cX9_canGo 197 = .ok (.aload_n 0, 1) := by decide +kernel
theorem dX9_canGo_198 : decode cX9_canGo 198 = .ok (.getfield 17, 3) := by decide +kernel
theorem dX9_canGo_201 : decode cX9_canGo 201 = .ok (.iload_n 2, 1) := by decide +kernel
theorem dX9_canGo_202 : decode cX9_canGo 202 = .ok (.iaload, 1) := by decide +kernel
theorem dX9_canGo_203 : decode cX9_canGo 203 = .ok (.if_icmp .ge 7, 3) := by decide +kernel
theorem dX9_canGo_206 : decode cX9_canGo 206 = .ok (.iconst 1, 1) := by decide +kernel
theorem dX9_canGo_207 : decode cX9_canGo 207 = .ok (.goto 4, 3) := by decide +kernel
theorem dX9_canGo_210 : decode cX9_canGo 210 = .ok (.iconst 0, 1) := by decide +kernel
theorem dX9_canGo_211 : decode cX9_canGo 211 = .ok (.ireturn, 1) := by decide +kernel
theorem dX9_goal_0 : decode cX9_goal 0 = .ok (.aload_n 0, 1) := by decide +kernel
theorem dX9_goal_1 : decode cX9_goal 1 = .ok (.getfield 47, 3) := by decide +kernel
theorem dX9_goal_4 : decode cX9_goal 4 = .ok (.iload_n 1, 1) := by decide +kernel
theorem dX9_goal_5 : decode cX9_goal 5 = .ok (.iaload, 1) := by decide +kernel
theorem dX9_goal_6 : decode cX9_goal 6 = .ok (.istore 4, 2) := by decide +kernel
theorem dX9_goal_8 : decode cX9_goal 8 = .ok (.aload_n 0, 1) := by decide +kernel
theorem dX9_goal_9 : decode cX9_goal 9 = .ok (.iload_n 1, 1) := by decide +kernel
theorem dX9_goal_10 : decode cX9_goal 10 = .ok (.iload 4, 2) := by decide +kernel
theorem dX9_goal_12 : decode cX9_goal 12 = .ok (.iload_n 2, 1) := by decide +kernel
theorem dX9_goal_13 : decode cX9_goal 13 = .ok (.iload_n 3, 1) := by decide +kernel
theorem dX9_goal_14 : decode cX9_goal 14 = .ok (.invokevirtual 138, 3) := by decide +kernel
theorem dX9_goal_17 : decode cX9_goal 17 = .ok (.istore 5, 2) := by decide +kernel
theorem dX9_goal_19 : decode cX9_goal 19 = .ok (.iconst 0, 1) := by decide +kernel
theorem dX9_goal_20 : decode cX9_goal 20 = .ok (.istore 6, 2) := by decide +kernel
theorem dX9_goal_22 : decode cX9_goal 22 = .ok (.iload 6, 2) := by decide +kernel
theorem dX9_goal_24 : decode cX9_goal 24 = .ok (.aload_n 0, 1) := by decide +kernel
theorem dX9_goal_25 : decode cX9_goal 25 = .ok (.getfield 7, 3) := by decide +kernel
theorem dX9_goal_28 : decode cX9_goal 28 = .ok (.if_icmp .ge 45, 3) := by decide +kernel
theorem dX9_goal_31 : decode cX9_goal 31 = .ok (.aload_n 0, 1) := by decide +kernel
theorem dX9_goal_32 : decode cX9_goal 32 = .ok (.iload_n 1, 1) := by decide +kernel
theorem dX9_goal_33 : decode cX9_goal 33 = .ok (.iload 6, 2) := by decide +kernel
theorem dX9_goal_35 : decode cX9_goal 35 = .ok (.iload_n 2, 1) := by decide +kernel
theorem dX9_goal_36 : decode cX9_goal 36 = .ok (.iload_n 3, 1) := by decide +kernel
theorem dX9_goal_37 : decode cX9_goal 37 = .ok (.invokevirtual 138, 3) := by decide +kernel
theorem dX9_goal_40 : decode cX9_goal 40 = .ok (.istore 7, 2) := by decide +kernel
theorem dX9_goal_42 : decode cX9_goal 42 = .ok (.iload 7, 2) := by decide +kernel
theorem dX9_goal_44 : decode cX9_goal 44 = .ok (.iload 5, 2) := by decide +kernel
theorem dX9_goal_46 : decode cX9_goal 46 = .ok (.if_icmp .le 21, 3) := by decide +kernel
theorem dX9_goal_49 : decode cX9_goal 49 = .ok (.aload_n 0, 1) := by decide +kernel
theorem dX9_goal_50 : decode cX9_goal 50 = .ok (.iload_n 1, 1) := by decide +kernel
theorem dX9_goal_51 : decode cX9_goal 51 = .ok (.iload 6, 2) := by decide +kernel
theorem dX9_goal_53 : decode cX9_goal 53 = .ok (.invokevirtual 142, 3) := by decide +kernel
theorem dX9_goal_56 : decode cX9_goal 56 = .ok (.ifCond .eq 11, 3) := by decide +kernel
theorem dX9_goal_59 : decode cX9_goal 59 = .ok (.iload 6, 2) := by decide +kernel
theorem dX9_goal_61 : decode cX9_goal 61 = .ok (.istore 4, 2) := by decide +kernel
theorem dX9_goal_63 : decode cX9_goal 63 = .ok (.iload 7, 2) := by decide +kernel
theorem dX9_goal_65 : decode cX9_goal 65 = .ok (.istore 5, 2) := by decide +kernel
theorem dX9_goal_67 : decode cX9_goal 67 = .ok (.iinc 6 1, 3) := by decide +kernel
theorem dX9_goal_70 : decode cX9_goal 70 = .ok (.goto (-48), 3) := by decide +kernel
theorem dX9_goal_73 : decode cX9_goal 73 = .ok (.iload 4, 2) := by decide +kernel
theorem dX9_goal_75 : decode cX9_goal 75 = .ok (.ireturn, 1) := by decide +kernel
theorem dX9_shut_0 : decode cX9_shut 0 = .ok (.iconst 0, 1) := by decide +kernel
theorem dX9_shut_1 : decode cX9_shut 1 = .ok (.istore_n 1, 1) := by decide +kernel
theorem dX9_shut_2 : decode cX9_shut 2 = .ok (.iload_n 1, 1) := by decide +kernel
theorem dX9_shut_3 : decode cX9_shut 3 = .ok (.bipush 36, 2) := by decide +kernel
theorem dX9_shut_5 : decode cX9_shut 5 = .ok (.if_icmp .ge 16, 3) := by decide +kernel
theorem dX9_shut_8 : decode cX9_shut 8 = .ok (.aload_n 0, 1) := by decide +kernel
theorem dX9_shut_9 : decode cX9_shut 9 = .ok (.getfield 62, 3) := by decide +kernel
theorem dX9_shut_12 : decode cX9_shut 12 = .ok (.iload_n 1, 1) := by decide +kernel
theorem dX9_shut_13 : decode cX9_shut 13 = .ok (.iconst 0, 1) := by decide +kernel
theorem dX9_shut_14 : decode cX9_shut 14 = .ok (.iastore, 1) := by decide +kernel
end
section
theorem dX9_shut_15 : decode cX9_shut 15 = .ok (.iinc 1 1, 3) := by decide +kernel
theorem dX9_shut_18 : decode cX9_shut 18 = .ok (.goto (-16), 3) := by decide +kernel
theorem dX9_shut_21 : decode cX9_shut 21 = .ok (.return_, 1) := by decide +kernel
theorem dX9_pass_0 : decode cX9_pass 0 = .ok (.aload_n 0, 1) := by decide +kernel
theorem dX9_pass_1 : decode cX9_pass 1 = .ok (.invokevirtual 145, 3) := by decide +kernel
theorem dX9_pass_4 : decode cX9_pass 4 = .ok (.iconst 0, 1) := by decide +kernel
theorem dX9_pass_5 : decode cX9_pass 5 = .ok (.istore_n 1, 1) := by decide +kernel
theorem dX9_pass_6 : decode cX9_pass 6 = .ok (.iconst 0, 1) := by decide +kernel
theorem dX9_pass_7 : decode cX9_pass 7 = .ok (.istore_n 2, 1) := by decide +kernel
theorem dX9_pass_8 : decode cX9_pass 8 = .ok (.iload_n 2, 1) := by decide +kernel
theorem dX9_pass_9 : decode cX9_pass 9 = .ok (.bipush 8, 2) := by decide +kernel
theorem dX9_pass_11 : decode cX9_pass 11 = .ok (.if_icmp .ge 95, 3) := by decide +kernel
theorem dX9_pass_14 : decode cX9_pass 14 = .ok (.aload_n 0, 1) := by decide +kernel
theorem dX9_pass_15 : decode cX9_pass 15 = .ok (.getfield 88, 3) := by decide +kernel
theorem dX9_pass_18 : decode cX9_pass 18 = .ok (.iload_n 2, 1) := by decide +kernel
theorem dX9_pass_19 : decode cX9_pass 19 = .ok (.invokestatic 98, 3) := by decide +kernel
theorem dX9_pass_22 : decode cX9_pass 22 = .ok (.ifCond .eq 78, 3) := by decide +kernel
theorem dX9_pass_25 : decode cX9_pass 25 = .ok (.aload_n 0, 1) := by decide +kernel
theorem dX9_pass_26 : decode cX9_pass 26 = .ok (.getfield 50, 3) := by decide +kernel
theorem dX9_pass_29 : decode cX9_pass 29 = .ok (.iload_n 2, 1) := by decide +kernel
theorem dX9_pass_30 : decode cX9_pass 30 = .ok (.iaload, 1) := by decide +kernel
theorem dX9_pass_31 : decode cX9_pass 31 = .ok (.ifCond .ne 69, 3) := by decide +kernel
theorem dX9_pass_34 : decode cX9_pass 34 = .ok (.aload_n 0, 1) := by decide +kernel
theorem dX9_pass_35 : decode cX9_pass 35 = .ok (.getfield 47, 3) := by decide +kernel
theorem dX9_pass_38 : decode cX9_pass 38 = .ok (.iload_n 2, 1) := by decide +kernel
theorem dX9_pass_39 : decode cX9_pass 39 = .ok (.iaload, 1) := by decide +kernel
theorem dX9_pass_40 : decode cX9_pass 40 = .ok (.istore_n 3, 1) := by decide +kernel
theorem dX9_pass_41 : decode cX9_pass 41 = .ok (.aload_n 0, 1) := by decide +kernel
theorem dX9_pass_42 : decode cX9_pass 42 = .ok (.iload_n 2, 1) := by decide +kernel
theorem dX9_pass_43 : decode cX9_pass 43 = .ok (.bipush (-6), 2) := by decide +kernel
theorem dX9_pass_45 : decode cX9_pass 45 = .ok (.iconst 0, 1) := by decide +kernel
theorem dX9_pass_46 : decode cX9_pass 46 = .ok (.invokevirtual 148, 3) := by decide +kernel
theorem dX9_pass_49 : decode cX9_pass 49 = .ok (.istore 4, 2) := by decide +kernel
theorem dX9_pass_51 : decode cX9_pass 51 = .ok (.iload 4, 2) := by decide +kernel
theorem dX9_pass_53 : decode cX9_pass 53 = .ok (.iload_n 3, 1) := by decide +kernel
theorem dX9_pass_54 : decode cX9_pass 54 = .ok (.if_icmp .eq 46, 3) := by decide +kernel
theorem dX9_pass_57 : decode cX9_pass 57 = .ok (.aload_n 0, 1) := by decide +kernel
theorem dX9_pass_58 : decode cX9_pass 58 = .ok (.getfield 62, 3) := by decide +kernel
theorem dX9_pass_61 : decode cX9_pass 61 = .ok (.bipush 6, 2) := by decide +kernel
theorem dX9_pass_63 : decode cX9_pass 63 = .ok (.iload_n 3, 1) := by decide +kernel
theorem dX9_pass_64 : decode cX9_pass 64 = .ok (.imul, 1) := by decide +kernel
theorem dX9_pass_65 : decode cX9_pass 65 = .ok (.iload 4, 2) := by decide +kernel
theorem dX9_pass_67 : decode cX9_pass 67 = .ok (.iadd, 1) := by decide +kernel
theorem dX9_pass_68 : decode cX9_pass 68 = .ok (.dup2, 1) := by decide +kernel
theorem dX9_pass_69 : decode cX9_pass 69 = .ok (.iaload, 1) := by decide +kernel
theorem dX9_pass_70 : decode cX9_pass 70 = .ok (.iconst 1, 1) := by decide +kernel
theorem dX9_pass_71 : decode cX9_pass 71 = .ok (.iadd, 1) := by decide +kernel
theorem dX9_pass_72 : decode cX9_pass 72 = .ok (.iastore, 1) := by decide +kernel
theorem dX9_pass_73 : decode cX9_pass 73 = .ok (.aload_n 0, 1) := by decide +kernel
theorem dX9_pass_74 : decode cX9_pass 74 = .ok (.getfield 62, 3) := by decide +kernel
theorem dX9_pass_77 : decode cX9_pass 77 = .ok (.bipush 6, 2) := by decide +kernel
theorem dX9_pass_79 : decode cX9_pass 79 = .ok (.iload 4, 2) := by decide +kernel
theorem dX9_pass_81 : decode cX9_pass 81 = .ok (.imul, 1) := by decide +kernel
theorem dX9_pass_82 : decode cX9_pass 82 = .ok (.iload_n 3, 1) := by decide +kernel
theorem dX9_pass_83 : decode cX9_pass 83 = .ok (.iadd, 1) := by decide +kernel
theorem dX9_pass_84 : decode cX9_pass 84 = .ok (.dup2, 1) := by decide +kernel
theorem dX9_pass_85 : decode cX9_pass 85 = .ok (.iaload, 1) := by decide +kernel
theorem dX9_pass_86 : decode cX9_pass 86 = .ok (.iconst 1, 1) := by decide +kernel
theorem dX9_pass_87 : decode cX9_pass 87 = .ok (.iadd, 1) := by decide +kernel
theorem dX9_pass_88 : decode cX9_pass 88 = .ok (.iastore, 1) := by decide +kernel
theorem dX9_pass_89 : decode cX9_pass 89 = .ok (.aload_n 0, 1) := by decide +kernel
theorem dX9_pass_90 : decode cX9_pass 90 = .ok (.getfield 47, 3) := by decide +kernel
theorem dX9_pass_93 : decode cX9_pass 93 = .ok (.iload_n 2, 1) := by decide +kernel
theorem dX9_pass_94 : decode cX9_pass 94 = .ok (.iload 4, 2) := by decide +kernel
theorem dX9_pass_96 : decode cX9_pass 96 = .ok (.iastore, 1) := by decide +kernel
theorem dX9_pass_97 : decode cX9_pass 97 = .ok (.iinc 1 1, 3) := by decide +kernel
theorem dX9_pass_100 : decode cX9_pass 100 = .ok (.iinc 2 1, 3) := by decide +kernel
theorem dX9_pass_103 : decode cX9_pass 103 = .ok (.goto (-95), 3) := by decide +kernel
theorem dX9_pass_106 : decode cX9_pass 106 = .ok (.iconst 0, 1) := by decide +kernel
theorem dX9_pass_107 : decode cX9_pass 107 = .ok (.istore_n 2, 1) := by decide +kernel
theorem dX9_pass_108 : decode cX9_pass 108 = .ok (.iload_n 2, 1) := by decide +kernel
theorem dX9_pass_109 : decode cX9_pass 109 = .ok (.bipush 8, 2) := by decide +kernel
theorem dX9_pass_111 : decode cX9_pass 111 = .ok (.if_icmp .ge 60, 3) := by decide +kernel
theorem dX9_pass_114 : decode cX9_pass 114 = .ok (.aload_n 0, 1) := by decide +kernel
theorem dX9_pass_115 : decode cX9_pass 115 = .ok (.getfield 88, 3) := by decide +kernel
theorem dX9_pass_118 : decode cX9_pass 118 = .ok (.iload_n 2, 1) := by decide +kernel
theorem dX9_pass_119 : decode cX9_pass 119 = .ok (.invokestatic 98, 3) := by decide +kernel
theorem dX9_pass_122 : decode cX9_pass 122 = .ok (.ifCond .eq 43, 3) := by decide +kernel
theorem dX9_pass_125 : decode cX9_pass 125 = .ok (.aload_n 0, 1) := by decide +kernel
theorem dX9_pass_126 : decode cX9_pass 126 = .ok (.getfield 50, 3) := by decide +kernel
theorem dX9_pass_129 : decode cX9_pass 129 = .ok (.iload_n 2, 1) := by decide +kernel
theorem dX9_pass_130 : decode cX9_pass 130 = .ok (.iaload, 1) := by decide +kernel
theorem dX9_pass_131 : decode cX9_pass 131 = .ok (.iconst 1, 1) := by decide +kernel
theorem dX9_pass_132 : decode cX9_pass 132 = .ok (.if_icmp .ne 33, 3) := by decide +kernel
theorem dX9_pass_135 : decode cX9_pass 135 = .ok (.aload_n 0, 1) := by decide +kernel
theorem dX9_pass_136 : decode cX9_pass 136 = .ok (.getfield 56, 3) := by decide +kernel
theorem dX9_pass_139 : decode cX9_pass 139 = .ok (.iload_n 2, 1) := by decide +kernel
theorem dX9_pass_140 : decode cX9_pass 140 = .ok (.dup2, 1) := by decide +kernel
theorem dX9_pass_141 : decode cX9_pass 141 = .ok (.iaload, 1) := by decide +kernel
theorem dX9_pass_142 : decode cX9_pass 142 = .ok (.iconst 1, 1) := by decide +kernel
theorem dX9_pass_143 : decode cX9_pass 143 = .ok (.isub, 1) := by decide +kernel
theorem dX9_pass_144 : decode cX9_pass 144 = .ok (.iastore, 1) := by decide +kernel
theorem dX9_pass_145 : decode cX9_pass 145 = .ok (.aload_n 0, 1) := by decide +kernel
theorem dX9_pass_146 : decode cX9_pass 146 = .ok (.getfield 50, 3) := by decide +kernel
theorem dX9_pass_149 : decode cX9_pass 149 = .ok (.iload_n 2, 1) := by decide +kernel
theorem dX9_pass_150 : decode cX9_pass 150 = .ok (.aload_n 0, 1) := by decide +kernel
theorem dX9_pass_151 : decode cX9_pass 151 = .ok (.getfield 56, 3) := by decide +kernel
theorem dX9_pass_154 : decode cX9_pass 154 = .ok (.iload_n 2, 1) := by decide +kernel
theorem dX9_pass_155 : decode cX9_pass 155 = .ok (.iaload, 1) := by decide +kernel
theorem dX9_pass_156 : decode cX9_pass 156 = .ok (.ifCond .ne 7, 3) := by decide +kernel
theorem dX9_pass_159 : decode cX9_pass 159 = .ok (.iconst 0, 1) := by decide +kernel
theorem dX9_pass_160 : decode cX9_pass 160 = .ok (.goto 4, 3) := by decide +kernel
theorem dX9_pass_163 : decode cX9_pass 163 = .ok (.iconst 1, 1) := by decide +kernel
theorem dX9_pass_164 : decode cX9_pass 164 = .ok (.iastore, 1) := by decide +kernel
theorem dX9_pass_165 : decode cX9_pass 165 = .ok (.iinc 2 1, 3) := by decide +kernel
theorem dX9_pass_168 : decode cX9_pass 168 = .ok (.goto (-60), 3) := by decide +kernel
theorem dX9_pass_171 : decode cX9_pass 171 = .ok (.iload_n 1, 1) := by decide +kernel
theorem dX9_pass_172 : decode cX9_pass 172 = .ok (.ireturn, 1) := by decide +kernel
theorem dX9_isBusy_0 : decode cX9_isBusy 0 = .ok (.aload_n 0, 1) := by decide +kernel
theorem dX9_isBusy_1 : decode cX9_isBusy 1 = .ok (.getfield 50, 3) := by decide +kernel
theorem dX9_isBusy_4 : decode cX9_isBusy 4 = .ok (.iload_n 1, 1) := by decide +kernel
theorem dX9_isBusy_5 : decode cX9_isBusy 5 = .ok (.iaload, 1) := by decide +kernel
theorem dX9_isBusy_6 : decode cX9_isBusy 6 = .ok (.ifCond .le 7, 3) := by decide +kernel
theorem dX9_isBusy_9 : decode cX9_isBusy 9 = .ok (.iconst 1, 1) := by decide +kernel
theorem dX9_isBusy_10 : decode cX9_isBusy 10 = .ok (.goto 4, 3) := by decide +kernel
theorem dX9_isBusy_13 : decode cX9_isBusy 13 = .ok (.iconst 0, 1) := by decide +kernel
theorem dX9_isBusy_14 : decode cX9_isBusy 14 = .ok (.ireturn, 1) := by decide +kernel
theorem dX9_whyNotTalk_0 : decode cX9_whyNotTalk 0 = .ok (.aload_n 0, 1) := by decide +kernel
theorem dX9_whyNotTalk_1 : decode cX9_whyNotTalk 1 = .ok (.iload_n 1, 1) := by decide +kernel
theorem dX9_whyNotTalk_2 : decode cX9_whyNotTalk 2 = .ok (.invokevirtual 121, 3) := by decide +kernel
theorem dX9_whyNotTalk_5 : decode cX9_whyNotTalk 5 = .ok (.ifCond .eq 11, 3) := by decide +kernel
theorem dX9_whyNotTalk_8 : decode cX9_whyNotTalk 8 = .ok (.aload_n 0, 1) := by decide +kernel
theorem dX9_whyNotTalk_9 : decode cX9_whyNotTalk 9 = .ok (.iload_n 2, 1) := by decide +kernel
theorem dX9_whyNotTalk_10 : decode cX9_whyNotTalk 10 = .ok (.invokevirtual 121, 3) := by decide +kernel
theorem dX9_whyNotTalk_13 : decode cX9_whyNotTalk 13 = .ok (.ifCond .ne 7, 3) := by decide +kernel
theorem dX9_whyNotTalk_16 : decode cX9_whyNotTalk 16 = .ok (.iconst 1, 1) := by decide +kernel
theorem dX9_whyNotTalk_17 : decode cX9_whyNotTalk 17 = .ok (.goto 43, 3) := by decide +kernel
theorem dX9_whyNotTalk_20 : decode cX9_whyNotTalk 20 = .ok (.aload_n 0, 1) := by decide +kernel
theorem dX9_whyNotTalk_21 : decode cX9_whyNotTalk 21 = .ok (.iload_n 1, 1) := by decide +kernel
theorem dX9_whyNotTalk_22 : decode cX9_whyNotTalk 22 = .ok (.invokevirtual 151, 3) := by decide +kernel
theorem dX9_whyNotTalk_25 : decode cX9_whyNotTalk 25 = .ok (.ifCond .ne 11, 3) := by decide +kernel
theorem dX9_whyNotTalk_28 : decode cX9_whyNotTalk 28 = .ok (.aload_n 0, 1) := by decide +kernel
theorem dX9_whyNotTalk_29 : decode cX9_whyNotTalk 29 = .ok (.iload_n 2, 1) := by decide +kernel
theorem dX9_whyNotTalk_30 : decode cX9_whyNotTalk 30 = .ok (.invokevirtual 151, 3) := by decide +kernel
theorem dX9_whyNotTalk_33 : decode cX9_whyNotTalk 33 = .ok (.ifCond .eq 7, 3) := by decide +kernel
theorem dX9_whyNotTalk_36 : decode cX9_whyNotTalk 36 = .ok (.iconst 2, 1) := by decide +kernel
theorem dX9_whyNotTalk_37 : decode cX9_whyNotTalk 37 = .ok (.goto 23, 3) := by decide +kernel
theorem dX9_whyNotTalk_40 : decode cX9_whyNotTalk 40 = .ok (.aload_n 0, 1) := by decide +kernel
theorem dX9_whyNotTalk_41 : decode cX9_whyNotTalk 41 = .ok (.getfield 47, 3) := by decide +kernel
theorem dX9_whyNotTalk_44 : decode cX9_whyNotTalk 44 = .ok (.iload_n 1, 1) := by decide +kernel
theorem dX9_whyNotTalk_45 : decode cX9_whyNotTalk 45 = .ok (.iaload, 1) := by decide +kernel
theorem dX9_whyNotTalk_46 : decode cX9_whyNotTalk 46 = .ok (.aload_n 0, 1) := by decide +kernel
theorem dX9_whyNotTalk_47 : decode cX9_whyNotTalk 47 = .ok (.getfield 47, 3) := by decide +kernel
theorem dX9_whyNotTalk_50 : decode cX9_whyNotTalk 50 = .ok (.iload_n 2, 1) := by decide +kernel
theorem dX9_whyNotTalk_51 : decode cX9_whyNotTalk 51 = .ok (.iaload, 1) := by decide +kernel
theorem dX9_whyNotTalk_52 : decode cX9_whyNotTalk 52 = .ok (.if_icmp .eq 7, 3) := by decide +kernel
theorem dX9_whyNotTalk_55 : decode cX9_whyNotTalk 55 = .ok (.iconst 3, 1) := by decide +kernel
theorem dX9_whyNotTalk_56 : decode cX9_whyNotTalk 56 = .ok (.goto 4, 3) := by decide +kernel
theorem dX9_whyNotTalk_59 : decode cX9_whyNotTalk 59 = .ok (.iconst 0, 1) := by decide +kernel
theorem dX9_whyNotTalk_60 : decode cX9_whyNotTalk 60 = .ok (.ireturn, 1) := by decide +kernel
theorem dX9_talk_0 : decode cX9_talk 0 = .ok (.aload_n 0, 1) := by decide +kernel
theorem dX9_talk_1 : decode cX9_talk 1 = .ok (.getfield 50, 3) := by decide +kernel
theorem dX9_talk_4 : decode cX9_talk 4 = .ok (.iload_n 1, 1) := by decide +kernel
theorem dX9_talk_5 : decode cX9_talk 5 = .ok (.iconst 1, 1) := by decide +kernel
theorem dX9_talk_6 : decode cX9_talk 6 = .ok (.iastore, 1) := by decide +kernel
theorem dX9_talk_7 : decode cX9_talk 7 = .ok (.aload_n 0, 1) := by decide +kernel
theorem dX9_talk_8 : decode cX9_talk 8 = .ok (.getfield 50, 3) := by decide +kernel
theorem dX9_talk_11 : decode cX9_talk 11 = .ok (.iload_n 2, 1) := by decide +kernel
theorem dX9_talk_12 : decode cX9_talk 12 = .ok (.iconst 1, 1) := by decide +kernel
theorem dX9_talk_13 : decode cX9_talk 13 = .ok (.iastore, 1) := by decide +kernel
theorem dX9_talk_14 : decode cX9_talk 14 = .ok (.aload_n 0, 1) := by decide +kernel
theorem dX9_talk_15 : decode cX9_talk 15 = .ok (.getfield 53, 3) := by decide +kernel
theorem dX9_talk_18 : decode cX9_talk 18 = .ok (.iload_n 1, 1) := by decide +kernel
theorem dX9_talk_19 : decode cX9_talk 19 = .ok (.iload_n 2, 1) := by decide +kernel
theorem dX9_talk_20 : decode cX9_talk 20 = .ok (.iastore, 1) := by decide +kernel
theorem dX9_talk_21 : decode cX9_talk 21 = .ok (.aload_n 0, 1) := by decide +kernel
theorem dX9_talk_22 : decode cX9_talk 22 = .ok (.getfield 53, 3) := by decide +kernel
theorem dX9_talk_25 : decode cX9_talk 25 = .ok (.iload_n 2, 1) := by decide +kernel
theorem dX9_talk_26 : decode cX9_talk 26 = .ok (.iload_n 1, 1) := by decide +kernel
theorem dX9_talk_27 : decode cX9_talk 27 = .ok (.iastore, 1) := by decide +kernel
theorem dX9_talk_28 : decode cX9_talk 28 = .ok (.aload_n 0, 1) := by decide +kernel
theorem dX9_talk_29 : decode cX9_talk 29 = .ok (.getfield 56, 3) := by decide +kernel
theorem dX9_talk_32 : decode cX9_talk 32 = .ok (.iload_n 1, 1) := by decide +kernel
theorem dX9_talk_33 : decode cX9_talk 33 = .ok (.iload_n 3, 1) := by decide +kernel
theorem dX9_talk_34 : decode cX9_talk 34 = .ok (.iastore, 1) := by decide +kernel
theorem dX9_talk_35 : decode cX9_talk 35 = .ok (.aload_n 0, 1) := by decide +kernel
theorem dX9_talk_36 : decode cX9_talk 36 = .ok (.getfield 56, 3) := by decide +kernel
theorem dX9_talk_39 : decode cX9_talk 39 = .ok (.iload_n 2, 1) := by decide +kernel
theorem dX9_talk_40 : decode cX9_talk 40 = .ok (.iload_n 3, 1) := by decide +kernel
theorem dX9_talk_41 : decode cX9_talk 41 = .ok (.iastore, 1) := by decide +kernel
theorem dX9_talk_42 : decode cX9_talk 42 = .ok (.return_, 1) := by decide +kernel
theorem dX9_sittingIn_0 : decode cX9_sittingIn 0 = .ok (.iconst 0, 1) := by decide +kernel
theorem dX9_sittingIn_1 : decode cX9_sittingIn 1 = .ok (.istore_n 2, 1) := by decide +kernel
theorem dX9_sittingIn_2 : decode cX9_sittingIn 2 = .ok (.iconst 0, 1) := by decide +kernel
theorem dX9_sittingIn_3 : decode cX9_sittingIn 3 = .ok (.istore_n 3, 1) := by decide +kernel
theorem dX9_sittingIn_4 : decode cX9_sittingIn 4 = .ok (.iload_n 3, 1) := by decide +kernel
theorem dX9_sittingIn_5 : decode cX9_sittingIn 5 = .ok (.bipush 8, 2) := by decide +kernel
theorem dX9_sittingIn_7 : decode cX9_sittingIn 7 = .ok (.if_icmp .ge 48, 3) := by decide +kernel
theorem dX9_sittingIn_10 : decode cX9_sittingIn 10 = .ok (.iload_n 2, 1) := by decide +kernel
theorem dX9_sittingIn_11 : decode cX9_sittingIn 11 = .ok (.aload_n 0, 1) := by decide +kernel
theorem dX9_sittingIn_12 : decode cX9_sittingIn 12 = .ok (.getfield 88, 3) := by decide +kernel
theorem dX9_sittingIn_15 : decode cX9_sittingIn 15 = .ok (.iload_n 3, 1) := by decide +kernel
theorem dX9_sittingIn_16 : decode cX9_sittingIn 16 = .ok (.invokestatic 98, 3) := by decide +kernel
theorem dX9_sittingIn_19 : decode cX9_sittingIn 19 = .ok (.ifCond .eq 27, 3) := by decide +kernel
theorem dX9_sittingIn_22 : decode cX9_sittingIn 22 = .ok (.aload_n 0, 1) := by decide +kernel
theorem dX9_sittingIn_23 : decode cX9_sittingIn 23 = .ok (.getfield 50, 3) := by decide +kernel
theorem dX9_sittingIn_26 : decode cX9_sittingIn 26 = .ok (.iload_n 3, 1) := by decide +kernel
theorem dX9_sittingIn_27 : decode cX9_sittingIn 27 = .ok (.iaload, 1) := by decide +kernel
theorem dX9_sittingIn_28 : decode cX9_sittingIn 28 = .ok (.iconst 2, 1) := by decide +kernel
theorem dX9_sittingIn_29 : decode cX9_sittingIn 29 = .ok (.if_icmp .ne 17, 3) := by decide +kernel
theorem dX9_sittingIn_32 : decode cX9_sittingIn 32 = .ok (.aload_n 0, 1) := by decide +kernel
theorem dX9_sittingIn_33 : decode cX9_sittingIn 33 = .ok (.getfield 47, 3) := by decide +kernel
theorem dX9_sittingIn_36 : decode cX9_sittingIn 36 = .ok (.iload_n 3, 1) := by decide +kernel
theorem dX9_sittingIn_37 : decode cX9_sittingIn 37 = .ok (.iaload, 1) := by decide +kernel
theorem dX9_sittingIn_38 : decode cX9_sittingIn 38 = .ok (.iload_n 1, 1) := by decide +kernel
theorem dX9_sittingIn_39 : decode cX9_sittingIn 39 = .ok (.if_icmp .ne 7, 3) := by decide +kernel
theorem dX9_sittingIn_42 : decode cX9_sittingIn 42 = .ok (.iconst 1, 1) := by decide +kernel
theorem dX9_sittingIn_43 : decode cX9_sittingIn 43 = .ok (.goto 4, 3) := by decide +kernel
theorem dX9_sittingIn_46 : decode cX9_sittingIn 46 = .ok (.iconst 0, 1) := by decide +kernel
theorem dX9_sittingIn_47 : decode cX9_sittingIn 47 = .ok (.iadd, 1) := by decide +kernel
theorem dX9_sittingIn_48 : decode cX9_sittingIn 48 = .ok (.istore_n 2, 1) := by decide +kernel
theorem dX9_sittingIn_49 : decode cX9_sittingIn 49 = .ok (.iinc 3 1, 3) := by decide +kernel
theorem dX9_sittingIn_52 : decode cX9_sittingIn 52 = .ok (.goto (-48), 3) := by decide +kernel
theorem dX9_sittingIn_55 : decode cX9_sittingIn 55 = .ok (.iload_n 2, 1) := by decide +kernel
theorem dX9_sittingIn_56 : decode cX9_sittingIn 56 = .ok (.ireturn, 1) := by decide +kernel
theorem dX9_whyNotDo_0 : decode cX9_whyNotDo 0 = .ok (.aload_n 0, 1) := by decide +kernel
theorem dX9_whyNotDo_1 : decode cX9_whyNotDo 1 = .ok (.iload_n 1, 1) := by decide +kernel
theorem dX9_whyNotDo_2 : decode cX9_whyNotDo 2 = .ok (.invokevirtual 121, 3) := by decide +kernel
theorem dX9_whyNotDo_5 : decode cX9_whyNotDo 5 = .ok (.ifCond .ne 5, 3) := by decide +kernel
theorem dX9_whyNotDo_8 : decode cX9_whyNotDo 8 = .ok (.iconst 1, 1) := by decide +kernel
theorem dX9_whyNotDo_9 : decode cX9_whyNotDo 9 = .ok (.ireturn, 1) := by decide +kernel
theorem dX9_whyNotDo_10 : decode cX9_whyNotDo 10 = .ok (.aload_n 0, 1) := by decide +kernel
theorem dX9_whyNotDo_11 : decode cX9_whyNotDo 11 = .ok (.iload_n 1, 1) := by decide +kernel
theorem dX9_whyNotDo_12 : decode cX9_whyNotDo 12 = .ok (.invokevirtual 151, 3) := by decide +kernel
theorem dX9_whyNotDo_15 : decode cX9_whyNotDo 15 = .ok (.iload_n 2, 1) := by decide +kernel
theorem dX9_whyNotDo_16 : decode cX9_whyNotDo 16 = .ok (.bipush 94, 2) := by decide +kernel
theorem dX9_whyNotDo_18 : decode cX9_whyNotDo 18 = .ok (.if_icmp .ne 7, 3) := by decide +kernel
theorem dX9_whyNotDo_21 : decode cX9_whyNotDo 21 = .ok (.iconst 1, 1) := by decide +kernel
theorem dX9_whyNotDo_22 : decode cX9_whyNotDo 22 = .ok (.goto 4, 3) := by decide +kernel
theorem dX9_whyNotDo_25 : decode cX9_whyNotDo 25 = .ok (.iconst 0, 1) := by decide +kernel
theorem dX9_whyNotDo_26 : decode cX9_whyNotDo 26 = .ok (.if_icmp .eq 5, 3) := by decide +kernel
theorem dX9_whyNotDo_29 : decode cX9_whyNotDo 29 = .ok (.iconst 2, 1) := by decide +kernel
theorem dX9_whyNotDo_30 : decode cX9_whyNotDo 30 = .ok (.ireturn, 1) := by decide +kernel
theorem dX9_whyNotDo_31 : decode cX9_whyNotDo 31 = .ok (.iload_n 2, 1) := by decide +kernel
theorem dX9_whyNotDo_32 : decode cX9_whyNotDo 32 = .ok (.bipush 95, 2) := by decide +kernel
theorem dX9_whyNotDo_34 : decode cX9_whyNotDo 34 = .ok (.if_icmp .ne 33, 3) := by decide +kernel
theorem dX9_whyNotDo_37 : decode cX9_whyNotDo 37 = .ok (.aload_n 0, 1) := by decide +kernel
theorem dX9_whyNotDo_38 : decode cX9_whyNotDo 38 = .ok (.aload_n 0, 1) := by decide +kernel
theorem dX9_whyNotDo_39 : decode cX9_whyNotDo 39 = .ok (.getfield 47, 3) := by decide +kernel
theorem dX9_whyNotDo_42 : decode cX9_whyNotDo 42 = .ok (.iload_n 1, 1) := by decide +kernel
theorem dX9_whyNotDo_43 : decode cX9_whyNotDo 43 = .ok (.iaload, 1) := by decide +kernel
theorem dX9_whyNotDo_44 : decode cX9_whyNotDo 44 = .ok (.invokevirtual 154, 3) := by decide +kernel
theorem dX9_whyNotDo_47 : decode cX9_whyNotDo 47 = .ok (.aload_n 0, 1) := by decide +kernel
theorem dX9_whyNotDo_48 : decode cX9_whyNotDo 48 = .ok (.getfield 20, 3) := by decide +kernel
theorem dX9_whyNotDo_51 : decode cX9_whyNotDo 51 = .ok (.aload_n 0, 1) := by decide +kernel
theorem dX9_whyNotDo_52 : decode cX9_whyNotDo 52 = .ok (.getfield 47, 3) := by decide +kernel
theorem dX9_whyNotDo_55 : decode cX9_whyNotDo 55 = .ok (.iload_n 1, 1) := by decide +kernel
theorem dX9_whyNotDo_56 : decode cX9_whyNotDo 56 = .ok (.iaload, 1) := by decide +kernel
theorem dX9_whyNotDo_57 : decode cX9_whyNotDo 57 = .ok (.iaload, 1) := by decide +kernel
theorem dX9_whyNotDo_58 : decode cX9_whyNotDo 58 = .ok (.if_icmp .ge 7, 3) := by decide +kernel
theorem dX9_whyNotDo_61 : decode cX9_whyNotDo 61 = .ok (.iconst 0, 1) := by decide +kernel
theorem dX9_whyNotDo_62 : decode cX9_whyNotDo 62 = .ok (.goto 4, 3) := by decide +kernel
theorem dX9_whyNotDo_65 : decode cX9_whyNotDo 65 = .ok (.iconst 4, 1) := by decide +kernel
theorem dX9_whyNotDo_66 : decode cX9_whyNotDo 66 = .ok (.ireturn, 1) := by decide +kernel
theorem dX9_whyNotDo_67 : decode cX9_whyNotDo 67 = .ok (.iload_n 2, 1) := by decide +kernel
theorem dX9_whyNotDo_68 : decode cX9_whyNotDo 68 = .ok (.bipush 94, 2) := by decide +kernel
theorem dX9_whyNotDo_70 : decode cX9_whyNotDo 70 = .ok (.if_icmp .eq 25, 3) := by decide +kernel
theorem dX9_whyNotDo_73 : decode cX9_whyNotDo 73 = .ok (.aload_n 0, 1) := by decide +kernel
theorem dX9_whyNotDo_74 : decode cX9_whyNotDo 74 = .ok (.getfield 23, 3) := by decide +kernel
theorem dX9_whyNotDo_77 : decode cX9_whyNotDo 77 = .ok (.bipush 6, 2) := by decide +kernel
theorem dX9_whyNotDo_79 : decode cX9_whyNotDo 79 = .ok (.aload_n 0, 1) := by decide +kernel
theorem dX9_whyNotDo_80 : decode cX9_whyNotDo 80 = .ok (.getfield 47, 3) := by decide +kernel
theorem dX9_whyNotDo_83 : decode cX9_whyNotDo 83 = .ok (.iload_n 1, 1) := by decide +kernel
theorem dX9_whyNotDo_84 : decode cX9_whyNotDo 84 = .ok (.iaload, 1) := by decide +kernel
theorem dX9_whyNotDo_85 : decode cX9_whyNotDo 85 = .ok (.imul, 1) := by decide +kernel
theorem dX9_whyNotDo_86 : decode cX9_whyNotDo 86 = .ok (.iload_n 2, 1) := by decide +kernel
theorem dX9_whyNotDo_87 : decode cX9_whyNotDo 87 = .ok (.iadd, 1) := by decide +kernel
theorem dX9_whyNotDo_88 : decode cX9_whyNotDo 88 = .ok (.bipush 97, 2) := by decide +kernel
theorem dX9_whyNotDo_90 : decode cX9_whyNotDo 90 = .ok (.isub, 1) := by decide +kernel
theorem dX9_whyNotDo_91 : decode cX9_whyNotDo 91 = .ok (.iaload, 1) := by decide +kernel
theorem dX9_whyNotDo_92 : decode cX9_whyNotDo 92 = .ok (.ifCond .le 7, 3) := by decide +kernel
theorem dX9_whyNotDo_95 : decode cX9_whyNotDo 95 = .ok (.iconst 0, 1) := by decide +kernel
theorem dX9_whyNotDo_96 : decode cX9_whyNotDo 96 = .ok (.goto 4, 3) := by decide +kernel
theorem dX9_whyNotDo_99 : decode cX9_whyNotDo 99 = .ok (.iconst 5, 1) := by decide +kernel
theorem dX9_whyNotDo_100 : decode cX9_whyNotDo 100 = .ok (.ireturn, 1) := by decide +kernel
theorem dX9_act_0 : decode cX9_act 0 = .ok (.iload_n 2, 1) := by decide +kernel
theorem dX9_act_1 : decode cX9_act 1 = .ok (.bipush 94, 2) := by decide +kernel
theorem dX9_act_3 : decode cX9_act 3 = .ok (.if_icmp .ne 55, 3) := by decide +kernel
theorem dX9_act_6 : decode cX9_act 6 = .ok (.aload_n 0, 1) := by decide +kernel
theorem dX9_act_7 : decode cX9_act 7 = .ok (.getfield 50, 3) := by decide +kernel
theorem dX9_act_10 : decode cX9_act 10 = .ok (.iload_n 1, 1) := by decide +kernel
theorem dX9_act_11 : decode cX9_act 11 = .ok (.iaload, 1) := by decide +kernel
theorem dX9_act_12 : decode cX9_act 12 = .ok (.iconst 1, 1) := by decide +kernel
theorem dX9_act_13 : decode cX9_act 13 = .ok (.if_icmp .ne 12, 3) := by decide +kernel
theorem dX9_act_16 : decode cX9_act 16 = .ok (.aload_n 0, 1) := by decide +kernel
theorem dX9_act_17 : decode cX9_act 17 = .ok (.getfield 53, 3) := by decide +kernel
theorem dX9_act_20 : decode cX9_act 20 = .ok (.iload_n 1, 1) := by decide +kernel
theorem dX9_act_21 : decode cX9_act 21 = .ok (.iaload, 1) := by decide +kernel
theorem dX9_act_22 : decode cX9_act 22 = .ok (.goto 4, 3) := by decide +kernel
theorem dX9_act_25 : decode cX9_act 25 = .ok (.iload_n 1, 1) := by decide +kernel
theorem dX9_act_26 : decode cX9_act 26 = .ok (.istore_n 3, 1) := by decide +kernel
theorem dX9_act_27 : decode cX9_act 27 = .ok (.aload_n 0, 1) := by decide +kernel
theorem dX9_act_28 : decode cX9_act 28 = .ok (.getfield 50, 3) := by decide +kernel
theorem dX9_act_31 : decode cX9_act 31 = .ok (.iload_n 3, 1) := by decide +kernel
theorem dX9_act_32 : decode cX9_act 32 = .ok (.iconst 0, 1) := by decide +kernel
theorem dX9_act_33 : decode cX9_act 33 = .ok (.iastore, 1) := by decide +kernel
theorem dX9_act_34 : decode cX9_act 34 = .ok (.aload_n 0, 1) := by decide +kernel
theorem dX9_act_35 : decode cX9_act 35 = .ok (.getfield 56, 3) := by decide +kernel
theorem dX9_act_38 : decode cX9_act 38 = .ok (.iload_n 3, 1) := by decide +kernel
theorem dX9_act_39 : decode cX9_act 39 = .ok (.iconst 0, 1) := by decide +kernel
theorem dX9_act_40 : decode cX9_act 40 = .ok (.iastore, 1) := by decide +kernel
theorem dX9_act_41 : decode cX9_act 41 = .ok (.aload_n 0, 1) := by decide +kernel
theorem dX9_act_42 : decode cX9_act 42 = .ok (.getfield 50, 3) := by decide +kernel
theorem dX9_act_45 : decode cX9_act 45 = .ok (.iload_n 1, 1) := by decide +kernel
theorem dX9_act_46 : decode cX9_act 46 = .ok (.iconst 0, 1) := by decide +kernel
theorem dX9_act_47 : decode cX9_act 47 = .ok (.iastore, 1) := by decide +kernel
theorem dX9_act_48 : decode cX9_act 48 = .ok (.aload_n 0, 1) := by decide +kernel
theorem dX9_act_49 : decode cX9_act 49 = .ok (.getfield 56, 3) := by decide +kernel
theorem dX9_act_52 : decode cX9_act 52 = .ok (.iload_n 1, 1) := by decide +kernel
theorem dX9_act_53 : decode cX9_act 53 = .ok (.iconst 0, 1) := by decide +kernel
theorem dX9_act_54 : decode cX9_act 54 = .ok (.iastore, 1) := by decide +kernel
theorem dX9_act_55 : decode cX9_act 55 = .ok (.goto 41, 3) := by decide +kernel
theorem dX9_act_58 : decode cX9_act 58 = .ok (.aload_n 0, 1) := by decide +kernel
theorem dX9_act_59 : decode cX9_act 59 = .ok (.getfield 50, 3) := by decide +kernel
theorem dX9_act_62 : decode cX9_act 62 = .ok (.iload_n 1, 1) := by decide +kernel
theorem dX9_act_63 : decode cX9_act 63 = .ok (.iload_n 2, 1) := by decide +kernel
theorem dX9_act_64 : decode cX9_act 64 = .ok (.bipush 95, 2) := by decide +kernel
theorem dX9_act_66 : decode cX9_act 66 = .ok (.if_icmp .ne 7, 3) := by decide +kernel
theorem dX9_act_69 : decode cX9_act 69 = .ok (.iconst 2, 1) := by decide +kernel
theorem dX9_act_70 : decode cX9_act 70 = .ok (.goto 4, 3) := by decide +kernel
theorem dX9_act_73 : decode cX9_act 73 = .ok (.iconst 3, 1) := by decide +kernel
theorem dX9_act_74 : decode cX9_act 74 = .ok (.iastore, 1) := by decide +kernel
theorem dX9_act_75 : decode cX9_act 75 = .ok (.aload_n 0, 1) := by decide +kernel
theorem dX9_act_76 : decode cX9_act 76 = .ok (.getfield 53, 3) := by decide +kernel
theorem dX9_act_79 : decode cX9_act 79 = .ok (.iload_n 1, 1) := by decide +kernel
theorem dX9_act_80 : decode cX9_act 80 = .ok (.iload_n 2, 1) := by decide +kernel
theorem dX9_act_81 : decode cX9_act 81 = .ok (.bipush 95, 2) := by decide +kernel
theorem dX9_act_83 : decode cX9_act 83 = .ok (.if_icmp .ne 8, 3) := by decide +kernel
theorem dX9_act_86 : decode cX9_act 86 = .ok (.bipush (-6), 2) := by decide +kernel
theorem dX9_act_88 : decode cX9_act 88 = .ok (.goto 7, 3) := by decide +kernel
theorem dX9_act_91 : decode cX9_act 91 = .ok (.iload_n 2, 1) := by decide +kernel
theorem dX9_act_92 : decode cX9_act 92 = .ok (.bipush 97, 2) := by decide +kernel
theorem dX9_act_94 : decode cX9_act 94 = .ok (.isub, 1) := by decide +kernel
theorem dX9_act_95 : decode cX9_act 95 = .ok (.iastore, 1) := by decide +kernel
theorem dX9_act_96 : decode cX9_act 96 = .ok (.return_, 1) := by decide +kernel
theorem dX9_whyNotCarry_0 : decode cX9_whyNotCarry 0 = .ok (.iload_n 1, 1) := by decide +kernel
theorem dX9_whyNotCarry_1 : decode cX9_whyNotCarry 1 = .ok (.iload_n 2, 1) := by decide +kernel
theorem dX9_whyNotCarry_2 : decode cX9_whyNotCarry 2 = .ok (.if_icmp .eq 31, 3) := by decide +kernel
theorem dX9_whyNotCarry_5 : decode cX9_whyNotCarry 5 = .ok (.aload_n 0, 1) := by decide +kernel
theorem dX9_whyNotCarry_6 : decode cX9_whyNotCarry 6 = .ok (.getfield 59, 3) := by decide +kernel
theorem dX9_whyNotCarry_9 : decode cX9_whyNotCarry 9 = .ok (.iconst 4, 1) := by decide +kernel
theorem dX9_whyNotCarry_10 : decode cX9_whyNotCarry 10 = .ok (.iload_n 1, 1) := by decide +kernel
theorem dX9_whyNotCarry_11 : decode cX9_whyNotCarry 11 = .ok (.imul, 1) := by decide +kernel
theorem dX9_whyNotCarry_12 : decode cX9_whyNotCarry 12 = .ok (.iload_n 3, 1) := by decide +kernel
theorem dX9_whyNotCarry_13 : decode cX9_whyNotCarry 13 = .ok (.iadd, 1) := by decide +kernel
theorem dX9_whyNotCarry_14 : decode cX9_whyNotCarry 14 = .ok (.iaload, 1) := by decide +kernel
theorem dX9_whyNotCarry_15 : decode cX9_whyNotCarry 15 = .ok (.ifCond .eq 18, 3) := by decide +kernel
theorem dX9_whyNotCarry_18 : decode cX9_whyNotCarry 18 = .ok (.aload_n 0, 1) := by decide +kernel
theorem dX9_whyNotCarry_19 : decode cX9_whyNotCarry 19 = .ok (.getfield 59, 3) := by decide +kernel
theorem dX9_whyNotCarry_22 : decode cX9_whyNotCarry 22 = .ok (.iconst 4, 1) := by decide +kernel
theorem dX9_whyNotCarry_23 : decode cX9_whyNotCarry 23 = .ok (.iload_n 2, 1) := by decide +kernel
theorem dX9_whyNotCarry_24 : decode cX9_whyNotCarry 24 = .ok (.imul, 1) := by decide +kernel
theorem dX9_whyNotCarry_25 : decode cX9_whyNotCarry 25 = .ok (.iload_n 3, 1) := by decide +kernel
theorem dX9_whyNotCarry_26 : decode cX9_whyNotCarry 26 = .ok (.iadd, 1) := by decide +kernel
theorem dX9_whyNotCarry_27 : decode cX9_whyNotCarry 27 = .ok (.iaload, 1) := by decide +kernel
theorem dX9_whyNotCarry_28 : decode cX9_whyNotCarry 28 = .ok (.bipush 9, 2) := by decide +kernel
theorem dX9_whyNotCarry_30 : decode cX9_whyNotCarry 30 = .ok (.if_icmp .ne 8, 3) := by decide +kernel
theorem dX9_whyNotCarry_33 : decode cX9_whyNotCarry 33 = .ok (.bipush 6, 2) := by decide +kernel
theorem dX9_whyNotCarry_35 : decode cX9_whyNotCarry 35 = .ok (.goto 4, 3) := by decide +kernel
theorem dX9_whyNotCarry_38 : decode cX9_whyNotCarry 38 = .ok (.iconst 0, 1) := by decide +kernel
theorem dX9_whyNotCarry_39 : decode cX9_whyNotCarry 39 = .ok (.ireturn, 1) := by decide +kernel
theorem dX9_carry_0 : decode cX9_carry 0 = .ok (.aload_n 0, 1) := by decide +kernel
theorem dX9_carry_1 : decode cX9_carry 1 = .ok (.getfield 59, 3) := by decide +kernel
theorem dX9_carry_4 : decode cX9_carry 4 = .ok (.iconst 4, 1) := by decide +kernel
theorem dX9_carry_5 : decode cX9_carry 5 = .ok (.iload_n 1, 1) := by decide +kernel
theorem dX9_carry_6 : decode cX9_carry 6 = .ok (.imul, 1) := by decide +kernel
theorem dX9_carry_7 : decode cX9_carry 7 = .ok (.iload_n 3, 1) := by decide +kernel
theorem dX9_carry_8 : decode cX9_carry 8 = .ok (.iadd, 1) := by decide +kernel
theorem dX9_carry_9 : decode cX9_carry 9 = .ok (.dup2, 1) := by decide +kernel
theorem dX9_carry_10 : decode cX9_carry 10 = .ok (.iaload, 1) := by decide +kernel
theorem dX9_carry_11 : decode cX9_carry 11 = .ok (.iconst 1, 1) := by decide +kernel
theorem dX9_carry_12 : decode cX9_carry 12 = .ok (.isub, 1) := by decide +kernel
theorem dX9_carry_13 : decode cX9_carry 13 = .ok (.iastore, 1) := by decide +kernel
theorem dX9_carry_14 : decode cX9_carry 14 = .ok (.aload_n 0, 1) := by decide +kernel
theorem dX9_carry_15 : decode cX9_carry 15 = .ok (.getfield 59, 3) := by decide +kernel
theorem dX9_carry_18 : decode cX9_carry 18 = .ok (.iconst 4, 1) := by decide +kernel
theorem dX9_carry_19 : decode cX9_carry 19 = .ok (.iload_n 2, 1) := by decide +kernel
theorem dX9_carry_20 : decode cX9_carry 20 = .ok (.imul, 1) := by decide +kernel
theorem dX9_carry_21 : decode cX9_carry 21 = .ok (.iload_n 3, 1) := by decide +kernel
theorem dX9_carry_22 : decode cX9_carry 22 = .ok (.iadd, 1) := by decide +kernel
theorem dX9_carry_23 : decode cX9_carry 23 = .ok (.dup2, 1) := by decide +kernel
theorem dX9_carry_24 : decode cX9_carry 24 = .ok (.iaload, 1) := by decide +kernel
theorem dX9_carry_25 : decode cX9_carry 25 = .ok (.iconst 1, 1) := by decide +kernel
theorem dX9_carry_26 : decode cX9_carry 26 = .ok (.iadd, 1) := by decide +kernel
theorem dX9_carry_27 : decode cX9_carry 27 = .ok (.iastore, 1) := by decide +kernel
theorem dX9_carry_28 : decode cX9_carry 28 = .ok (.return_, 1) := by decide +kernel
theorem dX9_goParty_0 : decode cX9_goParty 0 = .ok (.aload_n 0, 1) := by decide +kernel
theorem dX9_goParty_1 : decode cX9_goParty 1 = .ok (.invokevirtual 157, 3) := by decide +kernel
theorem dX9_goParty_4 : decode cX9_goParty 4 = .ok (.aload_n 0, 1) := by decide +kernel
theorem dX9_goParty_5 : decode cX9_goParty 5 = .ok (.iconst 0, 1) := by decide +kernel
theorem dX9_goParty_6 : decode cX9_goParty 6 = .ok (.putfield 160, 3) := by decide +kernel
theorem dX9_goParty_9 : decode cX9_goParty 9 = .ok (.iconst 0, 1) := by decide +kernel
theorem dX9_goParty_10 : decode cX9_goParty 10 = .ok (.istore_n 1, 1) := by decide +kernel
theorem dX9_goParty_11 : decode cX9_goParty 11 = .ok (.iload_n 1, 1) := by decide +kernel
theorem dX9_goParty_12 : decode cX9_goParty 12 = .ok (.aload_n 0, 1) := by decide +kernel
theorem dX9_goParty_13 : decode cX9_goParty 13 = .ok (.getfield 124, 3) := by decide +kernel
theorem dX9_goParty_16 : decode cX9_goParty 16 = .ok (.if_icmp .ge 267, 3) := by decide +kernel
theorem dX9_goParty_19 : decode cX9_goParty 19 = .ok (.aload_n 0, 1) := by decide +kernel
theorem dX9_goParty_20 : decode cX9_goParty 20 = .ok (.getfield 44, 3) := by decide +kernel
theorem dX9_goParty_23 : decode cX9_goParty 23 = .ok (.iload_n 1, 1) := by decide +kernel
theorem dX9_goParty_24 : decode cX9_goParty 24 = .ok (.iaload, 1) := by decide +kernel
theorem dX9_goParty_25 : decode cX9_goParty 25 = .ok (.istore_n 2, 1) := by decide +kernel
theorem dX9_goParty_26 : decode cX9_goParty 26 = .ok (.aload_n 0, 1) := by decide +kernel
theorem dX9_goParty_27 : decode cX9_goParty 27 = .ok (.iconst 0, 1) := by decide +kernel
theorem dX9_goParty_28 : decode cX9_goParty 28 = .ok (.putfield 163, 3) := by decide +kernel
theorem dX9_goParty_31 : decode cX9_goParty 31 = .ok (.iload_n 2, 1) := by decide +kernel
theorem dX9_goParty_32 : decode cX9_goParty 32 = .ok (.bipush 46, 2) := by decide +kernel
theorem dX9_goParty_34 : decode cX9_goParty 34 = .ok (.if_icmp .ne 14, 3) := by decide +kernel
theorem dX9_goParty_37 : decode cX9_goParty 37 = .ok (.aload_n 0, 1) := by decide +kernel
theorem dX9_goParty_38 : decode cX9_goParty 38 = .ok (.invokevirtual 166, 3) := by decide +kernel
theorem dX9_goParty_41 : decode cX9_goParty 41 = .ok (.pop, 1) := by decide +kernel
theorem dX9_goParty_42 : decode cX9_goParty 42 = .ok (.iinc 1 1, 3) := by decide +kernel
theorem dX9_goParty_45 : decode cX9_goParty 45 = .ok (.goto 213, 3) := by decide +kernel
theorem dX9_goParty_48 : decode cX9_goParty 48 = .ok (.iload_n 2, 1) := by decide +kernel
theorem dX9_goParty_49 : decode cX9_goParty 49 = .ok (.bipush 97, 2) := by decide +kernel
theorem dX9_goParty_51 : decode cX9_goParty 51 = .ok (.bipush 102, 2) := by decide +kernel
theorem dX9_goParty_53 : decode cX9_goParty 53 = .ok (.invokestatic 94, 3) := by decide +kernel
theorem dX9_goParty_56 : decode cX9_goParty 56 = .ok (.ifCond .eq 72, 3) := by decide +kernel
theorem dX9_goParty_59 : decode cX9_goParty 59 = .ok (.aload_n 0, 1) := by decide +kernel
theorem dX9_goParty_60 : decode cX9_goParty 60 = .ok (.getfield 44, 3) := by decide +kernel
theorem dX9_goParty_63 : decode cX9_goParty 63 = .ok (.iload_n 1, 1) := by decide +kernel
theorem dX9_goParty_64 : decode cX9_goParty 64 = .ok (.iconst 2, 1) := by decide +kernel
theorem dX9_goParty_65 : decode cX9_goParty 65 = .ok (.iadd, 1) := by decide +kernel
theorem dX9_goParty_66 : decode cX9_goParty 66 = .ok (.iaload, 1) := by decide +kernel
theorem dX9_goParty_67 : decode cX9_goParty 67 = .ok (.bipush 48, 2) := by decide +kernel
theorem dX9_goParty_69 : decode cX9_goParty 69 = .ok (.isub, 1) := by decide +kernel
theorem dX9_goParty_70 : decode cX9_goParty 70 = .ok (.istore_n 3, 1) := by decide +kernel
theorem dX9_goParty_71 : decode cX9_goParty 71 = .ok (.aload_n 0, 1) := by decide +kernel
theorem dX9_goParty_72 : decode cX9_goParty 72 = .ok (.aload_n 0, 1) := by decide +kernel
theorem dX9_goParty_73 : decode cX9_goParty 73 = .ok (.iload_n 2, 1) := by decide +kernel
theorem dX9_goParty_74 : decode cX9_goParty 74 = .ok (.bipush 97, 2) := by decide +kernel
theorem dX9_goParty_76 : decode cX9_goParty 76 = .ok (.isub, 1) := by decide +kernel
theorem dX9_goParty_77 : decode cX9_goParty 77 = .ok (.aload_n 0, 1) := by decide +kernel
theorem dX9_goParty_78 : decode cX9_goParty 78 = .ok (.getfield 44, 3) := by decide +kernel
theorem dX9_goParty_81 : decode cX9_goParty 81 = .ok (.iload_n 1, 1) := by decide +kernel
theorem dX9_goParty_82 : decode cX9_goParty 82 = .ok (.iconst 1, 1) := by decide +kernel
theorem dX9_goParty_83 : decode cX9_goParty 83 = .ok (.iadd, 1) := by decide +kernel
theorem dX9_goParty_84 : decode cX9_goParty 84 = .ok (.iaload, 1) := by decide +kernel
theorem dX9_goParty_85 : decode cX9_goParty 85 = .ok (.bipush 97, 2) := by decide +kernel
theorem dX9_goParty_87 : decode cX9_goParty 87 = .ok (.isub, 1) := by decide +kernel
theorem dX9_goParty_88 : decode cX9_goParty 88 = .ok (.iload_n 3, 1) := by decide +kernel
theorem dX9_goParty_89 : decode cX9_goParty 89 = .ok (.invokevirtual 169, 3) := by decide +kernel
theorem dX9_goParty_92 : decode cX9_goParty 92 = .ok (.putfield 163, 3) := by decide +kernel
theorem dX9_goParty_95 : decode cX9_goParty 95 = .ok (.aload_n 0, 1) := by decide +kernel
theorem dX9_goParty_96 : decode cX9_goParty 96 = .ok (.getfield 163, 3) := by decide +kernel
theorem dX9_goParty_99 : decode cX9_goParty 99 = .ok (.ifCond .ne 23, 3) := by decide +kernel
theorem dX9_goParty_102 : decode cX9_goParty 102 = .ok (.aload_n 0, 1) := by decide +kernel
theorem dX9_goParty_103 : decode cX9_goParty 103 = .ok (.iload_n 2, 1) := by decide +kernel
theorem dX9_goParty_104 : decode cX9_goParty 104 = .ok (.bipush 97, 2) := by decide +kernel
theorem dX9_goParty_106 : decode cX9_goParty 106 = .ok (.isub, 1) := by decide +kernel
theorem dX9_goParty_107 : decode cX9_goParty 107 = .ok (.aload_n 0, 1) := by decide +kernel
theorem dX9_goParty_108 : decode cX9_goParty 108 = .ok (.getfield 44, 3) := by decide +kernel
theorem dX9_goParty_111 : decode cX9_goParty 111 = .ok (.iload_n 1, 1) := by decide +kernel
theorem dX9_goParty_112 : decode cX9_goParty 112 = .ok (.iconst 1, 1) := by decide +kernel
theorem dX9_goParty_113 : decode cX9_goParty 113 = .ok (.iadd, 1) := by decide +kernel
theorem dX9_goParty_114 : decode cX9_goParty 114 = .ok (.iaload, 1) := by decide +kernel
theorem dX9_goParty_115 : decode cX9_goParty 115 = .ok (.bipush 97, 2) := by decide +kernel
theorem dX9_goParty_117 : decode cX9_goParty 117 = .ok (.isub, 1) := by decide +kernel
theorem dX9_goParty_118 : decode cX9_goParty 118 = .ok (.iload_n 3, 1) := by decide +kernel
theorem dX9_goParty_119 : decode cX9_goParty 119 = .ok (.invokevirtual 172, 3) := by decide +kernel
theorem dX9_goParty_122 : decode cX9_goParty 122 = .ok (.iinc 1 3, 3) := by decide +kernel
theorem dX9_goParty_125 : decode cX9_goParty 125 = .ok (.goto 133, 3) := by decide +kernel
theorem dX9_goParty_128 : decode cX9_goParty 128 = .ok (.aload_n 0, 1) := by decide +kernel
theorem dX9_goParty_129 : decode cX9_goParty 129 = .ok (.getfield 44, 3) := by decide +kernel
theorem dX9_goParty_132 : decode cX9_goParty 132 = .ok (.iload_n 1, 1) := by decide +kernel
theorem dX9_goParty_133 : decode cX9_goParty 133 = .ok (.iconst 1, 1) := by decide +kernel
theorem dX9_goParty_134 : decode cX9_goParty 134 = .ok (.iadd, 1) := by decide +kernel
theorem dX9_goParty_135 : decode cX9_goParty 135 = .ok (.iaload, 1) := by decide +kernel
theorem dX9_goParty_136 : decode cX9_goParty 136 = .ok (.bipush 65, 2) := by decide +kernel
theorem dX9_goParty_138 : decode cX9_goParty 138 = .ok (.bipush 72, 2) := by decide +kernel
theorem dX9_goParty_140 : decode cX9_goParty 140 = .ok (.invokestatic 94, 3) := by decide +kernel
theorem dX9_goParty_143 : decode cX9_goParty 143 = .ok (.ifCond .eq 69, 3) := by decide +kernel
theorem dX9_goParty_146 : decode cX9_goParty 146 = .ok (.aload_n 0, 1) := by decide +kernel
theorem dX9_goParty_147 : decode cX9_goParty 147 = .ok (.aload_n 0, 1) := by decide +kernel
theorem dX9_goParty_148 : decode cX9_goParty 148 = .ok (.iload_n 2, 1) := by decide +kernel
theorem dX9_goParty_149 : decode cX9_goParty 149 = .ok (.bipush 65, 2) := by decide +kernel
theorem dX9_goParty_151 : decode cX9_goParty 151 = .ok (.isub, 1) := by decide +kernel
theorem dX9_goParty_152 : decode cX9_goParty 152 = .ok (.aload_n 0, 1) := by decide +kernel
theorem dX9_goParty_153 : decode cX9_goParty 153 = .ok (.getfield 44, 3) := by decide +kernel
theorem dX9_goParty_156 : decode cX9_goParty 156 = .ok (.iload_n 1, 1) := by decide +kernel
theorem dX9_goParty_157 : decode cX9_goParty 157 = .ok (.iconst 1, 1) := by decide +kernel
theorem dX9_goParty_158 : decode cX9_goParty 158 = .ok (.iadd, 1) := by decide +kernel
theorem dX9_goParty_159 : decode cX9_goParty 159 = .ok (.iaload, 1) := by decide +kernel
theorem dX9_goParty_160 : decode cX9_goParty 160 = .ok (.bipush 65, 2) := by decide +kernel
theorem dX9_goParty_162 : decode cX9_goParty 162 = .ok (.isub, 1) := by decide +kernel
theorem dX9_goParty_163 : decode cX9_goParty 163 = .ok (.invokevirtual 176, 3) := by decide +kernel
theorem dX9_goParty_166 : decode cX9_goParty 166 = .ok (.putfield 163, 3) := by decide +kernel
theorem dX9_goParty_169 : decode cX9_goParty 169 = .ok (.aload_n 0, 1) := by decide +kernel
theorem dX9_goParty_170 : decode cX9_goParty 170 = .ok (.getfield 163, 3) := by decide +kernel
theorem dX9_goParty_173 : decode cX9_goParty 173 = .ok (.ifCond .ne 33, 3) := by decide +kernel
theorem dX9_goParty_176 : decode cX9_goParty 176 = .ok (.aload_n 0, 1) := by decide +kernel
theorem dX9_goParty_177 : decode cX9_goParty 177 = .ok (.iload_n 2, 1) := by decide +kernel
theorem dX9_goParty_178 : decode cX9_goParty 178 = .ok (.bipush 65, 2) := by decide +kernel
theorem dX9_goParty_180 : decode cX9_goParty 180 = .ok (.isub, 1) := by decide +kernel
theorem dX9_goParty_181 : decode cX9_goParty 181 = .ok (.aload_n 0, 1) := by decide +kernel
theorem dX9_goParty_182 : decode cX9_goParty 182 = .ok (.getfield 44, 3) := by decide +kernel
theorem dX9_goParty_185 : decode cX9_goParty 185 = .ok (.iload_n 1, 1) := by decide +kernel
theorem dX9_goParty_186 : decode cX9_goParty 186 = .ok (.iconst 1, 1) := by decide +kernel
theorem dX9_goParty_187 : decode cX9_goParty 187 = .ok (.iadd, 1) := by decide +kernel
theorem dX9_goParty_188 : decode cX9_goParty 188 = .ok (.iaload, 1) := by decide +kernel
theorem dX9_goParty_189 : decode cX9_goParty 189 = .ok (.bipush 65, 2) := by decide +kernel
theorem dX9_goParty_191 : decode cX9_goParty 191 = .ok (.isub, 1) := by decide +kernel
theorem dX9_goParty_192 : decode cX9_goParty 192 = .ok (.aload_n 0, 1) := by decide +kernel
theorem dX9_goParty_193 : decode cX9_goParty 193 = .ok (.getfield 44, 3) := by decide +kernel
theorem dX9_goParty_196 : decode cX9_goParty 196 = .ok (.iload_n 1, 1) := by decide +kernel
theorem dX9_goParty_197 : decode cX9_goParty 197 = .ok (.iconst 2, 1) := by decide +kernel
theorem dX9_goParty_198 : decode cX9_goParty 198 = .ok (.iadd, 1) := by decide +kernel
theorem dX9_goParty_199 : decode cX9_goParty 199 = .ok (.iaload, 1) := by decide +kernel
theorem dX9_goParty_200 : decode cX9_goParty 200 = .ok (.bipush 48, 2) := by decide +kernel
theorem dX9_goParty_202 : decode cX9_goParty 202 = .ok (.isub, 1) := by decide +kernel
theorem dX9_goParty_203 : decode cX9_goParty 203 = .ok (.invokevirtual 179, 3) := by decide +kernel
theorem dX9_goParty_206 : decode cX9_goParty 206 = .ok (.iinc 1 3, 3) := by decide +kernel
theorem dX9_goParty_209 : decode cX9_goParty 209 = .ok (.goto 49, 3) := by decide +kernel
theorem dX9_goParty_212 : decode cX9_goParty 212 = .ok (.aload_n 0, 1) := by decide +kernel
theorem dX9_goParty_213 : decode cX9_goParty 213 = .ok (.aload_n 0, 1) := by decide +kernel
theorem dX9_goParty_214 : decode cX9_goParty 214 = .ok (.iload_n 2, 1) := by decide +kernel
theorem dX9_goParty_215 : decode cX9_goParty 215 = .ok (.bipush 65, 2) := by decide +kernel
theorem dX9_goParty_217 : decode cX9_goParty 217 = .ok (.isub, 1) := by decide +kernel
theorem dX9_goParty_218 : decode cX9_goParty 218 = .ok (.aload_n 0, 1) := by decide +kernel
theorem dX9_goParty_219 : decode cX9_goParty 219 = .ok (.getfield 44, 3) := by decide +kernel
theorem dX9_goParty_222 : decode cX9_goParty 222 = .ok (.iload_n 1, 1) := by decide +kernel
theorem dX9_goParty_223 : decode cX9_goParty 223 = .ok (.iconst 1, 1) := by decide +kernel
theorem dX9_goParty_224 : decode cX9_goParty 224 = .ok (.iadd, 1) := by decide +kernel
theorem dX9_goParty_225 : decode cX9_goParty 225 = .ok (.iaload, 1) := by decide +kernel
theorem dX9_goParty_226 : decode cX9_goParty 226 = .ok (.invokevirtual 182, 3) := by decide +kernel
theorem dX9_goParty_229 : decode cX9_goParty 229 = .ok (.putfield 163, 3) := by decide +kernel
theorem dX9_goParty_232 : decode cX9_goParty 232 = .ok (.aload_n 0, 1) := by decide +kernel
theorem dX9_goParty_233 : decode cX9_goParty 233 = .ok (.getfield 163, 3) := by decide +kernel
theorem dX9_goParty_236 : decode cX9_goParty 236 = .ok (.ifCond .ne 19, 3) := by decide +kernel
theorem dX9_goParty_239 : decode cX9_goParty 239 = .ok (.aload_n 0, 1) := by decide +kernel
theorem dX9_goParty_240 : decode cX9_goParty 240 = .ok (.iload_n 2, 1) := by decide +kernel
theorem dX9_goParty_241 : decode cX9_goParty 241 = .ok (.bipush 65, 2) := by decide +kernel
theorem dX9_goParty_243 : decode cX9_goParty 243 = .ok (.isub, 1) := by decide +kernel
theorem dX9_goParty_244 : decode cX9_goParty 244 = .ok (.aload_n 0, 1) := by decide +kernel
theorem dX9_goParty_245 : decode cX9_goParty 245 = .ok (.getfield 44, 3) := by decide +kernel
theorem dX9_goParty_248 : decode cX9_goParty 248 = .ok (.iload_n 1, 1) := by decide +kernel
theorem dX9_goParty_249 : decode cX9_goParty 249 = .ok (.iconst 1, 1) := by decide +kernel
theorem dX9_goParty_250 : decode cX9_goParty 250 = .ok (.iadd, 1) := by decide +kernel
theorem dX9_goParty_251 : decode cX9_goParty 251 = .ok (.iaload, 1) := by decide +kernel
theorem dX9_goParty_252 : decode cX9_goParty 252 = .ok (.invokevirtual 185, 3) := by decide +kernel
theorem dX9_goParty_255 : decode cX9_goParty 255 = .ok (.iinc 1 2, 3) := by decide +kernel
theorem dX9_goParty_258 : decode cX9_goParty 258 = .ok (.aload_n 0, 1) := by decide +kernel
theorem dX9_goParty_259 : decode cX9_goParty 259 = .ok (.getfield 163, 3) := by decide +kernel
theorem dX9_goParty_262 : decode cX9_goParty 262 = .ok (.ifCond .le 8, 3) := by decide +kernel
theorem dX9_goParty_265 : decode cX9_goParty 265 = .ok (.aload_n 0, 1) := by decide +kernel
theorem dX9_goParty_266 : decode cX9_goParty 266 = .ok (.getfield 160, 3) := by decide +kernel
theorem dX9_goParty_269 : decode cX9_goParty 269 = .ok (.ireturn, 1) := by decide +kernel
theorem dX9_goParty_270 : decode cX9_goParty 270 = .ok (.aload_n 0, 1) := by decide +kernel
theorem dX9_goParty_271 : decode cX9_goParty 271 = .ok (.dup, 1) := by decide +kernel
theorem dX9_goParty_272 : decode cX9_goParty 272 = .ok (.getfield 160, 3) := by decide +kernel
theorem dX9_goParty_275 : decode cX9_goParty 275 = .ok (.iconst 1, 1) := by decide +kernel
theorem dX9_goParty_276 : decode cX9_goParty 276 = .ok (.iadd, 1) := by decide +kernel
theorem dX9_goParty_277 : decode cX9_goParty 277 = .ok (.putfield 160, 3) := by decide +kernel
theorem dX9_goParty_280 : decode cX9_goParty 280 = .ok (.goto (-269), 3) := by decide +kernel
theorem dX9_goParty_283 : decode cX9_goParty 283 = .ok (.bipush (-6), 2) := by decide +kernel
theorem dX9_goParty_285 : decode cX9_goParty 285 = .ok (.ireturn, 1) := by decide +kernel
theorem dX9_judge_0 : decode cX9_judge 0 = .ok (.iload_n 1, 1) := by decide +kernel
theorem dX9_judge_1 : decode cX9_judge 1 = .ok (.iconst 0, 1) := by decide +kernel
theorem dX9_judge_2 : decode cX9_judge 2 = .ok (.iconst 1, 1) := by decide +kernel
theorem dX9_judge_3 : decode cX9_judge 3 = .ok (.invokestatic 94, 3) := by decide +kernel
theorem dX9_judge_6 : decode cX9_judge 6 = .ok (.ifCond .ne 6, 3) := by decide +kernel
theorem dX9_judge_9 : decode cX9_judge 9 = .ok (.bipush (-2), 2) := by decide +kernel
theorem dX9_judge_11 : decode cX9_judge 11 = .ok (.ireturn, 1) := by decide +kernel
theorem dX9_judge_12 : decode cX9_judge 12 = .ok (.aload_n 0, 1) := by decide +kernel
theorem dX9_judge_13 : decode cX9_judge 13 = .ok (.invokevirtual 127, 3) := by decide +kernel
theorem dX9_judge_16 : decode cX9_judge 16 = .ok (.ifCond .lt 6, 3) := by decide +kernel
theorem dX9_judge_19 : decode cX9_judge 19 = .ok (.bipush (-5), 2) := by decide +kernel
theorem dX9_judge_21 : decode cX9_judge 21 = .ok (.ireturn, 1) := by decide +kernel
theorem dX9_judge_22 : decode cX9_judge 22 = .ok (.aload_n 0, 1) := by decide +kernel
theorem dX9_judge_23 : decode cX9_judge 23 = .ok (.invokevirtual 189, 3) := by decide +kernel
theorem dX9_judge_26 : decode cX9_judge 26 = .ok (.istore_n 2, 1) := by decide +kernel
theorem dX9_judge_27 : decode cX9_judge 27 = .ok (.iload_n 2, 1) := by decide +kernel
theorem dX9_judge_28 : decode cX9_judge 28 = .ok (.ifCond .lt 7, 3) := by decide +kernel
theorem dX9_judge_31 : decode cX9_judge 31 = .ok (.iload_n 1, 1) := by decide +kernel
theorem dX9_judge_32 : decode cX9_judge 32 = .ok (.ifCond .ne 7, 3) := by decide +kernel
theorem dX9_judge_35 : decode cX9_judge 35 = .ok (.iload_n 2, 1) := by decide +kernel
theorem dX9_judge_36 : decode cX9_judge 36 = .ok (.goto 7, 3) := by decide +kernel
theorem dX9_judge_39 : decode cX9_judge 39 = .ok (.aload_n 0, 1) := by decide +kernel
theorem dX9_judge_40 : decode cX9_judge 40 = .ok (.getfield 163, 3) := by decide +kernel
theorem dX9_judge_43 : decode cX9_judge 43 = .ok (.ireturn, 1) := by decide +kernel
theorem dX9_barOfParty_0 : decode cX9_barOfParty 0 = .ok (.aload_n 0, 1) := by decide +kernel
theorem dX9_barOfParty_1 : decode cX9_barOfParty 1 = .ok (.invokevirtual 127, 3) := by decide +kernel
theorem dX9_barOfParty_4 : decode cX9_barOfParty 4 = .ok (.ifCond .ge 10, 3) := by decide +kernel
theorem dX9_barOfParty_7 : decode cX9_barOfParty 7 = .ok (.aload_n 0, 1) := by decide +kernel
theorem dX9_barOfParty_8 : decode cX9_barOfParty 8 = .ok (.invokevirtual 189, 3) := by decide +kernel
theorem dX9_barOfParty_11 : decode cX9_barOfParty 11 = .ok (.ifCond .lt 8, 3) := by decide +kernel
theorem dX9_barOfParty_14 : decode cX9_barOfParty 14 = .ok (.bipush (-5), 2) := by decide +kernel
theorem dX9_barOfParty_16 : decode cX9_barOfParty 16 = .ok (.goto 4, 3) := by decide +kernel
theorem dX9_barOfParty_19 : decode cX9_barOfParty 19 = .ok (.iconst 0, 1) := by decide +kernel
theorem dX9_barOfParty_20 : decode cX9_barOfParty 20 = .ok (.ireturn, 1) := by decide +kernel
theorem dX9_done_0 : decode cX9_done 0 = .ok (.aload_n 0, 1) := by decide +kernel
theorem dX9_done_1 : decode cX9_done 1 = .ok (.invokevirtual 192, 3) := by decide +kernel
theorem dX9_done_4 : decode cX9_done 4 = .ok (.ifCond .ge 6, 3) := by decide +kernel
theorem dX9_done_7 : decode cX9_done 7 = .ok (.bipush (-5), 2) := by decide +kernel
theorem dX9_done_9 : decode cX9_done 9 = .ok (.ireturn, 1) := by decide +kernel
theorem dX9_done_10 : decode cX9_done 10 = .ok (.iconst 0, 1) := by decide +kernel
theorem dX9_done_11 : decode cX9_done 11 = .ok (.istore_n 1, 1) := by decide +kernel
theorem dX9_done_12 : decode cX9_done 12 = .ok (.iload_n 1, 1) := by decide +kernel
theorem dX9_done_13 : decode cX9_done 13 = .ok (.bipush 8, 2) := by decide +kernel
theorem dX9_done_15 : decode cX9_done 15 = .ok (.if_icmp .ge 57, 3) := by decide +kernel
theorem dX9_done_18 : decode cX9_done 18 = .ok (.aload_n 0, 1) := by decide +kernel
theorem dX9_done_19 : decode cX9_done 19 = .ok (.getfield 29, 3) := by decide +kernel
theorem dX9_done_22 : decode cX9_done 22 = .ok (.iload_n 1, 1) := by decide +kernel
theorem dX9_done_23 : decode cX9_done 23 = .ok (.aload_n 0, 1) := by decide +kernel
theorem dX9_done_24 : decode cX9_done 24 = .ok (.getfield 47, 3) := by decide +kernel
theorem dX9_done_27 : decode cX9_done 27 = .ok (.iload_n 1, 1) := by decide +kernel
theorem dX9_done_28 : decode cX9_done 28 = .ok (.iaload, 1) := by decide +kernel
theorem dX9_done_29 : decode cX9_done 29 = .ok (.iastore, 1) := by decide +kernel
theorem dX9_done_30 : decode cX9_done 30 = .ok (.aload_n 0, 1) := by decide +kernel
theorem dX9_done_31 : decode cX9_done 31 = .ok (.getfield 32, 3) := by decide +kernel
theorem dX9_done_34 : decode cX9_done 34 = .ok (.iload_n 1, 1) := by decide +kernel
theorem dX9_done_35 : decode cX9_done 35 = .ok (.aload_n 0, 1) := by decide +kernel
theorem dX9_done_36 : decode cX9_done 36 = .ok (.getfield 50, 3) := by decide +kernel
theorem dX9_done_39 : decode cX9_done 39 = .ok (.iload_n 1, 1) := by decide +kernel
theorem dX9_done_40 : decode cX9_done 40 = .ok (.iaload, 1) := by decide +kernel
theorem dX9_done_41 : decode cX9_done 41 = .ok (.iastore, 1) := by decide +kernel
theorem dX9_done_42 : decode cX9_done 42 = .ok (.aload_n 0, 1) := by decide +kernel
theorem dX9_done_43 : decode cX9_done 43 = .ok (.getfield 35, 3) := by decide +kernel
theorem dX9_done_46 : decode cX9_done 46 = .ok (.iload_n 1, 1) := by decide +kernel
theorem dX9_done_47 : decode cX9_done 47 = .ok (.aload_n 0, 1) := by decide +kernel
theorem dX9_done_48 : decode cX9_done 48 = .ok (.getfield 53, 3) := by decide +kernel
theorem dX9_done_51 : decode cX9_done 51 = .ok (.iload_n 1, 1) := by decide +kernel
theorem dX9_done_52 : decode cX9_done 52 = .ok (.iaload, 1) := by decide +kernel
theorem dX9_done_53 : decode cX9_done 53 = .ok (.iastore, 1) := by decide +kernel
theorem dX9_done_54 : decode cX9_done 54 = .ok (.aload_n 0, 1) := by decide +kernel
theorem dX9_done_55 : decode cX9_done 55 = .ok (.getfield 38, 3) := by decide +kernel
theorem dX9_done_58 : decode cX9_done 58 = .ok (.iload_n 1, 1) := by decide +kernel
theorem dX9_done_59 : decode cX9_done 59 = .ok (.aload_n 0, 1) := by decide +kernel
theorem dX9_done_60 : decode cX9_done 60 = .ok (.getfield 56, 3) := by decide +kernel
theorem dX9_done_63 : decode cX9_done 63 = .ok (.iload_n 1, 1) := by decide +kernel
theorem dX9_done_64 : decode cX9_done 64 = .ok (.iaload, 1) := by decide +kernel
theorem dX9_done_65 : decode cX9_done 65 = .ok (.iastore, 1) := by decide +kernel
theorem dX9_done_66 : decode cX9_done 66 = .ok (.iinc 1 1, 3) := by decide +kernel
theorem dX9_done_69 : decode cX9_done 69 = .ok (.goto (-57), 3) := by decide +kernel
theorem dX9_done_72 : decode cX9_done 72 = .ok (.iconst 0, 1) := by decide +kernel
theorem dX9_done_73 : decode cX9_done 73 = .ok (.istore_n 1, 1) := by decide +kernel
theorem dX9_done_74 : decode cX9_done 74 = .ok (.iload_n 1, 1) := by decide +kernel
theorem dX9_done_75 : decode cX9_done 75 = .ok (.bipush 24, 2) := by decide +kernel
theorem dX9_done_77 : decode cX9_done 77 = .ok (.if_icmp .ge 21, 3) := by decide +kernel
theorem dX9_done_80 : decode cX9_done 80 = .ok (.aload_n 0, 1) := by decide +kernel
theorem dX9_done_81 : decode cX9_done 81 = .ok (.getfield 13, 3) := by decide +kernel
theorem dX9_done_84 : decode cX9_done 84 = .ok (.iload_n 1, 1) := by decide +kernel
theorem dX9_done_85 : decode cX9_done 85 = .ok (.aload_n 0, 1) := by decide +kernel
theorem dX9_done_86 : decode cX9_done 86 = .ok (.getfield 59, 3) := by decide +kernel
theorem dX9_done_89 : decode cX9_done 89 = .ok (.iload_n 1, 1) := by decide +kernel
theorem dX9_done_90 : decode cX9_done 90 = .ok (.iaload, 1) := by decide +kernel
theorem dX9_done_91 : decode cX9_done 91 = .ok (.iastore, 1) := by decide +kernel
theorem dX9_done_92 : decode cX9_done 92 = .ok (.iinc 1 1, 3) := by decide +kernel
theorem dX9_done_95 : decode cX9_done 95 = .ok (.goto (-21), 3) := by decide +kernel
theorem dX9_done_98 : decode cX9_done 98 = .ok (.aload_n 0, 1) := by decide +kernel
theorem dX9_done_99 : decode cX9_done 99 = .ok (.iconst 0, 1) := by decide +kernel
theorem dX9_done_100 : decode cX9_done 100 = .ok (.putfield 124, 3) := by decide +kernel
theorem dX9_done_103 : decode cX9_done 103 = .ok (.aload_n 0, 1) := by decide +kernel
theorem dX9_done_104 : decode cX9_done 104 = .ok (.getfield 160, 3) := by decide +kernel
theorem dX9_done_107 : decode cX9_done 107 = .ok (.ireturn, 1) := by decide +kernel
theorem dX9_stateNow_0 : decode cX9_stateNow 0 = .ok (.aload_n 0, 1) := by decide +kernel
theorem dX9_stateNow_1 : decode cX9_stateNow 1 = .ok (.getfield 50, 3) := by decide +kernel
theorem dX9_stateNow_4 : decode cX9_stateNow 4 = .ok (.iload_n 1, 1) := by decide +kernel
theorem dX9_stateNow_5 : decode cX9_stateNow 5 = .ok (.iaload, 1) := by decide +kernel
theorem dX9_stateNow_6 : decode cX9_stateNow 6 = .ok (.ifCond .eq 13, 3) := by decide +kernel
theorem dX9_stateNow_9 : decode cX9_stateNow 9 = .ok (.aload_n 0, 1) := by decide +kernel
theorem dX9_stateNow_10 : decode cX9_stateNow 10 = .ok (.getfield 50, 3) := by decide +kernel
theorem dX9_stateNow_13 : decode cX9_stateNow 13 = .ok (.iload_n 1, 1) := by decide +kernel
theorem dX9_stateNow_14 : decode cX9_stateNow 14 = .ok (.iaload, 1) := by decide +kernel
theorem dX9_stateNow_15 : decode cX9_stateNow 15 = .ok (.iconst 2, 1) := by decide +kernel
theorem dX9_stateNow_16 : decode cX9_stateNow 16 = .ok (.if_icmp .ne 7, 3) := by decide +kernel
theorem dX9_stateNow_19 : decode cX9_stateNow 19 = .ok (.iconst 1, 1) := by decide +kernel
theorem dX9_stateNow_20 : decode cX9_stateNow 20 = .ok (.goto 4, 3) := by decide +kernel
theorem dX9_stateNow_23 : decode cX9_stateNow 23 = .ok (.iconst 0, 1) := by decide +kernel
theorem dX9_stateNow_24 : decode cX9_stateNow 24 = .ok (.istore_n 3, 1) := by decide +kernel
theorem dX9_stateNow_25 : decode cX9_stateNow 25 = .ok (.iload_n 2, 1) := by decide +kernel
theorem dX9_stateNow_26 : decode cX9_stateNow 26 = .ok (.ifCond .ne 12, 3) := by decide +kernel
theorem dX9_stateNow_29 : decode cX9_stateNow 29 = .ok (.aload_n 0, 1) := by decide +kernel
theorem dX9_stateNow_30 : decode cX9_stateNow 30 = .ok (.getfield 47, 3) := by decide +kernel
theorem dX9_stateNow_33 : decode cX9_stateNow 33 = .ok (.iload_n 1, 1) := by decide +kernel
theorem dX9_stateNow_34 : decode cX9_stateNow 34 = .ok (.iaload, 1) := by decide +kernel
theorem dX9_stateNow_35 : decode cX9_stateNow 35 = .ok (.goto 60, 3) := by decide +kernel
theorem dX9_stateNow_38 : decode cX9_stateNow 38 = .ok (.iload_n 2, 1) := by decide +kernel
theorem dX9_stateNow_39 : decode cX9_stateNow 39 = .ok (.iconst 1, 1) := by decide +kernel
theorem dX9_stateNow_40 : decode cX9_stateNow 40 = .ok (.if_icmp .ne 12, 3) := by decide +kernel
theorem dX9_stateNow_43 : decode cX9_stateNow 43 = .ok (.aload_n 0, 1) := by decide +kernel
theorem dX9_stateNow_44 : decode cX9_stateNow 44 = .ok (.getfield 50, 3) := by decide +kernel
theorem dX9_stateNow_47 : decode cX9_stateNow 47 = .ok (.iload_n 1, 1) := by decide +kernel
theorem dX9_stateNow_48 : decode cX9_stateNow 48 = .ok (.iaload, 1) := by decide +kernel
theorem dX9_stateNow_49 : decode cX9_stateNow 49 = .ok (.goto 46, 3) := by decide +kernel
theorem dX9_stateNow_52 : decode cX9_stateNow 52 = .ok (.iload_n 2, 1) := by decide +kernel
theorem dX9_stateNow_53 : decode cX9_stateNow 53 = .ok (.iconst 2, 1) := by decide +kernel
theorem dX9_stateNow_54 : decode cX9_stateNow 54 = .ok (.if_icmp .ne 21, 3) := by decide +kernel
theorem dX9_stateNow_57 : decode cX9_stateNow 57 = .ok (.iload_n 3, 1) := by decide +kernel
theorem dX9_stateNow_58 : decode cX9_stateNow 58 = .ok (.ifCond .eq 8, 3) := by decide +kernel
theorem dX9_stateNow_61 : decode cX9_stateNow 61 = .ok (.bipush (-6), 2) := by decide +kernel
theorem dX9_stateNow_63 : decode cX9_stateNow 63 = .ok (.goto 32, 3) := by decide +kernel
theorem dX9_stateNow_66 : decode cX9_stateNow 66 = .ok (.aload_n 0, 1) := by decide +kernel
theorem dX9_stateNow_67 : decode cX9_stateNow 67 = .ok (.getfield 53, 3) := by decide +kernel
theorem dX9_stateNow_70 : decode cX9_stateNow 70 = .ok (.iload_n 1, 1) := by decide +kernel
theorem dX9_stateNow_71 : decode cX9_stateNow 71 = .ok (.iaload, 1) := by decide +kernel
theorem dX9_stateNow_72 : decode cX9_stateNow 72 = .ok (.goto 23, 3) := by decide +kernel
theorem dX9_stateNow_75 : decode cX9_stateNow 75 = .ok (.aload_n 0, 1) := by decide +kernel
theorem dX9_stateNow_76 : decode cX9_stateNow 76 = .ok (.getfield 50, 3) := by decide +kernel
theorem dX9_stateNow_79 : decode cX9_stateNow 79 = .ok (.iload_n 1, 1) := by decide +kernel
theorem dX9_stateNow_80 : decode cX9_stateNow 80 = .ok (.iaload, 1) := by decide +kernel
theorem dX9_stateNow_81 : decode cX9_stateNow 81 = .ok (.iconst 1, 1) := by decide +kernel
theorem dX9_stateNow_82 : decode cX9_stateNow 82 = .ok (.if_icmp .ne 12, 3) := by decide +kernel
theorem dX9_stateNow_85 : decode cX9_stateNow 85 = .ok (.aload_n 0, 1) := by decide +kernel
theorem dX9_stateNow_86 : decode cX9_stateNow 86 = .ok (.getfield 56, 3) := by decide +kernel
theorem dX9_stateNow_89 : decode cX9_stateNow 89 = .ok (.iload_n 1, 1) := by decide +kernel
theorem dX9_stateNow_90 : decode cX9_stateNow 90 = .ok (.iaload, 1) := by decide +kernel
theorem dX9_stateNow_91 : decode cX9_stateNow 91 = .ok (.goto 4, 3) := by decide +kernel
theorem dX9_stateNow_94 : decode cX9_stateNow 94 = .ok (.iconst 0, 1) := by decide +kernel
theorem dX9_stateNow_95 : decode cX9_stateNow 95 = .ok (.ireturn, 1) := by decide +kernel
theorem dX9_state_0 : decode cX9_state 0 = .ok (.aload_n 0, 1) := by decide +kernel
theorem dX9_state_1 : decode cX9_state 1 = .ok (.iload_n 1, 1) := by decide +kernel
theorem dX9_state_2 : decode cX9_state 2 = .ok (.invokevirtual 121, 3) := by decide +kernel
theorem dX9_state_5 : decode cX9_state 5 = .ok (.ifCond .ne 5, 3) := by decide +kernel
theorem dX9_state_8 : decode cX9_state 8 = .ok (.iconst (-1), 1) := by decide +kernel
theorem dX9_state_9 : decode cX9_state 9 = .ok (.ireturn, 1) := by decide +kernel
theorem dX9_state_10 : decode cX9_state 10 = .ok (.iload_n 2, 1) := by decide +kernel
theorem dX9_state_11 : decode cX9_state 11 = .ok (.iconst 0, 1) := by decide +kernel
theorem dX9_state_12 : decode cX9_state 12 = .ok (.iconst 3, 1) := by decide +kernel
theorem dX9_state_13 : decode cX9_state 13 = .ok (.invokestatic 94, 3) := by decide +kernel
theorem dX9_state_16 : decode cX9_state 16 = .ok (.ifCond .ne 6, 3) := by decide +kernel
theorem dX9_state_19 : decode cX9_state 19 = .ok (.bipush (-2), 2) := by decide +kernel
theorem dX9_state_21 : decode cX9_state 21 = .ok (.ireturn, 1) := by decide +kernel
theorem dX9_state_22 : decode cX9_state 22 = .ok (.aload_n 0, 1) := by decide +kernel
theorem dX9_state_23 : decode cX9_state 23 = .ok (.invokevirtual 157, 3) := by decide +kernel
theorem dX9_state_26 : decode cX9_state 26 = .ok (.aload_n 0, 1) := by decide +kernel
theorem dX9_state_27 : decode cX9_state 27 = .ok (.iload_n 1, 1) := by decide +kernel
theorem dX9_state_28 : decode cX9_state 28 = .ok (.iload_n 2, 1) := by decide +kernel
theorem dX9_state_29 : decode cX9_state 29 = .ok (.invokevirtual 195, 3) := by decide +kernel
theorem dX9_state_32 : decode cX9_state 32 = .ok (.ireturn, 1) := by decide +kernel
theorem dX9_behind_0 : decode cX9_behind 0 = .ok (.aload_n 0, 1) := by decide +kernel
theorem dX9_behind_1 : decode cX9_behind 1 = .ok (.iload_n 1, 1) := by decide +kernel
theorem dX9_behind_2 : decode cX9_behind 2 = .ok (.invokevirtual 121, 3) := by decide +kernel
theorem dX9_behind_5 : decode cX9_behind 5 = .ok (.ifCond .ne 5, 3) := by decide +kernel
theorem dX9_behind_8 : decode cX9_behind 8 = .ok (.iconst (-1), 1) := by decide +kernel
theorem dX9_behind_9 : decode cX9_behind 9 = .ok (.ireturn, 1) := by decide +kernel
theorem dX9_behind_10 : decode cX9_behind 10 = .ok (.iload_n 2, 1) := by decide +kernel
theorem dX9_behind_11 : decode cX9_behind 11 = .ok (.iconst 0, 1) := by decide +kernel
theorem dX9_behind_12 : decode cX9_behind 12 = .ok (.iconst 3, 1) := by decide +kernel
theorem dX9_behind_13 : decode cX9_behind 13 = .ok (.invokestatic 94, 3) := by decide +kernel
theorem dX9_behind_16 : decode cX9_behind 16 = .ok (.ifCond .ne 6, 3) := by decide +kernel
theorem dX9_behind_19 : decode cX9_behind 19 = .ok (.bipush (-2), 2) := by decide +kernel
theorem dX9_behind_21 : decode cX9_behind 21 = .ok (.ireturn, 1) := by decide +kernel
theorem dX9_behind_22 : decode cX9_behind 22 = .ok (.aload_n 0, 1) := by decide +kernel
theorem dX9_behind_23 : decode cX9_behind 23 = .ok (.invokevirtual 192, 3) := by decide +kernel
theorem dX9_behind_26 : decode cX9_behind 26 = .ok (.ifCond .ge 8, 3) := by decide +kernel
theorem dX9_behind_29 : decode cX9_behind 29 = .ok (.bipush (-5), 2) := by decide +kernel
theorem dX9_behind_31 : decode cX9_behind 31 = .ok (.goto 9, 3) := by decide +kernel
theorem dX9_behind_34 : decode cX9_behind 34 = .ok (.aload_n 0, 1) := by decide +kernel
theorem dX9_behind_35 : decode cX9_behind 35 = .ok (.iload_n 1, 1) := by decide +kernel
theorem dX9_behind_36 : decode cX9_behind 36 = .ok (.iload_n 2, 1) := by decide +kernel
theorem dX9_behind_37 : decode cX9_behind 37 = .ok (.invokevirtual 195, 3) := by decide +kernel
theorem dX9_behind_40 : decode cX9_behind 40 = .ok (.ireturn, 1) := by decide +kernel
theorem dX9_draw_0 : decode cX9_draw 0 = .ok (.aload_n 0, 1) := by decide +kernel
theorem dX9_draw_1 : decode cX9_draw 1 = .ok (.iload_n 1, 1) := by decide +kernel
theorem dX9_draw_2 : decode cX9_draw 2 = .ok (.invokevirtual 121, 3) := by decide +kernel
theorem dX9_draw_5 : decode cX9_draw 5 = .ok (.ifCond .eq 11, 3) := by decide +kernel
theorem dX9_draw_8 : decode cX9_draw 8 = .ok (.aload_n 0, 1) := by decide +kernel
theorem dX9_draw_9 : decode cX9_draw 9 = .ok (.iload_n 2, 1) := by decide +kernel
theorem dX9_draw_10 : decode cX9_draw 10 = .ok (.invokevirtual 102, 3) := by decide +kernel
theorem dX9_draw_13 : decode cX9_draw 13 = .ok (.ifCond .ne 5, 3) := by decide +kernel
theorem dX9_draw_16 : decode cX9_draw 16 = .ok (.iconst (-1), 1) := by decide +kernel
theorem dX9_draw_17 : decode cX9_draw 17 = .ok (.ireturn, 1) := by decide +kernel
theorem dX9_draw_18 : decode cX9_draw 18 = .ok (.aload_n 0, 1) := by decide +kernel
theorem dX9_draw_19 : decode cX9_draw 19 = .ok (.invokevirtual 157, 3) := by decide +kernel
theorem dX9_draw_22 : decode cX9_draw 22 = .ok (.aload_n 0, 1) := by decide +kernel
theorem dX9_draw_23 : decode cX9_draw 23 = .ok (.iload_n 1, 1) := by decide +kernel
theorem dX9_draw_24 : decode cX9_draw 24 = .ok (.iload_n 2, 1) := by decide +kernel
theorem dX9_draw_25 : decode cX9_draw 25 = .ok (.bipush (-6), 2) := by decide +kernel
theorem dX9_draw_27 : decode cX9_draw 27 = .ok (.iconst 0, 1) := by decide +kernel
theorem dX9_draw_28 : decode cX9_draw 28 = .ok (.invokevirtual 138, 3) := by decide +kernel
theorem dX9_draw_31 : decode cX9_draw 31 = .ok (.sipush 1000, 3) := by decide +kernel
theorem dX9_draw_34 : decode cX9_draw 34 = .ok (.iadd, 1) := by decide +kernel
theorem dX9_draw_35 : decode cX9_draw 35 = .ok (.ireturn, 1) := by decide +kernel
theorem dX9_goes_0 : decode cX9_goes 0 = .ok (.aload_n 0, 1) := by decide +kernel
theorem dX9_goes_1 : decode cX9_goes 1 = .ok (.iload_n 1, 1) := by decide +kernel
theorem dX9_goes_2 : decode cX9_goes 2 = .ok (.invokevirtual 121, 3) := by decide +kernel
theorem dX9_goes_5 : decode cX9_goes 5 = .ok (.ifCond .ne 5, 3) := by decide +kernel
theorem dX9_goes_8 : decode cX9_goes 8 = .ok (.iconst (-1), 1) := by decide +kernel
theorem dX9_goes_9 : decode cX9_goes 9 = .ok (.ireturn, 1) := by decide +kernel
theorem dX9_goes_10 : decode cX9_goes 10 = .ok (.aload_n 0, 1) := by decide +kernel
theorem dX9_goes_11 : decode cX9_goes 11 = .ok (.invokevirtual 157, 3) := by decide +kernel
theorem dX9_goes_14 : decode cX9_goes 14 = .ok (.aload_n 0, 1) := by decide +kernel
theorem dX9_goes_15 : decode cX9_goes 15 = .ok (.invokevirtual 145, 3) := by decide +kernel
theorem dX9_goes_18 : decode cX9_goes 18 = .ok (.aload_n 0, 1) := by decide +kernel
theorem dX9_goes_19 : decode cX9_goes 19 = .ok (.iload_n 1, 1) := by decide +kernel
theorem dX9_goes_20 : decode cX9_goes 20 = .ok (.invokevirtual 151, 3) := by decide +kernel
theorem dX9_goes_23 : decode cX9_goes 23 = .ok (.ifCond .eq 8, 3) := by decide +kernel
theorem dX9_goes_26 : decode cX9_goes 26 = .ok (.bipush (-3), 2) := by decide +kernel
theorem dX9_goes_28 : decode cX9_goes 28 = .ok (.goto 11, 3) := by decide +kernel
theorem dX9_goes_31 : decode cX9_goes 31 = .ok (.aload_n 0, 1) := by decide +kernel
theorem dX9_goes_32 : decode cX9_goes 32 = .ok (.iload_n 1, 1) := by decide +kernel
theorem dX9_goes_33 : decode cX9_goes 33 = .ok (.bipush (-6), 2) := by decide +kernel
theorem dX9_goes_35 : decode cX9_goes 35 = .ok (.iconst 0, 1) := by decide +kernel
theorem dX9_goes_36 : decode cX9_goes 36 = .ok (.invokevirtual 148, 3) := by decide +kernel
theorem dX9_goes_39 : decode cX9_goes 39 = .ok (.ireturn, 1) := by decide +kernel
theorem dX9_goMinutes_0 : decode cX9_goMinutes 0 = .ok (.iconst 0, 1) := by decide +kernel
theorem dX9_goMinutes_1 : decode cX9_goMinutes 1 = .ok (.istore_n 2, 1) := by decide +kernel
theorem dX9_goMinutes_2 : decode cX9_goMinutes 2 = .ok (.iload_n 2, 1) := by decide +kernel
theorem dX9_goMinutes_3 : decode cX9_goMinutes 3 = .ok (.iload_n 1, 1) := by decide +kernel
theorem dX9_goMinutes_4 : decode cX9_goMinutes 4 = .ok (.if_icmp .ge 14, 3) := by decide +kernel
theorem dX9_goMinutes_7 : decode cX9_goMinutes 7 = .ok (.aload_n 0, 1) := by decide +kernel
theorem dX9_goMinutes_8 : decode cX9_goMinutes 8 = .ok (.invokevirtual 166, 3) := by decide +kernel
theorem dX9_goMinutes_11 : decode cX9_goMinutes 11 = .ok (.pop, 1) := by decide +kernel
theorem dX9_goMinutes_12 : decode cX9_goMinutes 12 = .ok (.iinc 2 1, 3) := by decide +kernel
theorem dX9_goMinutes_15 : decode cX9_goMinutes 15 = .ok (.goto (-13), 3) := by decide +kernel
theorem dX9_goMinutes_18 : decode cX9_goMinutes 18 = .ok (.return_, 1) := by decide +kernel
theorem dX9_after_0 : decode cX9_after 0 = .ok (.aload_n 0, 1) := by decide +kernel
theorem dX9_after_1 : decode cX9_after 1 = .ok (.iload_n 1, 1) := by decide +kernel
theorem dX9_after_2 : decode cX9_after 2 = .ok (.invokevirtual 121, 3) := by decide +kernel
theorem dX9_after_5 : decode cX9_after 5 = .ok (.ifCond .ne 5, 3) := by decide +kernel
theorem dX9_after_8 : decode cX9_after 8 = .ok (.iconst (-1), 1) := by decide +kernel
theorem dX9_after_9 : decode cX9_after 9 = .ok (.ireturn, 1) := by decide +kernel
theorem dX9_after_10 : decode cX9_after 10 = .ok (.iload_n 2, 1) := by decide +kernel
theorem dX9_after_11 : decode cX9_after 11 = .ok (.iconst 0, 1) := by decide +kernel
theorem dX9_after_12 : decode cX9_after 12 = .ok (.bipush 99, 2) := by decide +kernel
theorem dX9_after_14 : decode cX9_after 14 = .ok (.invokestatic 94, 3) := by decide +kernel
theorem dX9_after_17 : decode cX9_after 17 = .ok (.ifCond .ne 6, 3) := by decide +kernel
theorem dX9_after_20 : decode cX9_after 20 = .ok (.bipush (-2), 2) := by decide +kernel
theorem dX9_after_22 : decode cX9_after 22 = .ok (.ireturn, 1) := by decide +kernel
theorem dX9_after_23 : decode cX9_after 23 = .ok (.aload_n 0, 1) := by decide +kernel
theorem dX9_after_24 : decode cX9_after 24 = .ok (.invokevirtual 157, 3) := by decide +kernel
theorem dX9_after_27 : decode cX9_after 27 = .ok (.aload_n 0, 1) := by decide +kernel
theorem dX9_after_28 : decode cX9_after 28 = .ok (.iload_n 2, 1) := by decide +kernel
theorem dX9_after_29 : decode cX9_after 29 = .ok (.invokevirtual 198, 3) := by decide +kernel
theorem dX9_after_32 : decode cX9_after 32 = .ok (.aload_n 0, 1) := by decide +kernel
theorem dX9_after_33 : decode cX9_after 33 = .ok (.getfield 47, 3) := by decide +kernel
theorem dX9_after_36 : decode cX9_after 36 = .ok (.iload_n 1, 1) := by decide +kernel
theorem dX9_after_37 : decode cX9_after 37 = .ok (.iaload, 1) := by decide +kernel
theorem dX9_after_38 : decode cX9_after 38 = .ok (.ireturn, 1) := by decide +kernel
theorem dX9_crowdIn_0 : decode cX9_crowdIn 0 = .ok (.iconst 0, 1) := by decide +kernel
theorem dX9_crowdIn_1 : decode cX9_crowdIn 1 = .ok (.istore_n 2, 1) := by decide +kernel
theorem dX9_crowdIn_2 : decode cX9_crowdIn 2 = .ok (.iconst 0, 1) := by decide +kernel
theorem dX9_crowdIn_3 : decode cX9_crowdIn 3 = .ok (.istore_n 3, 1) := by decide +kernel
theorem dX9_crowdIn_4 : decode cX9_crowdIn 4 = .ok (.iload_n 3, 1) := by decide +kernel
theorem dX9_crowdIn_5 : decode cX9_crowdIn 5 = .ok (.bipush 8, 2) := by decide +kernel
theorem dX9_crowdIn_7 : decode cX9_crowdIn 7 = .ok (.if_icmp .ge 40, 3) := by decide +kernel
theorem dX9_crowdIn_10 : decode cX9_crowdIn 10 = .ok (.iload_n 2, 1) := by decide +kernel
theorem dX9_crowdIn_11 : decode cX9_crowdIn 11 = .ok (.aload_n 0, 1) := by decide +kernel
theorem dX9_crowdIn_12 : decode cX9_crowdIn 12 = .ok (.getfield 88, 3) := by decide +kernel
theorem dX9_crowdIn_15 : decode cX9_crowdIn 15 = .ok (.iload_n 3, 1) := by decide +kernel
theorem dX9_crowdIn_16 : decode cX9_crowdIn 16 = .ok (.invokestatic 98, 3) := by decide +kernel
theorem dX9_crowdIn_19 : decode cX9_crowdIn 19 = .ok (.ifCond .eq 19, 3) := by decide +kernel
theorem dX9_crowdIn_22 : decode cX9_crowdIn 22 = .ok (.aload_n 0, 1) := by decide +kernel
theorem dX9_crowdIn_23 : decode cX9_crowdIn 23 = .ok (.getfield 47, 3) := by decide +kernel
theorem dX9_crowdIn_26 : decode cX9_crowdIn 26 = .ok (.iload_n 3, 1) := by decide +kernel
theorem dX9_crowdIn_27 : decode cX9_crowdIn 27 = .ok (.iaload, 1) := by decide +kernel
theorem dX9_crowdIn_28 : decode cX9_crowdIn 28 = .ok (.iload_n 1, 1) := by decide +kernel
theorem dX9_crowdIn_29 : decode cX9_crowdIn 29 = .ok (.if_icmp .ne 9, 3) := by decide +kernel
theorem dX9_crowdIn_32 : decode cX9_crowdIn 32 = .ok (.iconst 1, 1) := by decide +kernel
theorem dX9_crowdIn_33 : decode cX9_crowdIn 33 = .ok (.iload_n 3, 1) := by decide +kernel
theorem dX9_crowdIn_34 : decode cX9_crowdIn 34 = .ok (.ishl, 1) := by decide +kernel
theorem dX9_crowdIn_35 : decode cX9_crowdIn 35 = .ok (.goto 4, 3) := by decide +kernel
theorem dX9_crowdIn_38 : decode cX9_crowdIn 38 = .ok (.iconst 0, 1) := by decide +kernel
theorem dX9_crowdIn_39 : decode cX9_crowdIn 39 = .ok (.ior, 1) := by decide +kernel
theorem dX9_crowdIn_40 : decode cX9_crowdIn 40 = .ok (.istore_n 2, 1) := by decide +kernel
theorem dX9_crowdIn_41 : decode cX9_crowdIn 41 = .ok (.iinc 3 1, 3) := by decide +kernel
theorem dX9_crowdIn_44 : decode cX9_crowdIn 44 = .ok (.goto (-40), 3) := by decide +kernel
theorem dX9_crowdIn_47 : decode cX9_crowdIn 47 = .ok (.iload_n 2, 1) := by decide +kernel
theorem dX9_crowdIn_48 : decode cX9_crowdIn 48 = .ok (.ireturn, 1) := by decide +kernel
theorem dX9_crowd_0 : decode cX9_crowd 0 = .ok (.aload_n 0, 1) := by decide +kernel
theorem dX9_crowd_1 : decode cX9_crowd 1 = .ok (.iload_n 1, 1) := by decide +kernel
theorem dX9_crowd_2 : decode cX9_crowd 2 = .ok (.invokevirtual 102, 3) := by decide +kernel
theorem dX9_crowd_5 : decode cX9_crowd 5 = .ok (.ifCond .ne 5, 3) := by decide +kernel
theorem dX9_crowd_8 : decode cX9_crowd 8 = .ok (.iconst (-1), 1) := by decide +kernel
theorem dX9_crowd_9 : decode cX9_crowd 9 = .ok (.ireturn, 1) := by decide +kernel
theorem dX9_crowd_10 : decode cX9_crowd 10 = .ok (.iload_n 2, 1) := by decide +kernel
theorem dX9_crowd_11 : decode cX9_crowd 11 = .ok (.iconst 0, 1) := by decide +kernel
theorem dX9_crowd_12 : decode cX9_crowd 12 = .ok (.bipush 99, 2) := by decide +kernel
theorem dX9_crowd_14 : decode cX9_crowd 14 = .ok (.invokestatic 94, 3) := by decide +kernel
theorem dX9_crowd_17 : decode cX9_crowd 17 = .ok (.ifCond .ne 6, 3) := by decide +kernel
theorem dX9_crowd_20 : decode cX9_crowd 20 = .ok (.bipush (-2), 2) := by decide +kernel
theorem dX9_crowd_22 : decode cX9_crowd 22 = .ok (.ireturn, 1) := by decide +kernel
theorem dX9_crowd_23 : decode cX9_crowd 23 = .ok (.aload_n 0, 1) := by decide +kernel
theorem dX9_crowd_24 : decode cX9_crowd 24 = .ok (.invokevirtual 157, 3) := by decide +kernel
theorem dX9_crowd_27 : decode cX9_crowd 27 = .ok (.aload_n 0, 1) := by decide +kernel
theorem dX9_crowd_28 : decode cX9_crowd 28 = .ok (.iload_n 2, 1) := by decide +kernel
theorem dX9_crowd_29 : decode cX9_crowd 29 = .ok (.invokevirtual 198, 3) := by decide +kernel
theorem dX9_crowd_32 : decode cX9_crowd 32 = .ok (.aload_n 0, 1) := by decide +kernel
theorem dX9_crowd_33 : decode cX9_crowd 33 = .ok (.iload_n 1, 1) := by decide +kernel
theorem dX9_crowd_34 : decode cX9_crowd 34 = .ok (.invokevirtual 201, 3) := by decide +kernel
theorem dX9_crowd_37 : decode cX9_crowd 37 = .ok (.ireturn, 1) := by decide +kernel
theorem dX9_stillAt_0 : decode cX9_stillAt 0 = .ok (.aload_n 0, 1) := by decide +kernel
theorem dX9_stillAt_1 : decode cX9_stillAt 1 = .ok (.invokevirtual 157, 3) := by decide +kernel
theorem dX9_stillAt_4 : decode cX9_stillAt 4 = .ok (.iconst 1, 1) := by decide +kernel
theorem dX9_stillAt_5 : decode cX9_stillAt 5 = .ok (.istore_n 1, 1) := by decide +kernel
theorem dX9_stillAt_6 : decode cX9_stillAt 6 = .ok (.iload_n 1, 1) := by decide +kernel
theorem dX9_stillAt_7 : decode cX9_stillAt 7 = .ok (.bipush 100, 2) := by decide +kernel
theorem dX9_stillAt_9 : decode cX9_stillAt 9 = .ok (.if_icmp .ge 69, 3) := by decide +kernel
theorem dX9_stillAt_12 : decode cX9_stillAt 12 = .ok (.iconst 0, 1) := by decide +kernel
theorem dX9_stillAt_13 : decode cX9_stillAt 13 = .ok (.istore_n 2, 1) := by decide +kernel
theorem dX9_stillAt_14 : decode cX9_stillAt 14 = .ok (.iconst 0, 1) := by decide +kernel
theorem dX9_stillAt_15 : decode cX9_stillAt 15 = .ok (.istore_n 3, 1) := by decide +kernel
theorem dX9_stillAt_16 : decode cX9_stillAt 16 = .ok (.iload_n 3, 1) := by decide +kernel
theorem dX9_stillAt_17 : decode cX9_stillAt 17 = .ok (.bipush 8, 2) := by decide +kernel
theorem dX9_stillAt_19 : decode cX9_stillAt 19 = .ok (.if_icmp .ge 40, 3) := by decide +kernel
theorem dX9_stillAt_22 : decode cX9_stillAt 22 = .ok (.iload_n 2, 1) := by decide +kernel
theorem dX9_stillAt_23 : decode cX9_stillAt 23 = .ok (.ifCond .ne 24, 3) := by decide +kernel
theorem dX9_stillAt_26 : decode cX9_stillAt 26 = .ok (.aload_n 0, 1) := by decide +kernel
theorem dX9_stillAt_27 : decode cX9_stillAt 27 = .ok (.getfield 88, 3) := by decide +kernel
theorem dX9_stillAt_30 : decode cX9_stillAt 30 = .ok (.iload_n 3, 1) := by decide +kernel
theorem dX9_stillAt_31 : decode cX9_stillAt 31 = .ok (.invokestatic 98, 3) := by decide +kernel
theorem dX9_stillAt_34 : decode cX9_stillAt 34 = .ok (.ifCond .eq 17, 3) := by decide +kernel
theorem dX9_stillAt_37 : decode cX9_stillAt 37 = .ok (.aload_n 0, 1) := by decide +kernel
theorem dX9_stillAt_38 : decode cX9_stillAt 38 = .ok (.getfield 50, 3) := by decide +kernel
theorem dX9_stillAt_41 : decode cX9_stillAt 41 = .ok (.iload_n 3, 1) := by decide +kernel
theorem dX9_stillAt_42 : decode cX9_stillAt 42 = .ok (.iaload, 1) := by decide +kernel
theorem dX9_stillAt_43 : decode cX9_stillAt 43 = .ok (.iconst 1, 1) := by decide +kernel
theorem dX9_stillAt_44 : decode cX9_stillAt 44 = .ok (.if_icmp .ne 7, 3) := by decide +kernel
theorem dX9_stillAt_47 : decode cX9_stillAt 47 = .ok (.iconst 1, 1) := by decide +kernel
theorem dX9_stillAt_48 : decode cX9_stillAt 48 = .ok (.goto 4, 3) := by decide +kernel
theorem dX9_stillAt_51 : decode cX9_stillAt 51 = .ok (.iconst 0, 1) := by decide +kernel
theorem dX9_stillAt_52 : decode cX9_stillAt 52 = .ok (.istore_n 2, 1) := by decide +kernel
theorem dX9_stillAt_53 : decode cX9_stillAt 53 = .ok (.iinc 3 1, 3) := by decide +kernel
theorem dX9_stillAt_56 : decode cX9_stillAt 56 = .ok (.goto (-40), 3) := by decide +kernel
theorem dX9_stillAt_59 : decode cX9_stillAt 59 = .ok (.aload_n 0, 1) := by decide +kernel
theorem dX9_stillAt_60 : decode cX9_stillAt 60 = .ok (.invokevirtual 166, 3) := by decide +kernel
theorem dX9_stillAt_63 : decode cX9_stillAt 63 = .ok (.ifCond .ne 9, 3) := by decide +kernel
theorem dX9_stillAt_66 : decode cX9_stillAt 66 = .ok (.iload_n 2, 1) := by decide +kernel
theorem dX9_stillAt_67 : decode cX9_stillAt 67 = .ok (.ifCond .ne 5, 3) := by decide +kernel
theorem dX9_stillAt_70 : decode cX9_stillAt 70 = .ok (.iload_n 1, 1) := by decide +kernel
theorem dX9_stillAt_71 : decode cX9_stillAt 71 = .ok (.ireturn, 1) := by decide +kernel
theorem dX9_stillAt_72 : decode cX9_stillAt 72 = .ok (.iinc 1 1, 3) := by decide +kernel
theorem dX9_stillAt_75 : decode cX9_stillAt 75 = .ok (.goto (-69), 3) := by decide +kernel
theorem dX9_stillAt_78 : decode cX9_stillAt 78 = .ok (.bipush (-6), 2) := by decide +kernel
theorem dX9_stillAt_80 : decode cX9_stillAt 80 = .ok (.ireturn, 1) := by decide +kernel
theorem dX9_still_0 : decode cX9_still 0 = .ok (.aload_n 0, 1) := by decide +kernel
theorem dX9_still_1 : decode cX9_still 1 = .ok (.invokevirtual 204, 3) := by decide +kernel
theorem dX9_still_4 : decode cX9_still 4 = .ok (.ireturn, 1) := by decide +kernel
theorem dX9_note_0 : decode cX9_note 0 = .ok (.lconst 0, 1) := by decide +kernel
theorem dX9_note_1 : decode cX9_note 1 = .ok (.lstore_n 2, 1) := by decide +kernel
theorem dX9_note_2 : decode cX9_note 2 = .ok (.lconst 0, 1) := by decide +kernel
theorem dX9_note_3 : decode cX9_note 3 = .ok (.lstore 4, 2) := by decide +kernel
theorem dX9_note_5 : decode cX9_note 5 = .ok (.iconst 0, 1) := by decide +kernel
theorem dX9_note_6 : decode cX9_note 6 = .ok (.istore 6, 2) := by decide +kernel
theorem dX9_note_8 : decode cX9_note 8 = .ok (.iload 6, 2) := by decide +kernel
theorem dX9_note_10 : decode cX9_note 10 = .ok (.bipush 8, 2) := by decide +kernel
theorem dX9_note_12 : decode cX9_note 12 = .ok (.if_icmp .ge 144, 3) := by decide +kernel
theorem dX9_note_15 : decode cX9_note 15 = .ok (.aload_n 0, 1) := by decide +kernel
theorem dX9_note_16 : decode cX9_note 16 = .ok (.getfield 88, 3) := by decide +kernel
theorem dX9_note_19 : decode cX9_note 19 = .ok (.iload 6, 2) := by decide +kernel
theorem dX9_note_21 : decode cX9_note 21 = .ok (.invokestatic 98, 3) := by decide +kernel
theorem dX9_note_24 : decode cX9_note 24 = .ok (.istore 7, 2) := by decide +kernel
theorem dX9_note_26 : decode cX9_note 26 = .ok (.lload_n 2, 1) := by decide +kernel
theorem dX9_note_27 : decode cX9_note 27 = .ok (.ldc2_w 207, 3) := by decide +kernel
theorem dX9_note_30 : decode cX9_note 30 = .ok (.lmul, 1) := by decide +kernel
theorem dX9_note_31 : decode cX9_note 31 = .ok (.iload 7, 2) := by decide +kernel
theorem dX9_note_33 : decode cX9_note 33 = .ok (.ifCond .eq 23, 3) := by decide +kernel
theorem dX9_note_36 : decode cX9_note 36 = .ok (.aload_n 0, 1) := by decide +kernel
theorem dX9_note_37 : decode cX9_note 37 = .ok (.getfield 47, 3) := by decide +kernel
theorem dX9_note_40 : decode cX9_note 40 = .ok (.iload 6, 2) := by decide +kernel
theorem dX9_note_42 : decode cX9_note 42 = .ok (.iaload, 1) := by decide +kernel
theorem dX9_note_43 : decode cX9_note 43 = .ok (.iconst 4, 1) := by decide +kernel
theorem dX9_note_44 : decode cX9_note 44 = .ok (.imul, 1) := by decide +kernel
theorem dX9_note_45 : decode cX9_note 45 = .ok (.aload_n 0, 1) := by decide +kernel
theorem dX9_note_46 : decode cX9_note 46 = .ok (.getfield 50, 3) := by decide +kernel
theorem dX9_note_49 : decode cX9_note 49 = .ok (.iload 6, 2) := by decide +kernel
theorem dX9_note_51 : decode cX9_note 51 = .ok (.iaload, 1) := by decide +kernel
theorem dX9_note_52 : decode cX9_note 52 = .ok (.iadd, 1) := by decide +kernel
theorem dX9_note_53 : decode cX9_note 53 = .ok (.goto 4, 3) := by decide +kernel
theorem dX9_note_56 : decode cX9_note 56 = .ok (.iconst 0, 1) := by decide +kernel
theorem dX9_note_57 : decode cX9_note 57 = .ok (.i2l, 1) := by decide +kernel
theorem dX9_note_58 : decode cX9_note 58 = .ok (.ladd, 1) := by decide +kernel
theorem dX9_note_59 : decode cX9_note 59 = .ok (.lstore_n 2, 1) := by decide +kernel
theorem dX9_note_60 : decode cX9_note 60 = .ok (.iload 7, 2) := by decide +kernel
theorem dX9_note_62 : decode cX9_note 62 = .ok (.ifCond .eq 18, 3) := by decide +kernel
theorem dX9_note_65 : decode cX9_note 65 = .ok (.aload_n 0, 1) := by decide +kernel
theorem dX9_note_66 : decode cX9_note 66 = .ok (.getfield 50, 3) := by decide +kernel
theorem dX9_note_69 : decode cX9_note 69 = .ok (.iload 6, 2) := by decide +kernel
theorem dX9_note_71 : decode cX9_note 71 = .ok (.iaload, 1) := by decide +kernel
theorem dX9_note_72 : decode cX9_note 72 = .ok (.iconst 1, 1) := by decide +kernel
theorem dX9_note_73 : decode cX9_note 73 = .ok (.if_icmp .ne 7, 3) := by decide +kernel
theorem dX9_note_76 : decode cX9_note 76 = .ok (.iconst 1, 1) := by decide +kernel
theorem dX9_note_77 : decode cX9_note 77 = .ok (.goto 4, 3) := by decide +kernel
theorem dX9_note_80 : decode cX9_note 80 = .ok (.iconst 0, 1) := by decide +kernel
theorem dX9_note_81 : decode cX9_note 81 = .ok (.istore 8, 2) := by decide +kernel
theorem dX9_note_83 : decode cX9_note 83 = .ok (.lload 4, 2) := by decide +kernel
theorem dX9_note_85 : decode cX9_note 85 = .ok (.ldc2_w 209, 3) := by decide +kernel
theorem dX9_note_88 : decode cX9_note 88 = .ok (.lmul, 1) := by decide +kernel
theorem dX9_note_89 : decode cX9_note 89 = .ok (.iload 8, 2) := by decide +kernel
theorem dX9_note_91 : decode cX9_note 91 = .ok (.ifCond .eq 28, 3) := by decide +kernel
theorem dX9_note_94 : decode cX9_note 94 = .ok (.iconst 1, 1) := by decide +kernel
theorem dX9_note_95 : decode cX9_note 95 = .ok (.aload_n 0, 1) := by decide +kernel
theorem dX9_note_96 : decode cX9_note 96 = .ok (.getfield 53, 3) := by decide +kernel
theorem dX9_note_99 : decode cX9_note 99 = .ok (.iload 6, 2) := by decide +kernel
theorem dX9_note_101 : decode cX9_note 101 = .ok (.iaload, 1) := by decide +kernel
theorem dX9_note_102 : decode cX9_note 102 = .ok (.bipush 9, 2) := by decide +kernel
theorem dX9_note_104 : decode cX9_note 104 = .ok (.imul, 1) := by decide +kernel
theorem dX9_note_105 : decode cX9_note 105 = .ok (.iadd, 1) := by decide +kernel
theorem dX9_note_106 : decode cX9_note 106 = .ok (.aload_n 0, 1) := by decide +kernel
theorem dX9_note_107 : decode cX9_note 107 = .ok (.getfield 56, 3) := by decide +kernel
theorem dX9_note_110 : decode cX9_note 110 = .ok (.iload 6, 2) := by decide +kernel
theorem dX9_note_112 : decode cX9_note 112 = .ok (.iaload, 1) := by decide +kernel
theorem dX9_note_113 : decode cX9_note 113 = .ok (.iadd, 1) := by decide +kernel
theorem dX9_note_114 : decode cX9_note 114 = .ok (.iconst 1, 1) := by decide +kernel
theorem dX9_note_115 : decode cX9_note 115 = .ok (.isub, 1) := by decide +kernel
theorem dX9_note_116 : decode cX9_note 116 = .ok (.goto 30, 3) := by decide +kernel
theorem dX9_note_119 : decode cX9_note 119 = .ok (.iload 7, 2) := by decide +kernel
theorem dX9_note_121 : decode cX9_note 121 = .ok (.ifCond .eq 24, 3) := by decide +kernel
theorem dX9_note_124 : decode cX9_note 124 = .ok (.aload_n 0, 1) := by decide +kernel
theorem dX9_note_125 : decode cX9_note 125 = .ok (.getfield 50, 3) := by decide +kernel
theorem dX9_note_128 : decode cX9_note 128 = .ok (.iload 6, 2) := by decide +kernel
theorem dX9_note_130 : decode cX9_note 130 = .ok (.iaload, 1) := by decide +kernel
theorem dX9_note_131 : decode cX9_note 131 = .ok (.iconst 3, 1) := by decide +kernel
theorem dX9_note_132 : decode cX9_note 132 = .ok (.if_icmp .ne 13, 3) := by decide +kernel
theorem dX9_note_135 : decode cX9_note 135 = .ok (.aload_n 0, 1) := by decide +kernel
theorem dX9_note_136 : decode cX9_note 136 = .ok (.getfield 53, 3) := by decide +kernel
theorem dX9_note_139 : decode cX9_note 139 = .ok (.iload 6, 2) := by decide +kernel
theorem dX9_note_141 : decode cX9_note 141 = .ok (.iaload, 1) := by decide +kernel
theorem dX9_note_142 : decode cX9_note 142 = .ok (.goto 4, 3) := by decide +kernel
theorem dX9_note_145 : decode cX9_note 145 = .ok (.iconst 0, 1) := by decide +kernel
theorem dX9_note_146 : decode cX9_note 146 = .ok (.i2l, 1) := by decide +kernel
theorem dX9_note_147 : decode cX9_note 147 = .ok (.ladd, 1) := by decide +kernel
theorem dX9_note_148 : decode cX9_note 148 = .ok (.lstore 4, 2) := by decide +kernel
theorem dX9_note_150 : decode cX9_note 150 = .ok (.iinc 6 1, 3) := by decide +kernel
theorem dX9_note_153 : decode cX9_note 153 = .ok (.goto (-145), 3) := by decide +kernel
theorem dX9_note_156 : decode cX9_note 156 = .ok (.aload_n 0, 1) := by decide +kernel
theorem dX9_note_157 : decode cX9_note 157 = .ok (.getfield 65, 3) := by decide +kernel
theorem dX9_note_160 : decode cX9_note 160 = .ok (.iconst 2, 1) := by decide +kernel
theorem dX9_note_161 : decode cX9_note 161 = .ok (.iload_n 1, 1) := by decide +kernel
theorem dX9_note_162 : decode cX9_note 162 = .ok (.imul, 1) := by decide +kernel
theorem dX9_note_163 : decode cX9_note 163 = .ok (.lload_n 2, 1) := by decide +kernel
theorem dX9_note_164 : decode cX9_note 164 = .ok (.lastore, 1) := by decide +kernel
theorem dX9_note_165 : decode cX9_note 165 = .ok (.aload_n 0, 1) := by decide +kernel
theorem dX9_note_166 : decode cX9_note 166 = .ok (.getfield 65, 3) := by decide +kernel
theorem dX9_note_169 : decode cX9_note 169 = .ok (.iconst 2, 1) := by decide +kernel
theorem dX9_note_170 : decode cX9_note 170 = .ok (.iload_n 1, 1) := by decide +kernel
theorem dX9_note_171 : decode cX9_note 171 = .ok (.imul, 1) := by decide +kernel
theorem dX9_note_172 : decode cX9_note 172 = .ok (.iconst 1, 1) := by decide +kernel
theorem dX9_note_173 : decode cX9_note 173 = .ok (.iadd, 1) := by decide +kernel
theorem dX9_note_174 : decode cX9_note 174 = .ok (.lload 4, 2) := by decide +kernel
theorem dX9_note_176 : decode cX9_note 176 = .ok (.lastore, 1) := by decide +kernel
theorem dX9_note_177 : decode cX9_note 177 = .ok (.return_, 1) := by decide +kernel
theorem dX9_round_0 : decode cX9_round 0 = .ok (.aload_n 0, 1) := by decide +kernel
theorem dX9_round_1 : decode cX9_round 1 = .ok (.invokevirtual 204, 3) := by decide +kernel
theorem dX9_round_4 : decode cX9_round 4 = .ok (.ifCond .lt 6, 3) := by decide +kernel
theorem dX9_round_7 : decode cX9_round 7 = .ok (.bipush (-6), 2) := by decide +kernel
theorem dX9_round_9 : decode cX9_round 9 = .ok (.ireturn, 1) := by decide +kernel
theorem dX9_round_10 : decode cX9_round 10 = .ok (.aload_n 0, 1) := by decide +kernel
theorem dX9_round_11 : decode cX9_round 11 = .ok (.invokevirtual 157, 3) := by decide +kernel
theorem dX9_round_14 : decode cX9_round 14 = .ok (.aload_n 0, 1) := by decide +kernel
theorem dX9_round_15 : decode cX9_round 15 = .ok (.iconst 0, 1) := by decide +kernel
theorem dX9_round_16 : decode cX9_round 16 = .ok (.invokevirtual 211, 3) := by decide +kernel
theorem dX9_round_19 : decode cX9_round 19 = .ok (.iconst 1, 1) := by decide +kernel
theorem dX9_round_20 : decode cX9_round 20 = .ok (.istore_n 1, 1) := by decide +kernel
theorem dX9_round_21 : decode cX9_round 21 = .ok (.iload_n 1, 1) := by decide +kernel
theorem dX9_round_22 : decode cX9_round 22 = .ok (.bipush 100, 2) := by decide +kernel
theorem dX9_round_24 : decode cX9_round 24 = .ok (.if_icmp .ge 80, 3) := by decide +kernel
theorem dX9_round_27 : decode cX9_round 27 = .ok (.aload_n 0, 1) := by decide +kernel
theorem dX9_round_28 : decode cX9_round 28 = .ok (.invokevirtual 166, 3) := by decide +kernel
theorem dX9_round_31 : decode cX9_round 31 = .ok (.pop, 1) := by decide +kernel
theorem dX9_round_32 : decode cX9_round 32 = .ok (.aload_n 0, 1) := by decide +kernel
theorem dX9_round_33 : decode cX9_round 33 = .ok (.iload_n 1, 1) := by decide +kernel
theorem dX9_round_34 : decode cX9_round 34 = .ok (.invokevirtual 211, 3) := by decide +kernel
theorem dX9_round_37 : decode cX9_round 37 = .ok (.iconst 0, 1) := by decide +kernel
theorem dX9_round_38 : decode cX9_round 38 = .ok (.istore_n 2, 1) := by decide +kernel
theorem dX9_round_39 : decode cX9_round 39 = .ok (.iload_n 2, 1) := by decide +kernel
theorem dX9_round_40 : decode cX9_round 40 = .ok (.iload_n 1, 1) := by decide +kernel
theorem dX9_round_41 : decode cX9_round 41 = .ok (.if_icmp .ge 57, 3) := by decide +kernel
theorem dX9_round_44 : decode cX9_round 44 = .ok (.aload_n 0, 1) := by decide +kernel
theorem dX9_round_45 : decode cX9_round 45 = .ok (.getfield 65, 3) := by decide +kernel
theorem dX9_round_48 : decode cX9_round 48 = .ok (.iconst 2, 1) := by decide +kernel
theorem dX9_round_49 : decode cX9_round 49 = .ok (.iload_n 2, 1) := by decide +kernel
theorem dX9_round_50 : decode cX9_round 50 = .ok (.imul, 1) := by decide +kernel
theorem dX9_round_51 : decode cX9_round 51 = .ok (.laload, 1) := by decide +kernel
theorem dX9_round_52 : decode cX9_round 52 = .ok (.aload_n 0, 1) := by decide +kernel
theorem dX9_round_53 : decode cX9_round 53 = .ok (.getfield 65, 3) := by decide +kernel
theorem dX9_round_56 : decode cX9_round 56 = .ok (.iconst 2, 1) := by decide +kernel
theorem dX9_round_57 : decode cX9_round 57 = .ok (.iload_n 1, 1) := by decide +kernel
theorem dX9_round_58 : decode cX9_round 58 = .ok (.imul, 1) := by decide +kernel
theorem dX9_round_59 : decode cX9_round 59 = .ok (.laload, 1) := by decide +kernel
theorem dX9_round_60 : decode cX9_round 60 = .ok (.lcmp, 1) := by decide +kernel
theorem dX9_round_61 : decode cX9_round 61 = .ok (.ifCond .ne 31, 3) := by decide +kernel
theorem dX9_round_64 : decode cX9_round 64 = .ok (.aload_n 0, 1) := by decide +kernel
theorem dX9_round_65 : decode cX9_round 65 = .ok (.getfield 65, 3) := by decide +kernel
theorem dX9_round_68 : decode cX9_round 68 = .ok (.iconst 2, 1) := by decide +kernel
theorem dX9_round_69 : decode cX9_round 69 = .ok (.iload_n 2, 1) := by decide +kernel
theorem dX9_round_70 : decode cX9_round 70 = .ok (.imul, 1) := by decide +kernel
theorem dX9_round_71 : decode cX9_round 71 = .ok (.iconst 1, 1) := by decide +kernel
theorem dX9_round_72 : decode cX9_round 72 = .ok (.iadd, 1) := by decide +kernel
theorem dX9_round_73 : decode cX9_round 73 = .ok (.laload, 1) := by decide +kernel
theorem dX9_round_74 : decode cX9_round 74 = .ok (.aload_n 0, 1) := by decide +kernel
theorem dX9_round_75 : decode cX9_round 75 = .ok (.getfield 65, 3) := by decide +kernel
theorem dX9_round_78 : decode cX9_round 78 = .ok (.iconst 2, 1) := by decide +kernel
theorem dX9_round_79 : decode cX9_round 79 = .ok (.iload_n 1, 1) := by decide +kernel
theorem dX9_round_80 : decode cX9_round 80 = .ok (.imul, 1) := by decide +kernel
theorem dX9_round_81 : decode cX9_round 81 = .ok (.iconst 1, 1) := by decide +kernel
theorem dX9_round_82 : decode cX9_round 82 = .ok (.iadd, 1) := by decide +kernel
theorem dX9_round_83 : decode cX9_round 83 = .ok (.laload, 1) := by decide +kernel
theorem dX9_round_84 : decode cX9_round 84 = .ok (.lcmp, 1) := by decide +kernel
theorem dX9_round_85 : decode cX9_round 85 = .ok (.ifCond .ne 7, 3) := by decide +kernel
theorem dX9_round_88 : decode cX9_round 88 = .ok (.iload_n 1, 1) := by decide +kernel
theorem dX9_round_89 : decode cX9_round 89 = .ok (.iload_n 2, 1) := by decide +kernel
theorem dX9_round_90 : decode cX9_round 90 = .ok (.isub, 1) := by decide +kernel
theorem dX9_round_91 : decode cX9_round 91 = .ok (.ireturn, 1) := by decide +kernel
theorem dX9_round_92 : decode cX9_round 92 = .ok (.iinc 2 1, 3) := by decide +kernel
theorem dX9_round_95 : decode cX9_round 95 = .ok (.goto (-56), 3) := by decide +kernel
theorem dX9_round_98 : decode cX9_round 98 = .ok (.iinc 1 1, 3) := by decide +kernel
theorem dX9_round_101 : decode cX9_round 101 = .ok (.goto (-80), 3) := by decide +kernel
theorem dX9_round_104 : decode cX9_round 104 = .ok (.bipush (-6), 2) := by decide +kernel
end
section
theorem dX9_round_106 : decode cX9_round 106 = .ok (.ireturn, 1) := by decide +kernel
theorem dX9_fullest_0 : decode cX9_fullest 0 = .ok (.iconst 0, 1) := by decide +kernel
theorem dX9_fullest_1 : decode cX9_fullest 1 = .ok (.istore_n 1, 1) := by decide +kernel
theorem dX9_fullest_2 : decode cX9_fullest 2 = .ok (.iconst 0, 1) := by decide +kernel
theorem dX9_fullest_3 : decode cX9_fullest 3 = .ok (.istore_n 2, 1) := by decide +kernel
theorem dX9_fullest_4 : decode cX9_fullest 4 = .ok (.iload_n 2, 1) := by decide +kernel
theorem dX9_fullest_5 : decode cX9_fullest 5 = .ok (.aload_n 0, 1) := by decide +kernel
theorem dX9_fullest_6 : decode cX9_fullest 6 = .ok (.getfield 7, 3) := by decide +kernel
theorem dX9_fullest_9 : decode cX9_fullest 9 = .ok (.if_icmp .ge 28, 3) := by decide +kernel
theorem dX9_fullest_12 : decode cX9_fullest 12 = .ok (.aload_n 0, 1) := by decide +kernel
theorem dX9_fullest_13 : decode cX9_fullest 13 = .ok (.iload_n 2, 1) := by decide +kernel
theorem dX9_fullest_14 : decode cX9_fullest 14 = .ok (.bipush (-6), 2) := by decide +kernel
theorem dX9_fullest_16 : decode cX9_fullest 16 = .ok (.invokevirtual 134, 3) := by decide +kernel
theorem dX9_fullest_19 : decode cX9_fullest 19 = .ok (.istore_n 3, 1) := by decide +kernel
theorem dX9_fullest_20 : decode cX9_fullest 20 = .ok (.iload_n 3, 1) := by decide +kernel
theorem dX9_fullest_21 : decode cX9_fullest 21 = .ok (.iload_n 1, 1) := by decide +kernel
theorem dX9_fullest_22 : decode cX9_fullest 22 = .ok (.if_icmp .le 7, 3) := by decide +kernel
theorem dX9_fullest_25 : decode cX9_fullest 25 = .ok (.iload_n 3, 1) := by decide +kernel
theorem dX9_fullest_26 : decode cX9_fullest 26 = .ok (.goto 4, 3) := by decide +kernel
theorem dX9_fullest_29 : decode cX9_fullest 29 = .ok (.iload_n 1, 1) := by decide +kernel
theorem dX9_fullest_30 : decode cX9_fullest 30 = .ok (.istore_n 1, 1) := by decide +kernel
theorem dX9_fullest_31 : decode cX9_fullest 31 = .ok (.iinc 2 1, 3) := by decide +kernel
theorem dX9_fullest_34 : decode cX9_fullest 34 = .ok (.goto (-30), 3) := by decide +kernel
theorem dX9_fullest_37 : decode cX9_fullest 37 = .ok (.iload_n 1, 1) := by decide +kernel
theorem dX9_fullest_38 : decode cX9_fullest 38 = .ok (.ireturn, 1) := by decide +kernel
theorem dX9_throng_0 : decode cX9_throng 0 = .ok (.iload_n 1, 1) := by decide +kernel
theorem dX9_throng_1 : decode cX9_throng 1 = .ok (.iconst 1, 1) := by decide +kernel
theorem dX9_throng_2 : decode cX9_throng 2 = .ok (.bipush 99, 2) := by decide +kernel
theorem dX9_throng_4 : decode cX9_throng 4 = .ok (.invokestatic 94, 3) := by decide +kernel
theorem dX9_throng_7 : decode cX9_throng 7 = .ok (.ifCond .ne 6, 3) := by decide +kernel
theorem dX9_throng_10 : decode cX9_throng 10 = .ok (.bipush (-2), 2) := by decide +kernel
theorem dX9_throng_12 : decode cX9_throng 12 = .ok (.ireturn, 1) := by decide +kernel
theorem dX9_throng_13 : decode cX9_throng 13 = .ok (.aload_n 0, 1) := by decide +kernel
theorem dX9_throng_14 : decode cX9_throng 14 = .ok (.invokevirtual 157, 3) := by decide +kernel
theorem dX9_throng_17 : decode cX9_throng 17 = .ok (.iconst 0, 1) := by decide +kernel
theorem dX9_throng_18 : decode cX9_throng 18 = .ok (.istore_n 2, 1) := by decide +kernel
theorem dX9_throng_19 : decode cX9_throng 19 = .ok (.iconst 0, 1) := by decide +kernel
theorem dX9_throng_20 : decode cX9_throng 20 = .ok (.istore_n 3, 1) := by decide +kernel
theorem dX9_throng_21 : decode cX9_throng 21 = .ok (.iload_n 3, 1) := by decide +kernel
theorem dX9_throng_22 : decode cX9_throng 22 = .ok (.iload_n 1, 1) := by decide +kernel
theorem dX9_throng_23 : decode cX9_throng 23 = .ok (.if_icmp .ge 33, 3) := by decide +kernel
theorem dX9_throng_26 : decode cX9_throng 26 = .ok (.aload_n 0, 1) := by decide +kernel
theorem dX9_throng_27 : decode cX9_throng 27 = .ok (.invokevirtual 166, 3) := by decide +kernel
theorem dX9_throng_30 : decode cX9_throng 30 = .ok (.pop, 1) := by decide +kernel
theorem dX9_throng_31 : decode cX9_throng 31 = .ok (.aload_n 0, 1) := by decide +kernel
theorem dX9_throng_32 : decode cX9_throng 32 = .ok (.invokevirtual 214, 3) := by decide +kernel
theorem dX9_throng_35 : decode cX9_throng 35 = .ok (.istore 4, 2) := by decide +kernel
theorem dX9_throng_37 : decode cX9_throng 37 = .ok (.iload 4, 2) := by decide +kernel
theorem dX9_throng_39 : decode cX9_throng 39 = .ok (.iload_n 2, 1) := by decide +kernel
theorem dX9_throng_40 : decode cX9_throng 40 = .ok (.if_icmp .le 8, 3) := by decide +kernel
theorem dX9_throng_43 : decode cX9_throng 43 = .ok (.iload 4, 2) := by decide +kernel
theorem dX9_throng_45 : decode cX9_throng 45 = .ok (.goto 4, 3) := by decide +kernel
theorem dX9_throng_48 : decode cX9_throng 48 = .ok (.iload_n 2, 1) := by decide +kernel
theorem dX9_throng_49 : decode cX9_throng 49 = .ok (.istore_n 2, 1) := by decide +kernel
theorem dX9_throng_50 : decode cX9_throng 50 = .ok (.iinc 3 1, 3) := by decide +kernel
theorem dX9_throng_53 : decode cX9_throng 53 = .ok (.goto (-32), 3) := by decide +kernel
theorem dX9_throng_56 : decode cX9_throng 56 = .ok (.iload_n 2, 1) := by decide +kernel
theorem dX9_throng_57 : decode cX9_throng 57 = .ok (.ireturn, 1) := by decide +kernel
theorem dX9_carried_0 : decode cX9_carried 0 = .ok (.iload_n 1, 1) := by decide +kernel
theorem dX9_carried_1 : decode cX9_carried 1 = .ok (.iconst 0, 1) := by decide +kernel
theorem dX9_carried_2 : decode cX9_carried 2 = .ok (.bipush 20, 2) := by decide +kernel
theorem dX9_carried_4 : decode cX9_carried 4 = .ok (.invokestatic 94, 3) := by decide +kernel
theorem dX9_carried_7 : decode cX9_carried 7 = .ok (.ifCond .eq 12, 3) := by decide +kernel
theorem dX9_carried_10 : decode cX9_carried 10 = .ok (.iload_n 2, 1) := by decide +kernel
theorem dX9_carried_11 : decode cX9_carried 11 = .ok (.iconst 0, 1) := by decide +kernel
theorem dX9_carried_12 : decode cX9_carried 12 = .ok (.iconst 1, 1) := by decide +kernel
theorem dX9_carried_13 : decode cX9_carried 13 = .ok (.invokestatic 94, 3) := by decide +kernel
theorem dX9_carried_16 : decode cX9_carried 16 = .ok (.ifCond .ne 6, 3) := by decide +kernel
theorem dX9_carried_19 : decode cX9_carried 19 = .ok (.bipush (-2), 2) := by decide +kernel
theorem dX9_carried_21 : decode cX9_carried 21 = .ok (.ireturn, 1) := by decide +kernel
theorem dX9_carried_22 : decode cX9_carried 22 = .ok (.aload_n 0, 1) := by decide +kernel
theorem dX9_carried_23 : decode cX9_carried 23 = .ok (.invokevirtual 157, 3) := by decide +kernel
theorem dX9_carried_26 : decode cX9_carried 26 = .ok (.aload_n 0, 1) := by decide +kernel
theorem dX9_carried_27 : decode cX9_carried 27 = .ok (.iload_n 1, 1) := by decide +kernel
theorem dX9_carried_28 : decode cX9_carried 28 = .ok (.invokevirtual 198, 3) := by decide +kernel
theorem dX9_carried_31 : decode cX9_carried 31 = .ok (.aload_n 0, 1) := by decide +kernel
theorem dX9_carried_32 : decode cX9_carried 32 = .ok (.invokevirtual 214, 3) := by decide +kernel
theorem dX9_carried_35 : decode cX9_carried 35 = .ok (.istore_n 3, 1) := by decide +kernel
theorem dX9_carried_36 : decode cX9_carried 36 = .ok (.iconst 0, 1) := by decide +kernel
theorem dX9_carried_37 : decode cX9_carried 37 = .ok (.istore 4, 2) := by decide +kernel
theorem dX9_carried_39 : decode cX9_carried 39 = .ok (.iconst 0, 1) := by decide +kernel
theorem dX9_carried_40 : decode cX9_carried 40 = .ok (.istore 5, 2) := by decide +kernel
theorem dX9_carried_42 : decode cX9_carried 42 = .ok (.iload 5, 2) := by decide +kernel
theorem dX9_carried_44 : decode cX9_carried 44 = .ok (.sipush 144, 3) := by decide +kernel
theorem dX9_carried_47 : decode cX9_carried 47 = .ok (.if_icmp .ge 129, 3) := by decide +kernel
theorem dX9_carried_50 : decode cX9_carried 50 = .ok (.iload 5, 2) := by decide +kernel
theorem dX9_carried_52 : decode cX9_carried 52 = .ok (.bipush 24, 2) := by decide +kernel
theorem dX9_carried_54 : decode cX9_carried 54 = .ok (.idiv, 1) := by decide +kernel
theorem dX9_carried_55 : decode cX9_carried 55 = .ok (.istore 6, 2) := by decide +kernel
theorem dX9_carried_57 : decode cX9_carried 57 = .ok (.iload 5, 2) := by decide +kernel
theorem dX9_carried_59 : decode cX9_carried 59 = .ok (.iconst 4, 1) := by decide +kernel
theorem dX9_carried_60 : decode cX9_carried 60 = .ok (.idiv, 1) := by decide +kernel
theorem dX9_carried_61 : decode cX9_carried 61 = .ok (.bipush 6, 2) := by decide +kernel
theorem dX9_carried_63 : decode cX9_carried 63 = .ok (.irem, 1) := by decide +kernel
theorem dX9_carried_64 : decode cX9_carried 64 = .ok (.istore 7, 2) := by decide +kernel
theorem dX9_carried_66 : decode cX9_carried 66 = .ok (.aload_n 0, 1) := by decide +kernel
theorem dX9_carried_67 : decode cX9_carried 67 = .ok (.invokevirtual 157, 3) := by decide +kernel
theorem dX9_carried_70 : decode cX9_carried 70 = .ok (.iload 6, 2) := by decide +kernel
theorem dX9_carried_72 : decode cX9_carried 72 = .ok (.aload_n 0, 1) := by decide +kernel
theorem dX9_carried_73 : decode cX9_carried 73 = .ok (.getfield 7, 3) := by decide +kernel
theorem dX9_carried_76 : decode cX9_carried 76 = .ok (.if_icmp .ge 94, 3) := by decide +kernel
theorem dX9_carried_79 : decode cX9_carried 79 = .ok (.iload 7, 2) := by decide +kernel
theorem dX9_carried_81 : decode cX9_carried 81 = .ok (.aload_n 0, 1) := by decide +kernel
theorem dX9_carried_82 : decode cX9_carried 82 = .ok (.getfield 7, 3) := by decide +kernel
theorem dX9_carried_85 : decode cX9_carried 85 = .ok (.if_icmp .ge 85, 3) := by decide +kernel
theorem dX9_carried_88 : decode cX9_carried 88 = .ok (.aload_n 0, 1) := by decide +kernel
theorem dX9_carried_89 : decode cX9_carried 89 = .ok (.iload 6, 2) := by decide +kernel
theorem dX9_carried_91 : decode cX9_carried 91 = .ok (.iload 7, 2) := by decide +kernel
theorem dX9_carried_93 : decode cX9_carried 93 = .ok (.iload 5, 2) := by decide +kernel
theorem dX9_carried_95 : decode cX9_carried 95 = .ok (.iconst 4, 1) := by decide +kernel
theorem dX9_carried_96 : decode cX9_carried 96 = .ok (.irem, 1) := by decide +kernel
theorem dX9_carried_97 : decode cX9_carried 97 = .ok (.invokevirtual 169, 3) := by decide +kernel
theorem dX9_carried_100 : decode cX9_carried 100 = .ok (.ifCond .ne 70, 3) := by decide +kernel
theorem dX9_carried_103 : decode cX9_carried 103 = .ok (.aload_n 0, 1) := by decide +kernel
theorem dX9_carried_104 : decode cX9_carried 104 = .ok (.iload 6, 2) := by decide +kernel
theorem dX9_carried_106 : decode cX9_carried 106 = .ok (.iload 7, 2) := by decide +kernel
theorem dX9_carried_108 : decode cX9_carried 108 = .ok (.iload 5, 2) := by decide +kernel
theorem dX9_carried_110 : decode cX9_carried 110 = .ok (.iconst 4, 1) := by decide +kernel
theorem dX9_carried_111 : decode cX9_carried 111 = .ok (.irem, 1) := by decide +kernel
theorem dX9_carried_112 : decode cX9_carried 112 = .ok (.invokevirtual 172, 3) := by decide +kernel
theorem dX9_carried_115 : decode cX9_carried 115 = .ok (.aload_n 0, 1) := by decide +kernel
theorem dX9_carried_116 : decode cX9_carried 116 = .ok (.iload_n 1, 1) := by decide +kernel
theorem dX9_carried_117 : decode cX9_carried 117 = .ok (.invokevirtual 198, 3) := by decide +kernel
theorem dX9_carried_120 : decode cX9_carried 120 = .ok (.aload_n 0, 1) := by decide +kernel
theorem dX9_carried_121 : decode cX9_carried 121 = .ok (.invokevirtual 214, 3) := by decide +kernel
theorem dX9_carried_124 : decode cX9_carried 124 = .ok (.istore 8, 2) := by decide +kernel
theorem dX9_carried_126 : decode cX9_carried 126 = .ok (.iload 8, 2) := by decide +kernel
theorem dX9_carried_128 : decode cX9_carried 128 = .ok (.iload_n 3, 1) := by decide +kernel
theorem dX9_carried_129 : decode cX9_carried 129 = .ok (.if_icmp .ge 24, 3) := by decide +kernel
theorem dX9_carried_132 : decode cX9_carried 132 = .ok (.bipush 100, 2) := by decide +kernel
theorem dX9_carried_134 : decode cX9_carried 134 = .ok (.iload 6, 2) := by decide +kernel
theorem dX9_carried_136 : decode cX9_carried 136 = .ok (.iconst 1, 1) := by decide +kernel
theorem dX9_carried_137 : decode cX9_carried 137 = .ok (.iadd, 1) := by decide +kernel
theorem dX9_carried_138 : decode cX9_carried 138 = .ok (.imul, 1) := by decide +kernel
theorem dX9_carried_139 : decode cX9_carried 139 = .ok (.bipush 10, 2) := by decide +kernel
theorem dX9_carried_141 : decode cX9_carried 141 = .ok (.iload 7, 2) := by decide +kernel
theorem dX9_carried_143 : decode cX9_carried 143 = .ok (.imul, 1) := by decide +kernel
theorem dX9_carried_144 : decode cX9_carried 144 = .ok (.iadd, 1) := by decide +kernel
theorem dX9_carried_145 : decode cX9_carried 145 = .ok (.iload 5, 2) := by decide +kernel
theorem dX9_carried_147 : decode cX9_carried 147 = .ok (.iconst 4, 1) := by decide +kernel
theorem dX9_carried_148 : decode cX9_carried 148 = .ok (.irem, 1) := by decide +kernel
theorem dX9_carried_149 : decode cX9_carried 149 = .ok (.iadd, 1) := by decide +kernel
theorem dX9_carried_150 : decode cX9_carried 150 = .ok (.goto 5, 3) := by decide +kernel
theorem dX9_carried_153 : decode cX9_carried 153 = .ok (.iload 4, 2) := by decide +kernel
theorem dX9_carried_155 : decode cX9_carried 155 = .ok (.istore 4, 2) := by decide +kernel
theorem dX9_carried_157 : decode cX9_carried 157 = .ok (.iload 8, 2) := by decide +kernel
theorem dX9_carried_159 : decode cX9_carried 159 = .ok (.iload_n 3, 1) := by decide +kernel
theorem dX9_carried_160 : decode cX9_carried 160 = .ok (.if_icmp .ge 8, 3) := by decide +kernel
theorem dX9_carried_163 : decode cX9_carried 163 = .ok (.iload 8, 2) := by decide +kernel
theorem dX9_carried_165 : decode cX9_carried 165 = .ok (.goto 4, 3) := by decide +kernel
theorem dX9_carried_168 : decode cX9_carried 168 = .ok (.iload_n 3, 1) := by decide +kernel
theorem dX9_carried_169 : decode cX9_carried 169 = .ok (.istore_n 3, 1) := by decide +kernel
theorem dX9_carried_170 : decode cX9_carried 170 = .ok (.iinc 5 1, 3) := by decide +kernel
theorem dX9_carried_173 : decode cX9_carried 173 = .ok (.goto (-131), 3) := by decide +kernel
theorem dX9_carried_176 : decode cX9_carried 176 = .ok (.iload_n 2, 1) := by decide +kernel
theorem dX9_carried_177 : decode cX9_carried 177 = .ok (.ifCond .ne 7, 3) := by decide +kernel
theorem dX9_carried_180 : decode cX9_carried 180 = .ok (.iload_n 3, 1) := by decide +kernel
theorem dX9_carried_181 : decode cX9_carried 181 = .ok (.goto 5, 3) := by decide +kernel
theorem dX9_carried_184 : decode cX9_carried 184 = .ok (.iload 4, 2) := by decide +kernel
theorem dX9_carried_186 : decode cX9_carried 186 = .ok (.ireturn, 1) := by decide +kernel
theorem dX9_hinges_0 : decode cX9_hinges 0 = .ok (.iload_n 1, 1) := by decide +kernel
theorem dX9_hinges_1 : decode cX9_hinges 1 = .ok (.iconst 0, 1) := by decide +kernel
theorem dX9_hinges_2 : decode cX9_hinges 2 = .ok (.bipush 20, 2) := by decide +kernel
theorem dX9_hinges_4 : decode cX9_hinges 4 = .ok (.invokestatic 94, 3) := by decide +kernel
theorem dX9_hinges_7 : decode cX9_hinges 7 = .ok (.ifCond .eq 12, 3) := by decide +kernel
theorem dX9_hinges_10 : decode cX9_hinges 10 = .ok (.iload_n 2, 1) := by decide +kernel
theorem dX9_hinges_11 : decode cX9_hinges 11 = .ok (.iconst 0, 1) := by decide +kernel
theorem dX9_hinges_12 : decode cX9_hinges 12 = .ok (.iconst 1, 1) := by decide +kernel
theorem dX9_hinges_13 : decode cX9_hinges 13 = .ok (.invokestatic 94, 3) := by decide +kernel
theorem dX9_hinges_16 : decode cX9_hinges 16 = .ok (.ifCond .ne 6, 3) := by decide +kernel
theorem dX9_hinges_19 : decode cX9_hinges 19 = .ok (.bipush (-2), 2) := by decide +kernel
theorem dX9_hinges_21 : decode cX9_hinges 21 = .ok (.ireturn, 1) := by decide +kernel
theorem dX9_hinges_22 : decode cX9_hinges 22 = .ok (.aload_n 0, 1) := by decide +kernel
theorem dX9_hinges_23 : decode cX9_hinges 23 = .ok (.invokevirtual 157, 3) := by decide +kernel
theorem dX9_hinges_26 : decode cX9_hinges 26 = .ok (.aload_n 0, 1) := by decide +kernel
theorem dX9_hinges_27 : decode cX9_hinges 27 = .ok (.iload_n 1, 1) := by decide +kernel
theorem dX9_hinges_28 : decode cX9_hinges 28 = .ok (.invokevirtual 198, 3) := by decide +kernel
theorem dX9_hinges_31 : decode cX9_hinges 31 = .ok (.aload_n 0, 1) := by decide +kernel
theorem dX9_hinges_32 : decode cX9_hinges 32 = .ok (.invokevirtual 214, 3) := by decide +kernel
theorem dX9_hinges_35 : decode cX9_hinges 35 = .ok (.istore_n 3, 1) := by decide +kernel
theorem dX9_hinges_36 : decode cX9_hinges 36 = .ok (.bipush (-6), 2) := by decide +kernel
theorem dX9_hinges_38 : decode cX9_hinges 38 = .ok (.istore 4, 2) := by decide +kernel
theorem dX9_hinges_40 : decode cX9_hinges 40 = .ok (.iconst 0, 1) := by decide +kernel
theorem dX9_hinges_41 : decode cX9_hinges 41 = .ok (.istore 5, 2) := by decide +kernel
theorem dX9_hinges_43 : decode cX9_hinges 43 = .ok (.iload 5, 2) := by decide +kernel
theorem dX9_hinges_45 : decode cX9_hinges 45 = .ok (.aload_n 0, 1) := by decide +kernel
theorem dX9_hinges_46 : decode cX9_hinges 46 = .ok (.getfield 7, 3) := by decide +kernel
theorem dX9_hinges_49 : decode cX9_hinges 49 = .ok (.if_icmp .ge 107, 3) := by decide +kernel
theorem dX9_hinges_52 : decode cX9_hinges 52 = .ok (.iload 5, 2) := by decide +kernel
theorem dX9_hinges_54 : decode cX9_hinges 54 = .ok (.iconst 1, 1) := by decide +kernel
theorem dX9_hinges_55 : decode cX9_hinges 55 = .ok (.iadd, 1) := by decide +kernel
theorem dX9_hinges_56 : decode cX9_hinges 56 = .ok (.istore 6, 2) := by decide +kernel
theorem dX9_hinges_58 : decode cX9_hinges 58 = .ok (.iload 6, 2) := by decide +kernel
theorem dX9_hinges_60 : decode cX9_hinges 60 = .ok (.aload_n 0, 1) := by decide +kernel
theorem dX9_hinges_61 : decode cX9_hinges 61 = .ok (.getfield 7, 3) := by decide +kernel
theorem dX9_hinges_64 : decode cX9_hinges 64 = .ok (.if_icmp .ge 86, 3) := by decide +kernel
theorem dX9_hinges_67 : decode cX9_hinges 67 = .ok (.aload_n 0, 1) := by decide +kernel
theorem dX9_hinges_68 : decode cX9_hinges 68 = .ok (.getfield 23, 3) := by decide +kernel
theorem dX9_hinges_71 : decode cX9_hinges 71 = .ok (.bipush 6, 2) := by decide +kernel
theorem dX9_hinges_73 : decode cX9_hinges 73 = .ok (.iload 5, 2) := by decide +kernel
theorem dX9_hinges_75 : decode cX9_hinges 75 = .ok (.imul, 1) := by decide +kernel
theorem dX9_hinges_76 : decode cX9_hinges 76 = .ok (.iload 6, 2) := by decide +kernel
theorem dX9_hinges_78 : decode cX9_hinges 78 = .ok (.iadd, 1) := by decide +kernel
theorem dX9_hinges_79 : decode cX9_hinges 79 = .ok (.iaload, 1) := by decide +kernel
theorem dX9_hinges_80 : decode cX9_hinges 80 = .ok (.ifCond .le 64, 3) := by decide +kernel
theorem dX9_hinges_83 : decode cX9_hinges 83 = .ok (.aload_n 0, 1) := by decide +kernel
theorem dX9_hinges_84 : decode cX9_hinges 84 = .ok (.invokevirtual 157, 3) := by decide +kernel
theorem dX9_hinges_87 : decode cX9_hinges 87 = .ok (.aload_n 0, 1) := by decide +kernel
theorem dX9_hinges_88 : decode cX9_hinges 88 = .ok (.bipush 6, 2) := by decide +kernel
theorem dX9_hinges_90 : decode cX9_hinges 90 = .ok (.iload 5, 2) := by decide +kernel
theorem dX9_hinges_92 : decode cX9_hinges 92 = .ok (.imul, 1) := by decide +kernel
theorem dX9_hinges_93 : decode cX9_hinges 93 = .ok (.iload 6, 2) := by decide +kernel
theorem dX9_hinges_95 : decode cX9_hinges 95 = .ok (.iadd, 1) := by decide +kernel
theorem dX9_hinges_96 : decode cX9_hinges 96 = .ok (.putfield 131, 3) := by decide +kernel
theorem dX9_hinges_99 : decode cX9_hinges 99 = .ok (.aload_n 0, 1) := by decide +kernel
theorem dX9_hinges_100 : decode cX9_hinges 100 = .ok (.iload_n 1, 1) := by decide +kernel
theorem dX9_hinges_101 : decode cX9_hinges 101 = .ok (.invokevirtual 198, 3) := by decide +kernel
theorem dX9_hinges_104 : decode cX9_hinges 104 = .ok (.aload_n 0, 1) := by decide +kernel
theorem dX9_hinges_105 : decode cX9_hinges 105 = .ok (.invokevirtual 214, 3) := by decide +kernel
theorem dX9_hinges_108 : decode cX9_hinges 108 = .ok (.istore 7, 2) := by decide +kernel
theorem dX9_hinges_110 : decode cX9_hinges 110 = .ok (.iload 7, 2) := by decide +kernel
theorem dX9_hinges_112 : decode cX9_hinges 112 = .ok (.iload_n 3, 1) := by decide +kernel
theorem dX9_hinges_113 : decode cX9_hinges 113 = .ok (.if_icmp .ge 14, 3) := by decide +kernel
theorem dX9_hinges_116 : decode cX9_hinges 116 = .ok (.bipush 10, 2) := by decide +kernel
theorem dX9_hinges_118 : decode cX9_hinges 118 = .ok (.iload 5, 2) := by decide +kernel
theorem dX9_hinges_120 : decode cX9_hinges 120 = .ok (.imul, 1) := by decide +kernel
theorem dX9_hinges_121 : decode cX9_hinges 121 = .ok (.iload 6, 2) := by decide +kernel
theorem dX9_hinges_123 : decode cX9_hinges 123 = .ok (.iadd, 1) := by decide +kernel
theorem dX9_hinges_124 : decode cX9_hinges 124 = .ok (.goto 5, 3) := by decide +kernel
theorem dX9_hinges_127 : decode cX9_hinges 127 = .ok (.iload 4, 2) := by decide +kernel
theorem dX9_hinges_129 : decode cX9_hinges 129 = .ok (.istore 4, 2) := by decide +kernel
theorem dX9_hinges_131 : decode cX9_hinges 131 = .ok (.iload 7, 2) := by decide +kernel
theorem dX9_hinges_133 : decode cX9_hinges 133 = .ok (.iload_n 3, 1) := by decide +kernel
theorem dX9_hinges_134 : decode cX9_hinges 134 = .ok (.if_icmp .ge 8, 3) := by decide +kernel
theorem dX9_hinges_137 : decode cX9_hinges 137 = .ok (.iload 7, 2) := by decide +kernel
theorem dX9_hinges_139 : decode cX9_hinges 139 = .ok (.goto 4, 3) := by decide +kernel
theorem dX9_hinges_142 : decode cX9_hinges 142 = .ok (.iload_n 3, 1) := by decide +kernel
theorem dX9_hinges_143 : decode cX9_hinges 143 = .ok (.istore_n 3, 1) := by decide +kernel
theorem dX9_hinges_144 : decode cX9_hinges 144 = .ok (.iinc 6 1, 3) := by decide +kernel
theorem dX9_hinges_147 : decode cX9_hinges 147 = .ok (.goto (-89), 3) := by decide +kernel
theorem dX9_hinges_150 : decode cX9_hinges 150 = .ok (.iinc 5 1, 3) := by decide +kernel
theorem dX9_hinges_153 : decode cX9_hinges 153 = .ok (.goto (-110), 3) := by decide +kernel
theorem dX9_hinges_156 : decode cX9_hinges 156 = .ok (.iload_n 2, 1) := by decide +kernel
theorem dX9_hinges_157 : decode cX9_hinges 157 = .ok (.ifCond .ne 7, 3) := by decide +kernel
theorem dX9_hinges_160 : decode cX9_hinges 160 = .ok (.iload_n 3, 1) := by decide +kernel
theorem dX9_hinges_161 : decode cX9_hinges 161 = .ok (.goto 5, 3) := by decide +kernel
theorem dX9_hinges_164 : decode cX9_hinges 164 = .ok (.iload 4, 2) := by decide +kernel
theorem dX9_hinges_166 : decode cX9_hinges 166 = .ok (.ireturn, 1) := by decide +kernel
theorem dX9_best_0 : decode cX9_best 0 = .ok (.aload_n 0, 1) := by decide +kernel
theorem dX9_best_1 : decode cX9_best 1 = .ok (.iload_n 1, 1) := by decide +kernel
theorem dX9_best_2 : decode cX9_best 2 = .ok (.invokevirtual 121, 3) := by decide +kernel
theorem dX9_best_5 : decode cX9_best 5 = .ok (.ifCond .ne 5, 3) := by decide +kernel
theorem dX9_best_8 : decode cX9_best 8 = .ok (.iconst (-1), 1) := by decide +kernel
theorem dX9_best_9 : decode cX9_best 9 = .ok (.ireturn, 1) := by decide +kernel
theorem dX9_best_10 : decode cX9_best 10 = .ok (.aload_n 0, 1) := by decide +kernel
theorem dX9_best_11 : decode cX9_best 11 = .ok (.invokevirtual 157, 3) := by decide +kernel
theorem dX9_best_14 : decode cX9_best 14 = .ok (.aload_n 0, 1) := by decide +kernel
theorem dX9_best_15 : decode cX9_best 15 = .ok (.getfield 47, 3) := by decide +kernel
theorem dX9_best_18 : decode cX9_best 18 = .ok (.iload_n 1, 1) := by decide +kernel
theorem dX9_best_19 : decode cX9_best 19 = .ok (.iaload, 1) := by decide +kernel
theorem dX9_best_20 : decode cX9_best 20 = .ok (.istore_n 2, 1) := by decide +kernel
theorem dX9_best_21 : decode cX9_best 21 = .ok (.aload_n 0, 1) := by decide +kernel
theorem dX9_best_22 : decode cX9_best 22 = .ok (.iload_n 1, 1) := by decide +kernel
theorem dX9_best_23 : decode cX9_best 23 = .ok (.iload_n 2, 1) := by decide +kernel
theorem dX9_best_24 : decode cX9_best 24 = .ok (.bipush (-6), 2) := by decide +kernel
theorem dX9_best_26 : decode cX9_best 26 = .ok (.iconst 0, 1) := by decide +kernel
theorem dX9_best_27 : decode cX9_best 27 = .ok (.invokevirtual 138, 3) := by decide +kernel
theorem dX9_best_30 : decode cX9_best 30 = .ok (.istore_n 3, 1) := by decide +kernel
theorem dX9_best_31 : decode cX9_best 31 = .ok (.iconst 0, 1) := by decide +kernel
theorem dX9_best_32 : decode cX9_best 32 = .ok (.istore 4, 2) := by decide +kernel
theorem dX9_best_34 : decode cX9_best 34 = .ok (.iload 4, 2) := by decide +kernel
theorem dX9_best_36 : decode cX9_best 36 = .ok (.aload_n 0, 1) := by decide +kernel
theorem dX9_best_37 : decode cX9_best 37 = .ok (.getfield 7, 3) := by decide +kernel
theorem dX9_best_40 : decode cX9_best 40 = .ok (.if_icmp .ge 33, 3) := by decide +kernel
theorem dX9_best_43 : decode cX9_best 43 = .ok (.aload_n 0, 1) := by decide +kernel
theorem dX9_best_44 : decode cX9_best 44 = .ok (.iload_n 1, 1) := by decide +kernel
theorem dX9_best_45 : decode cX9_best 45 = .ok (.iload 4, 2) := by decide +kernel
theorem dX9_best_47 : decode cX9_best 47 = .ok (.bipush (-6), 2) := by decide +kernel
theorem dX9_best_49 : decode cX9_best 49 = .ok (.iconst 0, 1) := by decide +kernel
theorem dX9_best_50 : decode cX9_best 50 = .ok (.invokevirtual 138, 3) := by decide +kernel
theorem dX9_best_53 : decode cX9_best 53 = .ok (.istore 5, 2) := by decide +kernel
theorem dX9_best_55 : decode cX9_best 55 = .ok (.iload 5, 2) := by decide +kernel
theorem dX9_best_57 : decode cX9_best 57 = .ok (.iload_n 3, 1) := by decide +kernel
theorem dX9_best_58 : decode cX9_best 58 = .ok (.if_icmp .le 9, 3) := by decide +kernel
theorem dX9_best_61 : decode cX9_best 61 = .ok (.iload 4, 2) := by decide +kernel
theorem dX9_best_63 : decode cX9_best 63 = .ok (.istore_n 2, 1) := by decide +kernel
theorem dX9_best_64 : decode cX9_best 64 = .ok (.iload 5, 2) := by decide +kernel
theorem dX9_best_66 : decode cX9_best 66 = .ok (.istore_n 3, 1) := by decide +kernel
theorem dX9_best_67 : decode cX9_best 67 = .ok (.iinc 4 1, 3) := by decide +kernel
theorem dX9_best_70 : decode cX9_best 70 = .ok (.goto (-36), 3) := by decide +kernel
theorem dX9_best_73 : decode cX9_best 73 = .ok (.iload_n 2, 1) := by decide +kernel
theorem dX9_best_74 : decode cX9_best 74 = .ok (.ireturn, 1) := by decide +kernel
theorem dX9_areAtRest_0 : decode cX9_areAtRest 0 = .ok (.iconst 0, 1) := by decide +kernel
theorem dX9_areAtRest_1 : decode cX9_areAtRest 1 = .ok (.istore_n 2, 1) := by decide +kernel
theorem dX9_areAtRest_2 : decode cX9_areAtRest 2 = .ok (.iload_n 2, 1) := by decide +kernel
theorem dX9_areAtRest_3 : decode cX9_areAtRest 3 = .ok (.aload_n 0, 1) := by decide +kernel
theorem dX9_areAtRest_4 : decode cX9_areAtRest 4 = .ok (.getfield 7, 3) := by decide +kernel
theorem dX9_areAtRest_7 : decode cX9_areAtRest 7 = .ok (.if_icmp .ge 27, 3) := by decide +kernel
theorem dX9_areAtRest_10 : decode cX9_areAtRest 10 = .ok (.aload_n 0, 1) := by decide +kernel
theorem dX9_areAtRest_11 : decode cX9_areAtRest 11 = .ok (.iload_n 2, 1) := by decide +kernel
theorem dX9_areAtRest_12 : decode cX9_areAtRest 12 = .ok (.bipush (-6), 2) := by decide +kernel
theorem dX9_areAtRest_14 : decode cX9_areAtRest 14 = .ok (.invokevirtual 134, 3) := by decide +kernel
theorem dX9_areAtRest_17 : decode cX9_areAtRest 17 = .ok (.aload_n 0, 1) := by decide +kernel
theorem dX9_areAtRest_18 : decode cX9_areAtRest 18 = .ok (.getfield 17, 3) := by decide +kernel
theorem dX9_areAtRest_21 : decode cX9_areAtRest 21 = .ok (.iload_n 2, 1) := by decide +kernel
theorem dX9_areAtRest_22 : decode cX9_areAtRest 22 = .ok (.iaload, 1) := by decide +kernel
theorem dX9_areAtRest_23 : decode cX9_areAtRest 23 = .ok (.if_icmp .le 5, 3) := by decide +kernel
theorem dX9_areAtRest_26 : decode cX9_areAtRest 26 = .ok (.iconst 0, 1) := by decide +kernel
theorem dX9_areAtRest_27 : decode cX9_areAtRest 27 = .ok (.ireturn, 1) := by decide +kernel
theorem dX9_areAtRest_28 : decode cX9_areAtRest 28 = .ok (.iinc 2 1, 3) := by decide +kernel
theorem dX9_areAtRest_31 : decode cX9_areAtRest 31 = .ok (.goto (-29), 3) := by decide +kernel
theorem dX9_areAtRest_34 : decode cX9_areAtRest 34 = .ok (.iconst 0, 1) := by decide +kernel
theorem dX9_areAtRest_35 : decode cX9_areAtRest 35 = .ok (.istore_n 2, 1) := by decide +kernel
theorem dX9_areAtRest_36 : decode cX9_areAtRest 36 = .ok (.iload_n 2, 1) := by decide +kernel
theorem dX9_areAtRest_37 : decode cX9_areAtRest 37 = .ok (.bipush 8, 2) := by decide +kernel
theorem dX9_areAtRest_39 : decode cX9_areAtRest 39 = .ok (.if_icmp .ge 108, 3) := by decide +kernel
theorem dX9_areAtRest_42 : decode cX9_areAtRest 42 = .ok (.iload_n 1, 1) := by decide +kernel
theorem dX9_areAtRest_43 : decode cX9_areAtRest 43 = .ok (.iload_n 2, 1) := by decide +kernel
theorem dX9_areAtRest_44 : decode cX9_areAtRest 44 = .ok (.invokestatic 98, 3) := by decide +kernel
theorem dX9_areAtRest_47 : decode cX9_areAtRest 47 = .ok (.ifCond .eq 20, 3) := by decide +kernel
theorem dX9_areAtRest_50 : decode cX9_areAtRest 50 = .ok (.aload_n 0, 1) := by decide +kernel
theorem dX9_areAtRest_51 : decode cX9_areAtRest 51 = .ok (.iload_n 2, 1) := by decide +kernel
theorem dX9_areAtRest_52 : decode cX9_areAtRest 52 = .ok (.aload_n 0, 1) := by decide +kernel
theorem dX9_areAtRest_53 : decode cX9_areAtRest 53 = .ok (.getfield 47, 3) := by decide +kernel
theorem dX9_areAtRest_56 : decode cX9_areAtRest 56 = .ok (.iload_n 2, 1) := by decide +kernel
theorem dX9_areAtRest_57 : decode cX9_areAtRest 57 = .ok (.iaload, 1) := by decide +kernel
theorem dX9_areAtRest_58 : decode cX9_areAtRest 58 = .ok (.bipush (-6), 2) := by decide +kernel
theorem dX9_areAtRest_60 : decode cX9_areAtRest 60 = .ok (.iconst 0, 1) := by decide +kernel
theorem dX9_areAtRest_61 : decode cX9_areAtRest 61 = .ok (.invokevirtual 138, 3) := by decide +kernel
theorem dX9_areAtRest_64 : decode cX9_areAtRest 64 = .ok (.goto 5, 3) := by decide +kernel
theorem dX9_areAtRest_67 : decode cX9_areAtRest 67 = .ok (.ldc 217, 2) := by decide +kernel
theorem dX9_areAtRest_69 : decode cX9_areAtRest 69 = .ok (.istore_n 3, 1) := by decide +kernel
theorem dX9_areAtRest_70 : decode cX9_areAtRest 70 = .ok (.iconst 0, 1) := by decide +kernel
theorem dX9_areAtRest_71 : decode cX9_areAtRest 71 = .ok (.istore 4, 2) := by decide +kernel
theorem dX9_areAtRest_73 : decode cX9_areAtRest 73 = .ok (.iload 4, 2) := by decide +kernel
theorem dX9_areAtRest_75 : decode cX9_areAtRest 75 = .ok (.aload_n 0, 1) := by decide +kernel
theorem dX9_areAtRest_76 : decode cX9_areAtRest 76 = .ok (.getfield 7, 3) := by decide +kernel
theorem dX9_areAtRest_79 : decode cX9_areAtRest 79 = .ok (.if_icmp .ge 62, 3) := by decide +kernel
theorem dX9_areAtRest_82 : decode cX9_areAtRest 82 = .ok (.iload_n 1, 1) := by decide +kernel
theorem dX9_areAtRest_83 : decode cX9_areAtRest 83 = .ok (.iload_n 2, 1) := by decide +kernel
theorem dX9_areAtRest_84 : decode cX9_areAtRest 84 = .ok (.invokestatic 98, 3) := by decide +kernel
theorem dX9_areAtRest_87 : decode cX9_areAtRest 87 = .ok (.ifCond .eq 54, 3) := by decide +kernel
theorem dX9_areAtRest_90 : decode cX9_areAtRest 90 = .ok (.iload 4, 2) := by decide +kernel
theorem dX9_areAtRest_92 : decode cX9_areAtRest 92 = .ok (.aload_n 0, 1) := by decide +kernel
theorem dX9_areAtRest_93 : decode cX9_areAtRest 93 = .ok (.getfield 47, 3) := by decide +kernel
theorem dX9_areAtRest_96 : decode cX9_areAtRest 96 = .ok (.iload_n 2, 1) := by decide +kernel
theorem dX9_areAtRest_97 : decode cX9_areAtRest 97 = .ok (.iaload, 1) := by decide +kernel
theorem dX9_areAtRest_98 : decode cX9_areAtRest 98 = .ok (.if_icmp .eq 37, 3) := by decide +kernel
theorem dX9_areAtRest_101 : decode cX9_areAtRest 101 = .ok (.aload_n 0, 1) := by decide +kernel
theorem dX9_areAtRest_102 : decode cX9_areAtRest 102 = .ok (.iload 4, 2) := by decide +kernel
theorem dX9_areAtRest_104 : decode cX9_areAtRest 104 = .ok (.bipush (-6), 2) := by decide +kernel
theorem dX9_areAtRest_106 : decode cX9_areAtRest 106 = .ok (.invokevirtual 134, 3) := by decide +kernel
theorem dX9_areAtRest_109 : decode cX9_areAtRest 109 = .ok (.aload_n 0, 1) := by decide +kernel
theorem dX9_areAtRest_110 : decode cX9_areAtRest 110 = .ok (.getfield 17, 3) := by decide +kernel
theorem dX9_areAtRest_113 : decode cX9_areAtRest 113 = .ok (.iload 4, 2) := by decide +kernel
theorem dX9_areAtRest_115 : decode cX9_areAtRest 115 = .ok (.iaload, 1) := by decide +kernel
theorem dX9_areAtRest_116 : decode cX9_areAtRest 116 = .ok (.if_icmp .ge 19, 3) := by decide +kernel
theorem dX9_areAtRest_119 : decode cX9_areAtRest 119 = .ok (.aload_n 0, 1) := by decide +kernel
theorem dX9_areAtRest_120 : decode cX9_areAtRest 120 = .ok (.iload_n 2, 1) := by decide +kernel
theorem dX9_areAtRest_121 : decode cX9_areAtRest 121 = .ok (.iload 4, 2) := by decide +kernel
theorem dX9_areAtRest_123 : decode cX9_areAtRest 123 = .ok (.bipush (-6), 2) := by decide +kernel
theorem dX9_areAtRest_125 : decode cX9_areAtRest 125 = .ok (.iconst 0, 1) := by decide +kernel
theorem dX9_areAtRest_126 : decode cX9_areAtRest 126 = .ok (.invokevirtual 138, 3) := by decide +kernel
theorem dX9_areAtRest_129 : decode cX9_areAtRest 129 = .ok (.iload_n 3, 1) := by decide +kernel
theorem dX9_areAtRest_130 : decode cX9_areAtRest 130 = .ok (.if_icmp .le 5, 3) := by decide +kernel
theorem dX9_areAtRest_133 : decode cX9_areAtRest 133 = .ok (.iconst 0, 1) := by decide +kernel
theorem dX9_areAtRest_134 : decode cX9_areAtRest 134 = .ok (.ireturn, 1) := by decide +kernel
theorem dX9_areAtRest_135 : decode cX9_areAtRest 135 = .ok (.iinc 4 1, 3) := by decide +kernel
theorem dX9_areAtRest_138 : decode cX9_areAtRest 138 = .ok (.goto (-65), 3) := by decide +kernel
theorem dX9_areAtRest_141 : decode cX9_areAtRest 141 = .ok (.iinc 2 1, 3) := by decide +kernel
theorem dX9_areAtRest_144 : decode cX9_areAtRest 144 = .ok (.goto (-108), 3) := by decide +kernel
theorem dX9_areAtRest_147 : decode cX9_areAtRest 147 = .ok (.iconst 1, 1) := by decide +kernel
theorem dX9_areAtRest_148 : decode cX9_areAtRest 148 = .ok (.ireturn, 1) := by decide +kernel
theorem dX9_rests_0 : decode cX9_rests 0 = .ok (.iload_n 1, 1) := by decide +kernel
theorem dX9_rests_1 : decode cX9_rests 1 = .ok (.iconst 0, 1) := by decide +kernel
theorem dX9_rests_2 : decode cX9_rests 2 = .ok (.sipush 255, 3) := by decide +kernel
theorem dX9_rests_5 : decode cX9_rests 5 = .ok (.invokestatic 94, 3) := by decide +kernel
theorem dX9_rests_8 : decode cX9_rests 8 = .ok (.ifCond .eq 14, 3) := by decide +kernel
theorem dX9_rests_11 : decode cX9_rests 11 = .ok (.iload_n 1, 1) := by decide +kernel
theorem dX9_rests_12 : decode cX9_rests 12 = .ok (.aload_n 0, 1) := by decide +kernel
theorem dX9_rests_13 : decode cX9_rests 13 = .ok (.getfield 88, 3) := by decide +kernel
theorem dX9_rests_16 : decode cX9_rests 16 = .ok (.iconst (-1), 1) := by decide +kernel
theorem dX9_rests_17 : decode cX9_rests 17 = .ok (.ixor, 1) := by decide +kernel
theorem dX9_rests_18 : decode cX9_rests 18 = .ok (.iand, 1) := by decide +kernel
theorem dX9_rests_19 : decode cX9_rests 19 = .ok (.ifCond .eq 6, 3) := by decide +kernel
theorem dX9_rests_22 : decode cX9_rests 22 = .ok (.bipush (-2), 2) := by decide +kernel
theorem dX9_rests_24 : decode cX9_rests 24 = .ok (.ireturn, 1) := by decide +kernel
theorem dX9_rests_25 : decode cX9_rests 25 = .ok (.iload_n 1, 1) := by decide +kernel
theorem dX9_rests_26 : decode cX9_rests 26 = .ok (.invokestatic 117, 3) := by decide +kernel
theorem dX9_rests_29 : decode cX9_rests 29 = .ok (.bipush 6, 2) := by decide +kernel
theorem dX9_rests_31 : decode cX9_rests 31 = .ok (.if_icmp .le 6, 3) := by decide +kernel
theorem dX9_rests_34 : decode cX9_rests 34 = .ok (.bipush (-4), 2) := by decide +kernel
theorem dX9_rests_36 : decode cX9_rests 36 = .ok (.ireturn, 1) := by decide +kernel
theorem dX9_rests_37 : decode cX9_rests 37 = .ok (.iload_n 2, 1) := by decide +kernel
theorem dX9_rests_38 : decode cX9_rests 38 = .ok (.iconst (-1), 1) := by decide +kernel
theorem dX9_rests_39 : decode cX9_rests 39 = .ok (.if_icmp .eq 23, 3) := by decide +kernel
theorem dX9_rests_42 : decode cX9_rests 42 = .ok (.iload_n 2, 1) := by decide +kernel
theorem dX9_rests_43 : decode cX9_rests 43 = .ok (.iconst 0, 1) := by decide +kernel
theorem dX9_rests_44 : decode cX9_rests 44 = .ok (.bipush 7, 2) := by decide +kernel
theorem dX9_rests_46 : decode cX9_rests 46 = .ok (.invokestatic 94, 3) := by decide +kernel
theorem dX9_rests_49 : decode cX9_rests 49 = .ok (.ifCond .eq 11, 3) := by decide +kernel
theorem dX9_rests_52 : decode cX9_rests 52 = .ok (.iload_n 1, 1) := by decide +kernel
theorem dX9_rests_53 : decode cX9_rests 53 = .ok (.iload_n 2, 1) := by decide +kernel
theorem dX9_rests_54 : decode cX9_rests 54 = .ok (.invokestatic 98, 3) := by decide +kernel
theorem dX9_rests_57 : decode cX9_rests 57 = .ok (.ifCond .ne 5, 3) := by decide +kernel
theorem dX9_rests_60 : decode cX9_rests 60 = .ok (.iconst (-1), 1) := by decide +kernel
theorem dX9_rests_61 : decode cX9_rests 61 = .ok (.ireturn, 1) := by decide +kernel
theorem dX9_rests_62 : decode cX9_rests 62 = .ok (.iconst 1, 1) := by decide +kernel
theorem dX9_rests_63 : decode cX9_rests 63 = .ok (.istore_n 3, 1) := by decide +kernel
theorem dX9_rests_64 : decode cX9_rests 64 = .ok (.iconst 0, 1) := by decide +kernel
theorem dX9_rests_65 : decode cX9_rests 65 = .ok (.istore 4, 2) := by decide +kernel
theorem dX9_rests_67 : decode cX9_rests 67 = .ok (.iload 4, 2) := by decide +kernel
theorem dX9_rests_69 : decode cX9_rests 69 = .ok (.iload_n 1, 1) := by decide +kernel
theorem dX9_rests_70 : decode cX9_rests 70 = .ok (.invokestatic 117, 3) := by decide +kernel
theorem dX9_rests_73 : decode cX9_rests 73 = .ok (.if_icmp .ge 16, 3) := by decide +kernel
theorem dX9_rests_76 : decode cX9_rests 76 = .ok (.iload_n 3, 1) := by decide +kernel
theorem dX9_rests_77 : decode cX9_rests 77 = .ok (.aload_n 0, 1) := by decide +kernel
theorem dX9_rests_78 : decode cX9_rests 78 = .ok (.getfield 7, 3) := by decide +kernel
theorem dX9_rests_81 : decode cX9_rests 81 = .ok (.imul, 1) := by decide +kernel
theorem dX9_rests_82 : decode cX9_rests 82 = .ok (.istore_n 3, 1) := by decide +kernel
theorem dX9_rests_83 : decode cX9_rests 83 = .ok (.iinc 4 1, 3) := by decide +kernel
theorem dX9_rests_86 : decode cX9_rests 86 = .ok (.goto (-19), 3) := by decide +kernel
theorem dX9_rests_89 : decode cX9_rests 89 = .ok (.iconst 0, 1) := by decide +kernel
theorem dX9_rests_90 : decode cX9_rests 90 = .ok (.istore 4, 2) := by decide +kernel
theorem dX9_rests_92 : decode cX9_rests 92 = .ok (.bipush (-6), 2) := by decide +kernel
theorem dX9_rests_94 : decode cX9_rests 94 = .ok (.istore 5, 2) := by decide +kernel
theorem dX9_rests_96 : decode cX9_rests 96 = .ok (.iconst 0, 1) := by decide +kernel
theorem dX9_rests_97 : decode cX9_rests 97 = .ok (.istore 6, 2) := by decide +kernel
theorem dX9_rests_99 : decode cX9_rests 99 = .ok (.iload 6, 2) := by decide +kernel
theorem dX9_rests_101 : decode cX9_rests 101 = .ok (.iload_n 3, 1) := by decide +kernel
theorem dX9_rests_102 : decode cX9_rests 102 = .ok (.if_icmp .ge 100, 3) := by decide +kernel
theorem dX9_rests_105 : decode cX9_rests 105 = .ok (.aload_n 0, 1) := by decide +kernel
theorem dX9_rests_106 : decode cX9_rests 106 = .ok (.invokevirtual 157, 3) := by decide +kernel
theorem dX9_rests_109 : decode cX9_rests 109 = .ok (.iload_n 3, 1) := by decide +kernel
theorem dX9_rests_110 : decode cX9_rests 110 = .ok (.istore 7, 2) := by decide +kernel
theorem dX9_rests_112 : decode cX9_rests 112 = .ok (.iconst 0, 1) := by decide +kernel
theorem dX9_rests_113 : decode cX9_rests 113 = .ok (.istore 8, 2) := by decide +kernel
theorem dX9_rests_115 : decode cX9_rests 115 = .ok (.iload 8, 2) := by decide +kernel
theorem dX9_rests_117 : decode cX9_rests 117 = .ok (.bipush 8, 2) := by decide +kernel
theorem dX9_rests_119 : decode cX9_rests 119 = .ok (.if_icmp .ge 44, 3) := by decide +kernel
theorem dX9_rests_122 : decode cX9_rests 122 = .ok (.iload_n 1, 1) := by decide +kernel
theorem dX9_rests_123 : decode cX9_rests 123 = .ok (.iload 8, 2) := by decide +kernel
theorem dX9_rests_125 : decode cX9_rests 125 = .ok (.invokestatic 98, 3) := by decide +kernel
theorem dX9_rests_128 : decode cX9_rests 128 = .ok (.ifCond .eq 29, 3) := by decide +kernel
theorem dX9_rests_131 : decode cX9_rests 131 = .ok (.iload 7, 2) := by decide +kernel
theorem dX9_rests_133 : decode cX9_rests 133 = .ok (.aload_n 0, 1) := by decide +kernel
theorem dX9_rests_134 : decode cX9_rests 134 = .ok (.getfield 7, 3) := by decide +kernel
theorem dX9_rests_137 : decode cX9_rests 137 = .ok (.idiv, 1) := by decide +kernel
theorem dX9_rests_138 : decode cX9_rests 138 = .ok (.istore 7, 2) := by decide +kernel
theorem dX9_rests_140 : decode cX9_rests 140 = .ok (.aload_n 0, 1) := by decide +kernel
theorem dX9_rests_141 : decode cX9_rests 141 = .ok (.getfield 47, 3) := by decide +kernel
theorem dX9_rests_144 : decode cX9_rests 144 = .ok (.iload 8, 2) := by decide +kernel
theorem dX9_rests_146 : decode cX9_rests 146 = .ok (.iload 6, 2) := by decide +kernel
theorem dX9_rests_148 : decode cX9_rests 148 = .ok (.iload 7, 2) := by decide +kernel
theorem dX9_rests_150 : decode cX9_rests 150 = .ok (.idiv, 1) := by decide +kernel
theorem dX9_rests_151 : decode cX9_rests 151 = .ok (.aload_n 0, 1) := by decide +kernel
theorem dX9_rests_152 : decode cX9_rests 152 = .ok (.getfield 7, 3) := by decide +kernel
theorem dX9_rests_155 : decode cX9_rests 155 = .ok (.irem, 1) := by decide +kernel
theorem dX9_rests_156 : decode cX9_rests 156 = .ok (.iastore, 1) := by decide +kernel
theorem dX9_rests_157 : decode cX9_rests 157 = .ok (.iinc 8 1, 3) := by decide +kernel
theorem dX9_rests_160 : decode cX9_rests 160 = .ok (.goto (-45), 3) := by decide +kernel
theorem dX9_rests_163 : decode cX9_rests 163 = .ok (.aload_n 0, 1) := by decide +kernel
theorem dX9_rests_164 : decode cX9_rests 164 = .ok (.iload_n 1, 1) := by decide +kernel
theorem dX9_rests_165 : decode cX9_rests 165 = .ok (.invokevirtual 218, 3) := by decide +kernel
theorem dX9_rests_168 : decode cX9_rests 168 = .ok (.ifCond .eq 28, 3) := by decide +kernel
theorem dX9_rests_171 : decode cX9_rests 171 = .ok (.iload 4, 2) := by decide +kernel
theorem dX9_rests_173 : decode cX9_rests 173 = .ok (.ifCond .ne 16, 3) := by decide +kernel
theorem dX9_rests_176 : decode cX9_rests 176 = .ok (.iload_n 2, 1) := by decide +kernel
theorem dX9_rests_177 : decode cX9_rests 177 = .ok (.ifCond .lt 12, 3) := by decide +kernel
theorem dX9_rests_180 : decode cX9_rests 180 = .ok (.aload_n 0, 1) := by decide +kernel
theorem dX9_rests_181 : decode cX9_rests 181 = .ok (.getfield 47, 3) := by decide +kernel
theorem dX9_rests_184 : decode cX9_rests 184 = .ok (.iload_n 2, 1) := by decide +kernel
theorem dX9_rests_185 : decode cX9_rests 185 = .ok (.iaload, 1) := by decide +kernel
theorem dX9_rests_186 : decode cX9_rests 186 = .ok (.goto 5, 3) := by decide +kernel
theorem dX9_rests_189 : decode cX9_rests 189 = .ok (.iload 5, 2) := by decide +kernel
theorem dX9_rests_191 : decode cX9_rests 191 = .ok (.istore 5, 2) := by decide +kernel
theorem dX9_rests_193 : decode cX9_rests 193 = .ok (.iinc 4 1, 3) := by decide +kernel
theorem dX9_rests_196 : decode cX9_rests 196 = .ok (.iinc 6 1, 3) := by decide +kernel
theorem dX9_rests_199 : decode cX9_rests 199 = .ok (.goto (-100), 3) := by decide +kernel
theorem dX9_rests_202 : decode cX9_rests 202 = .ok (.iload_n 2, 1) := by decide +kernel
theorem dX9_rests_203 : decode cX9_rests 203 = .ok (.ifCond .ge 8, 3) := by decide +kernel
theorem dX9_rests_206 : decode cX9_rests 206 = .ok (.iload 4, 2) := by decide +kernel
theorem dX9_rests_208 : decode cX9_rests 208 = .ok (.goto 5, 3) := by decide +kernel
theorem dX9_rests_211 : decode cX9_rests 211 = .ok (.iload 5, 2) := by decide +kernel
theorem dX9_rests_213 : decode cX9_rests 213 = .ok (.ireturn, 1) := by decide +kernel
theorem dX9_led_0 : decode cX9_led 0 = .ok (.aload_n 0, 1) := by decide +kernel
theorem dX9_led_1 : decode cX9_led 1 = .ok (.iload_n 1, 1) := by decide +kernel
theorem dX9_led_2 : decode cX9_led 2 = .ok (.invokevirtual 102, 3) := by decide +kernel
theorem dX9_led_5 : decode cX9_led 5 = .ok (.ifCond .ne 5, 3) := by decide +kernel
theorem dX9_led_8 : decode cX9_led 8 = .ok (.iconst (-1), 1) := by decide +kernel
theorem dX9_led_9 : decode cX9_led 9 = .ok (.ireturn, 1) := by decide +kernel
theorem dX9_led_10 : decode cX9_led 10 = .ok (.iload_n 2, 1) := by decide +kernel
theorem dX9_led_11 : decode cX9_led 11 = .ok (.iconst 1, 1) := by decide +kernel
theorem dX9_led_12 : decode cX9_led 12 = .ok (.bipush 8, 2) := by decide +kernel
theorem dX9_led_14 : decode cX9_led 14 = .ok (.invokestatic 94, 3) := by decide +kernel
theorem dX9_led_17 : decode cX9_led 17 = .ok (.ifCond .eq 23, 3) := by decide +kernel
theorem dX9_led_20 : decode cX9_led 20 = .ok (.iload_n 3, 1) := by decide +kernel
theorem dX9_led_21 : decode cX9_led 21 = .ok (.iconst 0, 1) := by decide +kernel
theorem dX9_led_22 : decode cX9_led 22 = .ok (.bipush 20, 2) := by decide +kernel
theorem dX9_led_24 : decode cX9_led 24 = .ok (.invokestatic 94, 3) := by decide +kernel
theorem dX9_led_27 : decode cX9_led 27 = .ok (.ifCond .eq 13, 3) := by decide +kernel
theorem dX9_led_30 : decode cX9_led 30 = .ok (.iload 4, 2) := by decide +kernel
theorem dX9_led_32 : decode cX9_led 32 = .ok (.iconst 0, 1) := by decide +kernel
theorem dX9_led_33 : decode cX9_led 33 = .ok (.iconst 1, 1) := by decide +kernel
theorem dX9_led_34 : decode cX9_led 34 = .ok (.invokestatic 94, 3) := by decide +kernel
theorem dX9_led_37 : decode cX9_led 37 = .ok (.ifCond .ne 6, 3) := by decide +kernel
theorem dX9_led_40 : decode cX9_led 40 = .ok (.bipush (-2), 2) := by decide +kernel
theorem dX9_led_42 : decode cX9_led 42 = .ok (.ireturn, 1) := by decide +kernel
theorem dX9_led_43 : decode cX9_led 43 = .ok (.bipush (-6), 2) := by decide +kernel
theorem dX9_led_45 : decode cX9_led 45 = .ok (.istore 5, 2) := by decide +kernel
theorem dX9_led_47 : decode cX9_led 47 = .ok (.iconst 0, 1) := by decide +kernel
theorem dX9_led_48 : decode cX9_led 48 = .ok (.istore 6, 2) := by decide +kernel
theorem dX9_led_50 : decode cX9_led 50 = .ok (.iload 6, 2) := by decide +kernel
theorem dX9_led_52 : decode cX9_led 52 = .ok (.sipush 256, 3) := by decide +kernel
theorem dX9_led_55 : decode cX9_led 55 = .ok (.if_icmp .ge 218, 3) := by decide +kernel
theorem dX9_led_58 : decode cX9_led 58 = .ok (.iload 6, 2) := by decide +kernel
theorem dX9_led_60 : decode cX9_led 60 = .ok (.aload_n 0, 1) := by decide +kernel
theorem dX9_led_61 : decode cX9_led 61 = .ok (.getfield 88, 3) := by decide +kernel
theorem dX9_led_64 : decode cX9_led 64 = .ok (.iconst (-1), 1) := by decide +kernel
theorem dX9_led_65 : decode cX9_led 65 = .ok (.ixor, 1) := by decide +kernel
theorem dX9_led_66 : decode cX9_led 66 = .ok (.iand, 1) := by decide +kernel
theorem dX9_led_67 : decode cX9_led 67 = .ok (.ifCond .ne 25, 3) := by decide +kernel
theorem dX9_led_70 : decode cX9_led 70 = .ok (.iload 5, 2) := by decide +kernel
theorem dX9_led_72 : decode cX9_led 72 = .ok (.ifCond .lt 16, 3) := by decide +kernel
theorem dX9_led_75 : decode cX9_led 75 = .ok (.iload 6, 2) := by decide +kernel
theorem dX9_led_77 : decode cX9_led 77 = .ok (.invokestatic 117, 3) := by decide +kernel
theorem dX9_led_80 : decode cX9_led 80 = .ok (.iload 5, 2) := by decide +kernel
theorem dX9_led_82 : decode cX9_led 82 = .ok (.invokestatic 117, 3) := by decide +kernel
theorem dX9_led_85 : decode cX9_led 85 = .ok (.if_icmp .ge 7, 3) := by decide +kernel
theorem dX9_led_88 : decode cX9_led 88 = .ok (.iconst 1, 1) := by decide +kernel
theorem dX9_led_89 : decode cX9_led 89 = .ok (.goto 4, 3) := by decide +kernel
theorem dX9_led_92 : decode cX9_led 92 = .ok (.iconst 0, 1) := by decide +kernel
theorem dX9_led_93 : decode cX9_led 93 = .ok (.istore 7, 2) := by decide +kernel
theorem dX9_led_95 : decode cX9_led 95 = .ok (.aload_n 0, 1) := by decide +kernel
theorem dX9_led_96 : decode cX9_led 96 = .ok (.invokevirtual 157, 3) := by decide +kernel
theorem dX9_led_99 : decode cX9_led 99 = .ok (.iconst 0, 1) := by decide +kernel
theorem dX9_led_100 : decode cX9_led 100 = .ok (.istore 8, 2) := by decide +kernel
theorem dX9_led_102 : decode cX9_led 102 = .ok (.iload 8, 2) := by decide +kernel
theorem dX9_led_104 : decode cX9_led 104 = .ok (.bipush 8, 2) := by decide +kernel
theorem dX9_led_106 : decode cX9_led 106 = .ok (.if_icmp .ge 97, 3) := by decide +kernel
theorem dX9_led_109 : decode cX9_led 109 = .ok (.iload 7, 2) := by decide +kernel
theorem dX9_led_111 : decode cX9_led 111 = .ok (.ifCond .eq 92, 3) := by decide +kernel
theorem dX9_led_114 : decode cX9_led 114 = .ok (.iload 6, 2) := by decide +kernel
theorem dX9_led_116 : decode cX9_led 116 = .ok (.iload 8, 2) := by decide +kernel
theorem dX9_led_118 : decode cX9_led 118 = .ok (.invokestatic 98, 3) := by decide +kernel
theorem dX9_led_121 : decode cX9_led 121 = .ok (.ifCond .eq 13, 3) := by decide +kernel
theorem dX9_led_124 : decode cX9_led 124 = .ok (.aload_n 0, 1) := by decide +kernel
theorem dX9_led_125 : decode cX9_led 125 = .ok (.getfield 50, 3) := by decide +kernel
theorem dX9_led_128 : decode cX9_led 128 = .ok (.iload 8, 2) := by decide +kernel
theorem dX9_led_130 : decode cX9_led 130 = .ok (.iaload, 1) := by decide +kernel
theorem dX9_led_131 : decode cX9_led 131 = .ok (.ifCond .ne 7, 3) := by decide +kernel
theorem dX9_led_134 : decode cX9_led 134 = .ok (.iconst 1, 1) := by decide +kernel
theorem dX9_led_135 : decode cX9_led 135 = .ok (.goto 4, 3) := by decide +kernel
theorem dX9_led_138 : decode cX9_led 138 = .ok (.iconst 0, 1) := by decide +kernel
theorem dX9_led_139 : decode cX9_led 139 = .ok (.istore 7, 2) := by decide +kernel
theorem dX9_led_141 : decode cX9_led 141 = .ok (.aload_n 0, 1) := by decide +kernel
theorem dX9_led_142 : decode cX9_led 142 = .ok (.getfield 47, 3) := by decide +kernel
theorem dX9_led_145 : decode cX9_led 145 = .ok (.iload 8, 2) := by decide +kernel
theorem dX9_led_147 : decode cX9_led 147 = .ok (.iload 6, 2) := by decide +kernel
theorem dX9_led_149 : decode cX9_led 149 = .ok (.iload 8, 2) := by decide +kernel
theorem dX9_led_151 : decode cX9_led 151 = .ok (.invokestatic 98, 3) := by decide +kernel
theorem dX9_led_154 : decode cX9_led 154 = .ok (.ifCond .eq 7, 3) := by decide +kernel
theorem dX9_led_157 : decode cX9_led 157 = .ok (.iload_n 1, 1) := by decide +kernel
theorem dX9_led_158 : decode cX9_led 158 = .ok (.goto 10, 3) := by decide +kernel
theorem dX9_led_161 : decode cX9_led 161 = .ok (.aload_n 0, 1) := by decide +kernel
theorem dX9_led_162 : decode cX9_led 162 = .ok (.getfield 47, 3) := by decide +kernel
theorem dX9_led_165 : decode cX9_led 165 = .ok (.iload 8, 2) := by decide +kernel
theorem dX9_led_167 : decode cX9_led 167 = .ok (.iaload, 1) := by decide +kernel
theorem dX9_led_168 : decode cX9_led 168 = .ok (.iastore, 1) := by decide +kernel
theorem dX9_led_169 : decode cX9_led 169 = .ok (.aload_n 0, 1) := by decide +kernel
theorem dX9_led_170 : decode cX9_led 170 = .ok (.getfield 50, 3) := by decide +kernel
theorem dX9_led_173 : decode cX9_led 173 = .ok (.iload 8, 2) := by decide +kernel
theorem dX9_led_175 : decode cX9_led 175 = .ok (.iload 6, 2) := by decide +kernel
theorem dX9_led_177 : decode cX9_led 177 = .ok (.iload 8, 2) := by decide +kernel
theorem dX9_led_179 : decode cX9_led 179 = .ok (.invokestatic 98, 3) := by decide +kernel
theorem dX9_led_182 : decode cX9_led 182 = .ok (.ifCond .eq 7, 3) := by decide +kernel
theorem dX9_led_185 : decode cX9_led 185 = .ok (.iconst 2, 1) := by decide +kernel
theorem dX9_led_186 : decode cX9_led 186 = .ok (.goto 10, 3) := by decide +kernel
theorem dX9_led_189 : decode cX9_led 189 = .ok (.aload_n 0, 1) := by decide +kernel
theorem dX9_led_190 : decode cX9_led 190 = .ok (.getfield 50, 3) := by decide +kernel
theorem dX9_led_193 : decode cX9_led 193 = .ok (.iload 8, 2) := by decide +kernel
theorem dX9_led_195 : decode cX9_led 195 = .ok (.iaload, 1) := by decide +kernel
theorem dX9_led_196 : decode cX9_led 196 = .ok (.iastore, 1) := by decide +kernel
theorem dX9_led_197 : decode cX9_led 197 = .ok (.iinc 8 1, 3) := by decide +kernel
theorem dX9_led_200 : decode cX9_led 200 = .ok (.goto (-98), 3) := by decide +kernel
theorem dX9_led_203 : decode cX9_led 203 = .ok (.iload 7, 2) := by decide +kernel
theorem dX9_led_205 : decode cX9_led 205 = .ok (.ifCond .eq 28, 3) := by decide +kernel
theorem dX9_led_208 : decode cX9_led 208 = .ok (.iload 6, 2) := by decide +kernel
theorem dX9_led_210 : decode cX9_led 210 = .ok (.ifCond .eq 19, 3) := by decide +kernel
theorem dX9_led_213 : decode cX9_led 213 = .ok (.aload_n 0, 1) := by decide +kernel
theorem dX9_led_214 : decode cX9_led 214 = .ok (.iload_n 1, 1) := by decide +kernel
theorem dX9_led_215 : decode cX9_led 215 = .ok (.bipush (-6), 2) := by decide +kernel
theorem dX9_led_217 : decode cX9_led 217 = .ok (.invokevirtual 134, 3) := by decide +kernel
theorem dX9_led_220 : decode cX9_led 220 = .ok (.aload_n 0, 1) := by decide +kernel
theorem dX9_led_221 : decode cX9_led 221 = .ok (.getfield 17, 3) := by decide +kernel
theorem dX9_led_224 : decode cX9_led 224 = .ok (.iload_n 1, 1) := by decide +kernel
theorem dX9_led_225 : decode cX9_led 225 = .ok (.iaload, 1) := by decide +kernel
theorem dX9_led_226 : decode cX9_led 226 = .ok (.if_icmp .gt 7, 3) := by decide +kernel
theorem dX9_led_229 : decode cX9_led 229 = .ok (.iconst 1, 1) := by decide +kernel
theorem dX9_led_230 : decode cX9_led 230 = .ok (.goto 4, 3) := by decide +kernel
theorem dX9_led_233 : decode cX9_led 233 = .ok (.iconst 0, 1) := by decide +kernel
theorem dX9_led_234 : decode cX9_led 234 = .ok (.istore 7, 2) := by decide +kernel
theorem dX9_led_236 : decode cX9_led 236 = .ok (.iload 7, 2) := by decide +kernel
theorem dX9_led_238 : decode cX9_led 238 = .ok (.ifCond .eq 29, 3) := by decide +kernel
theorem dX9_led_241 : decode cX9_led 241 = .ok (.aload_n 0, 1) := by decide +kernel
theorem dX9_led_242 : decode cX9_led 242 = .ok (.iload_n 3, 1) := by decide +kernel
theorem dX9_led_243 : decode cX9_led 243 = .ok (.invokevirtual 198, 3) := by decide +kernel
theorem dX9_led_246 : decode cX9_led 246 = .ok (.aload_n 0, 1) := by decide +kernel
theorem dX9_led_247 : decode cX9_led 247 = .ok (.iload_n 1, 1) := by decide +kernel
theorem dX9_led_248 : decode cX9_led 248 = .ok (.invokevirtual 201, 3) := by decide +kernel
theorem dX9_led_251 : decode cX9_led 251 = .ok (.invokestatic 117, 3) := by decide +kernel
theorem dX9_led_254 : decode cX9_led 254 = .ok (.iload_n 2, 1) := by decide +kernel
theorem dX9_led_255 : decode cX9_led 255 = .ok (.if_icmp .lt 8, 3) := by decide +kernel
theorem dX9_led_258 : decode cX9_led 258 = .ok (.iload 6, 2) := by decide +kernel
theorem dX9_led_260 : decode cX9_led 260 = .ok (.goto 5, 3) := by decide +kernel
theorem dX9_led_263 : decode cX9_led 263 = .ok (.iload 5, 2) := by decide +kernel
theorem dX9_led_265 : decode cX9_led 265 = .ok (.istore 5, 2) := by decide +kernel
theorem dX9_led_267 : decode cX9_led 267 = .ok (.iinc 6 1, 3) := by decide +kernel
theorem dX9_led_270 : decode cX9_led 270 = .ok (.goto (-220), 3) := by decide +kernel
theorem dX9_led_273 : decode cX9_led 273 = .ok (.iload 5, 2) := by decide +kernel
theorem dX9_led_275 : decode cX9_led 275 = .ok (.ifCond .lt 9, 3) := by decide +kernel
theorem dX9_led_278 : decode cX9_led 278 = .ok (.iload 4, 2) := by decide +kernel
theorem dX9_led_280 : decode cX9_led 280 = .ok (.iconst 1, 1) := by decide +kernel
theorem dX9_led_281 : decode cX9_led 281 = .ok (.if_icmp .ne 8, 3) := by decide +kernel
theorem dX9_led_284 : decode cX9_led 284 = .ok (.iload 5, 2) := by decide +kernel
theorem dX9_led_286 : decode cX9_led 286 = .ok (.goto 8, 3) := by decide +kernel
theorem dX9_led_289 : decode cX9_led 289 = .ok (.iload 5, 2) := by decide +kernel
theorem dX9_led_291 : decode cX9_led 291 = .ok (.invokestatic 117, 3) := by decide +kernel
theorem dX9_led_294 : decode cX9_led 294 = .ok (.ireturn, 1) := by decide +kernel
theorem dX9_excuses_0 : decode cX9_excuses 0 = .ok (.aload_n 0, 1) := by decide +kernel
theorem dX9_excuses_1 : decode cX9_excuses 1 = .ok (.iload_n 1, 1) := by decide +kernel
theorem dX9_excuses_2 : decode cX9_excuses 2 = .ok (.invokevirtual 121, 3) := by decide +kernel
theorem dX9_excuses_5 : decode cX9_excuses 5 = .ok (.ifCond .eq 11, 3) := by decide +kernel
theorem dX9_excuses_8 : decode cX9_excuses 8 = .ok (.aload_n 0, 1) := by decide +kernel
theorem dX9_excuses_9 : decode cX9_excuses 9 = .ok (.iload_n 2, 1) := by decide +kernel
theorem dX9_excuses_10 : decode cX9_excuses 10 = .ok (.invokevirtual 102, 3) := by decide +kernel
theorem dX9_excuses_13 : decode cX9_excuses 13 = .ok (.ifCond .ne 5, 3) := by decide +kernel
theorem dX9_excuses_16 : decode cX9_excuses 16 = .ok (.iconst (-1), 1) := by decide +kernel
theorem dX9_excuses_17 : decode cX9_excuses 17 = .ok (.ireturn, 1) := by decide +kernel
theorem dX9_excuses_18 : decode cX9_excuses 18 = .ok (.aload_n 0, 1) := by decide +kernel
theorem dX9_excuses_19 : decode cX9_excuses 19 = .ok (.invokevirtual 157, 3) := by decide +kernel
theorem dX9_excuses_22 : decode cX9_excuses 22 = .ok (.iconst 0, 1) := by decide +kernel
theorem dX9_excuses_23 : decode cX9_excuses 23 = .ok (.istore 4, 2) := by decide +kernel
theorem dX9_excuses_25 : decode cX9_excuses 25 = .ok (.iload 4, 2) := by decide +kernel
theorem dX9_excuses_27 : decode cX9_excuses 27 = .ok (.bipush 6, 2) := by decide +kernel
theorem dX9_excuses_29 : decode cX9_excuses 29 = .ok (.if_icmp .ge 28, 3) := by decide +kernel
theorem dX9_excuses_32 : decode cX9_excuses 32 = .ok (.aload_n 0, 1) := by decide +kernel
theorem dX9_excuses_33 : decode cX9_excuses 33 = .ok (.getfield 69, 3) := by decide +kernel
theorem dX9_excuses_36 : decode cX9_excuses 36 = .ok (.iload 4, 2) := by decide +kernel
theorem dX9_excuses_38 : decode cX9_excuses 38 = .ok (.iload 4, 2) := by decide +kernel
theorem dX9_excuses_40 : decode cX9_excuses 40 = .ok (.iload_n 2, 1) := by decide +kernel
theorem dX9_excuses_41 : decode cX9_excuses 41 = .ok (.if_icmp .ne 7, 3) := by decide +kernel
theorem dX9_excuses_44 : decode cX9_excuses 44 = .ok (.iconst 0, 1) := by decide +kernel
theorem dX9_excuses_45 : decode cX9_excuses 45 = .ok (.goto 5, 3) := by decide +kernel
theorem dX9_excuses_48 : decode cX9_excuses 48 = .ok (.ldc 217, 2) := by decide +kernel
theorem dX9_excuses_50 : decode cX9_excuses 50 = .ok (.iastore, 1) := by decide +kernel
theorem dX9_excuses_51 : decode cX9_excuses 51 = .ok (.iinc 4 1, 3) := by decide +kernel
theorem dX9_excuses_54 : decode cX9_excuses 54 = .ok (.goto (-29), 3) := by decide +kernel
theorem dX9_excuses_57 : decode cX9_excuses 57 = .ok (.iconst 1, 1) := by decide +kernel
theorem dX9_excuses_58 : decode cX9_excuses 58 = .ok (.istore 4, 2) := by decide +kernel
theorem dX9_excuses_60 : decode cX9_excuses 60 = .ok (.iload 4, 2) := by decide +kernel
theorem dX9_excuses_62 : decode cX9_excuses 62 = .ok (.bipush 6, 2) := by decide +kernel
theorem dX9_excuses_64 : decode cX9_excuses 64 = .ok (.if_icmp .ge 124, 3) := by decide +kernel
theorem dX9_excuses_67 : decode cX9_excuses 67 = .ok (.iconst 0, 1) := by decide +kernel
theorem dX9_excuses_68 : decode cX9_excuses 68 = .ok (.istore 5, 2) := by decide +kernel
theorem dX9_excuses_70 : decode cX9_excuses 70 = .ok (.iload 5, 2) := by decide +kernel
theorem dX9_excuses_72 : decode cX9_excuses 72 = .ok (.bipush 6, 2) := by decide +kernel
theorem dX9_excuses_74 : decode cX9_excuses 74 = .ok (.if_icmp .ge 108, 3) := by decide +kernel
theorem dX9_excuses_77 : decode cX9_excuses 77 = .ok (.ldc 217, 2) := by decide +kernel
theorem dX9_excuses_79 : decode cX9_excuses 79 = .ok (.istore 6, 2) := by decide +kernel
theorem dX9_excuses_81 : decode cX9_excuses 81 = .ok (.iconst 0, 1) := by decide +kernel
theorem dX9_excuses_82 : decode cX9_excuses 82 = .ok (.istore 7, 2) := by decide +kernel
theorem dX9_excuses_84 : decode cX9_excuses 84 = .ok (.iload 7, 2) := by decide +kernel
theorem dX9_excuses_86 : decode cX9_excuses 86 = .ok (.bipush 6, 2) := by decide +kernel
theorem dX9_excuses_88 : decode cX9_excuses 88 = .ok (.if_icmp .ge 73, 3) := by decide +kernel
theorem dX9_excuses_91 : decode cX9_excuses 91 = .ok (.aload_n 0, 1) := by decide +kernel
theorem dX9_excuses_92 : decode cX9_excuses 92 = .ok (.getfield 23, 3) := by decide +kernel
theorem dX9_excuses_95 : decode cX9_excuses 95 = .ok (.bipush 6, 2) := by decide +kernel
theorem dX9_excuses_97 : decode cX9_excuses 97 = .ok (.iload 5, 2) := by decide +kernel
theorem dX9_excuses_99 : decode cX9_excuses 99 = .ok (.imul, 1) := by decide +kernel
theorem dX9_excuses_100 : decode cX9_excuses 100 = .ok (.iload 7, 2) := by decide +kernel
theorem dX9_excuses_102 : decode cX9_excuses 102 = .ok (.iadd, 1) := by decide +kernel
theorem dX9_excuses_103 : decode cX9_excuses 103 = .ok (.iaload, 1) := by decide +kernel
theorem dX9_excuses_104 : decode cX9_excuses 104 = .ok (.ifCond .le 31, 3) := by decide +kernel
theorem dX9_excuses_107 : decode cX9_excuses 107 = .ok (.aload_n 0, 1) := by decide +kernel
theorem dX9_excuses_108 : decode cX9_excuses 108 = .ok (.iload 7, 2) := by decide +kernel
theorem dX9_excuses_110 : decode cX9_excuses 110 = .ok (.bipush (-6), 2) := by decide +kernel
theorem dX9_excuses_112 : decode cX9_excuses 112 = .ok (.invokevirtual 134, 3) := by decide +kernel
theorem dX9_excuses_115 : decode cX9_excuses 115 = .ok (.aload_n 0, 1) := by decide +kernel
theorem dX9_excuses_116 : decode cX9_excuses 116 = .ok (.getfield 69, 3) := by decide +kernel
theorem dX9_excuses_119 : decode cX9_excuses 119 = .ok (.bipush 6, 2) := by decide +kernel
theorem dX9_excuses_121 : decode cX9_excuses 121 = .ok (.iload 4, 2) := by decide +kernel
theorem dX9_excuses_123 : decode cX9_excuses 123 = .ok (.imul, 1) := by decide +kernel
theorem dX9_excuses_124 : decode cX9_excuses 124 = .ok (.bipush 6, 2) := by decide +kernel
theorem dX9_excuses_126 : decode cX9_excuses 126 = .ok (.isub, 1) := by decide +kernel
theorem dX9_excuses_127 : decode cX9_excuses 127 = .ok (.iload 7, 2) := by decide +kernel
theorem dX9_excuses_129 : decode cX9_excuses 129 = .ok (.iadd, 1) := by decide +kernel
theorem dX9_excuses_130 : decode cX9_excuses 130 = .ok (.iaload, 1) := by decide +kernel
theorem dX9_excuses_131 : decode cX9_excuses 131 = .ok (.iadd, 1) := by decide +kernel
theorem dX9_excuses_132 : decode cX9_excuses 132 = .ok (.goto 5, 3) := by decide +kernel
theorem dX9_excuses_135 : decode cX9_excuses 135 = .ok (.ldc 217, 2) := by decide +kernel
theorem dX9_excuses_137 : decode cX9_excuses 137 = .ok (.istore 8, 2) := by decide +kernel
theorem dX9_excuses_139 : decode cX9_excuses 139 = .ok (.iload 8, 2) := by decide +kernel
theorem dX9_excuses_141 : decode cX9_excuses 141 = .ok (.iload 6, 2) := by decide +kernel
theorem dX9_excuses_143 : decode cX9_excuses 143 = .ok (.if_icmp .ge 8, 3) := by decide +kernel
theorem dX9_excuses_146 : decode cX9_excuses 146 = .ok (.iload 8, 2) := by decide +kernel
theorem dX9_excuses_148 : decode cX9_excuses 148 = .ok (.goto 5, 3) := by decide +kernel
theorem dX9_excuses_151 : decode cX9_excuses 151 = .ok (.iload 6, 2) := by decide +kernel
theorem dX9_excuses_153 : decode cX9_excuses 153 = .ok (.istore 6, 2) := by decide +kernel
theorem dX9_excuses_155 : decode cX9_excuses 155 = .ok (.iinc 7 1, 3) := by decide +kernel
theorem dX9_excuses_158 : decode cX9_excuses 158 = .ok (.goto (-74), 3) := by decide +kernel
theorem dX9_excuses_161 : decode cX9_excuses 161 = .ok (.aload_n 0, 1) := by decide +kernel
theorem dX9_excuses_162 : decode cX9_excuses 162 = .ok (.getfield 69, 3) := by decide +kernel
theorem dX9_excuses_165 : decode cX9_excuses 165 = .ok (.bipush 6, 2) := by decide +kernel
theorem dX9_excuses_167 : decode cX9_excuses 167 = .ok (.iload 4, 2) := by decide +kernel
theorem dX9_excuses_169 : decode cX9_excuses 169 = .ok (.imul, 1) := by decide +kernel
theorem dX9_excuses_170 : decode cX9_excuses 170 = .ok (.iload 5, 2) := by decide +kernel
theorem dX9_excuses_172 : decode cX9_excuses 172 = .ok (.iadd, 1) := by decide +kernel
theorem dX9_excuses_173 : decode cX9_excuses 173 = .ok (.iload 6, 2) := by decide +kernel
theorem dX9_excuses_175 : decode cX9_excuses 175 = .ok (.iastore, 1) := by decide +kernel
theorem dX9_excuses_176 : decode cX9_excuses 176 = .ok (.iinc 5 1, 3) := by decide +kernel
theorem dX9_excuses_179 : decode cX9_excuses 179 = .ok (.goto (-109), 3) := by decide +kernel
theorem dX9_excuses_182 : decode cX9_excuses 182 = .ok (.iinc 4 1, 3) := by decide +kernel
theorem dX9_excuses_185 : decode cX9_excuses 185 = .ok (.goto (-125), 3) := by decide +kernel
theorem dX9_excuses_188 : decode cX9_excuses 188 = .ok (.aload_n 0, 1) := by decide +kernel
theorem dX9_excuses_189 : decode cX9_excuses 189 = .ok (.getfield 47, 3) := by decide +kernel
theorem dX9_excuses_192 : decode cX9_excuses 192 = .ok (.iload_n 1, 1) := by decide +kernel
theorem dX9_excuses_193 : decode cX9_excuses 193 = .ok (.iaload, 1) := by decide +kernel
theorem dX9_excuses_194 : decode cX9_excuses 194 = .ok (.istore 4, 2) := by decide +kernel
theorem dX9_excuses_196 : decode cX9_excuses 196 = .ok (.iconst 0, 1) := by decide +kernel
theorem dX9_excuses_197 : decode cX9_excuses 197 = .ok (.istore 5, 2) := by decide +kernel
theorem dX9_excuses_199 : decode cX9_excuses 199 = .ok (.iconst 1, 1) := by decide +kernel
theorem dX9_excuses_200 : decode cX9_excuses 200 = .ok (.istore 6, 2) := by decide +kernel
theorem dX9_excuses_202 : decode cX9_excuses 202 = .ok (.iload 6, 2) := by decide +kernel
theorem dX9_excuses_204 : decode cX9_excuses 204 = .ok (.bipush 6, 2) := by decide +kernel
theorem dX9_excuses_206 : decode cX9_excuses 206 = .ok (.if_icmp .ge 47, 3) := by decide +kernel
theorem dX9_excuses_209 : decode cX9_excuses 209 = .ok (.aload_n 0, 1) := by decide +kernel
theorem dX9_excuses_210 : decode cX9_excuses 210 = .ok (.getfield 69, 3) := by decide +kernel
theorem dX9_excuses_213 : decode cX9_excuses 213 = .ok (.bipush 6, 2) := by decide +kernel
theorem dX9_excuses_215 : decode cX9_excuses 215 = .ok (.iload 6, 2) := by decide +kernel
theorem dX9_excuses_217 : decode cX9_excuses 217 = .ok (.imul, 1) := by decide +kernel
theorem dX9_excuses_218 : decode cX9_excuses 218 = .ok (.iload 4, 2) := by decide +kernel
theorem dX9_excuses_220 : decode cX9_excuses 220 = .ok (.iadd, 1) := by decide +kernel
theorem dX9_excuses_221 : decode cX9_excuses 221 = .ok (.iaload, 1) := by decide +kernel
theorem dX9_excuses_222 : decode cX9_excuses 222 = .ok (.aload_n 0, 1) := by decide +kernel
theorem dX9_excuses_223 : decode cX9_excuses 223 = .ok (.getfield 69, 3) := by decide +kernel
theorem dX9_excuses_226 : decode cX9_excuses 226 = .ok (.bipush 6, 2) := by decide +kernel
theorem dX9_excuses_228 : decode cX9_excuses 228 = .ok (.iload 5, 2) := by decide +kernel
theorem dX9_excuses_230 : decode cX9_excuses 230 = .ok (.imul, 1) := by decide +kernel
theorem dX9_excuses_231 : decode cX9_excuses 231 = .ok (.iload 4, 2) := by decide +kernel
theorem dX9_excuses_233 : decode cX9_excuses 233 = .ok (.iadd, 1) := by decide +kernel
theorem dX9_excuses_234 : decode cX9_excuses 234 = .ok (.iaload, 1) := by decide +kernel
theorem dX9_excuses_235 : decode cX9_excuses 235 = .ok (.if_icmp .ge 8, 3) := by decide +kernel
theorem dX9_excuses_238 : decode cX9_excuses 238 = .ok (.iload 6, 2) := by decide +kernel
theorem dX9_excuses_240 : decode cX9_excuses 240 = .ok (.goto 5, 3) := by decide +kernel
theorem dX9_excuses_243 : decode cX9_excuses 243 = .ok (.iload 5, 2) := by decide +kernel
theorem dX9_excuses_245 : decode cX9_excuses 245 = .ok (.istore 5, 2) := by decide +kernel
theorem dX9_excuses_247 : decode cX9_excuses 247 = .ok (.iinc 6 1, 3) := by decide +kernel
theorem dX9_excuses_250 : decode cX9_excuses 250 = .ok (.goto (-48), 3) := by decide +kernel
theorem dX9_excuses_253 : decode cX9_excuses 253 = .ok (.aload_n 0, 1) := by decide +kernel
theorem dX9_excuses_254 : decode cX9_excuses 254 = .ok (.getfield 69, 3) := by decide +kernel
theorem dX9_excuses_257 : decode cX9_excuses 257 = .ok (.bipush 6, 2) := by decide +kernel
theorem dX9_excuses_259 : decode cX9_excuses 259 = .ok (.iload 5, 2) := by decide +kernel
theorem dX9_excuses_261 : decode cX9_excuses 261 = .ok (.imul, 1) := by decide +kernel
theorem dX9_excuses_262 : decode cX9_excuses 262 = .ok (.iload 4, 2) := by decide +kernel
theorem dX9_excuses_264 : decode cX9_excuses 264 = .ok (.iadd, 1) := by decide +kernel
theorem dX9_excuses_265 : decode cX9_excuses 265 = .ok (.iaload, 1) := by decide +kernel
theorem dX9_excuses_266 : decode cX9_excuses 266 = .ok (.istore 6, 2) := by decide +kernel
theorem dX9_excuses_268 : decode cX9_excuses 268 = .ok (.iload 6, 2) := by decide +kernel
theorem dX9_excuses_270 : decode cX9_excuses 270 = .ok (.ldc 217, 2) := by decide +kernel
theorem dX9_excuses_272 : decode cX9_excuses 272 = .ok (.if_icmp .ge 8, 3) := by decide +kernel
theorem dX9_excuses_275 : decode cX9_excuses 275 = .ok (.iload_n 3, 1) := by decide +kernel
theorem dX9_excuses_276 : decode cX9_excuses 276 = .ok (.iconst (-1), 1) := by decide +kernel
theorem dX9_excuses_277 : decode cX9_excuses 277 = .ok (.if_icmp .ne 18, 3) := by decide +kernel
theorem dX9_excuses_280 : decode cX9_excuses 280 = .ok (.iload 6, 2) := by decide +kernel
theorem dX9_excuses_282 : decode cX9_excuses 282 = .ok (.ldc 217, 2) := by decide +kernel
theorem dX9_excuses_284 : decode cX9_excuses 284 = .ok (.if_icmp .lt 8, 3) := by decide +kernel
theorem dX9_excuses_287 : decode cX9_excuses 287 = .ok (.bipush (-6), 2) := by decide +kernel
theorem dX9_excuses_289 : decode cX9_excuses 289 = .ok (.goto 5, 3) := by decide +kernel
theorem dX9_excuses_292 : decode cX9_excuses 292 = .ok (.iload 6, 2) := by decide +kernel
theorem dX9_excuses_294 : decode cX9_excuses 294 = .ok (.ireturn, 1) := by decide +kernel
theorem dX9_excuses_295 : decode cX9_excuses 295 = .ok (.iload_n 3, 1) := by decide +kernel
theorem dX9_excuses_296 : decode cX9_excuses 296 = .ok (.iconst 0, 1) := by decide +kernel
theorem dX9_excuses_297 : decode cX9_excuses 297 = .ok (.iload 5, 2) := by decide +kernel
theorem dX9_excuses_299 : decode cX9_excuses 299 = .ok (.invokestatic 94, 3) := by decide +kernel
theorem dX9_excuses_302 : decode cX9_excuses 302 = .ok (.ifCond .ne 6, 3) := by decide +kernel
theorem dX9_excuses_305 : decode cX9_excuses 305 = .ok (.bipush (-6), 2) := by decide +kernel
theorem dX9_excuses_307 : decode cX9_excuses 307 = .ok (.ireturn, 1) := by decide +kernel
theorem dX9_excuses_308 : decode cX9_excuses 308 = .ok (.iload 4, 2) := by decide +kernel
theorem dX9_excuses_310 : decode cX9_excuses 310 = .ok (.istore 7, 2) := by decide +kernel
theorem dX9_excuses_312 : decode cX9_excuses 312 = .ok (.iload 5, 2) := by decide +kernel
theorem dX9_excuses_314 : decode cX9_excuses 314 = .ok (.istore 8, 2) := by decide +kernel
theorem dX9_excuses_316 : decode cX9_excuses 316 = .ok (.iload 8, 2) := by decide +kernel
theorem dX9_excuses_318 : decode cX9_excuses 318 = .ok (.iload 5, 2) := by decide +kernel
theorem dX9_excuses_320 : decode cX9_excuses 320 = .ok (.iload_n 3, 1) := by decide +kernel
theorem dX9_excuses_321 : decode cX9_excuses 321 = .ok (.isub, 1) := by decide +kernel
theorem dX9_excuses_322 : decode cX9_excuses 322 = .ok (.if_icmp .le 79, 3) := by decide +kernel
theorem dX9_excuses_325 : decode cX9_excuses 325 = .ok (.iconst 0, 1) := by decide +kernel
theorem dX9_excuses_326 : decode cX9_excuses 326 = .ok (.istore 9, 2) := by decide +kernel
theorem dX9_excuses_328 : decode cX9_excuses 328 = .ok (.aload_n 0, 1) := by decide +kernel
theorem dX9_excuses_329 : decode cX9_excuses 329 = .ok (.getfield 23, 3) := by decide +kernel
theorem dX9_excuses_332 : decode cX9_excuses 332 = .ok (.bipush 6, 2) := by decide +kernel
theorem dX9_excuses_334 : decode cX9_excuses 334 = .ok (.iload 7, 2) := by decide +kernel
theorem dX9_excuses_336 : decode cX9_excuses 336 = .ok (.imul, 1) := by decide +kernel
theorem dX9_excuses_337 : decode cX9_excuses 337 = .ok (.iload 9, 2) := by decide +kernel
theorem dX9_excuses_339 : decode cX9_excuses 339 = .ok (.iadd, 1) := by decide +kernel
theorem dX9_excuses_340 : decode cX9_excuses 340 = .ok (.iaload, 1) := by decide +kernel
theorem dX9_excuses_341 : decode cX9_excuses 341 = .ok (.ifCond .eq 44, 3) := by decide +kernel
theorem dX9_excuses_344 : decode cX9_excuses 344 = .ok (.aload_n 0, 1) := by decide +kernel
theorem dX9_excuses_345 : decode cX9_excuses 345 = .ok (.iload 9, 2) := by decide +kernel
theorem dX9_excuses_347 : decode cX9_excuses 347 = .ok (.bipush (-6), 2) := by decide +kernel
theorem dX9_excuses_349 : decode cX9_excuses 349 = .ok (.invokevirtual 134, 3) := by decide +kernel
theorem dX9_excuses_352 : decode cX9_excuses 352 = .ok (.aload_n 0, 1) := by decide +kernel
theorem dX9_excuses_353 : decode cX9_excuses 353 = .ok (.getfield 69, 3) := by decide +kernel
theorem dX9_excuses_356 : decode cX9_excuses 356 = .ok (.bipush 6, 2) := by decide +kernel
theorem dX9_excuses_358 : decode cX9_excuses 358 = .ok (.iload 8, 2) := by decide +kernel
theorem dX9_excuses_360 : decode cX9_excuses 360 = .ok (.imul, 1) := by decide +kernel
theorem dX9_excuses_361 : decode cX9_excuses 361 = .ok (.bipush 6, 2) := by decide +kernel
theorem dX9_excuses_363 : decode cX9_excuses 363 = .ok (.isub, 1) := by decide +kernel
theorem dX9_excuses_364 : decode cX9_excuses 364 = .ok (.iload 9, 2) := by decide +kernel
theorem dX9_excuses_366 : decode cX9_excuses 366 = .ok (.iadd, 1) := by decide +kernel
theorem dX9_excuses_367 : decode cX9_excuses 367 = .ok (.iaload, 1) := by decide +kernel
theorem dX9_excuses_368 : decode cX9_excuses 368 = .ok (.iadd, 1) := by decide +kernel
theorem dX9_excuses_369 : decode cX9_excuses 369 = .ok (.aload_n 0, 1) := by decide +kernel
theorem dX9_excuses_370 : decode cX9_excuses 370 = .ok (.getfield 69, 3) := by decide +kernel
theorem dX9_excuses_373 : decode cX9_excuses 373 = .ok (.bipush 6, 2) := by decide +kernel
theorem dX9_excuses_375 : decode cX9_excuses 375 = .ok (.iload 8, 2) := by decide +kernel
theorem dX9_excuses_377 : decode cX9_excuses 377 = .ok (.imul, 1) := by decide +kernel
theorem dX9_excuses_378 : decode cX9_excuses 378 = .ok (.iload 7, 2) := by decide +kernel
theorem dX9_excuses_380 : decode cX9_excuses 380 = .ok (.iadd, 1) := by decide +kernel
theorem dX9_excuses_381 : decode cX9_excuses 381 = .ok (.iaload, 1) := by decide +kernel
theorem dX9_excuses_382 : decode cX9_excuses 382 = .ok (.if_icmp .eq 9, 3) := by decide +kernel
theorem dX9_excuses_385 : decode cX9_excuses 385 = .ok (.iinc 9 1, 3) := by decide +kernel
theorem dX9_excuses_388 : decode cX9_excuses 388 = .ok (.goto (-60), 3) := by decide +kernel
theorem dX9_excuses_391 : decode cX9_excuses 391 = .ok (.iload 9, 2) := by decide +kernel
theorem dX9_excuses_393 : decode cX9_excuses 393 = .ok (.istore 7, 2) := by decide +kernel
theorem dX9_excuses_395 : decode cX9_excuses 395 = .ok (.iinc 8 (-1), 3) := by decide +kernel
theorem dX9_excuses_398 : decode cX9_excuses 398 = .ok (.goto (-82), 3) := by decide +kernel
theorem dX9_excuses_401 : decode cX9_excuses 401 = .ok (.iload 7, 2) := by decide +kernel
theorem dX9_excuses_403 : decode cX9_excuses 403 = .ok (.ireturn, 1) := by decide +kernel
theorem dX9_seen_0 : decode cX9_seen 0 = .ok (.iload_n 1, 1) := by decide +kernel
theorem dX9_seen_1 : decode cX9_seen 1 = .ok (.iconst 0, 1) := by decide +kernel
theorem dX9_seen_2 : decode cX9_seen 2 = .ok (.bipush 7, 2) := by decide +kernel
theorem dX9_seen_4 : decode cX9_seen 4 = .ok (.invokestatic 94, 3) := by decide +kernel
theorem dX9_seen_7 : decode cX9_seen 7 = .ok (.ifCond .eq 11, 3) := by decide +kernel
theorem dX9_seen_10 : decode cX9_seen 10 = .ok (.aload_n 0, 1) := by decide +kernel
theorem dX9_seen_11 : decode cX9_seen 11 = .ok (.iload_n 2, 1) := by decide +kernel
theorem dX9_seen_12 : decode cX9_seen 12 = .ok (.invokevirtual 102, 3) := by decide +kernel
theorem dX9_seen_15 : decode cX9_seen 15 = .ok (.ifCond .ne 5, 3) := by decide +kernel
theorem dX9_seen_18 : decode cX9_seen 18 = .ok (.iconst (-1), 1) := by decide +kernel
theorem dX9_seen_19 : decode cX9_seen 19 = .ok (.ireturn, 1) := by decide +kernel
theorem dX9_seen_20 : decode cX9_seen 20 = .ok (.aload_n 0, 1) := by decide +kernel
theorem dX9_seen_21 : decode cX9_seen 21 = .ok (.getfield 91, 3) := by decide +kernel
theorem dX9_seen_24 : decode cX9_seen 24 = .ok (.bipush 6, 2) := by decide +kernel
theorem dX9_seen_26 : decode cX9_seen 26 = .ok (.if_icmp .ne 6, 3) := by decide +kernel
theorem dX9_seen_29 : decode cX9_seen 29 = .ok (.bipush (-4), 2) := by decide +kernel
theorem dX9_seen_31 : decode cX9_seen 31 = .ok (.ireturn, 1) := by decide +kernel
theorem dX9_seen_32 : decode cX9_seen 32 = .ok (.aload_n 0, 1) := by decide +kernel
theorem dX9_seen_33 : decode cX9_seen 33 = .ok (.getfield 41, 3) := by decide +kernel
theorem dX9_seen_36 : decode cX9_seen 36 = .ok (.iconst 2, 1) := by decide +kernel
theorem dX9_seen_37 : decode cX9_seen 37 = .ok (.aload_n 0, 1) := by decide +kernel
theorem dX9_seen_38 : decode cX9_seen 38 = .ok (.getfield 91, 3) := by decide +kernel
theorem dX9_seen_41 : decode cX9_seen 41 = .ok (.imul, 1) := by decide +kernel
theorem dX9_seen_42 : decode cX9_seen 42 = .ok (.iload_n 1, 1) := by decide +kernel
theorem dX9_seen_43 : decode cX9_seen 43 = .ok (.iastore, 1) := by decide +kernel
theorem dX9_seen_44 : decode cX9_seen 44 = .ok (.aload_n 0, 1) := by decide +kernel
theorem dX9_seen_45 : decode cX9_seen 45 = .ok (.getfield 41, 3) := by decide +kernel
theorem dX9_seen_48 : decode cX9_seen 48 = .ok (.iconst 2, 1) := by decide +kernel
theorem dX9_seen_49 : decode cX9_seen 49 = .ok (.aload_n 0, 1) := by decide +kernel
theorem dX9_seen_50 : decode cX9_seen 50 = .ok (.getfield 91, 3) := by decide +kernel
theorem dX9_seen_53 : decode cX9_seen 53 = .ok (.imul, 1) := by decide +kernel
theorem dX9_seen_54 : decode cX9_seen 54 = .ok (.iconst 1, 1) := by decide +kernel
theorem dX9_seen_55 : decode cX9_seen 55 = .ok (.iadd, 1) := by decide +kernel
theorem dX9_seen_56 : decode cX9_seen 56 = .ok (.iload_n 2, 1) := by decide +kernel
theorem dX9_seen_57 : decode cX9_seen 57 = .ok (.iastore, 1) := by decide +kernel
theorem dX9_seen_58 : decode cX9_seen 58 = .ok (.aload_n 0, 1) := by decide +kernel
theorem dX9_seen_59 : decode cX9_seen 59 = .ok (.dup, 1) := by decide +kernel
theorem dX9_seen_60 : decode cX9_seen 60 = .ok (.getfield 91, 3) := by decide +kernel
theorem dX9_seen_63 : decode cX9_seen 63 = .ok (.iconst 1, 1) := by decide +kernel
theorem dX9_seen_64 : decode cX9_seen 64 = .ok (.iadd, 1) := by decide +kernel
theorem dX9_seen_65 : decode cX9_seen 65 = .ok (.putfield 91, 3) := by decide +kernel
theorem dX9_seen_68 : decode cX9_seen 68 = .ok (.aload_n 0, 1) := by decide +kernel
theorem dX9_seen_69 : decode cX9_seen 69 = .ok (.getfield 91, 3) := by decide +kernel
theorem dX9_seen_72 : decode cX9_seen 72 = .ok (.ireturn, 1) := by decide +kernel
theorem dX9_forget_0 : decode cX9_forget 0 = .ok (.aload_n 0, 1) := by decide +kernel
theorem dX9_forget_1 : decode cX9_forget 1 = .ok (.getfield 91, 3) := by decide +kernel
theorem dX9_forget_4 : decode cX9_forget 4 = .ok (.istore_n 1, 1) := by decide +kernel
theorem dX9_forget_5 : decode cX9_forget 5 = .ok (.aload_n 0, 1) := by decide +kernel
theorem dX9_forget_6 : decode cX9_forget 6 = .ok (.iconst 0, 1) := by decide +kernel
theorem dX9_forget_7 : decode cX9_forget 7 = .ok (.putfield 91, 3) := by decide +kernel
theorem dX9_forget_10 : decode cX9_forget 10 = .ok (.iload_n 1, 1) := by decide +kernel
theorem dX9_forget_11 : decode cX9_forget 11 = .ok (.ireturn, 1) := by decide +kernel
theorem dX9_tastes_0 : decode cX9_tastes 0 = .ok (.aload_n 0, 1) := by decide +kernel
theorem dX9_tastes_1 : decode cX9_tastes 1 = .ok (.iload_n 1, 1) := by decide +kernel
theorem dX9_tastes_2 : decode cX9_tastes 2 = .ok (.invokevirtual 121, 3) := by decide +kernel
theorem dX9_tastes_5 : decode cX9_tastes 5 = .ok (.ifCond .ne 5, 3) := by decide +kernel
theorem dX9_tastes_8 : decode cX9_tastes 8 = .ok (.iconst (-1), 1) := by decide +kernel
theorem dX9_tastes_9 : decode cX9_tastes 9 = .ok (.ireturn, 1) := by decide +kernel
theorem dX9_tastes_10 : decode cX9_tastes 10 = .ok (.iload_n 2, 1) := by decide +kernel
theorem dX9_tastes_11 : decode cX9_tastes 11 = .ok (.iconst 0, 1) := by decide +kernel
theorem dX9_tastes_12 : decode cX9_tastes 12 = .ok (.iconst 4, 1) := by decide +kernel
theorem dX9_tastes_13 : decode cX9_tastes 13 = .ok (.invokestatic 94, 3) := by decide +kernel
theorem dX9_tastes_16 : decode cX9_tastes 16 = .ok (.ifCond .ne 6, 3) := by decide +kernel
theorem dX9_tastes_19 : decode cX9_tastes 19 = .ok (.bipush (-2), 2) := by decide +kernel
theorem dX9_tastes_21 : decode cX9_tastes 21 = .ok (.ireturn, 1) := by decide +kernel
theorem dX9_tastes_22 : decode cX9_tastes 22 = .ok (.aload_n 0, 1) := by decide +kernel
theorem dX9_tastes_23 : decode cX9_tastes 23 = .ok (.invokevirtual 157, 3) := by decide +kernel
theorem dX9_tastes_26 : decode cX9_tastes 26 = .ok (.aload_n 0, 1) := by decide +kernel
theorem dX9_tastes_27 : decode cX9_tastes 27 = .ok (.invokevirtual 145, 3) := by decide +kernel
theorem dX9_tastes_30 : decode cX9_tastes 30 = .ok (.iconst 0, 1) := by decide +kernel
theorem dX9_tastes_31 : decode cX9_tastes 31 = .ok (.istore_n 3, 1) := by decide +kernel
theorem dX9_tastes_32 : decode cX9_tastes 32 = .ok (.bipush (-3), 2) := by decide +kernel
theorem dX9_tastes_34 : decode cX9_tastes 34 = .ok (.istore 4, 2) := by decide +kernel
theorem dX9_tastes_36 : decode cX9_tastes 36 = .ok (.iload 4, 2) := by decide +kernel
theorem dX9_tastes_38 : decode cX9_tastes 38 = .ok (.iconst 4, 1) := by decide +kernel
theorem dX9_tastes_39 : decode cX9_tastes 39 = .ok (.if_icmp .ge 95, 3) := by decide +kernel
theorem dX9_tastes_42 : decode cX9_tastes 42 = .ok (.iconst 1, 1) := by decide +kernel
theorem dX9_tastes_43 : decode cX9_tastes 43 = .ok (.istore 5, 2) := by decide +kernel
theorem dX9_tastes_45 : decode cX9_tastes 45 = .ok (.iconst 0, 1) := by decide +kernel
theorem dX9_tastes_46 : decode cX9_tastes 46 = .ok (.istore 6, 2) := by decide +kernel
theorem dX9_tastes_48 : decode cX9_tastes 48 = .ok (.iload 6, 2) := by decide +kernel
theorem dX9_tastes_50 : decode cX9_tastes 50 = .ok (.aload_n 0, 1) := by decide +kernel
theorem dX9_tastes_51 : decode cX9_tastes 51 = .ok (.getfield 91, 3) := by decide +kernel
theorem dX9_tastes_54 : decode cX9_tastes 54 = .ok (.if_icmp .ge 56, 3) := by decide +kernel
theorem dX9_tastes_57 : decode cX9_tastes 57 = .ok (.iload 5, 2) := by decide +kernel
theorem dX9_tastes_59 : decode cX9_tastes 59 = .ok (.ifCond .eq 42, 3) := by decide +kernel
theorem dX9_tastes_62 : decode cX9_tastes 62 = .ok (.aload_n 0, 1) := by decide +kernel
theorem dX9_tastes_63 : decode cX9_tastes 63 = .ok (.getfield 41, 3) := by decide +kernel
theorem dX9_tastes_66 : decode cX9_tastes 66 = .ok (.iconst 2, 1) := by decide +kernel
theorem dX9_tastes_67 : decode cX9_tastes 67 = .ok (.iload 6, 2) := by decide +kernel
theorem dX9_tastes_69 : decode cX9_tastes 69 = .ok (.imul, 1) := by decide +kernel
theorem dX9_tastes_70 : decode cX9_tastes 70 = .ok (.iaload, 1) := by decide +kernel
theorem dX9_tastes_71 : decode cX9_tastes 71 = .ok (.iload_n 1, 1) := by decide +kernel
theorem dX9_tastes_72 : decode cX9_tastes 72 = .ok (.if_icmp .ne 25, 3) := by decide +kernel
theorem dX9_tastes_75 : decode cX9_tastes 75 = .ok (.aload_n 0, 1) := by decide +kernel
theorem dX9_tastes_76 : decode cX9_tastes 76 = .ok (.iload_n 1, 1) := by decide +kernel
theorem dX9_tastes_77 : decode cX9_tastes 77 = .ok (.iload_n 2, 1) := by decide +kernel
theorem dX9_tastes_78 : decode cX9_tastes 78 = .ok (.iload 4, 2) := by decide +kernel
theorem dX9_tastes_80 : decode cX9_tastes 80 = .ok (.invokevirtual 148, 3) := by decide +kernel
theorem dX9_tastes_83 : decode cX9_tastes 83 = .ok (.aload_n 0, 1) := by decide +kernel
theorem dX9_tastes_84 : decode cX9_tastes 84 = .ok (.getfield 41, 3) := by decide +kernel
theorem dX9_tastes_87 : decode cX9_tastes 87 = .ok (.iconst 2, 1) := by decide +kernel
theorem dX9_tastes_88 : decode cX9_tastes 88 = .ok (.iload 6, 2) := by decide +kernel
theorem dX9_tastes_90 : decode cX9_tastes 90 = .ok (.imul, 1) := by decide +kernel
theorem dX9_tastes_91 : decode cX9_tastes 91 = .ok (.iconst 1, 1) := by decide +kernel
theorem dX9_tastes_92 : decode cX9_tastes 92 = .ok (.iadd, 1) := by decide +kernel
theorem dX9_tastes_93 : decode cX9_tastes 93 = .ok (.iaload, 1) := by decide +kernel
theorem dX9_tastes_94 : decode cX9_tastes 94 = .ok (.if_icmp .ne 7, 3) := by decide +kernel
theorem dX9_tastes_97 : decode cX9_tastes 97 = .ok (.iconst 1, 1) := by decide +kernel
theorem dX9_tastes_98 : decode cX9_tastes 98 = .ok (.goto 4, 3) := by decide +kernel
theorem dX9_tastes_101 : decode cX9_tastes 101 = .ok (.iconst 0, 1) := by decide +kernel
theorem dX9_tastes_102 : decode cX9_tastes 102 = .ok (.istore 5, 2) := by decide +kernel
theorem dX9_tastes_104 : decode cX9_tastes 104 = .ok (.iinc 6 1, 3) := by decide +kernel
theorem dX9_tastes_107 : decode cX9_tastes 107 = .ok (.goto (-59), 3) := by decide +kernel
theorem dX9_tastes_110 : decode cX9_tastes 110 = .ok (.iload_n 3, 1) := by decide +kernel
theorem dX9_tastes_111 : decode cX9_tastes 111 = .ok (.iload 5, 2) := by decide +kernel
theorem dX9_tastes_113 : decode cX9_tastes 113 = .ok (.ifCond .eq 12, 3) := by decide +kernel
theorem dX9_tastes_116 : decode cX9_tastes 116 = .ok (.iconst 1, 1) := by decide +kernel
theorem dX9_tastes_117 : decode cX9_tastes 117 = .ok (.iload 4, 2) := by decide +kernel
theorem dX9_tastes_119 : decode cX9_tastes 119 = .ok (.iconst 3, 1) := by decide +kernel
theorem dX9_tastes_120 : decode cX9_tastes 120 = .ok (.iadd, 1) := by decide +kernel
theorem dX9_tastes_121 : decode cX9_tastes 121 = .ok (.ishl, 1) := by decide +kernel
theorem dX9_tastes_122 : decode cX9_tastes 122 = .ok (.goto 4, 3) := by decide +kernel
theorem dX9_tastes_125 : decode cX9_tastes 125 = .ok (.iconst 0, 1) := by decide +kernel
theorem dX9_tastes_126 : decode cX9_tastes 126 = .ok (.ior, 1) := by decide +kernel
theorem dX9_tastes_127 : decode cX9_tastes 127 = .ok (.istore_n 3, 1) := by decide +kernel
theorem dX9_tastes_128 : decode cX9_tastes 128 = .ok (.iinc 4 1, 3) := by decide +kernel
theorem dX9_tastes_131 : decode cX9_tastes 131 = .ok (.goto (-95), 3) := by decide +kernel
theorem dX9_tastes_134 : decode cX9_tastes 134 = .ok (.iload_n 3, 1) := by decide +kernel
theorem dX9_tastes_135 : decode cX9_tastes 135 = .ok (.ireturn, 1) := by decide +kernel
theorem dX9_drunk_0 : decode cX9_drunk 0 = .ok (.aload_n 0, 1) := by decide +kernel
theorem dX9_drunk_1 : decode cX9_drunk 1 = .ok (.iload_n 1, 1) := by decide +kernel
theorem dX9_drunk_2 : decode cX9_drunk 2 = .ok (.invokevirtual 121, 3) := by decide +kernel
theorem dX9_drunk_5 : decode cX9_drunk 5 = .ok (.ifCond .eq 11, 3) := by decide +kernel
theorem dX9_drunk_8 : decode cX9_drunk 8 = .ok (.aload_n 0, 1) := by decide +kernel
theorem dX9_drunk_9 : decode cX9_drunk 9 = .ok (.iload_n 2, 1) := by decide +kernel
theorem dX9_drunk_10 : decode cX9_drunk 10 = .ok (.invokevirtual 102, 3) := by decide +kernel
theorem dX9_drunk_13 : decode cX9_drunk 13 = .ok (.ifCond .ne 7, 3) := by decide +kernel
theorem dX9_drunk_16 : decode cX9_drunk 16 = .ok (.ldc2_w 221, 3) := by decide +kernel
theorem dX9_drunk_19 : decode cX9_drunk 19 = .ok (.lreturn, 1) := by decide +kernel
theorem dX9_drunk_20 : decode cX9_drunk 20 = .ok (.iload_n 3, 1) := by decide +kernel
theorem dX9_drunk_21 : decode cX9_drunk 21 = .ok (.iconst 0, 1) := by decide +kernel
theorem dX9_drunk_22 : decode cX9_drunk 22 = .ok (.bipush 10, 2) := by decide +kernel
theorem dX9_drunk_24 : decode cX9_drunk 24 = .ok (.invokestatic 94, 3) := by decide +kernel
theorem dX9_drunk_27 : decode cX9_drunk 27 = .ok (.ifCond .eq 24, 3) := by decide +kernel
theorem dX9_drunk_30 : decode cX9_drunk 30 = .ok (.iload 4, 2) := by decide +kernel
theorem dX9_drunk_32 : decode cX9_drunk 32 = .ok (.iconst 0, 1) := by decide +kernel
theorem dX9_drunk_33 : decode cX9_drunk 33 = .ok (.bipush 6, 2) := by decide +kernel
theorem dX9_drunk_35 : decode cX9_drunk 35 = .ok (.invokestatic 94, 3) := by decide +kernel
theorem dX9_drunk_38 : decode cX9_drunk 38 = .ok (.ifCond .eq 13, 3) := by decide +kernel
theorem dX9_drunk_41 : decode cX9_drunk 41 = .ok (.iload 5, 2) := by decide +kernel
theorem dX9_drunk_43 : decode cX9_drunk 43 = .ok (.iconst 0, 1) := by decide +kernel
theorem dX9_drunk_44 : decode cX9_drunk 44 = .ok (.iconst 1, 1) := by decide +kernel
theorem dX9_drunk_45 : decode cX9_drunk 45 = .ok (.invokestatic 94, 3) := by decide +kernel
theorem dX9_drunk_48 : decode cX9_drunk 48 = .ok (.ifCond .ne 7, 3) := by decide +kernel
theorem dX9_drunk_51 : decode cX9_drunk 51 = .ok (.ldc2_w 223, 3) := by decide +kernel
theorem dX9_drunk_54 : decode cX9_drunk 54 = .ok (.lreturn, 1) := by decide +kernel
theorem dX9_drunk_55 : decode cX9_drunk 55 = .ok (.iconst 0, 1) := by decide +kernel
theorem dX9_drunk_56 : decode cX9_drunk 56 = .ok (.istore 6, 2) := by decide +kernel
theorem dX9_drunk_58 : decode cX9_drunk 58 = .ok (.iload 6, 2) := by decide +kernel
theorem dX9_drunk_60 : decode cX9_drunk 60 = .ok (.bipush 6, 2) := by decide +kernel
theorem dX9_drunk_62 : decode cX9_drunk 62 = .ok (.if_icmp .ge 32, 3) := by decide +kernel
theorem dX9_drunk_65 : decode cX9_drunk 65 = .ok (.aload_n 0, 1) := by decide +kernel
theorem dX9_drunk_66 : decode cX9_drunk 66 = .ok (.getfield 72, 3) := by decide +kernel
theorem dX9_drunk_69 : decode cX9_drunk 69 = .ok (.iload 6, 2) := by decide +kernel
theorem dX9_drunk_71 : decode cX9_drunk 71 = .ok (.iload 6, 2) := by decide +kernel
theorem dX9_drunk_73 : decode cX9_drunk 73 = .ok (.aload_n 0, 1) := by decide +kernel
theorem dX9_drunk_74 : decode cX9_drunk 74 = .ok (.getfield 29, 3) := by decide +kernel
theorem dX9_drunk_77 : decode cX9_drunk 77 = .ok (.iload_n 1, 1) := by decide +kernel
theorem dX9_drunk_78 : decode cX9_drunk 78 = .ok (.iaload, 1) := by decide +kernel
theorem dX9_drunk_79 : decode cX9_drunk 79 = .ok (.if_icmp .ne 7, 3) := by decide +kernel
theorem dX9_drunk_82 : decode cX9_drunk 82 = .ok (.lconst 1, 1) := by decide +kernel
theorem dX9_drunk_83 : decode cX9_drunk 83 = .ok (.goto 4, 3) := by decide +kernel
theorem dX9_drunk_86 : decode cX9_drunk 86 = .ok (.lconst 0, 1) := by decide +kernel
theorem dX9_drunk_87 : decode cX9_drunk 87 = .ok (.lastore, 1) := by decide +kernel
theorem dX9_drunk_88 : decode cX9_drunk 88 = .ok (.iinc 6 1, 3) := by decide +kernel
theorem dX9_drunk_91 : decode cX9_drunk 91 = .ok (.goto (-33), 3) := by decide +kernel
theorem dX9_drunk_94 : decode cX9_drunk 94 = .ok (.lconst 1, 1) := by decide +kernel
theorem dX9_drunk_95 : decode cX9_drunk 95 = .ok (.lstore 6, 2) := by decide +kernel
theorem dX9_drunk_97 : decode cX9_drunk 97 = .ok (.iconst 0, 1) := by decide +kernel
theorem dX9_drunk_98 : decode cX9_drunk 98 = .ok (.istore 8, 2) := by decide +kernel
theorem dX9_drunk_100 : decode cX9_drunk 100 = .ok (.iload 8, 2) := by decide +kernel
theorem dX9_drunk_102 : decode cX9_drunk 102 = .ok (.iload 4, 2) := by decide +kernel
theorem dX9_drunk_104 : decode cX9_drunk 104 = .ok (.if_icmp .ge 237, 3) := by decide +kernel
theorem dX9_drunk_107 : decode cX9_drunk 107 = .ok (.iconst 0, 1) := by decide +kernel
theorem dX9_drunk_108 : decode cX9_drunk 108 = .ok (.istore 9, 2) := by decide +kernel
theorem dX9_drunk_110 : decode cX9_drunk 110 = .ok (.iload 9, 2) := by decide +kernel
theorem dX9_drunk_112 : decode cX9_drunk 112 = .ok (.bipush 6, 2) := by decide +kernel
theorem dX9_drunk_114 : decode cX9_drunk 114 = .ok (.if_icmp .ge 17, 3) := by decide +kernel
theorem dX9_drunk_117 : decode cX9_drunk 117 = .ok (.aload_n 0, 1) := by decide +kernel
theorem dX9_drunk_118 : decode cX9_drunk 118 = .ok (.getfield 75, 3) := by decide +kernel
theorem dX9_drunk_121 : decode cX9_drunk 121 = .ok (.iload 9, 2) := by decide +kernel
theorem dX9_drunk_123 : decode cX9_drunk 123 = .ok (.lconst 0, 1) := by decide +kernel
theorem dX9_drunk_124 : decode cX9_drunk 124 = .ok (.lastore, 1) := by decide +kernel
theorem dX9_drunk_125 : decode cX9_drunk 125 = .ok (.iinc 9 1, 3) := by decide +kernel
theorem dX9_drunk_128 : decode cX9_drunk 128 = .ok (.goto (-18), 3) := by decide +kernel
theorem dX9_drunk_131 : decode cX9_drunk 131 = .ok (.iconst 0, 1) := by decide +kernel
theorem dX9_drunk_132 : decode cX9_drunk 132 = .ok (.istore 9, 2) := by decide +kernel
theorem dX9_drunk_134 : decode cX9_drunk 134 = .ok (.iload 9, 2) := by decide +kernel
theorem dX9_drunk_136 : decode cX9_drunk 136 = .ok (.aload_n 0, 1) := by decide +kernel
theorem dX9_drunk_137 : decode cX9_drunk 137 = .ok (.getfield 7, 3) := by decide +kernel
theorem dX9_drunk_140 : decode cX9_drunk 140 = .ok (.if_icmp .ge 157, 3) := by decide +kernel
theorem dX9_drunk_143 : decode cX9_drunk 143 = .ok (.iconst 0, 1) := by decide +kernel
theorem dX9_drunk_144 : decode cX9_drunk 144 = .ok (.istore 10, 2) := by decide +kernel
theorem dX9_drunk_146 : decode cX9_drunk 146 = .ok (.iconst 0, 1) := by decide +kernel
theorem dX9_drunk_147 : decode cX9_drunk 147 = .ok (.istore 11, 2) := by decide +kernel
theorem dX9_drunk_149 : decode cX9_drunk 149 = .ok (.iload 11, 2) := by decide +kernel
theorem dX9_drunk_151 : decode cX9_drunk 151 = .ok (.aload_n 0, 1) := by decide +kernel
theorem dX9_drunk_152 : decode cX9_drunk 152 = .ok (.getfield 7, 3) := by decide +kernel
theorem dX9_drunk_155 : decode cX9_drunk 155 = .ok (.if_icmp .ge 35, 3) := by decide +kernel
theorem dX9_drunk_158 : decode cX9_drunk 158 = .ok (.iload 10, 2) := by decide +kernel
theorem dX9_drunk_160 : decode cX9_drunk 160 = .ok (.aload_n 0, 1) := by decide +kernel
theorem dX9_drunk_161 : decode cX9_drunk 161 = .ok (.getfield 23, 3) := by decide +kernel
theorem dX9_drunk_164 : decode cX9_drunk 164 = .ok (.bipush 6, 2) := by decide +kernel
theorem dX9_drunk_166 : decode cX9_drunk 166 = .ok (.iload 9, 2) := by decide +kernel
theorem dX9_drunk_168 : decode cX9_drunk 168 = .ok (.imul, 1) := by decide +kernel
theorem dX9_drunk_169 : decode cX9_drunk 169 = .ok (.iload 11, 2) := by decide +kernel
theorem dX9_drunk_171 : decode cX9_drunk 171 = .ok (.iadd, 1) := by decide +kernel
theorem dX9_drunk_172 : decode cX9_drunk 172 = .ok (.iaload, 1) := by decide +kernel
theorem dX9_drunk_173 : decode cX9_drunk 173 = .ok (.ifCond .le 7, 3) := by decide +kernel
theorem dX9_drunk_176 : decode cX9_drunk 176 = .ok (.iconst 1, 1) := by decide +kernel
theorem dX9_drunk_177 : decode cX9_drunk 177 = .ok (.goto 4, 3) := by decide +kernel
theorem dX9_drunk_180 : decode cX9_drunk 180 = .ok (.iconst 0, 1) := by decide +kernel
theorem dX9_drunk_181 : decode cX9_drunk 181 = .ok (.iadd, 1) := by decide +kernel
theorem dX9_drunk_182 : decode cX9_drunk 182 = .ok (.istore 10, 2) := by decide +kernel
theorem dX9_drunk_184 : decode cX9_drunk 184 = .ok (.iinc 11 1, 3) := by decide +kernel
theorem dX9_drunk_187 : decode cX9_drunk 187 = .ok (.goto (-38), 3) := by decide +kernel
theorem dX9_drunk_190 : decode cX9_drunk 190 = .ok (.aload_n 0, 1) := by decide +kernel
theorem dX9_drunk_191 : decode cX9_drunk 191 = .ok (.getfield 75, 3) := by decide +kernel
theorem dX9_drunk_194 : decode cX9_drunk 194 = .ok (.iload 9, 2) := by decide +kernel
theorem dX9_drunk_196 : decode cX9_drunk 196 = .ok (.dup2, 1) := by decide +kernel
theorem dX9_drunk_197 : decode cX9_drunk 197 = .ok (.laload, 1) := by decide +kernel
theorem dX9_drunk_198 : decode cX9_drunk 198 = .ok (.aload_n 0, 1) := by decide +kernel
theorem dX9_drunk_199 : decode cX9_drunk 199 = .ok (.getfield 72, 3) := by decide +kernel
theorem dX9_drunk_202 : decode cX9_drunk 202 = .ok (.iload 9, 2) := by decide +kernel
theorem dX9_drunk_204 : decode cX9_drunk 204 = .ok (.laload, 1) := by decide +kernel
theorem dX9_drunk_205 : decode cX9_drunk 205 = .ok (.iload 10, 2) := by decide +kernel
theorem dX9_drunk_207 : decode cX9_drunk 207 = .ok (.ifCond .ne 9, 3) := by decide +kernel
theorem dX9_drunk_210 : decode cX9_drunk 210 = .ok (.sipush 600, 3) := by decide +kernel
theorem dX9_drunk_213 : decode cX9_drunk 213 = .ok (.goto 7, 3) := by decide +kernel
theorem dX9_drunk_216 : decode cX9_drunk 216 = .ok (.bipush 60, 2) := by decide +kernel
theorem dX9_drunk_218 : decode cX9_drunk 218 = .ok (.iload_n 3, 1) := by decide +kernel
theorem dX9_drunk_219 : decode cX9_drunk 219 = .ok (.imul, 1) := by decide +kernel
theorem dX9_drunk_220 : decode cX9_drunk 220 = .ok (.i2l, 1) := by decide +kernel
theorem dX9_drunk_221 : decode cX9_drunk 221 = .ok (.lmul, 1) := by decide +kernel
theorem dX9_drunk_222 : decode cX9_drunk 222 = .ok (.ladd, 1) := by decide +kernel
theorem dX9_drunk_223 : decode cX9_drunk 223 = .ok (.lastore, 1) := by decide +kernel
theorem dX9_drunk_224 : decode cX9_drunk 224 = .ok (.iconst 0, 1) := by decide +kernel
theorem dX9_drunk_225 : decode cX9_drunk 225 = .ok (.istore 11, 2) := by decide +kernel
theorem dX9_drunk_227 : decode cX9_drunk 227 = .ok (.iload 11, 2) := by decide +kernel
theorem dX9_drunk_229 : decode cX9_drunk 229 = .ok (.aload_n 0, 1) := by decide +kernel
theorem dX9_drunk_230 : decode cX9_drunk 230 = .ok (.getfield 7, 3) := by decide +kernel
theorem dX9_drunk_233 : decode cX9_drunk 233 = .ok (.if_icmp .ge 58, 3) := by decide +kernel
theorem dX9_drunk_236 : decode cX9_drunk 236 = .ok (.aload_n 0, 1) := by decide +kernel
theorem dX9_drunk_237 : decode cX9_drunk 237 = .ok (.getfield 75, 3) := by decide +kernel
theorem dX9_drunk_240 : decode cX9_drunk 240 = .ok (.iload 11, 2) := by decide +kernel
theorem dX9_drunk_242 : decode cX9_drunk 242 = .ok (.dup2, 1) := by decide +kernel
theorem dX9_drunk_243 : decode cX9_drunk 243 = .ok (.laload, 1) := by decide +kernel
theorem dX9_drunk_244 : decode cX9_drunk 244 = .ok (.aload_n 0, 1) := by decide +kernel
theorem dX9_drunk_245 : decode cX9_drunk 245 = .ok (.getfield 23, 3) := by decide +kernel
end
section
theorem dX9_drunk_248 : decode cX9_drunk 248 = .ok (.bipush 6, 2) := by decide +kernel
theorem dX9_drunk_250 : decode cX9_drunk 250 = .ok (.iload 9, 2) := by decide +kernel
theorem dX9_drunk_252 : decode cX9_drunk 252 = .ok (.imul, 1) := by decide +kernel
theorem dX9_drunk_253 : decode cX9_drunk 253 = .ok (.iload 11, 2) := by decide +kernel
theorem dX9_drunk_255 : decode cX9_drunk 255 = .ok (.iadd, 1) := by decide +kernel
theorem dX9_drunk_256 : decode cX9_drunk 256 = .ok (.iaload, 1) := by decide +kernel
theorem dX9_drunk_257 : decode cX9_drunk 257 = .ok (.ifCond .le 25, 3) := by decide +kernel
theorem dX9_drunk_260 : decode cX9_drunk 260 = .ok (.aload_n 0, 1) := by decide +kernel
theorem dX9_drunk_261 : decode cX9_drunk 261 = .ok (.getfield 72, 3) := by decide +kernel
theorem dX9_drunk_264 : decode cX9_drunk 264 = .ok (.iload 9, 2) := by decide +kernel
theorem dX9_drunk_266 : decode cX9_drunk 266 = .ok (.laload, 1) := by decide +kernel
theorem dX9_drunk_267 : decode cX9_drunk 267 = .ok (.bipush 60, 2) := by decide +kernel
theorem dX9_drunk_269 : decode cX9_drunk 269 = .ok (.bipush 10, 2) := by decide +kernel
theorem dX9_drunk_271 : decode cX9_drunk 271 = .ok (.iload_n 3, 1) := by decide +kernel
theorem dX9_drunk_272 : decode cX9_drunk 272 = .ok (.isub, 1) := by decide +kernel
theorem dX9_drunk_273 : decode cX9_drunk 273 = .ok (.imul, 1) := by decide +kernel
theorem dX9_drunk_274 : decode cX9_drunk 274 = .ok (.iload 10, 2) := by decide +kernel
theorem dX9_drunk_276 : decode cX9_drunk 276 = .ok (.idiv, 1) := by decide +kernel
theorem dX9_drunk_277 : decode cX9_drunk 277 = .ok (.i2l, 1) := by decide +kernel
theorem dX9_drunk_278 : decode cX9_drunk 278 = .ok (.lmul, 1) := by decide +kernel
theorem dX9_drunk_279 : decode cX9_drunk 279 = .ok (.goto 4, 3) := by decide +kernel
theorem dX9_drunk_282 : decode cX9_drunk 282 = .ok (.lconst 0, 1) := by decide +kernel
theorem dX9_drunk_283 : decode cX9_drunk 283 = .ok (.ladd, 1) := by decide +kernel
theorem dX9_drunk_284 : decode cX9_drunk 284 = .ok (.lastore, 1) := by decide +kernel
theorem dX9_drunk_285 : decode cX9_drunk 285 = .ok (.iinc 11 1, 3) := by decide +kernel
theorem dX9_drunk_288 : decode cX9_drunk 288 = .ok (.goto (-61), 3) := by decide +kernel
theorem dX9_drunk_291 : decode cX9_drunk 291 = .ok (.iinc 9 1, 3) := by decide +kernel
theorem dX9_drunk_294 : decode cX9_drunk 294 = .ok (.goto (-160), 3) := by decide +kernel
theorem dX9_drunk_297 : decode cX9_drunk 297 = .ok (.iconst 0, 1) := by decide +kernel
theorem dX9_drunk_298 : decode cX9_drunk 298 = .ok (.istore 9, 2) := by decide +kernel
theorem dX9_drunk_300 : decode cX9_drunk 300 = .ok (.iload 9, 2) := by decide +kernel
theorem dX9_drunk_302 : decode cX9_drunk 302 = .ok (.bipush 6, 2) := by decide +kernel
theorem dX9_drunk_304 : decode cX9_drunk 304 = .ok (.if_icmp .ge 23, 3) := by decide +kernel
theorem dX9_drunk_307 : decode cX9_drunk 307 = .ok (.aload_n 0, 1) := by decide +kernel
theorem dX9_drunk_308 : decode cX9_drunk 308 = .ok (.getfield 72, 3) := by decide +kernel
theorem dX9_drunk_311 : decode cX9_drunk 311 = .ok (.iload 9, 2) := by decide +kernel
theorem dX9_drunk_313 : decode cX9_drunk 313 = .ok (.aload_n 0, 1) := by decide +kernel
theorem dX9_drunk_314 : decode cX9_drunk 314 = .ok (.getfield 75, 3) := by decide +kernel
theorem dX9_drunk_317 : decode cX9_drunk 317 = .ok (.iload 9, 2) := by decide +kernel
theorem dX9_drunk_319 : decode cX9_drunk 319 = .ok (.laload, 1) := by decide +kernel
theorem dX9_drunk_320 : decode cX9_drunk 320 = .ok (.lastore, 1) := by decide +kernel
theorem dX9_drunk_321 : decode cX9_drunk 321 = .ok (.iinc 9 1, 3) := by decide +kernel
theorem dX9_drunk_324 : decode cX9_drunk 324 = .ok (.goto (-24), 3) := by decide +kernel
theorem dX9_drunk_327 : decode cX9_drunk 327 = .ok (.lload 6, 2) := by decide +kernel
theorem dX9_drunk_329 : decode cX9_drunk 329 = .ok (.ldc2_w 225, 3) := by decide +kernel
theorem dX9_drunk_332 : decode cX9_drunk 332 = .ok (.lmul, 1) := by decide +kernel
theorem dX9_drunk_333 : decode cX9_drunk 333 = .ok (.lstore 6, 2) := by decide +kernel
theorem dX9_drunk_335 : decode cX9_drunk 335 = .ok (.iinc 8 1, 3) := by decide +kernel
theorem dX9_drunk_338 : decode cX9_drunk 338 = .ok (.goto (-238), 3) := by decide +kernel
theorem dX9_drunk_341 : decode cX9_drunk 341 = .ok (.aload_n 0, 1) := by decide +kernel
theorem dX9_drunk_342 : decode cX9_drunk 342 = .ok (.getfield 72, 3) := by decide +kernel
theorem dX9_drunk_345 : decode cX9_drunk 345 = .ok (.iload_n 2, 1) := by decide +kernel
theorem dX9_drunk_346 : decode cX9_drunk 346 = .ok (.laload, 1) := by decide +kernel
theorem dX9_drunk_347 : decode cX9_drunk 347 = .ok (.lstore 8, 2) := by decide +kernel
theorem dX9_drunk_349 : decode cX9_drunk 349 = .ok (.lload 6, 2) := by decide +kernel
theorem dX9_drunk_351 : decode cX9_drunk 351 = .ok (.lstore 10, 2) := by decide +kernel
theorem dX9_drunk_353 : decode cX9_drunk 353 = .ok (.lload 10, 2) := by decide +kernel
theorem dX9_drunk_355 : decode cX9_drunk 355 = .ok (.lconst 0, 1) := by decide +kernel
theorem dX9_drunk_356 : decode cX9_drunk 356 = .ok (.lcmp, 1) := by decide +kernel
theorem dX9_drunk_357 : decode cX9_drunk 357 = .ok (.ifCond .eq 21, 3) := by decide +kernel
theorem dX9_drunk_360 : decode cX9_drunk 360 = .ok (.lload 8, 2) := by decide +kernel
theorem dX9_drunk_362 : decode cX9_drunk 362 = .ok (.lload 10, 2) := by decide +kernel
theorem dX9_drunk_364 : decode cX9_drunk 364 = .ok (.lrem, 1) := by decide +kernel
theorem dX9_drunk_365 : decode cX9_drunk 365 = .ok (.lstore 12, 2) := by decide +kernel
theorem dX9_drunk_367 : decode cX9_drunk 367 = .ok (.lload 10, 2) := by decide +kernel
theorem dX9_drunk_369 : decode cX9_drunk 369 = .ok (.lstore 8, 2) := by decide +kernel
theorem dX9_drunk_371 : decode cX9_drunk 371 = .ok (.lload 12, 2) := by decide +kernel
theorem dX9_drunk_373 : decode cX9_drunk 373 = .ok (.lstore 10, 2) := by decide +kernel
theorem dX9_drunk_375 : decode cX9_drunk 375 = .ok (.goto (-22), 3) := by decide +kernel
theorem dX9_drunk_378 : decode cX9_drunk 378 = .ok (.iload 5, 2) := by decide +kernel
theorem dX9_drunk_380 : decode cX9_drunk 380 = .ok (.ifCond .ne 15, 3) := by decide +kernel
theorem dX9_drunk_383 : decode cX9_drunk 383 = .ok (.aload_n 0, 1) := by decide +kernel
theorem dX9_drunk_384 : decode cX9_drunk 384 = .ok (.getfield 72, 3) := by decide +kernel
theorem dX9_drunk_387 : decode cX9_drunk 387 = .ok (.iload_n 2, 1) := by decide +kernel
theorem dX9_drunk_388 : decode cX9_drunk 388 = .ok (.laload, 1) := by decide +kernel
theorem dX9_drunk_389 : decode cX9_drunk 389 = .ok (.lload 8, 2) := by decide +kernel
theorem dX9_drunk_391 : decode cX9_drunk 391 = .ok (.ldiv, 1) := by decide +kernel
theorem dX9_drunk_392 : decode cX9_drunk 392 = .ok (.goto 8, 3) := by decide +kernel
theorem dX9_drunk_395 : decode cX9_drunk 395 = .ok (.lload 6, 2) := by decide +kernel
theorem dX9_drunk_397 : decode cX9_drunk 397 = .ok (.lload 8, 2) := by decide +kernel
theorem dX9_drunk_399 : decode cX9_drunk 399 = .ok (.ldiv, 1) := by decide +kernel
theorem dX9_drunk_400 : decode cX9_drunk 400 = .ok (.lreturn, 1) := by decide +kernel
theorem dX9_year_0 : decode cX9_year 0 = .ok (.iload_n 1, 1) := by decide +kernel
theorem dX9_year_1 : decode cX9_year 1 = .ok (.iconst 0, 1) := by decide +kernel
theorem dX9_year_2 : decode cX9_year 2 = .ok (.sipush 9999, 3) := by decide +kernel
theorem dX9_year_5 : decode cX9_year 5 = .ok (.invokestatic 94, 3) := by decide +kernel
theorem dX9_year_8 : decode cX9_year 8 = .ok (.ifCond .eq 22, 3) := by decide +kernel
theorem dX9_year_11 : decode cX9_year 11 = .ok (.iload_n 2, 1) := by decide +kernel
theorem dX9_year_12 : decode cX9_year 12 = .ok (.iconst 1, 1) := by decide +kernel
theorem dX9_year_13 : decode cX9_year 13 = .ok (.bipush 99, 2) := by decide +kernel
theorem dX9_year_15 : decode cX9_year 15 = .ok (.invokestatic 94, 3) := by decide +kernel
theorem dX9_year_18 : decode cX9_year 18 = .ok (.ifCond .eq 12, 3) := by decide +kernel
theorem dX9_year_21 : decode cX9_year 21 = .ok (.iload_n 3, 1) := by decide +kernel
theorem dX9_year_22 : decode cX9_year 22 = .ok (.iconst 0, 1) := by decide +kernel
theorem dX9_year_23 : decode cX9_year 23 = .ok (.iconst 2, 1) := by decide +kernel
theorem dX9_year_24 : decode cX9_year 24 = .ok (.invokestatic 94, 3) := by decide +kernel
theorem dX9_year_27 : decode cX9_year 27 = .ok (.ifCond .ne 6, 3) := by decide +kernel
theorem dX9_year_30 : decode cX9_year 30 = .ok (.bipush (-2), 2) := by decide +kernel
theorem dX9_year_32 : decode cX9_year 32 = .ok (.ireturn, 1) := by decide +kernel
theorem dX9_year_33 : decode cX9_year 33 = .ok (.aload_n 0, 1) := by decide +kernel
theorem dX9_year_34 : decode cX9_year 34 = .ok (.invokevirtual 157, 3) := by decide +kernel
theorem dX9_year_37 : decode cX9_year 37 = .ok (.iload_n 1, 1) := by decide +kernel
theorem dX9_year_38 : decode cX9_year 38 = .ok (.istore 4, 2) := by decide +kernel
theorem dX9_year_40 : decode cX9_year 40 = .ok (.iconst 0, 1) := by decide +kernel
theorem dX9_year_41 : decode cX9_year 41 = .ok (.istore 5, 2) := by decide +kernel
theorem dX9_year_43 : decode cX9_year 43 = .ok (.iconst 0, 1) := by decide +kernel
theorem dX9_year_44 : decode cX9_year 44 = .ok (.istore 6, 2) := by decide +kernel
theorem dX9_year_46 : decode cX9_year 46 = .ok (.iconst 0, 1) := by decide +kernel
theorem dX9_year_47 : decode cX9_year 47 = .ok (.istore 7, 2) := by decide +kernel
theorem dX9_year_49 : decode cX9_year 49 = .ok (.iload 7, 2) := by decide +kernel
theorem dX9_year_51 : decode cX9_year 51 = .ok (.iload_n 2, 1) := by decide +kernel
theorem dX9_year_52 : decode cX9_year 52 = .ok (.if_icmp .ge 86, 3) := by decide +kernel
theorem dX9_year_55 : decode cX9_year 55 = .ok (.bipush 75, 2) := by decide +kernel
theorem dX9_year_57 : decode cX9_year 57 = .ok (.iload 4, 2) := by decide +kernel
theorem dX9_year_59 : decode cX9_year 59 = .ok (.imul, 1) := by decide +kernel
theorem dX9_year_60 : decode cX9_year 60 = .ok (.bipush 74, 2) := by decide +kernel
theorem dX9_year_62 : decode cX9_year 62 = .ok (.iadd, 1) := by decide +kernel
theorem dX9_year_63 : decode cX9_year 63 = .ok (.ldc 227, 2) := by decide +kernel
theorem dX9_year_65 : decode cX9_year 65 = .ok (.irem, 1) := by decide +kernel
theorem dX9_year_66 : decode cX9_year 66 = .ok (.istore 4, 2) := by decide +kernel
theorem dX9_year_68 : decode cX9_year 68 = .ok (.iload 4, 2) := by decide +kernel
theorem dX9_year_70 : decode cX9_year 70 = .ok (.bipush 8, 2) := by decide +kernel
theorem dX9_year_72 : decode cX9_year 72 = .ok (.irem, 1) := by decide +kernel
theorem dX9_year_73 : decode cX9_year 73 = .ok (.istore 8, 2) := by decide +kernel
theorem dX9_year_75 : decode cX9_year 75 = .ok (.iload 4, 2) := by decide +kernel
theorem dX9_year_77 : decode cX9_year 77 = .ok (.bipush 8, 2) := by decide +kernel
theorem dX9_year_79 : decode cX9_year 79 = .ok (.idiv, 1) := by decide +kernel
theorem dX9_year_80 : decode cX9_year 80 = .ok (.bipush 8, 2) := by decide +kernel
theorem dX9_year_82 : decode cX9_year 82 = .ok (.irem, 1) := by decide +kernel
theorem dX9_year_83 : decode cX9_year 83 = .ok (.istore 9, 2) := by decide +kernel
theorem dX9_year_85 : decode cX9_year 85 = .ok (.iload 8, 2) := by decide +kernel
theorem dX9_year_87 : decode cX9_year 87 = .ok (.iload 9, 2) := by decide +kernel
theorem dX9_year_89 : decode cX9_year 89 = .ok (.if_icmp .eq 34, 3) := by decide +kernel
theorem dX9_year_92 : decode cX9_year 92 = .ok (.aload_n 0, 1) := by decide +kernel
theorem dX9_year_93 : decode cX9_year 93 = .ok (.iload 8, 2) := by decide +kernel
theorem dX9_year_95 : decode cX9_year 95 = .ok (.iload 9, 2) := by decide +kernel
theorem dX9_year_97 : decode cX9_year 97 = .ok (.invokevirtual 176, 3) := by decide +kernel
theorem dX9_year_100 : decode cX9_year 100 = .ok (.ifCond .ne 23, 3) := by decide +kernel
theorem dX9_year_103 : decode cX9_year 103 = .ok (.aload_n 0, 1) := by decide +kernel
theorem dX9_year_104 : decode cX9_year 104 = .ok (.iload 8, 2) := by decide +kernel
theorem dX9_year_106 : decode cX9_year 106 = .ok (.iload 9, 2) := by decide +kernel
theorem dX9_year_108 : decode cX9_year 108 = .ok (.iconst 1, 1) := by decide +kernel
theorem dX9_year_109 : decode cX9_year 109 = .ok (.iload 4, 2) := by decide +kernel
theorem dX9_year_111 : decode cX9_year 111 = .ok (.bipush 64, 2) := by decide +kernel
theorem dX9_year_113 : decode cX9_year 113 = .ok (.idiv, 1) := by decide +kernel
theorem dX9_year_114 : decode cX9_year 114 = .ok (.iconst 5, 1) := by decide +kernel
theorem dX9_year_115 : decode cX9_year 115 = .ok (.irem, 1) := by decide +kernel
theorem dX9_year_116 : decode cX9_year 116 = .ok (.iadd, 1) := by decide +kernel
theorem dX9_year_117 : decode cX9_year 117 = .ok (.invokevirtual 179, 3) := by decide +kernel
theorem dX9_year_120 : decode cX9_year 120 = .ok (.iinc 6 1, 3) := by decide +kernel
theorem dX9_year_123 : decode cX9_year 123 = .ok (.iload 5, 2) := by decide +kernel
theorem dX9_year_125 : decode cX9_year 125 = .ok (.aload_n 0, 1) := by decide +kernel
theorem dX9_year_126 : decode cX9_year 126 = .ok (.invokevirtual 166, 3) := by decide +kernel
theorem dX9_year_129 : decode cX9_year 129 = .ok (.iadd, 1) := by decide +kernel
theorem dX9_year_130 : decode cX9_year 130 = .ok (.istore 5, 2) := by decide +kernel
theorem dX9_year_132 : decode cX9_year 132 = .ok (.iinc 7 1, 3) := by decide +kernel
theorem dX9_year_135 : decode cX9_year 135 = .ok (.goto (-86), 3) := by decide +kernel
theorem dX9_year_138 : decode cX9_year 138 = .ok (.iload_n 3, 1) := by decide +kernel
theorem dX9_year_139 : decode cX9_year 139 = .ok (.ifCond .ne 8, 3) := by decide +kernel
theorem dX9_year_142 : decode cX9_year 142 = .ok (.iload 5, 2) := by decide +kernel
theorem dX9_year_144 : decode cX9_year 144 = .ok (.goto 20, 3) := by decide +kernel
theorem dX9_year_147 : decode cX9_year 147 = .ok (.iload_n 3, 1) := by decide +kernel
theorem dX9_year_148 : decode cX9_year 148 = .ok (.iconst 1, 1) := by decide +kernel
theorem dX9_year_149 : decode cX9_year 149 = .ok (.if_icmp .ne 8, 3) := by decide +kernel
theorem dX9_year_152 : decode cX9_year 152 = .ok (.iload 6, 2) := by decide +kernel
theorem dX9_year_154 : decode cX9_year 154 = .ok (.goto 10, 3) := by decide +kernel
theorem dX9_year_157 : decode cX9_year 157 = .ok (.aload_n 0, 1) := by decide +kernel
theorem dX9_year_158 : decode cX9_year 158 = .ok (.iconst 0, 1) := by decide +kernel
theorem dX9_year_159 : decode cX9_year 159 = .ok (.bipush (-6), 2) := by decide +kernel
theorem dX9_year_161 : decode cX9_year 161 = .ok (.invokevirtual 134, 3) := by decide +kernel
theorem dX9_year_164 : decode cX9_year 164 = .ok (.ireturn, 1) := by decide +kernel
theorem dX9_image_0 : decode cX9_image 0 = .ok (.iload_n 1, 1) := by decide +kernel
theorem dX9_image_1 : decode cX9_image 1 = .ok (.iconst 0, 1) := by decide +kernel
theorem dX9_image_2 : decode cX9_image 2 = .ok (.iconst 1, 1) := by decide +kernel
theorem dX9_image_3 : decode cX9_image 3 = .ok (.invokestatic 94, 3) := by decide +kernel
theorem dX9_image_6 : decode cX9_image 6 = .ok (.ifCond .ne 6, 3) := by decide +kernel
theorem dX9_image_9 : decode cX9_image 9 = .ok (.bipush (-2), 2) := by decide +kernel
theorem dX9_image_11 : decode cX9_image 11 = .ok (.ireturn, 1) := by decide +kernel
theorem dX9_image_12 : decode cX9_image 12 = .ok (.sipush 200, 3) := by decide +kernel
theorem dX9_image_15 : decode cX9_image 15 = .ok (.iload_n 1, 1) := by decide +kernel
theorem dX9_image_16 : decode cX9_image 16 = .ok (.imul, 1) := by decide +kernel
theorem dX9_image_17 : decode cX9_image 17 = .ok (.istore_n 2, 1) := by decide +kernel
theorem dX9_image_18 : decode cX9_image 18 = .ok (.iconst 0, 1) := by decide +kernel
theorem dX9_image_19 : decode cX9_image 19 = .ok (.istore_n 3, 1) := by decide +kernel
theorem dX9_image_20 : decode cX9_image 20 = .ok (.iload_n 3, 1) := by decide +kernel
theorem dX9_image_21 : decode cX9_image 21 = .ok (.bipush 24, 2) := by decide +kernel
theorem dX9_image_23 : decode cX9_image 23 = .ok (.if_icmp .ge 23, 3) := by decide +kernel
theorem dX9_image_26 : decode cX9_image 26 = .ok (.aload_n 0, 1) := by decide +kernel
theorem dX9_image_27 : decode cX9_image 27 = .ok (.getfield 78, 3) := by decide +kernel
theorem dX9_image_30 : decode cX9_image 30 = .ok (.iload_n 2, 1) := by decide +kernel
theorem dX9_image_31 : decode cX9_image 31 = .ok (.iload_n 3, 1) := by decide +kernel
theorem dX9_image_32 : decode cX9_image 32 = .ok (.iadd, 1) := by decide +kernel
theorem dX9_image_33 : decode cX9_image 33 = .ok (.aload_n 0, 1) := by decide +kernel
theorem dX9_image_34 : decode cX9_image 34 = .ok (.getfield 13, 3) := by decide +kernel
theorem dX9_image_37 : decode cX9_image 37 = .ok (.iload_n 3, 1) := by decide +kernel
theorem dX9_image_38 : decode cX9_image 38 = .ok (.iaload, 1) := by decide +kernel
theorem dX9_image_39 : decode cX9_image 39 = .ok (.iastore, 1) := by decide +kernel
theorem dX9_image_40 : decode cX9_image 40 = .ok (.iinc 3 1, 3) := by decide +kernel
theorem dX9_image_43 : decode cX9_image 43 = .ok (.goto (-23), 3) := by decide +kernel
theorem dX9_image_46 : decode cX9_image 46 = .ok (.iconst 0, 1) := by decide +kernel
theorem dX9_image_47 : decode cX9_image 47 = .ok (.istore_n 3, 1) := by decide +kernel
theorem dX9_image_48 : decode cX9_image 48 = .ok (.iload_n 3, 1) := by decide +kernel
theorem dX9_image_49 : decode cX9_image 49 = .ok (.bipush 36, 2) := by decide +kernel
theorem dX9_image_51 : decode cX9_image 51 = .ok (.if_icmp .ge 26, 3) := by decide +kernel
theorem dX9_image_54 : decode cX9_image 54 = .ok (.aload_n 0, 1) := by decide +kernel
theorem dX9_image_55 : decode cX9_image 55 = .ok (.getfield 78, 3) := by decide +kernel
theorem dX9_image_58 : decode cX9_image 58 = .ok (.iload_n 2, 1) := by decide +kernel
theorem dX9_image_59 : decode cX9_image 59 = .ok (.bipush 24, 2) := by decide +kernel
theorem dX9_image_61 : decode cX9_image 61 = .ok (.iadd, 1) := by decide +kernel
theorem dX9_image_62 : decode cX9_image 62 = .ok (.iload_n 3, 1) := by decide +kernel
theorem dX9_image_63 : decode cX9_image 63 = .ok (.iadd, 1) := by decide +kernel
theorem dX9_image_64 : decode cX9_image 64 = .ok (.aload_n 0, 1) := by decide +kernel
theorem dX9_image_65 : decode cX9_image 65 = .ok (.getfield 23, 3) := by decide +kernel
theorem dX9_image_68 : decode cX9_image 68 = .ok (.iload_n 3, 1) := by decide +kernel
theorem dX9_image_69 : decode cX9_image 69 = .ok (.iaload, 1) := by decide +kernel
theorem dX9_image_70 : decode cX9_image 70 = .ok (.iastore, 1) := by decide +kernel
theorem dX9_image_71 : decode cX9_image 71 = .ok (.iinc 3 1, 3) := by decide +kernel
theorem dX9_image_74 : decode cX9_image 74 = .ok (.goto (-26), 3) := by decide +kernel
theorem dX9_image_77 : decode cX9_image 77 = .ok (.iconst 0, 1) := by decide +kernel
theorem dX9_image_78 : decode cX9_image 78 = .ok (.istore_n 3, 1) := by decide +kernel
theorem dX9_image_79 : decode cX9_image 79 = .ok (.iload_n 3, 1) := by decide +kernel
theorem dX9_image_80 : decode cX9_image 80 = .ok (.bipush 40, 2) := by decide +kernel
theorem dX9_image_82 : decode cX9_image 82 = .ok (.if_icmp .ge 26, 3) := by decide +kernel
theorem dX9_image_85 : decode cX9_image 85 = .ok (.aload_n 0, 1) := by decide +kernel
theorem dX9_image_86 : decode cX9_image 86 = .ok (.getfield 78, 3) := by decide +kernel
theorem dX9_image_89 : decode cX9_image 89 = .ok (.iload_n 2, 1) := by decide +kernel
theorem dX9_image_90 : decode cX9_image 90 = .ok (.bipush 60, 2) := by decide +kernel
theorem dX9_image_92 : decode cX9_image 92 = .ok (.iadd, 1) := by decide +kernel
theorem dX9_image_93 : decode cX9_image 93 = .ok (.iload_n 3, 1) := by decide +kernel
theorem dX9_image_94 : decode cX9_image 94 = .ok (.iadd, 1) := by decide +kernel
theorem dX9_image_95 : decode cX9_image 95 = .ok (.aload_n 0, 1) := by decide +kernel
theorem dX9_image_96 : decode cX9_image 96 = .ok (.getfield 26, 3) := by decide +kernel
theorem dX9_image_99 : decode cX9_image 99 = .ok (.iload_n 3, 1) := by decide +kernel
theorem dX9_image_100 : decode cX9_image 100 = .ok (.iaload, 1) := by decide +kernel
theorem dX9_image_101 : decode cX9_image 101 = .ok (.iastore, 1) := by decide +kernel
theorem dX9_image_102 : decode cX9_image 102 = .ok (.iinc 3 1, 3) := by decide +kernel
theorem dX9_image_105 : decode cX9_image 105 = .ok (.goto (-26), 3) := by decide +kernel
theorem dX9_image_108 : decode cX9_image 108 = .ok (.iconst 0, 1) := by decide +kernel
theorem dX9_image_109 : decode cX9_image 109 = .ok (.istore_n 3, 1) := by decide +kernel
theorem dX9_image_110 : decode cX9_image 110 = .ok (.iload_n 3, 1) := by decide +kernel
theorem dX9_image_111 : decode cX9_image 111 = .ok (.bipush 8, 2) := by decide +kernel
theorem dX9_image_113 : decode cX9_image 113 = .ok (.if_icmp .ge 77, 3) := by decide +kernel
theorem dX9_image_116 : decode cX9_image 116 = .ok (.aload_n 0, 1) := by decide +kernel
theorem dX9_image_117 : decode cX9_image 117 = .ok (.getfield 78, 3) := by decide +kernel
theorem dX9_image_120 : decode cX9_image 120 = .ok (.iload_n 2, 1) := by decide +kernel
theorem dX9_image_121 : decode cX9_image 121 = .ok (.bipush 100, 2) := by decide +kernel
theorem dX9_image_123 : decode cX9_image 123 = .ok (.iadd, 1) := by decide +kernel
theorem dX9_image_124 : decode cX9_image 124 = .ok (.iload_n 3, 1) := by decide +kernel
theorem dX9_image_125 : decode cX9_image 125 = .ok (.iadd, 1) := by decide +kernel
theorem dX9_image_126 : decode cX9_image 126 = .ok (.aload_n 0, 1) := by decide +kernel
theorem dX9_image_127 : decode cX9_image 127 = .ok (.getfield 29, 3) := by decide +kernel
theorem dX9_image_130 : decode cX9_image 130 = .ok (.iload_n 3, 1) := by decide +kernel
theorem dX9_image_131 : decode cX9_image 131 = .ok (.iaload, 1) := by decide +kernel
theorem dX9_image_132 : decode cX9_image 132 = .ok (.iastore, 1) := by decide +kernel
theorem dX9_image_133 : decode cX9_image 133 = .ok (.aload_n 0, 1) := by decide +kernel
theorem dX9_image_134 : decode cX9_image 134 = .ok (.getfield 78, 3) := by decide +kernel
theorem dX9_image_137 : decode cX9_image 137 = .ok (.iload_n 2, 1) := by decide +kernel
theorem dX9_image_138 : decode cX9_image 138 = .ok (.bipush 108, 2) := by decide +kernel
theorem dX9_image_140 : decode cX9_image 140 = .ok (.iadd, 1) := by decide +kernel
theorem dX9_image_141 : decode cX9_image 141 = .ok (.iload_n 3, 1) := by decide +kernel
theorem dX9_image_142 : decode cX9_image 142 = .ok (.iadd, 1) := by decide +kernel
theorem dX9_image_143 : decode cX9_image 143 = .ok (.aload_n 0, 1) := by decide +kernel
theorem dX9_image_144 : decode cX9_image 144 = .ok (.getfield 32, 3) := by decide +kernel
theorem dX9_image_147 : decode cX9_image 147 = .ok (.iload_n 3, 1) := by decide +kernel
theorem dX9_image_148 : decode cX9_image 148 = .ok (.iaload, 1) := by decide +kernel
theorem dX9_image_149 : decode cX9_image 149 = .ok (.iastore, 1) := by decide +kernel
theorem dX9_image_150 : decode cX9_image 150 = .ok (.aload_n 0, 1) := by decide +kernel
theorem dX9_image_151 : decode cX9_image 151 = .ok (.getfield 78, 3) := by decide +kernel
theorem dX9_image_154 : decode cX9_image 154 = .ok (.iload_n 2, 1) := by decide +kernel
theorem dX9_image_155 : decode cX9_image 155 = .ok (.bipush 116, 2) := by decide +kernel
theorem dX9_image_157 : decode cX9_image 157 = .ok (.iadd, 1) := by decide +kernel
theorem dX9_image_158 : decode cX9_image 158 = .ok (.iload_n 3, 1) := by decide +kernel
theorem dX9_image_159 : decode cX9_image 159 = .ok (.iadd, 1) := by decide +kernel
theorem dX9_image_160 : decode cX9_image 160 = .ok (.aload_n 0, 1) := by decide +kernel
theorem dX9_image_161 : decode cX9_image 161 = .ok (.getfield 35, 3) := by decide +kernel
theorem dX9_image_164 : decode cX9_image 164 = .ok (.iload_n 3, 1) := by decide +kernel
theorem dX9_image_165 : decode cX9_image 165 = .ok (.iaload, 1) := by decide +kernel
theorem dX9_image_166 : decode cX9_image 166 = .ok (.iastore, 1) := by decide +kernel
theorem dX9_image_167 : decode cX9_image 167 = .ok (.aload_n 0, 1) := by decide +kernel
theorem dX9_image_168 : decode cX9_image 168 = .ok (.getfield 78, 3) := by decide +kernel
theorem dX9_image_171 : decode cX9_image 171 = .ok (.iload_n 2, 1) := by decide +kernel
theorem dX9_image_172 : decode cX9_image 172 = .ok (.bipush 124, 2) := by decide +kernel
theorem dX9_image_174 : decode cX9_image 174 = .ok (.iadd, 1) := by decide +kernel
theorem dX9_image_175 : decode cX9_image 175 = .ok (.iload_n 3, 1) := by decide +kernel
theorem dX9_image_176 : decode cX9_image 176 = .ok (.iadd, 1) := by decide +kernel
theorem dX9_image_177 : decode cX9_image 177 = .ok (.aload_n 0, 1) := by decide +kernel
theorem dX9_image_178 : decode cX9_image 178 = .ok (.getfield 38, 3) := by decide +kernel
theorem dX9_image_181 : decode cX9_image 181 = .ok (.iload_n 3, 1) := by decide +kernel
theorem dX9_image_182 : decode cX9_image 182 = .ok (.iaload, 1) := by decide +kernel
theorem dX9_image_183 : decode cX9_image 183 = .ok (.iastore, 1) := by decide +kernel
theorem dX9_image_184 : decode cX9_image 184 = .ok (.iinc 3 1, 3) := by decide +kernel
theorem dX9_image_187 : decode cX9_image 187 = .ok (.goto (-77), 3) := by decide +kernel
theorem dX9_image_190 : decode cX9_image 190 = .ok (.iconst 0, 1) := by decide +kernel
theorem dX9_image_191 : decode cX9_image 191 = .ok (.istore_n 3, 1) := by decide +kernel
theorem dX9_image_192 : decode cX9_image 192 = .ok (.iload_n 3, 1) := by decide +kernel
theorem dX9_image_193 : decode cX9_image 193 = .ok (.bipush 12, 2) := by decide +kernel
theorem dX9_image_195 : decode cX9_image 195 = .ok (.if_icmp .ge 27, 3) := by decide +kernel
theorem dX9_image_198 : decode cX9_image 198 = .ok (.aload_n 0, 1) := by decide +kernel
theorem dX9_image_199 : decode cX9_image 199 = .ok (.getfield 78, 3) := by decide +kernel
theorem dX9_image_202 : decode cX9_image 202 = .ok (.iload_n 2, 1) := by decide +kernel
theorem dX9_image_203 : decode cX9_image 203 = .ok (.sipush 132, 3) := by decide +kernel
theorem dX9_image_206 : decode cX9_image 206 = .ok (.iadd, 1) := by decide +kernel
theorem dX9_image_207 : decode cX9_image 207 = .ok (.iload_n 3, 1) := by decide +kernel
theorem dX9_image_208 : decode cX9_image 208 = .ok (.iadd, 1) := by decide +kernel
theorem dX9_image_209 : decode cX9_image 209 = .ok (.aload_n 0, 1) := by decide +kernel
theorem dX9_image_210 : decode cX9_image 210 = .ok (.getfield 41, 3) := by decide +kernel
theorem dX9_image_213 : decode cX9_image 213 = .ok (.iload_n 3, 1) := by decide +kernel
theorem dX9_image_214 : decode cX9_image 214 = .ok (.iaload, 1) := by decide +kernel
theorem dX9_image_215 : decode cX9_image 215 = .ok (.iastore, 1) := by decide +kernel
theorem dX9_image_216 : decode cX9_image 216 = .ok (.iinc 3 1, 3) := by decide +kernel
theorem dX9_image_219 : decode cX9_image 219 = .ok (.goto (-27), 3) := by decide +kernel
theorem dX9_image_222 : decode cX9_image 222 = .ok (.iconst 0, 1) := by decide +kernel
theorem dX9_image_223 : decode cX9_image 223 = .ok (.istore_n 3, 1) := by decide +kernel
theorem dX9_image_224 : decode cX9_image 224 = .ok (.iload_n 3, 1) := by decide +kernel
theorem dX9_image_225 : decode cX9_image 225 = .ok (.bipush 6, 2) := by decide +kernel
theorem dX9_image_227 : decode cX9_image 227 = .ok (.if_icmp .ge 45, 3) := by decide +kernel
theorem dX9_image_230 : decode cX9_image 230 = .ok (.aload_n 0, 1) := by decide +kernel
theorem dX9_image_231 : decode cX9_image 231 = .ok (.getfield 78, 3) := by decide +kernel
theorem dX9_image_234 : decode cX9_image 234 = .ok (.iload_n 2, 1) := by decide +kernel
theorem dX9_image_235 : decode cX9_image 235 = .ok (.sipush 144, 3) := by decide +kernel
theorem dX9_image_238 : decode cX9_image 238 = .ok (.iadd, 1) := by decide +kernel
theorem dX9_image_239 : decode cX9_image 239 = .ok (.iload_n 3, 1) := by decide +kernel
theorem dX9_image_240 : decode cX9_image 240 = .ok (.iadd, 1) := by decide +kernel
theorem dX9_image_241 : decode cX9_image 241 = .ok (.aload_n 0, 1) := by decide +kernel
theorem dX9_image_242 : decode cX9_image 242 = .ok (.getfield 17, 3) := by decide +kernel
theorem dX9_image_245 : decode cX9_image 245 = .ok (.iload_n 3, 1) := by decide +kernel
theorem dX9_image_246 : decode cX9_image 246 = .ok (.iaload, 1) := by decide +kernel
theorem dX9_image_247 : decode cX9_image 247 = .ok (.iastore, 1) := by decide +kernel
theorem dX9_image_248 : decode cX9_image 248 = .ok (.aload_n 0, 1) := by decide +kernel
theorem dX9_image_249 : decode cX9_image 249 = .ok (.getfield 78, 3) := by decide +kernel
theorem dX9_image_252 : decode cX9_image 252 = .ok (.iload_n 2, 1) := by decide +kernel
theorem dX9_image_253 : decode cX9_image 253 = .ok (.sipush 150, 3) := by decide +kernel
theorem dX9_image_256 : decode cX9_image 256 = .ok (.iadd, 1) := by decide +kernel
theorem dX9_image_257 : decode cX9_image 257 = .ok (.iload_n 3, 1) := by decide +kernel
theorem dX9_image_258 : decode cX9_image 258 = .ok (.iadd, 1) := by decide +kernel
theorem dX9_image_259 : decode cX9_image 259 = .ok (.aload_n 0, 1) := by decide +kernel
theorem dX9_image_260 : decode cX9_image 260 = .ok (.getfield 20, 3) := by decide +kernel
theorem dX9_image_263 : decode cX9_image 263 = .ok (.iload_n 3, 1) := by decide +kernel
theorem dX9_image_264 : decode cX9_image 264 = .ok (.iaload, 1) := by decide +kernel
theorem dX9_image_265 : decode cX9_image 265 = .ok (.iastore, 1) := by decide +kernel
theorem dX9_image_266 : decode cX9_image 266 = .ok (.iinc 3 1, 3) := by decide +kernel
theorem dX9_image_269 : decode cX9_image 269 = .ok (.goto (-45), 3) := by decide +kernel
theorem dX9_image_272 : decode cX9_image 272 = .ok (.aload_n 0, 1) := by decide +kernel
theorem dX9_image_273 : decode cX9_image 273 = .ok (.getfield 78, 3) := by decide +kernel
theorem dX9_image_276 : decode cX9_image 276 = .ok (.iload_n 2, 1) := by decide +kernel
theorem dX9_image_277 : decode cX9_image 277 = .ok (.sipush 156, 3) := by decide +kernel
theorem dX9_image_280 : decode cX9_image 280 = .ok (.iadd, 1) := by decide +kernel
theorem dX9_image_281 : decode cX9_image 281 = .ok (.aload_n 0, 1) := by decide +kernel
theorem dX9_image_282 : decode cX9_image 282 = .ok (.getfield 7, 3) := by decide +kernel
theorem dX9_image_285 : decode cX9_image 285 = .ok (.iastore, 1) := by decide +kernel
theorem dX9_image_286 : decode cX9_image 286 = .ok (.aload_n 0, 1) := by decide +kernel
theorem dX9_image_287 : decode cX9_image 287 = .ok (.getfield 78, 3) := by decide +kernel
theorem dX9_image_290 : decode cX9_image 290 = .ok (.iload_n 2, 1) := by decide +kernel
theorem dX9_image_291 : decode cX9_image 291 = .ok (.sipush 157, 3) := by decide +kernel
theorem dX9_image_294 : decode cX9_image 294 = .ok (.iadd, 1) := by decide +kernel
theorem dX9_image_295 : decode cX9_image 295 = .ok (.aload_n 0, 1) := by decide +kernel
theorem dX9_image_296 : decode cX9_image 296 = .ok (.getfield 88, 3) := by decide +kernel
theorem dX9_image_299 : decode cX9_image 299 = .ok (.iastore, 1) := by decide +kernel
theorem dX9_image_300 : decode cX9_image 300 = .ok (.aload_n 0, 1) := by decide +kernel
theorem dX9_image_301 : decode cX9_image 301 = .ok (.getfield 78, 3) := by decide +kernel
theorem dX9_image_304 : decode cX9_image 304 = .ok (.iload_n 2, 1) := by decide +kernel
theorem dX9_image_305 : decode cX9_image 305 = .ok (.sipush 158, 3) := by decide +kernel
theorem dX9_image_308 : decode cX9_image 308 = .ok (.iadd, 1) := by decide +kernel
theorem dX9_image_309 : decode cX9_image 309 = .ok (.aload_n 0, 1) := by decide +kernel
theorem dX9_image_310 : decode cX9_image 310 = .ok (.getfield 91, 3) := by decide +kernel
theorem dX9_image_313 : decode cX9_image 313 = .ok (.iastore, 1) := by decide +kernel
theorem dX9_image_314 : decode cX9_image 314 = .ok (.aload_n 0, 1) := by decide +kernel
theorem dX9_image_315 : decode cX9_image 315 = .ok (.getfield 81, 3) := by decide +kernel
theorem dX9_image_318 : decode cX9_image 318 = .ok (.iload_n 1, 1) := by decide +kernel
theorem dX9_image_319 : decode cX9_image 319 = .ok (.iconst 1, 1) := by decide +kernel
theorem dX9_image_320 : decode cX9_image 320 = .ok (.bastore, 1) := by decide +kernel
theorem dX9_image_321 : decode cX9_image 321 = .ok (.iconst 1, 1) := by decide +kernel
theorem dX9_image_322 : decode cX9_image 322 = .ok (.ireturn, 1) := by decide +kernel
theorem dX9_restore_0 : decode cX9_restore 0 = .ok (.iload_n 1, 1) := by decide +kernel
theorem dX9_restore_1 : decode cX9_restore 1 = .ok (.iconst 0, 1) := by decide +kernel
theorem dX9_restore_2 : decode cX9_restore 2 = .ok (.iconst 1, 1) := by decide +kernel
theorem dX9_restore_3 : decode cX9_restore 3 = .ok (.invokestatic 94, 3) := by decide +kernel
theorem dX9_restore_6 : decode cX9_restore 6 = .ok (.ifCond .ne 6, 3) := by decide +kernel
theorem dX9_restore_9 : decode cX9_restore 9 = .ok (.bipush (-2), 2) := by decide +kernel
theorem dX9_restore_11 : decode cX9_restore 11 = .ok (.ireturn, 1) := by decide +kernel
theorem dX9_restore_12 : decode cX9_restore 12 = .ok (.aload_n 0, 1) := by decide +kernel
theorem dX9_restore_13 : decode cX9_restore 13 = .ok (.getfield 81, 3) := by decide +kernel
theorem dX9_restore_16 : decode cX9_restore 16 = .ok (.iload_n 1, 1) := by decide +kernel
theorem dX9_restore_17 : decode cX9_restore 17 = .ok (.baload, 1) := by decide +kernel
theorem dX9_restore_18 : decode cX9_restore 18 = .ok (.ifCond .ne 6, 3) := by decide +kernel
theorem dX9_restore_21 : decode cX9_restore 21 = .ok (.bipush (-3), 2) := by decide +kernel
theorem dX9_restore_23 : decode cX9_restore 23 = .ok (.ireturn, 1) := by decide +kernel
theorem dX9_restore_24 : decode cX9_restore 24 = .ok (.sipush 200, 3) := by decide +kernel
theorem dX9_restore_27 : decode cX9_restore 27 = .ok (.iload_n 1, 1) := by decide +kernel
theorem dX9_restore_28 : decode cX9_restore 28 = .ok (.imul, 1) := by decide +kernel
theorem dX9_restore_29 : decode cX9_restore 29 = .ok (.istore_n 2, 1) := by decide +kernel
theorem dX9_restore_30 : decode cX9_restore 30 = .ok (.iconst 0, 1) := by decide +kernel
theorem dX9_restore_31 : decode cX9_restore 31 = .ok (.istore_n 3, 1) := by decide +kernel
theorem dX9_restore_32 : decode cX9_restore 32 = .ok (.iload_n 3, 1) := by decide +kernel
theorem dX9_restore_33 : decode cX9_restore 33 = .ok (.bipush 24, 2) := by decide +kernel
theorem dX9_restore_35 : decode cX9_restore 35 = .ok (.if_icmp .ge 23, 3) := by decide +kernel
theorem dX9_restore_38 : decode cX9_restore 38 = .ok (.aload_n 0, 1) := by decide +kernel
theorem dX9_restore_39 : decode cX9_restore 39 = .ok (.getfield 13, 3) := by decide +kernel
theorem dX9_restore_42 : decode cX9_restore 42 = .ok (.iload_n 3, 1) := by decide +kernel
theorem dX9_restore_43 : decode cX9_restore 43 = .ok (.aload_n 0, 1) := by decide +kernel
theorem dX9_restore_44 : decode cX9_restore 44 = .ok (.getfield 78, 3) := by decide +kernel
theorem dX9_restore_47 : decode cX9_restore 47 = .ok (.iload_n 2, 1) := by decide +kernel
theorem dX9_restore_48 : decode cX9_restore 48 = .ok (.iload_n 3, 1) := by decide +kernel
theorem dX9_restore_49 : decode cX9_restore 49 = .ok (.iadd, 1) := by decide +kernel
theorem dX9_restore_50 : decode cX9_restore 50 = .ok (.iaload, 1) := by decide +kernel
theorem dX9_restore_51 : decode cX9_restore 51 = .ok (.iastore, 1) := by decide +kernel
theorem dX9_restore_52 : decode cX9_restore 52 = .ok (.iinc 3 1, 3) := by decide +kernel
theorem dX9_restore_55 : decode cX9_restore 55 = .ok (.goto (-23), 3) := by decide +kernel
theorem dX9_restore_58 : decode cX9_restore 58 = .ok (.iconst 0, 1) := by decide +kernel
theorem dX9_restore_59 : decode cX9_restore 59 = .ok (.istore_n 3, 1) := by decide +kernel
theorem dX9_restore_60 : decode cX9_restore 60 = .ok (.iload_n 3, 1) := by decide +kernel
theorem dX9_restore_61 : decode cX9_restore 61 = .ok (.bipush 36, 2) := by decide +kernel
theorem dX9_restore_63 : decode cX9_restore 63 = .ok (.if_icmp .ge 26, 3) := by decide +kernel
theorem dX9_restore_66 : decode cX9_restore 66 = .ok (.aload_n 0, 1) := by decide +kernel
theorem dX9_restore_67 : decode cX9_restore 67 = .ok (.getfield 23, 3) := by decide +kernel
theorem dX9_restore_70 : decode cX9_restore 70 = .ok (.iload_n 3, 1) := by decide +kernel
theorem dX9_restore_71 : decode cX9_restore 71 = .ok (.aload_n 0, 1) := by decide +kernel
theorem dX9_restore_72 : decode cX9_restore 72 = .ok (.getfield 78, 3) := by decide +kernel
theorem dX9_restore_75 : decode cX9_restore 75 = .ok (.iload_n 2, 1) := by decide +kernel
theorem dX9_restore_76 : decode cX9_restore 76 = .ok (.bipush 24, 2) := by decide +kernel
theorem dX9_restore_78 : decode cX9_restore 78 = .ok (.iadd, 1) := by decide +kernel
theorem dX9_restore_79 : decode cX9_restore 79 = .ok (.iload_n 3, 1) := by decide +kernel
theorem dX9_restore_80 : decode cX9_restore 80 = .ok (.iadd, 1) := by decide +kernel
theorem dX9_restore_81 : decode cX9_restore 81 = .ok (.iaload, 1) := by decide +kernel
theorem dX9_restore_82 : decode cX9_restore 82 = .ok (.iastore, 1) := by decide +kernel
theorem dX9_restore_83 : decode cX9_restore 83 = .ok (.iinc 3 1, 3) := by decide +kernel
theorem dX9_restore_86 : decode cX9_restore 86 = .ok (.goto (-26), 3) := by decide +kernel
theorem dX9_restore_89 : decode cX9_restore 89 = .ok (.iconst 0, 1) := by decide +kernel
theorem dX9_restore_90 : decode cX9_restore 90 = .ok (.istore_n 3, 1) := by decide +kernel
theorem dX9_restore_91 : decode cX9_restore 91 = .ok (.iload_n 3, 1) := by decide +kernel
theorem dX9_restore_92 : decode cX9_restore 92 = .ok (.bipush 40, 2) := by decide +kernel
theorem dX9_restore_94 : decode cX9_restore 94 = .ok (.if_icmp .ge 26, 3) := by decide +kernel
theorem dX9_restore_97 : decode cX9_restore 97 = .ok (.aload_n 0, 1) := by decide +kernel
theorem dX9_restore_98 : decode cX9_restore 98 = .ok (.getfield 26, 3) := by decide +kernel
theorem dX9_restore_101 : decode cX9_restore 101 = .ok (.iload_n 3, 1) := by decide +kernel
theorem dX9_restore_102 : decode cX9_restore 102 = .ok (.aload_n 0, 1) := by decide +kernel
theorem dX9_restore_103 : decode cX9_restore 103 = .ok (.getfield 78, 3) := by decide +kernel
theorem dX9_restore_106 : decode cX9_restore 106 = .ok (.iload_n 2, 1) := by decide +kernel
theorem dX9_restore_107 : decode cX9_restore 107 = .ok (.bipush 60, 2) := by decide +kernel
theorem dX9_restore_109 : decode cX9_restore 109 = .ok (.iadd, 1) := by decide +kernel
theorem dX9_restore_110 : decode cX9_restore 110 = .ok (.iload_n 3, 1) := by decide +kernel
theorem dX9_restore_111 : decode cX9_restore 111 = .ok (.iadd, 1) := by decide +kernel
theorem dX9_restore_112 : decode cX9_restore 112 = .ok (.iaload, 1) := by decide +kernel
theorem dX9_restore_113 : decode cX9_restore 113 = .ok (.iastore, 1) := by decide +kernel
theorem dX9_restore_114 : decode cX9_restore 114 = .ok (.iinc 3 1, 3) := by decide +kernel
theorem dX9_restore_117 : decode cX9_restore 117 = .ok (.goto (-26), 3) := by decide +kernel
theorem dX9_restore_120 : decode cX9_restore 120 = .ok (.iconst 0, 1) := by decide +kernel
theorem dX9_restore_121 : decode cX9_restore 121 = .ok (.istore_n 3, 1) := by decide +kernel
theorem dX9_restore_122 : decode cX9_restore 122 = .ok (.iload_n 3, 1) := by decide +kernel
theorem dX9_restore_123 : decode cX9_restore 123 = .ok (.bipush 8, 2) := by decide +kernel
theorem dX9_restore_125 : decode cX9_restore 125 = .ok (.if_icmp .ge 77, 3) := by decide +kernel
theorem dX9_restore_128 : decode cX9_restore 128 = .ok (.aload_n 0, 1) := by decide +kernel
theorem dX9_restore_129 : decode cX9_restore 129 = .ok (.getfield 29, 3) := by decide +kernel
theorem dX9_restore_132 : decode cX9_restore 132 = .ok (.iload_n 3, 1) := by decide +kernel
theorem dX9_restore_133 : decode cX9_restore 133 = .ok (.aload_n 0, 1) := by decide +kernel
theorem dX9_restore_134 : decode cX9_restore 134 = .ok (.getfield 78, 3) := by decide +kernel
theorem dX9_restore_137 : decode cX9_restore 137 = .ok (.iload_n 2, 1) := by decide +kernel
theorem dX9_restore_138 : decode cX9_restore 138 = .ok (.bipush 100, 2) := by decide +kernel
theorem dX9_restore_140 : decode cX9_restore 140 = .ok (.iadd, 1) := by decide +kernel
theorem dX9_restore_141 : decode cX9_restore 141 = .ok (.iload_n 3, 1) := by decide +kernel
theorem dX9_restore_142 : decode cX9_restore 142 = .ok (.iadd, 1) := by decide +kernel
theorem dX9_restore_143 : decode cX9_restore 143 = .ok (.iaload, 1) := by decide +kernel
theorem dX9_restore_144 : decode cX9_restore 144 = .ok (.iastore, 1) := by decide +kernel
theorem dX9_restore_145 : decode cX9_restore 145 = .ok (.aload_n 0, 1) := by decide +kernel
theorem dX9_restore_146 : decode cX9_restore 146 = .ok (.getfield 32, 3) := by decide +kernel
theorem dX9_restore_149 : decode cX9_restore 149 = .ok (.iload_n 3, 1) := by decide +kernel
theorem dX9_restore_150 : decode cX9_restore 150 = .ok (.aload_n 0, 1) := by decide +kernel
theorem dX9_restore_151 : decode cX9_restore 151 = .ok (.getfield 78, 3) := by decide +kernel
theorem dX9_restore_154 : decode cX9_restore 154 = .ok (.iload_n 2, 1) := by decide +kernel
theorem dX9_restore_155 : decode cX9_restore 155 = .ok (.bipush 108, 2) := by decide +kernel
theorem dX9_restore_157 : decode cX9_restore 157 = .ok (.iadd, 1) := by decide +kernel
theorem dX9_restore_158 : decode cX9_restore 158 = .ok (.iload_n 3, 1) := by decide +kernel
theorem dX9_restore_159 : decode cX9_restore 159 = .ok (.iadd, 1) := by decide +kernel
theorem dX9_restore_160 : decode cX9_restore 160 = .ok (.iaload, 1) := by decide +kernel
theorem dX9_restore_161 : decode cX9_restore 161 = .ok (.iastore, 1) := by decide +kernel
theorem dX9_restore_162 : decode cX9_restore 162 = .ok (.aload_n 0, 1) := by decide +kernel
theorem dX9_restore_163 : decode cX9_restore 163 = .ok (.getfield 35, 3) := by decide +kernel
theorem dX9_restore_166 : decode cX9_restore 166 = .ok (.iload_n 3, 1) := by decide +kernel
theorem dX9_restore_167 : decode cX9_restore 167 = .ok (.aload_n 0, 1) := by decide +kernel
theorem dX9_restore_168 : decode cX9_restore 168 = .ok (.getfield 78, 3) := by decide +kernel
theorem dX9_restore_171 : decode cX9_restore 171 = .ok (.iload_n 2, 1) := by decide +kernel
theorem dX9_restore_172 : decode cX9_restore 172 = .ok (.bipush 116, 2) := by decide +kernel
theorem dX9_restore_174 : decode cX9_restore 174 = .ok (.iadd, 1) := by decide +kernel
theorem dX9_restore_175 : decode cX9_restore 175 = .ok (.iload_n 3, 1) := by decide +kernel
theorem dX9_restore_176 : decode cX9_restore 176 = .ok (.iadd, 1) := by decide +kernel
theorem dX9_restore_177 : decode cX9_restore 177 = .ok (.iaload, 1) := by decide +kernel
theorem dX9_restore_178 : decode cX9_restore 178 = .ok (.iastore, 1) := by decide +kernel
theorem dX9_restore_179 : decode cX9_restore 179 = .ok (.aload_n 0, 1) := by decide +kernel
theorem dX9_restore_180 : decode cX9_restore 180 = .ok (.getfield 38, 3) := by decide +kernel
theorem dX9_restore_183 : decode cX9_restore 183 = .ok (.iload_n 3, 1) := by decide +kernel
theorem dX9_restore_184 : decode cX9_restore 184 = .ok (.aload_n 0, 1) := by decide +kernel
theorem dX9_restore_185 : decode cX9_restore 185 = .ok (.getfield 78, 3) := by decide +kernel
theorem dX9_restore_188 : decode cX9_restore 188 = .ok (.iload_n 2, 1) := by decide +kernel
theorem dX9_restore_189 : decode cX9_restore 189 = .ok (.bipush 124, 2) := by decide +kernel
theorem dX9_restore_191 : decode cX9_restore 191 = .ok (.iadd, 1) := by decide +kernel
theorem dX9_restore_192 : decode cX9_restore 192 = .ok (.iload_n 3, 1) := by decide +kernel
theorem dX9_restore_193 : decode cX9_restore 193 = .ok (.iadd, 1) := by decide +kernel
theorem dX9_restore_194 : decode cX9_restore 194 = .ok (.iaload, 1) := by decide +kernel
theorem dX9_restore_195 : decode cX9_restore 195 = .ok (.iastore, 1) := by decide +kernel
theorem dX9_restore_196 : decode cX9_restore 196 = .ok (.iinc 3 1, 3) := by decide +kernel
theorem dX9_restore_199 : decode cX9_restore 199 = .ok (.goto (-77), 3) := by decide +kernel
theorem dX9_restore_202 : decode cX9_restore 202 = .ok (.iconst 0, 1) := by decide +kernel
theorem dX9_restore_203 : decode cX9_restore 203 = .ok (.istore_n 3, 1) := by decide +kernel
theorem dX9_restore_204 : decode cX9_restore 204 = .ok (.iload_n 3, 1) := by decide +kernel
theorem dX9_restore_205 : decode cX9_restore 205 = .ok (.bipush 12, 2) := by decide +kernel
theorem dX9_restore_207 : decode cX9_restore 207 = .ok (.if_icmp .ge 27, 3) := by decide +kernel
theorem dX9_restore_210 : decode cX9_restore 210 = .ok (.aload_n 0, 1) := by decide +kernel
theorem dX9_restore_211 : decode cX9_restore 211 = .ok (.getfield 41, 3) := by decide +kernel
theorem dX9_restore_214 : decode cX9_restore 214 = .ok (.iload_n 3, 1) := by decide +kernel
theorem dX9_restore_215 : decode cX9_restore 215 = .ok (.aload_n 0, 1) := by decide +kernel
theorem dX9_restore_216 : decode cX9_restore 216 = .ok (.getfield 78, 3) := by decide +kernel
theorem dX9_restore_219 : decode cX9_restore 219 = .ok (.iload_n 2, 1) := by decide +kernel
theorem dX9_restore_220 : decode cX9_restore 220 = .ok (.sipush 132, 3) := by decide +kernel
theorem dX9_restore_223 : decode cX9_restore 223 = .ok (.iadd, 1) := by decide +kernel
theorem dX9_restore_224 : decode cX9_restore 224 = .ok (.iload_n 3, 1) := by decide +kernel
theorem dX9_restore_225 : decode cX9_restore 225 = .ok (.iadd, 1) := by decide +kernel
theorem dX9_restore_226 : decode cX9_restore 226 = .ok (.iaload, 1) := by decide +kernel
theorem dX9_restore_227 : decode cX9_restore 227 = .ok (.iastore, 1) := by decide +kernel
theorem dX9_restore_228 : decode cX9_restore 228 = .ok (.iinc 3 1, 3) := by decide +kernel
theorem dX9_restore_231 : decode cX9_restore 231 = .ok (.goto (-27), 3) := by decide +kernel
theorem dX9_restore_234 : decode cX9_restore 234 = .ok (.iconst 0, 1) := by decide +kernel
theorem dX9_restore_235 : decode cX9_restore 235 = .ok (.istore_n 3, 1) := by decide +kernel
theorem dX9_restore_236 : decode cX9_restore 236 = .ok (.iload_n 3, 1) := by decide +kernel
theorem dX9_restore_237 : decode cX9_restore 237 = .ok (.bipush 6, 2) := by decide +kernel
theorem dX9_restore_239 : decode cX9_restore 239 = .ok (.if_icmp .ge 45, 3) := by decide +kernel
theorem dX9_restore_242 : decode cX9_restore 242 = .ok (.aload_n 0, 1) := by decide +kernel
theorem dX9_restore_243 : decode cX9_restore 243 = .ok (.getfield 17, 3) := by decide +kernel
theorem dX9_restore_246 : decode cX9_restore 246 = .ok (.iload_n 3, 1) := by decide +kernel
theorem dX9_restore_247 : decode cX9_restore 247 = .ok (.aload_n 0, 1) := by decide +kernel
theorem dX9_restore_248 : decode cX9_restore 248 = .ok (.getfield 78, 3) := by decide +kernel
theorem dX9_restore_251 : decode cX9_restore 251 = .ok (.iload_n 2, 1) := by decide +kernel
theorem dX9_restore_252 : decode cX9_restore 252 = .ok (.sipush 144, 3) := by decide +kernel
theorem dX9_restore_255 : decode cX9_restore 255 = .ok (.iadd, 1) := by decide +kernel
theorem dX9_restore_256 : decode cX9_restore 256 = .ok (.iload_n 3, 1) := by decide +kernel
theorem dX9_restore_257 : decode cX9_restore 257 = .ok (.iadd, 1) := by decide +kernel
theorem dX9_restore_258 : decode cX9_restore 258 = .ok (.iaload, 1) := by decide +kernel
theorem dX9_restore_259 : decode cX9_restore 259 = .ok (.iastore, 1) := by decide +kernel
theorem dX9_restore_260 : decode cX9_restore 260 = .ok (.aload_n 0, 1) := by decide +kernel
theorem dX9_restore_261 : decode cX9_restore 261 = .ok (.getfield 20, 3) := by decide +kernel
theorem dX9_restore_264 : decode cX9_restore 264 = .ok (.iload_n 3, 1) := by decide +kernel
theorem dX9_restore_265 : decode cX9_restore 265 = .ok (.aload_n 0, 1) := by decide +kernel
theorem dX9_restore_266 : decode cX9_restore 266 = .ok (.getfield 78, 3) := by decide +kernel
theorem dX9_restore_269 : decode cX9_restore 269 = .ok (.iload_n 2, 1) := by decide +kernel
theorem dX9_restore_270 : decode cX9_restore 270 = .ok (.sipush 150, 3) := by decide +kernel
theorem dX9_restore_273 : decode cX9_restore 273 = .ok (.iadd, 1) := by decide +kernel
theorem dX9_restore_274 : decode cX9_restore 274 = .ok (.iload_n 3, 1) := by decide +kernel
theorem dX9_restore_275 : decode cX9_restore 275 = .ok (.iadd, 1) := by decide +kernel
theorem dX9_restore_276 : decode cX9_restore 276 = .ok (.iaload, 1) := by decide +kernel
theorem dX9_restore_277 : decode cX9_restore 277 = .ok (.iastore, 1) := by decide +kernel
theorem dX9_restore_278 : decode cX9_restore 278 = .ok (.iinc 3 1, 3) := by decide +kernel
theorem dX9_restore_281 : decode cX9_restore 281 = .ok (.goto (-45), 3) := by decide +kernel
theorem dX9_restore_284 : decode cX9_restore 284 = .ok (.aload_n 0, 1) := by decide +kernel
theorem dX9_restore_285 : decode cX9_restore 285 = .ok (.aload_n 0, 1) := by decide +kernel
theorem dX9_restore_286 : decode cX9_restore 286 = .ok (.getfield 78, 3) := by decide +kernel
theorem dX9_restore_289 : decode cX9_restore 289 = .ok (.iload_n 2, 1) := by decide +kernel
theorem dX9_restore_290 : decode cX9_restore 290 = .ok (.sipush 156, 3) := by decide +kernel
theorem dX9_restore_293 : decode cX9_restore 293 = .ok (.iadd, 1) := by decide +kernel
theorem dX9_restore_294 : decode cX9_restore 294 = .ok (.iaload, 1) := by decide +kernel
theorem dX9_restore_295 : decode cX9_restore 295 = .ok (.putfield 7, 3) := by decide +kernel
theorem dX9_restore_298 : decode cX9_restore 298 = .ok (.aload_n 0, 1) := by decide +kernel
theorem dX9_restore_299 : decode cX9_restore 299 = .ok (.aload_n 0, 1) := by decide +kernel
theorem dX9_restore_300 : decode cX9_restore 300 = .ok (.getfield 78, 3) := by decide +kernel
theorem dX9_restore_303 : decode cX9_restore 303 = .ok (.iload_n 2, 1) := by decide +kernel
theorem dX9_restore_304 : decode cX9_restore 304 = .ok (.sipush 157, 3) := by decide +kernel
theorem dX9_restore_307 : decode cX9_restore 307 = .ok (.iadd, 1) := by decide +kernel
theorem dX9_restore_308 : decode cX9_restore 308 = .ok (.iaload, 1) := by decide +kernel
theorem dX9_restore_309 : decode cX9_restore 309 = .ok (.putfield 88, 3) := by decide +kernel
theorem dX9_restore_312 : decode cX9_restore 312 = .ok (.aload_n 0, 1) := by decide +kernel
theorem dX9_restore_313 : decode cX9_restore 313 = .ok (.aload_n 0, 1) := by decide +kernel
theorem dX9_restore_314 : decode cX9_restore 314 = .ok (.getfield 78, 3) := by decide +kernel
theorem dX9_restore_317 : decode cX9_restore 317 = .ok (.iload_n 2, 1) := by decide +kernel
theorem dX9_restore_318 : decode cX9_restore 318 = .ok (.sipush 158, 3) := by decide +kernel
theorem dX9_restore_321 : decode cX9_restore 321 = .ok (.iadd, 1) := by decide +kernel
theorem dX9_restore_322 : decode cX9_restore 322 = .ok (.iaload, 1) := by decide +kernel
theorem dX9_restore_323 : decode cX9_restore 323 = .ok (.putfield 91, 3) := by decide +kernel
theorem dX9_restore_326 : decode cX9_restore 326 = .ok (.iconst 1, 1) := by decide +kernel
theorem dX9_restore_327 : decode cX9_restore 327 = .ok (.ireturn, 1) := by decide +kernel
theorem dX9_told_0 : decode cX9_told 0 = .ok (.iload_n 1, 1) := by decide +kernel
theorem dX9_told_1 : decode cX9_told 1 = .ok (.bipush 10, 2) := by decide +kernel
theorem dX9_told_3 : decode cX9_told 3 = .ok (.irem, 1) := by decide +kernel
theorem dX9_told_4 : decode cX9_told 4 = .ok (.istore_n 2, 1) := by decide +kernel
theorem dX9_told_5 : decode cX9_told 5 = .ok (.iload_n 1, 1) := by decide +kernel
theorem dX9_told_6 : decode cX9_told 6 = .ok (.sipush 1000, 3) := by decide +kernel
theorem dX9_told_9 : decode cX9_told 9 = .ok (.if_icmp .lt 51, 3) := by decide +kernel
theorem dX9_told_12 : decode cX9_told 12 = .ok (.iload_n 1, 1) := by decide +kernel
theorem dX9_told_13 : decode cX9_told 13 = .ok (.sipush 1000, 3) := by decide +kernel
theorem dX9_told_16 : decode cX9_told 16 = .ok (.idiv, 1) := by decide +kernel
theorem dX9_told_17 : decode cX9_told 17 = .ok (.iconst 1, 1) := by decide +kernel
theorem dX9_told_18 : decode cX9_told 18 = .ok (.isub, 1) := by decide +kernel
theorem dX9_told_19 : decode cX9_told 19 = .ok (.istore_n 3, 1) := by decide +kernel
theorem dX9_told_20 : decode cX9_told 20 = .ok (.aload_n 0, 1) := by decide +kernel
theorem dX9_told_21 : decode cX9_told 21 = .ok (.iload_n 3, 1) := by decide +kernel
theorem dX9_told_22 : decode cX9_told 22 = .ok (.invokevirtual 121, 3) := by decide +kernel
theorem dX9_told_25 : decode cX9_told 25 = .ok (.ifCond .eq 32, 3) := by decide +kernel
theorem dX9_told_28 : decode cX9_told 28 = .ok (.iload_n 1, 1) := by decide +kernel
theorem dX9_told_29 : decode cX9_told 29 = .ok (.sipush 1000, 3) := by decide +kernel
theorem dX9_told_32 : decode cX9_told 32 = .ok (.irem, 1) := by decide +kernel
theorem dX9_told_33 : decode cX9_told 33 = .ok (.iconst 5, 1) := by decide +kernel
theorem dX9_told_34 : decode cX9_told 34 = .ok (.if_icmp .ge 23, 3) := by decide +kernel
theorem dX9_told_37 : decode cX9_told 37 = .ok (.aload_n 0, 1) := by decide +kernel
theorem dX9_told_38 : decode cX9_told 38 = .ok (.getfield 26, 3) := by decide +kernel
theorem dX9_told_41 : decode cX9_told 41 = .ok (.iconst 5, 1) := by decide +kernel
theorem dX9_told_42 : decode cX9_told 42 = .ok (.iload_n 3, 1) := by decide +kernel
theorem dX9_told_43 : decode cX9_told 43 = .ok (.imul, 1) := by decide +kernel
theorem dX9_told_44 : decode cX9_told 44 = .ok (.iload_n 1, 1) := by decide +kernel
theorem dX9_told_45 : decode cX9_told 45 = .ok (.sipush 1000, 3) := by decide +kernel
theorem dX9_told_48 : decode cX9_told 48 = .ok (.irem, 1) := by decide +kernel
theorem dX9_told_49 : decode cX9_told 49 = .ok (.iadd, 1) := by decide +kernel
theorem dX9_told_50 : decode cX9_told 50 = .ok (.iaload, 1) := by decide +kernel
theorem dX9_told_51 : decode cX9_told 51 = .ok (.bipush 10, 2) := by decide +kernel
theorem dX9_told_53 : decode cX9_told 53 = .ok (.iadd, 1) := by decide +kernel
theorem dX9_told_54 : decode cX9_told 54 = .ok (.goto 5, 3) := by decide +kernel
theorem dX9_told_57 : decode cX9_told 57 = .ok (.bipush (-2), 2) := by decide +kernel
theorem dX9_told_59 : decode cX9_told 59 = .ok (.ireturn, 1) := by decide +kernel
theorem dX9_told_60 : decode cX9_told 60 = .ok (.iload_n 1, 1) := by decide +kernel
theorem dX9_told_61 : decode cX9_told 61 = .ok (.bipush 100, 2) := by decide +kernel
theorem dX9_told_63 : decode cX9_told 63 = .ok (.if_icmp .lt 57, 3) := by decide +kernel
theorem dX9_told_66 : decode cX9_told 66 = .ok (.iload_n 1, 1) := by decide +kernel
theorem dX9_told_67 : decode cX9_told 67 = .ok (.bipush 100, 2) := by decide +kernel
theorem dX9_told_69 : decode cX9_told 69 = .ok (.idiv, 1) := by decide +kernel
theorem dX9_told_70 : decode cX9_told 70 = .ok (.iconst 1, 1) := by decide +kernel
theorem dX9_told_71 : decode cX9_told 71 = .ok (.isub, 1) := by decide +kernel
theorem dX9_told_72 : decode cX9_told 72 = .ok (.istore_n 3, 1) := by decide +kernel
theorem dX9_told_73 : decode cX9_told 73 = .ok (.aload_n 0, 1) := by decide +kernel
theorem dX9_told_74 : decode cX9_told 74 = .ok (.iload_n 3, 1) := by decide +kernel
theorem dX9_told_75 : decode cX9_told 75 = .ok (.invokevirtual 102, 3) := by decide +kernel
theorem dX9_told_78 : decode cX9_told 78 = .ok (.ifCond .eq 39, 3) := by decide +kernel
theorem dX9_told_81 : decode cX9_told 81 = .ok (.aload_n 0, 1) := by decide +kernel
theorem dX9_told_82 : decode cX9_told 82 = .ok (.iload_n 1, 1) := by decide +kernel
theorem dX9_told_83 : decode cX9_told 83 = .ok (.bipush 100, 2) := by decide +kernel
theorem dX9_told_85 : decode cX9_told 85 = .ok (.irem, 1) := by decide +kernel
theorem dX9_told_86 : decode cX9_told 86 = .ok (.invokevirtual 102, 3) := by decide +kernel
theorem dX9_told_89 : decode cX9_told 89 = .ok (.ifCond .eq 28, 3) := by decide +kernel
theorem dX9_told_92 : decode cX9_told 92 = .ok (.iload_n 3, 1) := by decide +kernel
theorem dX9_told_93 : decode cX9_told 93 = .ok (.iload_n 1, 1) := by decide +kernel
theorem dX9_told_94 : decode cX9_told 94 = .ok (.bipush 100, 2) := by decide +kernel
theorem dX9_told_96 : decode cX9_told 96 = .ok (.irem, 1) := by decide +kernel
theorem dX9_told_97 : decode cX9_told 97 = .ok (.if_icmp .eq 20, 3) := by decide +kernel
theorem dX9_told_100 : decode cX9_told 100 = .ok (.aload_n 0, 1) := by decide +kernel
theorem dX9_told_101 : decode cX9_told 101 = .ok (.getfield 23, 3) := by decide +kernel
theorem dX9_told_104 : decode cX9_told 104 = .ok (.bipush 6, 2) := by decide +kernel
theorem dX9_told_106 : decode cX9_told 106 = .ok (.iload_n 3, 1) := by decide +kernel
theorem dX9_told_107 : decode cX9_told 107 = .ok (.imul, 1) := by decide +kernel
theorem dX9_told_108 : decode cX9_told 108 = .ok (.iload_n 1, 1) := by decide +kernel
theorem dX9_told_109 : decode cX9_told 109 = .ok (.bipush 100, 2) := by decide +kernel
theorem dX9_told_111 : decode cX9_told 111 = .ok (.irem, 1) := by decide +kernel
theorem dX9_told_112 : decode cX9_told 112 = .ok (.iadd, 1) := by decide +kernel
theorem dX9_told_113 : decode cX9_told 113 = .ok (.iaload, 1) := by decide +kernel
theorem dX9_told_114 : decode cX9_told 114 = .ok (.goto 5, 3) := by decide +kernel
theorem dX9_told_117 : decode cX9_told 117 = .ok (.bipush (-2), 2) := by decide +kernel
theorem dX9_told_119 : decode cX9_told 119 = .ok (.ireturn, 1) := by decide +kernel
theorem dX9_told_120 : decode cX9_told 120 = .ok (.iload_n 1, 1) := by decide +kernel
theorem dX9_told_121 : decode cX9_told 121 = .ok (.bipush 10, 2) := by decide +kernel
theorem dX9_told_123 : decode cX9_told 123 = .ok (.if_icmp .lt 67, 3) := by decide +kernel
theorem dX9_told_126 : decode cX9_told 126 = .ok (.iload_n 1, 1) := by decide +kernel
theorem dX9_told_127 : decode cX9_told 127 = .ok (.bipush 10, 2) := by decide +kernel
theorem dX9_told_129 : decode cX9_told 129 = .ok (.idiv, 1) := by decide +kernel
theorem dX9_told_130 : decode cX9_told 130 = .ok (.iconst 1, 1) := by decide +kernel
theorem dX9_told_131 : decode cX9_told 131 = .ok (.isub, 1) := by decide +kernel
theorem dX9_told_132 : decode cX9_told 132 = .ok (.istore_n 3, 1) := by decide +kernel
theorem dX9_told_133 : decode cX9_told 133 = .ok (.aload_n 0, 1) := by decide +kernel
theorem dX9_told_134 : decode cX9_told 134 = .ok (.iload_n 3, 1) := by decide +kernel
theorem dX9_told_135 : decode cX9_told 135 = .ok (.invokevirtual 102, 3) := by decide +kernel
theorem dX9_told_138 : decode cX9_told 138 = .ok (.ifCond .eq 8, 3) := by decide +kernel
theorem dX9_told_141 : decode cX9_told 141 = .ok (.iload_n 2, 1) := by decide +kernel
theorem dX9_told_142 : decode cX9_told 142 = .ok (.iconst 5, 1) := by decide +kernel
theorem dX9_told_143 : decode cX9_told 143 = .ok (.if_icmp .le 8, 3) := by decide +kernel
theorem dX9_told_146 : decode cX9_told 146 = .ok (.bipush (-2), 2) := by decide +kernel
theorem dX9_told_148 : decode cX9_told 148 = .ok (.goto 41, 3) := by decide +kernel
theorem dX9_told_151 : decode cX9_told 151 = .ok (.iload_n 2, 1) := by decide +kernel
theorem dX9_told_152 : decode cX9_told 152 = .ok (.iconst 4, 1) := by decide +kernel
theorem dX9_told_153 : decode cX9_told 153 = .ok (.if_icmp .ge 16, 3) := by decide +kernel
theorem dX9_told_156 : decode cX9_told 156 = .ok (.aload_n 0, 1) := by decide +kernel
theorem dX9_told_157 : decode cX9_told 157 = .ok (.getfield 13, 3) := by decide +kernel
theorem dX9_told_160 : decode cX9_told 160 = .ok (.iconst 4, 1) := by decide +kernel
theorem dX9_told_161 : decode cX9_told 161 = .ok (.iload_n 3, 1) := by decide +kernel
theorem dX9_told_162 : decode cX9_told 162 = .ok (.imul, 1) := by decide +kernel
theorem dX9_told_163 : decode cX9_told 163 = .ok (.iload_n 2, 1) := by decide +kernel
theorem dX9_told_164 : decode cX9_told 164 = .ok (.iadd, 1) := by decide +kernel
theorem dX9_told_165 : decode cX9_told 165 = .ok (.iaload, 1) := by decide +kernel
theorem dX9_told_166 : decode cX9_told 166 = .ok (.goto 23, 3) := by decide +kernel
theorem dX9_told_169 : decode cX9_told 169 = .ok (.iload_n 2, 1) := by decide +kernel
theorem dX9_told_170 : decode cX9_told 170 = .ok (.iconst 4, 1) := by decide +kernel
theorem dX9_told_171 : decode cX9_told 171 = .ok (.if_icmp .ne 12, 3) := by decide +kernel
theorem dX9_told_174 : decode cX9_told 174 = .ok (.aload_n 0, 1) := by decide +kernel
theorem dX9_told_175 : decode cX9_told 175 = .ok (.getfield 17, 3) := by decide +kernel
theorem dX9_told_178 : decode cX9_told 178 = .ok (.iload_n 3, 1) := by decide +kernel
theorem dX9_told_179 : decode cX9_told 179 = .ok (.iaload, 1) := by decide +kernel
theorem dX9_told_180 : decode cX9_told 180 = .ok (.goto 9, 3) := by decide +kernel
theorem dX9_told_183 : decode cX9_told 183 = .ok (.aload_n 0, 1) := by decide +kernel
theorem dX9_told_184 : decode cX9_told 184 = .ok (.getfield 20, 3) := by decide +kernel
theorem dX9_told_187 : decode cX9_told 187 = .ok (.iload_n 3, 1) := by decide +kernel
theorem dX9_told_188 : decode cX9_told 188 = .ok (.iaload, 1) := by decide +kernel
theorem dX9_told_189 : decode cX9_told 189 = .ok (.ireturn, 1) := by decide +kernel
theorem dX9_told_190 : decode cX9_told 190 = .ok (.iload_n 1, 1) := by decide +kernel
theorem dX9_told_191 : decode cX9_told 191 = .ok (.tableswitch 40 0 2 #[25, 30, 35], 25) := by decide +kernel
theorem dX9_told_216 : decode cX9_told 216 = .ok (.aload_n 0, 1) := by decide +kernel
theorem dX9_told_217 : decode cX9_told 217 = .ok (.getfield 124, 3) := by decide +kernel
theorem dX9_told_220 : decode cX9_told 220 = .ok (.ireturn, 1) := by decide +kernel
theorem dX9_told_221 : decode cX9_told 221 = .ok (.aload_n 0, 1) := by decide +kernel
theorem dX9_told_222 : decode cX9_told 222 = .ok (.getfield 7, 3) := by decide +kernel
theorem dX9_told_225 : decode cX9_told 225 = .ok (.ireturn, 1) := by decide +kernel
theorem dX9_told_226 : decode cX9_told 226 = .ok (.aload_n 0, 1) := by decide +kernel
theorem dX9_told_227 : decode cX9_told 227 = .ok (.getfield 88, 3) := by decide +kernel
theorem dX9_told_230 : decode cX9_told 230 = .ok (.ireturn, 1) := by decide +kernel
theorem dX9_told_231 : decode cX9_told 231 = .ok (.iload_n 1, 1) := by decide +kernel
theorem dX9_told_232 : decode cX9_told 232 = .ok (.iconst 3, 1) := by decide +kernel
theorem dX9_told_233 : decode cX9_told 233 = .ok (.if_icmp .ne 10, 3) := by decide +kernel
theorem dX9_told_236 : decode cX9_told 236 = .ok (.aload_n 0, 1) := by decide +kernel
theorem dX9_told_237 : decode cX9_told 237 = .ok (.getfield 91, 3) := by decide +kernel
theorem dX9_told_240 : decode cX9_told 240 = .ok (.goto 5, 3) := by decide +kernel
theorem dX9_told_243 : decode cX9_told 243 = .ok (.bipush (-2), 2) := by decide +kernel
theorem dX9_told_245 : decode cX9_told 245 = .ok (.ireturn, 1) := by decide +kernel
end
section
theorem dL_law_0 : decode cL_law 0 = .ok (.new 7, 3) := by decide +kernel
theorem dL_law_3 : decode cL_law 3 = .ok (.dup, 1) := by decide +kernel
theorem dL_law_4 : decode cL_law 4 = .ok (.invokespecial 9, 3) := by decide +kernel
theorem dL_law_7 : decode cL_law 7 = .ok (.astore_n 1, 1) := by decide +kernel
theorem dL_law_8 : decode cL_law 8 = .ok (.new 10, 3) := by decide +kernel
theorem dL_law_11 : decode cL_law 11 = .ok (.dup, 1) := by decide +kernel
theorem dL_law_12 : decode cL_law 12 = .ok (.invokespecial 12, 3) := by decide +kernel
theorem dL_law_15 : decode cL_law 15 = .ok (.astore_n 2, 1) := by decide +kernel
theorem dL_law_16 : decode cL_law 16 = .ok (.iconst 0, 1) := by decide +kernel
theorem dL_law_17 : decode cL_law 17 = .ok (.istore_n 3, 1) := by decide +kernel
theorem dL_law_18 : decode cL_law 18 = .ok (.iload_n 3, 1) := by decide +kernel
theorem dL_law_19 : decode cL_law 19 = .ok (.aload_n 0, 1) := by decide +kernel
theorem dL_law_20 : decode cL_law 20 = .ok (.arraylength, 1) := by decide +kernel
theorem dL_law_21 : decode cL_law 21 = .ok (.bipush 6, 2) := by decide +kernel
theorem dL_law_23 : decode cL_law 23 = .ok (.isub, 1) := by decide +kernel
theorem dL_law_24 : decode cL_law 24 = .ok (.if_icmp .gt 1169, 3) := by decide +kernel
theorem dL_law_27 : decode cL_law 27 = .ok (.aload_n 0, 1) := by decide +kernel
theorem dL_law_28 : decode cL_law 28 = .ok (.iload_n 3, 1) := by decide +kernel
theorem dL_law_29 : decode cL_law 29 = .ok (.iaload, 1) := by decide +kernel
theorem dL_law_30 : decode cL_law 30 = .ok (.bipush 63, 2) := by decide +kernel
theorem dL_law_32 : decode cL_law 32 = .ok (.iand, 1) := by decide +kernel
theorem dL_law_33 : decode cL_law 33 = .ok (.tableswitch 1154 0 33 #[151, 174, 217, 260, 293, 336, 359, 382, 395, 408, 431, 444, 477, 510, 543, 566, 599, 632, 645, 658, 681, 714, 747, 770, 803, 856, 899, 932, 945, 978, 1042, 1085, 1108, 1131], 151) := by decide +kernel
theorem dL_law_184 : decode cL_law 184 = .ok (.aload_n 1, 1) := by decide +kernel
theorem dL_law_185 : decode cL_law 185 = .ok (.aload_n 0, 1) := by decide +kernel
theorem dL_law_186 : decode cL_law 186 = .ok (.iload_n 3, 1) := by decide +kernel
theorem dL_law_187 : decode cL_law 187 = .ok (.iconst 1, 1) := by decide +kernel
theorem dL_law_188 : decode cL_law 188 = .ok (.iadd, 1) := by decide +kernel
theorem dL_law_189 : decode cL_law 189 = .ok (.iaload, 1) := by decide +kernel
theorem dL_law_190 : decode cL_law 190 = .ok (.invokevirtual 13, 3) := by decide +kernel
theorem dL_law_193 : decode cL_law 193 = .ok (.aload_n 2, 1) := by decide +kernel
theorem dL_law_194 : decode cL_law 194 = .ok (.aload_n 0, 1) := by decide +kernel
theorem dL_law_195 : decode cL_law 195 = .ok (.iload_n 3, 1) := by decide +kernel
theorem dL_law_196 : decode cL_law 196 = .ok (.iconst 1, 1) := by decide +kernel
theorem dL_law_197 : decode cL_law 197 = .ok (.iadd, 1) := by decide +kernel
theorem dL_law_198 : decode cL_law 198 = .ok (.iaload, 1) := by decide +kernel
theorem dL_law_199 : decode cL_law 199 = .ok (.invokevirtual 17, 3) := by decide +kernel
theorem dL_law_202 : decode cL_law 202 = .ok (.if_icmp .eq 985, 3) := by decide +kernel
theorem dL_law_205 : decode cL_law 205 = .ok (.iconst 0, 1) := by decide +kernel
theorem dL_law_206 : decode cL_law 206 = .ok (.ireturn, 1) := by decide +kernel
theorem dL_law_207 : decode cL_law 207 = .ok (.aload_n 1, 1) := by decide +kernel
theorem dL_law_208 : decode cL_law 208 = .ok (.aload_n 0, 1) := by decide +kernel
theorem dL_law_209 : decode cL_law 209 = .ok (.iload_n 3, 1) := by decide +kernel
theorem dL_law_210 : decode cL_law 210 = .ok (.iconst 1, 1) := by decide +kernel
theorem dL_law_211 : decode cL_law 211 = .ok (.iadd, 1) := by decide +kernel
theorem dL_law_212 : decode cL_law 212 = .ok (.iaload, 1) := by decide +kernel
theorem dL_law_213 : decode cL_law 213 = .ok (.aload_n 0, 1) := by decide +kernel
theorem dL_law_214 : decode cL_law 214 = .ok (.iload_n 3, 1) := by decide +kernel
theorem dL_law_215 : decode cL_law 215 = .ok (.iconst 2, 1) := by decide +kernel
theorem dL_law_216 : decode cL_law 216 = .ok (.iadd, 1) := by decide +kernel
theorem dL_law_217 : decode cL_law 217 = .ok (.iaload, 1) := by decide +kernel
theorem dL_law_218 : decode cL_law 218 = .ok (.aload_n 0, 1) := by decide +kernel
theorem dL_law_219 : decode cL_law 219 = .ok (.iload_n 3, 1) := by decide +kernel
theorem dL_law_220 : decode cL_law 220 = .ok (.iconst 3, 1) := by decide +kernel
theorem dL_law_221 : decode cL_law 221 = .ok (.iadd, 1) := by decide +kernel
theorem dL_law_222 : decode cL_law 222 = .ok (.iaload, 1) := by decide +kernel
theorem dL_law_223 : decode cL_law 223 = .ok (.invokevirtual 18, 3) := by decide +kernel
theorem dL_law_226 : decode cL_law 226 = .ok (.aload_n 2, 1) := by decide +kernel
theorem dL_law_227 : decode cL_law 227 = .ok (.aload_n 0, 1) := by decide +kernel
theorem dL_law_228 : decode cL_law 228 = .ok (.iload_n 3, 1) := by decide +kernel
theorem dL_law_229 : decode cL_law 229 = .ok (.iconst 1, 1) := by decide +kernel
theorem dL_law_230 : decode cL_law 230 = .ok (.iadd, 1) := by decide +kernel
theorem dL_law_231 : decode cL_law 231 = .ok (.iaload, 1) := by decide +kernel
theorem dL_law_232 : decode cL_law 232 = .ok (.aload_n 0, 1) := by decide +kernel
theorem dL_law_233 : decode cL_law 233 = .ok (.iload_n 3, 1) := by decide +kernel
theorem dL_law_234 : decode cL_law 234 = .ok (.iconst 2, 1) := by decide +kernel
theorem dL_law_235 : decode cL_law 235 = .ok (.iadd, 1) := by decide +kernel
theorem dL_law_236 : decode cL_law 236 = .ok (.iaload, 1) := by decide +kernel
theorem dL_law_237 : decode cL_law 237 = .ok (.aload_n 0, 1) := by decide +kernel
theorem dL_law_238 : decode cL_law 238 = .ok (.iload_n 3, 1) := by decide +kernel
theorem dL_law_239 : decode cL_law 239 = .ok (.iconst 3, 1) := by decide +kernel
theorem dL_law_240 : decode cL_law 240 = .ok (.iadd, 1) := by decide +kernel
theorem dL_law_241 : decode cL_law 241 = .ok (.iaload, 1) := by decide +kernel
theorem dL_law_242 : decode cL_law 242 = .ok (.invokevirtual 22, 3) := by decide +kernel
theorem dL_law_245 : decode cL_law 245 = .ok (.if_icmp .eq 942, 3) := by decide +kernel
theorem dL_law_248 : decode cL_law 248 = .ok (.iconst 0, 1) := by decide +kernel
theorem dL_law_249 : decode cL_law 249 = .ok (.ireturn, 1) := by decide +kernel
theorem dL_law_250 : decode cL_law 250 = .ok (.aload_n 1, 1) := by decide +kernel
theorem dL_law_251 : decode cL_law 251 = .ok (.aload_n 0, 1) := by decide +kernel
theorem dL_law_252 : decode cL_law 252 = .ok (.iload_n 3, 1) := by decide +kernel
theorem dL_law_253 : decode cL_law 253 = .ok (.iconst 1, 1) := by decide +kernel
theorem dL_law_254 : decode cL_law 254 = .ok (.iadd, 1) := by decide +kernel
theorem dL_law_255 : decode cL_law 255 = .ok (.iaload, 1) := by decide +kernel
theorem dL_law_256 : decode cL_law 256 = .ok (.aload_n 0, 1) := by decide +kernel
theorem dL_law_257 : decode cL_law 257 = .ok (.iload_n 3, 1) := by decide +kernel
theorem dL_law_258 : decode cL_law 258 = .ok (.iconst 2, 1) := by decide +kernel
theorem dL_law_259 : decode cL_law 259 = .ok (.iadd, 1) := by decide +kernel
theorem dL_law_260 : decode cL_law 260 = .ok (.iaload, 1) := by decide +kernel
theorem dL_law_261 : decode cL_law 261 = .ok (.aload_n 0, 1) := by decide +kernel
theorem dL_law_262 : decode cL_law 262 = .ok (.iload_n 3, 1) := by decide +kernel
theorem dL_law_263 : decode cL_law 263 = .ok (.iconst 3, 1) := by decide +kernel
theorem dL_law_264 : decode cL_law 264 = .ok (.iadd, 1) := by decide +kernel
theorem dL_law_265 : decode cL_law 265 = .ok (.iaload, 1) := by decide +kernel
theorem dL_law_266 : decode cL_law 266 = .ok (.invokevirtual 23, 3) := by decide +kernel
theorem dL_law_269 : decode cL_law 269 = .ok (.aload_n 2, 1) := by decide +kernel
theorem dL_law_270 : decode cL_law 270 = .ok (.aload_n 0, 1) := by decide +kernel
theorem dL_law_271 : decode cL_law 271 = .ok (.iload_n 3, 1) := by decide +kernel
theorem dL_law_272 : decode cL_law 272 = .ok (.iconst 1, 1) := by decide +kernel
theorem dL_law_273 : decode cL_law 273 = .ok (.iadd, 1) := by decide +kernel
theorem dL_law_274 : decode cL_law 274 = .ok (.iaload, 1) := by decide +kernel
theorem dL_law_275 : decode cL_law 275 = .ok (.aload_n 0, 1) := by decide +kernel
theorem dL_law_276 : decode cL_law 276 = .ok (.iload_n 3, 1) := by decide +kernel
theorem dL_law_277 : decode cL_law 277 = .ok (.iconst 2, 1) := by decide +kernel
theorem dL_law_278 : decode cL_law 278 = .ok (.iadd, 1) := by decide +kernel
theorem dL_law_279 : decode cL_law 279 = .ok (.iaload, 1) := by decide +kernel
theorem dL_law_280 : decode cL_law 280 = .ok (.aload_n 0, 1) := by decide +kernel
theorem dL_law_281 : decode cL_law 281 = .ok (.iload_n 3, 1) := by decide +kernel
theorem dL_law_282 : decode cL_law 282 = .ok (.iconst 3, 1) := by decide +kernel
theorem dL_law_283 : decode cL_law 283 = .ok (.iadd, 1) := by decide +kernel
theorem dL_law_284 : decode cL_law 284 = .ok (.iaload, 1) := by decide +kernel
theorem dL_law_285 : decode cL_law 285 = .ok (.invokevirtual 26, 3) := by decide +kernel
theorem dL_law_288 : decode cL_law 288 = .ok (.if_icmp .eq 899, 3) := by decide +kernel
theorem dL_law_291 : decode cL_law 291 = .ok (.iconst 0, 1) := by decide +kernel
theorem dL_law_292 : decode cL_law 292 = .ok (.ireturn, 1) := by decide +kernel
theorem dL_law_293 : decode cL_law 293 = .ok (.aload_n 1, 1) := by decide +kernel
theorem dL_law_294 : decode cL_law 294 = .ok (.aload_n 0, 1) := by decide +kernel
theorem dL_law_295 : decode cL_law 295 = .ok (.iload_n 3, 1) := by decide +kernel
theorem dL_law_296 : decode cL_law 296 = .ok (.iconst 1, 1) := by decide +kernel
theorem dL_law_297 : decode cL_law 297 = .ok (.iadd, 1) := by decide +kernel
theorem dL_law_298 : decode cL_law 298 = .ok (.iaload, 1) := by decide +kernel
theorem dL_law_299 : decode cL_law 299 = .ok (.aload_n 0, 1) := by decide +kernel
theorem dL_law_300 : decode cL_law 300 = .ok (.iload_n 3, 1) := by decide +kernel
theorem dL_law_301 : decode cL_law 301 = .ok (.iconst 2, 1) := by decide +kernel
theorem dL_law_302 : decode cL_law 302 = .ok (.iadd, 1) := by decide +kernel
theorem dL_law_303 : decode cL_law 303 = .ok (.iaload, 1) := by decide +kernel
theorem dL_law_304 : decode cL_law 304 = .ok (.invokevirtual 27, 3) := by decide +kernel
theorem dL_law_307 : decode cL_law 307 = .ok (.aload_n 2, 1) := by decide +kernel
theorem dL_law_308 : decode cL_law 308 = .ok (.aload_n 0, 1) := by decide +kernel
theorem dL_law_309 : decode cL_law 309 = .ok (.iload_n 3, 1) := by decide +kernel
theorem dL_law_310 : decode cL_law 310 = .ok (.iconst 1, 1) := by decide +kernel
theorem dL_law_311 : decode cL_law 311 = .ok (.iadd, 1) := by decide +kernel
theorem dL_law_312 : decode cL_law 312 = .ok (.iaload, 1) := by decide +kernel
theorem dL_law_313 : decode cL_law 313 = .ok (.aload_n 0, 1) := by decide +kernel
theorem dL_law_314 : decode cL_law 314 = .ok (.iload_n 3, 1) := by decide +kernel
theorem dL_law_315 : decode cL_law 315 = .ok (.iconst 2, 1) := by decide +kernel
theorem dL_law_316 : decode cL_law 316 = .ok (.iadd, 1) := by decide +kernel
theorem dL_law_317 : decode cL_law 317 = .ok (.iaload, 1) := by decide +kernel
theorem dL_law_318 : decode cL_law 318 = .ok (.invokevirtual 31, 3) := by decide +kernel
theorem dL_law_321 : decode cL_law 321 = .ok (.if_icmp .eq 866, 3) := by decide +kernel
theorem dL_law_324 : decode cL_law 324 = .ok (.iconst 0, 1) := by decide +kernel
theorem dL_law_325 : decode cL_law 325 = .ok (.ireturn, 1) := by decide +kernel
theorem dL_law_326 : decode cL_law 326 = .ok (.aload_n 1, 1) := by decide +kernel
theorem dL_law_327 : decode cL_law 327 = .ok (.aload_n 0, 1) := by decide +kernel
theorem dL_law_328 : decode cL_law 328 = .ok (.iload_n 3, 1) := by decide +kernel
theorem dL_law_329 : decode cL_law 329 = .ok (.iconst 1, 1) := by decide +kernel
theorem dL_law_330 : decode cL_law 330 = .ok (.iadd, 1) := by decide +kernel
theorem dL_law_331 : decode cL_law 331 = .ok (.iaload, 1) := by decide +kernel
theorem dL_law_332 : decode cL_law 332 = .ok (.aload_n 0, 1) := by decide +kernel
theorem dL_law_333 : decode cL_law 333 = .ok (.iload_n 3, 1) := by decide +kernel
theorem dL_law_334 : decode cL_law 334 = .ok (.iconst 2, 1) := by decide +kernel
theorem dL_law_335 : decode cL_law 335 = .ok (.iadd, 1) := by decide +kernel
theorem dL_law_336 : decode cL_law 336 = .ok (.iaload, 1) := by decide +kernel
theorem dL_law_337 : decode cL_law 337 = .ok (.aload_n 0, 1) := by decide +kernel
theorem dL_law_338 : decode cL_law 338 = .ok (.iload_n 3, 1) := by decide +kernel
theorem dL_law_339 : decode cL_law 339 = .ok (.iconst 3, 1) := by decide +kernel
theorem dL_law_340 : decode cL_law 340 = .ok (.iadd, 1) := by decide +kernel
theorem dL_law_341 : decode cL_law 341 = .ok (.iaload, 1) := by decide +kernel
theorem dL_law_342 : decode cL_law 342 = .ok (.invokevirtual 32, 3) := by decide +kernel
theorem dL_law_345 : decode cL_law 345 = .ok (.aload_n 2, 1) := by decide +kernel
theorem dL_law_346 : decode cL_law 346 = .ok (.aload_n 0, 1) := by decide +kernel
theorem dL_law_347 : decode cL_law 347 = .ok (.iload_n 3, 1) := by decide +kernel
theorem dL_law_348 : decode cL_law 348 = .ok (.iconst 1, 1) := by decide +kernel
theorem dL_law_349 : decode cL_law 349 = .ok (.iadd, 1) := by decide +kernel
theorem dL_law_350 : decode cL_law 350 = .ok (.iaload, 1) := by decide +kernel
theorem dL_law_351 : decode cL_law 351 = .ok (.aload_n 0, 1) := by decide +kernel
theorem dL_law_352 : decode cL_law 352 = .ok (.iload_n 3, 1) := by decide +kernel
theorem dL_law_353 : decode cL_law 353 = .ok (.iconst 2, 1) := by decide +kernel
theorem dL_law_354 : decode cL_law 354 = .ok (.iadd, 1) := by decide +kernel
theorem dL_law_355 : decode cL_law 355 = .ok (.iaload, 1) := by decide +kernel
theorem dL_law_356 : decode cL_law 356 = .ok (.aload_n 0, 1) := by decide +kernel
theorem dL_law_357 : decode cL_law 357 = .ok (.iload_n 3, 1) := by decide +kernel
theorem dL_law_358 : decode cL_law 358 = .ok (.iconst 3, 1) := by decide +kernel
theorem dL_law_359 : decode cL_law 359 = .ok (.iadd, 1) := by decide +kernel
theorem dL_law_360 : decode cL_law 360 = .ok (.iaload, 1) := by decide +kernel
theorem dL_law_361 : decode cL_law 361 = .ok (.invokevirtual 35, 3) := by decide +kernel
theorem dL_law_364 : decode cL_law 364 = .ok (.if_icmp .eq 823, 3) := by decide +kernel
theorem dL_law_367 : decode cL_law 367 = .ok (.iconst 0, 1) := by decide +kernel
theorem dL_law_368 : decode cL_law 368 = .ok (.ireturn, 1) := by decide +kernel
theorem dL_law_369 : decode cL_law 369 = .ok (.aload_n 1, 1) := by decide +kernel
theorem dL_law_370 : decode cL_law 370 = .ok (.aload_n 0, 1) := by decide +kernel
theorem dL_law_371 : decode cL_law 371 = .ok (.iload_n 3, 1) := by decide +kernel
theorem dL_law_372 : decode cL_law 372 = .ok (.iconst 1, 1) := by decide +kernel
theorem dL_law_373 : decode cL_law 373 = .ok (.iadd, 1) := by decide +kernel
theorem dL_law_374 : decode cL_law 374 = .ok (.iaload, 1) := by decide +kernel
theorem dL_law_375 : decode cL_law 375 = .ok (.invokevirtual 36, 3) := by decide +kernel
theorem dL_law_378 : decode cL_law 378 = .ok (.aload_n 2, 1) := by decide +kernel
theorem dL_law_379 : decode cL_law 379 = .ok (.aload_n 0, 1) := by decide +kernel
theorem dL_law_380 : decode cL_law 380 = .ok (.iload_n 3, 1) := by decide +kernel
theorem dL_law_381 : decode cL_law 381 = .ok (.iconst 1, 1) := by decide +kernel
theorem dL_law_382 : decode cL_law 382 = .ok (.iadd, 1) := by decide +kernel
theorem dL_law_383 : decode cL_law 383 = .ok (.iaload, 1) := by decide +kernel
theorem dL_law_384 : decode cL_law 384 = .ok (.invokevirtual 39, 3) := by decide +kernel
theorem dL_law_387 : decode cL_law 387 = .ok (.if_icmp .eq 800, 3) := by decide +kernel
theorem dL_law_390 : decode cL_law 390 = .ok (.iconst 0, 1) := by decide +kernel
theorem dL_law_391 : decode cL_law 391 = .ok (.ireturn, 1) := by decide +kernel
theorem dL_law_392 : decode cL_law 392 = .ok (.aload_n 1, 1) := by decide +kernel
theorem dL_law_393 : decode cL_law 393 = .ok (.aload_n 0, 1) := by decide +kernel
theorem dL_law_394 : decode cL_law 394 = .ok (.iload_n 3, 1) := by decide +kernel
theorem dL_law_395 : decode cL_law 395 = .ok (.iconst 1, 1) := by decide +kernel
theorem dL_law_396 : decode cL_law 396 = .ok (.iadd, 1) := by decide +kernel
theorem dL_law_397 : decode cL_law 397 = .ok (.iaload, 1) := by decide +kernel
theorem dL_law_398 : decode cL_law 398 = .ok (.invokevirtual 40, 3) := by decide +kernel
theorem dL_law_401 : decode cL_law 401 = .ok (.aload_n 2, 1) := by decide +kernel
theorem dL_law_402 : decode cL_law 402 = .ok (.aload_n 0, 1) := by decide +kernel
theorem dL_law_403 : decode cL_law 403 = .ok (.iload_n 3, 1) := by decide +kernel
theorem dL_law_404 : decode cL_law 404 = .ok (.iconst 1, 1) := by decide +kernel
theorem dL_law_405 : decode cL_law 405 = .ok (.iadd, 1) := by decide +kernel
theorem dL_law_406 : decode cL_law 406 = .ok (.iaload, 1) := by decide +kernel
theorem dL_law_407 : decode cL_law 407 = .ok (.invokevirtual 43, 3) := by decide +kernel
theorem dL_law_410 : decode cL_law 410 = .ok (.if_icmp .eq 777, 3) := by decide +kernel
theorem dL_law_413 : decode cL_law 413 = .ok (.iconst 0, 1) := by decide +kernel
theorem dL_law_414 : decode cL_law 414 = .ok (.ireturn, 1) := by decide +kernel
theorem dL_law_415 : decode cL_law 415 = .ok (.aload_n 1, 1) := by decide +kernel
theorem dL_law_416 : decode cL_law 416 = .ok (.invokevirtual 44, 3) := by decide +kernel
theorem dL_law_419 : decode cL_law 419 = .ok (.aload_n 2, 1) := by decide +kernel
theorem dL_law_420 : decode cL_law 420 = .ok (.invokevirtual 48, 3) := by decide +kernel
theorem dL_law_423 : decode cL_law 423 = .ok (.if_icmp .eq 764, 3) := by decide +kernel
theorem dL_law_426 : decode cL_law 426 = .ok (.iconst 0, 1) := by decide +kernel
theorem dL_law_427 : decode cL_law 427 = .ok (.ireturn, 1) := by decide +kernel
theorem dL_law_428 : decode cL_law 428 = .ok (.aload_n 1, 1) := by decide +kernel
theorem dL_law_429 : decode cL_law 429 = .ok (.invokevirtual 49, 3) := by decide +kernel
theorem dL_law_432 : decode cL_law 432 = .ok (.aload_n 2, 1) := by decide +kernel
theorem dL_law_433 : decode cL_law 433 = .ok (.invokevirtual 52, 3) := by decide +kernel
theorem dL_law_436 : decode cL_law 436 = .ok (.if_icmp .eq 751, 3) := by decide +kernel
theorem dL_law_439 : decode cL_law 439 = .ok (.iconst 0, 1) := by decide +kernel
theorem dL_law_440 : decode cL_law 440 = .ok (.ireturn, 1) := by decide +kernel
theorem dL_law_441 : decode cL_law 441 = .ok (.aload_n 1, 1) := by decide +kernel
theorem dL_law_442 : decode cL_law 442 = .ok (.aload_n 0, 1) := by decide +kernel
theorem dL_law_443 : decode cL_law 443 = .ok (.iload_n 3, 1) := by decide +kernel
theorem dL_law_444 : decode cL_law 444 = .ok (.iconst 1, 1) := by decide +kernel
theorem dL_law_445 : decode cL_law 445 = .ok (.iadd, 1) := by decide +kernel
theorem dL_law_446 : decode cL_law 446 = .ok (.iaload, 1) := by decide +kernel
theorem dL_law_447 : decode cL_law 447 = .ok (.invokevirtual 53, 3) := by decide +kernel
theorem dL_law_450 : decode cL_law 450 = .ok (.aload_n 2, 1) := by decide +kernel
theorem dL_law_451 : decode cL_law 451 = .ok (.aload_n 0, 1) := by decide +kernel
theorem dL_law_452 : decode cL_law 452 = .ok (.iload_n 3, 1) := by decide +kernel
theorem dL_law_453 : decode cL_law 453 = .ok (.iconst 1, 1) := by decide +kernel
theorem dL_law_454 : decode cL_law 454 = .ok (.iadd, 1) := by decide +kernel
theorem dL_law_455 : decode cL_law 455 = .ok (.iaload, 1) := by decide +kernel
theorem dL_law_456 : decode cL_law 456 = .ok (.invokevirtual 56, 3) := by decide +kernel
theorem dL_law_459 : decode cL_law 459 = .ok (.if_icmp .eq 728, 3) := by decide +kernel
theorem dL_law_462 : decode cL_law 462 = .ok (.iconst 0, 1) := by decide +kernel
theorem dL_law_463 : decode cL_law 463 = .ok (.ireturn, 1) := by decide +kernel
theorem dL_law_464 : decode cL_law 464 = .ok (.aload_n 1, 1) := by decide +kernel
theorem dL_law_465 : decode cL_law 465 = .ok (.invokevirtual 57, 3) := by decide +kernel
theorem dL_law_468 : decode cL_law 468 = .ok (.aload_n 2, 1) := by decide +kernel
theorem dL_law_469 : decode cL_law 469 = .ok (.invokevirtual 60, 3) := by decide +kernel
theorem dL_law_472 : decode cL_law 472 = .ok (.if_icmp .eq 715, 3) := by decide +kernel
theorem dL_law_475 : decode cL_law 475 = .ok (.iconst 0, 1) := by decide +kernel
theorem dL_law_476 : decode cL_law 476 = .ok (.ireturn, 1) := by decide +kernel
theorem dL_law_477 : decode cL_law 477 = .ok (.aload_n 1, 1) := by decide +kernel
theorem dL_law_478 : decode cL_law 478 = .ok (.aload_n 0, 1) := by decide +kernel
theorem dL_law_479 : decode cL_law 479 = .ok (.iload_n 3, 1) := by decide +kernel
theorem dL_law_480 : decode cL_law 480 = .ok (.iconst 1, 1) := by decide +kernel
theorem dL_law_481 : decode cL_law 481 = .ok (.iadd, 1) := by decide +kernel
theorem dL_law_482 : decode cL_law 482 = .ok (.iaload, 1) := by decide +kernel
theorem dL_law_483 : decode cL_law 483 = .ok (.aload_n 0, 1) := by decide +kernel
theorem dL_law_484 : decode cL_law 484 = .ok (.iload_n 3, 1) := by decide +kernel
theorem dL_law_485 : decode cL_law 485 = .ok (.iconst 2, 1) := by decide +kernel
theorem dL_law_486 : decode cL_law 486 = .ok (.iadd, 1) := by decide +kernel
theorem dL_law_487 : decode cL_law 487 = .ok (.iaload, 1) := by decide +kernel
theorem dL_law_488 : decode cL_law 488 = .ok (.invokevirtual 61, 3) := by decide +kernel
theorem dL_law_491 : decode cL_law 491 = .ok (.aload_n 2, 1) := by decide +kernel
theorem dL_law_492 : decode cL_law 492 = .ok (.aload_n 0, 1) := by decide +kernel
theorem dL_law_493 : decode cL_law 493 = .ok (.iload_n 3, 1) := by decide +kernel
theorem dL_law_494 : decode cL_law 494 = .ok (.iconst 1, 1) := by decide +kernel
theorem dL_law_495 : decode cL_law 495 = .ok (.iadd, 1) := by decide +kernel
theorem dL_law_496 : decode cL_law 496 = .ok (.iaload, 1) := by decide +kernel
theorem dL_law_497 : decode cL_law 497 = .ok (.aload_n 0, 1) := by decide +kernel
theorem dL_law_498 : decode cL_law 498 = .ok (.iload_n 3, 1) := by decide +kernel
theorem dL_law_499 : decode cL_law 499 = .ok (.iconst 2, 1) := by decide +kernel
theorem dL_law_500 : decode cL_law 500 = .ok (.iadd, 1) := by decide +kernel
theorem dL_law_501 : decode cL_law 501 = .ok (.iaload, 1) := by decide +kernel
theorem dL_law_502 : decode cL_law 502 = .ok (.invokevirtual 64, 3) := by decide +kernel
theorem dL_law_505 : decode cL_law 505 = .ok (.if_icmp .eq 682, 3) := by decide +kernel
theorem dL_law_508 : decode cL_law 508 = .ok (.iconst 0, 1) := by decide +kernel
theorem dL_law_509 : decode cL_law 509 = .ok (.ireturn, 1) := by decide +kernel
theorem dL_law_510 : decode cL_law 510 = .ok (.aload_n 1, 1) := by decide +kernel
theorem dL_law_511 : decode cL_law 511 = .ok (.aload_n 0, 1) := by decide +kernel
theorem dL_law_512 : decode cL_law 512 = .ok (.iload_n 3, 1) := by decide +kernel
theorem dL_law_513 : decode cL_law 513 = .ok (.iconst 1, 1) := by decide +kernel
theorem dL_law_514 : decode cL_law 514 = .ok (.iadd, 1) := by decide +kernel
theorem dL_law_515 : decode cL_law 515 = .ok (.iaload, 1) := by decide +kernel
theorem dL_law_516 : decode cL_law 516 = .ok (.aload_n 0, 1) := by decide +kernel
theorem dL_law_517 : decode cL_law 517 = .ok (.iload_n 3, 1) := by decide +kernel
theorem dL_law_518 : decode cL_law 518 = .ok (.iconst 2, 1) := by decide +kernel
theorem dL_law_519 : decode cL_law 519 = .ok (.iadd, 1) := by decide +kernel
theorem dL_law_520 : decode cL_law 520 = .ok (.iaload, 1) := by decide +kernel
theorem dL_law_521 : decode cL_law 521 = .ok (.invokevirtual 65, 3) := by decide +kernel
theorem dL_law_524 : decode cL_law 524 = .ok (.aload_n 2, 1) := by decide +kernel
theorem dL_law_525 : decode cL_law 525 = .ok (.aload_n 0, 1) := by decide +kernel
theorem dL_law_526 : decode cL_law 526 = .ok (.iload_n 3, 1) := by decide +kernel
theorem dL_law_527 : decode cL_law 527 = .ok (.iconst 1, 1) := by decide +kernel
theorem dL_law_528 : decode cL_law 528 = .ok (.iadd, 1) := by decide +kernel
theorem dL_law_529 : decode cL_law 529 = .ok (.iaload, 1) := by decide +kernel
theorem dL_law_530 : decode cL_law 530 = .ok (.aload_n 0, 1) := by decide +kernel
theorem dL_law_531 : decode cL_law 531 = .ok (.iload_n 3, 1) := by decide +kernel
theorem dL_law_532 : decode cL_law 532 = .ok (.iconst 2, 1) := by decide +kernel
theorem dL_law_533 : decode cL_law 533 = .ok (.iadd, 1) := by decide +kernel
theorem dL_law_534 : decode cL_law 534 = .ok (.iaload, 1) := by decide +kernel
theorem dL_law_535 : decode cL_law 535 = .ok (.invokevirtual 68, 3) := by decide +kernel
theorem dL_law_538 : decode cL_law 538 = .ok (.if_icmp .eq 649, 3) := by decide +kernel
theorem dL_law_541 : decode cL_law 541 = .ok (.iconst 0, 1) := by decide +kernel
theorem dL_law_542 : decode cL_law 542 = .ok (.ireturn, 1) := by decide +kernel
theorem dL_law_543 : decode cL_law 543 = .ok (.aload_n 1, 1) := by decide +kernel
theorem dL_law_544 : decode cL_law 544 = .ok (.aload_n 0, 1) := by decide +kernel
theorem dL_law_545 : decode cL_law 545 = .ok (.iload_n 3, 1) := by decide +kernel
theorem dL_law_546 : decode cL_law 546 = .ok (.iconst 1, 1) := by decide +kernel
theorem dL_law_547 : decode cL_law 547 = .ok (.iadd, 1) := by decide +kernel
theorem dL_law_548 : decode cL_law 548 = .ok (.iaload, 1) := by decide +kernel
theorem dL_law_549 : decode cL_law 549 = .ok (.aload_n 0, 1) := by decide +kernel
theorem dL_law_550 : decode cL_law 550 = .ok (.iload_n 3, 1) := by decide +kernel
theorem dL_law_551 : decode cL_law 551 = .ok (.iconst 2, 1) := by decide +kernel
theorem dL_law_552 : decode cL_law 552 = .ok (.iadd, 1) := by decide +kernel
theorem dL_law_553 : decode cL_law 553 = .ok (.iaload, 1) := by decide +kernel
theorem dL_law_554 : decode cL_law 554 = .ok (.invokevirtual 69, 3) := by decide +kernel
theorem dL_law_557 : decode cL_law 557 = .ok (.aload_n 2, 1) := by decide +kernel
theorem dL_law_558 : decode cL_law 558 = .ok (.aload_n 0, 1) := by decide +kernel
theorem dL_law_559 : decode cL_law 559 = .ok (.iload_n 3, 1) := by decide +kernel
theorem dL_law_560 : decode cL_law 560 = .ok (.iconst 1, 1) := by decide +kernel
theorem dL_law_561 : decode cL_law 561 = .ok (.iadd, 1) := by decide +kernel
theorem dL_law_562 : decode cL_law 562 = .ok (.iaload, 1) := by decide +kernel
theorem dL_law_563 : decode cL_law 563 = .ok (.aload_n 0, 1) := by decide +kernel
theorem dL_law_564 : decode cL_law 564 = .ok (.iload_n 3, 1) := by decide +kernel
theorem dL_law_565 : decode cL_law 565 = .ok (.iconst 2, 1) := by decide +kernel
theorem dL_law_566 : decode cL_law 566 = .ok (.iadd, 1) := by decide +kernel
theorem dL_law_567 : decode cL_law 567 = .ok (.iaload, 1) := by decide +kernel
theorem dL_law_568 : decode cL_law 568 = .ok (.invokevirtual 72, 3) := by decide +kernel
theorem dL_law_571 : decode cL_law 571 = .ok (.if_icmp .eq 616, 3) := by decide +kernel
theorem dL_law_574 : decode cL_law 574 = .ok (.iconst 0, 1) := by decide +kernel
theorem dL_law_575 : decode cL_law 575 = .ok (.ireturn, 1) := by decide +kernel
theorem dL_law_576 : decode cL_law 576 = .ok (.aload_n 1, 1) := by decide +kernel
theorem dL_law_577 : decode cL_law 577 = .ok (.aload_n 0, 1) := by decide +kernel
theorem dL_law_578 : decode cL_law 578 = .ok (.iload_n 3, 1) := by decide +kernel
theorem dL_law_579 : decode cL_law 579 = .ok (.iconst 1, 1) := by decide +kernel
theorem dL_law_580 : decode cL_law 580 = .ok (.iadd, 1) := by decide +kernel
theorem dL_law_581 : decode cL_law 581 = .ok (.iaload, 1) := by decide +kernel
theorem dL_law_582 : decode cL_law 582 = .ok (.invokevirtual 73, 3) := by decide +kernel
theorem dL_law_585 : decode cL_law 585 = .ok (.aload_n 2, 1) := by decide +kernel
theorem dL_law_586 : decode cL_law 586 = .ok (.aload_n 0, 1) := by decide +kernel
theorem dL_law_587 : decode cL_law 587 = .ok (.iload_n 3, 1) := by decide +kernel
theorem dL_law_588 : decode cL_law 588 = .ok (.iconst 1, 1) := by decide +kernel
theorem dL_law_589 : decode cL_law 589 = .ok (.iadd, 1) := by decide +kernel
theorem dL_law_590 : decode cL_law 590 = .ok (.iaload, 1) := by decide +kernel
theorem dL_law_591 : decode cL_law 591 = .ok (.invokevirtual 76, 3) := by decide +kernel
theorem dL_law_594 : decode cL_law 594 = .ok (.if_icmp .eq 593, 3) := by decide +kernel
theorem dL_law_597 : decode cL_law 597 = .ok (.iconst 0, 1) := by decide +kernel
theorem dL_law_598 : decode cL_law 598 = .ok (.ireturn, 1) := by decide +kernel
theorem dL_law_599 : decode cL_law 599 = .ok (.aload_n 1, 1) := by decide +kernel
theorem dL_law_600 : decode cL_law 600 = .ok (.aload_n 0, 1) := by decide +kernel
theorem dL_law_601 : decode cL_law 601 = .ok (.iload_n 3, 1) := by decide +kernel
theorem dL_law_602 : decode cL_law 602 = .ok (.iconst 1, 1) := by decide +kernel
theorem dL_law_603 : decode cL_law 603 = .ok (.iadd, 1) := by decide +kernel
theorem dL_law_604 : decode cL_law 604 = .ok (.iaload, 1) := by decide +kernel
theorem dL_law_605 : decode cL_law 605 = .ok (.aload_n 0, 1) := by decide +kernel
theorem dL_law_606 : decode cL_law 606 = .ok (.iload_n 3, 1) := by decide +kernel
theorem dL_law_607 : decode cL_law 607 = .ok (.iconst 2, 1) := by decide +kernel
theorem dL_law_608 : decode cL_law 608 = .ok (.iadd, 1) := by decide +kernel
theorem dL_law_609 : decode cL_law 609 = .ok (.iaload, 1) := by decide +kernel
theorem dL_law_610 : decode cL_law 610 = .ok (.invokevirtual 77, 3) := by decide +kernel
theorem dL_law_613 : decode cL_law 613 = .ok (.aload_n 2, 1) := by decide +kernel
theorem dL_law_614 : decode cL_law 614 = .ok (.aload_n 0, 1) := by decide +kernel
theorem dL_law_615 : decode cL_law 615 = .ok (.iload_n 3, 1) := by decide +kernel
theorem dL_law_616 : decode cL_law 616 = .ok (.iconst 1, 1) := by decide +kernel
theorem dL_law_617 : decode cL_law 617 = .ok (.iadd, 1) := by decide +kernel
theorem dL_law_618 : decode cL_law 618 = .ok (.iaload, 1) := by decide +kernel
theorem dL_law_619 : decode cL_law 619 = .ok (.aload_n 0, 1) := by decide +kernel
theorem dL_law_620 : decode cL_law 620 = .ok (.iload_n 3, 1) := by decide +kernel
theorem dL_law_621 : decode cL_law 621 = .ok (.iconst 2, 1) := by decide +kernel
theorem dL_law_622 : decode cL_law 622 = .ok (.iadd, 1) := by decide +kernel
theorem dL_law_623 : decode cL_law 623 = .ok (.iaload, 1) := by decide +kernel
theorem dL_law_624 : decode cL_law 624 = .ok (.invokevirtual 80, 3) := by decide +kernel
theorem dL_law_627 : decode cL_law 627 = .ok (.if_icmp .eq 560, 3) := by decide +kernel
theorem dL_law_630 : decode cL_law 630 = .ok (.iconst 0, 1) := by decide +kernel
theorem dL_law_631 : decode cL_law 631 = .ok (.ireturn, 1) := by decide +kernel
theorem dL_law_632 : decode cL_law 632 = .ok (.aload_n 1, 1) := by decide +kernel
theorem dL_law_633 : decode cL_law 633 = .ok (.aload_n 0, 1) := by decide +kernel
theorem dL_law_634 : decode cL_law 634 = .ok (.iload_n 3, 1) := by decide +kernel
theorem dL_law_635 : decode cL_law 635 = .ok (.iconst 1, 1) := by decide +kernel
theorem dL_law_636 : decode cL_law 636 = .ok (.iadd, 1) := by decide +kernel
theorem dL_law_637 : decode cL_law 637 = .ok (.iaload, 1) := by decide +kernel
theorem dL_law_638 : decode cL_law 638 = .ok (.aload_n 0, 1) := by decide +kernel
theorem dL_law_639 : decode cL_law 639 = .ok (.iload_n 3, 1) := by decide +kernel
theorem dL_law_640 : decode cL_law 640 = .ok (.iconst 2, 1) := by decide +kernel
theorem dL_law_641 : decode cL_law 641 = .ok (.iadd, 1) := by decide +kernel
theorem dL_law_642 : decode cL_law 642 = .ok (.iaload, 1) := by decide +kernel
theorem dL_law_643 : decode cL_law 643 = .ok (.invokevirtual 81, 3) := by decide +kernel
theorem dL_law_646 : decode cL_law 646 = .ok (.aload_n 2, 1) := by decide +kernel
theorem dL_law_647 : decode cL_law 647 = .ok (.aload_n 0, 1) := by decide +kernel
theorem dL_law_648 : decode cL_law 648 = .ok (.iload_n 3, 1) := by decide +kernel
theorem dL_law_649 : decode cL_law 649 = .ok (.iconst 1, 1) := by decide +kernel
theorem dL_law_650 : decode cL_law 650 = .ok (.iadd, 1) := by decide +kernel
theorem dL_law_651 : decode cL_law 651 = .ok (.iaload, 1) := by decide +kernel
theorem dL_law_652 : decode cL_law 652 = .ok (.aload_n 0, 1) := by decide +kernel
theorem dL_law_653 : decode cL_law 653 = .ok (.iload_n 3, 1) := by decide +kernel
theorem dL_law_654 : decode cL_law 654 = .ok (.iconst 2, 1) := by decide +kernel
theorem dL_law_655 : decode cL_law 655 = .ok (.iadd, 1) := by decide +kernel
theorem dL_law_656 : decode cL_law 656 = .ok (.iaload, 1) := by decide +kernel
theorem dL_law_657 : decode cL_law 657 = .ok (.invokevirtual 84, 3) := by decide +kernel
theorem dL_law_660 : decode cL_law 660 = .ok (.if_icmp .eq 527, 3) := by decide +kernel
theorem dL_law_663 : decode cL_law 663 = .ok (.iconst 0, 1) := by decide +kernel
theorem dL_law_664 : decode cL_law 664 = .ok (.ireturn, 1) := by decide +kernel
theorem dL_law_665 : decode cL_law 665 = .ok (.aload_n 1, 1) := by decide +kernel
theorem dL_law_666 : decode cL_law 666 = .ok (.invokevirtual 85, 3) := by decide +kernel
theorem dL_law_669 : decode cL_law 669 = .ok (.aload_n 2, 1) := by decide +kernel
theorem dL_law_670 : decode cL_law 670 = .ok (.invokevirtual 88, 3) := by decide +kernel
theorem dL_law_673 : decode cL_law 673 = .ok (.if_icmp .eq 514, 3) := by decide +kernel
theorem dL_law_676 : decode cL_law 676 = .ok (.iconst 0, 1) := by decide +kernel
theorem dL_law_677 : decode cL_law 677 = .ok (.ireturn, 1) := by decide +kernel
theorem dL_law_678 : decode cL_law 678 = .ok (.aload_n 1, 1) := by decide +kernel
theorem dL_law_679 : decode cL_law 679 = .ok (.invokevirtual 89, 3) := by decide +kernel
theorem dL_law_682 : decode cL_law 682 = .ok (.aload_n 2, 1) := by decide +kernel
theorem dL_law_683 : decode cL_law 683 = .ok (.invokevirtual 92, 3) := by decide +kernel
theorem dL_law_686 : decode cL_law 686 = .ok (.if_icmp .eq 501, 3) := by decide +kernel
theorem dL_law_689 : decode cL_law 689 = .ok (.iconst 0, 1) := by decide +kernel
theorem dL_law_690 : decode cL_law 690 = .ok (.ireturn, 1) := by decide +kernel
theorem dL_law_691 : decode cL_law 691 = .ok (.aload_n 1, 1) := by decide +kernel
theorem dL_law_692 : decode cL_law 692 = .ok (.aload_n 0, 1) := by decide +kernel
theorem dL_law_693 : decode cL_law 693 = .ok (.iload_n 3, 1) := by decide +kernel
theorem dL_law_694 : decode cL_law 694 = .ok (.iconst 1, 1) := by decide +kernel
theorem dL_law_695 : decode cL_law 695 = .ok (.iadd, 1) := by decide +kernel
theorem dL_law_696 : decode cL_law 696 = .ok (.iaload, 1) := by decide +kernel
theorem dL_law_697 : decode cL_law 697 = .ok (.invokevirtual 93, 3) := by decide +kernel
theorem dL_law_700 : decode cL_law 700 = .ok (.aload_n 2, 1) := by decide +kernel
theorem dL_law_701 : decode cL_law 701 = .ok (.aload_n 0, 1) := by decide +kernel
theorem dL_law_702 : decode cL_law 702 = .ok (.iload_n 3, 1) := by decide +kernel
theorem dL_law_703 : decode cL_law 703 = .ok (.iconst 1, 1) := by decide +kernel
theorem dL_law_704 : decode cL_law 704 = .ok (.iadd, 1) := by decide +kernel
theorem dL_law_705 : decode cL_law 705 = .ok (.iaload, 1) := by decide +kernel
theorem dL_law_706 : decode cL_law 706 = .ok (.invokevirtual 96, 3) := by decide +kernel
theorem dL_law_709 : decode cL_law 709 = .ok (.if_icmp .eq 478, 3) := by decide +kernel
theorem dL_law_712 : decode cL_law 712 = .ok (.iconst 0, 1) := by decide +kernel
theorem dL_law_713 : decode cL_law 713 = .ok (.ireturn, 1) := by decide +kernel
theorem dL_law_714 : decode cL_law 714 = .ok (.aload_n 1, 1) := by decide +kernel
theorem dL_law_715 : decode cL_law 715 = .ok (.aload_n 0, 1) := by decide +kernel
theorem dL_law_716 : decode cL_law 716 = .ok (.iload_n 3, 1) := by decide +kernel
theorem dL_law_717 : decode cL_law 717 = .ok (.iconst 1, 1) := by decide +kernel
theorem dL_law_718 : decode cL_law 718 = .ok (.iadd, 1) := by decide +kernel
theorem dL_law_719 : decode cL_law 719 = .ok (.iaload, 1) := by decide +kernel
theorem dL_law_720 : decode cL_law 720 = .ok (.aload_n 0, 1) := by decide +kernel
theorem dL_law_721 : decode cL_law 721 = .ok (.iload_n 3, 1) := by decide +kernel
theorem dL_law_722 : decode cL_law 722 = .ok (.iconst 2, 1) := by decide +kernel
theorem dL_law_723 : decode cL_law 723 = .ok (.iadd, 1) := by decide +kernel
theorem dL_law_724 : decode cL_law 724 = .ok (.iaload, 1) := by decide +kernel
theorem dL_law_725 : decode cL_law 725 = .ok (.invokevirtual 97, 3) := by decide +kernel
theorem dL_law_728 : decode cL_law 728 = .ok (.aload_n 2, 1) := by decide +kernel
theorem dL_law_729 : decode cL_law 729 = .ok (.aload_n 0, 1) := by decide +kernel
theorem dL_law_730 : decode cL_law 730 = .ok (.iload_n 3, 1) := by decide +kernel
theorem dL_law_731 : decode cL_law 731 = .ok (.iconst 1, 1) := by decide +kernel
theorem dL_law_732 : decode cL_law 732 = .ok (.iadd, 1) := by decide +kernel
theorem dL_law_733 : decode cL_law 733 = .ok (.iaload, 1) := by decide +kernel
theorem dL_law_734 : decode cL_law 734 = .ok (.aload_n 0, 1) := by decide +kernel
theorem dL_law_735 : decode cL_law 735 = .ok (.iload_n 3, 1) := by decide +kernel
theorem dL_law_736 : decode cL_law 736 = .ok (.iconst 2, 1) := by decide +kernel
theorem dL_law_737 : decode cL_law 737 = .ok (.iadd, 1) := by decide +kernel
theorem dL_law_738 : decode cL_law 738 = .ok (.iaload, 1) := by decide +kernel
theorem dL_law_739 : decode cL_law 739 = .ok (.invokevirtual 100, 3) := by decide +kernel
theorem dL_law_742 : decode cL_law 742 = .ok (.if_icmp .eq 445, 3) := by decide +kernel
theorem dL_law_745 : decode cL_law 745 = .ok (.iconst 0, 1) := by decide +kernel
theorem dL_law_746 : decode cL_law 746 = .ok (.ireturn, 1) := by decide +kernel
theorem dL_law_747 : decode cL_law 747 = .ok (.aload_n 1, 1) := by decide +kernel
theorem dL_law_748 : decode cL_law 748 = .ok (.aload_n 0, 1) := by decide +kernel
theorem dL_law_749 : decode cL_law 749 = .ok (.iload_n 3, 1) := by decide +kernel
theorem dL_law_750 : decode cL_law 750 = .ok (.iconst 1, 1) := by decide +kernel
theorem dL_law_751 : decode cL_law 751 = .ok (.iadd, 1) := by decide +kernel
theorem dL_law_752 : decode cL_law 752 = .ok (.iaload, 1) := by decide +kernel
theorem dL_law_753 : decode cL_law 753 = .ok (.aload_n 0, 1) := by decide +kernel
theorem dL_law_754 : decode cL_law 754 = .ok (.iload_n 3, 1) := by decide +kernel
theorem dL_law_755 : decode cL_law 755 = .ok (.iconst 2, 1) := by decide +kernel
theorem dL_law_756 : decode cL_law 756 = .ok (.iadd, 1) := by decide +kernel
theorem dL_law_757 : decode cL_law 757 = .ok (.iaload, 1) := by decide +kernel
theorem dL_law_758 : decode cL_law 758 = .ok (.invokevirtual 101, 3) := by decide +kernel
theorem dL_law_761 : decode cL_law 761 = .ok (.aload_n 2, 1) := by decide +kernel
theorem dL_law_762 : decode cL_law 762 = .ok (.aload_n 0, 1) := by decide +kernel
theorem dL_law_763 : decode cL_law 763 = .ok (.iload_n 3, 1) := by decide +kernel
theorem dL_law_764 : decode cL_law 764 = .ok (.iconst 1, 1) := by decide +kernel
theorem dL_law_765 : decode cL_law 765 = .ok (.iadd, 1) := by decide +kernel
theorem dL_law_766 : decode cL_law 766 = .ok (.iaload, 1) := by decide +kernel
theorem dL_law_767 : decode cL_law 767 = .ok (.aload_n 0, 1) := by decide +kernel
theorem dL_law_768 : decode cL_law 768 = .ok (.iload_n 3, 1) := by decide +kernel
theorem dL_law_769 : decode cL_law 769 = .ok (.iconst 2, 1) := by decide +kernel
theorem dL_law_770 : decode cL_law 770 = .ok (.iadd, 1) := by decide +kernel
theorem dL_law_771 : decode cL_law 771 = .ok (.iaload, 1) := by decide +kernel
theorem dL_law_772 : decode cL_law 772 = .ok (.invokevirtual 104, 3) := by decide +kernel
theorem dL_law_775 : decode cL_law 775 = .ok (.if_icmp .eq 412, 3) := by decide +kernel
theorem dL_law_778 : decode cL_law 778 = .ok (.iconst 0, 1) := by decide +kernel
theorem dL_law_779 : decode cL_law 779 = .ok (.ireturn, 1) := by decide +kernel
theorem dL_law_780 : decode cL_law 780 = .ok (.aload_n 1, 1) := by decide +kernel
theorem dL_law_781 : decode cL_law 781 = .ok (.aload_n 0, 1) := by decide +kernel
theorem dL_law_782 : decode cL_law 782 = .ok (.iload_n 3, 1) := by decide +kernel
theorem dL_law_783 : decode cL_law 783 = .ok (.iconst 1, 1) := by decide +kernel
theorem dL_law_784 : decode cL_law 784 = .ok (.iadd, 1) := by decide +kernel
theorem dL_law_785 : decode cL_law 785 = .ok (.iaload, 1) := by decide +kernel
theorem dL_law_786 : decode cL_law 786 = .ok (.invokevirtual 105, 3) := by decide +kernel
theorem dL_law_789 : decode cL_law 789 = .ok (.aload_n 2, 1) := by decide +kernel
theorem dL_law_790 : decode cL_law 790 = .ok (.aload_n 0, 1) := by decide +kernel
theorem dL_law_791 : decode cL_law 791 = .ok (.iload_n 3, 1) := by decide +kernel
theorem dL_law_792 : decode cL_law 792 = .ok (.iconst 1, 1) := by decide +kernel
theorem dL_law_793 : decode cL_law 793 = .ok (.iadd, 1) := by decide +kernel
theorem dL_law_794 : decode cL_law 794 = .ok (.iaload, 1) := by decide +kernel
theorem dL_law_795 : decode cL_law 795 = .ok (.invokevirtual 108, 3) := by decide +kernel
theorem dL_law_798 : decode cL_law 798 = .ok (.if_icmp .eq 389, 3) := by decide +kernel
theorem dL_law_801 : decode cL_law 801 = .ok (.iconst 0, 1) := by decide +kernel
theorem dL_law_802 : decode cL_law 802 = .ok (.ireturn, 1) := by decide +kernel
theorem dL_law_803 : decode cL_law 803 = .ok (.aload_n 1, 1) := by decide +kernel
theorem dL_law_804 : decode cL_law 804 = .ok (.aload_n 0, 1) := by decide +kernel
theorem dL_law_805 : decode cL_law 805 = .ok (.iload_n 3, 1) := by decide +kernel
theorem dL_law_806 : decode cL_law 806 = .ok (.iconst 1, 1) := by decide +kernel
theorem dL_law_807 : decode cL_law 807 = .ok (.iadd, 1) := by decide +kernel
theorem dL_law_808 : decode cL_law 808 = .ok (.iaload, 1) := by decide +kernel
theorem dL_law_809 : decode cL_law 809 = .ok (.aload_n 0, 1) := by decide +kernel
theorem dL_law_810 : decode cL_law 810 = .ok (.iload_n 3, 1) := by decide +kernel
theorem dL_law_811 : decode cL_law 811 = .ok (.iconst 2, 1) := by decide +kernel
theorem dL_law_812 : decode cL_law 812 = .ok (.iadd, 1) := by decide +kernel
theorem dL_law_813 : decode cL_law 813 = .ok (.iaload, 1) := by decide +kernel
theorem dL_law_814 : decode cL_law 814 = .ok (.invokevirtual 109, 3) := by decide +kernel
theorem dL_law_817 : decode cL_law 817 = .ok (.aload_n 2, 1) := by decide +kernel
theorem dL_law_818 : decode cL_law 818 = .ok (.aload_n 0, 1) := by decide +kernel
theorem dL_law_819 : decode cL_law 819 = .ok (.iload_n 3, 1) := by decide +kernel
theorem dL_law_820 : decode cL_law 820 = .ok (.iconst 1, 1) := by decide +kernel
theorem dL_law_821 : decode cL_law 821 = .ok (.iadd, 1) := by decide +kernel
theorem dL_law_822 : decode cL_law 822 = .ok (.iaload, 1) := by decide +kernel
theorem dL_law_823 : decode cL_law 823 = .ok (.aload_n 0, 1) := by decide +kernel
theorem dL_law_824 : decode cL_law 824 = .ok (.iload_n 3, 1) := by decide +kernel
theorem dL_law_825 : decode cL_law 825 = .ok (.iconst 2, 1) := by decide +kernel
theorem dL_law_826 : decode cL_law 826 = .ok (.iadd, 1) := by decide +kernel
theorem dL_law_827 : decode cL_law 827 = .ok (.iaload, 1) := by decide +kernel
theorem dL_law_828 : decode cL_law 828 = .ok (.invokevirtual 112, 3) := by decide +kernel
theorem dL_law_831 : decode cL_law 831 = .ok (.if_icmp .eq 356, 3) := by decide +kernel
theorem dL_law_834 : decode cL_law 834 = .ok (.iconst 0, 1) := by decide +kernel
theorem dL_law_835 : decode cL_law 835 = .ok (.ireturn, 1) := by decide +kernel
theorem dL_law_836 : decode cL_law 836 = .ok (.aload_n 1, 1) := by decide +kernel
theorem dL_law_837 : decode cL_law 837 = .ok (.aload_n 0, 1) := by decide +kernel
theorem dL_law_838 : decode cL_law 838 = .ok (.iload_n 3, 1) := by decide +kernel
theorem dL_law_839 : decode cL_law 839 = .ok (.iconst 1, 1) := by decide +kernel
theorem dL_law_840 : decode cL_law 840 = .ok (.iadd, 1) := by decide +kernel
theorem dL_law_841 : decode cL_law 841 = .ok (.iaload, 1) := by decide +kernel
theorem dL_law_842 : decode cL_law 842 = .ok (.aload_n 0, 1) := by decide +kernel
theorem dL_law_843 : decode cL_law 843 = .ok (.iload_n 3, 1) := by decide +kernel
theorem dL_law_844 : decode cL_law 844 = .ok (.iconst 2, 1) := by decide +kernel
theorem dL_law_845 : decode cL_law 845 = .ok (.iadd, 1) := by decide +kernel
theorem dL_law_846 : decode cL_law 846 = .ok (.iaload, 1) := by decide +kernel
theorem dL_law_847 : decode cL_law 847 = .ok (.aload_n 0, 1) := by decide +kernel
theorem dL_law_848 : decode cL_law 848 = .ok (.iload_n 3, 1) := by decide +kernel
theorem dL_law_849 : decode cL_law 849 = .ok (.iconst 3, 1) := by decide +kernel
theorem dL_law_850 : decode cL_law 850 = .ok (.iadd, 1) := by decide +kernel
theorem dL_law_851 : decode cL_law 851 = .ok (.iaload, 1) := by decide +kernel
theorem dL_law_852 : decode cL_law 852 = .ok (.aload_n 0, 1) := by decide +kernel
theorem dL_law_853 : decode cL_law 853 = .ok (.iload_n 3, 1) := by decide +kernel
theorem dL_law_854 : decode cL_law 854 = .ok (.iconst 4, 1) := by decide +kernel
theorem dL_law_855 : decode cL_law 855 = .ok (.iadd, 1) := by decide +kernel
theorem dL_law_856 : decode cL_law 856 = .ok (.iaload, 1) := by decide +kernel
theorem dL_law_857 : decode cL_law 857 = .ok (.invokevirtual 113, 3) := by decide +kernel
theorem dL_law_860 : decode cL_law 860 = .ok (.aload_n 2, 1) := by decide +kernel
theorem dL_law_861 : decode cL_law 861 = .ok (.aload_n 0, 1) := by decide +kernel
theorem dL_law_862 : decode cL_law 862 = .ok (.iload_n 3, 1) := by decide +kernel
theorem dL_law_863 : decode cL_law 863 = .ok (.iconst 1, 1) := by decide +kernel
theorem dL_law_864 : decode cL_law 864 = .ok (.iadd, 1) := by decide +kernel
theorem dL_law_865 : decode cL_law 865 = .ok (.iaload, 1) := by decide +kernel
theorem dL_law_866 : decode cL_law 866 = .ok (.aload_n 0, 1) := by decide +kernel
theorem dL_law_867 : decode cL_law 867 = .ok (.iload_n 3, 1) := by decide +kernel
theorem dL_law_868 : decode cL_law 868 = .ok (.iconst 2, 1) := by decide +kernel
theorem dL_law_869 : decode cL_law 869 = .ok (.iadd, 1) := by decide +kernel
theorem dL_law_870 : decode cL_law 870 = .ok (.iaload, 1) := by decide +kernel
theorem dL_law_871 : decode cL_law 871 = .ok (.aload_n 0, 1) := by decide +kernel
theorem dL_law_872 : decode cL_law 872 = .ok (.iload_n 3, 1) := by decide +kernel
theorem dL_law_873 : decode cL_law 873 = .ok (.iconst 3, 1) := by decide +kernel
theorem dL_law_874 : decode cL_law 874 = .ok (.iadd, 1) := by decide +kernel
theorem dL_law_875 : decode cL_law 875 = .ok (.iaload, 1) := by decide +kernel
theorem dL_law_876 : decode cL_law 876 = .ok (.aload_n 0, 1) := by decide +kernel
theorem dL_law_877 : decode cL_law 877 = .ok (.iload_n 3, 1) := by decide +kernel
theorem dL_law_878 : decode cL_law 878 = .ok (.iconst 4, 1) := by decide +kernel
theorem dL_law_879 : decode cL_law 879 = .ok (.iadd, 1) := by decide +kernel
theorem dL_law_880 : decode cL_law 880 = .ok (.iaload, 1) := by decide +kernel
theorem dL_law_881 : decode cL_law 881 = .ok (.invokevirtual 117, 3) := by decide +kernel
theorem dL_law_884 : decode cL_law 884 = .ok (.if_icmp .eq 303, 3) := by decide +kernel
theorem dL_law_887 : decode cL_law 887 = .ok (.iconst 0, 1) := by decide +kernel
theorem dL_law_888 : decode cL_law 888 = .ok (.ireturn, 1) := by decide +kernel
theorem dL_law_889 : decode cL_law 889 = .ok (.aload_n 1, 1) := by decide +kernel
theorem dL_law_890 : decode cL_law 890 = .ok (.aload_n 0, 1) := by decide +kernel
theorem dL_law_891 : decode cL_law 891 = .ok (.iload_n 3, 1) := by decide +kernel
theorem dL_law_892 : decode cL_law 892 = .ok (.iconst 1, 1) := by decide +kernel
theorem dL_law_893 : decode cL_law 893 = .ok (.iadd, 1) := by decide +kernel
theorem dL_law_894 : decode cL_law 894 = .ok (.iaload, 1) := by decide +kernel
theorem dL_law_895 : decode cL_law 895 = .ok (.aload_n 0, 1) := by decide +kernel
theorem dL_law_896 : decode cL_law 896 = .ok (.iload_n 3, 1) := by decide +kernel
theorem dL_law_897 : decode cL_law 897 = .ok (.iconst 2, 1) := by decide +kernel
theorem dL_law_898 : decode cL_law 898 = .ok (.iadd, 1) := by decide +kernel
theorem dL_law_899 : decode cL_law 899 = .ok (.iaload, 1) := by decide +kernel
theorem dL_law_900 : decode cL_law 900 = .ok (.aload_n 0, 1) := by decide +kernel
theorem dL_law_901 : decode cL_law 901 = .ok (.iload_n 3, 1) := by decide +kernel
theorem dL_law_902 : decode cL_law 902 = .ok (.iconst 3, 1) := by decide +kernel
theorem dL_law_903 : decode cL_law 903 = .ok (.iadd, 1) := by decide +kernel
theorem dL_law_904 : decode cL_law 904 = .ok (.iaload, 1) := by decide +kernel
theorem dL_law_905 : decode cL_law 905 = .ok (.invokevirtual 118, 3) := by decide +kernel
theorem dL_law_908 : decode cL_law 908 = .ok (.aload_n 2, 1) := by decide +kernel
theorem dL_law_909 : decode cL_law 909 = .ok (.aload_n 0, 1) := by decide +kernel
theorem dL_law_910 : decode cL_law 910 = .ok (.iload_n 3, 1) := by decide +kernel
theorem dL_law_911 : decode cL_law 911 = .ok (.iconst 1, 1) := by decide +kernel
theorem dL_law_912 : decode cL_law 912 = .ok (.iadd, 1) := by decide +kernel
theorem dL_law_913 : decode cL_law 913 = .ok (.iaload, 1) := by decide +kernel
theorem dL_law_914 : decode cL_law 914 = .ok (.aload_n 0, 1) := by decide +kernel
theorem dL_law_915 : decode cL_law 915 = .ok (.iload_n 3, 1) := by decide +kernel
theorem dL_law_916 : decode cL_law 916 = .ok (.iconst 2, 1) := by decide +kernel
theorem dL_law_917 : decode cL_law 917 = .ok (.iadd, 1) := by decide +kernel
theorem dL_law_918 : decode cL_law 918 = .ok (.iaload, 1) := by decide +kernel
theorem dL_law_919 : decode cL_law 919 = .ok (.aload_n 0, 1) := by decide +kernel
theorem dL_law_920 : decode cL_law 920 = .ok (.iload_n 3, 1) := by decide +kernel
theorem dL_law_921 : decode cL_law 921 = .ok (.iconst 3, 1) := by decide +kernel
theorem dL_law_922 : decode cL_law 922 = .ok (.iadd, 1) := by decide +kernel
theorem dL_law_923 : decode cL_law 923 = .ok (.iaload, 1) := by decide +kernel
theorem dL_law_924 : decode cL_law 924 = .ok (.invokevirtual 121, 3) := by decide +kernel
theorem dL_law_927 : decode cL_law 927 = .ok (.if_icmp .eq 260, 3) := by decide +kernel
theorem dL_law_930 : decode cL_law 930 = .ok (.iconst 0, 1) := by decide +kernel
theorem dL_law_931 : decode cL_law 931 = .ok (.ireturn, 1) := by decide +kernel
theorem dL_law_932 : decode cL_law 932 = .ok (.aload_n 1, 1) := by decide +kernel
theorem dL_law_933 : decode cL_law 933 = .ok (.aload_n 0, 1) := by decide +kernel
theorem dL_law_934 : decode cL_law 934 = .ok (.iload_n 3, 1) := by decide +kernel
theorem dL_law_935 : decode cL_law 935 = .ok (.iconst 1, 1) := by decide +kernel
theorem dL_law_936 : decode cL_law 936 = .ok (.iadd, 1) := by decide +kernel
theorem dL_law_937 : decode cL_law 937 = .ok (.iaload, 1) := by decide +kernel
theorem dL_law_938 : decode cL_law 938 = .ok (.aload_n 0, 1) := by decide +kernel
theorem dL_law_939 : decode cL_law 939 = .ok (.iload_n 3, 1) := by decide +kernel
theorem dL_law_940 : decode cL_law 940 = .ok (.iconst 2, 1) := by decide +kernel
theorem dL_law_941 : decode cL_law 941 = .ok (.iadd, 1) := by decide +kernel
theorem dL_law_942 : decode cL_law 942 = .ok (.iaload, 1) := by decide +kernel
theorem dL_law_943 : decode cL_law 943 = .ok (.invokevirtual 122, 3) := by decide +kernel
theorem dL_law_946 : decode cL_law 946 = .ok (.aload_n 2, 1) := by decide +kernel
theorem dL_law_947 : decode cL_law 947 = .ok (.aload_n 0, 1) := by decide +kernel
theorem dL_law_948 : decode cL_law 948 = .ok (.iload_n 3, 1) := by decide +kernel
theorem dL_law_949 : decode cL_law 949 = .ok (.iconst 1, 1) := by decide +kernel
theorem dL_law_950 : decode cL_law 950 = .ok (.iadd, 1) := by decide +kernel
theorem dL_law_951 : decode cL_law 951 = .ok (.iaload, 1) := by decide +kernel
theorem dL_law_952 : decode cL_law 952 = .ok (.aload_n 0, 1) := by decide +kernel
theorem dL_law_953 : decode cL_law 953 = .ok (.iload_n 3, 1) := by decide +kernel
theorem dL_law_954 : decode cL_law 954 = .ok (.iconst 2, 1) := by decide +kernel
theorem dL_law_955 : decode cL_law 955 = .ok (.iadd, 1) := by decide +kernel
theorem dL_law_956 : decode cL_law 956 = .ok (.iaload, 1) := by decide +kernel
theorem dL_law_957 : decode cL_law 957 = .ok (.invokevirtual 125, 3) := by decide +kernel
theorem dL_law_960 : decode cL_law 960 = .ok (.if_icmp .eq 227, 3) := by decide +kernel
theorem dL_law_963 : decode cL_law 963 = .ok (.iconst 0, 1) := by decide +kernel
theorem dL_law_964 : decode cL_law 964 = .ok (.ireturn, 1) := by decide +kernel
theorem dL_law_965 : decode cL_law 965 = .ok (.aload_n 1, 1) := by decide +kernel
theorem dL_law_966 : decode cL_law 966 = .ok (.invokevirtual 126, 3) := by decide +kernel
theorem dL_law_969 : decode cL_law 969 = .ok (.aload_n 2, 1) := by decide +kernel
theorem dL_law_970 : decode cL_law 970 = .ok (.invokevirtual 129, 3) := by decide +kernel
theorem dL_law_973 : decode cL_law 973 = .ok (.if_icmp .eq 214, 3) := by decide +kernel
theorem dL_law_976 : decode cL_law 976 = .ok (.iconst 0, 1) := by decide +kernel
theorem dL_law_977 : decode cL_law 977 = .ok (.ireturn, 1) := by decide +kernel
theorem dL_law_978 : decode cL_law 978 = .ok (.aload_n 1, 1) := by decide +kernel
theorem dL_law_979 : decode cL_law 979 = .ok (.aload_n 0, 1) := by decide +kernel
theorem dL_law_980 : decode cL_law 980 = .ok (.iload_n 3, 1) := by decide +kernel
theorem dL_law_981 : decode cL_law 981 = .ok (.iconst 1, 1) := by decide +kernel
theorem dL_law_982 : decode cL_law 982 = .ok (.iadd, 1) := by decide +kernel
theorem dL_law_983 : decode cL_law 983 = .ok (.iaload, 1) := by decide +kernel
theorem dL_law_984 : decode cL_law 984 = .ok (.aload_n 0, 1) := by decide +kernel
theorem dL_law_985 : decode cL_law 985 = .ok (.iload_n 3, 1) := by decide +kernel
theorem dL_law_986 : decode cL_law 986 = .ok (.iconst 2, 1) := by decide +kernel
theorem dL_law_987 : decode cL_law 987 = .ok (.iadd, 1) := by decide +kernel
theorem dL_law_988 : decode cL_law 988 = .ok (.iaload, 1) := by decide +kernel
theorem dL_law_989 : decode cL_law 989 = .ok (.invokevirtual 130, 3) := by decide +kernel
theorem dL_law_992 : decode cL_law 992 = .ok (.aload_n 2, 1) := by decide +kernel
theorem dL_law_993 : decode cL_law 993 = .ok (.aload_n 0, 1) := by decide +kernel
theorem dL_law_994 : decode cL_law 994 = .ok (.iload_n 3, 1) := by decide +kernel
theorem dL_law_995 : decode cL_law 995 = .ok (.iconst 1, 1) := by decide +kernel
theorem dL_law_996 : decode cL_law 996 = .ok (.iadd, 1) := by decide +kernel
theorem dL_law_997 : decode cL_law 997 = .ok (.iaload, 1) := by decide +kernel
theorem dL_law_998 : decode cL_law 998 = .ok (.aload_n 0, 1) := by decide +kernel
theorem dL_law_999 : decode cL_law 999 = .ok (.iload_n 3, 1) := by decide +kernel
theorem dL_law_1000 : decode cL_law 1000 = .ok (.iconst 2, 1) := by decide +kernel
theorem dL_law_1001 : decode cL_law 1001 = .ok (.iadd, 1) := by decide +kernel
theorem dL_law_1002 : decode cL_law 1002 = .ok (.iaload, 1) := by decide +kernel
theorem dL_law_1003 : decode cL_law 1003 = .ok (.invokevirtual 133, 3) := by decide +kernel
theorem dL_law_1006 : decode cL_law 1006 = .ok (.if_icmp .eq 181, 3) := by decide +kernel
theorem dL_law_1009 : decode cL_law 1009 = .ok (.iconst 0, 1) := by decide +kernel
theorem dL_law_1010 : decode cL_law 1010 = .ok (.ireturn, 1) := by decide +kernel
theorem dL_law_1011 : decode cL_law 1011 = .ok (.aload_n 1, 1) := by decide +kernel
theorem dL_law_1012 : decode cL_law 1012 = .ok (.aload_n 0, 1) := by decide +kernel
theorem dL_law_1013 : decode cL_law 1013 = .ok (.iload_n 3, 1) := by decide +kernel
theorem dL_law_1014 : decode cL_law 1014 = .ok (.iconst 1, 1) := by decide +kernel
theorem dL_law_1015 : decode cL_law 1015 = .ok (.iadd, 1) := by decide +kernel
theorem dL_law_1016 : decode cL_law 1016 = .ok (.iaload, 1) := by decide +kernel
theorem dL_law_1017 : decode cL_law 1017 = .ok (.aload_n 0, 1) := by decide +kernel
theorem dL_law_1018 : decode cL_law 1018 = .ok (.iload_n 3, 1) := by decide +kernel
theorem dL_law_1019 : decode cL_law 1019 = .ok (.iconst 2, 1) := by decide +kernel
theorem dL_law_1020 : decode cL_law 1020 = .ok (.iadd, 1) := by decide +kernel
theorem dL_law_1021 : decode cL_law 1021 = .ok (.iaload, 1) := by decide +kernel
theorem dL_law_1022 : decode cL_law 1022 = .ok (.aload_n 0, 1) := by decide +kernel
theorem dL_law_1023 : decode cL_law 1023 = .ok (.iload_n 3, 1) := by decide +kernel
theorem dL_law_1024 : decode cL_law 1024 = .ok (.iconst 3, 1) := by decide +kernel
theorem dL_law_1025 : decode cL_law 1025 = .ok (.iadd, 1) := by decide +kernel
theorem dL_law_1026 : decode cL_law 1026 = .ok (.iaload, 1) := by decide +kernel
theorem dL_law_1027 : decode cL_law 1027 = .ok (.aload_n 0, 1) := by decide +kernel
theorem dL_law_1028 : decode cL_law 1028 = .ok (.iload_n 3, 1) := by decide +kernel
theorem dL_law_1029 : decode cL_law 1029 = .ok (.iconst 4, 1) := by decide +kernel
theorem dL_law_1030 : decode cL_law 1030 = .ok (.iadd, 1) := by decide +kernel
theorem dL_law_1031 : decode cL_law 1031 = .ok (.iaload, 1) := by decide +kernel
theorem dL_law_1032 : decode cL_law 1032 = .ok (.aload_n 0, 1) := by decide +kernel
theorem dL_law_1033 : decode cL_law 1033 = .ok (.iload_n 3, 1) := by decide +kernel
theorem dL_law_1034 : decode cL_law 1034 = .ok (.iconst 5, 1) := by decide +kernel
theorem dL_law_1035 : decode cL_law 1035 = .ok (.iadd, 1) := by decide +kernel
theorem dL_law_1036 : decode cL_law 1036 = .ok (.iaload, 1) := by decide +kernel
theorem dL_law_1037 : decode cL_law 1037 = .ok (.invokevirtual 134, 3) := by decide +kernel
theorem dL_law_1040 : decode cL_law 1040 = .ok (.aload_n 2, 1) := by decide +kernel
theorem dL_law_1041 : decode cL_law 1041 = .ok (.aload_n 0, 1) := by decide +kernel
theorem dL_law_1042 : decode cL_law 1042 = .ok (.iload_n 3, 1) := by decide +kernel
theorem dL_law_1043 : decode cL_law 1043 = .ok (.iconst 1, 1) := by decide +kernel
theorem dL_law_1044 : decode cL_law 1044 = .ok (.iadd, 1) := by decide +kernel
theorem dL_law_1045 : decode cL_law 1045 = .ok (.iaload, 1) := by decide +kernel
theorem dL_law_1046 : decode cL_law 1046 = .ok (.aload_n 0, 1) := by decide +kernel
theorem dL_law_1047 : decode cL_law 1047 = .ok (.iload_n 3, 1) := by decide +kernel
theorem dL_law_1048 : decode cL_law 1048 = .ok (.iconst 2, 1) := by decide +kernel
theorem dL_law_1049 : decode cL_law 1049 = .ok (.iadd, 1) := by decide +kernel
theorem dL_law_1050 : decode cL_law 1050 = .ok (.iaload, 1) := by decide +kernel
theorem dL_law_1051 : decode cL_law 1051 = .ok (.aload_n 0, 1) := by decide +kernel
theorem dL_law_1052 : decode cL_law 1052 = .ok (.iload_n 3, 1) := by decide +kernel
theorem dL_law_1053 : decode cL_law 1053 = .ok (.iconst 3, 1) := by decide +kernel
theorem dL_law_1054 : decode cL_law 1054 = .ok (.iadd, 1) := by decide +kernel
theorem dL_law_1055 : decode cL_law 1055 = .ok (.iaload, 1) := by decide +kernel
theorem dL_law_1056 : decode cL_law 1056 = .ok (.aload_n 0, 1) := by decide +kernel
theorem dL_law_1057 : decode cL_law 1057 = .ok (.iload_n 3, 1) := by decide +kernel
theorem dL_law_1058 : decode cL_law 1058 = .ok (.iconst 4, 1) := by decide +kernel
theorem dL_law_1059 : decode cL_law 1059 = .ok (.iadd, 1) := by decide +kernel
theorem dL_law_1060 : decode cL_law 1060 = .ok (.iaload, 1) := by decide +kernel
theorem dL_law_1061 : decode cL_law 1061 = .ok (.aload_n 0, 1) := by decide +kernel
theorem dL_law_1062 : decode cL_law 1062 = .ok (.iload_n 3, 1) := by decide +kernel
theorem dL_law_1063 : decode cL_law 1063 = .ok (.iconst 5, 1) := by decide +kernel
theorem dL_law_1064 : decode cL_law 1064 = .ok (.iadd, 1) := by decide +kernel
theorem dL_law_1065 : decode cL_law 1065 = .ok (.iaload, 1) := by decide +kernel
theorem dL_law_1066 : decode cL_law 1066 = .ok (.invokevirtual 138, 3) := by decide +kernel
theorem dL_law_1069 : decode cL_law 1069 = .ok (.lcmp, 1) := by decide +kernel
theorem dL_law_1070 : decode cL_law 1070 = .ok (.ifCond .eq 117, 3) := by decide +kernel
theorem dL_law_1073 : decode cL_law 1073 = .ok (.iconst 0, 1) := by decide +kernel
theorem dL_law_1074 : decode cL_law 1074 = .ok (.ireturn, 1) := by decide +kernel
theorem dL_law_1075 : decode cL_law 1075 = .ok (.aload_n 1, 1) := by decide +kernel
theorem dL_law_1076 : decode cL_law 1076 = .ok (.aload_n 0, 1) := by decide +kernel
theorem dL_law_1077 : decode cL_law 1077 = .ok (.iload_n 3, 1) := by decide +kernel
theorem dL_law_1078 : decode cL_law 1078 = .ok (.iconst 1, 1) := by decide +kernel
theorem dL_law_1079 : decode cL_law 1079 = .ok (.iadd, 1) := by decide +kernel
theorem dL_law_1080 : decode cL_law 1080 = .ok (.iaload, 1) := by decide +kernel
theorem dL_law_1081 : decode cL_law 1081 = .ok (.aload_n 0, 1) := by decide +kernel
theorem dL_law_1082 : decode cL_law 1082 = .ok (.iload_n 3, 1) := by decide +kernel
theorem dL_law_1083 : decode cL_law 1083 = .ok (.iconst 2, 1) := by decide +kernel
theorem dL_law_1084 : decode cL_law 1084 = .ok (.iadd, 1) := by decide +kernel
theorem dL_law_1085 : decode cL_law 1085 = .ok (.iaload, 1) := by decide +kernel
theorem dL_law_1086 : decode cL_law 1086 = .ok (.aload_n 0, 1) := by decide +kernel
theorem dL_law_1087 : decode cL_law 1087 = .ok (.iload_n 3, 1) := by decide +kernel
theorem dL_law_1088 : decode cL_law 1088 = .ok (.iconst 3, 1) := by decide +kernel
theorem dL_law_1089 : decode cL_law 1089 = .ok (.iadd, 1) := by decide +kernel
theorem dL_law_1090 : decode cL_law 1090 = .ok (.iaload, 1) := by decide +kernel
theorem dL_law_1091 : decode cL_law 1091 = .ok (.invokevirtual 139, 3) := by decide +kernel
theorem dL_law_1094 : decode cL_law 1094 = .ok (.aload_n 2, 1) := by decide +kernel
theorem dL_law_1095 : decode cL_law 1095 = .ok (.aload_n 0, 1) := by decide +kernel
theorem dL_law_1096 : decode cL_law 1096 = .ok (.iload_n 3, 1) := by decide +kernel
theorem dL_law_1097 : decode cL_law 1097 = .ok (.iconst 1, 1) := by decide +kernel
theorem dL_law_1098 : decode cL_law 1098 = .ok (.iadd, 1) := by decide +kernel
theorem dL_law_1099 : decode cL_law 1099 = .ok (.iaload, 1) := by decide +kernel
theorem dL_law_1100 : decode cL_law 1100 = .ok (.aload_n 0, 1) := by decide +kernel
theorem dL_law_1101 : decode cL_law 1101 = .ok (.iload_n 3, 1) := by decide +kernel
theorem dL_law_1102 : decode cL_law 1102 = .ok (.iconst 2, 1) := by decide +kernel
theorem dL_law_1103 : decode cL_law 1103 = .ok (.iadd, 1) := by decide +kernel
theorem dL_law_1104 : decode cL_law 1104 = .ok (.iaload, 1) := by decide +kernel
theorem dL_law_1105 : decode cL_law 1105 = .ok (.aload_n 0, 1) := by decide +kernel
theorem dL_law_1106 : decode cL_law 1106 = .ok (.iload_n 3, 1) := by decide +kernel
theorem dL_law_1107 : decode cL_law 1107 = .ok (.iconst 3, 1) := by decide +kernel
theorem dL_law_1108 : decode cL_law 1108 = .ok (.iadd, 1) := by decide +kernel
theorem dL_law_1109 : decode cL_law 1109 = .ok (.iaload, 1) := by decide +kernel
theorem dL_law_1110 : decode cL_law 1110 = .ok (.invokevirtual 142, 3) := by decide +kernel
theorem dL_law_1113 : decode cL_law 1113 = .ok (.if_icmp .eq 74, 3) := by decide +kernel
theorem dL_law_1116 : decode cL_law 1116 = .ok (.iconst 0, 1) := by decide +kernel
theorem dL_law_1117 : decode cL_law 1117 = .ok (.ireturn, 1) := by decide +kernel
theorem dL_law_1118 : decode cL_law 1118 = .ok (.aload_n 1, 1) := by decide +kernel
theorem dL_law_1119 : decode cL_law 1119 = .ok (.aload_n 0, 1) := by decide +kernel
theorem dL_law_1120 : decode cL_law 1120 = .ok (.iload_n 3, 1) := by decide +kernel
theorem dL_law_1121 : decode cL_law 1121 = .ok (.iconst 1, 1) := by decide +kernel
theorem dL_law_1122 : decode cL_law 1122 = .ok (.iadd, 1) := by decide +kernel
theorem dL_law_1123 : decode cL_law 1123 = .ok (.iaload, 1) := by decide +kernel
theorem dL_law_1124 : decode cL_law 1124 = .ok (.invokevirtual 143, 3) := by decide +kernel
theorem dL_law_1127 : decode cL_law 1127 = .ok (.aload_n 2, 1) := by decide +kernel
theorem dL_law_1128 : decode cL_law 1128 = .ok (.aload_n 0, 1) := by decide +kernel
theorem dL_law_1129 : decode cL_law 1129 = .ok (.iload_n 3, 1) := by decide +kernel
theorem dL_law_1130 : decode cL_law 1130 = .ok (.iconst 1, 1) := by decide +kernel
theorem dL_law_1131 : decode cL_law 1131 = .ok (.iadd, 1) := by decide +kernel
theorem dL_law_1132 : decode cL_law 1132 = .ok (.iaload, 1) := by decide +kernel
theorem dL_law_1133 : decode cL_law 1133 = .ok (.invokevirtual 146, 3) := by decide +kernel
theorem dL_law_1136 : decode cL_law 1136 = .ok (.if_icmp .eq 51, 3) := by decide +kernel
theorem dL_law_1139 : decode cL_law 1139 = .ok (.iconst 0, 1) := by decide +kernel
theorem dL_law_1140 : decode cL_law 1140 = .ok (.ireturn, 1) := by decide +kernel
theorem dL_law_1141 : decode cL_law 1141 = .ok (.aload_n 1, 1) := by decide +kernel
theorem dL_law_1142 : decode cL_law 1142 = .ok (.aload_n 0, 1) := by decide +kernel
theorem dL_law_1143 : decode cL_law 1143 = .ok (.iload_n 3, 1) := by decide +kernel
theorem dL_law_1144 : decode cL_law 1144 = .ok (.iconst 1, 1) := by decide +kernel
theorem dL_law_1145 : decode cL_law 1145 = .ok (.iadd, 1) := by decide +kernel
theorem dL_law_1146 : decode cL_law 1146 = .ok (.iaload, 1) := by decide +kernel
theorem dL_law_1147 : decode cL_law 1147 = .ok (.invokevirtual 147, 3) := by decide +kernel
theorem dL_law_1150 : decode cL_law 1150 = .ok (.aload_n 2, 1) := by decide +kernel
theorem dL_law_1151 : decode cL_law 1151 = .ok (.aload_n 0, 1) := by decide +kernel
theorem dL_law_1152 : decode cL_law 1152 = .ok (.iload_n 3, 1) := by decide +kernel
theorem dL_law_1153 : decode cL_law 1153 = .ok (.iconst 1, 1) := by decide +kernel
theorem dL_law_1154 : decode cL_law 1154 = .ok (.iadd, 1) := by decide +kernel
theorem dL_law_1155 : decode cL_law 1155 = .ok (.iaload, 1) := by decide +kernel
theorem dL_law_1156 : decode cL_law 1156 = .ok (.invokevirtual 150, 3) := by decide +kernel
theorem dL_law_1159 : decode cL_law 1159 = .ok (.if_icmp .eq 28, 3) := by decide +kernel
theorem dL_law_1162 : decode cL_law 1162 = .ok (.iconst 0, 1) := by decide +kernel
theorem dL_law_1163 : decode cL_law 1163 = .ok (.ireturn, 1) := by decide +kernel
theorem dL_law_1164 : decode cL_law 1164 = .ok (.aload_n 1, 1) := by decide +kernel
theorem dL_law_1165 : decode cL_law 1165 = .ok (.aload_n 0, 1) := by decide +kernel
theorem dL_law_1166 : decode cL_law 1166 = .ok (.iload_n 3, 1) := by decide +kernel
theorem dL_law_1167 : decode cL_law 1167 = .ok (.iconst 1, 1) := by decide +kernel
theorem dL_law_1168 : decode cL_law 1168 = .ok (.iadd, 1) := by decide +kernel
theorem dL_law_1169 : decode cL_law 1169 = .ok (.iaload, 1) := by decide +kernel
theorem dL_law_1170 : decode cL_law 1170 = .ok (.invokevirtual 151, 3) := by decide +kernel
theorem dL_law_1173 : decode cL_law 1173 = .ok (.aload_n 2, 1) := by decide +kernel
theorem dL_law_1174 : decode cL_law 1174 = .ok (.aload_n 0, 1) := by decide +kernel
theorem dL_law_1175 : decode cL_law 1175 = .ok (.iload_n 3, 1) := by decide +kernel
theorem dL_law_1176 : decode cL_law 1176 = .ok (.iconst 1, 1) := by decide +kernel
theorem dL_law_1177 : decode cL_law 1177 = .ok (.iadd, 1) := by decide +kernel
theorem dL_law_1178 : decode cL_law 1178 = .ok (.iaload, 1) := by decide +kernel
theorem dL_law_1179 : decode cL_law 1179 = .ok (.invokevirtual 154, 3) := by decide +kernel
theorem dL_law_1182 : decode cL_law 1182 = .ok (.if_icmp .eq 5, 3) := by decide +kernel
theorem dL_law_1185 : decode cL_law 1185 = .ok (.iconst 0, 1) := by decide +kernel
theorem dL_law_1186 : decode cL_law 1186 = .ok (.ireturn, 1) := by decide +kernel
theorem dL_law_1187 : decode cL_law 1187 = .ok (.iinc 3 6, 3) := by decide +kernel
theorem dL_law_1190 : decode cL_law 1190 = .ok (.goto (-1172), 3) := by decide +kernel
theorem dL_law_1193 : decode cL_law 1193 = .ok (.iconst 1, 1) := by decide +kernel
theorem dL_law_1194 : decode cL_law 1194 = .ok (.ireturn, 1) := by decide +kernel
end
