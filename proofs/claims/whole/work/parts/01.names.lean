-- ===== PART A: goes FIRST, ahead of the names: the tables' words, and 'selects' of the private methods out of them =====
/-- a private method of a class that the tables say can be made, by its rows of tables_1 -/
def lw_okq (q : MethodName × Nat) : Prop := (q.1.cls ≠ "java/lang/invoke/MethodHandle" ∧ q.1.cls ≠ "java/lang/invoke/VarHandle") ∧ Cond.instantiable q.1.cls q.2 ∈ tables_1 ∧ Cond.privateMethod q.1 ∈ tables_1 ∧ Cond.instanceMethod q.1 ∈ tables_1
theorem lw_p0 : lw_okq (⟨"ShadowCourt$Page", "fits", "(I)Z"⟩, 2) := ⟨⟨by decide +kernel, by decide +kernel⟩, List.mem_of_getElem? (i := 31) (by decide +kernel), List.mem_of_getElem? (i := 255) (by decide +kernel), List.mem_of_getElem? (i := 256) (by decide +kernel)⟩
theorem lw_p1 : lw_okq (⟨"ShadowCourt$Sight", "isAsSeen", "(LShadowCourt$Court;II)Z"⟩, 1) := ⟨⟨by decide +kernel, by decide +kernel⟩, List.mem_of_getElem? (i := 131) (by decide +kernel), List.mem_of_getElem? (i := 488) (by decide +kernel), List.mem_of_getElem? (i := 489) (by decide +kernel)⟩
theorem lw_p2 : lw_okq (⟨"ShadowCourt$Sight", "leftAtWorst", "(II)I"⟩, 1) := ⟨⟨by decide +kernel, by decide +kernel⟩, List.mem_of_getElem? (i := 131) (by decide +kernel), List.mem_of_getElem? (i := 501) (by decide +kernel), List.mem_of_getElem? (i := 502) (by decide +kernel)⟩
theorem lw_p3 : lw_okq (⟨"ShadowCourt$Game", "weigh", "(LShadowCourt$Court;III)V"⟩, 6) := ⟨⟨by decide +kernel, by decide +kernel⟩, List.mem_of_getElem? (i := 141) (by decide +kernel), List.mem_of_getElem? (i := 600) (by decide +kernel), List.mem_of_getElem? (i := 601) (by decide +kernel)⟩
theorem lw_p4 : lw_okq (⟨"ShadowCourt$Game", "goBackAnHour", "()V"⟩, 6) := ⟨⟨by decide +kernel, by decide +kernel⟩, List.mem_of_getElem? (i := 141) (by decide +kernel), List.mem_of_getElem? (i := 606) (by decide +kernel), List.mem_of_getElem? (i := 607) (by decide +kernel)⟩
theorem lw_p5 : lw_okq (⟨"ShadowCourt$Game", "bestStep", "(II)I"⟩, 6) := ⟨⟨by decide +kernel, by decide +kernel⟩, List.mem_of_getElem? (i := 141) (by decide +kernel), List.mem_of_getElem? (i := 610) (by decide +kernel), List.mem_of_getElem? (i := 611) (by decide +kernel)⟩
theorem lw_p6 : lw_okq (⟨"ShadowCourt$Game", "afterAStood", "(II)I"⟩, 6) := ⟨⟨by decide +kernel, by decide +kernel⟩, List.mem_of_getElem? (i := 141) (by decide +kernel), List.mem_of_getElem? (i := 618) (by decide +kernel), List.mem_of_getElem? (i := 619) (by decide +kernel)⟩
theorem lw_p7 : lw_okq (⟨"ShadowCourt$Docket", "mostFrom", "(II)I"⟩, 4) := ⟨⟨by decide +kernel, by decide +kernel⟩, List.mem_of_getElem? (i := 168) (by decide +kernel), List.mem_of_getElem? (i := 638) (by decide +kernel), List.mem_of_getElem? (i := 639) (by decide +kernel)⟩
theorem lw_p8 : lw_okq (⟨"ShadowCourt$Docket", "firstHour", "(III)I"⟩, 4) := ⟨⟨by decide +kernel, by decide +kernel⟩, List.mem_of_getElem? (i := 168) (by decide +kernel), List.mem_of_getElem? (i := 645) (by decide +kernel), List.mem_of_getElem? (i := 646) (by decide +kernel)⟩
theorem lw_p9 : lw_okq (⟨"ShadowCourt$Terms", "draw", "(I)I"⟩, 3) := ⟨⟨by decide +kernel, by decide +kernel⟩, List.mem_of_getElem? (i := 189) (by decide +kernel), List.mem_of_getElem? (i := 672) (by decide +kernel), List.mem_of_getElem? (i := 673) (by decide +kernel)⟩
theorem lw_p10 : lw_okq (⟨"ShadowCourtModel", "read", "()I"⟩, 41) := ⟨⟨by decide +kernel, by decide +kernel⟩, List.mem_of_getElem? (i := 730) (by decide +kernel), List.mem_of_getElem? (i := 875) (by decide +kernel), List.mem_of_getElem? (i := 876) (by decide +kernel)⟩
theorem lw_p11 : lw_okq (⟨"ShadowCourtModel", "isFigure", "(II)Z"⟩, 41) := ⟨⟨by decide +kernel, by decide +kernel⟩, List.mem_of_getElem? (i := 730) (by decide +kernel), List.mem_of_getElem? (i := 879) (by decide +kernel), List.mem_of_getElem? (i := 880) (by decide +kernel)⟩
theorem lw_p12 : lw_okq (⟨"ShadowCourtModel", "at", "(I)I"⟩, 41) := ⟨⟨by decide +kernel, by decide +kernel⟩, List.mem_of_getElem? (i := 730) (by decide +kernel), List.mem_of_getElem? (i := 883) (by decide +kernel), List.mem_of_getElem? (i := 884) (by decide +kernel)⟩
theorem lw_p13 : lw_okq (⟨"ShadowCourtModel", "readParty", "(I)I"⟩, 41) := ⟨⟨by decide +kernel, by decide +kernel⟩, List.mem_of_getElem? (i := 730) (by decide +kernel), List.mem_of_getElem? (i := 887) (by decide +kernel), List.mem_of_getElem? (i := 888) (by decide +kernel)⟩
theorem lw_p14 : lw_okq (⟨"ShadowCourtModel", "isParty", "(I)Z"⟩, 41) := ⟨⟨by decide +kernel, by decide +kernel⟩, List.mem_of_getElem? (i := 730) (by decide +kernel), List.mem_of_getElem? (i := 902) (by decide +kernel), List.mem_of_getElem? (i := 903) (by decide +kernel)⟩
theorem lw_p15 : lw_okq (⟨"ShadowCourtModel", "partyNow", "(II)I"⟩, 41) := ⟨⟨by decide +kernel, by decide +kernel⟩, List.mem_of_getElem? (i := 730) (by decide +kernel), List.mem_of_getElem? (i := 906) (by decide +kernel), List.mem_of_getElem? (i := 907) (by decide +kernel)⟩
def lw_privs_1 : List (MethodName × Nat) := [(⟨"ShadowCourt$Page", "fits", "(I)Z"⟩, 2), (⟨"ShadowCourt$Sight", "isAsSeen", "(LShadowCourt$Court;II)Z"⟩, 1), (⟨"ShadowCourt$Sight", "leftAtWorst", "(II)I"⟩, 1), (⟨"ShadowCourt$Game", "weigh", "(LShadowCourt$Court;III)V"⟩, 6), (⟨"ShadowCourt$Game", "goBackAnHour", "()V"⟩, 6), (⟨"ShadowCourt$Game", "bestStep", "(II)I"⟩, 6), (⟨"ShadowCourt$Game", "afterAStood", "(II)I"⟩, 6), (⟨"ShadowCourt$Docket", "mostFrom", "(II)I"⟩, 4), (⟨"ShadowCourt$Docket", "firstHour", "(III)I"⟩, 4), (⟨"ShadowCourt$Terms", "draw", "(I)I"⟩, 3), (⟨"ShadowCourtModel", "read", "()I"⟩, 41), (⟨"ShadowCourtModel", "isFigure", "(II)Z"⟩, 41), (⟨"ShadowCourtModel", "at", "(I)I"⟩, 41), (⟨"ShadowCourtModel", "readParty", "(I)I"⟩, 41), (⟨"ShadowCourtModel", "isParty", "(I)Z"⟩, 41), (⟨"ShadowCourtModel", "partyNow", "(II)I"⟩, 41)]
theorem lw_r1 : ∀ q ∈ lw_privs_1, lw_okq q := List.forall_mem_cons.mpr ⟨lw_p0, List.forall_mem_cons.mpr ⟨lw_p1, List.forall_mem_cons.mpr ⟨lw_p2, List.forall_mem_cons.mpr ⟨lw_p3, List.forall_mem_cons.mpr ⟨lw_p4, List.forall_mem_cons.mpr ⟨lw_p5, List.forall_mem_cons.mpr ⟨lw_p6, List.forall_mem_cons.mpr ⟨lw_p7, List.forall_mem_cons.mpr ⟨lw_p8, List.forall_mem_cons.mpr ⟨lw_p9, List.forall_mem_cons.mpr ⟨lw_p10, List.forall_mem_cons.mpr ⟨lw_p11, List.forall_mem_cons.mpr ⟨lw_p12, List.forall_mem_cons.mpr ⟨lw_p13, List.forall_mem_cons.mpr ⟨lw_p14, List.forall_mem_cons.mpr ⟨lw_p15, fun _ h => absurd h List.not_mem_nil⟩⟩⟩⟩⟩⟩⟩⟩⟩⟩⟩⟩⟩⟩⟩⟩
theorem lw_p16 : lw_okq (⟨"ShadowCourtModel", "coversIn", "(II)I"⟩, 41) := ⟨⟨by decide +kernel, by decide +kernel⟩, List.mem_of_getElem? (i := 730) (by decide +kernel), List.mem_of_getElem? (i := 910) (by decide +kernel), List.mem_of_getElem? (i := 911) (by decide +kernel)⟩
theorem lw_p17 : lw_okq (⟨"ShadowCourtModel", "coversAt", "(III)I"⟩, 41) := ⟨⟨by decide +kernel, by decide +kernel⟩, List.mem_of_getElem? (i := 730) (by decide +kernel), List.mem_of_getElem? (i := 914) (by decide +kernel), List.mem_of_getElem? (i := 915) (by decide +kernel)⟩
theorem lw_p18 : lw_okq (⟨"ShadowCourtModel", "longBy", "(II)I"⟩, 41) := ⟨⟨by decide +kernel, by decide +kernel⟩, List.mem_of_getElem? (i := 730) (by decide +kernel), List.mem_of_getElem? (i := 918) (by decide +kernel), List.mem_of_getElem? (i := 919) (by decide +kernel)⟩
theorem lw_p19 : lw_okq (⟨"ShadowCourtModel", "worthIn", "(I)I"⟩, 41) := ⟨⟨by decide +kernel, by decide +kernel⟩, List.mem_of_getElem? (i := 730) (by decide +kernel), List.mem_of_getElem? (i := 931) (by decide +kernel), List.mem_of_getElem? (i := 932) (by decide +kernel)⟩
theorem lw_p20 : lw_okq (⟨"ShadowCourtModel", "heightsOf", "(I)I"⟩, 41) := ⟨⟨by decide +kernel, by decide +kernel⟩, List.mem_of_getElem? (i := 730) (by decide +kernel), List.mem_of_getElem? (i := 938) (by decide +kernel), List.mem_of_getElem? (i := 939) (by decide +kernel)⟩
theorem lw_p21 : lw_okq (⟨"ShadowCourtModel", "coversWith", "(IIII)Z"⟩, 41) := ⟨⟨by decide +kernel, by decide +kernel⟩, List.mem_of_getElem? (i := 730) (by decide +kernel), List.mem_of_getElem? (i := 942) (by decide +kernel), List.mem_of_getElem? (i := 943) (by decide +kernel)⟩
theorem lw_p22 : lw_okq (⟨"ShadowCourtModel", "lookFor", "(I)I"⟩, 41) := ⟨⟨by decide +kernel, by decide +kernel⟩, List.mem_of_getElem? (i := 730) (by decide +kernel), List.mem_of_getElem? (i := 946) (by decide +kernel), List.mem_of_getElem? (i := 947) (by decide +kernel)⟩
theorem lw_p23 : lw_okq (⟨"ShadowCourtModel", "worstBy", "(IIII)I"⟩, 41) := ⟨⟨by decide +kernel, by decide +kernel⟩, List.mem_of_getElem? (i := 730) (by decide +kernel), List.mem_of_getElem? (i := 951) (by decide +kernel), List.mem_of_getElem? (i := 952) (by decide +kernel)⟩
theorem lw_p24 : lw_okq (⟨"ShadowCourtModel", "isTile", "(I)Z"⟩, 41) := ⟨⟨by decide +kernel, by decide +kernel⟩, List.mem_of_getElem? (i := 730) (by decide +kernel), List.mem_of_getElem? (i := 970) (by decide +kernel), List.mem_of_getElem? (i := 971) (by decide +kernel)⟩
theorem lw_p25 : lw_okq (⟨"ShadowCourtModel", "tileNow", "(II)I"⟩, 41) := ⟨⟨by decide +kernel, by decide +kernel⟩, List.mem_of_getElem? (i := 730) (by decide +kernel), List.mem_of_getElem? (i := 974) (by decide +kernel), List.mem_of_getElem? (i := 975) (by decide +kernel)⟩
theorem lw_p26 : lw_okq (⟨"ShadowCourtModel", "areTwo", "(II)Z"⟩, 41) := ⟨⟨by decide +kernel, by decide +kernel⟩, List.mem_of_getElem? (i := 730) (by decide +kernel), List.mem_of_getElem? (i := 982) (by decide +kernel), List.mem_of_getElem? (i := 983) (by decide +kernel)⟩
theorem lw_p27 : lw_okq (⟨"ShadowCourtModel", "foundIn", "(III)I"⟩, 41) := ⟨⟨by decide +kernel, by decide +kernel⟩, List.mem_of_getElem? (i := 730) (by decide +kernel), List.mem_of_getElem? (i := 986) (by decide +kernel), List.mem_of_getElem? (i := 987) (by decide +kernel)⟩
theorem lw_p28 : lw_okq (⟨"ShadowCourtModel", "foundBy", "(II)I"⟩, 41) := ⟨⟨by decide +kernel, by decide +kernel⟩, List.mem_of_getElem? (i := 730) (by decide +kernel), List.mem_of_getElem? (i := 990) (by decide +kernel), List.mem_of_getElem? (i := 991) (by decide +kernel)⟩
theorem lw_p29 : lw_okq (⟨"ShadowCourtModel", "gameNow", "(IIII)I"⟩, 41) := ⟨⟨by decide +kernel, by decide +kernel⟩, List.mem_of_getElem? (i := 730) (by decide +kernel), List.mem_of_getElem? (i := 1026) (by decide +kernel), List.mem_of_getElem? (i := 1027) (by decide +kernel)⟩
theorem lw_p30 : lw_okq (⟨"ShadowCourtModel", "layGame", "(III)V"⟩, 41) := ⟨⟨by decide +kernel, by decide +kernel⟩, List.mem_of_getElem? (i := 730) (by decide +kernel), List.mem_of_getElem? (i := 1030) (by decide +kernel), List.mem_of_getElem? (i := 1031) (by decide +kernel)⟩
theorem lw_p31 : lw_okq (⟨"ShadowCourtModel", "bestFrom", "(IIIII)I"⟩, 41) := ⟨⟨by decide +kernel, by decide +kernel⟩, List.mem_of_getElem? (i := 730) (by decide +kernel), List.mem_of_getElem? (i := 1034) (by decide +kernel), List.mem_of_getElem? (i := 1035) (by decide +kernel)⟩
def lw_privs_2 : List (MethodName × Nat) := [(⟨"ShadowCourtModel", "coversIn", "(II)I"⟩, 41), (⟨"ShadowCourtModel", "coversAt", "(III)I"⟩, 41), (⟨"ShadowCourtModel", "longBy", "(II)I"⟩, 41), (⟨"ShadowCourtModel", "worthIn", "(I)I"⟩, 41), (⟨"ShadowCourtModel", "heightsOf", "(I)I"⟩, 41), (⟨"ShadowCourtModel", "coversWith", "(IIII)Z"⟩, 41), (⟨"ShadowCourtModel", "lookFor", "(I)I"⟩, 41), (⟨"ShadowCourtModel", "worstBy", "(IIII)I"⟩, 41), (⟨"ShadowCourtModel", "isTile", "(I)Z"⟩, 41), (⟨"ShadowCourtModel", "tileNow", "(II)I"⟩, 41), (⟨"ShadowCourtModel", "areTwo", "(II)Z"⟩, 41), (⟨"ShadowCourtModel", "foundIn", "(III)I"⟩, 41), (⟨"ShadowCourtModel", "foundBy", "(II)I"⟩, 41), (⟨"ShadowCourtModel", "gameNow", "(IIII)I"⟩, 41), (⟨"ShadowCourtModel", "layGame", "(III)V"⟩, 41), (⟨"ShadowCourtModel", "bestFrom", "(IIIII)I"⟩, 41)]
theorem lw_r2 : ∀ q ∈ lw_privs_2, lw_okq q := List.forall_mem_cons.mpr ⟨lw_p16, List.forall_mem_cons.mpr ⟨lw_p17, List.forall_mem_cons.mpr ⟨lw_p18, List.forall_mem_cons.mpr ⟨lw_p19, List.forall_mem_cons.mpr ⟨lw_p20, List.forall_mem_cons.mpr ⟨lw_p21, List.forall_mem_cons.mpr ⟨lw_p22, List.forall_mem_cons.mpr ⟨lw_p23, List.forall_mem_cons.mpr ⟨lw_p24, List.forall_mem_cons.mpr ⟨lw_p25, List.forall_mem_cons.mpr ⟨lw_p26, List.forall_mem_cons.mpr ⟨lw_p27, List.forall_mem_cons.mpr ⟨lw_p28, List.forall_mem_cons.mpr ⟨lw_p29, List.forall_mem_cons.mpr ⟨lw_p30, List.forall_mem_cons.mpr ⟨lw_p31, fun _ h => absurd h List.not_mem_nil⟩⟩⟩⟩⟩⟩⟩⟩⟩⟩⟩⟩⟩⟩⟩⟩
theorem lw_p32 : lw_okq (⟨"ShadowCourtModel", "answered", "(IIIII)I"⟩, 41) := ⟨⟨by decide +kernel, by decide +kernel⟩, List.mem_of_getElem? (i := 730) (by decide +kernel), List.mem_of_getElem? (i := 1042) (by decide +kernel), List.mem_of_getElem? (i := 1043) (by decide +kernel)⟩
theorem lw_p33 : lw_okq (⟨"ShadowCourtModel", "behind", "(IIIII)I"⟩, 41) := ⟨⟨by decide +kernel, by decide +kernel⟩, List.mem_of_getElem? (i := 730) (by decide +kernel), List.mem_of_getElem? (i := 1046) (by decide +kernel), List.mem_of_getElem? (i := 1047) (by decide +kernel)⟩
theorem lw_p34 : lw_okq (⟨"ShadowCourtModel", "layDocket", "()I"⟩, 41) := ⟨⟨by decide +kernel, by decide +kernel⟩, List.mem_of_getElem? (i := 730) (by decide +kernel), List.mem_of_getElem? (i := 1054) (by decide +kernel), List.mem_of_getElem? (i := 1055) (by decide +kernel)⟩
theorem lw_p35 : lw_okq (⟨"ShadowCourtModel", "layGood", "()V"⟩, 41) := ⟨⟨by decide +kernel, by decide +kernel⟩, List.mem_of_getElem? (i := 730) (by decide +kernel), List.mem_of_getElem? (i := 1058) (by decide +kernel), List.mem_of_getElem? (i := 1059) (by decide +kernel)⟩
theorem lw_p36 : lw_okq (⟨"ShadowCourtModel", "restFrom", "(II)I"⟩, 41) := ⟨⟨by decide +kernel, by decide +kernel⟩, List.mem_of_getElem? (i := 730) (by decide +kernel), List.mem_of_getElem? (i := 1062) (by decide +kernel), List.mem_of_getElem? (i := 1063) (by decide +kernel)⟩
theorem lw_p37 : lw_okq (⟨"ShadowCourtModel", "canBe", "(II)Z"⟩, 41) := ⟨⟨by decide +kernel, by decide +kernel⟩, List.mem_of_getElem? (i := 730) (by decide +kernel), List.mem_of_getElem? (i := 1066) (by decide +kernel), List.mem_of_getElem? (i := 1067) (by decide +kernel)⟩
theorem lw_p38 : lw_okq (⟨"ShadowCourtModel", "hoursFor", "(II)I"⟩, 41) := ⟨⟨by decide +kernel, by decide +kernel⟩, List.mem_of_getElem? (i := 730) (by decide +kernel), List.mem_of_getElem? (i := 1070) (by decide +kernel), List.mem_of_getElem? (i := 1071) (by decide +kernel)⟩
theorem lw_p39 : lw_okq (⟨"ShadowCourtModel", "hourFor", "(III)I"⟩, 41) := ⟨⟨by decide +kernel, by decide +kernel⟩, List.mem_of_getElem? (i := 730) (by decide +kernel), List.mem_of_getElem? (i := 1074) (by decide +kernel), List.mem_of_getElem? (i := 1075) (by decide +kernel)⟩
theorem lw_p40 : lw_okq (⟨"ShadowCourtModel", "oddsNow", "(IIIII)I"⟩, 41) := ⟨⟨by decide +kernel, by decide +kernel⟩, List.mem_of_getElem? (i := 730) (by decide +kernel), List.mem_of_getElem? (i := 1082) (by decide +kernel), List.mem_of_getElem? (i := 1083) (by decide +kernel)⟩
theorem lw_p41 : lw_okq (⟨"ShadowCourtModel", "termsNow", "(III)I"⟩, 41) := ⟨⟨by decide +kernel, by decide +kernel⟩, List.mem_of_getElem? (i := 730) (by decide +kernel), List.mem_of_getElem? (i := 1101) (by decide +kernel), List.mem_of_getElem? (i := 1102) (by decide +kernel)⟩
theorem lw_p42 : lw_okq (⟨"ShadowCourtModel", "draw", "(I)I"⟩, 41) := ⟨⟨by decide +kernel, by decide +kernel⟩, List.mem_of_getElem? (i := 730) (by decide +kernel), List.mem_of_getElem? (i := 1105) (by decide +kernel), List.mem_of_getElem? (i := 1106) (by decide +kernel)⟩
theorem lw_p43 : lw_okq (⟨"ShadowCourtModel", "howMany", "(I)I"⟩, 41) := ⟨⟨by decide +kernel, by decide +kernel⟩, List.mem_of_getElem? (i := 730) (by decide +kernel), List.mem_of_getElem? (i := 1125) (by decide +kernel), List.mem_of_getElem? (i := 1126) (by decide +kernel)⟩
theorem lw_p44 : lw_okq (⟨"ShadowCourtModel", "coveredBy", "(I)I"⟩, 41) := ⟨⟨by decide +kernel, by decide +kernel⟩, List.mem_of_getElem? (i := 730) (by decide +kernel), List.mem_of_getElem? (i := 1129) (by decide +kernel), List.mem_of_getElem? (i := 1130) (by decide +kernel)⟩
theorem lw_p45 : lw_okq (⟨"ShadowCourtModel", "goodCases", "()I"⟩, 41) := ⟨⟨by decide +kernel, by decide +kernel⟩, List.mem_of_getElem? (i := 730) (by decide +kernel), List.mem_of_getElem? (i := 1133) (by decide +kernel), List.mem_of_getElem? (i := 1134) (by decide +kernel)⟩
theorem lw_p46 : lw_okq (⟨"ShadowCourtModel", "mix", "(J)V"⟩, 41) := ⟨⟨by decide +kernel, by decide +kernel⟩, List.mem_of_getElem? (i := 730) (by decide +kernel), List.mem_of_getElem? (i := 1142) (by decide +kernel), List.mem_of_getElem? (i := 1143) (by decide +kernel)⟩
theorem lw_p47 : lw_okq (⟨"ShadowCourtModel", "mixCourt", "()V"⟩, 41) := ⟨⟨by decide +kernel, by decide +kernel⟩, List.mem_of_getElem? (i := 730) (by decide +kernel), List.mem_of_getElem? (i := 1147) (by decide +kernel), List.mem_of_getElem? (i := 1148) (by decide +kernel)⟩
def lw_privs_3 : List (MethodName × Nat) := [(⟨"ShadowCourtModel", "answered", "(IIIII)I"⟩, 41), (⟨"ShadowCourtModel", "behind", "(IIIII)I"⟩, 41), (⟨"ShadowCourtModel", "layDocket", "()I"⟩, 41), (⟨"ShadowCourtModel", "layGood", "()V"⟩, 41), (⟨"ShadowCourtModel", "restFrom", "(II)I"⟩, 41), (⟨"ShadowCourtModel", "canBe", "(II)Z"⟩, 41), (⟨"ShadowCourtModel", "hoursFor", "(II)I"⟩, 41), (⟨"ShadowCourtModel", "hourFor", "(III)I"⟩, 41), (⟨"ShadowCourtModel", "oddsNow", "(IIIII)I"⟩, 41), (⟨"ShadowCourtModel", "termsNow", "(III)I"⟩, 41), (⟨"ShadowCourtModel", "draw", "(I)I"⟩, 41), (⟨"ShadowCourtModel", "howMany", "(I)I"⟩, 41), (⟨"ShadowCourtModel", "coveredBy", "(I)I"⟩, 41), (⟨"ShadowCourtModel", "goodCases", "()I"⟩, 41), (⟨"ShadowCourtModel", "mix", "(J)V"⟩, 41), (⟨"ShadowCourtModel", "mixCourt", "()V"⟩, 41)]
theorem lw_r3 : ∀ q ∈ lw_privs_3, lw_okq q := List.forall_mem_cons.mpr ⟨lw_p32, List.forall_mem_cons.mpr ⟨lw_p33, List.forall_mem_cons.mpr ⟨lw_p34, List.forall_mem_cons.mpr ⟨lw_p35, List.forall_mem_cons.mpr ⟨lw_p36, List.forall_mem_cons.mpr ⟨lw_p37, List.forall_mem_cons.mpr ⟨lw_p38, List.forall_mem_cons.mpr ⟨lw_p39, List.forall_mem_cons.mpr ⟨lw_p40, List.forall_mem_cons.mpr ⟨lw_p41, List.forall_mem_cons.mpr ⟨lw_p42, List.forall_mem_cons.mpr ⟨lw_p43, List.forall_mem_cons.mpr ⟨lw_p44, List.forall_mem_cons.mpr ⟨lw_p45, List.forall_mem_cons.mpr ⟨lw_p46, List.forall_mem_cons.mpr ⟨lw_p47, fun _ h => absurd h List.not_mem_nil⟩⟩⟩⟩⟩⟩⟩⟩⟩⟩⟩⟩⟩⟩⟩⟩
def lw_privs : List (MethodName × Nat) := lw_privs_1 ++ (lw_privs_2 ++ (lw_privs_3))
def lw_tbl : List Cond := k2_sels lw_privs ++ tables_1
theorem lw_privs_ok : ∀ q ∈ lw_privs, lw_okq q := by
  show ∀ q ∈ lw_privs_1 ++ (lw_privs_2 ++ (lw_privs_3)), lw_okq q
  exact List.forall_mem_append.mpr ⟨lw_r1, List.forall_mem_append.mpr ⟨lw_r2, lw_r3⟩⟩
/-! ===== BEGIN printed: names, fields, word lists, decode rows ===== -/
def RX0 : String := "ShadowCourt$Child"
def TX0 : u_T := fun k => match k with
  | 0 => ("ShadowCourt$Kind", "number", "I", true)
  | _ => ("ShadowCourt$Kind", "higher", "I", true)
def tyX0 : Nat → FieldType := fun k => match k with
  | 0 => .int
  | _ => .int
abbrev wsX00 : List Cond := u_ws RX0 TX0 2
theorem nmX0 : ∀ a, a < 2 → ∀ b, b < 2 → a ≠ b → (TX0 a).2.1 ≠ (TX0 b).2.1 := by decide +kernel
theorem tyX0_ok : ∀ k, k < 2 → parseFieldDescriptor (TX0 k).2.2.1 = some (tyX0 k) := by decide +kernel
abbrev cX0_init : ByteArray := prog_2_method_1_code
def yX0_init : MethodName := ⟨RX0, "<init>", "()V"⟩
abbrev cX0_shade : ByteArray := prog_2_method_2_code
def yX0_shade : MethodName := ⟨RX0, "shade", "(III)I"⟩
def RX1 : String := "ShadowCourt$Court"
def TX1 : u_T := fun k => match k with
  | 0 => ("ShadowCourt$Court", "parties", "I", false)
  | 1 => ("ShadowCourt$Court", "kinds", "[LShadowCourt$Kind;", true)
  | 2 => ("ShadowCourt$Court", "high", "[I", true)
  | 3 => ("ShadowCourt$Court", "tile", "[I", true)
  | 4 => ("ShadowCourt$Court", "worth", "[I", true)
  | 5 => ("ShadowCourt$Court", "hour", "I", false)
  | 6 => ("ShadowCourt$Court", "days", "I", false)
  | 7 => ("ShadowCourt$Court", "cases", "I", false)
  | 8 => ("ShadowCourt$Court", "caseFirst", "[I", true)
  | 9 => ("ShadowCourt$Court", "caseOther", "[I", true)
  | 10 => ("ShadowCourt$Court", "seen", "I", false)
  | 11 => ("ShadowCourt$Court", "seenParty", "[I", true)
  | 12 => ("ShadowCourt$Court", "seenHour", "[I", true)
  | 13 => ("ShadowCourt$Court", "seenTile", "[I", true)
  | _ => ("ShadowCourt$Court", "seenCovers", "[I", true)
def tyX1 : Nat → FieldType := fun k => match k with
  | 0 => .int
  | 1 => .array (.object "ShadowCourt$Kind")
  | 2 => .array .int
  | 3 => .array .int
  | 4 => .array .int
  | 5 => .int
  | 6 => .int
  | 7 => .int
  | 8 => .array .int
  | 9 => .array .int
  | 10 => .int
  | 11 => .array .int
  | 12 => .array .int
  | 13 => .array .int
  | _ => .array .int
abbrev wsX10 : List Cond := u_ws RX1 TX1 15
theorem nmX1 : ∀ a, a < 15 → ∀ b, b < 15 → a ≠ b → (TX1 a).2.1 ≠ (TX1 b).2.1 := by decide +kernel
theorem tyX1_ok : ∀ k, k < 15 → parseFieldDescriptor (TX1 k).2.2.1 = some (tyX1 k) := by decide +kernel
abbrev cX1_init : ByteArray := prog_3_method_1_code
def yX1_init : MethodName := ⟨RX1, "<init>", "()V"⟩
abbrev cX1_read : ByteArray := prog_3_method_2_code
def yX1_read : MethodName := ⟨RX1, "read", "(LShadowCourt$Page;)V"⟩
abbrev cX1_keepAllOf : ByteArray := prog_3_method_3_code
def yX1_keepAllOf : MethodName := ⟨RX1, "keepAllOf", "(LShadowCourt$Court;)V"⟩
abbrev cX1_copy : ByteArray := prog_3_method_4_code
def yX1_copy : MethodName := ⟨RX1, "copy", "([I[I)V"⟩
abbrev cX1_isNone : ByteArray := prog_3_method_5_code
def yX1_isNone : MethodName := ⟨RX1, "isNone", "()Z"⟩
abbrev cX1_has : ByteArray := prog_3_method_6_code
def yX1_has : MethodName := ⟨RX1, "has", "(I)Z"⟩
abbrev cX1_hasTwo : ByteArray := prog_3_method_7_code
def yX1_hasTwo : MethodName := ⟨RX1, "hasTwo", "(II)Z"⟩
abbrev cX1_hasTile : ByteArray := prog_3_method_8_code
def yX1_hasTile : MethodName := ⟨RX1, "hasTile", "(I)Z"⟩
abbrev cX1_hoursInAll : ByteArray := prog_3_method_9_code
def yX1_hoursInAll : MethodName := ⟨RX1, "hoursInAll", "()I"⟩
abbrev cX1_shade : ByteArray := prog_3_method_10_code
def yX1_shade : MethodName := ⟨RX1, "shade", "(II)I"⟩
abbrev cX1_shadeIf : ByteArray := prog_3_method_11_code
def yX1_shadeIf : MethodName := ⟨RX1, "shadeIf", "(IIII)I"⟩
abbrev cX1_worthOf : ByteArray := prog_3_method_12_code
def yX1_worthOf : MethodName := ⟨RX1, "worthOf", "(I)I"⟩
abbrev cX1_balance : ByteArray := prog_3_method_13_code
def yX1_balance : MethodName := ⟨RX1, "balance", "(III)I"⟩
abbrev cX1_standingOn : ByteArray := prog_3_method_14_code
def yX1_standingOn : MethodName := ⟨RX1, "standingOn", "(I)I"⟩
abbrev cX1_covering : ByteArray := prog_3_method_15_code
def yX1_covering : MethodName := ⟨RX1, "covering", "(I)I"⟩
abbrev cX1_tilesCoveredBy : ByteArray := prog_3_method_16_code
def yX1_tilesCoveredBy : MethodName := ⟨RX1, "tilesCoveredBy", "(I)I"⟩
abbrev cX1_casesAsTheyShouldBe : ByteArray := prog_3_method_17_code
def yX1_casesAsTheyShouldBe : MethodName := ⟨RX1, "casesAsTheyShouldBe", "()I"⟩
def RX2 : String := "ShadowCourt$Docket"
def TX2 : u_T := fun k => match k with
  | 0 => ("ShadowCourt$Docket", "rightHours", "[I", true)
  | 1 => ("ShadowCourt$Docket", "cases", "I", false)
  | 2 => ("ShadowCourt$Docket", "hourOf", "[I", true)
  | _ => ("ShadowCourt$Docket", "heard", "I", false)
def tyX2 : Nat → FieldType := fun k => match k with
  | 0 => .array .int
  | 1 => .int
  | 2 => .array .int
  | _ => .int
abbrev wsX20 : List Cond := u_ws RX2 TX2 4
theorem nmX2 : ∀ a, a < 4 → ∀ b, b < 4 → a ≠ b → (TX2 a).2.1 ≠ (TX2 b).2.1 := by decide +kernel
theorem tyX2_ok : ∀ k, k < 4 → parseFieldDescriptor (TX2 k).2.2.1 = some (tyX2 k) := by decide +kernel
abbrev cX2_init : ByteArray := prog_4_method_1_code
def yX2_init : MethodName := ⟨RX2, "<init>", "()V"⟩
abbrev cX2_set : ByteArray := prog_4_method_2_code
def yX2_set : MethodName := ⟨RX2, "set", "(LShadowCourt$Court;)V"⟩
abbrev cX2_hoursForFirst : ByteArray := prog_4_method_3_code
def yX2_hoursForFirst : MethodName := ⟨RX2, "hoursForFirst", "(LShadowCourt$Court;II)I"⟩
abbrev cX2_firstHour : ByteArray := prog_4_method_4_code
def yX2_firstHour : MethodName := ⟨RX2, "firstHour", "(III)I"⟩
abbrev cX2_mostFrom : ByteArray := prog_4_method_5_code
def yX2_mostFrom : MethodName := ⟨RX2, "mostFrom", "(II)I"⟩
def RX3 : String := "ShadowCourt$Game"
def TX3 : u_T := fun k => match k with
  | 0 => ("ShadowCourt$Game", "worthA", "[I", true)
  | 1 => ("ShadowCourt$Game", "worthB", "[I", true)
  | 2 => ("ShadowCourt$Game", "ahead", "[I", true)
  | 3 => ("ShadowCourt$Game", "behind", "[I", true)
  | 4 => ("ShadowCourt$Game", "total", "I", false)
  | _ => ("ShadowCourt$Game", "firstStep", "I", false)
def tyX3 : Nat → FieldType := fun k => match k with
  | 0 => .array .int
  | 1 => .array .int
  | 2 => .array .int
  | 3 => .array .int
  | 4 => .int
  | _ => .int
abbrev wsX30 : List Cond := u_ws RX3 TX3 6
theorem nmX3 : ∀ a, a < 6 → ∀ b, b < 6 → a ≠ b → (TX3 a).2.1 ≠ (TX3 b).2.1 := by decide +kernel
theorem tyX3_ok : ∀ k, k < 6 → parseFieldDescriptor (TX3 k).2.2.1 = some (tyX3 k) := by decide +kernel
abbrev cX3_init : ByteArray := prog_5_method_1_code
def yX3_init : MethodName := ⟨RX3, "<init>", "()V"⟩
abbrev cX3_solve : ByteArray := prog_5_method_2_code
def yX3_solve : MethodName := ⟨RX3, "solve", "(LShadowCourt$Court;III)V"⟩
abbrev cX3_weigh : ByteArray := prog_5_method_3_code
def yX3_weigh : MethodName := ⟨RX3, "weigh", "(LShadowCourt$Court;III)V"⟩
abbrev cX3_goBackAnHour : ByteArray := prog_5_method_4_code
def yX3_goBackAnHour : MethodName := ⟨RX3, "goBackAnHour", "()V"⟩
abbrev cX3_bestStep : ByteArray := prog_5_method_5_code
def yX3_bestStep : MethodName := ⟨RX3, "bestStep", "(II)I"⟩
abbrev cX3_afterAStood : ByteArray := prog_5_method_6_code
def yX3_afterAStood : MethodName := ⟨RX3, "afterAStood", "(II)I"⟩
abbrev cX3_mayStand : ByteArray := prog_5_method_7_code
def yX3_mayStand : MethodName := ⟨RX3, "mayStand", "(III)Z"⟩
def RX4 : String := "ShadowCourt$Hat"
def TX4 : u_T := fun k => match k with
  | 0 => ("ShadowCourt$Kind", "number", "I", true)
  | _ => ("ShadowCourt$Kind", "higher", "I", true)
def tyX4 : Nat → FieldType := fun k => match k with
  | 0 => .int
  | _ => .int
abbrev wsX40 : List Cond := u_ws RX4 TX4 2
theorem nmX4 : ∀ a, a < 2 → ∀ b, b < 2 → a ≠ b → (TX4 a).2.1 ≠ (TX4 b).2.1 := by decide +kernel
theorem tyX4_ok : ∀ k, k < 2 → parseFieldDescriptor (TX4 k).2.2.1 = some (tyX4 k) := by decide +kernel
abbrev cX4_init : ByteArray := prog_6_method_1_code
def yX4_init : MethodName := ⟨RX4, "<init>", "()V"⟩
abbrev cX4_init_ : ByteArray := prog_6_method_2_code
def yX4_init_ : MethodName := ⟨RX4, "<init>", "(II)V"⟩
def RX5 : String := "ShadowCourt$Kind"
def TX5 : u_T := fun k => match k with
  | 0 => ("ShadowCourt$Kind", "number", "I", true)
  | _ => ("ShadowCourt$Kind", "higher", "I", true)
def tyX5 : Nat → FieldType := fun k => match k with
  | 0 => .int
  | _ => .int
abbrev wsX50 : List Cond := u_ws RX5 TX5 2
theorem nmX5 : ∀ a, a < 2 → ∀ b, b < 2 → a ≠ b → (TX5 a).2.1 ≠ (TX5 b).2.1 := by decide +kernel
theorem tyX5_ok : ∀ k, k < 2 → parseFieldDescriptor (TX5 k).2.2.1 = some (tyX5 k) := by decide +kernel
abbrev cX5_init : ByteArray := prog_7_method_1_code
def yX5_init : MethodName := ⟨RX5, "<init>", "(II)V"⟩
abbrev cX5_shade : ByteArray := prog_7_method_2_code
def yX5_shade : MethodName := ⟨RX5, "shade", "(III)I"⟩
abbrev cX5_length : ByteArray := prog_7_method_3_code
def yX5_length : MethodName := ⟨RX5, "length", "(II)I"⟩
abbrev cX5_west : ByteArray := prog_7_method_4_code
def yX5_west : MethodName := ⟨RX5, "west", "(II)I"⟩
abbrev cX5_east : ByteArray := prog_7_method_5_code
def yX5_east : MethodName := ⟨RX5, "east", "(II)I"⟩
def RX6 : String := "ShadowCourt$Page"
def TX6 : u_T := fun k => match k with
  | 0 => ("ShadowCourt$Page", "letters", "[C", true)
  | _ => ("ShadowCourt$Page", "length", "I", false)
def tyX6 : Nat → FieldType := fun k => match k with
  | 0 => .array .char
  | _ => .int
abbrev wsX60 : List Cond := u_ws RX6 TX6 2
theorem nmX6 : ∀ a, a < 2 → ∀ b, b < 2 → a ≠ b → (TX6 a).2.1 ≠ (TX6 b).2.1 := by decide +kernel
theorem tyX6_ok : ∀ k, k < 2 → parseFieldDescriptor (TX6 k).2.2.1 = some (tyX6 k) := by decide +kernel
abbrev cX6_init : ByteArray := prog_8_method_1_code
def yX6_init : MethodName := ⟨RX6, "<init>", "()V"⟩
abbrev cX6_firstWrong : ByteArray := prog_8_method_2_code
def yX6_firstWrong : MethodName := ⟨RX6, "firstWrong", "()I"⟩
abbrev cX6_isCourt : ByteArray := prog_8_method_3_code
def yX6_isCourt : MethodName := ⟨RX6, "isCourt", "()Z"⟩
abbrev cX6_hasWholeParties : ByteArray := prog_8_method_4_code
def yX6_hasWholeParties : MethodName := ⟨RX6, "hasWholeParties", "()Z"⟩
abbrev cX6_parties : ByteArray := prog_8_method_5_code
def yX6_parties : MethodName := ⟨RX6, "parties", "()I"⟩
abbrev cX6_digitOf : ByteArray := prog_8_method_6_code
def yX6_digitOf : MethodName := ⟨RX6, "digitOf", "(II)I"⟩
abbrev cX6_kindOf : ByteArray := prog_8_method_7_code
def yX6_kindOf : MethodName := ⟨RX6, "kindOf", "(I)LShadowCourt$Kind;"⟩
abbrev cX6_fits : ByteArray := prog_8_method_8_code
def yX6_fits : MethodName := ⟨RX6, "fits", "(I)Z"⟩
def RX7 : String := "ShadowCourt$Plume"
def TX7 : u_T := fun k => match k with
  | 0 => ("ShadowCourt$Kind", "number", "I", true)
  | _ => ("ShadowCourt$Kind", "higher", "I", true)
def tyX7 : Nat → FieldType := fun k => match k with
  | 0 => .int
  | _ => .int
abbrev wsX70 : List Cond := u_ws RX7 TX7 2
theorem nmX7 : ∀ a, a < 2 → ∀ b, b < 2 → a ≠ b → (TX7 a).2.1 ≠ (TX7 b).2.1 := by decide +kernel
theorem tyX7_ok : ∀ k, k < 2 → parseFieldDescriptor (TX7 k).2.2.1 = some (tyX7 k) := by decide +kernel
abbrev cX7_init : ByteArray := prog_9_method_1_code
def yX7_init : MethodName := ⟨RX7, "<init>", "()V"⟩
def RX8 : String := "ShadowCourt$Sight"
def TX8 : u_T := fun k => match k with
  | _ => ("ShadowCourt$Sight", "shades", "[I", true)
def tyX8 : Nat → FieldType := fun k => match k with
  | _ => .array .int
abbrev wsX80 : List Cond := u_ws RX8 TX8 1
theorem nmX8 : ∀ a, a < 1 → ∀ b, b < 1 → a ≠ b → (TX8 a).2.1 ≠ (TX8 b).2.1 := by decide +kernel
theorem tyX8_ok : ∀ k, k < 1 → parseFieldDescriptor (TX8 k).2.2.1 = some (tyX8 k) := by decide +kernel
abbrev cX8_init : ByteArray := prog_10_method_1_code
def yX8_init : MethodName := ⟨RX8, "<init>", "()V"⟩
abbrev cX8_heights : ByteArray := prog_10_method_2_code
def yX8_heights : MethodName := ⟨RX8, "heights", "(LShadowCourt$Court;I)I"⟩
abbrev cX8_isAsSeen : ByteArray := prog_10_method_3_code
def yX8_isAsSeen : MethodName := ⟨RX8, "isAsSeen", "(LShadowCourt$Court;II)Z"⟩
abbrev cX8_look : ByteArray := prog_10_method_4_code
def yX8_look : MethodName := ⟨RX8, "look", "(LShadowCourt$Court;I)I"⟩
abbrev cX8_leftAtWorst : ByteArray := prog_10_method_5_code
def yX8_leftAtWorst : MethodName := ⟨RX8, "leftAtWorst", "(II)I"⟩
def RX9 : String := "ShadowCourt$Terms"
def TX9 : u_T := fun k => match k with
  | 0 => ("ShadowCourt$Terms", "seed", "J", false)
  | 1 => ("ShadowCourt$Terms", "forFirst", "I", false)
  | _ => ("ShadowCourt$Terms", "stayed", "I", false)
def tyX9 : Nat → FieldType := fun k => match k with
  | 0 => .long
  | 1 => .int
  | _ => .int
abbrev wsX90 : List Cond := u_ws RX9 TX9 3
theorem nmX9 : ∀ a, a < 3 → ∀ b, b < 3 → a ≠ b → (TX9 a).2.1 ≠ (TX9 b).2.1 := by decide +kernel
theorem tyX9_ok : ∀ k, k < 3 → parseFieldDescriptor (TX9 k).2.2.1 = some (tyX9 k) := by decide +kernel
abbrev cX9_init : ByteArray := prog_11_method_1_code
def yX9_init : MethodName := ⟨RX9, "<init>", "()V"⟩
abbrev cX9_hold : ByteArray := prog_11_method_2_code
def yX9_hold : MethodName := ⟨RX9, "hold", "(LShadowCourt$Court;II)V"⟩
abbrev cX9_draw : ByteArray := prog_11_method_3_code
def yX9_draw : MethodName := ⟨RX9, "draw", "(I)I"⟩
def RX10 : String := "ShadowCourt$Thin"
def TX10 : u_T := fun k => match k with
  | 0 => ("ShadowCourt$Kind", "number", "I", true)
  | _ => ("ShadowCourt$Kind", "higher", "I", true)
def tyX10 : Nat → FieldType := fun k => match k with
  | 0 => .int
  | _ => .int
abbrev wsX100 : List Cond := u_ws RX10 TX10 2
theorem nmX10 : ∀ a, a < 2 → ∀ b, b < 2 → a ≠ b → (TX10 a).2.1 ≠ (TX10 b).2.1 := by decide +kernel
theorem tyX10_ok : ∀ k, k < 2 → parseFieldDescriptor (TX10 k).2.2.1 = some (tyX10 k) := by decide +kernel
abbrev cX10_init : ByteArray := prog_12_method_1_code
def yX10_init : MethodName := ⟨RX10, "<init>", "()V"⟩
abbrev cX10_shade : ByteArray := prog_12_method_2_code
def yX10_shade : MethodName := ⟨RX10, "shade", "(III)I"⟩
def RX11 : String := "ShadowCourt"
def TX11 : u_T := fun k => match k with
  | 0 => ("ShadowCourt", "page", "LShadowCourt$Page;", true)
  | 1 => ("ShadowCourt", "now", "LShadowCourt$Court;", true)
  | 2 => ("ShadowCourt", "kept", "LShadowCourt$Court;", true)
  | 3 => ("ShadowCourt", "sight", "LShadowCourt$Sight;", true)
  | 4 => ("ShadowCourt", "play", "LShadowCourt$Game;", true)
  | 5 => ("ShadowCourt", "list", "LShadowCourt$Docket;", true)
  | 6 => ("ShadowCourt", "draws", "LShadowCourt$Terms;", true)
  | 7 => ("ShadowCourt", "isKept", "Z", false)
  | _ => ("ShadowCourt", "courts", "I", false)
def tyX11 : Nat → FieldType := fun k => match k with
  | 0 => .object "ShadowCourt$Page"
  | 1 => .object "ShadowCourt$Court"
  | 2 => .object "ShadowCourt$Court"
  | 3 => .object "ShadowCourt$Sight"
  | 4 => .object "ShadowCourt$Game"
  | 5 => .object "ShadowCourt$Docket"
  | 6 => .object "ShadowCourt$Terms"
  | 7 => .boolean
  | _ => .int
abbrev wsX110 : List Cond := u_ws RX11 TX11 9
theorem nmX11 : ∀ a, a < 9 → ∀ b, b < 9 → a ≠ b → (TX11 a).2.1 ≠ (TX11 b).2.1 := by decide +kernel
theorem tyX11_ok : ∀ k, k < 9 → parseFieldDescriptor (TX11 k).2.2.1 = some (tyX11 k) := by decide +kernel
abbrev cX11_init : ByteArray := prog_1_method_1_code
def yX11_init : MethodName := ⟨RX11, "<init>", "()V"⟩
abbrev cX11_letter : ByteArray := prog_1_method_2_code
def yX11_letter : MethodName := ⟨RX11, "letter", "(I)I"⟩
abbrev cX11_blank : ByteArray := prog_1_method_3_code
def yX11_blank : MethodName := ⟨RX11, "blank", "()I"⟩
abbrev cX11_fault : ByteArray := prog_1_method_4_code
def yX11_fault : MethodName := ⟨RX11, "fault", "()I"⟩
abbrev cX11_court : ByteArray := prog_1_method_5_code
def yX11_court : MethodName := ⟨RX11, "court", "()I"⟩
abbrev cX11_party : ByteArray := prog_1_method_6_code
def yX11_party : MethodName := ⟨RX11, "party", "(II)I"⟩
abbrev cX11_as : ByteArray := prog_1_method_7_code
def yX11_as : MethodName := ⟨RX11, "as", "(II)I"⟩
abbrev cX11_covers : ByteArray := prog_1_method_8_code
def yX11_covers : MethodName := ⟨RX11, "covers", "(II)I"⟩
abbrev cX11_tile : ByteArray := prog_1_method_9_code
def yX11_tile : MethodName := ⟨RX11, "tile", "(II)I"⟩
abbrev cX11_found : ByteArray := prog_1_method_10_code
def yX11_found : MethodName := ⟨RX11, "found", "(III)I"⟩
abbrev cX11_tick : ByteArray := prog_1_method_11_code
def yX11_tick : MethodName := ⟨RX11, "tick", "()I"⟩
abbrev cX11_step : ByteArray := prog_1_method_12_code
def yX11_step : MethodName := ⟨RX11, "step", "(II)I"⟩
abbrev cX11_stand : ByteArray := prog_1_method_13_code
def yX11_stand : MethodName := ⟨RX11, "stand", "(II)I"⟩
abbrev cX11_rise : ByteArray := prog_1_method_14_code
def yX11_rise : MethodName := ⟨RX11, "rise", "(II)I"⟩
abbrev cX11_lay : ByteArray := prog_1_method_15_code
def yX11_lay : MethodName := ⟨RX11, "lay", "(II)I"⟩
abbrev cX11_file : ByteArray := prog_1_method_16_code
def yX11_file : MethodName := ⟨RX11, "file", "(II)I"⟩
abbrev cX11_settle : ByteArray := prog_1_method_17_code
def yX11_settle : MethodName := ⟨RX11, "settle", "()I"⟩
abbrev cX11_game : ByteArray := prog_1_method_18_code
def yX11_game : MethodName := ⟨RX11, "game", "(IIII)I"⟩
abbrev cX11_docket : ByteArray := prog_1_method_19_code
def yX11_docket : MethodName := ⟨RX11, "docket", "(I)I"⟩
abbrev cX11_odds : ByteArray := prog_1_method_20_code
def yX11_odds : MethodName := ⟨RX11, "odds", "(IIIII)I"⟩
abbrev cX11_see : ByteArray := prog_1_method_21_code
def yX11_see : MethodName := ⟨RX11, "see", "(IIIZ)I"⟩
abbrev cX11_forget : ByteArray := prog_1_method_22_code
def yX11_forget : MethodName := ⟨RX11, "forget", "()I"⟩
abbrev cX11_terms : ByteArray := prog_1_method_23_code
def yX11_terms : MethodName := ⟨RX11, "terms", "(III)I"⟩
abbrev cX11_image : ByteArray := prog_1_method_24_code
def yX11_image : MethodName := ⟨RX11, "image", "()I"⟩
abbrev cX11_restore : ByteArray := prog_1_method_25_code
def yX11_restore : MethodName := ⟨RX11, "restore", "()I"⟩
abbrev cX11_count : ByteArray := prog_1_method_26_code
def yX11_count : MethodName := ⟨RX11, "count", "(I)I"⟩
abbrev cX11_digest : ByteArray := prog_1_method_27_code
def yX11_digest : MethodName := ⟨RX11, "digest", "()J"⟩
abbrev cX11_inLowestTerms : ByteArray := prog_1_method_28_code
def yX11_inLowestTerms : MethodName := ⟨RX11, "inLowestTerms", "(IIZ)I"⟩
abbrev cX11_within : ByteArray := prog_1_method_29_code
def yX11_within : MethodName := ⟨RX11, "within", "(III)Z"⟩
abbrev cX11_isTile : ByteArray := prog_1_method_30_code
def yX11_isTile : MethodName := ⟨RX11, "isTile", "(I)Z"⟩
abbrev cX11_isHour : ByteArray := prog_1_method_31_code
def yX11_isHour : MethodName := ⟨RX11, "isHour", "(I)Z"⟩
def RX12 : String := "ShadowCourtModel"
def TX12 : u_T := fun k => match k with
  | 0 => ("ShadowCourtModel", "courts", "I", false)
  | 1 => ("ShadowCourtModel", "parties", "I", false)
  | 2 => ("ShadowCourtModel", "worthOf", "[I", true)
  | 3 => ("ShadowCourtModel", "kindOf", "[I", true)
  | 4 => ("ShadowCourtModel", "highOf", "[I", true)
  | 5 => ("ShadowCourtModel", "tileOf", "[I", true)
  | 6 => ("ShadowCourtModel", "hour", "I", false)
  | 7 => ("ShadowCourtModel", "days", "I", false)
  | 8 => ("ShadowCourtModel", "cases", "I", false)
  | 9 => ("ShadowCourtModel", "caseOne", "[I", true)
  | 10 => ("ShadowCourtModel", "caseOther", "[I", true)
  | 11 => ("ShadowCourtModel", "seen", "I", false)
  | 12 => ("ShadowCourtModel", "seenParty", "[I", true)
  | 13 => ("ShadowCourtModel", "seenHour", "[I", true)
  | 14 => ("ShadowCourtModel", "seenTile", "[I", true)
  | 15 => ("ShadowCourtModel", "seenCovers", "[I", true)
  | 16 => ("ShadowCourtModel", "pageLength", "I", false)
  | 17 => ("ShadowCourtModel", "page", "[B", true)
  | 18 => ("ShadowCourtModel", "isWhole", "Z", false)
  | 19 => ("ShadowCourtModel", "newParties", "I", false)
  | 20 => ("ShadowCourtModel", "gameBy", "[I", true)
  | 21 => ("ShadowCourtModel", "gameNext", "[I", true)
  | 22 => ("ShadowCourtModel", "goodOf", "[I", true)
  | 23 => ("ShadowCourtModel", "hourOf", "[I", true)
  | 24 => ("ShadowCourtModel", "seedNow", "J", false)
  | 25 => ("ShadowCourtModel", "isKept", "Z", false)
  | 26 => ("ShadowCourtModel", "keptCourt", "I", false)
  | 27 => ("ShadowCourtModel", "keptHour", "I", false)
  | 28 => ("ShadowCourtModel", "keptDays", "I", false)
  | 29 => ("ShadowCourtModel", "keptCases", "I", false)
  | 30 => ("ShadowCourtModel", "keptSeen", "I", false)
  | 31 => ("ShadowCourtModel", "keptWorth", "[I", true)
  | 32 => ("ShadowCourtModel", "keptHigh", "[I", true)
  | 33 => ("ShadowCourtModel", "keptTile", "[I", true)
  | 34 => ("ShadowCourtModel", "keptOne", "[I", true)
  | 35 => ("ShadowCourtModel", "keptOther", "[I", true)
  | 36 => ("ShadowCourtModel", "keptParty", "[I", true)
  | 37 => ("ShadowCourtModel", "keptSeenHour", "[I", true)
  | 38 => ("ShadowCourtModel", "keptSeenTile", "[I", true)
  | 39 => ("ShadowCourtModel", "keptCovers", "[I", true)
  | _ => ("ShadowCourtModel", "h", "J", false)
def tyX12 : Nat → FieldType := fun k => match k with
  | 0 => .int
  | 1 => .int
  | 2 => .array .int
  | 3 => .array .int
  | 4 => .array .int
  | 5 => .array .int
  | 6 => .int
  | 7 => .int
  | 8 => .int
  | 9 => .array .int
  | 10 => .array .int
  | 11 => .int
  | 12 => .array .int
  | 13 => .array .int
  | 14 => .array .int
  | 15 => .array .int
  | 16 => .int
  | 17 => .array .byte
  | 18 => .boolean
  | 19 => .int
  | 20 => .array .int
  | 21 => .array .int
  | 22 => .array .int
  | 23 => .array .int
  | 24 => .long
  | 25 => .boolean
  | 26 => .int
  | 27 => .int
  | 28 => .int
  | 29 => .int
  | 30 => .int
  | 31 => .array .int
  | 32 => .array .int
  | 33 => .array .int
  | 34 => .array .int
  | 35 => .array .int
  | 36 => .array .int
  | 37 => .array .int
  | 38 => .array .int
  | 39 => .array .int
  | _ => .long
abbrev wsX120 : List Cond := u_ws RX12 TX12 41
theorem nmX12 : ∀ a, a < 41 → ∀ b, b < 41 → a ≠ b → (TX12 a).2.1 ≠ (TX12 b).2.1 := by decide +kernel
theorem tyX12_ok : ∀ k, k < 41 → parseFieldDescriptor (TX12 k).2.2.1 = some (tyX12 k) := by decide +kernel
abbrev cX12_init : ByteArray := prog_14_method_1_code
def yX12_init : MethodName := ⟨RX12, "<init>", "()V"⟩
abbrev cX12_within : ByteArray := prog_14_method_3_code
def yX12_within : MethodName := ⟨RX12, "within", "(III)Z"⟩
abbrev cX12_isIn : ByteArray := prog_14_method_4_code
def yX12_isIn : MethodName := ⟨RX12, "isIn", "(II)Z"⟩
abbrev cX12_size : ByteArray := prog_14_method_5_code
def yX12_size : MethodName := ⟨RX12, "size", "(I)I"⟩
abbrev cX12_divisor : ByteArray := prog_14_method_6_code
def yX12_divisor : MethodName := ⟨RX12, "divisor", "(II)I"⟩
abbrev cX12_letter : ByteArray := prog_14_method_7_code
def yX12_letter : MethodName := ⟨RX12, "letter", "(I)I"⟩
abbrev cX12_blank : ByteArray := prog_14_method_8_code
def yX12_blank : MethodName := ⟨RX12, "blank", "()I"⟩
abbrev cX12_kindBy : ByteArray := prog_14_method_9_code
def yX12_kindBy : MethodName := ⟨RX12, "kindBy", "(I)I"⟩
abbrev cX12_at : ByteArray := prog_14_method_10_code
def yX12_at : MethodName := ⟨RX12, "at", "(I)I"⟩
abbrev cX12_isFigure : ByteArray := prog_14_method_11_code
def yX12_isFigure : MethodName := ⟨RX12, "isFigure", "(II)Z"⟩
abbrev cX12_readParty : ByteArray := prog_14_method_12_code
def yX12_readParty : MethodName := ⟨RX12, "readParty", "(I)I"⟩
abbrev cX12_read : ByteArray := prog_14_method_13_code
def yX12_read : MethodName := ⟨RX12, "read", "()I"⟩
abbrev cX12_fault : ByteArray := prog_14_method_14_code
def yX12_fault : MethodName := ⟨RX12, "fault", "()I"⟩
abbrev cX12_court : ByteArray := prog_14_method_15_code
def yX12_court : MethodName := ⟨RX12, "court", "()I"⟩
abbrev cX12_isParty : ByteArray := prog_14_method_16_code
def yX12_isParty : MethodName := ⟨RX12, "isParty", "(I)Z"⟩
abbrev cX12_areTwo : ByteArray := prog_14_method_17_code
def yX12_areTwo : MethodName := ⟨RX12, "areTwo", "(II)Z"⟩
abbrev cX12_isTile : ByteArray := prog_14_method_18_code
def yX12_isTile : MethodName := ⟨RX12, "isTile", "(I)Z"⟩
abbrev cX12_longBy : ByteArray := prog_14_method_19_code
def yX12_longBy : MethodName := ⟨RX12, "longBy", "(II)I"⟩
abbrev cX12_west : ByteArray := prog_14_method_20_code
def yX12_west : MethodName := ⟨RX12, "west", "(II)I"⟩
abbrev cX12_east : ByteArray := prog_14_method_21_code
def yX12_east : MethodName := ⟨RX12, "east", "(II)I"⟩
abbrev cX12_lastOf : ByteArray := prog_14_method_22_code
def yX12_lastOf : MethodName := ⟨RX12, "lastOf", "(IIZ)I"⟩
abbrev cX12_coversAt : ByteArray := prog_14_method_23_code
def yX12_coversAt : MethodName := ⟨RX12, "coversAt", "(III)I"⟩
abbrev cX12_coversIn : ByteArray := prog_14_method_24_code
def yX12_coversIn : MethodName := ⟨RX12, "coversIn", "(II)I"⟩
abbrev cX12_worthIn : ByteArray := prog_14_method_25_code
def yX12_worthIn : MethodName := ⟨RX12, "worthIn", "(I)I"⟩
abbrev cX12_foundBy : ByteArray := prog_14_method_26_code
def yX12_foundBy : MethodName := ⟨RX12, "foundBy", "(II)I"⟩
abbrev cX12_foundIn : ByteArray := prog_14_method_27_code
def yX12_foundIn : MethodName := ⟨RX12, "foundIn", "(III)I"⟩
abbrev cX12_partyNow : ByteArray := prog_14_method_28_code
def yX12_partyNow : MethodName := ⟨RX12, "partyNow", "(II)I"⟩
abbrev cX12_party : ByteArray := prog_14_method_29_code
def yX12_party : MethodName := ⟨RX12, "party", "(II)I"⟩
abbrev cX12_as : ByteArray := prog_14_method_30_code
def yX12_as : MethodName := ⟨RX12, "as", "(II)I"⟩
abbrev cX12_covers : ByteArray := prog_14_method_31_code
def yX12_covers : MethodName := ⟨RX12, "covers", "(II)I"⟩
abbrev cX12_tileNow : ByteArray := prog_14_method_32_code
def yX12_tileNow : MethodName := ⟨RX12, "tileNow", "(II)I"⟩
abbrev cX12_tile : ByteArray := prog_14_method_33_code
def yX12_tile : MethodName := ⟨RX12, "tile", "(II)I"⟩
abbrev cX12_found : ByteArray := prog_14_method_34_code
def yX12_found : MethodName := ⟨RX12, "found", "(III)I"⟩
abbrev cX12_tick : ByteArray := prog_14_method_35_code
def yX12_tick : MethodName := ⟨RX12, "tick", "()I"⟩
abbrev cX12_step : ByteArray := prog_14_method_36_code
def yX12_step : MethodName := ⟨RX12, "step", "(II)I"⟩
abbrev cX12_stand : ByteArray := prog_14_method_37_code
def yX12_stand : MethodName := ⟨RX12, "stand", "(II)I"⟩
abbrev cX12_rise : ByteArray := prog_14_method_38_code
def yX12_rise : MethodName := ⟨RX12, "rise", "(II)I"⟩
abbrev cX12_lay : ByteArray := prog_14_method_39_code
def yX12_lay : MethodName := ⟨RX12, "lay", "(II)I"⟩
abbrev cX12_file : ByteArray := prog_14_method_40_code
def yX12_file : MethodName := ⟨RX12, "file", "(II)I"⟩
abbrev cX12_settle : ByteArray := prog_14_method_41_code
def yX12_settle : MethodName := ⟨RX12, "settle", "()I"⟩
abbrev cX12_mayStep : ByteArray := prog_14_method_42_code
def yX12_mayStep : MethodName := ⟨RX12, "mayStep", "(III)Z"⟩
abbrev cX12_behind : ByteArray := prog_14_method_43_code
def yX12_behind : MethodName := ⟨RX12, "behind", "(IIIII)I"⟩
abbrev cX12_answered : ByteArray := prog_14_method_44_code
def yX12_answered : MethodName := ⟨RX12, "answered", "(IIIII)I"⟩
abbrev cX12_bestFrom : ByteArray := prog_14_method_45_code
def yX12_bestFrom : MethodName := ⟨RX12, "bestFrom", "(IIIII)I"⟩
abbrev cX12_layGame : ByteArray := prog_14_method_46_code
def yX12_layGame : MethodName := ⟨RX12, "layGame", "(III)V"⟩
abbrev cX12_gameNow : ByteArray := prog_14_method_47_code
def yX12_gameNow : MethodName := ⟨RX12, "gameNow", "(IIII)I"⟩
abbrev cX12_game : ByteArray := prog_14_method_48_code
def yX12_game : MethodName := ⟨RX12, "game", "(IIII)I"⟩
abbrev cX12_layGood : ByteArray := prog_14_method_49_code
def yX12_layGood : MethodName := ⟨RX12, "layGood", "()V"⟩
abbrev cX12_hoursFor : ByteArray := prog_14_method_50_code
def yX12_hoursFor : MethodName := ⟨RX12, "hoursFor", "(II)I"⟩
abbrev cX12_canBe : ByteArray := prog_14_method_51_code
def yX12_canBe : MethodName := ⟨RX12, "canBe", "(II)Z"⟩
abbrev cX12_restFrom : ByteArray := prog_14_method_52_code
def yX12_restFrom : MethodName := ⟨RX12, "restFrom", "(II)I"⟩
abbrev cX12_hourFor : ByteArray := prog_14_method_53_code
def yX12_hourFor : MethodName := ⟨RX12, "hourFor", "(III)I"⟩
abbrev cX12_layDocket : ByteArray := prog_14_method_54_code
def yX12_layDocket : MethodName := ⟨RX12, "layDocket", "()I"⟩
abbrev cX12_docket : ByteArray := prog_14_method_55_code
def yX12_docket : MethodName := ⟨RX12, "docket", "(I)I"⟩
abbrev cX12_oddsNow : ByteArray := prog_14_method_56_code
def yX12_oddsNow : MethodName := ⟨RX12, "oddsNow", "(IIIII)I"⟩
abbrev cX12_odds : ByteArray := prog_14_method_57_code
def yX12_odds : MethodName := ⟨RX12, "odds", "(IIIII)I"⟩
abbrev cX12_see : ByteArray := prog_14_method_58_code
def yX12_see : MethodName := ⟨RX12, "see", "(IIIZ)I"⟩
abbrev cX12_forget : ByteArray := prog_14_method_59_code
def yX12_forget : MethodName := ⟨RX12, "forget", "()I"⟩
abbrev cX12_coversWith : ByteArray := prog_14_method_60_code
def yX12_coversWith : MethodName := ⟨RX12, "coversWith", "(IIII)Z"⟩
abbrev cX12_heightsOf : ByteArray := prog_14_method_61_code
def yX12_heightsOf : MethodName := ⟨RX12, "heightsOf", "(I)I"⟩
abbrev cX12_worstBy : ByteArray := prog_14_method_62_code
def yX12_worstBy : MethodName := ⟨RX12, "worstBy", "(IIII)I"⟩
abbrev cX12_lookFor : ByteArray := prog_14_method_63_code
def yX12_lookFor : MethodName := ⟨RX12, "lookFor", "(I)I"⟩
abbrev cX12_draw : ByteArray := prog_14_method_64_code
def yX12_draw : MethodName := ⟨RX12, "draw", "(I)I"⟩
abbrev cX12_termsNow : ByteArray := prog_14_method_65_code
def yX12_termsNow : MethodName := ⟨RX12, "termsNow", "(III)I"⟩
abbrev cX12_terms : ByteArray := prog_14_method_66_code
def yX12_terms : MethodName := ⟨RX12, "terms", "(III)I"⟩
abbrev cX12_image : ByteArray := prog_14_method_67_code
def yX12_image : MethodName := ⟨RX12, "image", "()I"⟩
abbrev cX12_restore : ByteArray := prog_14_method_68_code
def yX12_restore : MethodName := ⟨RX12, "restore", "()I"⟩
abbrev cX12_coveredBy : ByteArray := prog_14_method_69_code
def yX12_coveredBy : MethodName := ⟨RX12, "coveredBy", "(I)I"⟩
abbrev cX12_goodCases : ByteArray := prog_14_method_70_code
def yX12_goodCases : MethodName := ⟨RX12, "goodCases", "()I"⟩
abbrev cX12_howMany : ByteArray := prog_14_method_71_code
def yX12_howMany : MethodName := ⟨RX12, "howMany", "(I)I"⟩
abbrev cX12_count : ByteArray := prog_14_method_72_code
def yX12_count : MethodName := ⟨RX12, "count", "(I)I"⟩
abbrev cX12_mix : ByteArray := prog_14_method_73_code
def yX12_mix : MethodName := ⟨RX12, "mix", "(J)V"⟩
abbrev cX12_mixCourt : ByteArray := prog_14_method_74_code
def yX12_mixCourt : MethodName := ⟨RX12, "mixCourt", "()V"⟩
abbrev cX12_digest : ByteArray := prog_14_method_75_code
def yX12_digest : MethodName := ⟨RX12, "digest", "()J"⟩
def RJ11 : String := "java/lang/Character"
def TJ11 : u_T := fun k => match k with
  | _ => ("", "", "", false)
def tyJ11 : Nat → FieldType := fun k => match k with
  | _ => .int
abbrev wsJ110 : List Cond := u_ws RJ11 TJ11 0
theorem nmJ11 : ∀ a, a < 0 → ∀ b, b < 0 → a ≠ b → (TJ11 a).2.1 ≠ (TJ11 b).2.1 := by decide +kernel
theorem tyJ11_ok : ∀ k, k < 0 → parseFieldDescriptor (TJ11 k).2.2.1 = some (tyJ11 k) := by decide +kernel
abbrev cJ11_isValidCodePoint_9a6ad : ByteArray := prog_15_method_11_code
def yJ11_isValidCodePoint_9a6ad : MethodName := ⟨RJ11, "isValidCodePoint", "(I)Z"⟩
abbrev cJ11_highSurrogate_5068e : ByteArray := prog_15_method_28_code
def yJ11_highSurrogate_5068e : MethodName := ⟨RJ11, "highSurrogate", "(I)C"⟩
abbrev cJ11_lowSurrogate_5068e : ByteArray := prog_15_method_29_code
def yJ11_lowSurrogate_5068e : MethodName := ⟨RJ11, "lowSurrogate", "(I)C"⟩
def RJ6 : String := "java/lang/Integer"
def TJ6 : u_T := fun k => match k with
  | _ => ("", "", "", false)
def tyJ6 : Nat → FieldType := fun k => match k with
  | _ => .int
abbrev wsJ60 : List Cond := u_ws RJ6 TJ6 0
theorem nmJ6 : ∀ a, a < 0 → ∀ b, b < 0 → a ≠ b → (TJ6 a).2.1 ≠ (TJ6 b).2.1 := by decide +kernel
theorem tyJ6_ok : ∀ k, k < 0 → parseFieldDescriptor (TJ6 k).2.2.1 = some (tyJ6 k) := by decide +kernel
abbrev cJ6_bitCount_0f7a4 : ByteArray := prog_16_method_49_code
def yJ6_bitCount_0f7a4 : MethodName := ⟨RJ6, "bitCount", "(I)I"⟩
def RJ9 : String := "java/lang/Math"
def TJ9 : u_T := fun k => match k with
  | _ => ("", "", "", false)
def tyJ9 : Nat → FieldType := fun k => match k with
  | _ => .int
abbrev wsJ90 : List Cond := u_ws RJ9 TJ9 0
theorem nmJ9 : ∀ a, a < 0 → ∀ b, b < 0 → a ≠ b → (TJ9 a).2.1 ≠ (TJ9 b).2.1 := by decide +kernel
theorem tyJ9_ok : ∀ k, k < 0 → parseFieldDescriptor (TJ9 k).2.2.1 = some (tyJ9 k) := by decide +kernel
abbrev cJ9_max_7cf53 : ByteArray := prog_17_method_65_code
def yJ9_max_7cf53 : MethodName := ⟨RJ9, "max", "(II)I"⟩
abbrev cJ9_min_7cf53 : ByteArray := prog_17_method_69_code
def yJ9_min_7cf53 : MethodName := ⟨RJ9, "min", "(II)I"⟩
def RJ0 : String := "java/lang/String"
def TJ0 : u_T := fun k => match k with
  | _ => ("", "", "", false)
def tyJ0 : Nat → FieldType := fun k => match k with
  | _ => .int
abbrev wsJ00 : List Cond := u_ws RJ0 TJ0 0
theorem nmJ0 : ∀ a, a < 0 → ∀ b, b < 0 → a ≠ b → (TJ0 a).2.1 ≠ (TJ0 b).2.1 := by decide +kernel
theorem tyJ0_ok : ∀ k, k < 0 → parseFieldDescriptor (TJ0 k).2.2.1 = some (tyJ0 k) := by decide +kernel
abbrev cJ0_length_8abf5 : ByteArray := prog_18_method_54_code
def yJ0_length_8abf5 : MethodName := ⟨RJ0, "length", "()I"⟩
abbrev cJ0_indexOf_0f7a4 : ByteArray := prog_18_method_79_code
def yJ0_indexOf_0f7a4 : MethodName := ⟨RJ0, "indexOf", "(I)I"⟩
abbrev cJ0_indexOf_7cf53 : ByteArray := prog_18_method_80_code
def yJ0_indexOf_7cf53 : MethodName := ⟨RJ0, "indexOf", "(II)I"⟩
abbrev cJ0_coder_7d493 : ByteArray := prog_18_method_152_code
def yJ0_coder_7d493 : MethodName := ⟨RJ0, "coder", "()B"⟩
abbrev cJ0_isLatin1_aae02 : ByteArray := prog_18_method_154_code
def yJ0_isLatin1_aae02 : MethodName := ⟨RJ0, "isLatin1", "()Z"⟩
abbrev cJ0_checkBoundsBeginEnd_23922 : ByteArray := prog_18_method_158_code
def yJ0_checkBoundsBeginEnd_23922 : MethodName := ⟨RJ0, "checkBoundsBeginEnd", "(III)V"⟩
def RJ1 : String := "java/lang/StringLatin1"
def TJ1 : u_T := fun k => match k with
  | _ => ("", "", "", false)
def tyJ1 : Nat → FieldType := fun k => match k with
  | _ => .int
abbrev wsJ10 : List Cond := u_ws RJ1 TJ1 0
theorem nmJ1 : ∀ a, a < 0 → ∀ b, b < 0 → a ≠ b → (TJ1 a).2.1 ≠ (TJ1 b).2.1 := by decide +kernel
theorem tyJ1_ok : ∀ k, k < 0 → parseFieldDescriptor (TJ1 k).2.2.1 = some (tyJ1 k) := by decide +kernel
abbrev cJ1_canEncode_9a6ad : ByteArray := prog_19_method_4_code
def yJ1_canEncode_9a6ad : MethodName := ⟨RJ1, "canEncode", "(I)Z"⟩
abbrev cJ1_indexOf_4cfef : ByteArray := prog_19_method_22_code
def yJ1_indexOf_4cfef : MethodName := ⟨RJ1, "indexOf", "([BIII)I"⟩
abbrev cJ1_indexOfChar_4cfef : ByteArray := prog_19_method_23_code
def yJ1_indexOfChar_4cfef : MethodName := ⟨RJ1, "indexOfChar", "([BIII)I"⟩
def RJ2 : String := "java/lang/StringUTF16"
def TJ2 : u_T := fun k => match k with
  | _ => ("", "", "", false)
def tyJ2 : Nat → FieldType := fun k => match k with
  | _ => .int
abbrev wsJ20 : List Cond := u_ws RJ2 TJ2 0
theorem nmJ2 : ∀ a, a < 0 → ∀ b, b < 0 → a ≠ b → (TJ2 a).2.1 ≠ (TJ2 b).2.1 := by decide +kernel
theorem tyJ2_ok : ∀ k, k < 0 → parseFieldDescriptor (TJ2 k).2.2.1 = some (tyJ2 k) := by decide +kernel
abbrev cJ2_getChar_3b067 : ByteArray := prog_20_method_5_code
def yJ2_getChar_3b067 : MethodName := ⟨RJ2, "getChar", "([BI)C"⟩
abbrev cJ2_length_9d52b : ByteArray := prog_20_method_6_code
def yJ2_length_9d52b : MethodName := ⟨RJ2, "length", "([B)I"⟩
abbrev cJ2_indexOf_4cfef : ByteArray := prog_20_method_40_code
def yJ2_indexOf_4cfef : MethodName := ⟨RJ2, "indexOf", "([BIII)I"⟩
abbrev cJ2_indexOfChar_4cfef : ByteArray := prog_20_method_47_code
def yJ2_indexOfChar_4cfef : MethodName := ⟨RJ2, "indexOfChar", "([BIII)I"⟩
abbrev cJ2_indexOfCharUnsafe_4cfef : ByteArray := prog_20_method_48_code
def yJ2_indexOfCharUnsafe_4cfef : MethodName := ⟨RJ2, "indexOfCharUnsafe", "([BIII)I"⟩
abbrev cJ2_indexOfSupplementary_4cfef : ByteArray := prog_20_method_49_code
def yJ2_indexOfSupplementary_4cfef : MethodName := ⟨RJ2, "indexOfSupplementary", "([BIII)I"⟩
abbrev cJ2_checkBoundsBeginEnd_d044e : ByteArray := prog_20_method_93_code
def yJ2_checkBoundsBeginEnd_d044e : MethodName := ⟨RJ2, "checkBoundsBeginEnd", "(II[B)V"⟩
def RJ10 : String := "java/lang/System"
def TJ10 : u_T := fun k => match k with
  | _ => ("", "", "", false)
def tyJ10 : Nat → FieldType := fun k => match k with
  | _ => .int
abbrev wsJ100 : List Cond := u_ws RJ10 TJ10 0
theorem nmJ10 : ∀ a, a < 0 → ∀ b, b < 0 → a ≠ b → (TJ10 a).2.1 ≠ (TJ10 b).2.1 := by decide +kernel
theorem tyJ10_ok : ∀ k, k < 0 → parseFieldDescriptor (TJ10 k).2.2.1 = some (tyJ10 k) := by decide +kernel
def RJ3 : String := "jdk/internal/util/Preconditions"
def TJ3 : u_T := fun k => match k with
  | _ => ("", "", "", false)
def tyJ3 : Nat → FieldType := fun k => match k with
  | _ => .int
abbrev wsJ30 : List Cond := u_ws RJ3 TJ3 0
theorem nmJ3 : ∀ a, a < 0 → ∀ b, b < 0 → a ≠ b → (TJ3 a).2.1 ≠ (TJ3 b).2.1 := by decide +kernel
theorem tyJ3_ok : ∀ k, k < 0 → parseFieldDescriptor (TJ3 k).2.2.1 = some (tyJ3 k) := by decide +kernel
abbrev cJ3_checkFromToIndex_8c36e : ByteArray := prog_22_method_12_code
def yJ3_checkFromToIndex_8c36e : MethodName := ⟨RJ3, "checkFromToIndex", "(IIILjava/util/function/BiFunction;)I"⟩
def RL : String := "ShadowCourtLaw"
abbrev cL_law : ByteArray := code
def yL_law : MethodName := ⟨RL, "law", "([I)Z"⟩
abbrev vwCl : List vw_C := [(RX0, TX0, 2), (RX1, TX1, 15), (RX2, TX2, 4), (RX3, TX3, 6), (RX4, TX4, 2), (RX5, TX5, 2), (RX6, TX6, 2), (RX7, TX7, 2), (RX8, TX8, 1), (RX9, TX9, 3), (RX10, TX10, 2), (RX11, TX11, 9), (RX12, TX12, 41)]
