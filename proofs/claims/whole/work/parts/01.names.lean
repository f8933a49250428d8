-- ===== PART A: goes FIRST, ahead of the names: the tables' words, and 'selects' of the private methods out of them =====
/-- a private method of a class that the tables say can be made, by its rows of tables_1 -/
def lw_okq (q : MethodName × Nat) : Prop := (q.1.cls ≠ "java/lang/invoke/MethodHandle" ∧ q.1.cls ≠ "java/lang/invoke/VarHandle") ∧ Cond.instantiable q.1.cls q.2 ∈ tables_1 ∧ Cond.privateMethod q.1 ∈ tables_1 ∧ Cond.instanceMethod q.1 ∈ tables_1
theorem lw_p0 : lw_okq (⟨"BalconiesParliament", "refusalOf", "(II)I"⟩, 6) := ⟨⟨by decide +kernel, by decide +kernel⟩, List.mem_of_getElem? (i := 22) (by decide +kernel), List.mem_of_getElem? (i := 162) (by decide +kernel), List.mem_of_getElem? (i := 163) (by decide +kernel)⟩
theorem lw_p1 : lw_okq (⟨"BalconiesParliament$Street", "moodBehindLook", "(I)I"⟩, 11) := ⟨⟨by decide +kernel, by decide +kernel⟩, List.mem_of_getElem? (i := 30) (by decide +kernel), List.mem_of_getElem? (i := 268) (by decide +kernel), List.mem_of_getElem? (i := 269) (by decide +kernel)⟩
theorem lw_p2 : lw_okq (⟨"BalconiesParliament$Street", "isVetoed", "(I)Z"⟩, 11) := ⟨⟨by decide +kernel, by decide +kernel⟩, List.mem_of_getElem? (i := 30) (by decide +kernel), List.mem_of_getElem? (i := 376) (by decide +kernel), List.mem_of_getElem? (i := 377) (by decide +kernel)⟩
theorem lw_p3 : lw_okq (⟨"BalconiesParliament", "fewestOfMood", "(IZ)I"⟩, 6) := ⟨⟨by decide +kernel, by decide +kernel⟩, List.mem_of_getElem? (i := 22) (by decide +kernel), List.mem_of_getElem? (i := 497) (by decide +kernel), List.mem_of_getElem? (i := 498) (by decide +kernel)⟩
theorem lw_p4 : lw_okq (⟨"BalconiesParliament$Rails", "mostBehind", "(I)I"⟩, 3) := ⟨⟨by decide +kernel, by decide +kernel⟩, List.mem_of_getElem? (i := 87) (by decide +kernel), List.mem_of_getElem? (i := 540) (by decide +kernel), List.mem_of_getElem? (i := 541) (by decide +kernel)⟩
theorem lw_p5 : lw_okq (⟨"BalconiesParliament$Rails", "firstBestRail", "(II)I"⟩, 3) := ⟨⟨by decide +kernel, by decide +kernel⟩, List.mem_of_getElem? (i := 87) (by decide +kernel), List.mem_of_getElem? (i := 555) (by decide +kernel), List.mem_of_getElem? (i := 556) (by decide +kernel)⟩
theorem lw_p6 : lw_okq (⟨"BalconiesParliament", "feelsAsTold", "(LBalconiesParliament$Shelf;I)Z"⟩, 6) := ⟨⟨by decide +kernel, by decide +kernel⟩, List.mem_of_getElem? (i := 22) (by decide +kernel), List.mem_of_getElem? (i := 596) (by decide +kernel), List.mem_of_getElem? (i := 597) (by decide +kernel)⟩
theorem lw_p7 : lw_okq (⟨"BalconiesParliament$Shelf", "leastOfSort", "()I"⟩, 6) := ⟨⟨by decide +kernel, by decide +kernel⟩, List.mem_of_getElem? (i := 106) (by decide +kernel), List.mem_of_getElem? (i := 605) (by decide +kernel), List.mem_of_getElem? (i := 606) (by decide +kernel)⟩
theorem lw_p8 : lw_okq (⟨"BalconiesParliament", "isContent", "(IIII)Z"⟩, 6) := ⟨⟨by decide +kernel, by decide +kernel⟩, List.mem_of_getElem? (i := 22) (by decide +kernel), List.mem_of_getElem? (i := 615) (by decide +kernel), List.mem_of_getElem? (i := 616) (by decide +kernel)⟩
theorem lw_p9 : lw_okq (⟨"BalconiesParliament", "gainOf", "(IIII)I"⟩, 6) := ⟨⟨by decide +kernel, by decide +kernel⟩, List.mem_of_getElem? (i := 22) (by decide +kernel), List.mem_of_getElem? (i := 619) (by decide +kernel), List.mem_of_getElem? (i := 620) (by decide +kernel)⟩
theorem lw_p10 : lw_okq (⟨"BalconiesParliament$Shelf", "lowestBits", "(I)I"⟩, 6) := ⟨⟨by decide +kernel, by decide +kernel⟩, List.mem_of_getElem? (i := 106) (by decide +kernel), List.mem_of_getElem? (i := 702) (by decide +kernel), List.mem_of_getElem? (i := 703) (by decide +kernel)⟩
theorem lw_p11 : lw_okq (⟨"java/lang/Throwable", "fillInStackTrace", "(I)Ljava/lang/Throwable;"⟩, 6) := ⟨⟨by decide +kernel, by decide +kernel⟩, List.mem_of_getElem? (i := 773) (by decide +kernel), List.mem_of_getElem? (i := 771) (by decide +kernel), List.mem_of_getElem? (i := 772) (by decide +kernel)⟩
theorem lw_p12 : lw_okq (⟨"BalconiesParliamentModel", "wrongRow", "(II)I"⟩, 18) := ⟨⟨by decide +kernel, by decide +kernel⟩, List.mem_of_getElem? (i := 849) (by decide +kernel), List.mem_of_getElem? (i := 914) (by decide +kernel), List.mem_of_getElem? (i := 915) (by decide +kernel)⟩
theorem lw_p13 : lw_okq (⟨"BalconiesParliamentModel", "readsStatement", "()Z"⟩, 18) := ⟨⟨by decide +kernel, by decide +kernel⟩, List.mem_of_getElem? (i := 849) (by decide +kernel), List.mem_of_getElem? (i := 924) (by decide +kernel), List.mem_of_getElem? (i := 925) (by decide +kernel)⟩
theorem lw_p14 : lw_okq (⟨"BalconiesParliamentModel", "here", "()I"⟩, 18) := ⟨⟨by decide +kernel, by decide +kernel⟩, List.mem_of_getElem? (i := 849) (by decide +kernel), List.mem_of_getElem? (i := 928) (by decide +kernel), List.mem_of_getElem? (i := 929) (by decide +kernel)⟩
theorem lw_p15 : lw_okq (⟨"BalconiesParliamentModel", "readsNumber", "(II)Z"⟩, 18) := ⟨⟨by decide +kernel, by decide +kernel⟩, List.mem_of_getElem? (i := 849) (by decide +kernel), List.mem_of_getElem? (i := 932) (by decide +kernel), List.mem_of_getElem? (i := 933) (by decide +kernel)⟩
def lw_privs_1 : List (MethodName × Nat) := [(⟨"BalconiesParliament", "refusalOf", "(II)I"⟩, 6), (⟨"BalconiesParliament$Street", "moodBehindLook", "(I)I"⟩, 11), (⟨"BalconiesParliament$Street", "isVetoed", "(I)Z"⟩, 11), (⟨"BalconiesParliament", "fewestOfMood", "(IZ)I"⟩, 6), (⟨"BalconiesParliament$Rails", "mostBehind", "(I)I"⟩, 3), (⟨"BalconiesParliament$Rails", "firstBestRail", "(II)I"⟩, 3), (⟨"BalconiesParliament", "feelsAsTold", "(LBalconiesParliament$Shelf;I)Z"⟩, 6), (⟨"BalconiesParliament$Shelf", "leastOfSort", "()I"⟩, 6), (⟨"BalconiesParliament", "isContent", "(IIII)Z"⟩, 6), (⟨"BalconiesParliament", "gainOf", "(IIII)I"⟩, 6), (⟨"BalconiesParliament$Shelf", "lowestBits", "(I)I"⟩, 6), (⟨"java/lang/Throwable", "fillInStackTrace", "(I)Ljava/lang/Throwable;"⟩, 6), (⟨"BalconiesParliamentModel", "wrongRow", "(II)I"⟩, 18), (⟨"BalconiesParliamentModel", "readsStatement", "()Z"⟩, 18), (⟨"BalconiesParliamentModel", "here", "()I"⟩, 18), (⟨"BalconiesParliamentModel", "readsNumber", "(II)Z"⟩, 18)]
theorem lw_r1 : ∀ q ∈ lw_privs_1, lw_okq q := List.forall_mem_cons.mpr ⟨lw_p0, List.forall_mem_cons.mpr ⟨lw_p1, List.forall_mem_cons.mpr ⟨lw_p2, List.forall_mem_cons.mpr ⟨lw_p3, List.forall_mem_cons.mpr ⟨lw_p4, List.forall_mem_cons.mpr ⟨lw_p5, List.forall_mem_cons.mpr ⟨lw_p6, List.forall_mem_cons.mpr ⟨lw_p7, List.forall_mem_cons.mpr ⟨lw_p8, List.forall_mem_cons.mpr ⟨lw_p9, List.forall_mem_cons.mpr ⟨lw_p10, List.forall_mem_cons.mpr ⟨lw_p11, List.forall_mem_cons.mpr ⟨lw_p12, List.forall_mem_cons.mpr ⟨lw_p13, List.forall_mem_cons.mpr ⟨lw_p14, List.forall_mem_cons.mpr ⟨lw_p15, fun _ h => absurd h List.not_mem_nil⟩⟩⟩⟩⟩⟩⟩⟩⟩⟩⟩⟩⟩⟩⟩⟩
theorem lw_p16 : lw_okq (⟨"BalconiesParliamentModel", "isDone", "(I)Z"⟩, 18) := ⟨⟨by decide +kernel, by decide +kernel⟩, List.mem_of_getElem? (i := 849) (by decide +kernel), List.mem_of_getElem? (i := 939) (by decide +kernel), List.mem_of_getElem? (i := 940) (by decide +kernel)⟩
theorem lw_p17 : lw_okq (⟨"BalconiesParliamentModel", "adds", "(III)V"⟩, 18) := ⟨⟨by decide +kernel, by decide +kernel⟩, List.mem_of_getElem? (i := 849) (by decide +kernel), List.mem_of_getElem? (i := 943) (by decide +kernel), List.mem_of_getElem? (i := 944) (by decide +kernel)⟩
theorem lw_p18 : lw_okq (⟨"BalconiesParliamentModel", "isSpeaker", "(I)Z"⟩, 18) := ⟨⟨by decide +kernel, by decide +kernel⟩, List.mem_of_getElem? (i := 849) (by decide +kernel), List.mem_of_getElem? (i := 950) (by decide +kernel), List.mem_of_getElem? (i := 951) (by decide +kernel)⟩
theorem lw_p19 : lw_okq (⟨"BalconiesParliamentModel", "wrongKept", "(I)I"⟩, 18) := ⟨⟨by decide +kernel, by decide +kernel⟩, List.mem_of_getElem? (i := 849) (by decide +kernel), List.mem_of_getElem? (i := 1002) (by decide +kernel), List.mem_of_getElem? (i := 1003) (by decide +kernel)⟩
theorem lw_p20 : lw_okq (⟨"BalconiesParliamentModel", "takes", "(I)V"⟩, 18) := ⟨⟨by decide +kernel, by decide +kernel⟩, List.mem_of_getElem? (i := 849) (by decide +kernel), List.mem_of_getElem? (i := 1069) (by decide +kernel), List.mem_of_getElem? (i := 1070) (by decide +kernel)⟩
theorem lw_p21 : lw_okq (⟨"BalconiesParliamentModel", "holdsNow", "(I)I"⟩, 18) := ⟨⟨by decide +kernel, by decide +kernel⟩, List.mem_of_getElem? (i := 849) (by decide +kernel), List.mem_of_getElem? (i := 1085) (by decide +kernel), List.mem_of_getElem? (i := 1086) (by decide +kernel)⟩
theorem lw_p22 : lw_okq (⟨"BalconiesParliamentModel", "holdsIn", "(I)I"⟩, 18) := ⟨⟨by decide +kernel, by decide +kernel⟩, List.mem_of_getElem? (i := 849) (by decide +kernel), List.mem_of_getElem? (i := 1089) (by decide +kernel), List.mem_of_getElem? (i := 1090) (by decide +kernel)⟩
theorem lw_p23 : lw_okq (⟨"BalconiesParliamentModel", "isGroup", "(I)Z"⟩, 18) := ⟨⟨by decide +kernel, by decide +kernel⟩, List.mem_of_getElem? (i := 849) (by decide +kernel), List.mem_of_getElem? (i := 1097) (by decide +kernel), List.mem_of_getElem? (i := 1098) (by decide +kernel)⟩
theorem lw_p24 : lw_okq (⟨"BalconiesParliamentModel", "couldBy", "(II)Z"⟩, 18) := ⟨⟨by decide +kernel, by decide +kernel⟩, List.mem_of_getElem? (i := 849) (by decide +kernel), List.mem_of_getElem? (i := 1101) (by decide +kernel), List.mem_of_getElem? (i := 1102) (by decide +kernel)⟩
theorem lw_p25 : lw_okq (⟨"BalconiesParliamentModel", "isOfHeard", "(I)Z"⟩, 18) := ⟨⟨by decide +kernel, by decide +kernel⟩, List.mem_of_getElem? (i := 849) (by decide +kernel), List.mem_of_getElem? (i := 1113) (by decide +kernel), List.mem_of_getElem? (i := 1114) (by decide +kernel)⟩
theorem lw_p26 : lw_okq (⟨"BalconiesParliamentModel", "doesSwing", "(II)Z"⟩, 18) := ⟨⟨by decide +kernel, by decide +kernel⟩, List.mem_of_getElem? (i := 849) (by decide +kernel), List.mem_of_getElem? (i := 1117) (by decide +kernel), List.mem_of_getElem? (i := 1118) (by decide +kernel)⟩
theorem lw_p27 : lw_okq (⟨"BalconiesParliamentModel", "smallest", "()I"⟩, 18) := ⟨⟨by decide +kernel, by decide +kernel⟩, List.mem_of_getElem? (i := 849) (by decide +kernel), List.mem_of_getElem? (i := 1134) (by decide +kernel), List.mem_of_getElem? (i := 1135) (by decide +kernel)⟩
theorem lw_p28 : lw_okq (⟨"BalconiesParliamentModel", "leastOnes", "()I"⟩, 18) := ⟨⟨by decide +kernel, by decide +kernel⟩, List.mem_of_getElem? (i := 849) (by decide +kernel), List.mem_of_getElem? (i := 1138) (by decide +kernel), List.mem_of_getElem? (i := 1139) (by decide +kernel)⟩
theorem lw_p29 : lw_okq (⟨"BalconiesParliamentModel", "isLeast", "(I)Z"⟩, 18) := ⟨⟨by decide +kernel, by decide +kernel⟩, List.mem_of_getElem? (i := 849) (by decide +kernel), List.mem_of_getElem? (i := 1142) (by decide +kernel), List.mem_of_getElem? (i := 1143) (by decide +kernel)⟩
theorem lw_p30 : lw_okq (⟨"BalconiesParliamentModel", "blocks", "()I"⟩, 18) := ⟨⟨by decide +kernel, by decide +kernel⟩, List.mem_of_getElem? (i := 849) (by decide +kernel), List.mem_of_getElem? (i := 1146) (by decide +kernel), List.mem_of_getElem? (i := 1147) (by decide +kernel)⟩
theorem lw_p31 : lw_okq (⟨"BalconiesParliamentModel", "doesCarryWith", "(II)Z"⟩, 18) := ⟨⟨by decide +kernel, by decide +kernel⟩, List.mem_of_getElem? (i := 849) (by decide +kernel), List.mem_of_getElem? (i := 1158) (by decide +kernel), List.mem_of_getElem? (i := 1159) (by decide +kernel)⟩
def lw_privs_2 : List (MethodName × Nat) := [(⟨"BalconiesParliamentModel", "isDone", "(I)Z"⟩, 18), (⟨"BalconiesParliamentModel", "adds", "(III)V"⟩, 18), (⟨"BalconiesParliamentModel", "isSpeaker", "(I)Z"⟩, 18), (⟨"BalconiesParliamentModel", "wrongKept", "(I)I"⟩, 18), (⟨"BalconiesParliamentModel", "takes", "(I)V"⟩, 18), (⟨"BalconiesParliamentModel", "holdsNow", "(I)I"⟩, 18), (⟨"BalconiesParliamentModel", "holdsIn", "(I)I"⟩, 18), (⟨"BalconiesParliamentModel", "isGroup", "(I)Z"⟩, 18), (⟨"BalconiesParliamentModel", "couldBy", "(II)Z"⟩, 18), (⟨"BalconiesParliamentModel", "isOfHeard", "(I)Z"⟩, 18), (⟨"BalconiesParliamentModel", "doesSwing", "(II)Z"⟩, 18), (⟨"BalconiesParliamentModel", "smallest", "()I"⟩, 18), (⟨"BalconiesParliamentModel", "leastOnes", "()I"⟩, 18), (⟨"BalconiesParliamentModel", "isLeast", "(I)Z"⟩, 18), (⟨"BalconiesParliamentModel", "blocks", "()I"⟩, 18), (⟨"BalconiesParliamentModel", "doesCarryWith", "(II)Z"⟩, 18)]
theorem lw_r2 : ∀ q ∈ lw_privs_2, lw_okq q := List.forall_mem_cons.mpr ⟨lw_p16, List.forall_mem_cons.mpr ⟨lw_p17, List.forall_mem_cons.mpr ⟨lw_p18, List.forall_mem_cons.mpr ⟨lw_p19, List.forall_mem_cons.mpr ⟨lw_p20, List.forall_mem_cons.mpr ⟨lw_p21, List.forall_mem_cons.mpr ⟨lw_p22, List.forall_mem_cons.mpr ⟨lw_p23, List.forall_mem_cons.mpr ⟨lw_p24, List.forall_mem_cons.mpr ⟨lw_p25, List.forall_mem_cons.mpr ⟨lw_p26, List.forall_mem_cons.mpr ⟨lw_p27, List.forall_mem_cons.mpr ⟨lw_p28, List.forall_mem_cons.mpr ⟨lw_p29, List.forall_mem_cons.mpr ⟨lw_p30, List.forall_mem_cons.mpr ⟨lw_p31, fun _ h => absurd h List.not_mem_nil⟩⟩⟩⟩⟩⟩⟩⟩⟩⟩⟩⟩⟩⟩⟩⟩
theorem lw_p32 : lw_okq (⟨"BalconiesParliamentModel", "weightAt", "(II)I"⟩, 18) := ⟨⟨by decide +kernel, by decide +kernel⟩, List.mem_of_getElem? (i := 849) (by decide +kernel), List.mem_of_getElem? (i := 1178) (by decide +kernel), List.mem_of_getElem? (i := 1179) (by decide +kernel)⟩
theorem lw_p33 : lw_okq (⟨"BalconiesParliamentModel", "matches", "()V"⟩, 18) := ⟨⟨by decide +kernel, by decide +kernel⟩, List.mem_of_getElem? (i := 849) (by decide +kernel), List.mem_of_getElem? (i := 1190) (by decide +kernel), List.mem_of_getElem? (i := 1191) (by decide +kernel)⟩
theorem lw_p34 : lw_okq (⟨"BalconiesParliamentModel", "railOf", "(II)I"⟩, 18) := ⟨⟨by decide +kernel, by decide +kernel⟩, List.mem_of_getElem? (i := 849) (by decide +kernel), List.mem_of_getElem? (i := 1194) (by decide +kernel), List.mem_of_getElem? (i := 1195) (by decide +kernel)⟩
theorem lw_p35 : lw_okq (⟨"BalconiesParliamentModel", "isLawBy", "(II)Z"⟩, 18) := ⟨⟨by decide +kernel, by decide +kernel⟩, List.mem_of_getElem? (i := 849) (by decide +kernel), List.mem_of_getElem? (i := 1206) (by decide +kernel), List.mem_of_getElem? (i := 1207) (by decide +kernel)⟩
theorem lw_p36 : lw_okq (⟨"BalconiesParliamentModel", "hasBy", "(IIIII)I"⟩, 18) := ⟨⟨by decide +kernel, by decide +kernel⟩, List.mem_of_getElem? (i := 849) (by decide +kernel), List.mem_of_getElem? (i := 1222) (by decide +kernel), List.mem_of_getElem? (i := 1223) (by decide +kernel)⟩
theorem lw_p37 : lw_okq (⟨"BalconiesParliamentModel", "drawn", "(I)I"⟩, 18) := ⟨⟨by decide +kernel, by decide +kernel⟩, List.mem_of_getElem? (i := 849) (by decide +kernel), List.mem_of_getElem? (i := 1246) (by decide +kernel), List.mem_of_getElem? (i := 1247) (by decide +kernel)⟩
def lw_privs_3 : List (MethodName × Nat) := [(⟨"BalconiesParliamentModel", "weightAt", "(II)I"⟩, 18), (⟨"BalconiesParliamentModel", "matches", "()V"⟩, 18), (⟨"BalconiesParliamentModel", "railOf", "(II)I"⟩, 18), (⟨"BalconiesParliamentModel", "isLawBy", "(II)Z"⟩, 18), (⟨"BalconiesParliamentModel", "hasBy", "(IIIII)I"⟩, 18), (⟨"BalconiesParliamentModel", "drawn", "(I)I"⟩, 18)]
theorem lw_r3 : ∀ q ∈ lw_privs_3, lw_okq q := List.forall_mem_cons.mpr ⟨lw_p32, List.forall_mem_cons.mpr ⟨lw_p33, List.forall_mem_cons.mpr ⟨lw_p34, List.forall_mem_cons.mpr ⟨lw_p35, List.forall_mem_cons.mpr ⟨lw_p36, List.forall_mem_cons.mpr ⟨lw_p37, fun _ h => absurd h List.not_mem_nil⟩⟩⟩⟩⟩⟩
def lw_privs : List (MethodName × Nat) := lw_privs_1 ++ (lw_privs_2 ++ (lw_privs_3))
def lw_tbl : List Cond := k2_sels lw_privs ++ tables_1
theorem lw_privs_ok : ∀ q ∈ lw_privs, lw_okq q := by
  show ∀ q ∈ lw_privs_1 ++ (lw_privs_2 ++ (lw_privs_3)), lw_okq q
  exact List.forall_mem_append.mpr ⟨lw_r1, List.forall_mem_append.mpr ⟨lw_r2, lw_r3⟩⟩
def RX0 : String := "BalconiesParliament$Chance"
def TX0 : u_T := fun k => match k with
  | _ => ("", "", "", false)
def tyX0 : Nat → FieldType := fun k => match k with
  | _ => .int
abbrev wsX00 : List Cond := u_ws RX0 TX0 0
theorem nmX0 : ∀ a, a < 0 → ∀ b, b < 0 → a ≠ b → (TX0 a).2.1 ≠ (TX0 b).2.1 := by decide +kernel
theorem tyX0_ok : ∀ k, k < 0 → parseFieldDescriptor (TX0 k).2.2.1 = some (tyX0 k) := by decide +kernel
abbrev cX0_next : ByteArray := prog_2_method_2_code
def yX0_next : MethodName := ⟨RX0, "next", "(I)I"⟩
abbrev cX0_below : ByteArray := prog_2_method_3_code
def yX0_below : MethodName := ⟨RX0, "below", "(II)I"⟩
def RX1 : String := "BalconiesParliament$Fraction"
def TX1 : u_T := fun k => match k with
  | _ => ("", "", "", false)
def tyX1 : Nat → FieldType := fun k => match k with
  | _ => .int
abbrev wsX10 : List Cond := u_ws RX1 TX1 0
theorem nmX1 : ∀ a, a < 0 → ∀ b, b < 0 → a ≠ b → (TX1 a).2.1 ≠ (TX1 b).2.1 := by decide +kernel
theorem tyX1_ok : ∀ k, k < 0 → parseFieldDescriptor (TX1 k).2.2.1 = some (tyX1 k) := by decide +kernel
abbrev cX1_inLeastTerms : ByteArray := prog_3_method_2_code
def yX1_inLeastTerms : MethodName := ⟨RX1, "inLeastTerms", "(JJI)J"⟩
abbrev cX1_commonDivisor : ByteArray := prog_3_method_3_code
def yX1_commonDivisor : MethodName := ⟨RX1, "commonDivisor", "(JJ)J"⟩
def RX2 : String := "BalconiesParliament$Groups"
def TX2 : u_T := fun k => match k with
  | _ => ("", "", "", false)
def tyX2 : Nat → FieldType := fun k => match k with
  | _ => .int
abbrev wsX20 : List Cond := u_ws RX2 TX2 0
theorem nmX2 : ∀ a, a < 0 → ∀ b, b < 0 → a ≠ b → (TX2 a).2.1 ≠ (TX2 b).2.1 := by decide +kernel
theorem tyX2_ok : ∀ k, k < 0 → parseFieldDescriptor (TX2 k).2.2.1 = some (tyX2 k) := by decide +kernel
abbrev cX2_isEnough : ByteArray := prog_4_method_2_code
def yX2_isEnough : MethodName := ⟨RX2, "isEnough", "(LBalconiesParliament$Street;I)Z"⟩
abbrev cX2_isCrossing : ByteArray := prog_4_method_3_code
def yX2_isCrossing : MethodName := ⟨RX2, "isCrossing", "(LBalconiesParliament$Street;I)Z"⟩
abbrev cX2_isTurnedBy : ByteArray := prog_4_method_4_code
def yX2_isTurnedBy : MethodName := ⟨RX2, "isTurnedBy", "(LBalconiesParliament$Street;II)Z"⟩
abbrev cX2_isFewer : ByteArray := prog_4_method_5_code
def yX2_isFewer : MethodName := ⟨RX2, "isFewer", "(II)Z"⟩
abbrev cX2_smallest : ByteArray := prog_4_method_6_code
def yX2_smallest : MethodName := ⟨RX2, "smallest", "(LBalconiesParliament$Street;)I"⟩
abbrev cX2_leastOnes : ByteArray := prog_4_method_7_code
def yX2_leastOnes : MethodName := ⟨RX2, "leastOnes", "(LBalconiesParliament$Street;)I"⟩
abbrev cX2_isLeast : ByteArray := prog_4_method_8_code
def yX2_isLeast : MethodName := ⟨RX2, "isLeast", "(LBalconiesParliament$Street;I)Z"⟩
abbrev cX2_blocks : ByteArray := prog_4_method_9_code
def yX2_blocks : MethodName := ⟨RX2, "blocks", "(LBalconiesParliament$Street;)I"⟩
abbrev cX2_turnedGroups : ByteArray := prog_4_method_10_code
def yX2_turnedGroups : MethodName := ⟨RX2, "turnedGroups", "(LBalconiesParliament$Street;I)I"⟩
abbrev cX2_ordersTurned : ByteArray := prog_4_method_11_code
def yX2_ordersTurned : MethodName := ⟨RX2, "ordersTurned", "(LBalconiesParliament$Street;I)J"⟩
abbrev cX2_ordersOfHeard : ByteArray := prog_4_method_12_code
def yX2_ordersOfHeard : MethodName := ⟨RX2, "ordersOfHeard", "(LBalconiesParliament$Street;)J"⟩
abbrev cX2_ordersOf : ByteArray := prog_4_method_13_code
def yX2_ordersOf : MethodName := ⟨RX2, "ordersOf", "(I)J"⟩
def RX3 : String := "BalconiesParliament$Kinds"
def TX3 : u_T := fun k => match k with
  | _ => ("", "", "", false)
def tyX3 : Nat → FieldType := fun k => match k with
  | _ => .int
abbrev wsX30 : List Cond := u_ws RX3 TX3 0
theorem nmX3 : ∀ a, a < 0 → ∀ b, b < 0 → a ≠ b → (TX3 a).2.1 ≠ (TX3 b).2.1 := by decide +kernel
theorem tyX3_ok : ∀ k, k < 0 → parseFieldDescriptor (TX3 k).2.2.1 = some (tyX3 k) := by decide +kernel
abbrev cX3_weightOf : ByteArray := prog_5_method_2_code
def yX3_weightOf : MethodName := ⟨RX3, "weightOf", "(III)I"⟩
abbrev cX3_isVeto : ByteArray := prog_5_method_3_code
def yX3_isVeto : MethodName := ⟨RX3, "isVeto", "(II)Z"⟩
abbrev cX3_swayOf : ByteArray := prog_5_method_4_code
def yX3_swayOf : MethodName := ⟨RX3, "swayOf", "(II)I"⟩
abbrev cX3_priceOf : ByteArray := prog_5_method_5_code
def yX3_priceOf : MethodName := ⟨RX3, "priceOf", "(II)I"⟩
abbrev cX3_widowPrice : ByteArray := prog_5_method_6_code
def yX3_widowPrice : MethodName := ⟨RX3, "widowPrice", "(I)I"⟩
abbrev cX3_fail : ByteArray := prog_5_method_7_code
def yX3_fail : MethodName := ⟨RX3, "fail", "(II)V"⟩
def RX4 : String := "BalconiesParliament$Law"
def TX4 : u_T := fun k => match k with
  | _ => ("", "", "", false)
def tyX4 : Nat → FieldType := fun k => match k with
  | _ => .int
abbrev wsX40 : List Cond := u_ws RX4 TX4 0
theorem nmX4 : ∀ a, a < 0 → ∀ b, b < 0 → a ≠ b → (TX4 a).2.1 ≠ (TX4 b).2.1 := by decide +kernel
theorem tyX4_ok : ∀ k, k < 0 → parseFieldDescriptor (TX4 k).2.2.1 = some (tyX4 k) := by decide +kernel
abbrev cX4_isTold : ByteArray := prog_6_method_2_code
def yX4_isTold : MethodName := ⟨RX4, "isTold", "(LBalconiesParliament$Shelf;LBalconiesParliament$Street;)Z"⟩
abbrev cX4_leastQuota : ByteArray := prog_6_method_3_code
def yX4_leastQuota : MethodName := ⟨RX4, "leastQuota", "(LBalconiesParliament$Shelf;LBalconiesParliament$Street;)I"⟩
abbrev cX4_greatestQuota : ByteArray := prog_6_method_4_code
def yX4_greatestQuota : MethodName := ⟨RX4, "greatestQuota", "(LBalconiesParliament$Shelf;LBalconiesParliament$Street;)I"⟩
def RX5 : String := "BalconiesParliament$Rails"
def TX5 : u_T := fun k => match k with
  | 0 => ("BalconiesParliament$Rails", "rest", "[I", true)
  | 1 => ("BalconiesParliament$Rails", "weight", "[[I", true)
  | _ => ("BalconiesParliament$Rails", "people", "I", false)
def tyX5 : Nat → FieldType := fun k => match k with
  | 0 => .array .int
  | 1 => .array (.array .int)
  | _ => .int
abbrev wsX50 : List Cond := u_ws RX5 TX5 3
theorem nmX5 : ∀ a, a < 3 → ∀ b, b < 3 → a ≠ b → (TX5 a).2.1 ≠ (TX5 b).2.1 := by decide +kernel
theorem tyX5_ok : ∀ k, k < 3 → parseFieldDescriptor (TX5 k).2.2.1 = some (tyX5 k) := by decide +kernel
abbrev cX5_init : ByteArray := prog_7_method_1_code
def yX5_init : MethodName := ⟨RX5, "<init>", "()V"⟩
abbrev cX5_weigh : ByteArray := prog_7_method_2_code
def yX5_weigh : MethodName := ⟨RX5, "weigh", "(LBalconiesParliament$Street;)V"⟩
abbrev cX5_mostBehind : ByteArray := prog_7_method_3_code
def yX5_mostBehind : MethodName := ⟨RX5, "mostBehind", "(I)I"⟩
abbrev cX5_mostWeight : ByteArray := prog_7_method_4_code
def yX5_mostWeight : MethodName := ⟨RX5, "mostWeight", "()I"⟩
abbrev cX5_railOf : ByteArray := prog_7_method_5_code
def yX5_railOf : MethodName := ⟨RX5, "railOf", "(I)I"⟩
abbrev cX5_firstBestRail : ByteArray := prog_7_method_6_code
def yX5_firstBestRail : MethodName := ⟨RX5, "firstBestRail", "(II)I"⟩
def RX6 : String := "BalconiesParliament$Script"
def TX6 : u_T := fun k => match k with
  | _ => ("", "", "", false)
def tyX6 : Nat → FieldType := fun k => match k with
  | _ => .int
abbrev wsX60 : List Cond := u_ws RX6 TX6 0
theorem nmX6 : ∀ a, a < 0 → ∀ b, b < 0 → a ≠ b → (TX6 a).2.1 ≠ (TX6 b).2.1 := by decide +kernel
theorem tyX6_ok : ∀ k, k < 0 → parseFieldDescriptor (TX6 k).2.2.1 = some (tyX6 k) := by decide +kernel
abbrev cX6_play : ByteArray := prog_8_method_2_code
def yX6_play : MethodName := ⟨RX6, "play", "(LBalconiesParliament$Shelf;LBalconiesParliament$Street;)I"⟩
abbrev cX6_placeOfUnfitByte : ByteArray := prog_8_method_3_code
def yX6_placeOfUnfitByte : MethodName := ⟨RX6, "placeOfUnfitByte", "(LBalconiesParliament$Shelf;)I"⟩
abbrev cX6_digitsBehind : ByteArray := prog_8_method_4_code
def yX6_digitsBehind : MethodName := ⟨RX6, "digitsBehind", "(I)I"⟩
abbrev cX6_tryStatement : ByteArray := prog_8_method_5_code
def yX6_tryStatement : MethodName := ⟨RX6, "tryStatement", "(LBalconiesParliament$Shelf;ILBalconiesParliament$Street;)Z"⟩
abbrev cX6_tryHeight : ByteArray := prog_8_method_6_code
def yX6_tryHeight : MethodName := ⟨RX6, "tryHeight", "(LBalconiesParliament$Street;II)Z"⟩
abbrev cX6_tryToAdmit : ByteArray := prog_8_method_7_code
def yX6_tryToAdmit : MethodName := ⟨RX6, "tryToAdmit", "(LBalconiesParliament$Street;III)Z"⟩
abbrev cX6_tryMood : ByteArray := prog_8_method_8_code
def yX6_tryMood : MethodName := ⟨RX6, "tryMood", "(LBalconiesParliament$Street;II)Z"⟩
abbrev cX6_tryShutter : ByteArray := prog_8_method_9_code
def yX6_tryShutter : MethodName := ⟨RX6, "tryShutter", "(LBalconiesParliament$Street;I)Z"⟩
abbrev cX6_tryQuota : ByteArray := prog_8_method_10_code
def yX6_tryQuota : MethodName := ⟨RX6, "tryQuota", "(LBalconiesParliament$Street;I)Z"⟩
abbrev cX6_tryDays : ByteArray := prog_8_method_11_code
def yX6_tryDays : MethodName := ⟨RX6, "tryDays", "(LBalconiesParliament$Street;I)Z"⟩
def RX7 : String := "BalconiesParliament$Shelf"
def TX7 : u_T := fun k => match k with
  | 0 => ("BalconiesParliament$Shelf", "elements", "[I", true)
  | 1 => ("BalconiesParliament$Shelf", "holds", "I", false)
  | 2 => ("BalconiesParliament$Shelf", "kind", "I", false)
  | 3 => ("BalconiesParliament$Shelf", "figure", "I", false)
  | 4 => ("BalconiesParliament$Shelf", "sort", "I", false)
  | _ => ("BalconiesParliament$Shelf", "size", "I", false)
def tyX7 : Nat → FieldType := fun k => match k with
  | 0 => .array .int
  | 1 => .int
  | 2 => .int
  | 3 => .int
  | 4 => .int
  | _ => .int
abbrev wsX70 : List Cond := u_ws RX7 TX7 6
theorem nmX7 : ∀ a, a < 6 → ∀ b, b < 6 → a ≠ b → (TX7 a).2.1 ≠ (TX7 b).2.1 := by decide +kernel
theorem tyX7_ok : ∀ k, k < 6 → parseFieldDescriptor (TX7 k).2.2.1 = some (tyX7 k) := by decide +kernel
abbrev cX7_init : ByteArray := prog_9_method_1_code
def yX7_init : MethodName := ⟨RX7, "<init>", "()V"⟩
abbrev cX7_takeKind : ByteArray := prog_9_method_2_code
def yX7_takeKind : MethodName := ⟨RX7, "takeKind", "(II)V"⟩
abbrev cX7_takeRow : ByteArray := prog_9_method_3_code
def yX7_takeRow : MethodName := ⟨RX7, "takeRow", "(II)V"⟩
abbrev cX7_hasPlace : ByteArray := prog_9_method_4_code
def yX7_hasPlace : MethodName := ⟨RX7, "hasPlace", "(I)Z"⟩
abbrev cX7_hasPlaces : ByteArray := prog_9_method_5_code
def yX7_hasPlaces : MethodName := ⟨RX7, "hasPlaces", "(II)Z"⟩
abbrev cX7_at : ByteArray := prog_9_method_6_code
def yX7_at : MethodName := ⟨RX7, "at", "(I)I"⟩
abbrev cX7_set : ByteArray := prog_9_method_7_code
def yX7_set : MethodName := ⟨RX7, "set", "(II)V"⟩
abbrev cX7_lowestBits : ByteArray := prog_9_method_8_code
def yX7_lowestBits : MethodName := ⟨RX7, "lowestBits", "(I)I"⟩
abbrev cX7_isSkipped : ByteArray := prog_9_method_9_code
def yX7_isSkipped : MethodName := ⟨RX7, "isSkipped", "(I)Z"⟩
abbrev cX7_leastOfSort : ByteArray := prog_9_method_10_code
def yX7_leastOfSort : MethodName := ⟨RX7, "leastOfSort", "()I"⟩
def RX8 : String := "BalconiesParliament$Street"
def TX8 : u_T := fun k => match k with
  | 0 => ("BalconiesParliament$Street", "height", "[I", true)
  | 1 => ("BalconiesParliament$Street", "kind", "[I", true)
  | 2 => ("BalconiesParliament$Street", "figure", "[I", true)
  | 3 => ("BalconiesParliament$Street", "rail", "[I", true)
  | 4 => ("BalconiesParliament$Street", "mood", "[I", true)
  | 5 => ("BalconiesParliament$Street", "sight", "[I", true)
  | 6 => ("BalconiesParliament$Street", "moving", "Z", false)
  | 7 => ("BalconiesParliament$Street", "shut", "I", false)
  | 8 => ("BalconiesParliament$Street", "people", "I", false)
  | 9 => ("BalconiesParliament$Street", "needed", "I", false)
  | _ => ("BalconiesParliament$Street", "day", "I", false)
def tyX8 : Nat → FieldType := fun k => match k with
  | 0 => .array .int
  | 1 => .array .int
  | 2 => .array .int
  | 3 => .array .int
  | 4 => .array .int
  | 5 => .array .int
  | 6 => .boolean
  | 7 => .int
  | 8 => .int
  | 9 => .int
  | _ => .int
abbrev wsX80 : List Cond := u_ws RX8 TX8 11
theorem nmX8 : ∀ a, a < 11 → ∀ b, b < 11 → a ≠ b → (TX8 a).2.1 ≠ (TX8 b).2.1 := by decide +kernel
theorem tyX8_ok : ∀ k, k < 11 → parseFieldDescriptor (TX8 k).2.2.1 = some (tyX8 k) := by decide +kernel
abbrev cX8_init : ByteArray := prog_10_method_1_code
def yX8_init : MethodName := ⟨RX8, "<init>", "()V"⟩
abbrev cX8_become : ByteArray := prog_10_method_2_code
def yX8_become : MethodName := ⟨RX8, "become", "(LBalconiesParliament$Street;)V"⟩
abbrev cX8_isThere : ByteArray := prog_10_method_3_code
def yX8_isThere : MethodName := ⟨RX8, "isThere", "(I)Z"⟩
abbrev cX8_areThere : ByteArray := prog_10_method_4_code
def yX8_areThere : MethodName := ⟨RX8, "areThere", "(I)Z"⟩
abbrev cX8_hasRoom : ByteArray := prog_10_method_5_code
def yX8_hasRoom : MethodName := ⟨RX8, "hasRoom", "()Z"⟩
abbrev cX8_hasDaysLeft : ByteArray := prog_10_method_6_code
def yX8_hasDaysLeft : MethodName := ⟨RX8, "hasDaysLeft", "(I)Z"⟩
abbrev cX8_admit : ByteArray := prog_10_method_7_code
/-- the name of the method of which a row of the printed tables speaks -/
def rowName : Cond → String
  | .instanceMethod q => q.name
  | _ => ""
def yX8_admit : MethodName := ⟨RX8, rowName (tables_1_1.getD 213 (Cond.initialized "")), "(III)V"⟩
abbrev cX8_isShut : ByteArray := prog_10_method_8_code
def yX8_isShut : MethodName := ⟨RX8, "isShut", "(I)Z"⟩
abbrev cX8_turnShutter : ByteArray := prog_10_method_9_code
def yX8_turnShutter : MethodName := ⟨RX8, "turnShutter", "(I)V"⟩
abbrev cX8_think : ByteArray := prog_10_method_10_code
def yX8_think : MethodName := ⟨RX8, "think", "(II)V"⟩
abbrev cX8_isHeard : ByteArray := prog_10_method_11_code
def yX8_isHeard : MethodName := ⟨RX8, "isHeard", "(I)Z"⟩
abbrev cX8_weightOf : ByteArray := prog_10_method_12_code
def yX8_weightOf : MethodName := ⟨RX8, "weightOf", "(I)I"⟩
abbrev cX8_weightAt : ByteArray := prog_10_method_13_code
def yX8_weightAt : MethodName := ⟨RX8, "weightAt", "(II)I"⟩
abbrev cX8_onesOn : ByteArray := prog_10_method_14_code
def yX8_onesOn : MethodName := ⟨RX8, "onesOn", "(I)I"⟩
abbrev cX8_heardOnes : ByteArray := prog_10_method_15_code
def yX8_heardOnes : MethodName := ⟨RX8, "heardOnes", "()I"⟩
abbrev cX8_onesFor : ByteArray := prog_10_method_16_code
def yX8_onesFor : MethodName := ⟨RX8, "onesFor", "()I"⟩
abbrev cX8_onesAgainst : ByteArray := prog_10_method_17_code
def yX8_onesAgainst : MethodName := ⟨RX8, "onesAgainst", "()I"⟩
abbrev cX8_weightOfAll : ByteArray := prog_10_method_18_code
def yX8_weightOfAll : MethodName := ⟨RX8, "weightOfAll", "(I)I"⟩
abbrev cX8_sidesOf : ByteArray := prog_10_method_19_code
def yX8_sidesOf : MethodName := ⟨RX8, "sidesOf", "(I)I"⟩
abbrev cX8_weightFor : ByteArray := prog_10_method_20_code
def yX8_weightFor : MethodName := ⟨RX8, "weightFor", "(I)I"⟩
abbrev cX8_whyNot : ByteArray := prog_10_method_21_code
def yX8_whyNot : MethodName := ⟨RX8, "whyNot", "(I)I"⟩
abbrev cX8_isVetoed : ByteArray := prog_10_method_22_code
def yX8_isVetoed : MethodName := ⟨RX8, "isVetoed", "(I)Z"⟩
abbrev cX8_isCarried : ByteArray := prog_10_method_23_code
def yX8_isCarried : MethodName := ⟨RX8, "isCarried", "()Z"⟩
abbrev cX8_isInSight : ByteArray := prog_10_method_24_code
def yX8_isInSight : MethodName := ⟨RX8, "isInSight", "(II)Z"⟩
abbrev cX8_twosInSight : ByteArray := prog_10_method_25_code
def yX8_twosInSight : MethodName := ⟨RX8, "twosInSight", "()I"⟩
abbrev cX8_loudest : ByteArray := prog_10_method_26_code
def yX8_loudest : MethodName := ⟨RX8, "loudest", "()I"⟩
abbrev cX8_startDays : ByteArray := prog_10_method_27_code
def yX8_startDays : MethodName := ⟨RX8, "startDays", "()V"⟩
abbrev cX8_nextDay : ByteArray := prog_10_method_28_code
def yX8_nextDay : MethodName := ⟨RX8, "nextDay", "()Z"⟩
abbrev cX8_moodBehindLook : ByteArray := prog_10_method_29_code
def yX8_moodBehindLook : MethodName := ⟨RX8, "moodBehindLook", "(I)I"⟩
abbrev cX8_live : ByteArray := prog_10_method_30_code
def yX8_live : MethodName := ⟨RX8, "live", "(I)V"⟩
abbrev cX8_carriedDays : ByteArray := prog_10_method_31_code
def yX8_carriedDays : MethodName := ⟨RX8, "carriedDays", "(I)I"⟩
abbrev cX8_scatter : ByteArray := prog_10_method_32_code
def yX8_scatter : MethodName := ⟨RX8, "scatter", "(I)I"⟩
def RX9 : String := "BalconiesParliament"
def TX9 : u_T := fun k => match k with
  | 0 => ("BalconiesParliament", "now", "LBalconiesParliament$Street;", true)
  | 1 => ("BalconiesParliament", "mind", "LBalconiesParliament$Street;", true)
  | 2 => ("BalconiesParliament", "kept", "LBalconiesParliament$Street;", true)
  | 3 => ("BalconiesParliament", "hasImage", "Z", false)
  | 4 => ("BalconiesParliament", "rails", "LBalconiesParliament$Rails;", true)
  | _ => ("BalconiesParliament", "shelves", "[LBalconiesParliament$Shelf;", true)
def tyX9 : Nat → FieldType := fun k => match k with
  | 0 => .object "BalconiesParliament$Street"
  | 1 => .object "BalconiesParliament$Street"
  | 2 => .object "BalconiesParliament$Street"
  | 3 => .boolean
  | 4 => .object "BalconiesParliament$Rails"
  | _ => .array (.object "BalconiesParliament$Shelf")
abbrev wsX90 : List Cond := u_ws RX9 TX9 6
theorem nmX9 : ∀ a, a < 6 → ∀ b, b < 6 → a ≠ b → (TX9 a).2.1 ≠ (TX9 b).2.1 := by decide +kernel
theorem tyX9_ok : ∀ k, k < 6 → parseFieldDescriptor (TX9 k).2.2.1 = some (tyX9 k) := by decide +kernel
abbrev cX9_init : ByteArray := prog_1_method_1_code
def yX9_init : MethodName := ⟨RX9, "<init>", "()V"⟩
abbrev cX9_quarter : ByteArray := prog_1_method_2_code
def yX9_quarter : MethodName := ⟨RX9, "quarter", "(I)I"⟩
abbrev cX9_speaker : ByteArray := prog_1_method_3_code
def yX9_speaker : MethodName := ⟨RX9, "speaker", "(II)I"⟩
abbrev cX9_balcony : ByteArray := prog_1_method_4_code
def yX9_balcony : MethodName := ⟨RX9, "balcony", "(II)I"⟩
abbrev cX9_comes : ByteArray := prog_1_method_5_code
def yX9_comes : MethodName := ⟨RX9, "comes", "(II)I"⟩
abbrev cX9_builds : ByteArray := prog_1_method_6_code
def yX9_builds : MethodName := ⟨RX9, "builds", "(II)I"⟩
abbrev cX9_shuts : ByteArray := prog_1_method_7_code
def yX9_shuts : MethodName := ⟨RX9, "shuts", "(I)I"⟩
abbrev cX9_thinks : ByteArray := prog_1_method_8_code
def yX9_thinks : MethodName := ⟨RX9, "thinks", "(II)I"⟩
abbrev cX9_goes : ByteArray := prog_1_method_9_code
def yX9_goes : MethodName := ⟨RX9, "goes", "(II)I"⟩
abbrev cX9_quota : ByteArray := prog_1_method_10_code
def yX9_quota : MethodName := ⟨RX9, "quota", "(I)I"⟩
abbrev cX9_days : ByteArray := prog_1_method_11_code
def yX9_days : MethodName := ⟨RX9, "days", "(I)I"⟩
abbrev cX9_carries : ByteArray := prog_1_method_12_code
def yX9_carries : MethodName := ⟨RX9, "carries", "(I)I"⟩
abbrev cX9_moodThen : ByteArray := prog_1_method_13_code
def yX9_moodThen : MethodName := ⟨RX9, "moodThen", "(II)I"⟩
abbrev cX9_then : ByteArray := prog_1_method_14_code
def yX9_then : MethodName := ⟨RX9, "then", "(II)I"⟩
abbrev cX9_when : ByteArray := prog_1_method_15_code
def yX9_when : MethodName := ⟨RX9, "when", "()I"⟩
abbrev cX9_holds : ByteArray := prog_1_method_16_code
def yX9_holds : MethodName := ⟨RX9, "holds", "(I)I"⟩
abbrev cX9_could : ByteArray := prog_1_method_17_code
def yX9_could : MethodName := ⟨RX9, "could", "(I)I"⟩
abbrev cX9_power : ByteArray := prog_1_method_18_code
def yX9_power : MethodName := ⟨RX9, "power", "(II)J"⟩
abbrev cX9_groups : ByteArray := prog_1_method_19_code
def yX9_groups : MethodName := ⟨RX9, "groups", "(I)I"⟩
abbrev cX9_swings : ByteArray := prog_1_method_20_code
def yX9_swings : MethodName := ⟨RX9, "swings", "(I)I"⟩
abbrev cX9_win : ByteArray := prog_1_method_21_code
def yX9_win : MethodName := ⟨RX9, "win", "(I)I"⟩
abbrev cX9_guest : ByteArray := prog_1_method_22_code
def yX9_guest : MethodName := ⟨RX9, "guest", "(III)I"⟩
abbrev cX9_shutter : ByteArray := prog_1_method_23_code
def yX9_shutter : MethodName := ⟨RX9, "shutter", "(I)I"⟩
abbrev cX9_quotaMost : ByteArray := prog_1_method_24_code
def yX9_quotaMost : MethodName := ⟨RX9, "quotaMost", "()I"⟩
abbrev cX9_rent : ByteArray := prog_1_method_25_code
def yX9_rent : MethodName := ⟨RX9, "rent", "(II)I"⟩
abbrev cX9_bestRail : ByteArray := prog_1_method_26_code
def yX9_bestRail : MethodName := ⟨RX9, "bestRail", "(I)I"⟩
abbrev cX9_match : ByteArray := prog_1_method_27_code
def yX9_match : MethodName := ⟨RX9, "match", "(I)I"⟩
abbrev cX9_lines : ByteArray := prog_1_method_28_code
def yX9_lines : MethodName := ⟨RX9, "lines", "(I)I"⟩
abbrev cX9_law : ByteArray := prog_1_method_29_code
def yX9_law : MethodName := ⟨RX9, "law", "(II)I"⟩
abbrev cX9_whatIs : ByteArray := prog_1_method_30_code
def yX9_whatIs : MethodName := ⟨RX9, "whatIs", "(III)I"⟩
abbrev cX9_two : ByteArray := prog_1_method_31_code
def yX9_two : MethodName := ⟨RX9, "two", "(II)I"⟩
abbrev cX9_rain : ByteArray := prog_1_method_32_code
def yX9_rain : MethodName := ⟨RX9, "rain", "(II)J"⟩
abbrev cX9_mean : ByteArray := prog_1_method_33_code
def yX9_mean : MethodName := ⟨RX9, "mean", "(I)J"⟩
abbrev cX9_forged : ByteArray := prog_1_method_34_code
def yX9_forged : MethodName := ⟨RX9, "forged", "(I)I"⟩
abbrev cX9_judge : ByteArray := prog_1_method_35_code
def yX9_judge : MethodName := ⟨RX9, "judge", "(I)I"⟩
abbrev cX9_streets : ByteArray := prog_1_method_36_code
def yX9_streets : MethodName := ⟨RX9, "streets", "(III)I"⟩
abbrev cX9_image : ByteArray := prog_1_method_37_code
def yX9_image : MethodName := ⟨RX9, "image", "()I"⟩
abbrev cX9_restore : ByteArray := prog_1_method_38_code
def yX9_restore : MethodName := ⟨RX9, "restore", "()I"⟩
abbrev cX9_count : ByteArray := prog_1_method_39_code
def yX9_count : MethodName := ⟨RX9, "count", "(I)I"⟩
abbrev cX9_keep : ByteArray := prog_1_method_40_code
def yX9_keep : MethodName := ⟨RX9, "keep", "(IIII)I"⟩
abbrev cX9_row : ByteArray := prog_1_method_41_code
def yX9_row : MethodName := ⟨RX9, "row", "(III)I"⟩
abbrev cX9_put : ByteArray := prog_1_method_42_code
def yX9_put : MethodName := ⟨RX9, "put", "(III)I"⟩
abbrev cX9_element : ByteArray := prog_1_method_43_code
def yX9_element : MethodName := ⟨RX9, "element", "(II)J"⟩
abbrev cX9_copy : ByteArray := prog_1_method_44_code
def yX9_copy : MethodName := ⟨RX9, "copy", "(IIIII)I"⟩
abbrev cX9_cost : ByteArray := prog_1_method_45_code
def yX9_cost : MethodName := ⟨RX9, "cost", "(I)I"⟩
abbrev cX9_toss : ByteArray := prog_1_method_46_code
def yX9_toss : MethodName := ⟨RX9, "toss", "(I)I"⟩
abbrev cX9_oneIf : ByteArray := prog_1_method_47_code
def yX9_oneIf : MethodName := ⟨RX9, "oneIf", "(Z)I"⟩
abbrev cX9_isWithin : ByteArray := prog_1_method_48_code
def yX9_isWithin : MethodName := ⟨RX9, "isWithin", "(III)Z"⟩
abbrev cX9_isBalcony : ByteArray := prog_1_method_49_code
def yX9_isBalcony : MethodName := ⟨RX9, "isBalcony", "(I)Z"⟩
abbrev cX9_isShelf : ByteArray := prog_1_method_50_code
def yX9_isShelf : MethodName := ⟨RX9, "isShelf", "(I)Z"⟩
abbrev cX9_isSpan : ByteArray := prog_1_method_51_code
def yX9_isSpan : MethodName := ⟨RX9, "isSpan", "(I)Z"⟩
abbrev cX9_isIn : ByteArray := prog_1_method_52_code
def yX9_isIn : MethodName := ⟨RX9, "isIn", "(II)Z"⟩
abbrev cX9_toThePower : ByteArray := prog_1_method_53_code
def yX9_toThePower : MethodName := ⟨RX9, "toThePower", "(II)J"⟩
abbrev cX9_refusalOf : ByteArray := prog_1_method_54_code
def yX9_refusalOf : MethodName := ⟨RX9, "refusalOf", "(II)I"⟩
abbrev cX9_fewestOfMood : ByteArray := prog_1_method_55_code
def yX9_fewestOfMood : MethodName := ⟨RX9, "fewestOfMood", "(IZ)I"⟩
abbrev cX9_feelsAsTold : ByteArray := prog_1_method_56_code
def yX9_feelsAsTold : MethodName := ⟨RX9, "feelsAsTold", "(LBalconiesParliament$Shelf;I)Z"⟩
abbrev cX9_isContent : ByteArray := prog_1_method_57_code
def yX9_isContent : MethodName := ⟨RX9, "isContent", "(IIII)Z"⟩
abbrev cX9_gainOf : ByteArray := prog_1_method_58_code
def yX9_gainOf : MethodName := ⟨RX9, "gainOf", "(IIII)I"⟩
def RX10 : String := "BalconiesParliamentModel"
def TX10 : u_T := fun k => match k with
  | 0 => ("BalconiesParliamentModel", "s", "[I", true)
  | 1 => ("BalconiesParliamentModel", "m", "[I", true)
  | 2 => ("BalconiesParliamentModel", "image", "[I", true)
  | 3 => ("BalconiesParliamentModel", "was", "[I", true)
  | 4 => ("BalconiesParliamentModel", "hasImage", "Z", false)
  | 5 => ("BalconiesParliamentModel", "place", "I", false)
  | 6 => ("BalconiesParliamentModel", "rowAt", "I", false)
  | 7 => ("BalconiesParliamentModel", "rowEnd", "I", false)
  | 8 => ("BalconiesParliamentModel", "numbers", "[I", true)
  | 9 => ("BalconiesParliamentModel", "most", "[I", true)
  | 10 => ("BalconiesParliamentModel", "seed", "I", false)
  | 11 => ("BalconiesParliamentModel", "kept", "[I", true)
  | 12 => ("BalconiesParliamentModel", "keptKind", "[I", true)
  | 13 => ("BalconiesParliamentModel", "keptFigure", "[I", true)
  | 14 => ("BalconiesParliamentModel", "sort", "[I", true)
  | 15 => ("BalconiesParliamentModel", "size", "[I", true)
  | 16 => ("BalconiesParliamentModel", "element", "[I", true)
  | _ => ("BalconiesParliamentModel", "thrown", "I", false)
def tyX10 : Nat → FieldType := fun k => match k with
  | 0 => .array .int
  | 1 => .array .int
  | 2 => .array .int
  | 3 => .array .int
  | 4 => .boolean
  | 5 => .int
  | 6 => .int
  | 7 => .int
  | 8 => .array .int
  | 9 => .array .int
  | 10 => .int
  | 11 => .array .int
  | 12 => .array .int
  | 13 => .array .int
  | 14 => .array .int
  | 15 => .array .int
  | 16 => .array .int
  | _ => .int
abbrev wsX100 : List Cond := u_ws RX10 TX10 18
theorem nmX10 : ∀ a, a < 18 → ∀ b, b < 18 → a ≠ b → (TX10 a).2.1 ≠ (TX10 b).2.1 := by decide +kernel
theorem tyX10_ok : ∀ k, k < 18 → parseFieldDescriptor (TX10 k).2.2.1 = some (tyX10 k) := by decide +kernel
abbrev cX10_init : ByteArray := prog_12_method_1_code
def yX10_init : MethodName := ⟨RX10, "<init>", "()V"⟩
abbrev cX10_isIn : ByteArray := prog_12_method_2_code
def yX10_isIn : MethodName := ⟨RX10, "isIn", "(III)Z"⟩
abbrev cX10_copies : ByteArray := prog_12_method_3_code
def yX10_copies : MethodName := ⟨RX10, "copies", "([I[I)V"⟩
abbrev cX10_of : ByteArray := prog_12_method_4_code
def yX10_of : MethodName := ⟨RX10, "of", "(II)I"⟩
abbrev cX10_isSpeaker : ByteArray := prog_12_method_5_code
def yX10_isSpeaker : MethodName := ⟨RX10, "isSpeaker", "(I)Z"⟩
abbrev cX10_isRail : ByteArray := prog_12_method_6_code
def yX10_isRail : MethodName := ⟨RX10, "isRail", "(I)Z"⟩
abbrev cX10_has : ByteArray := prog_12_method_7_code
def yX10_has : MethodName := ⟨RX10, "has", "(II)Z"⟩
abbrev cX10_bits : ByteArray := prog_12_method_8_code
def yX10_bits : MethodName := ⟨RX10, "bits", "(I)I"⟩
abbrev cX10_weightBy : ByteArray := prog_12_method_9_code
def yX10_weightBy : MethodName := ⟨RX10, "weightBy", "(III)I"⟩
abbrev cX10_swayBy : ByteArray := prog_12_method_10_code
def yX10_swayBy : MethodName := ⟨RX10, "swayBy", "(II)I"⟩
abbrev cX10_heightOf : ByteArray := prog_12_method_11_code
def yX10_heightOf : MethodName := ⟨RX10, "heightOf", "([II)I"⟩
abbrev cX10_weight : ByteArray := prog_12_method_12_code
def yX10_weight : MethodName := ⟨RX10, "weight", "([II)I"⟩
abbrev cX10_sideOf : ByteArray := prog_12_method_13_code
def yX10_sideOf : MethodName := ⟨RX10, "sideOf", "([II)I"⟩
abbrev cX10_isHeard : ByteArray := prog_12_method_14_code
def yX10_isHeard : MethodName := ⟨RX10, "isHeard", "([II)Z"⟩
abbrev cX10_doesVeto : ByteArray := prog_12_method_15_code
def yX10_doesVeto : MethodName := ⟨RX10, "doesVeto", "([II)Z"⟩
abbrev cX10_heardIn : ByteArray := prog_12_method_16_code
def yX10_heardIn : MethodName := ⟨RX10, "heardIn", "([I)I"⟩
abbrev cX10_moodSet : ByteArray := prog_12_method_17_code
def yX10_moodSet : MethodName := ⟨RX10, "moodSet", "([II)I"⟩
abbrev cX10_weightOf : ByteArray := prog_12_method_18_code
def yX10_weightOf : MethodName := ⟨RX10, "weightOf", "([II)I"⟩
abbrev cX10_isOnSide : ByteArray := prog_12_method_19_code
def yX10_isOnSide : MethodName := ⟨RX10, "isOnSide", "([III)Z"⟩
abbrev cX10_isVetoed : ByteArray := prog_12_method_20_code
def yX10_isVetoed : MethodName := ⟨RX10, "isVetoed", "([II)Z"⟩
abbrev cX10_whyBy : ByteArray := prog_12_method_21_code
def yX10_whyBy : MethodName := ⟨RX10, "whyBy", "([II)I"⟩
abbrev cX10_doesCarry : ByteArray := prog_12_method_22_code
def yX10_doesCarry : MethodName := ⟨RX10, "doesCarry", "([I)Z"⟩
abbrev cX10_forIn : ByteArray := prog_12_method_23_code
def yX10_forIn : MethodName := ⟨RX10, "forIn", "([I)I"⟩
abbrev cX10_doesSee : ByteArray := prog_12_method_24_code
def yX10_doesSee : MethodName := ⟨RX10, "doesSee", "([III)Z"⟩
abbrev cX10_looks : ByteArray := prog_12_method_25_code
def yX10_looks : MethodName := ⟨RX10, "looks", "([II)V"⟩
abbrev cX10_day : ByteArray := prog_12_method_26_code
def yX10_day : MethodName := ⟨RX10, "day", "([I)V"⟩
abbrev cX10_daysOn : ByteArray := prog_12_method_27_code
def yX10_daysOn : MethodName := ⟨RX10, "daysOn", "([II)V"⟩
abbrev cX10_here : ByteArray := prog_12_method_28_code
def yX10_here : MethodName := ⟨RX10, "here", "()I"⟩
abbrev cX10_readsNumber : ByteArray := prog_12_method_29_code
def yX10_readsNumber : MethodName := ⟨RX10, "readsNumber", "(II)Z"⟩
abbrev cX10_readsStatement : ByteArray := prog_12_method_30_code
def yX10_readsStatement : MethodName := ⟨RX10, "readsStatement", "()Z"⟩
abbrev cX10_adds : ByteArray := prog_12_method_31_code
def yX10_adds : MethodName := ⟨RX10, "adds", "(III)V"⟩
abbrev cX10_isDone : ByteArray := prog_12_method_32_code
def yX10_isDone : MethodName := ⟨RX10, "isDone", "(I)Z"⟩
abbrev cX10_quarter : ByteArray := prog_12_method_33_code
def yX10_quarter : MethodName := ⟨RX10, "quarter", "(I)I"⟩
abbrev cX10_speaker : ByteArray := prog_12_method_34_code
def yX10_speaker : MethodName := ⟨RX10, "speaker", "(II)I"⟩
abbrev cX10_balcony : ByteArray := prog_12_method_35_code
def yX10_balcony : MethodName := ⟨RX10, "balcony", "(II)I"⟩
abbrev cX10_comes : ByteArray := prog_12_method_36_code
def yX10_comes : MethodName := ⟨RX10, "comes", "(II)I"⟩
abbrev cX10_builds : ByteArray := prog_12_method_37_code
def yX10_builds : MethodName := ⟨RX10, "builds", "(II)I"⟩
abbrev cX10_shuts : ByteArray := prog_12_method_38_code
def yX10_shuts : MethodName := ⟨RX10, "shuts", "(I)I"⟩
abbrev cX10_thinks : ByteArray := prog_12_method_39_code
def yX10_thinks : MethodName := ⟨RX10, "thinks", "(II)I"⟩
abbrev cX10_goes : ByteArray := prog_12_method_40_code
def yX10_goes : MethodName := ⟨RX10, "goes", "(II)I"⟩
abbrev cX10_quota : ByteArray := prog_12_method_41_code
def yX10_quota : MethodName := ⟨RX10, "quota", "(I)I"⟩
abbrev cX10_days : ByteArray := prog_12_method_42_code
def yX10_days : MethodName := ⟨RX10, "days", "(I)I"⟩
abbrev cX10_carries : ByteArray := prog_12_method_43_code
def yX10_carries : MethodName := ⟨RX10, "carries", "(I)I"⟩
abbrev cX10_isLate : ByteArray := prog_12_method_44_code
def yX10_isLate : MethodName := ⟨RX10, "isLate", "(I)Z"⟩
abbrev cX10_takes : ByteArray := prog_12_method_45_code
def yX10_takes : MethodName := ⟨RX10, "takes", "(I)V"⟩
abbrev cX10_moodThen : ByteArray := prog_12_method_46_code
def yX10_moodThen : MethodName := ⟨RX10, "moodThen", "(II)I"⟩
abbrev cX10_then : ByteArray := prog_12_method_47_code
def yX10_then : MethodName := ⟨RX10, "then", "(II)I"⟩
abbrev cX10_when : ByteArray := prog_12_method_48_code
def yX10_when : MethodName := ⟨RX10, "when", "()I"⟩
abbrev cX10_holdsIn : ByteArray := prog_12_method_49_code
def yX10_holdsIn : MethodName := ⟨RX10, "holdsIn", "(I)I"⟩
abbrev cX10_holdsNow : ByteArray := prog_12_method_50_code
def yX10_holdsNow : MethodName := ⟨RX10, "holdsNow", "(I)I"⟩
abbrev cX10_holds : ByteArray := prog_12_method_51_code
def yX10_holds : MethodName := ⟨RX10, "holds", "(I)I"⟩
abbrev cX10_couldBy : ByteArray := prog_12_method_52_code
def yX10_couldBy : MethodName := ⟨RX10, "couldBy", "(II)Z"⟩
abbrev cX10_isGroup : ByteArray := prog_12_method_53_code
def yX10_isGroup : MethodName := ⟨RX10, "isGroup", "(I)Z"⟩
abbrev cX10_could : ByteArray := prog_12_method_54_code
def yX10_could : MethodName := ⟨RX10, "could", "(I)I"⟩
abbrev cX10_doesSwing : ByteArray := prog_12_method_55_code
def yX10_doesSwing : MethodName := ⟨RX10, "doesSwing", "(II)Z"⟩
abbrev cX10_isOfHeard : ByteArray := prog_12_method_56_code
def yX10_isOfHeard : MethodName := ⟨RX10, "isOfHeard", "(I)Z"⟩
abbrev cX10_orders : ByteArray := prog_12_method_57_code
def yX10_orders : MethodName := ⟨RX10, "orders", "(I)J"⟩
abbrev cX10_gcd : ByteArray := prog_12_method_58_code
def yX10_gcd : MethodName := ⟨RX10, "gcd", "(JJ)J"⟩
abbrev cX10_partOf : ByteArray := prog_12_method_59_code
def yX10_partOf : MethodName := ⟨RX10, "partOf", "(JJI)J"⟩
abbrev cX10_power : ByteArray := prog_12_method_60_code
def yX10_power : MethodName := ⟨RX10, "power", "(II)J"⟩
abbrev cX10_smallest : ByteArray := prog_12_method_61_code
def yX10_smallest : MethodName := ⟨RX10, "smallest", "()I"⟩
abbrev cX10_isLeast : ByteArray := prog_12_method_62_code
def yX10_isLeast : MethodName := ⟨RX10, "isLeast", "(I)Z"⟩
abbrev cX10_leastOnes : ByteArray := prog_12_method_63_code
def yX10_leastOnes : MethodName := ⟨RX10, "leastOnes", "()I"⟩
abbrev cX10_blocks : ByteArray := prog_12_method_64_code
def yX10_blocks : MethodName := ⟨RX10, "blocks", "()I"⟩
abbrev cX10_groups : ByteArray := prog_12_method_65_code
def yX10_groups : MethodName := ⟨RX10, "groups", "(I)I"⟩
abbrev cX10_swings : ByteArray := prog_12_method_66_code
def yX10_swings : MethodName := ⟨RX10, "swings", "(I)I"⟩
abbrev cX10_doesCarryWith : ByteArray := prog_12_method_67_code
def yX10_doesCarryWith : MethodName := ⟨RX10, "doesCarryWith", "(II)Z"⟩
abbrev cX10_win : ByteArray := prog_12_method_68_code
def yX10_win : MethodName := ⟨RX10, "win", "(I)I"⟩
abbrev cX10_guest : ByteArray := prog_12_method_69_code
def yX10_guest : MethodName := ⟨RX10, "guest", "(III)I"⟩
abbrev cX10_shutter : ByteArray := prog_12_method_70_code
def yX10_shutter : MethodName := ⟨RX10, "shutter", "(I)I"⟩
abbrev cX10_quotaMost : ByteArray := prog_12_method_71_code
def yX10_quotaMost : MethodName := ⟨RX10, "quotaMost", "()I"⟩
abbrev cX10_weightAt : ByteArray := prog_12_method_72_code
def yX10_weightAt : MethodName := ⟨RX10, "weightAt", "(II)I"⟩
abbrev cX10_rent : ByteArray := prog_12_method_73_code
def yX10_rent : MethodName := ⟨RX10, "rent", "(II)I"⟩
abbrev cX10_bestRail : ByteArray := prog_12_method_74_code
def yX10_bestRail : MethodName := ⟨RX10, "bestRail", "(I)I"⟩
abbrev cX10_matches : ByteArray := prog_12_method_75_code
def yX10_matches : MethodName := ⟨RX10, "matches", "()V"⟩
abbrev cX10_railOf : ByteArray := prog_12_method_76_code
def yX10_railOf : MethodName := ⟨RX10, "railOf", "(II)I"⟩
abbrev cX10_match : ByteArray := prog_12_method_77_code
def yX10_match : MethodName := ⟨RX10, "match", "(I)I"⟩
abbrev cX10_lines : ByteArray := prog_12_method_78_code
def yX10_lines : MethodName := ⟨RX10, "lines", "(I)I"⟩
abbrev cX10_leastOf : ByteArray := prog_12_method_79_code
def yX10_leastOf : MethodName := ⟨RX10, "leastOf", "(I)I"⟩
abbrev cX10_isLawBy : ByteArray := prog_12_method_80_code
def yX10_isLawBy : MethodName := ⟨RX10, "isLawBy", "(II)Z"⟩
abbrev cX10_law : ByteArray := prog_12_method_81_code
def yX10_law : MethodName := ⟨RX10, "law", "(II)I"⟩
abbrev cX10_whatIs : ByteArray := prog_12_method_82_code
def yX10_whatIs : MethodName := ⟨RX10, "whatIs", "(III)I"⟩
abbrev cX10_hasBy : ByteArray := prog_12_method_83_code
def yX10_hasBy : MethodName := ⟨RX10, "hasBy", "(IIIII)I"⟩
abbrev cX10_two : ByteArray := prog_12_method_84_code
def yX10_two : MethodName := ⟨RX10, "two", "(II)I"⟩
abbrev cX10_rain : ByteArray := prog_12_method_85_code
def yX10_rain : MethodName := ⟨RX10, "rain", "(II)J"⟩
abbrev cX10_mean : ByteArray := prog_12_method_86_code
def yX10_mean : MethodName := ⟨RX10, "mean", "(I)J"⟩
abbrev cX10_forged : ByteArray := prog_12_method_87_code
def yX10_forged : MethodName := ⟨RX10, "forged", "(I)I"⟩
abbrev cX10_judge : ByteArray := prog_12_method_88_code
def yX10_judge : MethodName := ⟨RX10, "judge", "(I)I"⟩
abbrev cX10_drawn : ByteArray := prog_12_method_89_code
def yX10_drawn : MethodName := ⟨RX10, "drawn", "(I)I"⟩
abbrev cX10_streets : ByteArray := prog_12_method_90_code
def yX10_streets : MethodName := ⟨RX10, "streets", "(III)I"⟩
abbrev cX10_image : ByteArray := prog_12_method_91_code
def yX10_image : MethodName := ⟨RX10, "image", "()I"⟩
abbrev cX10_restore : ByteArray := prog_12_method_92_code
def yX10_restore : MethodName := ⟨RX10, "restore", "()I"⟩
abbrev cX10_count : ByteArray := prog_12_method_93_code
def yX10_count : MethodName := ⟨RX10, "count", "(I)I"⟩
abbrev cX10_thrown : ByteArray := prog_12_method_94_code
def yX10_thrown : MethodName := ⟨RX10, "thrown", "()I"⟩
abbrev cX10_isShelf : ByteArray := prog_12_method_95_code
def yX10_isShelf : MethodName := ⟨RX10, "isShelf", "(I)Z"⟩
abbrev cX10_wrongRow : ByteArray := prog_12_method_96_code
def yX10_wrongRow : MethodName := ⟨RX10, "wrongRow", "(II)I"⟩
abbrev cX10_wrongKept : ByteArray := prog_12_method_97_code
def yX10_wrongKept : MethodName := ⟨RX10, "wrongKept", "(I)I"⟩
abbrev cX10_keep : ByteArray := prog_12_method_98_code
def yX10_keep : MethodName := ⟨RX10, "keep", "(IIII)I"⟩
abbrev cX10_row : ByteArray := prog_12_method_99_code
def yX10_row : MethodName := ⟨RX10, "row", "(III)I"⟩
abbrev cX10_put : ByteArray := prog_12_method_100_code
def yX10_put : MethodName := ⟨RX10, "put", "(III)I"⟩
abbrev cX10_element : ByteArray := prog_12_method_101_code
def yX10_element : MethodName := ⟨RX10, "element", "(II)J"⟩
abbrev cX10_copy : ByteArray := prog_12_method_102_code
def yX10_copy : MethodName := ⟨RX10, "copy", "(IIIII)I"⟩
abbrev cX10_costBy : ByteArray := prog_12_method_103_code
def yX10_costBy : MethodName := ⟨RX10, "costBy", "(II)I"⟩
abbrev cX10_cost : ByteArray := prog_12_method_104_code
def yX10_cost : MethodName := ⟨RX10, "cost", "(I)I"⟩
abbrev cX10_toss : ByteArray := prog_12_method_105_code
def yX10_toss : MethodName := ⟨RX10, "toss", "(I)I"⟩
def RJ6 : String := "java/lang/Integer"
def TJ6 : u_T := fun k => match k with
  | _ => ("", "", "", false)
def tyJ6 : Nat → FieldType := fun k => match k with
  | _ => .int
abbrev wsJ60 : List Cond := u_ws RJ6 TJ6 0
theorem nmJ6 : ∀ a, a < 0 → ∀ b, b < 0 → a ≠ b → (TJ6 a).2.1 ≠ (TJ6 b).2.1 := by decide +kernel
theorem tyJ6_ok : ∀ k, k < 0 → parseFieldDescriptor (TJ6 k).2.2.1 = some (tyJ6 k) := by decide +kernel
abbrev cJ6_bitCount_0f7a4 : ByteArray := prog_16_method_49_code
def yJ6_bitCount_0f7a4 : MethodName := ⟨RJ6, "bitCount", "(I)I"⟩
def RJ9 : String := "java/lang/Math"
def TJ9 : u_T := fun k => match k with
  | _ => ("", "", "", false)
def tyJ9 : Nat → FieldType := fun k => match k with
  | _ => .int
abbrev wsJ90 : List Cond := u_ws RJ9 TJ9 0
theorem nmJ9 : ∀ a, a < 0 → ∀ b, b < 0 → a ≠ b → (TJ9 a).2.1 ≠ (TJ9 b).2.1 := by decide +kernel
theorem tyJ9_ok : ∀ k, k < 0 → parseFieldDescriptor (TJ9 k).2.2.1 = some (tyJ9 k) := by decide +kernel
abbrev cJ9_abs_0f7a4 : ByteArray := prog_17_method_59_code
def yJ9_abs_0f7a4 : MethodName := ⟨RJ9, "abs", "(I)I"⟩
abbrev cJ9_abs_067f4 : ByteArray := prog_17_method_61_code
def yJ9_abs_067f4 : MethodName := ⟨RJ9, "abs", "(J)J"⟩
abbrev cJ9_max_7cf53 : ByteArray := prog_17_method_65_code
def yJ9_max_7cf53 : MethodName := ⟨RJ9, "max", "(II)I"⟩
abbrev cJ9_min_7cf53 : ByteArray := prog_17_method_69_code
def yJ9_min_7cf53 : MethodName := ⟨RJ9, "min", "(II)I"⟩
def RJ0 : String := "java/lang/String"
def TJ0 : u_T := fun k => match k with
  | _ => ("", "", "", false)
def tyJ0 : Nat → FieldType := fun k => match k with
  | _ => .int
abbrev wsJ00 : List Cond := u_ws RJ0 TJ0 0
theorem nmJ0 : ∀ a, a < 0 → ∀ b, b < 0 → a ≠ b → (TJ0 a).2.1 ≠ (TJ0 b).2.1 := by decide +kernel
theorem tyJ0_ok : ∀ k, k < 0 → parseFieldDescriptor (TJ0 k).2.2.1 = some (tyJ0 k) := by decide +kernel
def RJ10 : String := "java/lang/System"
def TJ10 : u_T := fun k => match k with
  | _ => ("", "", "", false)
def tyJ10 : Nat → FieldType := fun k => match k with
  | _ => .int
abbrev wsJ100 : List Cond := u_ws RJ10 TJ10 0
theorem nmJ10 : ∀ a, a < 0 → ∀ b, b < 0 → a ≠ b → (TJ10 a).2.1 ≠ (TJ10 b).2.1 := by decide +kernel
theorem tyJ10_ok : ∀ k, k < 0 → parseFieldDescriptor (TJ10 k).2.2.1 = some (tyJ10 k) := by decide +kernel
def RL : String := "BalconiesParliamentLaw"
abbrev cL_element : ByteArray := method_3_code
def yL_element : MethodName := ⟨RL, "element", "(LBalconiesParliament;II[J)I"⟩
abbrev cL_law : ByteArray := code
def yL_law : MethodName := ⟨RL, "law", "([I)Z"⟩
abbrev vwCl : List vw_C := [(RX5, TX5, 3), (RX7, TX7, 6), (RX8, TX8, 11), (RX9, TX9, 6), (RX10, TX10, 18)]
