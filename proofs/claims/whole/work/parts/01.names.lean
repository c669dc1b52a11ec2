-- ===== PART A: goes FIRST, ahead of the names: the tables' words, and 'selects' of the private methods out of them =====
/-- a private method of a class that the tables say can be made, by its rows of tables_1 -/
def lw_okq (q : MethodName × Nat) : Prop := (q.1.cls ≠ "java/lang/invoke/MethodHandle" ∧ q.1.cls ≠ "java/lang/invoke/VarHandle") ∧ Cond.instantiable q.1.cls q.2 ∈ tables_1 ∧ Cond.privateMethod q.1 ∈ tables_1 ∧ Cond.instanceMethod q.1 ∈ tables_1
theorem lw_p0 : lw_okq (⟨"DoorTears$Reader", "step", "()V"⟩, 5) := ⟨⟨by decide +kernel, by decide +kernel⟩, List.mem_of_getElem? (i := 111) (by decide +kernel), List.mem_of_getElem? (i := 303) (by decide +kernel), List.mem_of_getElem? (i := 304) (by decide +kernel)⟩
theorem lw_p1 : lw_okq (⟨"DoorTears$Reader", "readClause", "()Z"⟩, 5) := ⟨⟨by decide +kernel, by decide +kernel⟩, List.mem_of_getElem? (i := 111) (by decide +kernel), List.mem_of_getElem? (i := 317) (by decide +kernel), List.mem_of_getElem? (i := 318) (by decide +kernel)⟩
theorem lw_p2 : lw_okq (⟨"DoorTears$Reader", "isWord", "(Ljava/lang/String;)Z"⟩, 5) := ⟨⟨by decide +kernel, by decide +kernel⟩, List.mem_of_getElem? (i := 111) (by decide +kernel), List.mem_of_getElem? (i := 322) (by decide +kernel), List.mem_of_getElem? (i := 323) (by decide +kernel)⟩
theorem lw_p3 : lw_okq (⟨"DoorTears$Reader", "readKitchen", "(Z)Z"⟩, 5) := ⟨⟨by decide +kernel, by decide +kernel⟩, List.mem_of_getElem? (i := 111) (by decide +kernel), List.mem_of_getElem? (i := 379) (by decide +kernel), List.mem_of_getElem? (i := 380) (by decide +kernel)⟩
theorem lw_p4 : lw_okq (⟨"DoorTears$Reader", "nextNumber", "(I)I"⟩, 5) := ⟨⟨by decide +kernel, by decide +kernel⟩, List.mem_of_getElem? (i := 111) (by decide +kernel), List.mem_of_getElem? (i := 383) (by decide +kernel), List.mem_of_getElem? (i := 384) (by decide +kernel)⟩
theorem lw_p5 : lw_okq (⟨"DoorTears$Reader", "readFell", "()Z"⟩, 5) := ⟨⟨by decide +kernel, by decide +kernel⟩, List.mem_of_getElem? (i := 111) (by decide +kernel), List.mem_of_getElem? (i := 393) (by decide +kernel), List.mem_of_getElem? (i := 394) (by decide +kernel)⟩
theorem lw_p6 : lw_okq (⟨"DoorTears$Reader", "kindWord", "()I"⟩, 5) := ⟨⟨by decide +kernel, by decide +kernel⟩, List.mem_of_getElem? (i := 111) (by decide +kernel), List.mem_of_getElem? (i := 405) (by decide +kernel), List.mem_of_getElem? (i := 406) (by decide +kernel)⟩
theorem lw_p7 : lw_okq (⟨"DoorTears$Reader", "readPerson", "(I)Z"⟩, 5) := ⟨⟨by decide +kernel, by decide +kernel⟩, List.mem_of_getElem? (i := 111) (by decide +kernel), List.mem_of_getElem? (i := 414) (by decide +kernel), List.mem_of_getElem? (i := 415) (by decide +kernel)⟩
theorem lw_p8 : lw_okq (⟨"DoorTears$Lane", "homesOf", "(I)I"⟩, 13) := ⟨⟨by decide +kernel, by decide +kernel⟩, List.mem_of_getElem? (i := 45) (by decide +kernel), List.mem_of_getElem? (i := 513) (by decide +kernel), List.mem_of_getElem? (i := 514) (by decide +kernel)⟩
theorem lw_p9 : lw_okq (⟨"DoorTears$Lane", "takesIn", "(II)Z"⟩, 13) := ⟨⟨by decide +kernel, by decide +kernel⟩, List.mem_of_getElem? (i := 45) (by decide +kernel), List.mem_of_getElem? (i := 522) (by decide +kernel), List.mem_of_getElem? (i := 523) (by decide +kernel)⟩
theorem lw_p10 : lw_okq (⟨"DoorTears$Foretelling", "sparesField", "(LDoorTears$Lane;II)Z"⟩, 1) := ⟨⟨by decide +kernel, by decide +kernel⟩, List.mem_of_getElem? (i := 154) (by decide +kernel), List.mem_of_getElem? (i := 619) (by decide +kernel), List.mem_of_getElem? (i := 620) (by decide +kernel)⟩
theorem lw_p11 : lw_okq (⟨"DoorTears$Funeral", "tryOrders", "(III)V"⟩, 4) := ⟨⟨by decide +kernel, by decide +kernel⟩, List.mem_of_getElem? (i := 167) (by decide +kernel), List.mem_of_getElem? (i := 633) (by decide +kernel), List.mem_of_getElem? (i := 634) (by decide +kernel)⟩
theorem lw_p12 : lw_okq (⟨"DoorTears$Funeral", "letGo", "(IIII)V"⟩, 4) := ⟨⟨by decide +kernel, by decide +kernel⟩, List.mem_of_getElem? (i := 167) (by decide +kernel), List.mem_of_getElem? (i := 638) (by decide +kernel), List.mem_of_getElem? (i := 639) (by decide +kernel)⟩
theorem lw_p13 : lw_okq (⟨"DoorTears$Sights", "fits", "(I)Z"⟩, 4) := ⟨⟨by decide +kernel, by decide +kernel⟩, List.mem_of_getElem? (i := 190) (by decide +kernel), List.mem_of_getElem? (i := 692) (by decide +kernel), List.mem_of_getElem? (i := 693) (by decide +kernel)⟩
theorem lw_p14 : lw_okq (⟨"DoorTears$Cup", "ring", "(I)I"⟩, 6) := ⟨⟨by decide +kernel, by decide +kernel⟩, List.mem_of_getElem? (i := 211) (by decide +kernel), List.mem_of_getElem? (i := 745) (by decide +kernel), List.mem_of_getElem? (i := 746) (by decide +kernel)⟩
theorem lw_p15 : lw_okq (⟨"DoorTears$Cup", "atEnd", "(I)I"⟩, 6) := ⟨⟨by decide +kernel, by decide +kernel⟩, List.mem_of_getElem? (i := 211) (by decide +kernel), List.mem_of_getElem? (i := 752) (by decide +kernel), List.mem_of_getElem? (i := 753) (by decide +kernel)⟩
def lw_privs_1 : List (MethodName × Nat) := [(⟨"DoorTears$Reader", "step", "()V"⟩, 5), (⟨"DoorTears$Reader", "readClause", "()Z"⟩, 5), (⟨"DoorTears$Reader", "isWord", "(Ljava/lang/String;)Z"⟩, 5), (⟨"DoorTears$Reader", "readKitchen", "(Z)Z"⟩, 5), (⟨"DoorTears$Reader", "nextNumber", "(I)I"⟩, 5), (⟨"DoorTears$Reader", "readFell", "()Z"⟩, 5), (⟨"DoorTears$Reader", "kindWord", "()I"⟩, 5), (⟨"DoorTears$Reader", "readPerson", "(I)Z"⟩, 5), (⟨"DoorTears$Lane", "homesOf", "(I)I"⟩, 13), (⟨"DoorTears$Lane", "takesIn", "(II)Z"⟩, 13), (⟨"DoorTears$Foretelling", "sparesField", "(LDoorTears$Lane;II)Z"⟩, 1), (⟨"DoorTears$Funeral", "tryOrders", "(III)V"⟩, 4), (⟨"DoorTears$Funeral", "letGo", "(IIII)V"⟩, 4), (⟨"DoorTears$Sights", "fits", "(I)Z"⟩, 4), (⟨"DoorTears$Cup", "ring", "(I)I"⟩, 6), (⟨"DoorTears$Cup", "atEnd", "(I)I"⟩, 6)]
theorem lw_r1 : ∀ q ∈ lw_privs_1, lw_okq q := List.forall_mem_cons.mpr ⟨lw_p0, List.forall_mem_cons.mpr ⟨lw_p1, List.forall_mem_cons.mpr ⟨lw_p2, List.forall_mem_cons.mpr ⟨lw_p3, List.forall_mem_cons.mpr ⟨lw_p4, List.forall_mem_cons.mpr ⟨lw_p5, List.forall_mem_cons.mpr ⟨lw_p6, List.forall_mem_cons.mpr ⟨lw_p7, List.forall_mem_cons.mpr ⟨lw_p8, List.forall_mem_cons.mpr ⟨lw_p9, List.forall_mem_cons.mpr ⟨lw_p10, List.forall_mem_cons.mpr ⟨lw_p11, List.forall_mem_cons.mpr ⟨lw_p12, List.forall_mem_cons.mpr ⟨lw_p13, List.forall_mem_cons.mpr ⟨lw_p14, List.forall_mem_cons.mpr ⟨lw_p15, fun _ h => absurd h List.not_mem_nil⟩⟩⟩⟩⟩⟩⟩⟩⟩⟩⟩⟩⟩⟩⟩⟩
theorem lw_p16 : lw_okq (⟨"DoorTears", "heldInAllCups", "()I"⟩, 12) := ⟨⟨by decide +kernel, by decide +kernel⟩, List.mem_of_getElem? (i := 21) (by decide +kernel), List.mem_of_getElem? (i := 817) (by decide +kernel), List.mem_of_getElem? (i := 818) (by decide +kernel)⟩
theorem lw_p17 : lw_okq (⟨"DoorTearsModel", "misses", "()V"⟩, 27) := ⟨⟨by decide +kernel, by decide +kernel⟩, List.mem_of_getElem? (i := 821) (by decide +kernel), List.mem_of_getElem? (i := 827) (by decide +kernel), List.mem_of_getElem? (i := 828) (by decide +kernel)⟩
theorem lw_p18 : lw_okq (⟨"DoorTearsModel", "reads", "()V"⟩, 27) := ⟨⟨by decide +kernel, by decide +kernel⟩, List.mem_of_getElem? (i := 821) (by decide +kernel), List.mem_of_getElem? (i := 928) (by decide +kernel), List.mem_of_getElem? (i := 929) (by decide +kernel)⟩
theorem lw_p19 : lw_okq (⟨"DoorTearsModel", "advances", "()V"⟩, 27) := ⟨⟨by decide +kernel, by decide +kernel⟩, List.mem_of_getElem? (i := 821) (by decide +kernel), List.mem_of_getElem? (i := 935) (by decide +kernel), List.mem_of_getElem? (i := 936) (by decide +kernel)⟩
theorem lw_p20 : lw_okq (⟨"DoorTearsModel", "look", "(I)I"⟩, 27) := ⟨⟨by decide +kernel, by decide +kernel⟩, List.mem_of_getElem? (i := 821) (by decide +kernel), List.mem_of_getElem? (i := 939) (by decide +kernel), List.mem_of_getElem? (i := 940) (by decide +kernel)⟩
theorem lw_p21 : lw_okq (⟨"DoorTearsModel", "clause", "()V"⟩, 27) := ⟨⟨by decide +kernel, by decide +kernel⟩, List.mem_of_getElem? (i := 821) (by decide +kernel), List.mem_of_getElem? (i := 949) (by decide +kernel), List.mem_of_getElem? (i := 950) (by decide +kernel)⟩
theorem lw_p22 : lw_okq (⟨"DoorTearsModel", "tellsPerson", "(I)V"⟩, 27) := ⟨⟨by decide +kernel, by decide +kernel⟩, List.mem_of_getElem? (i := 821) (by decide +kernel), List.mem_of_getElem? (i := 959) (by decide +kernel), List.mem_of_getElem? (i := 960) (by decide +kernel)⟩
theorem lw_p23 : lw_okq (⟨"DoorTearsModel", "fails", "(Z)V"⟩, 27) := ⟨⟨by decide +kernel, by decide +kernel⟩, List.mem_of_getElem? (i := 821) (by decide +kernel), List.mem_of_getElem? (i := 963) (by decide +kernel), List.mem_of_getElem? (i := 964) (by decide +kernel)⟩
theorem lw_p24 : lw_okq (⟨"DoorTearsModel", "figure", "(II)I"⟩, 27) := ⟨⟨by decide +kernel, by decide +kernel⟩, List.mem_of_getElem? (i := 821) (by decide +kernel), List.mem_of_getElem? (i := 967) (by decide +kernel), List.mem_of_getElem? (i := 968) (by decide +kernel)⟩
theorem lw_p25 : lw_okq (⟨"DoorTearsModel", "tellsKitchen", "(I)V"⟩, 27) := ⟨⟨by decide +kernel, by decide +kernel⟩, List.mem_of_getElem? (i := 821) (by decide +kernel), List.mem_of_getElem? (i := 971) (by decide +kernel), List.mem_of_getElem? (i := 972) (by decide +kernel)⟩
theorem lw_p26 : lw_okq (⟨"DoorTearsModel", "tellsFallen", "()V"⟩, 27) := ⟨⟨by decide +kernel, by decide +kernel⟩, List.mem_of_getElem? (i := 821) (by decide +kernel), List.mem_of_getElem? (i := 975) (by decide +kernel), List.mem_of_getElem? (i := 976) (by decide +kernel)⟩
theorem lw_p27 : lw_okq (⟨"DoorTearsModel", "tellsNothing", "()V"⟩, 27) := ⟨⟨by decide +kernel, by decide +kernel⟩, List.mem_of_getElem? (i := 821) (by decide +kernel), List.mem_of_getElem? (i := 979) (by decide +kernel), List.mem_of_getElem? (i := 980) (by decide +kernel)⟩
theorem lw_p28 : lw_okq (⟨"DoorTearsModel", "isKitchen", "(I)Z"⟩, 27) := ⟨⟨by decide +kernel, by decide +kernel⟩, List.mem_of_getElem? (i := 821) (by decide +kernel), List.mem_of_getElem? (i := 991) (by decide +kernel), List.mem_of_getElem? (i := 992) (by decide +kernel)⟩
theorem lw_p29 : lw_okq (⟨"DoorTearsModel", "homes", "(I)I"⟩, 27) := ⟨⟨by decide +kernel, by decide +kernel⟩, List.mem_of_getElem? (i := 821) (by decide +kernel), List.mem_of_getElem? (i := 995) (by decide +kernel), List.mem_of_getElem? (i := 996) (by decide +kernel)⟩
theorem lw_p30 : lw_okq (⟨"DoorTearsModel", "isPerson", "(I)Z"⟩, 27) := ⟨⟨by decide +kernel, by decide +kernel⟩, List.mem_of_getElem? (i := 821) (by decide +kernel), List.mem_of_getElem? (i := 1003) (by decide +kernel), List.mem_of_getElem? (i := 1004) (by decide +kernel)⟩
theorem lw_p31 : lw_okq (⟨"DoorTearsModel", "notes", "()V"⟩, 27) := ⟨⟨by decide +kernel, by decide +kernel⟩, List.mem_of_getElem? (i := 821) (by decide +kernel), List.mem_of_getElem? (i := 1021) (by decide +kernel), List.mem_of_getElem? (i := 1022) (by decide +kernel)⟩
def lw_privs_2 : List (MethodName × Nat) := [(⟨"DoorTears", "heldInAllCups", "()I"⟩, 12), (⟨"DoorTearsModel", "misses", "()V"⟩, 27), (⟨"DoorTearsModel", "reads", "()V"⟩, 27), (⟨"DoorTearsModel", "advances", "()V"⟩, 27), (⟨"DoorTearsModel", "look", "(I)I"⟩, 27), (⟨"DoorTearsModel", "clause", "()V"⟩, 27), (⟨"DoorTearsModel", "tellsPerson", "(I)V"⟩, 27), (⟨"DoorTearsModel", "fails", "(Z)V"⟩, 27), (⟨"DoorTearsModel", "figure", "(II)I"⟩, 27), (⟨"DoorTearsModel", "tellsKitchen", "(I)V"⟩, 27), (⟨"DoorTearsModel", "tellsFallen", "()V"⟩, 27), (⟨"DoorTearsModel", "tellsNothing", "()V"⟩, 27), (⟨"DoorTearsModel", "isKitchen", "(I)Z"⟩, 27), (⟨"DoorTearsModel", "homes", "(I)I"⟩, 27), (⟨"DoorTearsModel", "isPerson", "(I)Z"⟩, 27), (⟨"DoorTearsModel", "notes", "()V"⟩, 27)]
theorem lw_r2 : ∀ q ∈ lw_privs_2, lw_okq q := List.forall_mem_cons.mpr ⟨lw_p16, List.forall_mem_cons.mpr ⟨lw_p17, List.forall_mem_cons.mpr ⟨lw_p18, List.forall_mem_cons.mpr ⟨lw_p19, List.forall_mem_cons.mpr ⟨lw_p20, List.forall_mem_cons.mpr ⟨lw_p21, List.forall_mem_cons.mpr ⟨lw_p22, List.forall_mem_cons.mpr ⟨lw_p23, List.forall_mem_cons.mpr ⟨lw_p24, List.forall_mem_cons.mpr ⟨lw_p25, List.forall_mem_cons.mpr ⟨lw_p26, List.forall_mem_cons.mpr ⟨lw_p27, List.forall_mem_cons.mpr ⟨lw_p28, List.forall_mem_cons.mpr ⟨lw_p29, List.forall_mem_cons.mpr ⟨lw_p30, List.forall_mem_cons.mpr ⟨lw_p31, fun _ h => absurd h List.not_mem_nil⟩⟩⟩⟩⟩⟩⟩⟩⟩⟩⟩⟩⟩⟩⟩⟩
theorem lw_p32 : lw_okq (⟨"DoorTearsModel", "passes", "([I)I"⟩, 27) := ⟨⟨by decide +kernel, by decide +kernel⟩, List.mem_of_getElem? (i := 821) (by decide +kernel), List.mem_of_getElem? (i := 1025) (by decide +kernel), List.mem_of_getElem? (i := 1026) (by decide +kernel)⟩
theorem lw_p33 : lw_okq (⟨"DoorTearsModel", "clears", "()V"⟩, 27) := ⟨⟨by decide +kernel, by decide +kernel⟩, List.mem_of_getElem? (i := 821) (by decide +kernel), List.mem_of_getElem? (i := 1032) (by decide +kernel), List.mem_of_getElem? (i := 1033) (by decide +kernel)⟩
theorem lw_p34 : lw_okq (⟨"DoorTearsModel", "goes", "([II)I"⟩, 27) := ⟨⟨by decide +kernel, by decide +kernel⟩, List.mem_of_getElem? (i := 821) (by decide +kernel), List.mem_of_getElem? (i := 1039) (by decide +kernel), List.mem_of_getElem? (i := 1040) (by decide +kernel)⟩
theorem lw_p35 : lw_okq (⟨"DoorTearsModel", "mayGo", "([III)Z"⟩, 27) := ⟨⟨by decide +kernel, by decide +kernel⟩, List.mem_of_getElem? (i := 821) (by decide +kernel), List.mem_of_getElem? (i := 1043) (by decide +kernel), List.mem_of_getElem? (i := 1044) (by decide +kernel)⟩
theorem lw_p36 : lw_okq (⟨"DoorTearsModel", "goesOn", "(I)V"⟩, 27) := ⟨⟨by decide +kernel, by decide +kernel⟩, List.mem_of_getElem? (i := 821) (by decide +kernel), List.mem_of_getElem? (i := 1090) (by decide +kernel), List.mem_of_getElem? (i := 1091) (by decide +kernel)⟩
theorem lw_p37 : lw_okq (⟨"DoorTearsModel", "times", "(I)I"⟩, 27) := ⟨⟨by decide +kernel, by decide +kernel⟩, List.mem_of_getElem? (i := 821) (by decide +kernel), List.mem_of_getElem? (i := 1110) (by decide +kernel), List.mem_of_getElem? (i := 1111) (by decide +kernel)⟩
theorem lw_p38 : lw_okq (⟨"DoorTearsModel", "fields", "()I"⟩, 27) := ⟨⟨by decide +kernel, by decide +kernel⟩, List.mem_of_getElem? (i := 821) (by decide +kernel), List.mem_of_getElem? (i := 1118) (by decide +kernel), List.mem_of_getElem? (i := 1119) (by decide +kernel)⟩
theorem lw_p39 : lw_okq (⟨"DoorTearsModel", "orders", "()Z"⟩, 27) := ⟨⟨by decide +kernel, by decide +kernel⟩, List.mem_of_getElem? (i := 821) (by decide +kernel), List.mem_of_getElem? (i := 1122) (by decide +kernel), List.mem_of_getElem? (i := 1123) (by decide +kernel)⟩
theorem lw_p40 : lw_okq (⟨"DoorTearsModel", "openOnes", "()I"⟩, 27) := ⟨⟨by decide +kernel, by decide +kernel⟩, List.mem_of_getElem? (i := 821) (by decide +kernel), List.mem_of_getElem? (i := 1134) (by decide +kernel), List.mem_of_getElem? (i := 1135) (by decide +kernel)⟩
theorem lw_p41 : lw_okq (⟨"DoorTearsModel", "shifts", "(II)V"⟩, 27) := ⟨⟨by decide +kernel, by decide +kernel⟩, List.mem_of_getElem? (i := 821) (by decide +kernel), List.mem_of_getElem? (i := 1175) (by decide +kernel), List.mem_of_getElem? (i := 1176) (by decide +kernel)⟩
theorem lw_p42 : lw_okq (⟨"DoorTearsModel", "lays", "(IIII)V"⟩, 27) := ⟨⟨by decide +kernel, by decide +kernel⟩, List.mem_of_getElem? (i := 821) (by decide +kernel), List.mem_of_getElem? (i := 1179) (by decide +kernel), List.mem_of_getElem? (i := 1180) (by decide +kernel)⟩
theorem lw_p43 : lw_okq (⟨"DoorTearsModel", "griefs", "()I"⟩, 27) := ⟨⟨by decide +kernel, by decide +kernel⟩, List.mem_of_getElem? (i := 821) (by decide +kernel), List.mem_of_getElem? (i := 1208) (by decide +kernel), List.mem_of_getElem? (i := 1209) (by decide +kernel)⟩
theorem lw_p44 : lw_okq (⟨"DoorTearsModel", "lucks", "()I"⟩, 27) := ⟨⟨by decide +kernel, by decide +kernel⟩, List.mem_of_getElem? (i := 821) (by decide +kernel), List.mem_of_getElem? (i := 1212) (by decide +kernel), List.mem_of_getElem? (i := 1213) (by decide +kernel)⟩
def lw_privs_3 : List (MethodName × Nat) := [(⟨"DoorTearsModel", "passes", "([I)I"⟩, 27), (⟨"DoorTearsModel", "clears", "()V"⟩, 27), (⟨"DoorTearsModel", "goes", "([II)I"⟩, 27), (⟨"DoorTearsModel", "mayGo", "([III)Z"⟩, 27), (⟨"DoorTearsModel", "goesOn", "(I)V"⟩, 27), (⟨"DoorTearsModel", "times", "(I)I"⟩, 27), (⟨"DoorTearsModel", "fields", "()I"⟩, 27), (⟨"DoorTearsModel", "orders", "()Z"⟩, 27), (⟨"DoorTearsModel", "openOnes", "()I"⟩, 27), (⟨"DoorTearsModel", "shifts", "(II)V"⟩, 27), (⟨"DoorTearsModel", "lays", "(IIII)V"⟩, 27), (⟨"DoorTearsModel", "griefs", "()I"⟩, 27), (⟨"DoorTearsModel", "lucks", "()I"⟩, 27)]
theorem lw_r3 : ∀ q ∈ lw_privs_3, lw_okq q := List.forall_mem_cons.mpr ⟨lw_p32, List.forall_mem_cons.mpr ⟨lw_p33, List.forall_mem_cons.mpr ⟨lw_p34, List.forall_mem_cons.mpr ⟨lw_p35, List.forall_mem_cons.mpr ⟨lw_p36, List.forall_mem_cons.mpr ⟨lw_p37, List.forall_mem_cons.mpr ⟨lw_p38, List.forall_mem_cons.mpr ⟨lw_p39, List.forall_mem_cons.mpr ⟨lw_p40, List.forall_mem_cons.mpr ⟨lw_p41, List.forall_mem_cons.mpr ⟨lw_p42, List.forall_mem_cons.mpr ⟨lw_p43, List.forall_mem_cons.mpr ⟨lw_p44, fun _ h => absurd h List.not_mem_nil⟩⟩⟩⟩⟩⟩⟩⟩⟩⟩⟩⟩⟩
def lw_privs : List (MethodName × Nat) := lw_privs_1 ++ (lw_privs_2 ++ (lw_privs_3))
def lw_tbl : List Cond := k2_sels lw_privs ++ tables_1
theorem lw_privs_ok : ∀ q ∈ lw_privs, lw_okq q := by
  show ∀ q ∈ lw_privs_1 ++ (lw_privs_2 ++ (lw_privs_3)), lw_okq q
  exact List.forall_mem_append.mpr ⟨lw_r1, List.forall_mem_append.mpr ⟨lw_r2, lw_r3⟩⟩
/-! ===== BEGIN words of one list among another's, by their places ===== -/
theorem goodIn_r {big : List Cond} (ws : List Cond) (ps : List Nat) (hp : ws = ps.filterMap (fun i => big[i]?)) (h : ws.all goodWord = true) : GoodIn big ws := by
  intro w hw
  have h1 := List.all_eq_true.mp h w hw
  rw [hp] at hw
  obtain ⟨i, -, hi⟩ := List.mem_filterMap.mp hw
  have hm : w ∈ big := by first | exact List.mem_of_getElem? hi | exact List.getElem?_mem hi
  exact ⟨hm, good_of_word h1⟩
theorem goodIn_app {big a b : List Cond} (ha : GoodIn big a) (hb : GoodIn big b) : GoodIn big (a ++ b) := fun w h => (List.mem_append.mp h).elim (ha w) (hb w)
theorem goodIn_ca {big a b : List Cond} {c : Cond} (ha : GoodIn big (c :: a)) (hb : GoodIn big b) : GoodIn big (c :: (a ++ b)) := fun w h => (List.mem_cons.mp h).elim (fun e => ha w (List.mem_cons.mpr (Or.inl e))) (fun h => (List.mem_append.mp h).elim (fun h => ha w (List.mem_cons.mpr (Or.inr h))) (hb w))
theorem goodIn_sub {big ws : List Cond} (hm : ∀ w ∈ ws, w ∈ big) (h : ws.all goodWord = true) : GoodIn big ws := fun w hw => ⟨hm w hw, good_of_word (List.all_eq_true.mp h w hw)⟩
/-! ===== END ===== -/

/-! ===== BEGIN printed: names, fields, word lists, decode rows ===== -/
def RX0 : String := "DoorTears$Cup"
def TX0 : u_T := fun k => match k with
  | 0 => ("DoorTears$Cup", "sorts", "[I", true)
  | 1 => ("DoorTears$Cup", "values", "[I", true)
  | 2 => ("DoorTears$Cup", "first", "I", false)
  | 3 => ("DoorTears$Cup", "missing", "Z", false)
  | 4 => ("DoorTears$Cup", "places", "I", false)
  | _ => ("DoorTears$Cup", "held", "I", false)
def tyX0 : Nat → FieldType := fun k => match k with
  | 0 => .array .int
  | 1 => .array .int
  | 2 => .int
  | 3 => .boolean
  | 4 => .int
  | _ => .int
abbrev wsX00 : List Cond := u_ws RX0 TX0 6
theorem nmX0 : ∀ a, a < 6 → ∀ b, b < 6 → a ≠ b → (TX0 a).2.1 ≠ (TX0 b).2.1 := by decide +kernel
theorem tyX0_ok : ∀ k, k < 6 → parseFieldDescriptor (TX0 k).2.2.1 = some (tyX0 k) := by decide +kernel
abbrev cX0_init : ByteArray := prog_2_method_1_code
def yX0_init : MethodName := ⟨RX0, "<init>", "()V"⟩
abbrev cX0_make : ByteArray := prog_2_method_2_code
def yX0_make : MethodName := ⟨RX0, "make", "(I)V"⟩
abbrev cX0_discard : ByteArray := prog_2_method_3_code
def yX0_discard : MethodName := ⟨RX0, "discard", "()V"⟩
abbrev cX0_add : ByteArray := prog_2_method_4_code
def yX0_add : MethodName := ⟨RX0, "add", "(III)V"⟩
abbrev cX0_sortAt : ByteArray := prog_2_method_5_code
def yX0_sortAt : MethodName := ⟨RX0, "sortAt", "(I)I"⟩
abbrev cX0_valueAt : ByteArray := prog_2_method_6_code
def yX0_valueAt : MethodName := ⟨RX0, "valueAt", "(I)I"⟩
abbrev cX0_remove : ByteArray := prog_2_method_7_code
def yX0_remove : MethodName := ⟨RX0, "remove", "(I)V"⟩
abbrev cX0_moveFirstTo : ByteArray := prog_2_method_8_code
def yX0_moveFirstTo : MethodName := ⟨RX0, "moveFirstTo", "(LDoorTears$Cup;)V"⟩
abbrev cX0_holdsSameAs : ByteArray := prog_2_method_9_code
def yX0_holdsSameAs : MethodName := ⟨RX0, "holdsSameAs", "(LDoorTears$Cup;)Z"⟩
abbrev cX0_atEnd : ByteArray := prog_2_method_10_code
def yX0_atEnd : MethodName := ⟨RX0, "atEnd", "(I)I"⟩
abbrev cX0_ring : ByteArray := prog_2_method_11_code
def yX0_ring : MethodName := ⟨RX0, "ring", "(I)I"⟩
def RX1 : String := "DoorTears$Foretelling"
def TX1 : u_T := fun k => match k with
  | _ => ("DoorTears$Foretelling", "trial", "LDoorTears$Lane;", true)
def tyX1 : Nat → FieldType := fun k => match k with
  | _ => .object "DoorTears$Lane"
abbrev wsX10 : List Cond := u_ws RX1 TX1 1
theorem nmX1 : ∀ a, a < 1 → ∀ b, b < 1 → a ≠ b → (TX1 a).2.1 ≠ (TX1 b).2.1 := by decide +kernel
theorem tyX1_ok : ∀ k, k < 1 → parseFieldDescriptor (TX1 k).2.2.1 = some (tyX1 k) := by decide +kernel
abbrev cX1_init : ByteArray := prog_3_method_1_code
def yX1_init : MethodName := ⟨RX1, "<init>", "()V"⟩
abbrev cX1_behindEvenings : ByteArray := prog_3_method_2_code
def yX1_behindEvenings : MethodName := ⟨RX1, "behindEvenings", "(LDoorTears$Lane;I)LDoorTears$Lane;"⟩
abbrev cX1_firstInField : ByteArray := prog_3_method_3_code
def yX1_firstInField : MethodName := ⟨RX1, "firstInField", "(LDoorTears$Lane;I)I"⟩
abbrev cX1_fewestDoors : ByteArray := prog_3_method_4_code
def yX1_fewestDoors : MethodName := ⟨RX1, "fewestDoors", "(LDoorTears$Lane;I)I"⟩
abbrev cX1_sparesField : ByteArray := prog_3_method_5_code
def yX1_sparesField : MethodName := ⟨RX1, "sparesField", "(LDoorTears$Lane;II)Z"⟩
abbrev cX1_bestHearth : ByteArray := prog_3_method_6_code
def yX1_bestHearth : MethodName := ⟨RX1, "bestHearth", "(LDoorTears$Lane;I)I"⟩
abbrev cX1_timesWithHearth : ByteArray := prog_3_method_7_code
def yX1_timesWithHearth : MethodName := ⟨RX1, "timesWithHearth", "(LDoorTears$Lane;II)I"⟩
abbrev cX1_oddsInDraught : ByteArray := prog_3_method_8_code
def yX1_oddsInDraught : MethodName := ⟨RX1, "oddsInDraught", "(LDoorTears$Lane;II)I"⟩
abbrev cX1_waysToStayOpen : ByteArray := prog_3_method_9_code
def yX1_waysToStayOpen : MethodName := ⟨RX1, "waysToStayOpen", "(III)I"⟩
abbrev cX1_power : ByteArray := prog_3_method_10_code
def yX1_power : MethodName := ⟨RX1, "power", "(II)I"⟩
def RX2 : String := "DoorTears$Funeral"
def TX2 : u_T := fun k => match k with
  | 0 => ("DoorTears$Funeral", "trial", "LDoorTears$Lane;", true)
  | 1 => ("DoorTears$Funeral", "order", "[I", true)
  | 2 => ("DoorTears$Funeral", "best", "[I", true)
  | _ => ("DoorTears$Funeral", "fewest", "I", false)
def tyX2 : Nat → FieldType := fun k => match k with
  | 0 => .object "DoorTears$Lane"
  | 1 => .array .int
  | 2 => .array .int
  | _ => .int
abbrev wsX20 : List Cond := u_ws RX2 TX2 4
theorem nmX2 : ∀ a, a < 4 → ∀ b, b < 4 → a ≠ b → (TX2 a).2.1 ≠ (TX2 b).2.1 := by decide +kernel
theorem tyX2_ok : ∀ k, k < 4 → parseFieldDescriptor (TX2 k).2.2.1 = some (tyX2 k) := by decide +kernel
abbrev cX2_init : ByteArray := prog_4_method_1_code
def yX2_init : MethodName := ⟨RX2, "<init>", "()V"⟩
abbrev cX2_plan : ByteArray := prog_4_method_2_code
def yX2_plan : MethodName := ⟨RX2, "plan", "(LDoorTears$Lane;)V"⟩
abbrev cX2_tryOrders : ByteArray := prog_4_method_3_code
def yX2_tryOrders : MethodName := ⟨RX2, "tryOrders", "(III)V"⟩
abbrev cX2_letGo : ByteArray := prog_4_method_4_code
def yX2_letGo : MethodName := ⟨RX2, "letGo", "(IIII)V"⟩
def RX3 : String := "DoorTears$Kinds"
def TX3 : u_T := fun k => match k with
  | _ => ("", "", "", false)
def tyX3 : Nat → FieldType := fun k => match k with
  | _ => .int
abbrev wsX30 : List Cond := u_ws RX3 TX3 0
theorem nmX3 : ∀ a, a < 0 → ∀ b, b < 0 → a ≠ b → (TX3 a).2.1 ≠ (TX3 b).2.1 := by decide +kernel
theorem tyX3_ok : ∀ k, k < 0 → parseFieldDescriptor (TX3 k).2.2.1 = some (tyX3 k) := by decide +kernel
abbrev cX3_bears : ByteArray := prog_5_method_2_code
def yX3_bears : MethodName := ⟨RX3, "bears", "(I)I"⟩
abbrev cX3_goes : ByteArray := prog_5_method_3_code
def yX3_goes : MethodName := ⟨RX3, "goes", "(I)I"⟩
abbrev cX3_isUnder : ByteArray := prog_5_method_4_code
def yX3_isUnder : MethodName := ⟨RX3, "isUnder", "(II)Z"⟩
abbrev cX3_comesOnAt : ByteArray := prog_5_method_5_code
def yX3_comesOnAt : MethodName := ⟨RX3, "comesOnAt", "(II)Z"⟩
abbrev cX3_eased : ByteArray := prog_5_method_6_code
def yX3_eased : MethodName := ⟨RX3, "eased", "(II)I"⟩
abbrev cX3_grown : ByteArray := prog_5_method_7_code
def yX3_grown : MethodName := ⟨RX3, "grown", "(II)I"⟩
abbrev cX3_afterEvening : ByteArray := prog_5_method_8_code
def yX3_afterEvening : MethodName := ⟨RX3, "afterEvening", "(II)I"⟩
abbrev cX3_isKind : ByteArray := prog_5_method_9_code
def yX3_isKind : MethodName := ⟨RX3, "isKind", "(I)Z"⟩
def RX4 : String := "DoorTears$Lane"
def TX4 : u_T := fun k => match k with
  | 0 => ("DoorTears$Lane", "kitchens", "I", false)
  | 1 => ("DoorTears$Lane", "people", "I", false)
  | 2 => ("DoorTears$Lane", "evening", "I", false)
  | 3 => ("DoorTears$Lane", "open", "I", false)
  | 4 => ("DoorTears$Lane", "room", "[I", true)
  | 5 => ("DoorTears$Lane", "luck", "[I", true)
  | 6 => ("DoorTears$Lane", "kind", "[I", true)
  | 7 => ("DoorTears$Lane", "home", "[I", true)
  | 8 => ("DoorTears$Lane", "grief", "[I", true)
  | 9 => ("DoorTears$Lane", "fell", "[I", true)
  | 10 => ("DoorTears$Lane", "place", "[I", true)
  | 11 => ("DoorTears$Lane", "went", "[I", true)
  | _ => ("DoorTears$Lane", "inField", "I", false)
def tyX4 : Nat → FieldType := fun k => match k with
  | 0 => .int
  | 1 => .int
  | 2 => .int
  | 3 => .int
  | 4 => .array .int
  | 5 => .array .int
  | 6 => .array .int
  | 7 => .array .int
  | 8 => .array .int
  | 9 => .array .int
  | 10 => .array .int
  | 11 => .array .int
  | _ => .int
abbrev wsX40 : List Cond := u_ws RX4 TX4 13
theorem nmX4 : ∀ a, a < 13 → ∀ b, b < 13 → a ≠ b → (TX4 a).2.1 ≠ (TX4 b).2.1 := by decide +kernel
theorem tyX4_ok : ∀ k, k < 13 → parseFieldDescriptor (TX4 k).2.2.1 = some (tyX4 k) := by decide +kernel
abbrev cX4_init : ByteArray := prog_6_method_1_code
def yX4_init : MethodName := ⟨RX4, "<init>", "()V"⟩
abbrev cX4_clear : ByteArray := prog_6_method_2_code
def yX4_clear : MethodName := ⟨RX4, "clear", "()V"⟩
abbrev cX4_copyFrom : ByteArray := prog_6_method_3_code
def yX4_copyFrom : MethodName := ⟨RX4, "copyFrom", "(LDoorTears$Lane;)V"⟩
abbrev cX4_hasKitchen : ByteArray := prog_6_method_4_code
def yX4_hasKitchen : MethodName := ⟨RX4, "hasKitchen", "(I)Z"⟩
abbrev cX4_hasPerson : ByteArray := prog_6_method_5_code
def yX4_hasPerson : MethodName := ⟨RX4, "hasPerson", "(I)Z"⟩
abbrev cX4_isOpen : ByteArray := prog_6_method_6_code
def yX4_isOpen : MethodName := ⟨RX4, "isOpen", "(I)Z"⟩
abbrev cX4_addKitchen : ByteArray := prog_6_method_7_code
def yX4_addKitchen : MethodName := ⟨RX4, "addKitchen", "(ZI)V"⟩
abbrev cX4_addPerson : ByteArray := prog_6_method_8_code
def yX4_addPerson : MethodName := ⟨RX4, "addPerson", "(III)V"⟩
abbrev cX4_fallOut : ByteArray := prog_6_method_9_code
def yX4_fallOut : MethodName := ⟨RX4, "fallOut", "(II)V"⟩
abbrev cX4_reconcile : ByteArray := prog_6_method_10_code
def yX4_reconcile : MethodName := ⟨RX4, "reconcile", "(II)V"⟩
abbrev cX4_livingIn : ByteArray := prog_6_method_11_code
def yX4_livingIn : MethodName := ⟨RX4, "livingIn", "(I)I"⟩
abbrev cX4_griefOfAll : ByteArray := prog_6_method_12_code
def yX4_griefOfAll : MethodName := ⟨RX4, "griefOfAll", "()I"⟩
abbrev cX4_luckOfAll : ByteArray := prog_6_method_13_code
def yX4_luckOfAll : MethodName := ⟨RX4, "luckOfAll", "()I"⟩
abbrev cX4_comesOn : ByteArray := prog_6_method_14_code
def yX4_comesOn : MethodName := ⟨RX4, "comesOn", "(I)Z"⟩
abbrev cX4_comingOn : ByteArray := prog_6_method_15_code
def yX4_comingOn : MethodName := ⟨RX4, "comingOn", "()I"⟩
abbrev cX4_passEvenings : ByteArray := prog_6_method_16_code
def yX4_passEvenings : MethodName := ⟨RX4, "passEvenings", "(I)V"⟩
abbrev cX4_passEvening : ByteArray := prog_6_method_17_code
def yX4_passEvening : MethodName := ⟨RX4, "passEvening", "()V"⟩
abbrev cX4_emptyKitchens : ByteArray := prog_6_method_18_code
def yX4_emptyKitchens : MethodName := ⟨RX4, "emptyKitchens", "()V"⟩
abbrev cX4_goalOf : ByteArray := prog_6_method_19_code
def yX4_goalOf : MethodName := ⟨RX4, "goalOf", "(I)I"⟩
abbrev cX4_takesIn : ByteArray := prog_6_method_20_code
def yX4_takesIn : MethodName := ⟨RX4, "takesIn", "(II)Z"⟩
abbrev cX4_homesOf : ByteArray := prog_6_method_21_code
def yX4_homesOf : MethodName := ⟨RX4, "homesOf", "(I)I"⟩
def RX5 : String := "DoorTears$Letters"
def TX5 : u_T := fun k => match k with
  | 0 => ("DoorTears$Letters", "letters", "[I", true)
  | _ => ("DoorTears$Letters", "length", "I", false)
def tyX5 : Nat → FieldType := fun k => match k with
  | 0 => .array .int
  | _ => .int
abbrev wsX50 : List Cond := u_ws RX5 TX5 2
theorem nmX5 : ∀ a, a < 2 → ∀ b, b < 2 → a ≠ b → (TX5 a).2.1 ≠ (TX5 b).2.1 := by decide +kernel
theorem tyX5_ok : ∀ k, k < 2 → parseFieldDescriptor (TX5 k).2.2.1 = some (tyX5 k) := by decide +kernel
abbrev cX5_init : ByteArray := prog_7_method_1_code
def yX5_init : MethodName := ⟨RX5, "<init>", "()V"⟩
abbrev cX5_add : ByteArray := prog_7_method_2_code
def yX5_add : MethodName := ⟨RX5, "add", "(I)V"⟩
abbrev cX5_at : ByteArray := prog_7_method_3_code
def yX5_at : MethodName := ⟨RX5, "at", "(I)I"⟩
def RX6 : String := "DoorTears$Past"
def TX6 : u_T := fun k => match k with
  | 0 => ("DoorTears$Past", "lanes", "[LDoorTears$Lane;", true)
  | 1 => ("DoorTears$Past", "next", "I", false)
  | _ => ("DoorTears$Past", "length", "I", false)
def tyX6 : Nat → FieldType := fun k => match k with
  | 0 => .array (.object "DoorTears$Lane")
  | 1 => .int
  | _ => .int
abbrev wsX60 : List Cond := u_ws RX6 TX6 3
theorem nmX6 : ∀ a, a < 3 → ∀ b, b < 3 → a ≠ b → (TX6 a).2.1 ≠ (TX6 b).2.1 := by decide +kernel
theorem tyX6_ok : ∀ k, k < 3 → parseFieldDescriptor (TX6 k).2.2.1 = some (tyX6 k) := by decide +kernel
abbrev cX6_init : ByteArray := prog_8_method_1_code
def yX6_init : MethodName := ⟨RX6, "<init>", "()V"⟩
abbrev cX6_clear : ByteArray := prog_8_method_2_code
def yX6_clear : MethodName := ⟨RX6, "clear", "()V"⟩
abbrev cX6_remember : ByteArray := prog_8_method_3_code
def yX6_remember : MethodName := ⟨RX6, "remember", "(LDoorTears$Lane;)V"⟩
abbrev cX6_restoreTo : ByteArray := prog_8_method_4_code
def yX6_restoreTo : MethodName := ⟨RX6, "restoreTo", "(LDoorTears$Lane;)V"⟩
def RX7 : String := "DoorTears$Reader"
def TX7 : u_T := fun k => match k with
  | 0 => ("DoorTears$Reader", "text", "LDoorTears$Letters;", true)
  | 1 => ("DoorTears$Reader", "draft", "LDoorTears$Lane;", true)
  | 2 => ("DoorTears$Reader", "start", "I", false)
  | 3 => ("DoorTears$Reader", "end", "I", false)
  | _ => ("DoorTears$Reader", "clauses", "I", false)
def tyX7 : Nat → FieldType := fun k => match k with
  | 0 => .object "DoorTears$Letters"
  | 1 => .object "DoorTears$Lane"
  | 2 => .int
  | 3 => .int
  | _ => .int
abbrev wsX70 : List Cond := u_ws RX7 TX7 5
theorem nmX7 : ∀ a, a < 5 → ∀ b, b < 5 → a ≠ b → (TX7 a).2.1 ≠ (TX7 b).2.1 := by decide +kernel
theorem tyX7_ok : ∀ k, k < 5 → parseFieldDescriptor (TX7 k).2.2.1 = some (tyX7 k) := by decide +kernel
abbrev cX7_init : ByteArray := prog_9_method_1_code
def yX7_init : MethodName := ⟨RX7, "<init>", "(LDoorTears$Letters;LDoorTears$Lane;)V"⟩
abbrev cX7_readBehind : ByteArray := prog_9_method_2_code
def yX7_readBehind : MethodName := ⟨RX7, "readBehind", "(LDoorTears$Lane;)I"⟩
abbrev cX7_step : ByteArray := prog_9_method_3_code
def yX7_step : MethodName := ⟨RX7, "step", "()V"⟩
abbrev cX7_readClause : ByteArray := prog_9_method_4_code
def yX7_readClause : MethodName := ⟨RX7, "readClause", "()Z"⟩
abbrev cX7_kindWord : ByteArray := prog_9_method_5_code
def yX7_kindWord : MethodName := ⟨RX7, "kindWord", "()I"⟩
abbrev cX7_readKitchen : ByteArray := prog_9_method_6_code
def yX7_readKitchen : MethodName := ⟨RX7, "readKitchen", "(Z)Z"⟩
abbrev cX7_readPerson : ByteArray := prog_9_method_7_code
def yX7_readPerson : MethodName := ⟨RX7, "readPerson", "(I)Z"⟩
abbrev cX7_readFell : ByteArray := prog_9_method_8_code
def yX7_readFell : MethodName := ⟨RX7, "readFell", "()Z"⟩
abbrev cX7_nextNumber : ByteArray := prog_9_method_9_code
def yX7_nextNumber : MethodName := ⟨RX7, "nextNumber", "(I)I"⟩
abbrev cX7_isWord : ByteArray := prog_9_method_10_code
def yX7_isWord : MethodName := ⟨RX7, "isWord", "(Ljava/lang/String;)Z"⟩
abbrev cX7_isSmall : ByteArray := prog_9_method_11_code
def yX7_isSmall : MethodName := ⟨RX7, "isSmall", "(I)Z"⟩
abbrev cX7_isDigit : ByteArray := prog_9_method_12_code
def yX7_isDigit : MethodName := ⟨RX7, "isDigit", "(I)Z"⟩
def RX8 : String := "DoorTears$Sights"
def TX8 : u_T := fun k => match k with
  | 0 => ("DoorTears$Sights", "before", "[I", true)
  | 1 => ("DoorTears$Sights", "cameOn", "[Z", true)
  | 2 => ("DoorTears$Sights", "after", "[I", true)
  | _ => ("DoorTears$Sights", "length", "I", false)
def tyX8 : Nat → FieldType := fun k => match k with
  | 0 => .array .int
  | 1 => .array .boolean
  | 2 => .array .int
  | _ => .int
abbrev wsX80 : List Cond := u_ws RX8 TX8 4
theorem nmX8 : ∀ a, a < 4 → ∀ b, b < 4 → a ≠ b → (TX8 a).2.1 ≠ (TX8 b).2.1 := by decide +kernel
theorem tyX8_ok : ∀ k, k < 4 → parseFieldDescriptor (TX8 k).2.2.1 = some (tyX8 k) := by decide +kernel
abbrev cX8_init : ByteArray := prog_10_method_1_code
def yX8_init : MethodName := ⟨RX8, "<init>", "()V"⟩
abbrev cX8_add : ByteArray := prog_10_method_2_code
def yX8_add : MethodName := ⟨RX8, "add", "(IZI)V"⟩
abbrev cX8_fitting : ByteArray := prog_10_method_3_code
def yX8_fitting : MethodName := ⟨RX8, "fitting", "()I"⟩
abbrev cX8_fits : ByteArray := prog_10_method_4_code
def yX8_fits : MethodName := ⟨RX8, "fits", "(I)Z"⟩
abbrev cX8_bestQuestion : ByteArray := prog_10_method_5_code
def yX8_bestQuestion : MethodName := ⟨RX8, "bestQuestion", "()I"⟩
abbrev cX8_greatestPart : ByteArray := prog_10_method_6_code
def yX8_greatestPart : MethodName := ⟨RX8, "greatestPart", "(II)I"⟩
abbrev cX8_alike : ByteArray := prog_10_method_7_code
def yX8_alike : MethodName := ⟨RX8, "alike", "(III)I"⟩
def RX9 : String := "DoorTears"
def TX9 : u_T := fun k => match k with
  | 0 => ("DoorTears", "text", "LDoorTears$Letters;", true)
  | 1 => ("DoorTears", "told", "LDoorTears$Lane;", true)
  | 2 => ("DoorTears", "draft", "LDoorTears$Lane;", true)
  | 3 => ("DoorTears", "reader", "LDoorTears$Reader;", true)
  | 4 => ("DoorTears", "now", "LDoorTears$Lane;", true)
  | 5 => ("DoorTears", "past", "LDoorTears$Past;", true)
  | 6 => ("DoorTears", "kept", "[LDoorTears$Lane;", true)
  | 7 => ("DoorTears", "isKept", "[Z", true)
  | 8 => ("DoorTears", "foretelling", "LDoorTears$Foretelling;", true)
  | 9 => ("DoorTears", "mourning", "LDoorTears$Funeral;", true)
  | 10 => ("DoorTears", "sights", "LDoorTears$Sights;", true)
  | _ => ("DoorTears", "cups", "[LDoorTears$Cup;", true)
def tyX9 : Nat → FieldType := fun k => match k with
  | 0 => .object "DoorTears$Letters"
  | 1 => .object "DoorTears$Lane"
  | 2 => .object "DoorTears$Lane"
  | 3 => .object "DoorTears$Reader"
  | 4 => .object "DoorTears$Lane"
  | 5 => .object "DoorTears$Past"
  | 6 => .array (.object "DoorTears$Lane")
  | 7 => .array .boolean
  | 8 => .object "DoorTears$Foretelling"
  | 9 => .object "DoorTears$Funeral"
  | 10 => .object "DoorTears$Sights"
  | _ => .array (.object "DoorTears$Cup")
abbrev wsX90 : List Cond := u_ws RX9 TX9 12
theorem nmX9 : ∀ a, a < 12 → ∀ b, b < 12 → a ≠ b → (TX9 a).2.1 ≠ (TX9 b).2.1 := by decide +kernel
theorem tyX9_ok : ∀ k, k < 12 → parseFieldDescriptor (TX9 k).2.2.1 = some (tyX9 k) := by decide +kernel
abbrev cX9_init : ByteArray := prog_1_method_1_code
def yX9_init : MethodName := ⟨RX9, "<init>", "()V"⟩
abbrev cX9_write : ByteArray := prog_1_method_2_code
def yX9_write : MethodName := ⟨RX9, "write", "(I)I"⟩
abbrev cX9_erase : ByteArray := prog_1_method_3_code
def yX9_erase : MethodName := ⟨RX9, "erase", "()I"⟩
abbrev cX9_fault : ByteArray := prog_1_method_4_code
def yX9_fault : MethodName := ⟨RX9, "fault", "()I"⟩
abbrev cX9_lane : ByteArray := prog_1_method_5_code
def yX9_lane : MethodName := ⟨RX9, "lane", "()I"⟩
abbrev cX9_kitchen : ByteArray := prog_1_method_6_code
def yX9_kitchen : MethodName := ⟨RX9, "kitchen", "(II)I"⟩
abbrev cX9_person : ByteArray := prog_1_method_7_code
def yX9_person : MethodName := ⟨RX9, "person", "(II)I"⟩
abbrev cX9_as : ByteArray := prog_1_method_8_code
def yX9_as : MethodName := ⟨RX9, "as", "(II)I"⟩
abbrev cX9_evening : ByteArray := prog_1_method_9_code
def yX9_evening : MethodName := ⟨RX9, "evening", "(I)I"⟩
abbrev cX9_door : ByteArray := prog_1_method_10_code
def yX9_door : MethodName := ⟨RX9, "door", "(I)I"⟩
abbrev cX9_grieve : ByteArray := prog_1_method_11_code
def yX9_grieve : MethodName := ⟨RX9, "grieve", "(II)I"⟩
abbrev cX9_peace : ByteArray := prog_1_method_12_code
def yX9_peace : MethodName := ⟨RX9, "peace", "(II)I"⟩
abbrev cX9_undo : ByteArray := prog_1_method_13_code
def yX9_undo : MethodName := ⟨RX9, "undo", "()I"⟩
abbrev cX9_keep : ByteArray := prog_1_method_14_code
def yX9_keep : MethodName := ⟨RX9, "keep", "(I)I"⟩
abbrev cX9_back : ByteArray := prog_1_method_15_code
def yX9_back : MethodName := ⟨RX9, "back", "(I)I"⟩
abbrev cX9_where : ByteArray := prog_1_method_16_code
def yX9_where : MethodName := ⟨RX9, "where", "(II)I"⟩
abbrev cX9_behind : ByteArray := prog_1_method_17_code
def yX9_behind : MethodName := ⟨RX9, "behind", "(II)I"⟩
abbrev cX9_luck : ByteArray := prog_1_method_18_code
def yX9_luck : MethodName := ⟨RX9, "luck", "(II)I"⟩
abbrev cX9_field : ByteArray := prog_1_method_19_code
def yX9_field : MethodName := ⟨RX9, "field", "(I)I"⟩
abbrev cX9_doors : ByteArray := prog_1_method_20_code
def yX9_doors : MethodName := ⟨RX9, "doors", "(I)I"⟩
abbrev cX9_funeral : ByteArray := prog_1_method_21_code
def yX9_funeral : MethodName := ⟨RX9, "funeral", "(I)I"⟩
abbrev cX9_hearth : ByteArray := prog_1_method_22_code
def yX9_hearth : MethodName := ⟨RX9, "hearth", "(II)I"⟩
abbrev cX9_draught : ByteArray := prog_1_method_23_code
def yX9_draught : MethodName := ⟨RX9, "draught", "(II)I"⟩
abbrev cX9_seen : ByteArray := prog_1_method_24_code
def yX9_seen : MethodName := ⟨RX9, "seen", "(III)I"⟩
abbrev cX9_forget : ByteArray := prog_1_method_25_code
def yX9_forget : MethodName := ⟨RX9, "forget", "()I"⟩
abbrev cX9_kinds : ByteArray := prog_1_method_26_code
def yX9_kinds : MethodName := ⟨RX9, "kinds", "()I"⟩
abbrev cX9_ask : ByteArray := prog_1_method_27_code
def yX9_ask : MethodName := ⟨RX9, "ask", "()I"⟩
abbrev cX9_cup : ByteArray := prog_1_method_28_code
def yX9_cup : MethodName := ⟨RX9, "cup", "(II)I"⟩
abbrev cX9_put : ByteArray := prog_1_method_29_code
def yX9_put : MethodName := ⟨RX9, "put", "(IIII)I"⟩
abbrev cX9_take : ByteArray := prog_1_method_30_code
def yX9_take : MethodName := ⟨RX9, "take", "(III)I"⟩
abbrev cX9_turn : ByteArray := prog_1_method_31_code
def yX9_turn : MethodName := ⟨RX9, "turn", "(II)I"⟩
abbrev cX9_pour : ByteArray := prog_1_method_32_code
def yX9_pour : MethodName := ⟨RX9, "pour", "(II)I"⟩
abbrev cX9_like : ByteArray := prog_1_method_33_code
def yX9_like : MethodName := ⟨RX9, "like", "(II)I"⟩
abbrev cX9_drop : ByteArray := prog_1_method_34_code
def yX9_drop : MethodName := ⟨RX9, "drop", "(I)I"⟩
abbrev cX9_count : ByteArray := prog_1_method_35_code
def yX9_count : MethodName := ⟨RX9, "count", "(I)I"⟩
abbrev cX9_heldInAllCups : ByteArray := prog_1_method_36_code
def yX9_heldInAllCups : MethodName := ⟨RX9, "heldInAllCups", "()I"⟩
abbrev cX9_isCup : ByteArray := prog_1_method_37_code
def yX9_isCup : MethodName := ⟨RX9, "isCup", "(I)Z"⟩
abbrev cX9_isEnd : ByteArray := prog_1_method_38_code
def yX9_isEnd : MethodName := ⟨RX9, "isEnd", "(I)Z"⟩
abbrev cX9_isThing : ByteArray := prog_1_method_39_code
def yX9_isThing : MethodName := ⟨RX9, "isThing", "(II)Z"⟩
def RX10 : String := "DoorTearsModel"
def TX10 : u_T := fun k => match k with
  | 0 => ("DoorTearsModel", "text", "[I", true)
  | 1 => ("DoorTearsModel", "letters", "I", false)
  | 2 => ("DoorTearsModel", "at", "I", false)
  | 3 => ("DoorTearsModel", "start", "I", false)
  | 4 => ("DoorTearsModel", "token", "I", false)
  | 5 => ("DoorTearsModel", "length", "I", false)
  | 6 => ("DoorTearsModel", "value", "I", false)
  | 7 => ("DoorTearsModel", "wrong", "I", false)
  | 8 => ("DoorTearsModel", "clauses", "I", false)
  | 9 => ("DoorTearsModel", "told", "[I", true)
  | 10 => ("DoorTearsModel", "draft", "[I", true)
  | 11 => ("DoorTearsModel", "now", "[I", true)
  | 12 => ("DoorTearsModel", "tried", "[I", true)
  | 13 => ("DoorTearsModel", "past", "[I", true)
  | 14 => ("DoorTearsModel", "undos", "I", false)
  | 15 => ("DoorTearsModel", "kept", "[I", true)
  | 16 => ("DoorTearsModel", "isKept", "[Z", true)
  | 17 => ("DoorTearsModel", "went", "[I", true)
  | 18 => ("DoorTearsModel", "goal", "[I", true)
  | 19 => ("DoorTearsModel", "order", "[I", true)
  | 20 => ("DoorTearsModel", "best", "[I", true)
  | 21 => ("DoorTearsModel", "sight", "[I", true)
  | 22 => ("DoorTearsModel", "sights", "I", false)
  | 23 => ("DoorTearsModel", "room", "[I", true)
  | 24 => ("DoorTearsModel", "holds", "[I", true)
  | 25 => ("DoorTearsModel", "sort", "[I", true)
  | _ => ("DoorTearsModel", "thing", "[I", true)
def tyX10 : Nat → FieldType := fun k => match k with
  | 0 => .array .int
  | 1 => .int
  | 2 => .int
  | 3 => .int
  | 4 => .int
  | 5 => .int
  | 6 => .int
  | 7 => .int
  | 8 => .int
  | 9 => .array .int
  | 10 => .array .int
  | 11 => .array .int
  | 12 => .array .int
  | 13 => .array .int
  | 14 => .int
  | 15 => .array .int
  | 16 => .array .boolean
  | 17 => .array .int
  | 18 => .array .int
  | 19 => .array .int
  | 20 => .array .int
  | 21 => .array .int
  | 22 => .int
  | 23 => .array .int
  | 24 => .array .int
  | 25 => .array .int
  | _ => .array .int
abbrev wsX100 : List Cond := u_ws RX10 TX10 27
theorem nmX10 : ∀ a, a < 27 → ∀ b, b < 27 → a ≠ b → (TX10 a).2.1 ≠ (TX10 b).2.1 := by decide +kernel
theorem tyX10_ok : ∀ k, k < 27 → parseFieldDescriptor (TX10 k).2.2.1 = some (tyX10 k) := by decide +kernel
abbrev cX10_init : ByteArray := prog_12_method_1_code
def yX10_init : MethodName := ⟨RX10, "<init>", "()V"⟩
abbrev cX10_misses : ByteArray := prog_12_method_3_code
def yX10_misses : MethodName := ⟨RX10, "misses", "()V"⟩
abbrev cX10_in : ByteArray := prog_12_method_4_code
def yX10_in : MethodName := ⟨RX10, "in", "(III)Z"⟩
abbrev cX10_has : ByteArray := prog_12_method_5_code
def yX10_has : MethodName := ⟨RX10, "has", "(II)Z"⟩
abbrev cX10_ones : ByteArray := prog_12_method_6_code
def yX10_ones : MethodName := ⟨RX10, "ones", "(I)I"⟩
abbrev cX10_lesser : ByteArray := prog_12_method_7_code
def yX10_lesser : MethodName := ⟨RX10, "lesser", "(II)I"⟩
abbrev cX10_copies : ByteArray := prog_12_method_8_code
def yX10_copies : MethodName := ⟨RX10, "copies", "([II[II)V"⟩
abbrev cX10_write : ByteArray := prog_12_method_9_code
def yX10_write : MethodName := ⟨RX10, "write", "(I)I"⟩
abbrev cX10_erase : ByteArray := prog_12_method_10_code
def yX10_erase : MethodName := ⟨RX10, "erase", "()I"⟩
abbrev cX10_isSmall : ByteArray := prog_12_method_11_code
def yX10_isSmall : MethodName := ⟨RX10, "isSmall", "(I)Z"⟩
abbrev cX10_isDigit : ByteArray := prog_12_method_12_code
def yX10_isDigit : MethodName := ⟨RX10, "isDigit", "(I)Z"⟩
abbrev cX10_look : ByteArray := prog_12_method_13_code
def yX10_look : MethodName := ⟨RX10, "look", "(I)I"⟩
abbrev cX10_advances : ByteArray := prog_12_method_14_code
def yX10_advances : MethodName := ⟨RX10, "advances", "()V"⟩
abbrev cX10_word : ByteArray := prog_12_method_15_code
def yX10_word : MethodName := ⟨RX10, "word", "(IIII)I"⟩
abbrev cX10_fails : ByteArray := prog_12_method_16_code
def yX10_fails : MethodName := ⟨RX10, "fails", "(Z)V"⟩
abbrev cX10_figure : ByteArray := prog_12_method_17_code
def yX10_figure : MethodName := ⟨RX10, "figure", "(II)I"⟩
abbrev cX10_kindOf : ByteArray := prog_12_method_18_code
def yX10_kindOf : MethodName := ⟨RX10, "kindOf", "(I)I"⟩
abbrev cX10_tellsKitchen : ByteArray := prog_12_method_19_code
def yX10_tellsKitchen : MethodName := ⟨RX10, "tellsKitchen", "(I)V"⟩
abbrev cX10_tellsPerson : ByteArray := prog_12_method_20_code
def yX10_tellsPerson : MethodName := ⟨RX10, "tellsPerson", "(I)V"⟩
abbrev cX10_tellsFallen : ByteArray := prog_12_method_21_code
def yX10_tellsFallen : MethodName := ⟨RX10, "tellsFallen", "()V"⟩
abbrev cX10_tellsNothing : ByteArray := prog_12_method_22_code
def yX10_tellsNothing : MethodName := ⟨RX10, "tellsNothing", "()V"⟩
abbrev cX10_clause : ByteArray := prog_12_method_23_code
def yX10_clause : MethodName := ⟨RX10, "clause", "()V"⟩
abbrev cX10_reads : ByteArray := prog_12_method_24_code
def yX10_reads : MethodName := ⟨RX10, "reads", "()V"⟩
abbrev cX10_fault : ByteArray := prog_12_method_25_code
def yX10_fault : MethodName := ⟨RX10, "fault", "()I"⟩
abbrev cX10_lane : ByteArray := prog_12_method_26_code
def yX10_lane : MethodName := ⟨RX10, "lane", "()I"⟩
abbrev cX10_bears : ByteArray := prog_12_method_27_code
def yX10_bears : MethodName := ⟨RX10, "bears", "(I)I"⟩
abbrev cX10_eases : ByteArray := prog_12_method_28_code
def yX10_eases : MethodName := ⟨RX10, "eases", "(I)I"⟩
abbrev cX10_grows : ByteArray := prog_12_method_29_code
def yX10_grows : MethodName := ⟨RX10, "grows", "(I)I"⟩
abbrev cX10_comes : ByteArray := prog_12_method_30_code
def yX10_comes : MethodName := ⟨RX10, "comes", "([II)Z"⟩
abbrev cX10_comingOn : ByteArray := prog_12_method_31_code
def yX10_comingOn : MethodName := ⟨RX10, "comingOn", "([I)I"⟩
abbrev cX10_isBarred : ByteArray := prog_12_method_32_code
def yX10_isBarred : MethodName := ⟨RX10, "isBarred", "([III)Z"⟩
abbrev cX10_mayGo : ByteArray := prog_12_method_33_code
def yX10_mayGo : MethodName := ⟨RX10, "mayGo", "([III)Z"⟩
abbrev cX10_goes : ByteArray := prog_12_method_34_code
def yX10_goes : MethodName := ⟨RX10, "goes", "([II)I"⟩
abbrev cX10_clears : ByteArray := prog_12_method_35_code
def yX10_clears : MethodName := ⟨RX10, "clears", "()V"⟩
abbrev cX10_passes : ByteArray := prog_12_method_36_code
def yX10_passes : MethodName := ⟨RX10, "passes", "([I)I"⟩
abbrev cX10_isKitchen : ByteArray := prog_12_method_37_code
def yX10_isKitchen : MethodName := ⟨RX10, "isKitchen", "(I)Z"⟩
abbrev cX10_isPerson : ByteArray := prog_12_method_38_code
def yX10_isPerson : MethodName := ⟨RX10, "isPerson", "(I)Z"⟩
abbrev cX10_homes : ByteArray := prog_12_method_39_code
def yX10_homes : MethodName := ⟨RX10, "homes", "(I)I"⟩
abbrev cX10_kitchen : ByteArray := prog_12_method_40_code
def yX10_kitchen : MethodName := ⟨RX10, "kitchen", "(II)I"⟩
abbrev cX10_person : ByteArray := prog_12_method_41_code
def yX10_person : MethodName := ⟨RX10, "person", "(II)I"⟩
abbrev cX10_as : ByteArray := prog_12_method_42_code
def yX10_as : MethodName := ⟨RX10, "as", "(II)I"⟩
abbrev cX10_notes : ByteArray := prog_12_method_43_code
def yX10_notes : MethodName := ⟨RX10, "notes", "()V"⟩
abbrev cX10_evening : ByteArray := prog_12_method_44_code
def yX10_evening : MethodName := ⟨RX10, "evening", "(I)I"⟩
abbrev cX10_door : ByteArray := prog_12_method_45_code
def yX10_door : MethodName := ⟨RX10, "door", "(I)I"⟩
abbrev cX10_grieve : ByteArray := prog_12_method_46_code
def yX10_grieve : MethodName := ⟨RX10, "grieve", "(II)I"⟩
abbrev cX10_peace : ByteArray := prog_12_method_47_code
def yX10_peace : MethodName := ⟨RX10, "peace", "(II)I"⟩
abbrev cX10_undo : ByteArray := prog_12_method_48_code
def yX10_undo : MethodName := ⟨RX10, "undo", "()I"⟩
abbrev cX10_keep : ByteArray := prog_12_method_49_code
def yX10_keep : MethodName := ⟨RX10, "keep", "(I)I"⟩
abbrev cX10_back : ByteArray := prog_12_method_50_code
def yX10_back : MethodName := ⟨RX10, "back", "(I)I"⟩
abbrev cX10_goesOn : ByteArray := prog_12_method_51_code
def yX10_goesOn : MethodName := ⟨RX10, "goesOn", "(I)V"⟩
abbrev cX10_where : ByteArray := prog_12_method_52_code
def yX10_where : MethodName := ⟨RX10, "where", "(II)I"⟩
abbrev cX10_behind : ByteArray := prog_12_method_53_code
def yX10_behind : MethodName := ⟨RX10, "behind", "(II)I"⟩
abbrev cX10_luck : ByteArray := prog_12_method_54_code
def yX10_luck : MethodName := ⟨RX10, "luck", "(II)I"⟩
abbrev cX10_field : ByteArray := prog_12_method_55_code
def yX10_field : MethodName := ⟨RX10, "field", "(I)I"⟩
abbrev cX10_times : ByteArray := prog_12_method_56_code
def yX10_times : MethodName := ⟨RX10, "times", "(I)I"⟩
abbrev cX10_doors : ByteArray := prog_12_method_57_code
def yX10_doors : MethodName := ⟨RX10, "doors", "(I)I"⟩
abbrev cX10_fields : ByteArray := prog_12_method_58_code
def yX10_fields : MethodName := ⟨RX10, "fields", "()I"⟩
abbrev cX10_orders : ByteArray := prog_12_method_59_code
def yX10_orders : MethodName := ⟨RX10, "orders", "()Z"⟩
abbrev cX10_funeral : ByteArray := prog_12_method_60_code
def yX10_funeral : MethodName := ⟨RX10, "funeral", "(I)I"⟩
abbrev cX10_hearth : ByteArray := prog_12_method_61_code
def yX10_hearth : MethodName := ⟨RX10, "hearth", "(II)I"⟩
abbrev cX10_draught : ByteArray := prog_12_method_62_code
def yX10_draught : MethodName := ⟨RX10, "draught", "(II)I"⟩
abbrev cX10_seen : ByteArray := prog_12_method_63_code
def yX10_seen : MethodName := ⟨RX10, "seen", "(III)I"⟩
abbrev cX10_forget : ByteArray := prog_12_method_64_code
def yX10_forget : MethodName := ⟨RX10, "forget", "()I"⟩
abbrev cX10_then : ByteArray := prog_12_method_65_code
def yX10_then : MethodName := ⟨RX10, "then", "(II)I"⟩
abbrev cX10_kinds : ByteArray := prog_12_method_66_code
def yX10_kinds : MethodName := ⟨RX10, "kinds", "()I"⟩
abbrev cX10_alike : ByteArray := prog_12_method_67_code
def yX10_alike : MethodName := ⟨RX10, "alike", "(II)I"⟩
abbrev cX10_ask : ByteArray := prog_12_method_68_code
def yX10_ask : MethodName := ⟨RX10, "ask", "()I"⟩
abbrev cX10_isCup : ByteArray := prog_12_method_69_code
def yX10_isCup : MethodName := ⟨RX10, "isCup", "(I)Z"⟩
abbrev cX10_cup : ByteArray := prog_12_method_70_code
def yX10_cup : MethodName := ⟨RX10, "cup", "(II)I"⟩
abbrev cX10_lays : ByteArray := prog_12_method_71_code
def yX10_lays : MethodName := ⟨RX10, "lays", "(IIII)V"⟩
abbrev cX10_shifts : ByteArray := prog_12_method_72_code
def yX10_shifts : MethodName := ⟨RX10, "shifts", "(II)V"⟩
abbrev cX10_isWell : ByteArray := prog_12_method_73_code
def yX10_isWell : MethodName := ⟨RX10, "isWell", "(II)Z"⟩
abbrev cX10_put : ByteArray := prog_12_method_74_code
def yX10_put : MethodName := ⟨RX10, "put", "(IIII)I"⟩
abbrev cX10_take : ByteArray := prog_12_method_75_code
def yX10_take : MethodName := ⟨RX10, "take", "(III)I"⟩
abbrev cX10_turn : ByteArray := prog_12_method_76_code
def yX10_turn : MethodName := ⟨RX10, "turn", "(II)I"⟩
abbrev cX10_pour : ByteArray := prog_12_method_77_code
def yX10_pour : MethodName := ⟨RX10, "pour", "(II)I"⟩
abbrev cX10_like : ByteArray := prog_12_method_78_code
def yX10_like : MethodName := ⟨RX10, "like", "(II)I"⟩
abbrev cX10_drop : ByteArray := prog_12_method_79_code
def yX10_drop : MethodName := ⟨RX10, "drop", "(I)I"⟩
abbrev cX10_openOnes : ByteArray := prog_12_method_80_code
def yX10_openOnes : MethodName := ⟨RX10, "openOnes", "()I"⟩
abbrev cX10_griefs : ByteArray := prog_12_method_81_code
def yX10_griefs : MethodName := ⟨RX10, "griefs", "()I"⟩
abbrev cX10_lucks : ByteArray := prog_12_method_82_code
def yX10_lucks : MethodName := ⟨RX10, "lucks", "()I"⟩
abbrev cX10_count : ByteArray := prog_12_method_83_code
def yX10_count : MethodName := ⟨RX10, "count", "(I)I"⟩
def RJx145de : String := "java/io/Serializable"
def TJx145de : u_T := fun k => match k with
  | _ => ("", "", "", false)
def tyJx145de : Nat → FieldType := fun k => match k with
  | _ => .int
abbrev wsJx145de0 : List Cond := u_ws RJx145de TJx145de 0
theorem nmJx145de : ∀ a, a < 0 → ∀ b, b < 0 → a ≠ b → (TJx145de a).2.1 ≠ (TJx145de b).2.1 := by decide +kernel
theorem tyJx145de_ok : ∀ k, k < 0 → parseFieldDescriptor (TJx145de k).2.2.1 = some (tyJx145de k) := by decide +kernel
def RJx9f9b0 : String := "java/lang/CharSequence"
def TJx9f9b0 : u_T := fun k => match k with
  | _ => ("", "", "", false)
def tyJx9f9b0 : Nat → FieldType := fun k => match k with
  | _ => .int
abbrev wsJx9f9b00 : List Cond := u_ws RJx9f9b0 TJx9f9b0 0
theorem nmJx9f9b0 : ∀ a, a < 0 → ∀ b, b < 0 → a ≠ b → (TJx9f9b0 a).2.1 ≠ (TJx9f9b0 b).2.1 := by decide +kernel
theorem tyJx9f9b0_ok : ∀ k, k < 0 → parseFieldDescriptor (TJx9f9b0 k).2.2.1 = some (tyJx9f9b0 k) := by decide +kernel
def RJxb160c : String := "java/lang/Comparable"
def TJxb160c : u_T := fun k => match k with
  | _ => ("", "", "", false)
def tyJxb160c : Nat → FieldType := fun k => match k with
  | _ => .int
abbrev wsJxb160c0 : List Cond := u_ws RJxb160c TJxb160c 0
theorem nmJxb160c : ∀ a, a < 0 → ∀ b, b < 0 → a ≠ b → (TJxb160c a).2.1 ≠ (TJxb160c b).2.1 := by decide +kernel
theorem tyJxb160c_ok : ∀ k, k < 0 → parseFieldDescriptor (TJxb160c k).2.2.1 = some (tyJxb160c k) := by decide +kernel
def RJ6 : String := "java/lang/Integer"
def TJ6 : u_T := fun k => match k with
  | _ => ("", "", "", false)
def tyJ6 : Nat → FieldType := fun k => match k with
  | _ => .int
abbrev wsJ60 : List Cond := u_ws RJ6 TJ6 0
theorem nmJ6 : ∀ a, a < 0 → ∀ b, b < 0 → a ≠ b → (TJ6 a).2.1 ≠ (TJ6 b).2.1 := by decide +kernel
theorem tyJ6_ok : ∀ k, k < 0 → parseFieldDescriptor (TJ6 k).2.2.1 = some (tyJ6 k) := by decide +kernel
abbrev cJ6_bitCount_0f7a4 : ByteArray := prog_13_method_49_code
def yJ6_bitCount_0f7a4 : MethodName := ⟨RJ6, "bitCount", "(I)I"⟩
def RJ9 : String := "java/lang/Math"
def TJ9 : u_T := fun k => match k with
  | _ => ("", "", "", false)
def tyJ9 : Nat → FieldType := fun k => match k with
  | _ => .int
abbrev wsJ90 : List Cond := u_ws RJ9 TJ9 0
theorem nmJ9 : ∀ a, a < 0 → ∀ b, b < 0 → a ≠ b → (TJ9 a).2.1 ≠ (TJ9 b).2.1 := by decide +kernel
theorem tyJ9_ok : ∀ k, k < 0 → parseFieldDescriptor (TJ9 k).2.2.1 = some (tyJ9 k) := by decide +kernel
abbrev cJ9_floorMod_7cf53 : ByteArray := prog_14_method_50_code
def yJ9_floorMod_7cf53 : MethodName := ⟨RJ9, "floorMod", "(II)I"⟩
abbrev cJ9_max_7cf53 : ByteArray := prog_14_method_65_code
def yJ9_max_7cf53 : MethodName := ⟨RJ9, "max", "(II)I"⟩
abbrev cJ9_min_7cf53 : ByteArray := prog_14_method_69_code
def yJ9_min_7cf53 : MethodName := ⟨RJ9, "min", "(II)I"⟩
def RJ0 : String := "java/lang/String"
def TJ0 : u_T := fun k => match k with
  | _ => ("", "", "", false)
def tyJ0 : Nat → FieldType := fun k => match k with
  | _ => .int
abbrev wsJ00 : List Cond := u_ws RJ0 TJ0 0
theorem nmJ0 : ∀ a, a < 0 → ∀ b, b < 0 → a ≠ b → (TJ0 a).2.1 ≠ (TJ0 b).2.1 := by decide +kernel
theorem tyJ0_ok : ∀ k, k < 0 → parseFieldDescriptor (TJ0 k).2.2.1 = some (tyJ0 k) := by decide +kernel
abbrev cJ0_length_8abf5 : ByteArray := prog_15_method_54_code
def yJ0_length_8abf5 : MethodName := ⟨RJ0, "length", "()I"⟩
abbrev cJ0_charAt_5068e : ByteArray := prog_15_method_56_code
def yJ0_charAt_5068e : MethodName := ⟨RJ0, "charAt", "(I)C"⟩
abbrev cJ0_coder_7d493 : ByteArray := prog_15_method_152_code
def yJ0_coder_7d493 : MethodName := ⟨RJ0, "coder", "()B"⟩
abbrev cJ0_isLatin1_aae02 : ByteArray := prog_15_method_154_code
def yJ0_isLatin1_aae02 : MethodName := ⟨RJ0, "isLatin1", "()Z"⟩
abbrev cJ0_checkIndex_df160 : ByteArray := prog_15_method_155_code
def yJ0_checkIndex_df160 : MethodName := ⟨RJ0, "checkIndex", "(II)V"⟩
def RJ1 : String := "java/lang/StringLatin1"
def TJ1 : u_T := fun k => match k with
  | _ => ("", "", "", false)
def tyJ1 : Nat → FieldType := fun k => match k with
  | _ => .int
abbrev wsJ10 : List Cond := u_ws RJ1 TJ1 0
theorem nmJ1 : ∀ a, a < 0 → ∀ b, b < 0 → a ≠ b → (TJ1 a).2.1 ≠ (TJ1 b).2.1 := by decide +kernel
theorem tyJ1_ok : ∀ k, k < 0 → parseFieldDescriptor (TJ1 k).2.2.1 = some (tyJ1 k) := by decide +kernel
abbrev cJ1_charAt_3b067 : ByteArray := prog_16_method_2_code
def yJ1_charAt_3b067 : MethodName := ⟨RJ1, "charAt", "([BI)C"⟩
def RJ2 : String := "java/lang/StringUTF16"
def TJ2 : u_T := fun k => match k with
  | _ => ("", "", "", false)
def tyJ2 : Nat → FieldType := fun k => match k with
  | _ => .int
abbrev wsJ20 : List Cond := u_ws RJ2 TJ2 0
theorem nmJ2 : ∀ a, a < 0 → ∀ b, b < 0 → a ≠ b → (TJ2 a).2.1 ≠ (TJ2 b).2.1 := by decide +kernel
theorem tyJ2_ok : ∀ k, k < 0 → parseFieldDescriptor (TJ2 k).2.2.1 = some (tyJ2 k) := by decide +kernel
abbrev cJ2_getChar_3b067 : ByteArray := prog_17_method_5_code
def yJ2_getChar_3b067 : MethodName := ⟨RJ2, "getChar", "([BI)C"⟩
abbrev cJ2_length_9d52b : ByteArray := prog_17_method_6_code
def yJ2_length_9d52b : MethodName := ⟨RJ2, "length", "([B)I"⟩
abbrev cJ2_charAt_3b067 : ByteArray := prog_17_method_83_code
def yJ2_charAt_3b067 : MethodName := ⟨RJ2, "charAt", "([BI)C"⟩
abbrev cJ2_checkIndex_2214a : ByteArray := prog_17_method_91_code
def yJ2_checkIndex_2214a : MethodName := ⟨RJ2, "checkIndex", "(I[B)V"⟩
def RJ10 : String := "java/lang/System"
def TJ10 : u_T := fun k => match k with
  | _ => ("", "", "", false)
def tyJ10 : Nat → FieldType := fun k => match k with
  | _ => .int
abbrev wsJ100 : List Cond := u_ws RJ10 TJ10 0
theorem nmJ10 : ∀ a, a < 0 → ∀ b, b < 0 → a ≠ b → (TJ10 a).2.1 ≠ (TJ10 b).2.1 := by decide +kernel
theorem tyJ10_ok : ∀ k, k < 0 → parseFieldDescriptor (TJ10 k).2.2.1 = some (tyJ10 k) := by decide +kernel
def RJxfd54e : String := "java/lang/constant/Constable"
def TJxfd54e : u_T := fun k => match k with
  | _ => ("", "", "", false)
def tyJxfd54e : Nat → FieldType := fun k => match k with
  | _ => .int
abbrev wsJxfd54e0 : List Cond := u_ws RJxfd54e TJxfd54e 0
theorem nmJxfd54e : ∀ a, a < 0 → ∀ b, b < 0 → a ≠ b → (TJxfd54e a).2.1 ≠ (TJxfd54e b).2.1 := by decide +kernel
theorem tyJxfd54e_ok : ∀ k, k < 0 → parseFieldDescriptor (TJxfd54e k).2.2.1 = some (tyJxfd54e k) := by decide +kernel
def RJx3cf43 : String := "java/lang/constant/ConstantDesc"
def TJx3cf43 : u_T := fun k => match k with
  | _ => ("", "", "", false)
def tyJx3cf43 : Nat → FieldType := fun k => match k with
  | _ => .int
abbrev wsJx3cf430 : List Cond := u_ws RJx3cf43 TJx3cf43 0
theorem nmJx3cf43 : ∀ a, a < 0 → ∀ b, b < 0 → a ≠ b → (TJx3cf43 a).2.1 ≠ (TJx3cf43 b).2.1 := by decide +kernel
theorem tyJx3cf43_ok : ∀ k, k < 0 → parseFieldDescriptor (TJx3cf43 k).2.2.1 = some (tyJx3cf43 k) := by decide +kernel
def RJ7 : String := "java/util/Arrays"
def TJ7 : u_T := fun k => match k with
  | _ => ("", "", "", false)
def tyJ7 : Nat → FieldType := fun k => match k with
  | _ => .int
abbrev wsJ70 : List Cond := u_ws RJ7 TJ7 0
theorem nmJ7 : ∀ a, a < 0 → ∀ b, b < 0 → a ≠ b → (TJ7 a).2.1 ≠ (TJ7 b).2.1 := by decide +kernel
theorem tyJ7_ok : ∀ k, k < 0 → parseFieldDescriptor (TJ7 k).2.2.1 = some (tyJ7 k) := by decide +kernel
abbrev cJ7_fill_53178 : ByteArray := prog_19_method_103_code
def yJ7_fill_53178 : MethodName := ⟨RJ7, "fill", "([II)V"⟩
def RJ3 : String := "jdk/internal/util/Preconditions"
def TJ3 : u_T := fun k => match k with
  | _ => ("", "", "", false)
def tyJ3 : Nat → FieldType := fun k => match k with
  | _ => .int
abbrev wsJ30 : List Cond := u_ws RJ3 TJ3 0
theorem nmJ3 : ∀ a, a < 0 → ∀ b, b < 0 → a ≠ b → (TJ3 a).2.1 ≠ (TJ3 b).2.1 := by decide +kernel
theorem tyJ3_ok : ∀ k, k < 0 → parseFieldDescriptor (TJ3 k).2.2.1 = some (tyJ3 k) := by decide +kernel
abbrev cJ3_checkIndex_8e157 : ByteArray := prog_20_method_11_code
def yJ3_checkIndex_8e157 : MethodName := ⟨RJ3, "checkIndex", "(IILjava/util/function/BiFunction;)I"⟩
def RL : String := "DoorTearsLaw"
abbrev cL_law : ByteArray := code
def yL_law : MethodName := ⟨RL, "law", "([I)Z"⟩
