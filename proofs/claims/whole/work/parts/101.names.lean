-- ===== PART A: goes FIRST, ahead of the names: the tables' words, and 'selects' of the private methods out of them =====
/-- a private method of a class that the tables say can be made, by its rows of tables_1 -/
def lw_okq (q : MethodName × Nat) : Prop := (q.1.cls ≠ "java/lang/invoke/MethodHandle" ∧ q.1.cls ≠ "java/lang/invoke/VarHandle") ∧ Cond.instantiable q.1.cls q.2 ∈ tables_1 ∧ Cond.privateMethod q.1 ∈ tables_1 ∧ Cond.instanceMethod q.1 ∈ tables_1
theorem lw_p0 : lw_okq (⟨"SpriteAtlas$Text", "addImage", "(LSpriteAtlas$Sheet;II)V"⟩, 2) := ⟨⟨by decide +kernel, by decide +kernel⟩, List.mem_of_getElem? (i := 35) (by decide +kernel), List.mem_of_getElem? (i := 472) (by decide +kernel), List.mem_of_getElem? (i := 473) (by decide +kernel)⟩
theorem lw_p1 : lw_okq (⟨"SpriteAtlas$Catalog", "trim", "(LSpriteAtlas$Sheet;I)V"⟩, 6) := ⟨⟨by decide +kernel, by decide +kernel⟩, List.mem_of_getElem? (i := 256) (by decide +kernel), List.mem_of_getElem? (i := 502) (by decide +kernel), List.mem_of_getElem? (i := 503) (by decide +kernel)⟩
theorem lw_p2 : lw_okq (⟨"SpriteAtlas$Catalog", "setTrim", "(IIIII)V"⟩, 6) := ⟨⟨by decide +kernel, by decide +kernel⟩, List.mem_of_getElem? (i := 256) (by decide +kernel), List.mem_of_getElem? (i := 510) (by decide +kernel), List.mem_of_getElem? (i := 511) (by decide +kernel)⟩
theorem lw_p3 : lw_okq (⟨"SpriteAtlas$Catalog", "findOriginal", "(LSpriteAtlas$Sheet;II)V"⟩, 6) := ⟨⟨by decide +kernel, by decide +kernel⟩, List.mem_of_getElem? (i := 256) (by decide +kernel), List.mem_of_getElem? (i := 519) (by decide +kernel), List.mem_of_getElem? (i := 520) (by decide +kernel)⟩
theorem lw_p4 : lw_okq (⟨"SpriteAtlas$Catalog", "matches", "(LSpriteAtlas$Sheet;III)Z"⟩, 6) := ⟨⟨by decide +kernel, by decide +kernel⟩, List.mem_of_getElem? (i := 256) (by decide +kernel), List.mem_of_getElem? (i := 531) (by decide +kernel), List.mem_of_getElem? (i := 532) (by decide +kernel)⟩
theorem lw_p5 : lw_okq (⟨"SpriteAtlas", "drawOne", "()V"⟩, 12) := ⟨⟨by decide +kernel, by decide +kernel⟩, List.mem_of_getElem? (i := 27) (by decide +kernel), List.mem_of_getElem? (i := 547) (by decide +kernel), List.mem_of_getElem? (i := 548) (by decide +kernel)⟩
theorem lw_p6 : lw_okq (⟨"SpriteAtlas", "nextRandom", "()I"⟩, 12) := ⟨⟨by decide +kernel, by decide +kernel⟩, List.mem_of_getElem? (i := 27) (by decide +kernel), List.mem_of_getElem? (i := 551) (by decide +kernel), List.mem_of_getElem? (i := 552) (by decide +kernel)⟩
theorem lw_p7 : lw_okq (⟨"SpriteAtlas", "emptyAtlas", "()V"⟩, 12) := ⟨⟨by decide +kernel, by decide +kernel⟩, List.mem_of_getElem? (i := 27) (by decide +kernel), List.mem_of_getElem? (i := 587) (by decide +kernel), List.mem_of_getElem? (i := 588) (by decide +kernel)⟩
theorem lw_p8 : lw_okq (⟨"SpriteAtlas$Packer", "lineUp", "()I"⟩, 5) := ⟨⟨by decide +kernel, by decide +kernel⟩, List.mem_of_getElem? (i := 289) (by decide +kernel), List.mem_of_getElem? (i := 683) (by decide +kernel), List.mem_of_getElem? (i := 684) (by decide +kernel)⟩
theorem lw_p9 : lw_okq (⟨"SpriteAtlas$Packer", "rankOf", "(I)I"⟩, 5) := ⟨⟨by decide +kernel, by decide +kernel⟩, List.mem_of_getElem? (i := 289) (by decide +kernel), List.mem_of_getElem? (i := 688) (by decide +kernel), List.mem_of_getElem? (i := 689) (by decide +kernel)⟩
theorem lw_p10 : lw_okq (⟨"SpriteAtlas$Packer", "isOpenTo", "(II)Z"⟩, 5) := ⟨⟨by decide +kernel, by decide +kernel⟩, List.mem_of_getElem? (i := 289) (by decide +kernel), List.mem_of_getElem? (i := 698) (by decide +kernel), List.mem_of_getElem? (i := 699) (by decide +kernel)⟩
theorem lw_p11 : lw_okq (⟨"SpriteAtlas$Packer", "chooseOn", "(II)Z"⟩, 5) := ⟨⟨by decide +kernel, by decide +kernel⟩, List.mem_of_getElem? (i := 289) (by decide +kernel), List.mem_of_getElem? (i := 706) (by decide +kernel), List.mem_of_getElem? (i := 707) (by decide +kernel)⟩
theorem lw_p12 : lw_okq (⟨"SpriteAtlas$Packer", "offerBoth", "(II)V"⟩, 5) := ⟨⟨by decide +kernel, by decide +kernel⟩, List.mem_of_getElem? (i := 289) (by decide +kernel), List.mem_of_getElem? (i := 718) (by decide +kernel), List.mem_of_getElem? (i := 719) (by decide +kernel)⟩
theorem lw_p13 : lw_okq (⟨"SpriteAtlas$Packer", "offer", "(IIZ)V"⟩, 5) := ⟨⟨by decide +kernel, by decide +kernel⟩, List.mem_of_getElem? (i := 289) (by decide +kernel), List.mem_of_getElem? (i := 722) (by decide +kernel), List.mem_of_getElem? (i := 723) (by decide +kernel)⟩
theorem lw_p14 : lw_okq (⟨"SpriteAtlas$Packer", "boxWidth", "(IZ)I"⟩, 5) := ⟨⟨by decide +kernel, by decide +kernel⟩, List.mem_of_getElem? (i := 289) (by decide +kernel), List.mem_of_getElem? (i := 726) (by decide +kernel), List.mem_of_getElem? (i := 727) (by decide +kernel)⟩
theorem lw_p15 : lw_okq (⟨"SpriteAtlas$Packer", "boxHeight", "(IZ)I"⟩, 5) := ⟨⟨by decide +kernel, by decide +kernel⟩, List.mem_of_getElem? (i := 289) (by decide +kernel), List.mem_of_getElem? (i := 734) (by decide +kernel), List.mem_of_getElem? (i := 735) (by decide +kernel)⟩
def lw_privs_1 : List (MethodName × Nat) := [(⟨"SpriteAtlas$Text", "addImage", "(LSpriteAtlas$Sheet;II)V"⟩, 2), (⟨"SpriteAtlas$Catalog", "trim", "(LSpriteAtlas$Sheet;I)V"⟩, 6), (⟨"SpriteAtlas$Catalog", "setTrim", "(IIIII)V"⟩, 6), (⟨"SpriteAtlas$Catalog", "findOriginal", "(LSpriteAtlas$Sheet;II)V"⟩, 6), (⟨"SpriteAtlas$Catalog", "matches", "(LSpriteAtlas$Sheet;III)Z"⟩, 6), (⟨"SpriteAtlas", "drawOne", "()V"⟩, 12), (⟨"SpriteAtlas", "nextRandom", "()I"⟩, 12), (⟨"SpriteAtlas", "emptyAtlas", "()V"⟩, 12), (⟨"SpriteAtlas$Packer", "lineUp", "()I"⟩, 5), (⟨"SpriteAtlas$Packer", "rankOf", "(I)I"⟩, 5), (⟨"SpriteAtlas$Packer", "isOpenTo", "(II)Z"⟩, 5), (⟨"SpriteAtlas$Packer", "chooseOn", "(II)Z"⟩, 5), (⟨"SpriteAtlas$Packer", "offerBoth", "(II)V"⟩, 5), (⟨"SpriteAtlas$Packer", "offer", "(IIZ)V"⟩, 5), (⟨"SpriteAtlas$Packer", "boxWidth", "(IZ)I"⟩, 5), (⟨"SpriteAtlas$Packer", "boxHeight", "(IZ)I"⟩, 5)]
theorem lw_r1 : ∀ q ∈ lw_privs_1, lw_okq q := List.forall_mem_cons.mpr ⟨lw_p0, List.forall_mem_cons.mpr ⟨lw_p1, List.forall_mem_cons.mpr ⟨lw_p2, List.forall_mem_cons.mpr ⟨lw_p3, List.forall_mem_cons.mpr ⟨lw_p4, List.forall_mem_cons.mpr ⟨lw_p5, List.forall_mem_cons.mpr ⟨lw_p6, List.forall_mem_cons.mpr ⟨lw_p7, List.forall_mem_cons.mpr ⟨lw_p8, List.forall_mem_cons.mpr ⟨lw_p9, List.forall_mem_cons.mpr ⟨lw_p10, List.forall_mem_cons.mpr ⟨lw_p11, List.forall_mem_cons.mpr ⟨lw_p12, List.forall_mem_cons.mpr ⟨lw_p13, List.forall_mem_cons.mpr ⟨lw_p14, List.forall_mem_cons.mpr ⟨lw_p15, fun _ h => absurd h List.not_mem_nil⟩⟩⟩⟩⟩⟩⟩⟩⟩⟩⟩⟩⟩⟩⟩⟩
theorem lw_p16 : lw_okq (⟨"SpriteAtlas$Packer", "chooseOnNewPage", "(I)Z"⟩, 5) := ⟨⟨by decide +kernel, by decide +kernel⟩, List.mem_of_getElem? (i := 289) (by decide +kernel), List.mem_of_getElem? (i := 756) (by decide +kernel), List.mem_of_getElem? (i := 757) (by decide +kernel)⟩
theorem lw_p17 : lw_okq (⟨"SpriteAtlas$Space", "collectRuns", "(IIIJJJ)V"⟩, 5) := ⟨⟨by decide +kernel, by decide +kernel⟩, List.mem_of_getElem? (i := 295) (by decide +kernel), List.mem_of_getElem? (i := 804) (by decide +kernel), List.mem_of_getElem? (i := 805) (by decide +kernel)⟩
theorem lw_p18 : lw_okq (⟨"SpriteAtlas$Space", "addSorted", "(II)V"⟩, 5) := ⟨⟨by decide +kernel, by decide +kernel⟩, List.mem_of_getElem? (i := 295) (by decide +kernel), List.mem_of_getElem? (i := 815) (by decide +kernel), List.mem_of_getElem? (i := 816) (by decide +kernel)⟩
theorem lw_p19 : lw_okq (⟨"SpriteAtlas", "studyAll", "()V"⟩, 12) := ⟨⟨by decide +kernel, by decide +kernel⟩, List.mem_of_getElem? (i := 27) (by decide +kernel), List.mem_of_getElem? (i := 839) (by decide +kernel), List.mem_of_getElem? (i := 840) (by decide +kernel)⟩
theorem lw_p20 : lw_okq (⟨"SpriteAtlas", "placeOf", "(I)I"⟩, 12) := ⟨⟨by decide +kernel, by decide +kernel⟩, List.mem_of_getElem? (i := 27) (by decide +kernel), List.mem_of_getElem? (i := 847) (by decide +kernel), List.mem_of_getElem? (i := 848) (by decide +kernel)⟩
theorem lw_p21 : lw_okq (⟨"SpriteAtlas", "hasPagePixel", "(III)Z"⟩, 12) := ⟨⟨by decide +kernel, by decide +kernel⟩, List.mem_of_getElem? (i := 27) (by decide +kernel), List.mem_of_getElem? (i := 894) (by decide +kernel), List.mem_of_getElem? (i := 895) (by decide +kernel)⟩
theorem lw_p22 : lw_okq (⟨"SpriteAtlas", "hasPage", "(I)Z"⟩, 12) := ⟨⟨by decide +kernel, by decide +kernel⟩, List.mem_of_getElem? (i := 27) (by decide +kernel), List.mem_of_getElem? (i := 898) (by decide +kernel), List.mem_of_getElem? (i := 899) (by decide +kernel)⟩
theorem lw_p23 : lw_okq (⟨"SpriteAtlas$Packer", "imageWidth", "(I)I"⟩, 5) := ⟨⟨by decide +kernel, by decide +kernel⟩, List.mem_of_getElem? (i := 289) (by decide +kernel), List.mem_of_getElem? (i := 912) (by decide +kernel), List.mem_of_getElem? (i := 913) (by decide +kernel)⟩
theorem lw_p24 : lw_okq (⟨"SpriteAtlas$Packer", "imageHeight", "(I)I"⟩, 5) := ⟨⟨by decide +kernel, by decide +kernel⟩, List.mem_of_getElem? (i := 289) (by decide +kernel), List.mem_of_getElem? (i := 916) (by decide +kernel), List.mem_of_getElem? (i := 917) (by decide +kernel)⟩
theorem lw_p25 : lw_okq (⟨"SpriteAtlas", "hasFree", "(II)Z"⟩, 12) := ⟨⟨by decide +kernel, by decide +kernel⟩, List.mem_of_getElem? (i := 27) (by decide +kernel), List.mem_of_getElem? (i := 950) (by decide +kernel), List.mem_of_getElem? (i := 951) (by decide +kernel)⟩
theorem lw_p26 : lw_okq (⟨"SpriteAtlas", "packingCost", "(I)J"⟩, 12) := ⟨⟨by decide +kernel, by decide +kernel⟩, List.mem_of_getElem? (i := 27) (by decide +kernel), List.mem_of_getElem? (i := 1001) (by decide +kernel), List.mem_of_getElem? (i := 1002) (by decide +kernel)⟩
theorem lw_p27 : lw_okq (⟨"SpriteAtlas", "printPlace", "(I)V"⟩, 12) := ⟨⟨by decide +kernel, by decide +kernel⟩, List.mem_of_getElem? (i := 27) (by decide +kernel), List.mem_of_getElem? (i := 1196) (by decide +kernel), List.mem_of_getElem? (i := 1197) (by decide +kernel)⟩
theorem lw_p28 : lw_okq (⟨"SpriteAtlas", "slotState", "(I)LSpriteAtlas$State;"⟩, 12) := ⟨⟨by decide +kernel, by decide +kernel⟩, List.mem_of_getElem? (i := 27) (by decide +kernel), List.mem_of_getElem? (i := 1236) (by decide +kernel), List.mem_of_getElem? (i := 1237) (by decide +kernel)⟩
theorem lw_p29 : lw_okq (⟨"SpriteAtlas", "mixSprite", "(JI)J"⟩, 12) := ⟨⟨by decide +kernel, by decide +kernel⟩, List.mem_of_getElem? (i := 27) (by decide +kernel), List.mem_of_getElem? (i := 1253) (by decide +kernel), List.mem_of_getElem? (i := 1254) (by decide +kernel)⟩
theorem lw_p30 : lw_okq (⟨"SpriteAtlas", "mixPage", "(JI)J"⟩, 12) := ⟨⟨by decide +kernel, by decide +kernel⟩, List.mem_of_getElem? (i := 27) (by decide +kernel), List.mem_of_getElem? (i := 1268) (by decide +kernel), List.mem_of_getElem? (i := 1269) (by decide +kernel)⟩
theorem lw_p31 : lw_okq (⟨"SpriteAtlasModel", "faultOf", "()I"⟩, 38) := ⟨⟨by decide +kernel, by decide +kernel⟩, List.mem_of_getElem? (i := 1275) (by decide +kernel), List.mem_of_getElem? (i := 1415) (by decide +kernel), List.mem_of_getElem? (i := 1416) (by decide +kernel)⟩
def lw_privs_2 : List (MethodName × Nat) := [(⟨"SpriteAtlas$Packer", "chooseOnNewPage", "(I)Z"⟩, 5), (⟨"SpriteAtlas$Space", "collectRuns", "(IIIJJJ)V"⟩, 5), (⟨"SpriteAtlas$Space", "addSorted", "(II)V"⟩, 5), (⟨"SpriteAtlas", "studyAll", "()V"⟩, 12), (⟨"SpriteAtlas", "placeOf", "(I)I"⟩, 12), (⟨"SpriteAtlas", "hasPagePixel", "(III)Z"⟩, 12), (⟨"SpriteAtlas", "hasPage", "(I)Z"⟩, 12), (⟨"SpriteAtlas$Packer", "imageWidth", "(I)I"⟩, 5), (⟨"SpriteAtlas$Packer", "imageHeight", "(I)I"⟩, 5), (⟨"SpriteAtlas", "hasFree", "(II)Z"⟩, 12), (⟨"SpriteAtlas", "packingCost", "(I)J"⟩, 12), (⟨"SpriteAtlas", "printPlace", "(I)V"⟩, 12), (⟨"SpriteAtlas", "slotState", "(I)LSpriteAtlas$State;"⟩, 12), (⟨"SpriteAtlas", "mixSprite", "(JI)J"⟩, 12), (⟨"SpriteAtlas", "mixPage", "(JI)J"⟩, 12), (⟨"SpriteAtlasModel", "faultOf", "()I"⟩, 38)]
theorem lw_r2 : ∀ q ∈ lw_privs_2, lw_okq q := List.forall_mem_cons.mpr ⟨lw_p16, List.forall_mem_cons.mpr ⟨lw_p17, List.forall_mem_cons.mpr ⟨lw_p18, List.forall_mem_cons.mpr ⟨lw_p19, List.forall_mem_cons.mpr ⟨lw_p20, List.forall_mem_cons.mpr ⟨lw_p21, List.forall_mem_cons.mpr ⟨lw_p22, List.forall_mem_cons.mpr ⟨lw_p23, List.forall_mem_cons.mpr ⟨lw_p24, List.forall_mem_cons.mpr ⟨lw_p25, List.forall_mem_cons.mpr ⟨lw_p26, List.forall_mem_cons.mpr ⟨lw_p27, List.forall_mem_cons.mpr ⟨lw_p28, List.forall_mem_cons.mpr ⟨lw_p29, List.forall_mem_cons.mpr ⟨lw_p30, List.forall_mem_cons.mpr ⟨lw_p31, fun _ h => absurd h List.not_mem_nil⟩⟩⟩⟩⟩⟩⟩⟩⟩⟩⟩⟩⟩⟩⟩⟩
theorem lw_p32 : lw_okq (⟨"SpriteAtlasModel", "notes", "()V"⟩, 38) := ⟨⟨by decide +kernel, by decide +kernel⟩, List.mem_of_getElem? (i := 1275) (by decide +kernel), List.mem_of_getElem? (i := 1423) (by decide +kernel), List.mem_of_getElem? (i := 1424) (by decide +kernel)⟩
theorem lw_p33 : lw_okq (⟨"SpriteAtlasModel", "adds", "(II)V"⟩, 38) := ⟨⟨by decide +kernel, by decide +kernel⟩, List.mem_of_getElem? (i := 1275) (by decide +kernel), List.mem_of_getElem? (i := 1427) (by decide +kernel), List.mem_of_getElem? (i := 1428) (by decide +kernel)⟩
theorem lw_p34 : lw_okq (⟨"SpriteAtlasModel", "random", "(I)I"⟩, 38) := ⟨⟨by decide +kernel, by decide +kernel⟩, List.mem_of_getElem? (i := 1275) (by decide +kernel), List.mem_of_getElem? (i := 1441) (by decide +kernel), List.mem_of_getElem? (i := 1442) (by decide +kernel)⟩
theorem lw_p35 : lw_okq (⟨"SpriteAtlasModel", "isSprite", "(I)Z"⟩, 38) := ⟨⟨by decide +kernel, by decide +kernel⟩, List.mem_of_getElem? (i := 1275) (by decide +kernel), List.mem_of_getElem? (i := 1457) (by decide +kernel), List.mem_of_getElem? (i := 1458) (by decide +kernel)⟩
theorem lw_p36 : lw_okq (⟨"SpriteAtlasModel", "isPixel", "(III)Z"⟩, 38) := ⟨⟨by decide +kernel, by decide +kernel⟩, List.mem_of_getElem? (i := 1275) (by decide +kernel), List.mem_of_getElem? (i := 1469) (by decide +kernel), List.mem_of_getElem? (i := 1470) (by decide +kernel)⟩
theorem lw_p37 : lw_okq (⟨"SpriteAtlasModel", "sets", "(II)I"⟩, 38) := ⟨⟨by decide +kernel, by decide +kernel⟩, List.mem_of_getElem? (i := 1275) (by decide +kernel), List.mem_of_getElem? (i := 1477) (by decide +kernel), List.mem_of_getElem? (i := 1478) (by decide +kernel)⟩
theorem lw_p38 : lw_okq (⟨"SpriteAtlasModel", "empties", "()V"⟩, 38) := ⟨⟨by decide +kernel, by decide +kernel⟩, List.mem_of_getElem? (i := 1275) (by decide +kernel), List.mem_of_getElem? (i := 1481) (by decide +kernel), List.mem_of_getElem? (i := 1482) (by decide +kernel)⟩
theorem lw_p39 : lw_okq (⟨"SpriteAtlasModel", "knows", "()V"⟩, 38) := ⟨⟨by decide +kernel, by decide +kernel⟩, List.mem_of_getElem? (i := 1275) (by decide +kernel), List.mem_of_getElem? (i := 1501) (by decide +kernel), List.mem_of_getElem? (i := 1502) (by decide +kernel)⟩
theorem lw_p40 : lw_okq (⟨"SpriteAtlasModel", "trims", "(I)V"⟩, 38) := ⟨⟨by decide +kernel, by decide +kernel⟩, List.mem_of_getElem? (i := 1275) (by decide +kernel), List.mem_of_getElem? (i := 1505) (by decide +kernel), List.mem_of_getElem? (i := 1506) (by decide +kernel)⟩
theorem lw_p41 : lw_okq (⟨"SpriteAtlasModel", "seeks", "(I)V"⟩, 38) := ⟨⟨by decide +kernel, by decide +kernel⟩, List.mem_of_getElem? (i := 1275) (by decide +kernel), List.mem_of_getElem? (i := 1509) (by decide +kernel), List.mem_of_getElem? (i := 1510) (by decide +kernel)⟩
theorem lw_p42 : lw_okq (⟨"SpriteAtlasModel", "orientations", "()I"⟩, 38) := ⟨⟨by decide +kernel, by decide +kernel⟩, List.mem_of_getElem? (i := 1275) (by decide +kernel), List.mem_of_getElem? (i := 1513) (by decide +kernel), List.mem_of_getElem? (i := 1514) (by decide +kernel)⟩
theorem lw_p43 : lw_okq (⟨"SpriteAtlasModel", "isLike", "(IIII)Z"⟩, 38) := ⟨⟨by decide +kernel, by decide +kernel⟩, List.mem_of_getElem? (i := 1275) (by decide +kernel), List.mem_of_getElem? (i := 1517) (by decide +kernel), List.mem_of_getElem? (i := 1518) (by decide +kernel)⟩
theorem lw_p44 : lw_okq (⟨"SpriteAtlasModel", "colorBy", "(IIIII)I"⟩, 38) := ⟨⟨by decide +kernel, by decide +kernel⟩, List.mem_of_getElem? (i := 1275) (by decide +kernel), List.mem_of_getElem? (i := 1521) (by decide +kernel), List.mem_of_getElem? (i := 1522) (by decide +kernel)⟩
theorem lw_p45 : lw_okq (⟨"SpriteAtlasModel", "turnsBack", "(IIIII)V"⟩, 38) := ⟨⟨by decide +kernel, by decide +kernel⟩, List.mem_of_getElem? (i := 1275) (by decide +kernel), List.mem_of_getElem? (i := 1525) (by decide +kernel), List.mem_of_getElem? (i := 1526) (by decide +kernel)⟩
theorem lw_p46 : lw_okq (⟨"SpriteAtlasModel", "packs", "()I"⟩, 38) := ⟨⟨by decide +kernel, by decide +kernel⟩, List.mem_of_getElem? (i := 1275) (by decide +kernel), List.mem_of_getElem? (i := 1589) (by decide +kernel), List.mem_of_getElem? (i := 1590) (by decide +kernel)⟩
theorem lw_p47 : lw_okq (⟨"SpriteAtlasModel", "isOriginal", "(I)Z"⟩, 38) := ⟨⟨by decide +kernel, by decide +kernel⟩, List.mem_of_getElem? (i := 1275) (by decide +kernel), List.mem_of_getElem? (i := 1593) (by decide +kernel), List.mem_of_getElem? (i := 1594) (by decide +kernel)⟩
def lw_privs_3 : List (MethodName × Nat) := [(⟨"SpriteAtlasModel", "notes", "()V"⟩, 38), (⟨"SpriteAtlasModel", "adds", "(II)V"⟩, 38), (⟨"SpriteAtlasModel", "random", "(I)I"⟩, 38), (⟨"SpriteAtlasModel", "isSprite", "(I)Z"⟩, 38), (⟨"SpriteAtlasModel", "isPixel", "(III)Z"⟩, 38), (⟨"SpriteAtlasModel", "sets", "(II)I"⟩, 38), (⟨"SpriteAtlasModel", "empties", "()V"⟩, 38), (⟨"SpriteAtlasModel", "knows", "()V"⟩, 38), (⟨"SpriteAtlasModel", "trims", "(I)V"⟩, 38), (⟨"SpriteAtlasModel", "seeks", "(I)V"⟩, 38), (⟨"SpriteAtlasModel", "orientations", "()I"⟩, 38), (⟨"SpriteAtlasModel", "isLike", "(IIII)Z"⟩, 38), (⟨"SpriteAtlasModel", "colorBy", "(IIIII)I"⟩, 38), (⟨"SpriteAtlasModel", "turnsBack", "(IIIII)V"⟩, 38), (⟨"SpriteAtlasModel", "packs", "()I"⟩, 38), (⟨"SpriteAtlasModel", "isOriginal", "(I)Z"⟩, 38)]
theorem lw_r3 : ∀ q ∈ lw_privs_3, lw_okq q := List.forall_mem_cons.mpr ⟨lw_p32, List.forall_mem_cons.mpr ⟨lw_p33, List.forall_mem_cons.mpr ⟨lw_p34, List.forall_mem_cons.mpr ⟨lw_p35, List.forall_mem_cons.mpr ⟨lw_p36, List.forall_mem_cons.mpr ⟨lw_p37, List.forall_mem_cons.mpr ⟨lw_p38, List.forall_mem_cons.mpr ⟨lw_p39, List.forall_mem_cons.mpr ⟨lw_p40, List.forall_mem_cons.mpr ⟨lw_p41, List.forall_mem_cons.mpr ⟨lw_p42, List.forall_mem_cons.mpr ⟨lw_p43, List.forall_mem_cons.mpr ⟨lw_p44, List.forall_mem_cons.mpr ⟨lw_p45, List.forall_mem_cons.mpr ⟨lw_p46, List.forall_mem_cons.mpr ⟨lw_p47, fun _ h => absurd h List.not_mem_nil⟩⟩⟩⟩⟩⟩⟩⟩⟩⟩⟩⟩⟩⟩⟩⟩
theorem lw_p48 : lw_okq (⟨"SpriteAtlasModel", "isFirst", "(II)Z"⟩, 38) := ⟨⟨by decide +kernel, by decide +kernel⟩, List.mem_of_getElem? (i := 1275) (by decide +kernel), List.mem_of_getElem? (i := 1597) (by decide +kernel), List.mem_of_getElem? (i := 1598) (by decide +kernel)⟩
theorem lw_p49 : lw_okq (⟨"SpriteAtlasModel", "places", "(I)Z"⟩, 38) := ⟨⟨by decide +kernel, by decide +kernel⟩, List.mem_of_getElem? (i := 1275) (by decide +kernel), List.mem_of_getElem? (i := 1601) (by decide +kernel), List.mem_of_getElem? (i := 1602) (by decide +kernel)⟩
theorem lw_p50 : lw_okq (⟨"SpriteAtlasModel", "isOpen", "(II)Z"⟩, 38) := ⟨⟨by decide +kernel, by decide +kernel⟩, List.mem_of_getElem? (i := 1275) (by decide +kernel), List.mem_of_getElem? (i := 1605) (by decide +kernel), List.mem_of_getElem? (i := 1606) (by decide +kernel)⟩
theorem lw_p51 : lw_okq (⟨"SpriteAtlasModel", "boxesOf", "(I)V"⟩, 38) := ⟨⟨by decide +kernel, by decide +kernel⟩, List.mem_of_getElem? (i := 1275) (by decide +kernel), List.mem_of_getElem? (i := 1609) (by decide +kernel), List.mem_of_getElem? (i := 1610) (by decide +kernel)⟩
theorem lw_p52 : lw_okq (⟨"SpriteAtlasModel", "boxWidth", "(II)I"⟩, 38) := ⟨⟨by decide +kernel, by decide +kernel⟩, List.mem_of_getElem? (i := 1275) (by decide +kernel), List.mem_of_getElem? (i := 1613) (by decide +kernel), List.mem_of_getElem? (i := 1614) (by decide +kernel)⟩
theorem lw_p53 : lw_okq (⟨"SpriteAtlasModel", "imageWidth", "(II)I"⟩, 38) := ⟨⟨by decide +kernel, by decide +kernel⟩, List.mem_of_getElem? (i := 1275) (by decide +kernel), List.mem_of_getElem? (i := 1617) (by decide +kernel), List.mem_of_getElem? (i := 1618) (by decide +kernel)⟩
theorem lw_p54 : lw_okq (⟨"SpriteAtlasModel", "boxHeight", "(II)I"⟩, 38) := ⟨⟨by decide +kernel, by decide +kernel⟩, List.mem_of_getElem? (i := 1275) (by decide +kernel), List.mem_of_getElem? (i := 1621) (by decide +kernel), List.mem_of_getElem? (i := 1622) (by decide +kernel)⟩
theorem lw_p55 : lw_okq (⟨"SpriteAtlasModel", "imageHeight", "(II)I"⟩, 38) := ⟨⟨by decide +kernel, by decide +kernel⟩, List.mem_of_getElem? (i := 1275) (by decide +kernel), List.mem_of_getElem? (i := 1625) (by decide +kernel), List.mem_of_getElem? (i := 1626) (by decide +kernel)⟩
theorem lw_p56 : lw_okq (⟨"SpriteAtlasModel", "placesOn", "(II)Z"⟩, 38) := ⟨⟨by decide +kernel, by decide +kernel⟩, List.mem_of_getElem? (i := 1275) (by decide +kernel), List.mem_of_getElem? (i := 1629) (by decide +kernel), List.mem_of_getElem? (i := 1630) (by decide +kernel)⟩
theorem lw_p57 : lw_okq (⟨"SpriteAtlasModel", "freesOf", "(I)V"⟩, 38) := ⟨⟨by decide +kernel, by decide +kernel⟩, List.mem_of_getElem? (i := 1275) (by decide +kernel), List.mem_of_getElem? (i := 1633) (by decide +kernel), List.mem_of_getElem? (i := 1634) (by decide +kernel)⟩
theorem lw_p58 : lw_okq (⟨"SpriteAtlasModel", "fieldWidth", "()I"⟩, 38) := ⟨⟨by decide +kernel, by decide +kernel⟩, List.mem_of_getElem? (i := 1275) (by decide +kernel), List.mem_of_getElem? (i := 1637) (by decide +kernel), List.mem_of_getElem? (i := 1638) (by decide +kernel)⟩
theorem lw_p59 : lw_okq (⟨"SpriteAtlasModel", "fieldHeight", "()I"⟩, 38) := ⟨⟨by decide +kernel, by decide +kernel⟩, List.mem_of_getElem? (i := 1275) (by decide +kernel), List.mem_of_getElem? (i := 1641) (by decide +kernel), List.mem_of_getElem? (i := 1642) (by decide +kernel)⟩
theorem lw_p60 : lw_okq (⟨"SpriteAtlasModel", "between", "(II)V"⟩, 38) := ⟨⟨by decide +kernel, by decide +kernel⟩, List.mem_of_getElem? (i := 1275) (by decide +kernel), List.mem_of_getElem? (i := 1645) (by decide +kernel), List.mem_of_getElem? (i := 1646) (by decide +kernel)⟩
theorem lw_p61 : lw_okq (⟨"SpriteAtlasModel", "offers", "(IIII)V"⟩, 38) := ⟨⟨by decide +kernel, by decide +kernel⟩, List.mem_of_getElem? (i := 1275) (by decide +kernel), List.mem_of_getElem? (i := 1649) (by decide +kernel), List.mem_of_getElem? (i := 1650) (by decide +kernel)⟩
theorem lw_p62 : lw_okq (⟨"SpriteAtlasModel", "isHeld", "(III)Z"⟩, 38) := ⟨⟨by decide +kernel, by decide +kernel⟩, List.mem_of_getElem? (i := 1275) (by decide +kernel), List.mem_of_getElem? (i := 1653) (by decide +kernel), List.mem_of_getElem? (i := 1654) (by decide +kernel)⟩
theorem lw_p63 : lw_okq (⟨"SpriteAtlasModel", "isBehind", "(IIII)Z"⟩, 38) := ⟨⟨by decide +kernel, by decide +kernel⟩, List.mem_of_getElem? (i := 1275) (by decide +kernel), List.mem_of_getElem? (i := 1657) (by decide +kernel), List.mem_of_getElem? (i := 1658) (by decide +kernel)⟩
def lw_privs_4 : List (MethodName × Nat) := [(⟨"SpriteAtlasModel", "isFirst", "(II)Z"⟩, 38), (⟨"SpriteAtlasModel", "places", "(I)Z"⟩, 38), (⟨"SpriteAtlasModel", "isOpen", "(II)Z"⟩, 38), (⟨"SpriteAtlasModel", "boxesOf", "(I)V"⟩, 38), (⟨"SpriteAtlasModel", "boxWidth", "(II)I"⟩, 38), (⟨"SpriteAtlasModel", "imageWidth", "(II)I"⟩, 38), (⟨"SpriteAtlasModel", "boxHeight", "(II)I"⟩, 38), (⟨"SpriteAtlasModel", "imageHeight", "(II)I"⟩, 38), (⟨"SpriteAtlasModel", "placesOn", "(II)Z"⟩, 38), (⟨"SpriteAtlasModel", "freesOf", "(I)V"⟩, 38), (⟨"SpriteAtlasModel", "fieldWidth", "()I"⟩, 38), (⟨"SpriteAtlasModel", "fieldHeight", "()I"⟩, 38), (⟨"SpriteAtlasModel", "between", "(II)V"⟩, 38), (⟨"SpriteAtlasModel", "offers", "(IIII)V"⟩, 38), (⟨"SpriteAtlasModel", "isHeld", "(III)Z"⟩, 38), (⟨"SpriteAtlasModel", "isBehind", "(IIII)Z"⟩, 38)]
theorem lw_r4 : ∀ q ∈ lw_privs_4, lw_okq q := List.forall_mem_cons.mpr ⟨lw_p48, List.forall_mem_cons.mpr ⟨lw_p49, List.forall_mem_cons.mpr ⟨lw_p50, List.forall_mem_cons.mpr ⟨lw_p51, List.forall_mem_cons.mpr ⟨lw_p52, List.forall_mem_cons.mpr ⟨lw_p53, List.forall_mem_cons.mpr ⟨lw_p54, List.forall_mem_cons.mpr ⟨lw_p55, List.forall_mem_cons.mpr ⟨lw_p56, List.forall_mem_cons.mpr ⟨lw_p57, List.forall_mem_cons.mpr ⟨lw_p58, List.forall_mem_cons.mpr ⟨lw_p59, List.forall_mem_cons.mpr ⟨lw_p60, List.forall_mem_cons.mpr ⟨lw_p61, List.forall_mem_cons.mpr ⟨lw_p62, List.forall_mem_cons.mpr ⟨lw_p63, fun _ h => absurd h List.not_mem_nil⟩⟩⟩⟩⟩⟩⟩⟩⟩⟩⟩⟩⟩⟩⟩⟩
theorem lw_p64 : lw_okq (⟨"SpriteAtlasModel", "values", "(III)V"⟩, 38) := ⟨⟨by decide +kernel, by decide +kernel⟩, List.mem_of_getElem? (i := 1275) (by decide +kernel), List.mem_of_getElem? (i := 1661) (by decide +kernel), List.mem_of_getElem? (i := 1662) (by decide +kernel)⟩
theorem lw_p65 : lw_okq (⟨"SpriteAtlasModel", "fits", "(III)Z"⟩, 38) := ⟨⟨by decide +kernel, by decide +kernel⟩, List.mem_of_getElem? (i := 1275) (by decide +kernel), List.mem_of_getElem? (i := 1665) (by decide +kernel), List.mem_of_getElem? (i := 1666) (by decide +kernel)⟩
theorem lw_p66 : lw_okq (⟨"SpriteAtlasModel", "keeps", "()V"⟩, 38) := ⟨⟨by decide +kernel, by decide +kernel⟩, List.mem_of_getElem? (i := 1275) (by decide +kernel), List.mem_of_getElem? (i := 1673) (by decide +kernel), List.mem_of_getElem? (i := 1674) (by decide +kernel)⟩
theorem lw_p67 : lw_okq (⟨"SpriteAtlasModel", "copies", "(IZ)V"⟩, 38) := ⟨⟨by decide +kernel, by decide +kernel⟩, List.mem_of_getElem? (i := 1275) (by decide +kernel), List.mem_of_getElem? (i := 1677) (by decide +kernel), List.mem_of_getElem? (i := 1678) (by decide +kernel)⟩
theorem lw_p68 : lw_okq (⟨"SpriteAtlasModel", "brings", "()V"⟩, 38) := ⟨⟨by decide +kernel, by decide +kernel⟩, List.mem_of_getElem? (i := 1275) (by decide +kernel), List.mem_of_getElem? (i := 1681) (by decide +kernel), List.mem_of_getElem? (i := 1682) (by decide +kernel)⟩
theorem lw_p69 : lw_okq (⟨"SpriteAtlasModel", "holder", "(I)I"⟩, 38) := ⟨⟨by decide +kernel, by decide +kernel⟩, List.mem_of_getElem? (i := 1275) (by decide +kernel), List.mem_of_getElem? (i := 1693) (by decide +kernel), List.mem_of_getElem? (i := 1694) (by decide +kernel)⟩
theorem lw_p70 : lw_okq (⟨"SpriteAtlasModel", "columnOf", "(I)I"⟩, 38) := ⟨⟨by decide +kernel, by decide +kernel⟩, List.mem_of_getElem? (i := 1275) (by decide +kernel), List.mem_of_getElem? (i := 1701) (by decide +kernel), List.mem_of_getElem? (i := 1702) (by decide +kernel)⟩
theorem lw_p71 : lw_okq (⟨"SpriteAtlasModel", "rowOf", "(I)I"⟩, 38) := ⟨⟨by decide +kernel, by decide +kernel⟩, List.mem_of_getElem? (i := 1275) (by decide +kernel), List.mem_of_getElem? (i := 1709) (by decide +kernel), List.mem_of_getElem? (i := 1710) (by decide +kernel)⟩
theorem lw_p72 : lw_okq (⟨"SpriteAtlasModel", "record", "(II)I"⟩, 38) := ⟨⟨by decide +kernel, by decide +kernel⟩, List.mem_of_getElem? (i := 1275) (by decide +kernel), List.mem_of_getElem? (i := 1721) (by decide +kernel), List.mem_of_getElem? (i := 1722) (by decide +kernel)⟩
theorem lw_p73 : lw_okq (⟨"SpriteAtlasModel", "isOnPage", "(III)Z"⟩, 38) := ⟨⟨by decide +kernel, by decide +kernel⟩, List.mem_of_getElem? (i := 1275) (by decide +kernel), List.mem_of_getElem? (i := 1733) (by decide +kernel), List.mem_of_getElem? (i := 1734) (by decide +kernel)⟩
theorem lw_p74 : lw_okq (⟨"SpriteAtlasModel", "isPage", "(I)Z"⟩, 38) := ⟨⟨by decide +kernel, by decide +kernel⟩, List.mem_of_getElem? (i := 1275) (by decide +kernel), List.mem_of_getElem? (i := 1737) (by decide +kernel), List.mem_of_getElem? (i := 1738) (by decide +kernel)⟩
theorem lw_p75 : lw_okq (⟨"SpriteAtlasModel", "colorAt", "(III)I"⟩, 38) := ⟨⟨by decide +kernel, by decide +kernel⟩, List.mem_of_getElem? (i := 1275) (by decide +kernel), List.mem_of_getElem? (i := 1741) (by decide +kernel), List.mem_of_getElem? (i := 1742) (by decide +kernel)⟩
theorem lw_p76 : lw_okq (⟨"SpriteAtlasModel", "ownerAt", "(III)I"⟩, 38) := ⟨⟨by decide +kernel, by decide +kernel⟩, List.mem_of_getElem? (i := 1275) (by decide +kernel), List.mem_of_getElem? (i := 1745) (by decide +kernel), List.mem_of_getElem? (i := 1746) (by decide +kernel)⟩
theorem lw_p77 : lw_okq (⟨"SpriteAtlasModel", "used", "(IZ)I"⟩, 38) := ⟨⟨by decide +kernel, by decide +kernel⟩, List.mem_of_getElem? (i := 1275) (by decide +kernel), List.mem_of_getElem? (i := 1760) (by decide +kernel), List.mem_of_getElem? (i := 1761) (by decide +kernel)⟩
theorem lw_p78 : lw_okq (⟨"SpriteAtlasModel", "looks", "(I)I"⟩, 38) := ⟨⟨by decide +kernel, by decide +kernel⟩, List.mem_of_getElem? (i := 1275) (by decide +kernel), List.mem_of_getElem? (i := 1772) (by decide +kernel), List.mem_of_getElem? (i := 1773) (by decide +kernel)⟩
theorem lw_p79 : lw_okq (⟨"SpriteAtlasModel", "usedByAll", "()I"⟩, 38) := ⟨⟨by decide +kernel, by decide +kernel⟩, List.mem_of_getElem? (i := 1275) (by decide +kernel), List.mem_of_getElem? (i := 1808) (by decide +kernel), List.mem_of_getElem? (i := 1809) (by decide +kernel)⟩
def lw_privs_5 : List (MethodName × Nat) := [(⟨"SpriteAtlasModel", "values", "(III)V"⟩, 38), (⟨"SpriteAtlasModel", "fits", "(III)Z"⟩, 38), (⟨"SpriteAtlasModel", "keeps", "()V"⟩, 38), (⟨"SpriteAtlasModel", "copies", "(IZ)V"⟩, 38), (⟨"SpriteAtlasModel", "brings", "()V"⟩, 38), (⟨"SpriteAtlasModel", "holder", "(I)I"⟩, 38), (⟨"SpriteAtlasModel", "columnOf", "(I)I"⟩, 38), (⟨"SpriteAtlasModel", "rowOf", "(I)I"⟩, 38), (⟨"SpriteAtlasModel", "record", "(II)I"⟩, 38), (⟨"SpriteAtlasModel", "isOnPage", "(III)Z"⟩, 38), (⟨"SpriteAtlasModel", "isPage", "(I)Z"⟩, 38), (⟨"SpriteAtlasModel", "colorAt", "(III)I"⟩, 38), (⟨"SpriteAtlasModel", "ownerAt", "(III)I"⟩, 38), (⟨"SpriteAtlasModel", "used", "(IZ)I"⟩, 38), (⟨"SpriteAtlasModel", "looks", "(I)I"⟩, 38), (⟨"SpriteAtlasModel", "usedByAll", "()I"⟩, 38)]
theorem lw_r5 : ∀ q ∈ lw_privs_5, lw_okq q := List.forall_mem_cons.mpr ⟨lw_p64, List.forall_mem_cons.mpr ⟨lw_p65, List.forall_mem_cons.mpr ⟨lw_p66, List.forall_mem_cons.mpr ⟨lw_p67, List.forall_mem_cons.mpr ⟨lw_p68, List.forall_mem_cons.mpr ⟨lw_p69, List.forall_mem_cons.mpr ⟨lw_p70, List.forall_mem_cons.mpr ⟨lw_p71, List.forall_mem_cons.mpr ⟨lw_p72, List.forall_mem_cons.mpr ⟨lw_p73, List.forall_mem_cons.mpr ⟨lw_p74, List.forall_mem_cons.mpr ⟨lw_p75, List.forall_mem_cons.mpr ⟨lw_p76, List.forall_mem_cons.mpr ⟨lw_p77, List.forall_mem_cons.mpr ⟨lw_p78, List.forall_mem_cons.mpr ⟨lw_p79, fun _ h => absurd h List.not_mem_nil⟩⟩⟩⟩⟩⟩⟩⟩⟩⟩⟩⟩⟩⟩⟩⟩
theorem lw_p80 : lw_okq (⟨"SpriteAtlasModel", "number", "(I)V"⟩, 38) := ⟨⟨by decide +kernel, by decide +kernel⟩, List.mem_of_getElem? (i := 1275) (by decide +kernel), List.mem_of_getElem? (i := 1820) (by decide +kernel), List.mem_of_getElem? (i := 1821) (by decide +kernel)⟩
theorem lw_p81 : lw_okq (⟨"SpriteAtlasModel", "sign", "(I)V"⟩, 38) := ⟨⟨by decide +kernel, by decide +kernel⟩, List.mem_of_getElem? (i := 1275) (by decide +kernel), List.mem_of_getElem? (i := 1824) (by decide +kernel), List.mem_of_getElem? (i := 1825) (by decide +kernel)⟩
theorem lw_p82 : lw_okq (⟨"SpriteAtlasModel", "word", "(JJ)V"⟩, 38) := ⟨⟨by decide +kernel, by decide +kernel⟩, List.mem_of_getElem? (i := 1275) (by decide +kernel), List.mem_of_getElem? (i := 1829) (by decide +kernel), List.mem_of_getElem? (i := 1830) (by decide +kernel)⟩
theorem lw_p83 : lw_okq (⟨"SpriteAtlasModel", "printsPlace", "(II)V"⟩, 38) := ⟨⟨by decide +kernel, by decide +kernel⟩, List.mem_of_getElem? (i := 1275) (by decide +kernel), List.mem_of_getElem? (i := 1834) (by decide +kernel), List.mem_of_getElem? (i := 1835) (by decide +kernel)⟩
theorem lw_p84 : lw_okq (⟨"SpriteAtlasModel", "moreOf", "(JI)J"⟩, 38) := ⟨⟨by decide +kernel, by decide +kernel⟩, List.mem_of_getElem? (i := 1275) (by decide +kernel), List.mem_of_getElem? (i := 1864) (by decide +kernel), List.mem_of_getElem? (i := 1865) (by decide +kernel)⟩
theorem lw_p85 : lw_okq (⟨"SpriteAtlasModel", "moreOfPage", "(JI)J"⟩, 38) := ⟨⟨by decide +kernel, by decide +kernel⟩, List.mem_of_getElem? (i := 1275) (by decide +kernel), List.mem_of_getElem? (i := 1871) (by decide +kernel), List.mem_of_getElem? (i := 1872) (by decide +kernel)⟩
def lw_privs_6 : List (MethodName × Nat) := [(⟨"SpriteAtlasModel", "number", "(I)V"⟩, 38), (⟨"SpriteAtlasModel", "sign", "(I)V"⟩, 38), (⟨"SpriteAtlasModel", "word", "(JJ)V"⟩, 38), (⟨"SpriteAtlasModel", "printsPlace", "(II)V"⟩, 38), (⟨"SpriteAtlasModel", "moreOf", "(JI)J"⟩, 38), (⟨"SpriteAtlasModel", "moreOfPage", "(JI)J"⟩, 38)]
theorem lw_r6 : ∀ q ∈ lw_privs_6, lw_okq q := List.forall_mem_cons.mpr ⟨lw_p80, List.forall_mem_cons.mpr ⟨lw_p81, List.forall_mem_cons.mpr ⟨lw_p82, List.forall_mem_cons.mpr ⟨lw_p83, List.forall_mem_cons.mpr ⟨lw_p84, List.forall_mem_cons.mpr ⟨lw_p85, fun _ h => absurd h List.not_mem_nil⟩⟩⟩⟩⟩⟩
def lw_privs : List (MethodName × Nat) := lw_privs_1 ++ (lw_privs_2 ++ (lw_privs_3 ++ (lw_privs_4 ++ (lw_privs_5 ++ (lw_privs_6)))))
def lw_tbl : List Cond := k2_sels lw_privs ++ tables_1
theorem lw_privs_ok : ∀ q ∈ lw_privs, lw_okq q := by
  show ∀ q ∈ lw_privs_1 ++ (lw_privs_2 ++ (lw_privs_3 ++ (lw_privs_4 ++ (lw_privs_5 ++ (lw_privs_6))))), lw_okq q
  exact List.forall_mem_append.mpr ⟨lw_r1, List.forall_mem_append.mpr ⟨lw_r2, List.forall_mem_append.mpr ⟨lw_r3, List.forall_mem_append.mpr ⟨lw_r4, List.forall_mem_append.mpr ⟨lw_r5, lw_r6⟩⟩⟩⟩⟩
def RX0 : String := "SpriteAtlas$Catalog"
def TX0 : u_T := fun k => match k with
  | 0 => ("SpriteAtlas$Catalog", "lefts", "[I", true)
  | 1 => ("SpriteAtlas$Catalog", "tops", "[I", true)
  | 2 => ("SpriteAtlas$Catalog", "widths", "[I", true)
  | 3 => ("SpriteAtlas$Catalog", "heights", "[I", true)
  | 4 => ("SpriteAtlas$Catalog", "originals", "[I", true)
  | _ => ("SpriteAtlas$Catalog", "orientations", "[I", true)
def tyX0 : Nat → FieldType := fun k => match k with
  | 0 => .array .int
  | 1 => .array .int
  | 2 => .array .int
  | 3 => .array .int
  | 4 => .array .int
  | _ => .array .int
theorem nmX0 : ∀ a, a < 6 → ∀ b, b < 6 → a ≠ b → (TX0 a).2.1 ≠ (TX0 b).2.1 := by decide +kernel
theorem tyX0_ok : ∀ k, k < 6 → parseFieldDescriptor (TX0 k).2.2.1 = some (tyX0 k) := by decide +kernel
abbrev cX0_init : ByteArray := prog_2_method_1_code
def yX0_init : MethodName := ⟨RX0, "<init>", "()V"⟩
abbrev cX0_study : ByteArray := prog_2_method_2_code
def yX0_study : MethodName := ⟨RX0, "study", "(LSpriteAtlas$Sheet;LSpriteAtlas$Settings;)V"⟩
abbrev cX0_isBlank : ByteArray := prog_2_method_3_code
def yX0_isBlank : MethodName := ⟨RX0, "isBlank", "(I)Z"⟩
abbrev cX0_isOriginal : ByteArray := prog_2_method_4_code
def yX0_isOriginal : MethodName := ⟨RX0, "isOriginal", "(I)Z"⟩
abbrev cX0_sourceOf : ByteArray := prog_2_method_5_code
def yX0_sourceOf : MethodName := ⟨RX0, "sourceOf", "(I)I"⟩
abbrev cX0_findRecord : ByteArray := prog_2_method_6_code
def yX0_findRecord : MethodName := ⟨RX0, "findRecord", "(LSpriteAtlas$Sheet;IIZ)I"⟩
abbrev cX0_colorIn : ByteArray := prog_2_method_7_code
def yX0_colorIn : MethodName := ⟨RX0, "colorIn", "(LSpriteAtlas$Sheet;IIII)I"⟩
abbrev cX0_trim : ByteArray := prog_2_method_8_code
def yX0_trim : MethodName := ⟨RX0, "trim", "(LSpriteAtlas$Sheet;I)V"⟩
abbrev cX0_setTrim : ByteArray := prog_2_method_9_code
def yX0_setTrim : MethodName := ⟨RX0, "setTrim", "(IIIII)V"⟩
abbrev cX0_findOriginal : ByteArray := prog_2_method_10_code
def yX0_findOriginal : MethodName := ⟨RX0, "findOriginal", "(LSpriteAtlas$Sheet;II)V"⟩
abbrev cX0_matches : ByteArray := prog_2_method_11_code
def yX0_matches : MethodName := ⟨RX0, "matches", "(LSpriteAtlas$Sheet;III)Z"⟩
abbrev cX0_afterTurn : ByteArray := prog_2_method_12_code
def yX0_afterTurn : MethodName := ⟨RX0, "afterTurn", "(I)I"⟩
def RX1 : String := "SpriteAtlas$Choice"
def TX1 : u_T := fun k => match k with
  | 0 => ("SpriteAtlas$Choice", "found", "Z", false)
  | 1 => ("SpriteAtlas$Choice", "page", "I", false)
  | 2 => ("SpriteAtlas$Choice", "column", "I", false)
  | 3 => ("SpriteAtlas$Choice", "row", "I", false)
  | 4 => ("SpriteAtlas$Choice", "turned", "Z", false)
  | 5 => ("SpriteAtlas$Choice", "firstValue", "I", false)
  | _ => ("SpriteAtlas$Choice", "secondValue", "I", false)
def tyX1 : Nat → FieldType := fun k => match k with
  | 0 => .boolean
  | 1 => .int
  | 2 => .int
  | 3 => .int
  | 4 => .boolean
  | 5 => .int
  | _ => .int
theorem nmX1 : ∀ a, a < 7 → ∀ b, b < 7 → a ≠ b → (TX1 a).2.1 ≠ (TX1 b).2.1 := by decide +kernel
theorem tyX1_ok : ∀ k, k < 7 → parseFieldDescriptor (TX1 k).2.2.1 = some (tyX1 k) := by decide +kernel
abbrev cX1_init : ByteArray := prog_3_method_1_code
def yX1_init : MethodName := ⟨RX1, "<init>", "()V"⟩
abbrev cX1_startOn : ByteArray := prog_3_method_2_code
def yX1_startOn : MethodName := ⟨RX1, "startOn", "(I)V"⟩
abbrev cX1_offer : ByteArray := prog_3_method_3_code
def yX1_offer : MethodName := ⟨RX1, "offer", "(IZII)V"⟩
def RX2 : String := "SpriteAtlas$History"
def TX2 : u_T := fun k => match k with
  | 0 => ("SpriteAtlas$History", "states", "[LSpriteAtlas$State;", true)
  | 1 => ("SpriteAtlas$History", "latest", "I", false)
  | _ => ("SpriteAtlas$History", "count", "I", false)
def tyX2 : Nat → FieldType := fun k => match k with
  | 0 => .array (.object "SpriteAtlas$State")
  | 1 => .int
  | _ => .int
theorem nmX2 : ∀ a, a < 3 → ∀ b, b < 3 → a ≠ b → (TX2 a).2.1 ≠ (TX2 b).2.1 := by decide +kernel
theorem tyX2_ok : ∀ k, k < 3 → parseFieldDescriptor (TX2 k).2.2.1 = some (tyX2 k) := by decide +kernel
abbrev cX2_init : ByteArray := prog_4_method_1_code
def yX2_init : MethodName := ⟨RX2, "<init>", "()V"⟩
abbrev cX2_record : ByteArray := prog_4_method_2_code
def yX2_record : MethodName := ⟨RX2, "record", "(LSpriteAtlas$State;)V"⟩
abbrev cX2_takeBack : ByteArray := prog_4_method_3_code
def yX2_takeBack : MethodName := ⟨RX2, "takeBack", "(LSpriteAtlas$State;)V"⟩
def RX3 : String := "SpriteAtlas$Packer"
def TX3 : u_T := fun k => match k with
  | 0 => ("SpriteAtlas$Packer", "state", "LSpriteAtlas$State;", true)
  | 1 => ("SpriteAtlas$Packer", "catalog", "LSpriteAtlas$Catalog;", true)
  | 2 => ("SpriteAtlas$Packer", "space", "LSpriteAtlas$Space;", true)
  | 3 => ("SpriteAtlas$Packer", "choice", "LSpriteAtlas$Choice;", true)
  | _ => ("SpriteAtlas$Packer", "line", "[I", true)
def tyX3 : Nat → FieldType := fun k => match k with
  | 0 => .object "SpriteAtlas$State"
  | 1 => .object "SpriteAtlas$Catalog"
  | 2 => .object "SpriteAtlas$Space"
  | 3 => .object "SpriteAtlas$Choice"
  | _ => .array .int
theorem nmX3 : ∀ a, a < 5 → ∀ b, b < 5 → a ≠ b → (TX3 a).2.1 ≠ (TX3 b).2.1 := by decide +kernel
theorem tyX3_ok : ∀ k, k < 5 → parseFieldDescriptor (TX3 k).2.2.1 = some (tyX3 k) := by decide +kernel
abbrev cX3_init : ByteArray := prog_5_method_1_code
def yX3_init : MethodName := ⟨RX3, "<init>", "(LSpriteAtlas$State;LSpriteAtlas$Catalog;)V"⟩
abbrev cX3_placeAll : ByteArray := prog_5_method_2_code
def yX3_placeAll : MethodName := ⟨RX3, "placeAll", "()I"⟩
abbrev cX3_choose : ByteArray := prog_5_method_3_code
def yX3_choose : MethodName := ⟨RX3, "choose", "(I)Z"⟩
abbrev cX3_putAsChosen : ByteArray := prog_5_method_4_code
def yX3_putAsChosen : MethodName := ⟨RX3, "putAsChosen", "(I)V"⟩
abbrev cX3_survey : ByteArray := prog_5_method_5_code
def yX3_survey : MethodName := ⟨RX3, "survey", "(I)V"⟩
abbrev cX3_imageColumn : ByteArray := prog_5_method_6_code
def yX3_imageColumn : MethodName := ⟨RX3, "imageColumn", "(I)I"⟩
abbrev cX3_imageRow : ByteArray := prog_5_method_7_code
def yX3_imageRow : MethodName := ⟨RX3, "imageRow", "(I)I"⟩
abbrev cX3_ownerOf : ByteArray := prog_5_method_8_code
def yX3_ownerOf : MethodName := ⟨RX3, "ownerOf", "(III)I"⟩
abbrev cX3_colorOn : ByteArray := prog_5_method_9_code
def yX3_colorOn : MethodName := ⟨RX3, "colorOn", "(III)I"⟩
abbrev cX3_usedColumns : ByteArray := prog_5_method_10_code
def yX3_usedColumns : MethodName := ⟨RX3, "usedColumns", "(I)I"⟩
abbrev cX3_usedRows : ByteArray := prog_5_method_11_code
def yX3_usedRows : MethodName := ⟨RX3, "usedRows", "(I)I"⟩
abbrev cX3_imagePixels : ByteArray := prog_5_method_12_code
def yX3_imagePixels : MethodName := ⟨RX3, "imagePixels", "(I)I"⟩
abbrev cX3_boxPositions : ByteArray := prog_5_method_13_code
def yX3_boxPositions : MethodName := ⟨RX3, "boxPositions", "()I"⟩
abbrev cX3_lineUp : ByteArray := prog_5_method_14_code
def yX3_lineUp : MethodName := ⟨RX3, "lineUp", "()I"⟩
abbrev cX3_rankOf : ByteArray := prog_5_method_15_code
def yX3_rankOf : MethodName := ⟨RX3, "rankOf", "(I)I"⟩
abbrev cX3_isOpenTo : ByteArray := prog_5_method_16_code
def yX3_isOpenTo : MethodName := ⟨RX3, "isOpenTo", "(II)Z"⟩
abbrev cX3_chooseOn : ByteArray := prog_5_method_17_code
def yX3_chooseOn : MethodName := ⟨RX3, "chooseOn", "(II)Z"⟩
abbrev cX3_chooseOnNewPage : ByteArray := prog_5_method_18_code
def yX3_chooseOnNewPage : MethodName := ⟨RX3, "chooseOnNewPage", "(I)Z"⟩
abbrev cX3_offerBoth : ByteArray := prog_5_method_19_code
def yX3_offerBoth : MethodName := ⟨RX3, "offerBoth", "(II)V"⟩
abbrev cX3_offer : ByteArray := prog_5_method_20_code
def yX3_offer : MethodName := ⟨RX3, "offer", "(IIZ)V"⟩
abbrev cX3_imageWidth : ByteArray := prog_5_method_21_code
def yX3_imageWidth : MethodName := ⟨RX3, "imageWidth", "(I)I"⟩
abbrev cX3_imageHeight : ByteArray := prog_5_method_22_code
def yX3_imageHeight : MethodName := ⟨RX3, "imageHeight", "(I)I"⟩
abbrev cX3_boxWidth : ByteArray := prog_5_method_23_code
def yX3_boxWidth : MethodName := ⟨RX3, "boxWidth", "(IZ)I"⟩
abbrev cX3_boxHeight : ByteArray := prog_5_method_24_code
def yX3_boxHeight : MethodName := ⟨RX3, "boxHeight", "(IZ)I"⟩
def RX4 : String := "SpriteAtlas$Places"
def TX4 : u_T := fun k => match k with
  | 0 => ("SpriteAtlas$Places", "pageCount", "I", false)
  | 1 => ("SpriteAtlas$Places", "pageGroups", "[I", true)
  | 2 => ("SpriteAtlas$Places", "pages", "[I", true)
  | 3 => ("SpriteAtlas$Places", "columns", "[I", true)
  | 4 => ("SpriteAtlas$Places", "rows", "[I", true)
  | _ => ("SpriteAtlas$Places", "turned", "[Z", true)
def tyX4 : Nat → FieldType := fun k => match k with
  | 0 => .int
  | 1 => .array .int
  | 2 => .array .int
  | 3 => .array .int
  | 4 => .array .int
  | _ => .array .boolean
theorem nmX4 : ∀ a, a < 6 → ∀ b, b < 6 → a ≠ b → (TX4 a).2.1 ≠ (TX4 b).2.1 := by decide +kernel
theorem tyX4_ok : ∀ k, k < 6 → parseFieldDescriptor (TX4 k).2.2.1 = some (tyX4 k) := by decide +kernel
abbrev cX4_init : ByteArray := prog_6_method_1_code
def yX4_init : MethodName := ⟨RX4, "<init>", "()V"⟩
abbrev cX4_removeAll : ByteArray := prog_6_method_2_code
def yX4_removeAll : MethodName := ⟨RX4, "removeAll", "()V"⟩
abbrev cX4_isEmptyPage : ByteArray := prog_6_method_3_code
def yX4_isEmptyPage : MethodName := ⟨RX4, "isEmptyPage", "(I)Z"⟩
abbrev cX4_copyFrom : ByteArray := prog_6_method_4_code
def yX4_copyFrom : MethodName := ⟨RX4, "copyFrom", "(LSpriteAtlas$Places;)V"⟩
def RX5 : String := "SpriteAtlas$Settings"
def TX5 : u_T := fun k => match k with
  | 0 => ("SpriteAtlas$Settings", "pageWidth", "I", false)
  | 1 => ("SpriteAtlas$Settings", "pageHeight", "I", false)
  | 2 => ("SpriteAtlas$Settings", "pageLimit", "I", false)
  | 3 => ("SpriteAtlas$Settings", "padding", "I", false)
  | 4 => ("SpriteAtlas$Settings", "border", "I", false)
  | 5 => ("SpriteAtlas$Settings", "extrusion", "I", false)
  | 6 => ("SpriteAtlas$Settings", "trimming", "Z", false)
  | 7 => ("SpriteAtlas$Settings", "matching", "I", false)
  | 8 => ("SpriteAtlas$Settings", "rotation", "Z", false)
  | 9 => ("SpriteAtlas$Settings", "grouped", "Z", false)
  | 10 => ("SpriteAtlas$Settings", "order", "I", false)
  | _ => ("SpriteAtlas$Settings", "way", "I", false)
def tyX5 : Nat → FieldType := fun k => match k with
  | 0 => .int
  | 1 => .int
  | 2 => .int
  | 3 => .int
  | 4 => .int
  | 5 => .int
  | 6 => .boolean
  | 7 => .int
  | 8 => .boolean
  | 9 => .boolean
  | 10 => .int
  | _ => .int
theorem nmX5 : ∀ a, a < 12 → ∀ b, b < 12 → a ≠ b → (TX5 a).2.1 ≠ (TX5 b).2.1 := by decide +kernel
theorem tyX5_ok : ∀ k, k < 12 → parseFieldDescriptor (TX5 k).2.2.1 = some (tyX5 k) := by decide +kernel
abbrev cX5_init : ByteArray := prog_7_method_1_code
def yX5_init : MethodName := ⟨RX5, "<init>", "()V"⟩
abbrev cX5_fieldWidth : ByteArray := prog_7_method_2_code
def yX5_fieldWidth : MethodName := ⟨RX5, "fieldWidth", "()I"⟩
abbrev cX5_fieldHeight : ByteArray := prog_7_method_3_code
def yX5_fieldHeight : MethodName := ⟨RX5, "fieldHeight", "()I"⟩
abbrev cX5_fieldPositions : ByteArray := prog_7_method_4_code
def yX5_fieldPositions : MethodName := ⟨RX5, "fieldPositions", "()I"⟩
abbrev cX5_boxGrowth : ByteArray := prog_7_method_5_code
def yX5_boxGrowth : MethodName := ⟨RX5, "boxGrowth", "()I"⟩
abbrev cX5_matchedOrientations : ByteArray := prog_7_method_6_code
def yX5_matchedOrientations : MethodName := ⟨RX5, "matchedOrientations", "()I"⟩
abbrev cX5_copyFrom : ByteArray := prog_7_method_7_code
def yX5_copyFrom : MethodName := ⟨RX5, "copyFrom", "(LSpriteAtlas$Settings;)V"⟩
def RX6 : String := "SpriteAtlas$Sheet"
def TX6 : u_T := fun k => match k with
  | 0 => ("SpriteAtlas$Sheet", "count", "I", false)
  | 1 => ("SpriteAtlas$Sheet", "widths", "[I", true)
  | 2 => ("SpriteAtlas$Sheet", "heights", "[I", true)
  | 3 => ("SpriteAtlas$Sheet", "groups", "[I", true)
  | _ => ("SpriteAtlas$Sheet", "rows", "[I", true)
def tyX6 : Nat → FieldType := fun k => match k with
  | 0 => .int
  | 1 => .array .int
  | 2 => .array .int
  | 3 => .array .int
  | _ => .array .int
theorem nmX6 : ∀ a, a < 5 → ∀ b, b < 5 → a ≠ b → (TX6 a).2.1 ≠ (TX6 b).2.1 := by decide +kernel
theorem tyX6_ok : ∀ k, k < 5 → parseFieldDescriptor (TX6 k).2.2.1 = some (tyX6 k) := by decide +kernel
abbrev cX6_init : ByteArray := prog_8_method_1_code
def yX6_init : MethodName := ⟨RX6, "<init>", "()V"⟩
abbrev cX6_has : ByteArray := prog_8_method_2_code
def yX6_has : MethodName := ⟨RX6, "has", "(I)Z"⟩
abbrev cX6_hasPixel : ByteArray := prog_8_method_3_code
def yX6_hasPixel : MethodName := ⟨RX6, "hasPixel", "(III)Z"⟩
abbrev cX6_colorAt : ByteArray := prog_8_method_4_code
def yX6_colorAt : MethodName := ⟨RX6, "colorAt", "(III)I"⟩
abbrev cX6_rowOf : ByteArray := prog_8_method_5_code
def yX6_rowOf : MethodName := ⟨RX6, "rowOf", "(II)I"⟩
abbrev cX6_setColor : ByteArray := prog_8_method_6_code
def yX6_setColor : MethodName := ⟨RX6, "setColor", "(IIII)V"⟩
abbrev cX6_add : ByteArray := prog_8_method_7_code
def yX6_add : MethodName := ⟨RX6, "add", "(II)I"⟩
abbrev cX6_remove : ByteArray := prog_8_method_8_code
def yX6_remove : MethodName := ⟨RX6, "remove", "(I)V"⟩
abbrev cX6_copyFrom : ByteArray := prog_8_method_9_code
def yX6_copyFrom : MethodName := ⟨RX6, "copyFrom", "(LSpriteAtlas$Sheet;)V"⟩
def RX7 : String := "SpriteAtlas$Space"
def TX7 : u_T := fun k => match k with
  | 0 => ("SpriteAtlas$Space", "freeRows", "[J", true)
  | 1 => ("SpriteAtlas$Space", "width", "I", false)
  | 2 => ("SpriteAtlas$Space", "height", "I", false)
  | 3 => ("SpriteAtlas$Space", "codes", "[I", true)
  | _ => ("SpriteAtlas$Space", "counts", "[I", true)
def tyX7 : Nat → FieldType := fun k => match k with
  | 0 => .array .long
  | 1 => .int
  | 2 => .int
  | 3 => .array .int
  | _ => .array .int
theorem nmX7 : ∀ a, a < 5 → ∀ b, b < 5 → a ≠ b → (TX7 a).2.1 ≠ (TX7 b).2.1 := by decide +kernel
theorem tyX7_ok : ∀ k, k < 5 → parseFieldDescriptor (TX7 k).2.2.1 = some (tyX7 k) := by decide +kernel
abbrev cX7_init : ByteArray := prog_9_method_1_code
def yX7_init : MethodName := ⟨RX7, "<init>", "()V"⟩
abbrev cX7_code : ByteArray := prog_9_method_2_code
def yX7_code : MethodName := ⟨RX7, "code", "(IIII)I"⟩
abbrev cX7_topIn : ByteArray := prog_9_method_3_code
def yX7_topIn : MethodName := ⟨RX7, "topIn", "(I)I"⟩
abbrev cX7_leftIn : ByteArray := prog_9_method_4_code
def yX7_leftIn : MethodName := ⟨RX7, "leftIn", "(I)I"⟩
abbrev cX7_widthIn : ByteArray := prog_9_method_5_code
def yX7_widthIn : MethodName := ⟨RX7, "widthIn", "(I)I"⟩
abbrev cX7_heightIn : ByteArray := prog_9_method_6_code
def yX7_heightIn : MethodName := ⟨RX7, "heightIn", "(I)I"⟩
abbrev cX7_codeOf : ByteArray := prog_9_method_7_code
def yX7_codeOf : MethodName := ⟨RX7, "codeOf", "(II)I"⟩
abbrev cX7_open : ByteArray := prog_9_method_8_code
def yX7_open : MethodName := ⟨RX7, "open", "(II)V"⟩
abbrev cX7_block : ByteArray := prog_9_method_9_code
def yX7_block : MethodName := ⟨RX7, "block", "(IIII)V"⟩
abbrev cX7_collect : ByteArray := prog_9_method_10_code
def yX7_collect : MethodName := ⟨RX7, "collect", "(I)V"⟩
abbrev cX7_collectRuns : ByteArray := prog_9_method_11_code
def yX7_collectRuns : MethodName := ⟨RX7, "collectRuns", "(IIIJJJ)V"⟩
abbrev cX7_addSorted : ByteArray := prog_9_method_12_code
def yX7_addSorted : MethodName := ⟨RX7, "addSorted", "(II)V"⟩
def RX8 : String := "SpriteAtlas$State"
def TX8 : u_T := fun k => match k with
  | 0 => ("SpriteAtlas$State", "sheet", "LSpriteAtlas$Sheet;", true)
  | 1 => ("SpriteAtlas$State", "settings", "LSpriteAtlas$Settings;", true)
  | _ => ("SpriteAtlas$State", "places", "LSpriteAtlas$Places;", true)
def tyX8 : Nat → FieldType := fun k => match k with
  | 0 => .object "SpriteAtlas$Sheet"
  | 1 => .object "SpriteAtlas$Settings"
  | _ => .object "SpriteAtlas$Places"
theorem nmX8 : ∀ a, a < 3 → ∀ b, b < 3 → a ≠ b → (TX8 a).2.1 ≠ (TX8 b).2.1 := by decide +kernel
theorem tyX8_ok : ∀ k, k < 3 → parseFieldDescriptor (TX8 k).2.2.1 = some (tyX8 k) := by decide +kernel
abbrev cX8_init : ByteArray := prog_10_method_1_code
def yX8_init : MethodName := ⟨RX8, "<init>", "()V"⟩
abbrev cX8_copyFrom : ByteArray := prog_10_method_2_code
def yX8_copyFrom : MethodName := ⟨RX8, "copyFrom", "(LSpriteAtlas$State;)V"⟩
def RX9 : String := "SpriteAtlas$Text"
def TX9 : u_T := fun k => match k with
  | 0 => ("SpriteAtlas$Text", "codes", "[I", true)
  | _ => ("SpriteAtlas$Text", "length", "I", false)
def tyX9 : Nat → FieldType := fun k => match k with
  | 0 => .array .int
  | _ => .int
theorem nmX9 : ∀ a, a < 2 → ∀ b, b < 2 → a ≠ b → (TX9 a).2.1 ≠ (TX9 b).2.1 := by decide +kernel
theorem tyX9_ok : ∀ k, k < 2 → parseFieldDescriptor (TX9 k).2.2.1 = some (tyX9 k) := by decide +kernel
abbrev cX9_init : ByteArray := prog_11_method_1_code
def yX9_init : MethodName := ⟨RX9, "<init>", "()V"⟩
abbrev cX9_add : ByteArray := prog_11_method_2_code
def yX9_add : MethodName := ⟨RX9, "add", "(I)Z"⟩
abbrev cX9_findFault : ByteArray := prog_11_method_3_code
def yX9_findFault : MethodName := ⟨RX9, "findFault", "()I"⟩
abbrev cX9_countImages : ByteArray := prog_11_method_4_code
def yX9_countImages : MethodName := ⟨RX9, "countImages", "()I"⟩
abbrev cX9_addImagesTo : ByteArray := prog_11_method_5_code
def yX9_addImagesTo : MethodName := ⟨RX9, "addImagesTo", "(LSpriteAtlas$Sheet;)V"⟩
abbrev cX9_addImage : ByteArray := prog_11_method_6_code
def yX9_addImage : MethodName := ⟨RX9, "addImage", "(LSpriteAtlas$Sheet;II)V"⟩
abbrev cX9_isDigit : ByteArray := prog_11_method_7_code
def yX9_isDigit : MethodName := ⟨RX9, "isDigit", "(I)Z"⟩
def RX10 : String := "SpriteAtlas"
def TX10 : u_T := fun k => match k with
  | 0 => ("SpriteAtlas", "text", "LSpriteAtlas$Text;", true)
  | 1 => ("SpriteAtlas", "output", "Ljava/lang/StringBuilder;", true)
  | 2 => ("SpriteAtlas", "now", "LSpriteAtlas$State;", true)
  | 3 => ("SpriteAtlas", "trial", "LSpriteAtlas$State;", true)
  | 4 => ("SpriteAtlas", "catalog", "LSpriteAtlas$Catalog;", true)
  | 5 => ("SpriteAtlas", "packer", "LSpriteAtlas$Packer;", true)
  | 6 => ("SpriteAtlas", "trialPacker", "LSpriteAtlas$Packer;", true)
  | 7 => ("SpriteAtlas", "history", "LSpriteAtlas$History;", true)
  | 8 => ("SpriteAtlas", "firstSlot", "LSpriteAtlas$State;", true)
  | 9 => ("SpriteAtlas", "secondSlot", "LSpriteAtlas$State;", true)
  | 10 => ("SpriteAtlas", "slotFilled", "[Z", true)
  | _ => ("SpriteAtlas", "randomState", "J", false)
def tyX10 : Nat → FieldType := fun k => match k with
  | 0 => .object "SpriteAtlas$Text"
  | 1 => .object "java/lang/StringBuilder"
  | 2 => .object "SpriteAtlas$State"
  | 3 => .object "SpriteAtlas$State"
  | 4 => .object "SpriteAtlas$Catalog"
  | 5 => .object "SpriteAtlas$Packer"
  | 6 => .object "SpriteAtlas$Packer"
  | 7 => .object "SpriteAtlas$History"
  | 8 => .object "SpriteAtlas$State"
  | 9 => .object "SpriteAtlas$State"
  | 10 => .array .boolean
  | _ => .long
theorem nmX10 : ∀ a, a < 12 → ∀ b, b < 12 → a ≠ b → (TX10 a).2.1 ≠ (TX10 b).2.1 := by decide +kernel
theorem tyX10_ok : ∀ k, k < 12 → parseFieldDescriptor (TX10 k).2.2.1 = some (tyX10 k) := by decide +kernel
abbrev cX10_init : ByteArray := prog_1_method_1_code
def yX10_init : MethodName := ⟨RX10, "<init>", "()V"⟩
abbrev cX10_append : ByteArray := prog_1_method_2_code
def yX10_append : MethodName := ⟨RX10, "append", "(I)I"⟩
abbrev cX10_clearText : ByteArray := prog_1_method_3_code
def yX10_clearText : MethodName := ⟨RX10, "clearText", "()I"⟩
abbrev cX10_faultPosition : ByteArray := prog_1_method_4_code
def yX10_faultPosition : MethodName := ⟨RX10, "faultPosition", "()I"⟩
abbrev cX10_read : ByteArray := prog_1_method_5_code
def yX10_read : MethodName := ⟨RX10, "read", "()I"⟩
abbrev cX10_draw : ByteArray := prog_1_method_6_code
def yX10_draw : MethodName := ⟨RX10, "draw", "(II)I"⟩
abbrev cX10_sprites : ByteArray := prog_1_method_7_code
def yX10_sprites : MethodName := ⟨RX10, "sprites", "()I"⟩
abbrev cX10_width : ByteArray := prog_1_method_8_code
def yX10_width : MethodName := ⟨RX10, "width", "(I)I"⟩
abbrev cX10_height : ByteArray := prog_1_method_9_code
def yX10_height : MethodName := ⟨RX10, "height", "(I)I"⟩
abbrev cX10_color : ByteArray := prog_1_method_10_code
def yX10_color : MethodName := ⟨RX10, "color", "(III)I"⟩
abbrev cX10_setPixel : ByteArray := prog_1_method_11_code
def yX10_setPixel : MethodName := ⟨RX10, "setPixel", "(IIII)I"⟩
abbrev cX10_drop : ByteArray := prog_1_method_12_code
def yX10_drop : MethodName := ⟨RX10, "drop", "(I)I"⟩
abbrev cX10_setGroup : ByteArray := prog_1_method_13_code
def yX10_setGroup : MethodName := ⟨RX10, "setGroup", "(II)I"⟩
abbrev cX10_groupOf : ByteArray := prog_1_method_14_code
def yX10_groupOf : MethodName := ⟨RX10, "groupOf", "(I)I"⟩
abbrev cX10_trimLeft : ByteArray := prog_1_method_15_code
def yX10_trimLeft : MethodName := ⟨RX10, "trimLeft", "(I)I"⟩
abbrev cX10_trimTop : ByteArray := prog_1_method_16_code
def yX10_trimTop : MethodName := ⟨RX10, "trimTop", "(I)I"⟩
abbrev cX10_trimWidth : ByteArray := prog_1_method_17_code
def yX10_trimWidth : MethodName := ⟨RX10, "trimWidth", "(I)I"⟩
abbrev cX10_trimHeight : ByteArray := prog_1_method_18_code
def yX10_trimHeight : MethodName := ⟨RX10, "trimHeight", "(I)I"⟩
abbrev cX10_originalOf : ByteArray := prog_1_method_19_code
def yX10_originalOf : MethodName := ⟨RX10, "originalOf", "(I)I"⟩
abbrev cX10_orientationOf : ByteArray := prog_1_method_20_code
def yX10_orientationOf : MethodName := ⟨RX10, "orientationOf", "(I)I"⟩
abbrev cX10_setPageSize : ByteArray := prog_1_method_21_code
def yX10_setPageSize : MethodName := ⟨RX10, "setPageSize", "(II)I"⟩
abbrev cX10_setPageLimit : ByteArray := prog_1_method_22_code
def yX10_setPageLimit : MethodName := ⟨RX10, "setPageLimit", "(I)I"⟩
abbrev cX10_setMargins : ByteArray := prog_1_method_23_code
def yX10_setMargins : MethodName := ⟨RX10, "setMargins", "(III)I"⟩
abbrev cX10_setTrimming : ByteArray := prog_1_method_24_code
def yX10_setTrimming : MethodName := ⟨RX10, "setTrimming", "(Z)I"⟩
abbrev cX10_setMatching : ByteArray := prog_1_method_25_code
def yX10_setMatching : MethodName := ⟨RX10, "setMatching", "(I)I"⟩
abbrev cX10_setRotation : ByteArray := prog_1_method_26_code
def yX10_setRotation : MethodName := ⟨RX10, "setRotation", "(Z)I"⟩
abbrev cX10_setGrouped : ByteArray := prog_1_method_27_code
def yX10_setGrouped : MethodName := ⟨RX10, "setGrouped", "(Z)I"⟩
abbrev cX10_setOrder : ByteArray := prog_1_method_28_code
def yX10_setOrder : MethodName := ⟨RX10, "setOrder", "(I)I"⟩
abbrev cX10_setWay : ByteArray := prog_1_method_29_code
def yX10_setWay : MethodName := ⟨RX10, "setWay", "(I)I"⟩
abbrev cX10_pack : ByteArray := prog_1_method_30_code
def yX10_pack : MethodName := ⟨RX10, "pack", "()I"⟩
abbrev cX10_insert : ByteArray := prog_1_method_31_code
def yX10_insert : MethodName := ⟨RX10, "insert", "(I)I"⟩
abbrev cX10_unplace : ByteArray := prog_1_method_32_code
def yX10_unplace : MethodName := ⟨RX10, "unplace", "(I)I"⟩
abbrev cX10_undo : ByteArray := prog_1_method_33_code
def yX10_undo : MethodName := ⟨RX10, "undo", "()I"⟩
abbrev cX10_pageOf : ByteArray := prog_1_method_34_code
def yX10_pageOf : MethodName := ⟨RX10, "pageOf", "(I)I"⟩
abbrev cX10_xOf : ByteArray := prog_1_method_35_code
def yX10_xOf : MethodName := ⟨RX10, "xOf", "(I)I"⟩
abbrev cX10_yOf : ByteArray := prog_1_method_36_code
def yX10_yOf : MethodName := ⟨RX10, "yOf", "(I)I"⟩
abbrev cX10_isTurned : ByteArray := prog_1_method_37_code
def yX10_isTurned : MethodName := ⟨RX10, "isTurned", "(I)I"⟩
abbrev cX10_recordOf : ByteArray := prog_1_method_38_code
def yX10_recordOf : MethodName := ⟨RX10, "recordOf", "(I)I"⟩
abbrev cX10_pages : ByteArray := prog_1_method_39_code
def yX10_pages : MethodName := ⟨RX10, "pages", "()I"⟩
abbrev cX10_pixel : ByteArray := prog_1_method_40_code
def yX10_pixel : MethodName := ⟨RX10, "pixel", "(III)I"⟩
abbrev cX10_spriteAt : ByteArray := prog_1_method_41_code
def yX10_spriteAt : MethodName := ⟨RX10, "spriteAt", "(III)I"⟩
abbrev cX10_usedWidth : ByteArray := prog_1_method_42_code
def yX10_usedWidth : MethodName := ⟨RX10, "usedWidth", "(I)I"⟩
abbrev cX10_usedHeight : ByteArray := prog_1_method_43_code
def yX10_usedHeight : MethodName := ⟨RX10, "usedHeight", "(I)I"⟩
abbrev cX10_freeRectangles : ByteArray := prog_1_method_44_code
def yX10_freeRectangles : MethodName := ⟨RX10, "freeRectangles", "(I)I"⟩
abbrev cX10_freeX : ByteArray := prog_1_method_45_code
def yX10_freeX : MethodName := ⟨RX10, "freeX", "(II)I"⟩
abbrev cX10_freeY : ByteArray := prog_1_method_46_code
def yX10_freeY : MethodName := ⟨RX10, "freeY", "(II)I"⟩
abbrev cX10_freeWidth : ByteArray := prog_1_method_47_code
def yX10_freeWidth : MethodName := ⟨RX10, "freeWidth", "(II)I"⟩
abbrev cX10_freeHeight : ByteArray := prog_1_method_48_code
def yX10_freeHeight : MethodName := ⟨RX10, "freeHeight", "(II)I"⟩
abbrev cX10_fill : ByteArray := prog_1_method_49_code
def yX10_fill : MethodName := ⟨RX10, "fill", "(IZ)I"⟩
abbrev cX10_unplaced : ByteArray := prog_1_method_50_code
def yX10_unplaced : MethodName := ⟨RX10, "unplaced", "()I"⟩
abbrev cX10_pageBound : ByteArray := prog_1_method_51_code
def yX10_pageBound : MethodName := ⟨RX10, "pageBound", "()I"⟩
abbrev cX10_bestMethod : ByteArray := prog_1_method_52_code
def yX10_bestMethod : MethodName := ⟨RX10, "bestMethod", "()I"⟩
abbrev cX10_smallestPage : ByteArray := prog_1_method_53_code
def yX10_smallestPage : MethodName := ⟨RX10, "smallestPage", "()I"⟩
abbrev cX10_print : ByteArray := prog_1_method_54_code
def yX10_print : MethodName := ⟨RX10, "print", "(I)I"⟩
abbrev cX10_printed : ByteArray := prog_1_method_55_code
def yX10_printed : MethodName := ⟨RX10, "printed", "(I)I"⟩
abbrev cX10_keep : ByteArray := prog_1_method_56_code
def yX10_keep : MethodName := ⟨RX10, "keep", "(I)I"⟩
abbrev cX10_restore : ByteArray := prog_1_method_57_code
def yX10_restore : MethodName := ⟨RX10, "restore", "(I)I"⟩
abbrev cX10_checksum : ByteArray := prog_1_method_58_code
def yX10_checksum : MethodName := ⟨RX10, "checksum", "()J"⟩
abbrev cX10_isWithin : ByteArray := prog_1_method_59_code
def yX10_isWithin : MethodName := ⟨RX10, "isWithin", "(III)Z"⟩
abbrev cX10_asNumber : ByteArray := prog_1_method_60_code
def yX10_asNumber : MethodName := ⟨RX10, "asNumber", "(Z)I"⟩
abbrev cX10_commonDivisor : ByteArray := prog_1_method_61_code
def yX10_commonDivisor : MethodName := ⟨RX10, "commonDivisor", "(II)I"⟩
abbrev cX10_mix : ByteArray := prog_1_method_62_code
def yX10_mix : MethodName := ⟨RX10, "mix", "(JJ)J"⟩
abbrev cX10_hasPage : ByteArray := prog_1_method_63_code
def yX10_hasPage : MethodName := ⟨RX10, "hasPage", "(I)Z"⟩
abbrev cX10_hasPagePixel : ByteArray := prog_1_method_64_code
def yX10_hasPagePixel : MethodName := ⟨RX10, "hasPagePixel", "(III)Z"⟩
abbrev cX10_hasFree : ByteArray := prog_1_method_65_code
def yX10_hasFree : MethodName := ⟨RX10, "hasFree", "(II)Z"⟩
abbrev cX10_slotState : ByteArray := prog_1_method_66_code
def yX10_slotState : MethodName := ⟨RX10, "slotState", "(I)LSpriteAtlas$State;"⟩
abbrev cX10_placeOf : ByteArray := prog_1_method_67_code
def yX10_placeOf : MethodName := ⟨RX10, "placeOf", "(I)I"⟩
abbrev cX10_studyAll : ByteArray := prog_1_method_68_code
def yX10_studyAll : MethodName := ⟨RX10, "studyAll", "()V"⟩
abbrev cX10_emptyAtlas : ByteArray := prog_1_method_69_code
def yX10_emptyAtlas : MethodName := ⟨RX10, "emptyAtlas", "()V"⟩
abbrev cX10_nextRandom : ByteArray := prog_1_method_70_code
def yX10_nextRandom : MethodName := ⟨RX10, "nextRandom", "()I"⟩
abbrev cX10_drawOne : ByteArray := prog_1_method_71_code
def yX10_drawOne : MethodName := ⟨RX10, "drawOne", "()V"⟩
abbrev cX10_packingCost : ByteArray := prog_1_method_72_code
def yX10_packingCost : MethodName := ⟨RX10, "packingCost", "(I)J"⟩
abbrev cX10_printPlace : ByteArray := prog_1_method_73_code
def yX10_printPlace : MethodName := ⟨RX10, "printPlace", "(I)V"⟩
abbrev cX10_mixSprite : ByteArray := prog_1_method_74_code
def yX10_mixSprite : MethodName := ⟨RX10, "mixSprite", "(JI)J"⟩
abbrev cX10_mixPage : ByteArray := prog_1_method_75_code
def yX10_mixPage : MethodName := ⟨RX10, "mixPage", "(JI)J"⟩
def RX11 : String := "SpriteAtlasModel"
def TX11 : u_T := fun k => match k with
  | 0 => ("SpriteAtlasModel", "v", "[I", true)
  | 1 => ("SpriteAtlasModel", "spare", "[I", true)
  | 2 => ("SpriteAtlasModel", "past", "[I", true)
  | 3 => ("SpriteAtlasModel", "pasts", "I", false)
  | 4 => ("SpriteAtlasModel", "kept", "[I", true)
  | 5 => ("SpriteAtlasModel", "isKept", "[Z", true)
  | 6 => ("SpriteAtlasModel", "text", "[I", true)
  | 7 => ("SpriteAtlasModel", "length", "I", false)
  | 8 => ("SpriteAtlasModel", "paper", "[I", true)
  | 9 => ("SpriteAtlasModel", "printed", "I", false)
  | 10 => ("SpriteAtlasModel", "told", "I", false)
  | 11 => ("SpriteAtlasModel", "state", "J", false)
  | 12 => ("SpriteAtlasModel", "left", "[I", true)
  | 13 => ("SpriteAtlasModel", "top", "[I", true)
  | 14 => ("SpriteAtlasModel", "wide", "[I", true)
  | 15 => ("SpriteAtlasModel", "high", "[I", true)
  | 16 => ("SpriteAtlasModel", "original", "[I", true)
  | 17 => ("SpriteAtlasModel", "turn", "[I", true)
  | 18 => ("SpriteAtlasModel", "backX", "I", false)
  | 19 => ("SpriteAtlasModel", "backY", "I", false)
  | 20 => ("SpriteAtlasModel", "boxes", "I", false)
  | 21 => ("SpriteAtlasModel", "boxX", "[I", true)
  | 22 => ("SpriteAtlasModel", "boxY", "[I", true)
  | 23 => ("SpriteAtlasModel", "boxW", "[I", true)
  | 24 => ("SpriteAtlasModel", "boxH", "[I", true)
  | 25 => ("SpriteAtlasModel", "frees", "I", false)
  | 26 => ("SpriteAtlasModel", "freeAtX", "[I", true)
  | 27 => ("SpriteAtlasModel", "freeAtY", "[I", true)
  | 28 => ("SpriteAtlasModel", "freeW", "[I", true)
  | 29 => ("SpriteAtlasModel", "freeH", "[I", true)
  | 30 => ("SpriteAtlasModel", "begins", "[Z", true)
  | 31 => ("SpriteAtlasModel", "ends", "[Z", true)
  | 32 => ("SpriteAtlasModel", "bestFree", "I", false)
  | 33 => ("SpriteAtlasModel", "bestTurned", "I", false)
  | 34 => ("SpriteAtlasModel", "bestFirst", "I", false)
  | 35 => ("SpriteAtlasModel", "bestSecond", "I", false)
  | 36 => ("SpriteAtlasModel", "tried", "[Z", true)
  | _ => ("SpriteAtlasModel", "aside", "[I", true)
def tyX11 : Nat → FieldType := fun k => match k with
  | 0 => .array .int
  | 1 => .array .int
  | 2 => .array .int
  | 3 => .int
  | 4 => .array .int
  | 5 => .array .boolean
  | 6 => .array .int
  | 7 => .int
  | 8 => .array .int
  | 9 => .int
  | 10 => .int
  | 11 => .long
  | 12 => .array .int
  | 13 => .array .int
  | 14 => .array .int
  | 15 => .array .int
  | 16 => .array .int
  | 17 => .array .int
  | 18 => .int
  | 19 => .int
  | 20 => .int
  | 21 => .array .int
  | 22 => .array .int
  | 23 => .array .int
  | 24 => .array .int
  | 25 => .int
  | 26 => .array .int
  | 27 => .array .int
  | 28 => .array .int
  | 29 => .array .int
  | 30 => .array .boolean
  | 31 => .array .boolean
  | 32 => .int
  | 33 => .int
  | 34 => .int
  | 35 => .int
  | 36 => .array .boolean
  | _ => .array .int
theorem nmX11 : ∀ a, a < 38 → ∀ b, b < 38 → a ≠ b → (TX11 a).2.1 ≠ (TX11 b).2.1 := by decide +kernel
theorem tyX11_ok : ∀ k, k < 38 → parseFieldDescriptor (TX11 k).2.2.1 = some (tyX11 k) := by decide +kernel
abbrev cX11_init : ByteArray := prog_13_method_1_code
def yX11_init : MethodName := ⟨RX11, "<init>", "()V"⟩
abbrev cX11_in : ByteArray := prog_13_method_3_code
def yX11_in : MethodName := ⟨RX11, "in", "(III)Z"⟩
abbrev cX11_at : ByteArray := prog_13_method_4_code
def yX11_at : MethodName := ⟨RX11, "at", "(II)I"⟩
abbrev cX11_pixelAt : ByteArray := prog_13_method_5_code
def yX11_pixelAt : MethodName := ⟨RX11, "pixelAt", "(III)I"⟩
abbrev cX11_isSprite : ByteArray := prog_13_method_6_code
def yX11_isSprite : MethodName := ⟨RX11, "isSprite", "(I)Z"⟩
abbrev cX11_notes : ByteArray := prog_13_method_7_code
def yX11_notes : MethodName := ⟨RX11, "notes", "()V"⟩
abbrev cX11_empties : ByteArray := prog_13_method_8_code
def yX11_empties : MethodName := ⟨RX11, "empties", "()V"⟩
abbrev cX11_sets : ByteArray := prog_13_method_9_code
def yX11_sets : MethodName := ⟨RX11, "sets", "(II)I"⟩
abbrev cX11_undo : ByteArray := prog_13_method_10_code
def yX11_undo : MethodName := ⟨RX11, "undo", "()I"⟩
abbrev cX11_append : ByteArray := prog_13_method_11_code
def yX11_append : MethodName := ⟨RX11, "append", "(I)I"⟩
abbrev cX11_clearText : ByteArray := prog_13_method_12_code
def yX11_clearText : MethodName := ⟨RX11, "clearText", "()I"⟩
abbrev cX11_faultOf : ByteArray := prog_13_method_13_code
def yX11_faultOf : MethodName := ⟨RX11, "faultOf", "()I"⟩
abbrev cX11_faultPosition : ByteArray := prog_13_method_14_code
def yX11_faultPosition : MethodName := ⟨RX11, "faultPosition", "()I"⟩
abbrev cX11_adds : ByteArray := prog_13_method_15_code
def yX11_adds : MethodName := ⟨RX11, "adds", "(II)V"⟩
abbrev cX11_read : ByteArray := prog_13_method_16_code
def yX11_read : MethodName := ⟨RX11, "read", "()I"⟩
abbrev cX11_random : ByteArray := prog_13_method_17_code
def yX11_random : MethodName := ⟨RX11, "random", "(I)I"⟩
abbrev cX11_draw : ByteArray := prog_13_method_18_code
def yX11_draw : MethodName := ⟨RX11, "draw", "(II)I"⟩
abbrev cX11_sprites : ByteArray := prog_13_method_19_code
def yX11_sprites : MethodName := ⟨RX11, "sprites", "()I"⟩
abbrev cX11_width : ByteArray := prog_13_method_20_code
def yX11_width : MethodName := ⟨RX11, "width", "(I)I"⟩
abbrev cX11_height : ByteArray := prog_13_method_21_code
def yX11_height : MethodName := ⟨RX11, "height", "(I)I"⟩
abbrev cX11_isPixel : ByteArray := prog_13_method_22_code
def yX11_isPixel : MethodName := ⟨RX11, "isPixel", "(III)Z"⟩
abbrev cX11_color : ByteArray := prog_13_method_23_code
def yX11_color : MethodName := ⟨RX11, "color", "(III)I"⟩
abbrev cX11_setPixel : ByteArray := prog_13_method_24_code
def yX11_setPixel : MethodName := ⟨RX11, "setPixel", "(IIII)I"⟩
abbrev cX11_drop : ByteArray := prog_13_method_25_code
def yX11_drop : MethodName := ⟨RX11, "drop", "(I)I"⟩
abbrev cX11_setGroup : ByteArray := prog_13_method_26_code
def yX11_setGroup : MethodName := ⟨RX11, "setGroup", "(II)I"⟩
abbrev cX11_groupOf : ByteArray := prog_13_method_27_code
def yX11_groupOf : MethodName := ⟨RX11, "groupOf", "(I)I"⟩
abbrev cX11_trims : ByteArray := prog_13_method_28_code
def yX11_trims : MethodName := ⟨RX11, "trims", "(I)V"⟩
abbrev cX11_turnsBack : ByteArray := prog_13_method_29_code
def yX11_turnsBack : MethodName := ⟨RX11, "turnsBack", "(IIIII)V"⟩
abbrev cX11_colorBy : ByteArray := prog_13_method_30_code
def yX11_colorBy : MethodName := ⟨RX11, "colorBy", "(IIIII)I"⟩
abbrev cX11_isLike : ByteArray := prog_13_method_31_code
def yX11_isLike : MethodName := ⟨RX11, "isLike", "(IIII)Z"⟩
abbrev cX11_orientations : ByteArray := prog_13_method_32_code
def yX11_orientations : MethodName := ⟨RX11, "orientations", "()I"⟩
abbrev cX11_seeks : ByteArray := prog_13_method_33_code
def yX11_seeks : MethodName := ⟨RX11, "seeks", "(I)V"⟩
abbrev cX11_knows : ByteArray := prog_13_method_34_code
def yX11_knows : MethodName := ⟨RX11, "knows", "()V"⟩
abbrev cX11_isOriginal : ByteArray := prog_13_method_35_code
def yX11_isOriginal : MethodName := ⟨RX11, "isOriginal", "(I)Z"⟩
abbrev cX11_trimLeft : ByteArray := prog_13_method_36_code
def yX11_trimLeft : MethodName := ⟨RX11, "trimLeft", "(I)I"⟩
abbrev cX11_trimTop : ByteArray := prog_13_method_37_code
def yX11_trimTop : MethodName := ⟨RX11, "trimTop", "(I)I"⟩
abbrev cX11_trimWidth : ByteArray := prog_13_method_38_code
def yX11_trimWidth : MethodName := ⟨RX11, "trimWidth", "(I)I"⟩
abbrev cX11_trimHeight : ByteArray := prog_13_method_39_code
def yX11_trimHeight : MethodName := ⟨RX11, "trimHeight", "(I)I"⟩
abbrev cX11_originalOf : ByteArray := prog_13_method_40_code
def yX11_originalOf : MethodName := ⟨RX11, "originalOf", "(I)I"⟩
abbrev cX11_orientationOf : ByteArray := prog_13_method_41_code
def yX11_orientationOf : MethodName := ⟨RX11, "orientationOf", "(I)I"⟩
abbrev cX11_setPageSize : ByteArray := prog_13_method_42_code
def yX11_setPageSize : MethodName := ⟨RX11, "setPageSize", "(II)I"⟩
abbrev cX11_setPageLimit : ByteArray := prog_13_method_43_code
def yX11_setPageLimit : MethodName := ⟨RX11, "setPageLimit", "(I)I"⟩
abbrev cX11_setMargins : ByteArray := prog_13_method_44_code
def yX11_setMargins : MethodName := ⟨RX11, "setMargins", "(III)I"⟩
abbrev cX11_setTrimming : ByteArray := prog_13_method_45_code
def yX11_setTrimming : MethodName := ⟨RX11, "setTrimming", "(Z)I"⟩
abbrev cX11_setMatching : ByteArray := prog_13_method_46_code
def yX11_setMatching : MethodName := ⟨RX11, "setMatching", "(I)I"⟩
abbrev cX11_setRotation : ByteArray := prog_13_method_47_code
def yX11_setRotation : MethodName := ⟨RX11, "setRotation", "(Z)I"⟩
abbrev cX11_setGrouped : ByteArray := prog_13_method_48_code
def yX11_setGrouped : MethodName := ⟨RX11, "setGrouped", "(Z)I"⟩
abbrev cX11_setOrder : ByteArray := prog_13_method_49_code
def yX11_setOrder : MethodName := ⟨RX11, "setOrder", "(I)I"⟩
abbrev cX11_setWay : ByteArray := prog_13_method_50_code
def yX11_setWay : MethodName := ⟨RX11, "setWay", "(I)I"⟩
abbrev cX11_fieldWidth : ByteArray := prog_13_method_51_code
def yX11_fieldWidth : MethodName := ⟨RX11, "fieldWidth", "()I"⟩
abbrev cX11_fieldHeight : ByteArray := prog_13_method_52_code
def yX11_fieldHeight : MethodName := ⟨RX11, "fieldHeight", "()I"⟩
abbrev cX11_imageWidth : ByteArray := prog_13_method_53_code
def yX11_imageWidth : MethodName := ⟨RX11, "imageWidth", "(II)I"⟩
abbrev cX11_imageHeight : ByteArray := prog_13_method_54_code
def yX11_imageHeight : MethodName := ⟨RX11, "imageHeight", "(II)I"⟩
abbrev cX11_boxWidth : ByteArray := prog_13_method_55_code
def yX11_boxWidth : MethodName := ⟨RX11, "boxWidth", "(II)I"⟩
abbrev cX11_boxHeight : ByteArray := prog_13_method_56_code
def yX11_boxHeight : MethodName := ⟨RX11, "boxHeight", "(II)I"⟩
abbrev cX11_boxesOf : ByteArray := prog_13_method_57_code
def yX11_boxesOf : MethodName := ⟨RX11, "boxesOf", "(I)V"⟩
abbrev cX11_isHeld : ByteArray := prog_13_method_58_code
def yX11_isHeld : MethodName := ⟨RX11, "isHeld", "(III)Z"⟩
abbrev cX11_offers : ByteArray := prog_13_method_59_code
def yX11_offers : MethodName := ⟨RX11, "offers", "(IIII)V"⟩
abbrev cX11_isBehind : ByteArray := prog_13_method_60_code
def yX11_isBehind : MethodName := ⟨RX11, "isBehind", "(IIII)Z"⟩
abbrev cX11_between : ByteArray := prog_13_method_61_code
def yX11_between : MethodName := ⟨RX11, "between", "(II)V"⟩
abbrev cX11_freesOf : ByteArray := prog_13_method_62_code
def yX11_freesOf : MethodName := ⟨RX11, "freesOf", "(I)V"⟩
abbrev cX11_fits : ByteArray := prog_13_method_63_code
def yX11_fits : MethodName := ⟨RX11, "fits", "(III)Z"⟩
abbrev cX11_values : ByteArray := prog_13_method_64_code
def yX11_values : MethodName := ⟨RX11, "values", "(III)V"⟩
abbrev cX11_placesOn : ByteArray := prog_13_method_65_code
def yX11_placesOn : MethodName := ⟨RX11, "placesOn", "(II)Z"⟩
abbrev cX11_isOpen : ByteArray := prog_13_method_66_code
def yX11_isOpen : MethodName := ⟨RX11, "isOpen", "(II)Z"⟩
abbrev cX11_places : ByteArray := prog_13_method_67_code
def yX11_places : MethodName := ⟨RX11, "places", "(I)Z"⟩
abbrev cX11_isFirst : ByteArray := prog_13_method_68_code
def yX11_isFirst : MethodName := ⟨RX11, "isFirst", "(II)Z"⟩
abbrev cX11_packs : ByteArray := prog_13_method_69_code
def yX11_packs : MethodName := ⟨RX11, "packs", "()I"⟩
abbrev cX11_pack : ByteArray := prog_13_method_70_code
def yX11_pack : MethodName := ⟨RX11, "pack", "()I"⟩
abbrev cX11_insert : ByteArray := prog_13_method_71_code
def yX11_insert : MethodName := ⟨RX11, "insert", "(I)I"⟩
abbrev cX11_copies : ByteArray := prog_13_method_72_code
def yX11_copies : MethodName := ⟨RX11, "copies", "(IZ)V"⟩
abbrev cX11_keeps : ByteArray := prog_13_method_73_code
def yX11_keeps : MethodName := ⟨RX11, "keeps", "()V"⟩
abbrev cX11_brings : ByteArray := prog_13_method_74_code
def yX11_brings : MethodName := ⟨RX11, "brings", "()V"⟩
abbrev cX11_unplace : ByteArray := prog_13_method_75_code
def yX11_unplace : MethodName := ⟨RX11, "unplace", "(I)I"⟩
abbrev cX11_holder : ByteArray := prog_13_method_76_code
def yX11_holder : MethodName := ⟨RX11, "holder", "(I)I"⟩
abbrev cX11_pageOf : ByteArray := prog_13_method_77_code
def yX11_pageOf : MethodName := ⟨RX11, "pageOf", "(I)I"⟩
abbrev cX11_columnOf : ByteArray := prog_13_method_78_code
def yX11_columnOf : MethodName := ⟨RX11, "columnOf", "(I)I"⟩
abbrev cX11_rowOf : ByteArray := prog_13_method_79_code
def yX11_rowOf : MethodName := ⟨RX11, "rowOf", "(I)I"⟩
abbrev cX11_xOf : ByteArray := prog_13_method_80_code
def yX11_xOf : MethodName := ⟨RX11, "xOf", "(I)I"⟩
abbrev cX11_yOf : ByteArray := prog_13_method_81_code
def yX11_yOf : MethodName := ⟨RX11, "yOf", "(I)I"⟩
abbrev cX11_isTurned : ByteArray := prog_13_method_82_code
def yX11_isTurned : MethodName := ⟨RX11, "isTurned", "(I)I"⟩
abbrev cX11_record : ByteArray := prog_13_method_83_code
def yX11_record : MethodName := ⟨RX11, "record", "(II)I"⟩
abbrev cX11_recordOf : ByteArray := prog_13_method_84_code
def yX11_recordOf : MethodName := ⟨RX11, "recordOf", "(I)I"⟩
abbrev cX11_pages : ByteArray := prog_13_method_85_code
def yX11_pages : MethodName := ⟨RX11, "pages", "()I"⟩
abbrev cX11_isPage : ByteArray := prog_13_method_86_code
def yX11_isPage : MethodName := ⟨RX11, "isPage", "(I)Z"⟩
abbrev cX11_isOnPage : ByteArray := prog_13_method_87_code
def yX11_isOnPage : MethodName := ⟨RX11, "isOnPage", "(III)Z"⟩
abbrev cX11_ownerAt : ByteArray := prog_13_method_88_code
def yX11_ownerAt : MethodName := ⟨RX11, "ownerAt", "(III)I"⟩
abbrev cX11_held : ByteArray := prog_13_method_89_code
def yX11_held : MethodName := ⟨RX11, "held", "(II)I"⟩
abbrev cX11_colorAt : ByteArray := prog_13_method_90_code
def yX11_colorAt : MethodName := ⟨RX11, "colorAt", "(III)I"⟩
abbrev cX11_pixel : ByteArray := prog_13_method_91_code
def yX11_pixel : MethodName := ⟨RX11, "pixel", "(III)I"⟩
abbrev cX11_spriteAt : ByteArray := prog_13_method_92_code
def yX11_spriteAt : MethodName := ⟨RX11, "spriteAt", "(III)I"⟩
abbrev cX11_used : ByteArray := prog_13_method_93_code
def yX11_used : MethodName := ⟨RX11, "used", "(IZ)I"⟩
abbrev cX11_usedWidth : ByteArray := prog_13_method_94_code
def yX11_usedWidth : MethodName := ⟨RX11, "usedWidth", "(I)I"⟩
abbrev cX11_usedHeight : ByteArray := prog_13_method_95_code
def yX11_usedHeight : MethodName := ⟨RX11, "usedHeight", "(I)I"⟩
abbrev cX11_looks : ByteArray := prog_13_method_96_code
def yX11_looks : MethodName := ⟨RX11, "looks", "(I)I"⟩
abbrev cX11_freeRectangles : ByteArray := prog_13_method_97_code
def yX11_freeRectangles : MethodName := ⟨RX11, "freeRectangles", "(I)I"⟩
abbrev cX11_freeX : ByteArray := prog_13_method_98_code
def yX11_freeX : MethodName := ⟨RX11, "freeX", "(II)I"⟩
abbrev cX11_freeY : ByteArray := prog_13_method_99_code
def yX11_freeY : MethodName := ⟨RX11, "freeY", "(II)I"⟩
abbrev cX11_freeWidth : ByteArray := prog_13_method_100_code
def yX11_freeWidth : MethodName := ⟨RX11, "freeWidth", "(II)I"⟩
abbrev cX11_freeHeight : ByteArray := prog_13_method_101_code
def yX11_freeHeight : MethodName := ⟨RX11, "freeHeight", "(II)I"⟩
abbrev cX11_fill : ByteArray := prog_13_method_102_code
def yX11_fill : MethodName := ⟨RX11, "fill", "(IZ)I"⟩
abbrev cX11_unplaced : ByteArray := prog_13_method_103_code
def yX11_unplaced : MethodName := ⟨RX11, "unplaced", "()I"⟩
abbrev cX11_pageBound : ByteArray := prog_13_method_104_code
def yX11_pageBound : MethodName := ⟨RX11, "pageBound", "()I"⟩
abbrev cX11_usedByAll : ByteArray := prog_13_method_105_code
def yX11_usedByAll : MethodName := ⟨RX11, "usedByAll", "()I"⟩
abbrev cX11_bestMethod : ByteArray := prog_13_method_106_code
def yX11_bestMethod : MethodName := ⟨RX11, "bestMethod", "()I"⟩
abbrev cX11_smallestPage : ByteArray := prog_13_method_107_code
def yX11_smallestPage : MethodName := ⟨RX11, "smallestPage", "()I"⟩
abbrev cX11_sign : ByteArray := prog_13_method_108_code
def yX11_sign : MethodName := ⟨RX11, "sign", "(I)V"⟩
abbrev cX11_number : ByteArray := prog_13_method_109_code
def yX11_number : MethodName := ⟨RX11, "number", "(I)V"⟩
abbrev cX11_word : ByteArray := prog_13_method_110_code
def yX11_word : MethodName := ⟨RX11, "word", "(JJ)V"⟩
abbrev cX11_printsPlace : ByteArray := prog_13_method_111_code
def yX11_printsPlace : MethodName := ⟨RX11, "printsPlace", "(II)V"⟩
abbrev cX11_print : ByteArray := prog_13_method_112_code
def yX11_print : MethodName := ⟨RX11, "print", "(I)I"⟩
abbrev cX11_printed : ByteArray := prog_13_method_113_code
def yX11_printed : MethodName := ⟨RX11, "printed", "(I)I"⟩
abbrev cX11_keep : ByteArray := prog_13_method_114_code
def yX11_keep : MethodName := ⟨RX11, "keep", "(I)I"⟩
abbrev cX11_restore : ByteArray := prog_13_method_115_code
def yX11_restore : MethodName := ⟨RX11, "restore", "(I)I"⟩
abbrev cX11_more : ByteArray := prog_13_method_116_code
def yX11_more : MethodName := ⟨RX11, "more", "(JI)J"⟩
abbrev cX11_orNone : ByteArray := prog_13_method_117_code
def yX11_orNone : MethodName := ⟨RX11, "orNone", "(ZI)I"⟩
abbrev cX11_moreOf : ByteArray := prog_13_method_118_code
def yX11_moreOf : MethodName := ⟨RX11, "moreOf", "(JI)J"⟩
abbrev cX11_moreOfPage : ByteArray := prog_13_method_119_code
def yX11_moreOfPage : MethodName := ⟨RX11, "moreOfPage", "(JI)J"⟩
abbrev cX11_checksum : ByteArray := prog_13_method_120_code
def yX11_checksum : MethodName := ⟨RX11, "checksum", "()J"⟩
def RJx145de : String := "java/io/Serializable"
def TJx145de : u_T := fun k => match k with
  | _ => ("", "", "", false)
def tyJx145de : Nat → FieldType := fun k => match k with
  | _ => .int
theorem nmJx145de : ∀ a, a < 0 → ∀ b, b < 0 → a ≠ b → (TJx145de a).2.1 ≠ (TJx145de b).2.1 := by decide +kernel
theorem tyJx145de_ok : ∀ k, k < 0 → parseFieldDescriptor (TJx145de k).2.2.1 = some (tyJx145de k) := by decide +kernel
def RJ5 : String := "java/lang/AbstractStringBuilder"
def TJ5 : u_T := fun k => match k with
  | _ => ("", "", "", false)
def tyJ5 : Nat → FieldType := fun k => match k with
  | _ => .int
theorem nmJ5 : ∀ a, a < 0 → ∀ b, b < 0 → a ≠ b → (TJ5 a).2.1 ≠ (TJ5 b).2.1 := by decide +kernel
theorem tyJ5_ok : ∀ k, k < 0 → parseFieldDescriptor (TJ5 k).2.2.1 = some (tyJ5 k) := by decide +kernel
abbrev cJ5_init_d00df : ByteArray := prog_14_method_2_code
def yJ5_init_d00df : MethodName := ⟨RJ5, "<init>", "(I)V"⟩
abbrev cJ5_length_8abf5 : ByteArray := prog_14_method_6_code
def yJ5_length_8abf5 : MethodName := ⟨RJ5, "length", "()I"⟩
abbrev cJ5_ensureCapacityInternal_d00df : ByteArray := prog_14_method_9_code
def yJ5_ensureCapacityInternal_d00df : MethodName := ⟨RJ5, "ensureCapacityInternal", "(I)V"⟩
abbrev cJ5_newCapacity_0f7a4 : ByteArray := prog_14_method_10_code
def yJ5_newCapacity_0f7a4 : MethodName := ⟨RJ5, "newCapacity", "(I)I"⟩
abbrev cJ5_inflate_da8c8 : ByteArray := prog_14_method_11_code
def yJ5_inflate_da8c8 : MethodName := ⟨RJ5, "inflate", "()V"⟩
abbrev cJ5_setLength_d00df : ByteArray := prog_14_method_13_code
def yJ5_setLength_d00df : MethodName := ⟨RJ5, "setLength", "(I)V"⟩
abbrev cJ5_charAt_5068e : ByteArray := prog_14_method_14_code
def yJ5_charAt_5068e : MethodName := ⟨RJ5, "charAt", "(I)C"⟩
abbrev cJ5_append_cf1ce : ByteArray := prog_14_method_22_code
def yJ5_append_cf1ce : MethodName := ⟨RJ5, "append", "(Ljava/lang/String;)Ljava/lang/AbstractStringBuilder;"⟩
abbrev cJ5_appendNull_278bc : ByteArray := prog_14_method_26_code
def yJ5_appendNull_278bc : MethodName := ⟨RJ5, "appendNull", "()Ljava/lang/AbstractStringBuilder;"⟩
abbrev cJ5_append_3fe6f : ByteArray := prog_14_method_31_code
def yJ5_append_3fe6f : MethodName := ⟨RJ5, "append", "(C)Ljava/lang/AbstractStringBuilder;"⟩
abbrev cJ5_append_c97b9 : ByteArray := prog_14_method_32_code
def yJ5_append_c97b9 : MethodName := ⟨RJ5, "append", "(I)Ljava/lang/AbstractStringBuilder;"⟩
abbrev cJ5_isLatin1_aae02 : ByteArray := prog_14_method_68_code
def yJ5_isLatin1_aae02 : MethodName := ⟨RJ5, "isLatin1", "()Z"⟩
abbrev cJ5_inflateIfNeededFor_a7421 : ByteArray := prog_14_method_71_code
def yJ5_inflateIfNeededFor_a7421 : MethodName := ⟨RJ5, "inflateIfNeededFor", "(Ljava/lang/String;)V"⟩
abbrev cJ5_putStringAt_47b60 : ByteArray := prog_14_method_73_code
def yJ5_putStringAt_47b60 : MethodName := ⟨RJ5, "putStringAt", "(ILjava/lang/String;)V"⟩
def RJx2cfe8 : String := "java/lang/Appendable"
def TJx2cfe8 : u_T := fun k => match k with
  | _ => ("", "", "", false)
def tyJx2cfe8 : Nat → FieldType := fun k => match k with
  | _ => .int
theorem nmJx2cfe8 : ∀ a, a < 0 → ∀ b, b < 0 → a ≠ b → (TJx2cfe8 a).2.1 ≠ (TJx2cfe8 b).2.1 := by decide +kernel
theorem tyJx2cfe8_ok : ∀ k, k < 0 → parseFieldDescriptor (TJx2cfe8 k).2.2.1 = some (tyJx2cfe8 k) := by decide +kernel
def RJx9f9b0 : String := "java/lang/CharSequence"
def TJx9f9b0 : u_T := fun k => match k with
  | _ => ("", "", "", false)
def tyJx9f9b0 : Nat → FieldType := fun k => match k with
  | _ => .int
theorem nmJx9f9b0 : ∀ a, a < 0 → ∀ b, b < 0 → a ≠ b → (TJx9f9b0 a).2.1 ≠ (TJx9f9b0 b).2.1 := by decide +kernel
theorem tyJx9f9b0_ok : ∀ k, k < 0 → parseFieldDescriptor (TJx9f9b0 k).2.2.1 = some (tyJx9f9b0 k) := by decide +kernel
def RJx8e188 : String := "java/lang/Cloneable"
def TJx8e188 : u_T := fun k => match k with
  | _ => ("", "", "", false)
def tyJx8e188 : Nat → FieldType := fun k => match k with
  | _ => .int
theorem nmJx8e188 : ∀ a, a < 0 → ∀ b, b < 0 → a ≠ b → (TJx8e188 a).2.1 ≠ (TJx8e188 b).2.1 := by decide +kernel
theorem tyJx8e188_ok : ∀ k, k < 0 → parseFieldDescriptor (TJx8e188 k).2.2.1 = some (tyJx8e188 k) := by decide +kernel
def RJxb160c : String := "java/lang/Comparable"
def TJxb160c : u_T := fun k => match k with
  | _ => ("", "", "", false)
def tyJxb160c : Nat → FieldType := fun k => match k with
  | _ => .int
theorem nmJxb160c : ∀ a, a < 0 → ∀ b, b < 0 → a ≠ b → (TJxb160c a).2.1 ≠ (TJxb160c b).2.1 := by decide +kernel
theorem tyJxb160c_ok : ∀ k, k < 0 → parseFieldDescriptor (TJxb160c k).2.2.1 = some (tyJxb160c k) := by decide +kernel
def RJ6 : String := "java/lang/Integer"
def TJ6 : u_T := fun k => match k with
  | _ => ("", "", "", false)
def tyJ6 : Nat → FieldType := fun k => match k with
  | _ => .int
theorem nmJ6 : ∀ a, a < 0 → ∀ b, b < 0 → a ≠ b → (TJ6 a).2.1 ≠ (TJ6 b).2.1 := by decide +kernel
theorem tyJ6_ok : ∀ k, k < 0 → parseFieldDescriptor (TJ6 k).2.2.1 = some (tyJ6 k) := by decide +kernel
abbrev cJ6_getChars_ba4f3 : ByteArray := prog_16_method_12_code
def yJ6_getChars_ba4f3 : MethodName := ⟨RJ6, "getChars", "(II[B)I"⟩
abbrev cJ6_stringSize_0f7a4 : ByteArray := prog_16_method_13_code
def yJ6_stringSize_0f7a4 : MethodName := ⟨RJ6, "stringSize", "(I)I"⟩
def RJ13 : String := "java/lang/Long"
def TJ13 : u_T := fun k => match k with
  | _ => ("", "", "", false)
def tyJ13 : Nat → FieldType := fun k => match k with
  | _ => .int
theorem nmJ13 : ∀ a, a < 0 → ∀ b, b < 0 → a ≠ b → (TJ13 a).2.1 ≠ (TJ13 b).2.1 := by decide +kernel
theorem tyJ13_ok : ∀ k, k < 0 → parseFieldDescriptor (TJ13 k).2.2.1 = some (tyJ13 k) := by decide +kernel
abbrev cJ13_bitCount_95d88 : ByteArray := prog_17_method_50_code
def yJ13_bitCount_95d88 : MethodName := ⟨RJ13, "bitCount", "(J)I"⟩
def RJ9 : String := "java/lang/Math"
def TJ9 : u_T := fun k => match k with
  | _ => ("", "", "", false)
def tyJ9 : Nat → FieldType := fun k => match k with
  | _ => .int
theorem nmJ9 : ∀ a, a < 0 → ∀ b, b < 0 → a ≠ b → (TJ9 a).2.1 ≠ (TJ9 b).2.1 := by decide +kernel
theorem tyJ9_ok : ∀ k, k < 0 → parseFieldDescriptor (TJ9 k).2.2.1 = some (tyJ9 k) := by decide +kernel
abbrev cJ9_max_7cf53 : ByteArray := prog_18_method_65_code
def yJ9_max_7cf53 : MethodName := ⟨RJ9, "max", "(II)I"⟩
abbrev cJ9_min_7cf53 : ByteArray := prog_18_method_69_code
def yJ9_min_7cf53 : MethodName := ⟨RJ9, "min", "(II)I"⟩
def RJxd2413 : String := "java/lang/Number"
def TJxd2413 : u_T := fun k => match k with
  | _ => ("", "", "", false)
def tyJxd2413 : Nat → FieldType := fun k => match k with
  | _ => .int
theorem nmJxd2413 : ∀ a, a < 0 → ∀ b, b < 0 → a ≠ b → (TJxd2413 a).2.1 ≠ (TJxd2413 b).2.1 := by decide +kernel
theorem tyJxd2413_ok : ∀ k, k < 0 → parseFieldDescriptor (TJxd2413 k).2.2.1 = some (tyJxd2413 k) := by decide +kernel
def RJ0 : String := "java/lang/String"
def TJ0 : u_T := fun k => match k with
  | _ => ("", "", "", false)
def tyJ0 : Nat → FieldType := fun k => match k with
  | _ => .int
theorem nmJ0 : ∀ a, a < 0 → ∀ b, b < 0 → a ≠ b → (TJ0 a).2.1 ≠ (TJ0 b).2.1 := by decide +kernel
theorem tyJ0_ok : ∀ k, k < 0 → parseFieldDescriptor (TJ0 k).2.2.1 = some (tyJ0 k) := by decide +kernel
abbrev cJ0_length_8abf5 : ByteArray := prog_20_method_54_code
def yJ0_length_8abf5 : MethodName := ⟨RJ0, "length", "()I"⟩
abbrev cJ0_getBytes_840e7 : ByteArray := prog_20_method_147_code
def yJ0_getBytes_840e7 : MethodName := ⟨RJ0, "getBytes", "([BIB)V"⟩
abbrev cJ0_coder_7d493 : ByteArray := prog_20_method_152_code
def yJ0_coder_7d493 : MethodName := ⟨RJ0, "coder", "()B"⟩
abbrev cJ0_checkIndex_df160 : ByteArray := prog_20_method_155_code
def yJ0_checkIndex_df160 : MethodName := ⟨RJ0, "checkIndex", "(II)V"⟩
abbrev cJ0_checkBoundsOffCount_cabcc : ByteArray := prog_20_method_157_code
def yJ0_checkBoundsOffCount_cabcc : MethodName := ⟨RJ0, "checkBoundsOffCount", "(III)I"⟩
abbrev cJ0_checkBoundsBeginEnd_23922 : ByteArray := prog_20_method_158_code
def yJ0_checkBoundsBeginEnd_23922 : MethodName := ⟨RJ0, "checkBoundsBeginEnd", "(III)V"⟩
def RJ4 : String := "java/lang/StringBuilder"
def TJ4 : u_T := fun k => match k with
  | 0 => ("java/lang/AbstractStringBuilder", "value", "[B", false)
  | 1 => ("java/lang/AbstractStringBuilder", "coder", "B", false)
  | 2 => ("java/lang/AbstractStringBuilder", "maybeLatin1", "Z", false)
  | _ => ("java/lang/AbstractStringBuilder", "count", "I", false)
def tyJ4 : Nat → FieldType := fun k => match k with
  | 0 => .array .byte
  | 1 => .byte
  | 2 => .boolean
  | _ => .int
theorem nmJ4 : ∀ a, a < 4 → ∀ b, b < 4 → a ≠ b → (TJ4 a).2.1 ≠ (TJ4 b).2.1 := by decide +kernel
theorem tyJ4_ok : ∀ k, k < 4 → parseFieldDescriptor (TJ4 k).2.2.1 = some (tyJ4 k) := by decide +kernel
abbrev cJ4_init_da8c8 : ByteArray := prog_21_method_1_code
def yJ4_init_da8c8 : MethodName := ⟨RJ4, "<init>", "()V"⟩
abbrev cJ4_append_15ec4 : ByteArray := prog_21_method_7_code
def yJ4_append_15ec4 : MethodName := ⟨RJ4, "append", "(Ljava/lang/String;)Ljava/lang/StringBuilder;"⟩
abbrev cJ4_append_cf468 : ByteArray := prog_21_method_14_code
def yJ4_append_cf468 : MethodName := ⟨RJ4, "append", "(C)Ljava/lang/StringBuilder;"⟩
abbrev cJ4_append_bf812 : ByteArray := prog_21_method_15_code
def yJ4_append_bf812 : MethodName := ⟨RJ4, "append", "(I)Ljava/lang/StringBuilder;"⟩
abbrev cJ4_charAt_5068e : ByteArray := prog_21_method_88_code
def yJ4_charAt_5068e : MethodName := ⟨RJ4, "charAt", "(I)C"⟩
abbrev cJ4_setLength_d00df : ByteArray := prog_21_method_89_code
def yJ4_setLength_d00df : MethodName := ⟨RJ4, "setLength", "(I)V"⟩
abbrev cJ4_length_8abf5 : ByteArray := prog_21_method_93_code
def yJ4_length_8abf5 : MethodName := ⟨RJ4, "length", "()I"⟩
def RJ1 : String := "java/lang/StringLatin1"
def TJ1 : u_T := fun k => match k with
  | _ => ("", "", "", false)
def tyJ1 : Nat → FieldType := fun k => match k with
  | _ => .int
theorem nmJ1 : ∀ a, a < 0 → ∀ b, b < 0 → a ≠ b → (TJ1 a).2.1 ≠ (TJ1 b).2.1 := by decide +kernel
theorem tyJ1_ok : ∀ k, k < 0 → parseFieldDescriptor (TJ1 k).2.2.1 = some (tyJ1 k) := by decide +kernel
abbrev cJ1_canEncode_fc78d : ByteArray := prog_22_method_3_code
def yJ1_canEncode_fc78d : MethodName := ⟨RJ1, "canEncode", "(C)Z"⟩
abbrev cJ1_fillNull_b72d1 : ByteArray := prog_22_method_48_code
def yJ1_fillNull_b72d1 : MethodName := ⟨RJ1, "fillNull", "([BII)V"⟩
abbrev cJ1_inflate_0e8fd : ByteArray := prog_22_method_50_code
def yJ1_inflate_0e8fd : MethodName := ⟨RJ1, "inflate", "([BI[BII)V"⟩
def RJ2 : String := "java/lang/StringUTF16"
def TJ2 : u_T := fun k => match k with
  | _ => ("", "", "", false)
def tyJ2 : Nat → FieldType := fun k => match k with
  | _ => .int
theorem nmJ2 : ∀ a, a < 0 → ∀ b, b < 0 → a ≠ b → (TJ2 a).2.1 ≠ (TJ2 b).2.1 := by decide +kernel
theorem tyJ2_ok : ∀ k, k < 0 → parseFieldDescriptor (TJ2 k).2.2.1 = some (tyJ2 k) := by decide +kernel
abbrev cJ2_newBytesFor_77867 : ByteArray := prog_23_method_2_code
def yJ2_newBytesFor_77867 : MethodName := ⟨RJ2, "newBytesFor", "(I)[B"⟩
abbrev cJ2_newBytesLength_0f7a4 : ByteArray := prog_23_method_3_code
def yJ2_newBytesLength_0f7a4 : MethodName := ⟨RJ2, "newBytesLength", "(I)I"⟩
abbrev cJ2_putChar_b72d1 : ByteArray := prog_23_method_4_code
def yJ2_putChar_b72d1 : MethodName := ⟨RJ2, "putChar", "([BII)V"⟩
abbrev cJ2_getChar_3b067 : ByteArray := prog_23_method_5_code
def yJ2_getChar_3b067 : MethodName := ⟨RJ2, "getChar", "([BI)C"⟩
abbrev cJ2_length_9d52b : ByteArray := prog_23_method_6_code
def yJ2_length_9d52b : MethodName := ⟨RJ2, "length", "([B)I"⟩
abbrev cJ2_fillNull_b72d1 : ByteArray := prog_23_method_70_code
def yJ2_fillNull_b72d1 : MethodName := ⟨RJ2, "fillNull", "([BII)V"⟩
abbrev cJ2_putCharSB_b72d1 : ByteArray := prog_23_method_71_code
def yJ2_putCharSB_b72d1 : MethodName := ⟨RJ2, "putCharSB", "([BII)V"⟩
abbrev cJ2_getChars_46870 : ByteArray := prog_23_method_77_code
def yJ2_getChars_46870 : MethodName := ⟨RJ2, "getChars", "(III[B)I"⟩
abbrev cJ2_putCharsAt_cd4e5 : ByteArray := prog_23_method_81_code
def yJ2_putCharsAt_cd4e5 : MethodName := ⟨RJ2, "putCharsAt", "([BICCCC)I"⟩
abbrev cJ2_inflate_0e8fd : ByteArray := prog_23_method_86_code
def yJ2_inflate_0e8fd : MethodName := ⟨RJ2, "inflate", "([BI[BII)V"⟩
abbrev cJ2_getChars_ba4f3 : ByteArray := prog_23_method_89_code
def yJ2_getChars_ba4f3 : MethodName := ⟨RJ2, "getChars", "(II[B)I"⟩
abbrev cJ2_checkIndex_2214a : ByteArray := prog_23_method_91_code
def yJ2_checkIndex_2214a : MethodName := ⟨RJ2, "checkIndex", "(I[B)V"⟩
abbrev cJ2_checkBoundsBeginEnd_d044e : ByteArray := prog_23_method_93_code
def yJ2_checkBoundsBeginEnd_d044e : MethodName := ⟨RJ2, "checkBoundsBeginEnd", "(II[B)V"⟩
abbrev cJ2_checkBoundsOffCount_d044e : ByteArray := prog_23_method_94_code
def yJ2_checkBoundsOffCount_d044e : MethodName := ⟨RJ2, "checkBoundsOffCount", "(II[B)V"⟩
def RJ10 : String := "java/lang/System"
def TJ10 : u_T := fun k => match k with
  | _ => ("", "", "", false)
def tyJ10 : Nat → FieldType := fun k => match k with
  | _ => .int
theorem nmJ10 : ∀ a, a < 0 → ∀ b, b < 0 → a ≠ b → (TJ10 a).2.1 ≠ (TJ10 b).2.1 := by decide +kernel
theorem tyJ10_ok : ∀ k, k < 0 → parseFieldDescriptor (TJ10 k).2.2.1 = some (tyJ10 k) := by decide +kernel
def RJxfd54e : String := "java/lang/constant/Constable"
def TJxfd54e : u_T := fun k => match k with
  | _ => ("", "", "", false)
def tyJxfd54e : Nat → FieldType := fun k => match k with
  | _ => .int
theorem nmJxfd54e : ∀ a, a < 0 → ∀ b, b < 0 → a ≠ b → (TJxfd54e a).2.1 ≠ (TJxfd54e b).2.1 := by decide +kernel
theorem tyJxfd54e_ok : ∀ k, k < 0 → parseFieldDescriptor (TJxfd54e k).2.2.1 = some (tyJxfd54e k) := by decide +kernel
def RJx3cf43 : String := "java/lang/constant/ConstantDesc"
def TJx3cf43 : u_T := fun k => match k with
  | _ => ("", "", "", false)
def tyJx3cf43 : Nat → FieldType := fun k => match k with
  | _ => .int
theorem nmJx3cf43 : ∀ a, a < 0 → ∀ b, b < 0 → a ≠ b → (TJx3cf43 a).2.1 ≠ (TJx3cf43 b).2.1 := by decide +kernel
theorem tyJx3cf43_ok : ∀ k, k < 0 → parseFieldDescriptor (TJx3cf43 k).2.2.1 = some (tyJx3cf43 k) := by decide +kernel
def RJ7 : String := "java/util/Arrays"
def TJ7 : u_T := fun k => match k with
  | _ => ("", "", "", false)
def tyJ7 : Nat → FieldType := fun k => match k with
  | _ => .int
theorem nmJ7 : ∀ a, a < 0 → ∀ b, b < 0 → a ≠ b → (TJ7 a).2.1 ≠ (TJ7 b).2.1 := by decide +kernel
theorem tyJ7_ok : ∀ k, k < 0 → parseFieldDescriptor (TJ7 k).2.2.1 = some (tyJ7 k) := by decide +kernel
abbrev cJ7_rangeCheck_23922 : ByteArray := prog_25_method_30_code
def yJ7_rangeCheck_23922 : MethodName := ⟨RJ7, "rangeCheck", "(III)V"⟩
abbrev cJ7_fill_bad5a : ByteArray := prog_25_method_102_code
def yJ7_fill_bad5a : MethodName := ⟨RJ7, "fill", "([JIIJ)V"⟩
abbrev cJ7_fill_53178 : ByteArray := prog_25_method_103_code
def yJ7_fill_53178 : MethodName := ⟨RJ7, "fill", "([II)V"⟩
abbrev cJ7_fill_fda19 : ByteArray := prog_25_method_104_code
def yJ7_fill_fda19 : MethodName := ⟨RJ7, "fill", "([IIII)V"⟩
abbrev cJ7_fill_eb02e : ByteArray := prog_25_method_110_code
def yJ7_fill_eb02e : MethodName := ⟨RJ7, "fill", "([BIIB)V"⟩
abbrev cJ7_copyOf_9075b : ByteArray := prog_25_method_121_code
def yJ7_copyOf_9075b : MethodName := ⟨RJ7, "copyOf", "([BI)[B"⟩
def RJ8 : String := "jdk/internal/util/ArraysSupport"
def TJ8 : u_T := fun k => match k with
  | _ => ("", "", "", false)
def tyJ8 : Nat → FieldType := fun k => match k with
  | _ => .int
theorem nmJ8 : ∀ a, a < 0 → ∀ b, b < 0 → a ≠ b → (TJ8 a).2.1 ≠ (TJ8 b).2.1 := by decide +kernel
theorem tyJ8_ok : ∀ k, k < 0 → parseFieldDescriptor (TJ8 k).2.2.1 = some (tyJ8 k) := by decide +kernel
abbrev cJ8_newLength_cabcc : ByteArray := prog_26_method_27_code
def yJ8_newLength_cabcc : MethodName := ⟨RJ8, "newLength", "(III)I"⟩
abbrev cJ8_hugeLength_7cf53 : ByteArray := prog_26_method_28_code
def yJ8_hugeLength_7cf53 : MethodName := ⟨RJ8, "hugeLength", "(II)I"⟩
def RJ3 : String := "jdk/internal/util/Preconditions"
def TJ3 : u_T := fun k => match k with
  | _ => ("", "", "", false)
def tyJ3 : Nat → FieldType := fun k => match k with
  | _ => .int
theorem nmJ3 : ∀ a, a < 0 → ∀ b, b < 0 → a ≠ b → (TJ3 a).2.1 ≠ (TJ3 b).2.1 := by decide +kernel
theorem tyJ3_ok : ∀ k, k < 0 → parseFieldDescriptor (TJ3 k).2.2.1 = some (tyJ3 k) := by decide +kernel
abbrev cJ3_checkIndex_8e157 : ByteArray := prog_27_method_11_code
def yJ3_checkIndex_8e157 : MethodName := ⟨RJ3, "checkIndex", "(IILjava/util/function/BiFunction;)I"⟩
abbrev cJ3_checkFromToIndex_8c36e : ByteArray := prog_27_method_12_code
def yJ3_checkFromToIndex_8c36e : MethodName := ⟨RJ3, "checkFromToIndex", "(IIILjava/util/function/BiFunction;)I"⟩
abbrev cJ3_checkFromIndexSize_8c36e : ByteArray := prog_27_method_13_code
def yJ3_checkFromIndexSize_8c36e : MethodName := ⟨RJ3, "checkFromIndexSize", "(IIILjava/util/function/BiFunction;)I"⟩
def RL : String := "SpriteAtlasLaw"
abbrev cL_law : ByteArray := code
def yL_law : MethodName := ⟨RL, "law", "([I)Z"⟩
abbrev g_cl : List vw_C := [(RJ4, TJ4, 4), (RX0, TX0, 6), (RX1, TX1, 7), (RX2, TX2, 3), (RX3, TX3, 5), (RX4, TX4, 6), (RX5, TX5, 12), (RX6, TX6, 5), (RX7, TX7, 5), (RX8, TX8, 3), (RX9, TX9, 2), (RX10, TX10, 12), (RX11, TX11, 38)]
