-- ===== PART A: goes FIRST, ahead of the names: the tables' words, and 'selects' of the private methods out of them =====
/-- a private method of a class that the tables say can be made, by its rows of tables_1 -/
def lw_okq (q : MethodName × Nat) : Prop := (q.1.cls ≠ "java/lang/invoke/MethodHandle" ∧ q.1.cls ≠ "java/lang/invoke/VarHandle") ∧ Cond.instantiable q.1.cls q.2 ∈ tables_1 ∧ Cond.privateMethod q.1 ∈ tables_1 ∧ Cond.instanceMethod q.1 ∈ tables_1
set_option maxRecDepth 100000 in
theorem lw_p0 : lw_okq (⟨"MovesUp$Reader", "read", "(I)I"⟩, 10) := ⟨⟨by decide +kernel, by decide +kernel⟩, List.mem_of_getElem? (i := 32) rfl, List.mem_of_getElem? (i := 194) rfl, List.mem_of_getElem? (i := 195) rfl⟩
set_option maxRecDepth 100000 in
theorem lw_p1 : lw_okq (⟨"MovesUp$Reader", "advance", "()V"⟩, 10) := ⟨⟨by decide +kernel, by decide +kernel⟩, List.mem_of_getElem? (i := 32) rfl, List.mem_of_getElem? (i := 201) rfl, List.mem_of_getElem? (i := 202) rfl⟩
set_option maxRecDepth 100000 in
theorem lw_p2 : lw_okq (⟨"MovesUp$Reader", "word", "()I"⟩, 10) := ⟨⟨by decide +kernel, by decide +kernel⟩, List.mem_of_getElem? (i := 32) rfl, List.mem_of_getElem? (i := 208) rfl, List.mem_of_getElem? (i := 209) rfl⟩
set_option maxRecDepth 100000 in
theorem lw_p3 : lw_okq (⟨"MovesUp$Reader", "spelt", "(I)I"⟩, 10) := ⟨⟨by decide +kernel, by decide +kernel⟩, List.mem_of_getElem? (i := 32) rfl, List.mem_of_getElem? (i := 212) rfl, List.mem_of_getElem? (i := 213) rfl⟩
set_option maxRecDepth 100000 in
theorem lw_p4 : lw_okq (⟨"MovesUp$Reader", "number", "()I"⟩, 10) := ⟨⟨by decide +kernel, by decide +kernel⟩, List.mem_of_getElem? (i := 32) rfl, List.mem_of_getElem? (i := 222) rfl, List.mem_of_getElem? (i := 223) rfl⟩
set_option maxRecDepth 100000 in
theorem lw_p5 : lw_okq (⟨"MovesUp$Reader", "take", "(I)V"⟩, 10) := ⟨⟨by decide +kernel, by decide +kernel⟩, List.mem_of_getElem? (i := 32) rfl, List.mem_of_getElem? (i := 229) rfl, List.mem_of_getElem? (i := 230) rfl⟩
set_option maxRecDepth 100000 in
theorem lw_p6 : lw_okq (⟨"MovesUp$Reader", "refuse", "()V"⟩, 10) := ⟨⟨by decide +kernel, by decide +kernel⟩, List.mem_of_getElem? (i := 32) rfl, List.mem_of_getElem? (i := 233) rfl, List.mem_of_getElem? (i := 234) rfl⟩
set_option maxRecDepth 100000 in
theorem lw_p7 : lw_okq (⟨"MovesUp$Reader", "readOr", "()V"⟩, 10) := ⟨⟨by decide +kernel, by decide +kernel⟩, List.mem_of_getElem? (i := 32) rfl, List.mem_of_getElem? (i := 237) rfl, List.mem_of_getElem? (i := 238) rfl⟩
set_option maxRecDepth 100000 in
theorem lw_p8 : lw_okq (⟨"MovesUp$Reader", "readAnd", "()V"⟩, 10) := ⟨⟨by decide +kernel, by decide +kernel⟩, List.mem_of_getElem? (i := 32) rfl, List.mem_of_getElem? (i := 241) rfl, List.mem_of_getElem? (i := 242) rfl⟩
set_option maxRecDepth 100000 in
theorem lw_p9 : lw_okq (⟨"MovesUp$Reader", "readNot", "()V"⟩, 10) := ⟨⟨by decide +kernel, by decide +kernel⟩, List.mem_of_getElem? (i := 32) rfl, List.mem_of_getElem? (i := 245) rfl, List.mem_of_getElem? (i := 246) rfl⟩
set_option maxRecDepth 100000 in
theorem lw_p10 : lw_okq (⟨"MovesUp$Reader", "opens", "()Z"⟩, 10) := ⟨⟨by decide +kernel, by decide +kernel⟩, List.mem_of_getElem? (i := 32) rfl, List.mem_of_getElem? (i := 249) rfl, List.mem_of_getElem? (i := 250) rfl⟩
set_option maxRecDepth 100000 in
theorem lw_p11 : lw_okq (⟨"MovesUp$Reader", "emit", "(I)V"⟩, 10) := ⟨⟨by decide +kernel, by decide +kernel⟩, List.mem_of_getElem? (i := 32) rfl, List.mem_of_getElem? (i := 253) rfl, List.mem_of_getElem? (i := 254) rfl⟩
set_option maxRecDepth 100000 in
theorem lw_p12 : lw_okq (⟨"MovesUp$Reader", "readSum", "()V"⟩, 10) := ⟨⟨by decide +kernel, by decide +kernel⟩, List.mem_of_getElem? (i := 32) rfl, List.mem_of_getElem? (i := 257) rfl, List.mem_of_getElem? (i := 258) rfl⟩
set_option maxRecDepth 100000 in
theorem lw_p13 : lw_okq (⟨"MovesUp$Reader", "readTerm", "()V"⟩, 10) := ⟨⟨by decide +kernel, by decide +kernel⟩, List.mem_of_getElem? (i := 32) rfl, List.mem_of_getElem? (i := 261) rfl, List.mem_of_getElem? (i := 262) rfl⟩
set_option maxRecDepth 100000 in
theorem lw_p14 : lw_okq (⟨"MovesUp$Reader", "readOne", "()V"⟩, 10) := ⟨⟨by decide +kernel, by decide +kernel⟩, List.mem_of_getElem? (i := 32) rfl, List.mem_of_getElem? (i := 265) rfl, List.mem_of_getElem? (i := 266) rfl⟩
set_option maxRecDepth 100000 in
theorem lw_p15 : lw_okq (⟨"MovesUp$Reader", "made", "()LMovesUp$Text;"⟩, 10) := ⟨⟨by decide +kernel, by decide +kernel⟩, List.mem_of_getElem? (i := 32) rfl, List.mem_of_getElem? (i := 269) rfl, List.mem_of_getElem? (i := 270) rfl⟩
def lw_privs_1 : List (MethodName × Nat) := [(⟨"MovesUp$Reader", "read", "(I)I"⟩, 10), (⟨"MovesUp$Reader", "advance", "()V"⟩, 10), (⟨"MovesUp$Reader", "word", "()I"⟩, 10), (⟨"MovesUp$Reader", "spelt", "(I)I"⟩, 10), (⟨"MovesUp$Reader", "number", "()I"⟩, 10), (⟨"MovesUp$Reader", "take", "(I)V"⟩, 10), (⟨"MovesUp$Reader", "refuse", "()V"⟩, 10), (⟨"MovesUp$Reader", "readOr", "()V"⟩, 10), (⟨"MovesUp$Reader", "readAnd", "()V"⟩, 10), (⟨"MovesUp$Reader", "readNot", "()V"⟩, 10), (⟨"MovesUp$Reader", "opens", "()Z"⟩, 10), (⟨"MovesUp$Reader", "emit", "(I)V"⟩, 10), (⟨"MovesUp$Reader", "readSum", "()V"⟩, 10), (⟨"MovesUp$Reader", "readTerm", "()V"⟩, 10), (⟨"MovesUp$Reader", "readOne", "()V"⟩, 10), (⟨"MovesUp$Reader", "made", "()LMovesUp$Text;"⟩, 10)]
theorem lw_r1 : ∀ q ∈ lw_privs_1, lw_okq q := List.forall_mem_cons.mpr ⟨lw_p0, List.forall_mem_cons.mpr ⟨lw_p1, List.forall_mem_cons.mpr ⟨lw_p2, List.forall_mem_cons.mpr ⟨lw_p3, List.forall_mem_cons.mpr ⟨lw_p4, List.forall_mem_cons.mpr ⟨lw_p5, List.forall_mem_cons.mpr ⟨lw_p6, List.forall_mem_cons.mpr ⟨lw_p7, List.forall_mem_cons.mpr ⟨lw_p8, List.forall_mem_cons.mpr ⟨lw_p9, List.forall_mem_cons.mpr ⟨lw_p10, List.forall_mem_cons.mpr ⟨lw_p11, List.forall_mem_cons.mpr ⟨lw_p12, List.forall_mem_cons.mpr ⟨lw_p13, List.forall_mem_cons.mpr ⟨lw_p14, List.forall_mem_cons.mpr ⟨lw_p15, fun _ h => absurd h List.not_mem_nil⟩⟩⟩⟩⟩⟩⟩⟩⟩⟩⟩⟩⟩⟩⟩⟩
set_option maxRecDepth 100000 in
theorem lw_p16 : lw_okq (⟨"MovesUp", "known", "(I)LMovesUp$Pupil;"⟩, 15) := ⟨⟨by decide +kernel, by decide +kernel⟩, List.mem_of_getElem? (i := 18) rfl, List.mem_of_getElem? (i := 390) rfl, List.mem_of_getElem? (i := 391) rfl⟩
set_option maxRecDepth 100000 in
theorem lw_p17 : lw_okq (⟨"MovesUp$Pupil", "together", "()I"⟩, 7) := ⟨⟨by decide +kernel, by decide +kernel⟩, List.mem_of_getElem? (i := 353) rfl, List.mem_of_getElem? (i := 395) rfl, List.mem_of_getElem? (i := 396) rfl⟩
set_option maxRecDepth 100000 in
theorem lw_p18 : lw_okq (⟨"MovesUp$Chances", "rely", "(LMovesUp$Text;II)V"⟩, 6) := ⟨⟨by decide +kernel, by decide +kernel⟩, List.mem_of_getElem? (i := 71) rfl, List.mem_of_getElem? (i := 419) rfl, List.mem_of_getElem? (i := 420) rfl⟩
set_option maxRecDepth 100000 in
theorem lw_p19 : lw_okq (⟨"MovesUp$Chances", "asks", "(IIIII)I"⟩, 6) := ⟨⟨by decide +kernel, by decide +kernel⟩, List.mem_of_getElem? (i := 71) rfl, List.mem_of_getElem? (i := 426) rfl, List.mem_of_getElem? (i := 427) rfl⟩
set_option maxRecDepth 100000 in
theorem lw_p20 : lw_okq (⟨"MovesUp$Chances", "worth", "(I)I"⟩, 6) := ⟨⟨by decide +kernel, by decide +kernel⟩, List.mem_of_getElem? (i := 71) rfl, List.mem_of_getElem? (i := 433) rfl, List.mem_of_getElem? (i := 434) rfl⟩
set_option maxRecDepth 100000 in
theorem lw_p21 : lw_okq (⟨"MovesUp", "follow", "(LMovesUp$Pupil;I)V"⟩, 15) := ⟨⟨by decide +kernel, by decide +kernel⟩, List.mem_of_getElem? (i := 18) rfl, List.mem_of_getElem? (i := 452) rfl, List.mem_of_getElem? (i := 453) rfl⟩
set_option maxRecDepth 100000 in
theorem lw_p22 : lw_okq (⟨"MovesUp", "start", "(LMovesUp$Pupil;III)V"⟩, 15) := ⟨⟨by decide +kernel, by decide +kernel⟩, List.mem_of_getElem? (i := 18) rfl, List.mem_of_getElem? (i := 456) rfl, List.mem_of_getElem? (i := 457) rfl⟩
set_option maxRecDepth 100000 in
theorem lw_p23 : lw_okq (⟨"MovesUp$Course", "begin", "([IIII)V"⟩, 7) := ⟨⟨by decide +kernel, by decide +kernel⟩, List.mem_of_getElem? (i := 96) rfl, List.mem_of_getElem? (i := 460) rfl, List.mem_of_getElem? (i := 461) rfl⟩
set_option maxRecDepth 100000 in
theorem lw_p24 : lw_okq (⟨"MovesUp$Course", "follow", "(II)V"⟩, 7) := ⟨⟨by decide +kernel, by decide +kernel⟩, List.mem_of_getElem? (i := 96) rfl, List.mem_of_getElem? (i := 464) rfl, List.mem_of_getElem? (i := 465) rfl⟩
set_option maxRecDepth 100000 in
theorem lw_p25 : lw_okq (⟨"MovesUp$Course", "pass", "(II)V"⟩, 7) := ⟨⟨by decide +kernel, by decide +kernel⟩, List.mem_of_getElem? (i := 96) rfl, List.mem_of_getElem? (i := 468) rfl, List.mem_of_getElem? (i := 469) rfl⟩
set_option maxRecDepth 100000 in
theorem lw_p26 : lw_okq (⟨"MovesUp$Course", "wish", "(I)I"⟩, 7) := ⟨⟨by decide +kernel, by decide +kernel⟩, List.mem_of_getElem? (i := 96) rfl, List.mem_of_getElem? (i := 474) rfl, List.mem_of_getElem? (i := 475) rfl⟩
set_option maxRecDepth 100000 in
theorem lw_p27 : lw_okq (⟨"MovesUp$Course", "twice", "(I)I"⟩, 7) := ⟨⟨by decide +kernel, by decide +kernel⟩, List.mem_of_getElem? (i := 96) rfl, List.mem_of_getElem? (i := 478) rfl, List.mem_of_getElem? (i := 479) rfl⟩
set_option maxRecDepth 100000 in
theorem lw_p28 : lw_okq (⟨"MovesUp$Course", "sure", "(I)I"⟩, 7) := ⟨⟨by decide +kernel, by decide +kernel⟩, List.mem_of_getElem? (i := 96) rfl, List.mem_of_getElem? (i := 482) rfl, List.mem_of_getElem? (i := 483) rfl⟩
set_option maxRecDepth 100000 in
theorem lw_p29 : lw_okq (⟨"MovesUp$Course", "from", "(II)J"⟩, 7) := ⟨⟨by decide +kernel, by decide +kernel⟩, List.mem_of_getElem? (i := 96) rfl, List.mem_of_getElem? (i := 486) rfl, List.mem_of_getElem? (i := 487) rfl⟩
set_option maxRecDepth 100000 in
theorem lw_p30 : lw_okq (⟨"MovesUp$Course", "wrongTwice", "(I)Z"⟩, 7) := ⟨⟨by decide +kernel, by decide +kernel⟩, List.mem_of_getElem? (i := 96) rfl, List.mem_of_getElem? (i := 495) rfl, List.mem_of_getElem? (i := 496) rfl⟩
set_option maxRecDepth 100000 in
theorem lw_p31 : lw_okq (⟨"MovesUp$Course", "unsure", "(I)Z"⟩, 7) := ⟨⟨by decide +kernel, by decide +kernel⟩, List.mem_of_getElem? (i := 96) rfl, List.mem_of_getElem? (i := 499) rfl, List.mem_of_getElem? (i := 500) rfl⟩
def lw_privs_2 : List (MethodName × Nat) := [(⟨"MovesUp", "known", "(I)LMovesUp$Pupil;"⟩, 15), (⟨"MovesUp$Pupil", "together", "()I"⟩, 7), (⟨"MovesUp$Chances", "rely", "(LMovesUp$Text;II)V"⟩, 6), (⟨"MovesUp$Chances", "asks", "(IIIII)I"⟩, 6), (⟨"MovesUp$Chances", "worth", "(I)I"⟩, 6), (⟨"MovesUp", "follow", "(LMovesUp$Pupil;I)V"⟩, 15), (⟨"MovesUp", "start", "(LMovesUp$Pupil;III)V"⟩, 15), (⟨"MovesUp$Course", "begin", "([IIII)V"⟩, 7), (⟨"MovesUp$Course", "follow", "(II)V"⟩, 7), (⟨"MovesUp$Course", "pass", "(II)V"⟩, 7), (⟨"MovesUp$Course", "wish", "(I)I"⟩, 7), (⟨"MovesUp$Course", "twice", "(I)I"⟩, 7), (⟨"MovesUp$Course", "sure", "(I)I"⟩, 7), (⟨"MovesUp$Course", "from", "(II)J"⟩, 7), (⟨"MovesUp$Course", "wrongTwice", "(I)Z"⟩, 7), (⟨"MovesUp$Course", "unsure", "(I)Z"⟩, 7)]
theorem lw_r2 : ∀ q ∈ lw_privs_2, lw_okq q := List.forall_mem_cons.mpr ⟨lw_p16, List.forall_mem_cons.mpr ⟨lw_p17, List.forall_mem_cons.mpr ⟨lw_p18, List.forall_mem_cons.mpr ⟨lw_p19, List.forall_mem_cons.mpr ⟨lw_p20, List.forall_mem_cons.mpr ⟨lw_p21, List.forall_mem_cons.mpr ⟨lw_p22, List.forall_mem_cons.mpr ⟨lw_p23, List.forall_mem_cons.mpr ⟨lw_p24, List.forall_mem_cons.mpr ⟨lw_p25, List.forall_mem_cons.mpr ⟨lw_p26, List.forall_mem_cons.mpr ⟨lw_p27, List.forall_mem_cons.mpr ⟨lw_p28, List.forall_mem_cons.mpr ⟨lw_p29, List.forall_mem_cons.mpr ⟨lw_p30, List.forall_mem_cons.mpr ⟨lw_p31, fun _ h => absurd h List.not_mem_nil⟩⟩⟩⟩⟩⟩⟩⟩⟩⟩⟩⟩⟩⟩⟩⟩
set_option maxRecDepth 100000 in
theorem lw_p32 : lw_okq (⟨"MovesUp$Course", "settle", "(II)V"⟩, 7) := ⟨⟨by decide +kernel, by decide +kernel⟩, List.mem_of_getElem? (i := 96) rfl, List.mem_of_getElem? (i := 504) rfl, List.mem_of_getElem? (i := 505) rfl⟩
set_option maxRecDepth 100000 in
theorem lw_p33 : lw_okq (⟨"MovesUp$Course", "weightsAt", "(I)[J"⟩, 7) := ⟨⟨by decide +kernel, by decide +kernel⟩, List.mem_of_getElem? (i := 96) rfl, List.mem_of_getElem? (i := 513) rfl, List.mem_of_getElem? (i := 514) rfl⟩
set_option maxRecDepth 100000 in
theorem lw_p34 : lw_okq (⟨"MovesUp$Course", "together", "(I)J"⟩, 7) := ⟨⟨by decide +kernel, by decide +kernel⟩, List.mem_of_getElem? (i := 96) rfl, List.mem_of_getElem? (i := 517) rfl, List.mem_of_getElem? (i := 518) rfl⟩
set_option maxRecDepth 100000 in
theorem lw_p35 : lw_okq (⟨"MovesUp$Course", "classThen", "(I)I"⟩, 7) := ⟨⟨by decide +kernel, by decide +kernel⟩, List.mem_of_getElem? (i := 96) rfl, List.mem_of_getElem? (i := 534) rfl, List.mem_of_getElem? (i := 535) rfl⟩
set_option maxRecDepth 100000 in
theorem lw_p36 : lw_okq (⟨"MovesUp$Course", "movedThen", "(I)I"⟩, 7) := ⟨⟨by decide +kernel, by decide +kernel⟩, List.mem_of_getElem? (i := 96) rfl, List.mem_of_getElem? (i := 538) rfl, List.mem_of_getElem? (i := 539) rfl⟩
set_option maxRecDepth 100000 in
theorem lw_p37 : lw_okq (⟨"MovesUp$Course", "fit", "(I)J"⟩, 7) := ⟨⟨by decide +kernel, by decide +kernel⟩, List.mem_of_getElem? (i := 96) rfl, List.mem_of_getElem? (i := 551) rfl, List.mem_of_getElem? (i := 552) rfl⟩
set_option maxRecDepth 100000 in
theorem lw_p38 : lw_okq (⟨"MovesUp$Course", "ends", "(I)J"⟩, 7) := ⟨⟨by decide +kernel, by decide +kernel⟩, List.mem_of_getElem? (i := 96) rfl, List.mem_of_getElem? (i := 560) rfl, List.mem_of_getElem? (i := 561) rfl⟩
set_option maxRecDepth 100000 in
theorem lw_p39 : lw_okq (⟨"MovesUp$Course", "endsNow", "()J"⟩, 7) := ⟨⟨by decide +kernel, by decide +kernel⟩, List.mem_of_getElem? (i := 96) rfl, List.mem_of_getElem? (i := 564) rfl, List.mem_of_getElem? (i := 565) rfl⟩
set_option maxRecDepth 100000 in
theorem lw_p40 : lw_okq (⟨"MovesUp$Course", "rights", "(I)J"⟩, 7) := ⟨⟨by decide +kernel, by decide +kernel⟩, List.mem_of_getElem? (i := 96) rfl, List.mem_of_getElem? (i := 569) rfl, List.mem_of_getElem? (i := 570) rfl⟩
set_option maxRecDepth 100000 in
theorem lw_p41 : lw_okq (⟨"MovesUp$Course", "best", "(I)J"⟩, 7) := ⟨⟨by decide +kernel, by decide +kernel⟩, List.mem_of_getElem? (i := 96) rfl, List.mem_of_getElem? (i := 581) rfl, List.mem_of_getElem? (i := 582) rfl⟩
set_option maxRecDepth 100000 in
theorem lw_p42 : lw_okq (⟨"MovesUp$Course", "bestMove", "(I)J"⟩, 7) := ⟨⟨by decide +kernel, by decide +kernel⟩, List.mem_of_getElem? (i := 96) rfl, List.mem_of_getElem? (i := 585) rfl, List.mem_of_getElem? (i := 586) rfl⟩
set_option maxRecDepth 100000 in
theorem lw_p43 : lw_okq (⟨"MovesUp", "endsBy", "(LMovesUp$Pupil;III)J"⟩, 15) := ⟨⟨by decide +kernel, by decide +kernel⟩, List.mem_of_getElem? (i := 18) rfl, List.mem_of_getElem? (i := 597) rfl, List.mem_of_getElem? (i := 598) rfl⟩
set_option maxRecDepth 100000 in
theorem lw_p44 : lw_okq (⟨"MovesUp", "laid", "(I)LMovesUp$Row;"⟩, 15) := ⟨⟨by decide +kernel, by decide +kernel⟩, List.mem_of_getElem? (i := 18) rfl, List.mem_of_getElem? (i := 611) rfl, List.mem_of_getElem? (i := 612) rfl⟩
set_option maxRecDepth 100000 in
theorem lw_p45 : lw_okq (⟨"MovesUp$Course", "share", "(I)J"⟩, 7) := ⟨⟨by decide +kernel, by decide +kernel⟩, List.mem_of_getElem? (i := 96) rfl, List.mem_of_getElem? (i := 615) rfl, List.mem_of_getElem? (i := 616) rfl⟩
set_option maxRecDepth 100000 in
theorem lw_p46 : lw_okq (⟨"MovesUp", "likeliest", "(I)I"⟩, 15) := ⟨⟨by decide +kernel, by decide +kernel⟩, List.mem_of_getElem? (i := 18) rfl, List.mem_of_getElem? (i := 621) rfl, List.mem_of_getElem? (i := 622) rfl⟩
set_option maxRecDepth 100000 in
theorem lw_p47 : lw_okq (⟨"MovesUp$Pupil", "takes", "([J)Z"⟩, 7) := ⟨⟨by decide +kernel, by decide +kernel⟩, List.mem_of_getElem? (i := 353) rfl, List.mem_of_getElem? (i := 630) rfl, List.mem_of_getElem? (i := 631) rfl⟩
def lw_privs_3 : List (MethodName × Nat) := [(⟨"MovesUp$Course", "settle", "(II)V"⟩, 7), (⟨"MovesUp$Course", "weightsAt", "(I)[J"⟩, 7), (⟨"MovesUp$Course", "together", "(I)J"⟩, 7), (⟨"MovesUp$Course", "classThen", "(I)I"⟩, 7), (⟨"MovesUp$Course", "movedThen", "(I)I"⟩, 7), (⟨"MovesUp$Course", "fit", "(I)J"⟩, 7), (⟨"MovesUp$Course", "ends", "(I)J"⟩, 7), (⟨"MovesUp$Course", "endsNow", "()J"⟩, 7), (⟨"MovesUp$Course", "rights", "(I)J"⟩, 7), (⟨"MovesUp$Course", "best", "(I)J"⟩, 7), (⟨"MovesUp$Course", "bestMove", "(I)J"⟩, 7), (⟨"MovesUp", "endsBy", "(LMovesUp$Pupil;III)J"⟩, 15), (⟨"MovesUp", "laid", "(I)LMovesUp$Row;"⟩, 15), (⟨"MovesUp$Course", "share", "(I)J"⟩, 7), (⟨"MovesUp", "likeliest", "(I)I"⟩, 15), (⟨"MovesUp$Pupil", "takes", "([J)Z"⟩, 7)]
theorem lw_r3 : ∀ q ∈ lw_privs_3, lw_okq q := List.forall_mem_cons.mpr ⟨lw_p32, List.forall_mem_cons.mpr ⟨lw_p33, List.forall_mem_cons.mpr ⟨lw_p34, List.forall_mem_cons.mpr ⟨lw_p35, List.forall_mem_cons.mpr ⟨lw_p36, List.forall_mem_cons.mpr ⟨lw_p37, List.forall_mem_cons.mpr ⟨lw_p38, List.forall_mem_cons.mpr ⟨lw_p39, List.forall_mem_cons.mpr ⟨lw_p40, List.forall_mem_cons.mpr ⟨lw_p41, List.forall_mem_cons.mpr ⟨lw_p42, List.forall_mem_cons.mpr ⟨lw_p43, List.forall_mem_cons.mpr ⟨lw_p44, List.forall_mem_cons.mpr ⟨lw_p45, List.forall_mem_cons.mpr ⟨lw_p46, List.forall_mem_cons.mpr ⟨lw_p47, fun _ h => absurd h List.not_mem_nil⟩⟩⟩⟩⟩⟩⟩⟩⟩⟩⟩⟩⟩⟩⟩⟩
set_option maxRecDepth 100000 in
theorem lw_p48 : lw_okq (⟨"MovesUp$Row", "within", "(I)Z"⟩, 3) := ⟨⟨by decide +kernel, by decide +kernel⟩, List.mem_of_getElem? (i := 126) rfl, List.mem_of_getElem? (i := 644) rfl, List.mem_of_getElem? (i := 645) rfl⟩
set_option maxRecDepth 100000 in
theorem lw_p49 : lw_okq (⟨"MovesUp$Row", "squares", "(I)I"⟩, 3) := ⟨⟨by decide +kernel, by decide +kernel⟩, List.mem_of_getElem? (i := 126) rfl, List.mem_of_getElem? (i := 652) rfl, List.mem_of_getElem? (i := 653) rfl⟩
set_option maxRecDepth 100000 in
theorem lw_p50 : lw_okq (⟨"MovesUp$Pupil", "keep", "()V"⟩, 7) := ⟨⟨by decide +kernel, by decide +kernel⟩, List.mem_of_getElem? (i := 353) rfl, List.mem_of_getElem? (i := 660) rfl, List.mem_of_getElem? (i := 661) rfl⟩
set_option maxRecDepth 100000 in
theorem lw_p51 : lw_okq (⟨"MovesUp$Pupil", "lay", "()V"⟩, 7) := ⟨⟨by decide +kernel, by decide +kernel⟩, List.mem_of_getElem? (i := 353) rfl, List.mem_of_getElem? (i := 669) rfl, List.mem_of_getElem? (i := 670) rfl⟩
set_option maxRecDepth 100000 in
theorem lw_p52 : lw_okq (⟨"MovesUp", "allWeights", "()I"⟩, 15) := ⟨⟨by decide +kernel, by decide +kernel⟩, List.mem_of_getElem? (i := 18) rfl, List.mem_of_getElem? (i := 677) rfl, List.mem_of_getElem? (i := 678) rfl⟩
set_option maxRecDepth 100000 in
theorem lw_p53 : lw_okq (⟨"MovesUp", "allClasses", "()I"⟩, 15) := ⟨⟨by decide +kernel, by decide +kernel⟩, List.mem_of_getElem? (i := 18) rfl, List.mem_of_getElem? (i := 681) rfl, List.mem_of_getElem? (i := 682) rfl⟩
set_option maxRecDepth 100000 in
theorem lw_p54 : lw_okq (⟨"MovesUp$Row", "becomes", "(II)V"⟩, 3) := ⟨⟨by decide +kernel, by decide +kernel⟩, List.mem_of_getElem? (i := 126) rfl, List.mem_of_getElem? (i := 689) rfl, List.mem_of_getElem? (i := 690) rfl⟩
set_option maxRecDepth 100000 in
theorem lw_p55 : lw_okq (⟨"MovesUp$Row", "cutDown", "(I)I"⟩, 3) := ⟨⟨by decide +kernel, by decide +kernel⟩, List.mem_of_getElem? (i := 126) rfl, List.mem_of_getElem? (i := 700) rfl, List.mem_of_getElem? (i := 701) rfl⟩
set_option maxRecDepth 100000 in
theorem lw_p56 : lw_okq (⟨"MovesUpModel", "isNew", "(II)Z"⟩, 47) := ⟨⟨by decide +kernel, by decide +kernel⟩, List.mem_of_getElem? (i := 729) rfl, List.mem_of_getElem? (i := 727) rfl, List.mem_of_getElem? (i := 728) rfl⟩
set_option maxRecDepth 100000 in
theorem lw_p57 : lw_okq (⟨"MovesUpModel", "in", "(III)Z"⟩, 47) := ⟨⟨by decide +kernel, by decide +kernel⟩, List.mem_of_getElem? (i := 729) rfl, List.mem_of_getElem? (i := 732) rfl, List.mem_of_getElem? (i := 733) rfl⟩
set_option maxRecDepth 100000 in
theorem lw_p58 : lw_okq (⟨"MovesUpModel", "comes", "(II)V"⟩, 47) := ⟨⟨by decide +kernel, by decide +kernel⟩, List.mem_of_getElem? (i := 729) rfl, List.mem_of_getElem? (i := 736) rfl, List.mem_of_getElem? (i := 737) rfl⟩
set_option maxRecDepth 100000 in
theorem lw_p59 : lw_okq (⟨"MovesUpModel", "isPupil", "(I)Z"⟩, 47) := ⟨⟨by decide +kernel, by decide +kernel⟩, List.mem_of_getElem? (i := 729) rfl, List.mem_of_getElem? (i := 744) rfl, List.mem_of_getElem? (i := 745) rfl⟩
set_option maxRecDepth 100000 in
theorem lw_p60 : lw_okq (⟨"MovesUpModel", "sumOf", "(I)I"⟩, 47) := ⟨⟨by decide +kernel, by decide +kernel⟩, List.mem_of_getElem? (i := 729) rfl, List.mem_of_getElem? (i := 749) rfl, List.mem_of_getElem? (i := 750) rfl⟩
set_option maxRecDepth 100000 in
theorem lw_p61 : lw_okq (⟨"MovesUpModel", "put", "(II)V"⟩, 47) := ⟨⟨by decide +kernel, by decide +kernel⟩, List.mem_of_getElem? (i := 729) rfl, List.mem_of_getElem? (i := 762) rfl, List.mem_of_getElem? (i := 763) rfl⟩
set_option maxRecDepth 100000 in
theorem lw_p62 : lw_okq (⟨"MovesUpModel", "look", "()V"⟩, 47) := ⟨⟨by decide +kernel, by decide +kernel⟩, List.mem_of_getElem? (i := 729) rfl, List.mem_of_getElem? (i := 918) rfl, List.mem_of_getElem? (i := 919) rfl⟩
set_option maxRecDepth 100000 in
theorem lw_p63 : lw_okq (⟨"MovesUpModel", "byteAt", "(I)I"⟩, 47) := ⟨⟨by decide +kernel, by decide +kernel⟩, List.mem_of_getElem? (i := 729) rfl, List.mem_of_getElem? (i := 922) rfl, List.mem_of_getElem? (i := 923) rfl⟩
def lw_privs_4 : List (MethodName × Nat) := [(⟨"MovesUp$Row", "within", "(I)Z"⟩, 3), (⟨"MovesUp$Row", "squares", "(I)I"⟩, 3), (⟨"MovesUp$Pupil", "keep", "()V"⟩, 7), (⟨"MovesUp$Pupil", "lay", "()V"⟩, 7), (⟨"MovesUp", "allWeights", "()I"⟩, 15), (⟨"MovesUp", "allClasses", "()I"⟩, 15), (⟨"MovesUp$Row", "becomes", "(II)V"⟩, 3), (⟨"MovesUp$Row", "cutDown", "(I)I"⟩, 3), (⟨"MovesUpModel", "isNew", "(II)Z"⟩, 47), (⟨"MovesUpModel", "in", "(III)Z"⟩, 47), (⟨"MovesUpModel", "comes", "(II)V"⟩, 47), (⟨"MovesUpModel", "isPupil", "(I)Z"⟩, 47), (⟨"MovesUpModel", "sumOf", "(I)I"⟩, 47), (⟨"MovesUpModel", "put", "(II)V"⟩, 47), (⟨"MovesUpModel", "look", "()V"⟩, 47), (⟨"MovesUpModel", "byteAt", "(I)I"⟩, 47)]
theorem lw_r4 : ∀ q ∈ lw_privs_4, lw_okq q := List.forall_mem_cons.mpr ⟨lw_p48, List.forall_mem_cons.mpr ⟨lw_p49, List.forall_mem_cons.mpr ⟨lw_p50, List.forall_mem_cons.mpr ⟨lw_p51, List.forall_mem_cons.mpr ⟨lw_p52, List.forall_mem_cons.mpr ⟨lw_p53, List.forall_mem_cons.mpr ⟨lw_p54, List.forall_mem_cons.mpr ⟨lw_p55, List.forall_mem_cons.mpr ⟨lw_p56, List.forall_mem_cons.mpr ⟨lw_p57, List.forall_mem_cons.mpr ⟨lw_p58, List.forall_mem_cons.mpr ⟨lw_p59, List.forall_mem_cons.mpr ⟨lw_p60, List.forall_mem_cons.mpr ⟨lw_p61, List.forall_mem_cons.mpr ⟨lw_p62, List.forall_mem_cons.mpr ⟨lw_p63, fun _ h => absurd h List.not_mem_nil⟩⟩⟩⟩⟩⟩⟩⟩⟩⟩⟩⟩⟩⟩⟩⟩
set_option maxRecDepth 100000 in
theorem lw_p64 : lw_okq (⟨"MovesUpModel", "isDigit", "(I)Z"⟩, 47) := ⟨⟨by decide +kernel, by decide +kernel⟩, List.mem_of_getElem? (i := 729) rfl, List.mem_of_getElem? (i := 926) rfl, List.mem_of_getElem? (i := 927) rfl⟩
set_option maxRecDepth 100000 in
theorem lw_p65 : lw_okq (⟨"MovesUpModel", "isLetter", "(I)Z"⟩, 47) := ⟨⟨by decide +kernel, by decide +kernel⟩, List.mem_of_getElem? (i := 729) rfl, List.mem_of_getElem? (i := 930) rfl, List.mem_of_getElem? (i := 931) rfl⟩
set_option maxRecDepth 100000 in
theorem lw_p66 : lw_okq (⟨"MovesUpModel", "nameOf", "(I)I"⟩, 47) := ⟨⟨by decide +kernel, by decide +kernel⟩, List.mem_of_getElem? (i := 729) rfl, List.mem_of_getElem? (i := 934) rfl, List.mem_of_getElem? (i := 935) rfl⟩
set_option maxRecDepth 100000 in
theorem lw_p67 : lw_okq (⟨"MovesUpModel", "isKey", "(I)Z"⟩, 47) := ⟨⟨by decide +kernel, by decide +kernel⟩, List.mem_of_getElem? (i := 729) rfl, List.mem_of_getElem? (i := 944) rfl, List.mem_of_getElem? (i := 945) rfl⟩
set_option maxRecDepth 100000 in
theorem lw_p68 : lw_okq (⟨"MovesUpModel", "takesPart", "(III)Z"⟩, 47) := ⟨⟨by decide +kernel, by decide +kernel⟩, List.mem_of_getElem? (i := 729) rfl, List.mem_of_getElem? (i := 950) rfl, List.mem_of_getElem? (i := 951) rfl⟩
set_option maxRecDepth 100000 in
theorem lw_p69 : lw_okq (⟨"MovesUpModel", "isWord", "(I)Z"⟩, 47) := ⟨⟨by decide +kernel, by decide +kernel⟩, List.mem_of_getElem? (i := 729) rfl, List.mem_of_getElem? (i := 954) rfl, List.mem_of_getElem? (i := 955) rfl⟩
set_option maxRecDepth 100000 in
theorem lw_p70 : lw_okq (⟨"MovesUpModel", "goOn", "()V"⟩, 47) := ⟨⟨by decide +kernel, by decide +kernel⟩, List.mem_of_getElem? (i := 729) rfl, List.mem_of_getElem? (i := 958) rfl, List.mem_of_getElem? (i := 959) rfl⟩
set_option maxRecDepth 100000 in
theorem lw_p71 : lw_okq (⟨"MovesUpModel", "takesE", "(I)Z"⟩, 47) := ⟨⟨by decide +kernel, by decide +kernel⟩, List.mem_of_getElem? (i := 729) rfl, List.mem_of_getElem? (i := 962) rfl, List.mem_of_getElem? (i := 963) rfl⟩
set_option maxRecDepth 100000 in
theorem lw_p72 : lw_okq (⟨"MovesUpModel", "settle", "(I)V"⟩, 47) := ⟨⟨by decide +kernel, by decide +kernel⟩, List.mem_of_getElem? (i := 729) rfl, List.mem_of_getElem? (i := 966) rfl, List.mem_of_getElem? (i := 967) rfl⟩
set_option maxRecDepth 100000 in
theorem lw_p73 : lw_okq (⟨"MovesUpModel", "top", "()I"⟩, 47) := ⟨⟨by decide +kernel, by decide +kernel⟩, List.mem_of_getElem? (i := 729) rfl, List.mem_of_getElem? (i := 970) rfl, List.mem_of_getElem? (i := 971) rfl⟩
set_option maxRecDepth 100000 in
theorem lw_p74 : lw_okq (⟨"MovesUpModel", "strength", "(I)I"⟩, 47) := ⟨⟨by decide +kernel, by decide +kernel⟩, List.mem_of_getElem? (i := 729) rfl, List.mem_of_getElem? (i := 974) rfl, List.mem_of_getElem? (i := 975) rfl⟩
set_option maxRecDepth 100000 in
theorem lw_p75 : lw_okq (⟨"MovesUpModel", "takesOne", "(Z)I"⟩, 47) := ⟨⟨by decide +kernel, by decide +kernel⟩, List.mem_of_getElem? (i := 729) rfl, List.mem_of_getElem? (i := 978) rfl, List.mem_of_getElem? (i := 979) rfl⟩
set_option maxRecDepth 100000 in
theorem lw_p76 : lw_okq (⟨"MovesUpModel", "opens", "(I)Z"⟩, 47) := ⟨⟨by decide +kernel, by decide +kernel⟩, List.mem_of_getElem? (i := 729) rfl, List.mem_of_getElem? (i := 982) rfl, List.mem_of_getElem? (i := 983) rfl⟩
set_option maxRecDepth 100000 in
theorem lw_p77 : lw_okq (⟨"MovesUpModel", "pushSign", "(I)V"⟩, 47) := ⟨⟨by decide +kernel, by decide +kernel⟩, List.mem_of_getElem? (i := 729) rfl, List.mem_of_getElem? (i := 986) rfl, List.mem_of_getElem? (i := 987) rfl⟩
set_option maxRecDepth 100000 in
theorem lw_p78 : lw_okq (⟨"MovesUpModel", "takesSign", "()I"⟩, 47) := ⟨⟨by decide +kernel, by decide +kernel⟩, List.mem_of_getElem? (i := 729) rfl, List.mem_of_getElem? (i := 990) rfl, List.mem_of_getElem? (i := 991) rfl⟩
set_option maxRecDepth 100000 in
theorem lw_p79 : lw_okq (⟨"MovesUpModel", "bounded", "(IIIIII)I"⟩, 47) := ⟨⟨by decide +kernel, by decide +kernel⟩, List.mem_of_getElem? (i := 729) rfl, List.mem_of_getElem? (i := 1002) rfl, List.mem_of_getElem? (i := 1003) rfl⟩
def lw_privs_5 : List (MethodName × Nat) := [(⟨"MovesUpModel", "isDigit", "(I)Z"⟩, 47), (⟨"MovesUpModel", "isLetter", "(I)Z"⟩, 47), (⟨"MovesUpModel", "nameOf", "(I)I"⟩, 47), (⟨"MovesUpModel", "isKey", "(I)Z"⟩, 47), (⟨"MovesUpModel", "takesPart", "(III)Z"⟩, 47), (⟨"MovesUpModel", "isWord", "(I)Z"⟩, 47), (⟨"MovesUpModel", "goOn", "()V"⟩, 47), (⟨"MovesUpModel", "takesE", "(I)Z"⟩, 47), (⟨"MovesUpModel", "settle", "(I)V"⟩, 47), (⟨"MovesUpModel", "top", "()I"⟩, 47), (⟨"MovesUpModel", "strength", "(I)I"⟩, 47), (⟨"MovesUpModel", "takesOne", "(Z)I"⟩, 47), (⟨"MovesUpModel", "opens", "(I)Z"⟩, 47), (⟨"MovesUpModel", "pushSign", "(I)V"⟩, 47), (⟨"MovesUpModel", "takesSign", "()I"⟩, 47), (⟨"MovesUpModel", "bounded", "(IIIIII)I"⟩, 47)]
theorem lw_r5 : ∀ q ∈ lw_privs_5, lw_okq q := List.forall_mem_cons.mpr ⟨lw_p64, List.forall_mem_cons.mpr ⟨lw_p65, List.forall_mem_cons.mpr ⟨lw_p66, List.forall_mem_cons.mpr ⟨lw_p67, List.forall_mem_cons.mpr ⟨lw_p68, List.forall_mem_cons.mpr ⟨lw_p69, List.forall_mem_cons.mpr ⟨lw_p70, List.forall_mem_cons.mpr ⟨lw_p71, List.forall_mem_cons.mpr ⟨lw_p72, List.forall_mem_cons.mpr ⟨lw_p73, List.forall_mem_cons.mpr ⟨lw_p74, List.forall_mem_cons.mpr ⟨lw_p75, List.forall_mem_cons.mpr ⟨lw_p76, List.forall_mem_cons.mpr ⟨lw_p77, List.forall_mem_cons.mpr ⟨lw_p78, List.forall_mem_cons.mpr ⟨lw_p79, fun _ h => absurd h List.not_mem_nil⟩⟩⟩⟩⟩⟩⟩⟩⟩⟩⟩⟩⟩⟩⟩⟩
set_option maxRecDepth 100000 in
theorem lw_p80 : lw_okq (⟨"MovesUpModel", "tellsRule", "(I)I"⟩, 47) := ⟨⟨by decide +kernel, by decide +kernel⟩, List.mem_of_getElem? (i := 729) rfl, List.mem_of_getElem? (i := 1006) rfl, List.mem_of_getElem? (i := 1007) rfl⟩
set_option maxRecDepth 100000 in
theorem lw_p81 : lw_okq (⟨"MovesUpModel", "done", "(III)I"⟩, 47) := ⟨⟨by decide +kernel, by decide +kernel⟩, List.mem_of_getElem? (i := 729) rfl, List.mem_of_getElem? (i := 1010) rfl, List.mem_of_getElem? (i := 1011) rfl⟩
set_option maxRecDepth 100000 in
theorem lw_p82 : lw_okq (⟨"MovesUpModel", "areMarks", "(I)Z"⟩, 47) := ⟨⟨by decide +kernel, by decide +kernel⟩, List.mem_of_getElem? (i := 729) rfl, List.mem_of_getElem? (i := 1018) rfl, List.mem_of_getElem? (i := 1019) rfl⟩
set_option maxRecDepth 100000 in
theorem lw_p83 : lw_okq (⟨"MovesUpModel", "goMarks", "(II)V"⟩, 47) := ⟨⟨by decide +kernel, by decide +kernel⟩, List.mem_of_getElem? (i := 729) rfl, List.mem_of_getElem? (i := 1023) rfl, List.mem_of_getElem? (i := 1024) rfl⟩
set_option maxRecDepth 100000 in
theorem lw_p84 : lw_okq (⟨"MovesUpModel", "layRule", "(I)V"⟩, 47) := ⟨⟨by decide +kernel, by decide +kernel⟩, List.mem_of_getElem? (i := 729) rfl, List.mem_of_getElem? (i := 1027) rfl, List.mem_of_getElem? (i := 1028) rfl⟩
set_option maxRecDepth 100000 in
theorem lw_p85 : lw_okq (⟨"MovesUpModel", "go", "(IIIIII)V"⟩, 47) := ⟨⟨by decide +kernel, by decide +kernel⟩, List.mem_of_getElem? (i := 729) rfl, List.mem_of_getElem? (i := 1031) rfl, List.mem_of_getElem? (i := 1032) rfl⟩
set_option maxRecDepth 100000 in
theorem lw_p86 : lw_okq (⟨"MovesUpModel", "begin", "(II)V"⟩, 47) := ⟨⟨by decide +kernel, by decide +kernel⟩, List.mem_of_getElem? (i := 729) rfl, List.mem_of_getElem? (i := 1035) rfl, List.mem_of_getElem? (i := 1036) rfl⟩
set_option maxRecDepth 100000 in
theorem lw_p87 : lw_okq (⟨"MovesUpModel", "goWeek", "(II)V"⟩, 47) := ⟨⟨by decide +kernel, by decide +kernel⟩, List.mem_of_getElem? (i := 729) rfl, List.mem_of_getElem? (i := 1039) rfl, List.mem_of_getElem? (i := 1040) rfl⟩
set_option maxRecDepth 100000 in
theorem lw_p88 : lw_okq (⟨"MovesUpModel", "moveOf", "(IIII)I"⟩, 47) := ⟨⟨by decide +kernel, by decide +kernel⟩, List.mem_of_getElem? (i := 729) rfl, List.mem_of_getElem? (i := 1043) rfl, List.mem_of_getElem? (i := 1044) rfl⟩
set_option maxRecDepth 100000 in
theorem lw_p89 : lw_okq (⟨"MovesUpModel", "sumRow", "(I)J"⟩, 47) := ⟨⟨by decide +kernel, by decide +kernel⟩, List.mem_of_getElem? (i := 729) rfl, List.mem_of_getElem? (i := 1047) rfl, List.mem_of_getElem? (i := 1048) rfl⟩
set_option maxRecDepth 100000 in
theorem lw_p90 : lw_okq (⟨"MovesUpModel", "sumFrom", "(II)J"⟩, 47) := ⟨⟨by decide +kernel, by decide +kernel⟩, List.mem_of_getElem? (i := 729) rfl, List.mem_of_getElem? (i := 1051) rfl, List.mem_of_getElem? (i := 1052) rfl⟩
set_option maxRecDepth 100000 in
theorem lw_p91 : lw_okq (⟨"MovesUpModel", "move", "(II)V"⟩, 47) := ⟨⟨by decide +kernel, by decide +kernel⟩, List.mem_of_getElem? (i := 729) rfl, List.mem_of_getElem? (i := 1057) rfl, List.mem_of_getElem? (i := 1058) rfl⟩
set_option maxRecDepth 100000 in
theorem lw_p92 : lw_okq (⟨"MovesUpModel", "held", "(I)I"⟩, 47) := ⟨⟨by decide +kernel, by decide +kernel⟩, List.mem_of_getElem? (i := 729) rfl, List.mem_of_getElem? (i := 1061) rfl, List.mem_of_getElem? (i := 1062) rfl⟩
set_option maxRecDepth 100000 in
theorem lw_p93 : lw_okq (⟨"MovesUpModel", "lowest", "(JJI)J"⟩, 47) := ⟨⟨by decide +kernel, by decide +kernel⟩, List.mem_of_getElem? (i := 729) rfl, List.mem_of_getElem? (i := 1065) rfl, List.mem_of_getElem? (i := 1066) rfl⟩
set_option maxRecDepth 100000 in
theorem lw_p94 : lw_okq (⟨"MovesUpModel", "divisor", "(JJ)J"⟩, 47) := ⟨⟨by decide +kernel, by decide +kernel⟩, List.mem_of_getElem? (i := 729) rfl, List.mem_of_getElem? (i := 1069) rfl, List.mem_of_getElem? (i := 1070) rfl⟩
set_option maxRecDepth 100000 in
theorem lw_p95 : lw_okq (⟨"MovesUpModel", "hundreds", "(I)J"⟩, 47) := ⟨⟨by decide +kernel, by decide +kernel⟩, List.mem_of_getElem? (i := 729) rfl, List.mem_of_getElem? (i := 1081) rfl, List.mem_of_getElem? (i := 1082) rfl⟩
def lw_privs_6 : List (MethodName × Nat) := [(⟨"MovesUpModel", "tellsRule", "(I)I"⟩, 47), (⟨"MovesUpModel", "done", "(III)I"⟩, 47), (⟨"MovesUpModel", "areMarks", "(I)Z"⟩, 47), (⟨"MovesUpModel", "goMarks", "(II)V"⟩, 47), (⟨"MovesUpModel", "layRule", "(I)V"⟩, 47), (⟨"MovesUpModel", "go", "(IIIIII)V"⟩, 47), (⟨"MovesUpModel", "begin", "(II)V"⟩, 47), (⟨"MovesUpModel", "goWeek", "(II)V"⟩, 47), (⟨"MovesUpModel", "moveOf", "(IIII)I"⟩, 47), (⟨"MovesUpModel", "sumRow", "(I)J"⟩, 47), (⟨"MovesUpModel", "sumFrom", "(II)J"⟩, 47), (⟨"MovesUpModel", "move", "(II)V"⟩, 47), (⟨"MovesUpModel", "held", "(I)I"⟩, 47), (⟨"MovesUpModel", "lowest", "(JJI)J"⟩, 47), (⟨"MovesUpModel", "divisor", "(JJ)J"⟩, 47), (⟨"MovesUpModel", "hundreds", "(I)J"⟩, 47)]
theorem lw_r6 : ∀ q ∈ lw_privs_6, lw_okq q := List.forall_mem_cons.mpr ⟨lw_p80, List.forall_mem_cons.mpr ⟨lw_p81, List.forall_mem_cons.mpr ⟨lw_p82, List.forall_mem_cons.mpr ⟨lw_p83, List.forall_mem_cons.mpr ⟨lw_p84, List.forall_mem_cons.mpr ⟨lw_p85, List.forall_mem_cons.mpr ⟨lw_p86, List.forall_mem_cons.mpr ⟨lw_p87, List.forall_mem_cons.mpr ⟨lw_p88, List.forall_mem_cons.mpr ⟨lw_p89, List.forall_mem_cons.mpr ⟨lw_p90, List.forall_mem_cons.mpr ⟨lw_p91, List.forall_mem_cons.mpr ⟨lw_p92, List.forall_mem_cons.mpr ⟨lw_p93, List.forall_mem_cons.mpr ⟨lw_p94, List.forall_mem_cons.mpr ⟨lw_p95, fun _ h => absurd h List.not_mem_nil⟩⟩⟩⟩⟩⟩⟩⟩⟩⟩⟩⟩⟩⟩⟩⟩
set_option maxRecDepth 100000 in
theorem lw_p96 : lw_okq (⟨"MovesUpModel", "meanOf", "(IIII)J"⟩, 47) := ⟨⟨by decide +kernel, by decide +kernel⟩, List.mem_of_getElem? (i := 729) rfl, List.mem_of_getElem? (i := 1090) rfl, List.mem_of_getElem? (i := 1091) rfl⟩
set_option maxRecDepth 100000 in
theorem lw_p97 : lw_okq (⟨"MovesUpModel", "ending", "()J"⟩, 47) := ⟨⟨by decide +kernel, by decide +kernel⟩, List.mem_of_getElem? (i := 729) rfl, List.mem_of_getElem? (i := 1094) rfl, List.mem_of_getElem? (i := 1095) rfl⟩
set_option maxRecDepth 100000 in
theorem lw_p98 : lw_okq (⟨"MovesUpModel", "bestOf", "(I)J"⟩, 47) := ⟨⟨by decide +kernel, by decide +kernel⟩, List.mem_of_getElem? (i := 729) rfl, List.mem_of_getElem? (i := 1098) rfl, List.mem_of_getElem? (i := 1099) rfl⟩
set_option maxRecDepth 100000 in
theorem lw_p99 : lw_okq (⟨"MovesUpModel", "enter", "(I)V"⟩, 47) := ⟨⟨by decide +kernel, by decide +kernel⟩, List.mem_of_getElem? (i := 729) rfl, List.mem_of_getElem? (i := 1102) rfl, List.mem_of_getElem? (i := 1103) rfl⟩
set_option maxRecDepth 100000 in
theorem lw_p100 : lw_okq (⟨"MovesUpModel", "allOf", "(I)J"⟩, 47) := ⟨⟨by decide +kernel, by decide +kernel⟩, List.mem_of_getElem? (i := 729) rfl, List.mem_of_getElem? (i := 1107) rfl, List.mem_of_getElem? (i := 1108) rfl⟩
set_option maxRecDepth 100000 in
theorem lw_p101 : lw_okq (⟨"MovesUpModel", "isSheet", "(I)Z"⟩, 47) := ⟨⟨by decide +kernel, by decide +kernel⟩, List.mem_of_getElem? (i := 729) rfl, List.mem_of_getElem? (i := 1123) rfl, List.mem_of_getElem? (i := 1124) rfl⟩
set_option maxRecDepth 100000 in
theorem lw_p102 : lw_okq (⟨"MovesUpModel", "becomes", "(I)Z"⟩, 47) := ⟨⟨by decide +kernel, by decide +kernel⟩, List.mem_of_getElem? (i := 729) rfl, List.mem_of_getElem? (i := 1132) rfl, List.mem_of_getElem? (i := 1133) rfl⟩
def lw_privs_7 : List (MethodName × Nat) := [(⟨"MovesUpModel", "meanOf", "(IIII)J"⟩, 47), (⟨"MovesUpModel", "ending", "()J"⟩, 47), (⟨"MovesUpModel", "bestOf", "(I)J"⟩, 47), (⟨"MovesUpModel", "enter", "(I)V"⟩, 47), (⟨"MovesUpModel", "allOf", "(I)J"⟩, 47), (⟨"MovesUpModel", "isSheet", "(I)Z"⟩, 47), (⟨"MovesUpModel", "becomes", "(I)Z"⟩, 47)]
theorem lw_r7 : ∀ q ∈ lw_privs_7, lw_okq q := List.forall_mem_cons.mpr ⟨lw_p96, List.forall_mem_cons.mpr ⟨lw_p97, List.forall_mem_cons.mpr ⟨lw_p98, List.forall_mem_cons.mpr ⟨lw_p99, List.forall_mem_cons.mpr ⟨lw_p100, List.forall_mem_cons.mpr ⟨lw_p101, List.forall_mem_cons.mpr ⟨lw_p102, fun _ h => absurd h List.not_mem_nil⟩⟩⟩⟩⟩⟩⟩
def lw_privs : List (MethodName × Nat) := lw_privs_1 ++ (lw_privs_2 ++ (lw_privs_3 ++ (lw_privs_4 ++ (lw_privs_5 ++ (lw_privs_6 ++ (lw_privs_7))))))
def lw_tbl : List Cond := k2_sels lw_privs ++ tables_1
set_option maxRecDepth 100000 in
theorem lw_privs_ok : ∀ q ∈ lw_privs, lw_okq q := by
  show ∀ q ∈ lw_privs_1 ++ (lw_privs_2 ++ (lw_privs_3 ++ (lw_privs_4 ++ (lw_privs_5 ++ (lw_privs_6 ++ (lw_privs_7)))))), lw_okq q
  exact List.forall_mem_append.mpr ⟨lw_r1, List.forall_mem_append.mpr ⟨lw_r2, List.forall_mem_append.mpr ⟨lw_r3, List.forall_mem_append.mpr ⟨lw_r4, List.forall_mem_append.mpr ⟨lw_r5, List.forall_mem_append.mpr ⟨lw_r6, lw_r7⟩⟩⟩⟩⟩⟩
-- ===== end of PART A; then your names; then what follows =====
