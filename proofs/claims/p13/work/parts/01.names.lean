-- ===== PART A: goes FIRST, ahead of the names: the tables' words, and 'selects' of the private methods out of them =====
/-- a private method of a class that the tables say can be made, by its rows of tables_1 -/
def lw_okq (q : MethodName × Nat) : Prop := (q.1.cls ≠ "java/lang/invoke/MethodHandle" ∧ q.1.cls ≠ "java/lang/invoke/VarHandle") ∧ Cond.instantiable q.1.cls q.2 ∈ tables_1 ∧ Cond.privateMethod q.1 ∈ tables_1 ∧ Cond.instanceMethod q.1 ∈ tables_1
theorem lw_p0 : lw_okq (⟨"BlameCourt$Kinds", "findOrAdd", "(II[IIII)I"⟩, 8) := ⟨⟨by decide +kernel, by decide +kernel⟩, List.mem_of_getElem? (i := 29) (by decide +kernel), List.mem_of_getElem? (i := 38) (by decide +kernel), List.mem_of_getElem? (i := 39) (by decide +kernel)⟩
theorem lw_p1 : lw_okq (⟨"BlameCourt$Kinds", "isSame", "(II[III)Z"⟩, 8) := ⟨⟨by decide +kernel, by decide +kernel⟩, List.mem_of_getElem? (i := 29) (by decide +kernel), List.mem_of_getElem? (i := 45) (by decide +kernel), List.mem_of_getElem? (i := 46) (by decide +kernel)⟩
theorem lw_p2 : lw_okq (⟨"BlameCourt", "putFou\x72", "(I)V"⟩, 13) := ⟨⟨by decide +kernel, by decide +kernel⟩, List.mem_of_getElem? (i := 15) (by decide +kernel), List.mem_of_getElem? (i := 538) (by decide +kernel), List.mem_of_getElem? (i := 539) (by decide +kernel)⟩
theorem lw_p3 : lw_okq (⟨"BlameCourt$Tokens", "byteAt", "(I)I"⟩, 8) := ⟨⟨by decide +kernel, by decide +kernel⟩, List.mem_of_getElem? (i := 195) (by decide +kernel), List.mem_of_getElem? (i := 581) (by decide +kernel), List.mem_of_getElem? (i := 582) (by decide +kernel)⟩
theorem lw_p4 : lw_okq (⟨"BlameCourt$Tokens", "takeWord", "()V"⟩, 8) := ⟨⟨by decide +kernel, by decide +kernel⟩, List.mem_of_getElem? (i := 195) (by decide +kernel), List.mem_of_getElem? (i := 588) (by decide +kernel), List.mem_of_getElem? (i := 589) (by decide +kernel)⟩
theorem lw_p5 : lw_okq (⟨"BlameCourt$Tokens", "wordType", "()I"⟩, 8) := ⟨⟨by decide +kernel, by decide +kernel⟩, List.mem_of_getElem? (i := 195) (by decide +kernel), List.mem_of_getElem? (i := 592) (by decide +kernel), List.mem_of_getElem? (i := 593) (by decide +kernel)⟩
theorem lw_p6 : lw_okq (⟨"BlameCourt$Tokens", "takeNumbe\x72", "()V"⟩, 8) := ⟨⟨by decide +kernel, by decide +kernel⟩, List.mem_of_getElem? (i := 195) (by decide +kernel), List.mem_of_getElem? (i := 601) (by decide +kernel), List.mem_of_getElem? (i := 602) (by decide +kernel)⟩
theorem lw_p7 : lw_okq (⟨"BlameCourt$Tokens", "takeSign", "(I)V"⟩, 8) := ⟨⟨by decide +kernel, by decide +kernel⟩, List.mem_of_getElem? (i := 195) (by decide +kernel), List.mem_of_getElem? (i := 608) (by decide +kernel), List.mem_of_getElem? (i := 609) (by decide +kernel)⟩
theorem lw_p8 : lw_okq (⟨"BlameCourt$Reade\x72", "refuse", "(I)V"⟩, 14) := ⟨⟨by decide +kernel, by decide +kernel⟩, List.mem_of_getElem? (i := 189) (by decide +kernel), List.mem_of_getElem? (i := 615) (by decide +kernel), List.mem_of_getElem? (i := 616) (by decide +kernel)⟩
theorem lw_p9 : lw_okq (⟨"BlameCourt$Reade\x72", "refuseAt", "(II)V"⟩, 14) := ⟨⟨by decide +kernel, by decide +kernel⟩, List.mem_of_getElem? (i := 189) (by decide +kernel), List.mem_of_getElem? (i := 619) (by decide +kernel), List.mem_of_getElem? (i := 620) (by decide +kernel)⟩
theorem lw_p10 : lw_okq (⟨"BlameCourt$Reade\x72", "takePartName", "(I)V"⟩, 14) := ⟨⟨by decide +kernel, by decide +kernel⟩, List.mem_of_getElem? (i := 189) (by decide +kernel), List.mem_of_getElem? (i := 627) (by decide +kernel), List.mem_of_getElem? (i := 628) (by decide +kernel)⟩
theorem lw_p11 : lw_okq (⟨"BlameCourt$Reade\x72", "want", "(I)V"⟩, 14) := ⟨⟨by decide +kernel, by decide +kernel⟩, List.mem_of_getElem? (i := 189) (by decide +kernel), List.mem_of_getElem? (i := 632) (by decide +kernel), List.mem_of_getElem? (i := 633) (by decide +kernel)⟩
theorem lw_p12 : lw_okq (⟨"BlameCourt$Reade\x72", "takeParams", "(I)V"⟩, 14) := ⟨⟨by decide +kernel, by decide +kernel⟩, List.mem_of_getElem? (i := 189) (by decide +kernel), List.mem_of_getElem? (i := 636) (by decide +kernel), List.mem_of_getElem? (i := 637) (by decide +kernel)⟩
theorem lw_p13 : lw_okq (⟨"BlameCourt$Reade\x72", "ente\x72", "(I)V"⟩, 14) := ⟨⟨by decide +kernel, by decide +kernel⟩, List.mem_of_getElem? (i := 189) (by decide +kernel), List.mem_of_getElem? (i := 640) (by decide +kernel), List.mem_of_getElem? (i := 641) (by decide +kernel)⟩
theorem lw_p14 : lw_okq (⟨"BlameCourt$Reade\x72", "slotOf", "(J)I"⟩, 14) := ⟨⟨by decide +kernel, by decide +kernel⟩, List.mem_of_getElem? (i := 189) (by decide +kernel), List.mem_of_getElem? (i := 644) (by decide +kernel), List.mem_of_getElem? (i := 645) (by decide +kernel)⟩
theorem lw_p15 : lw_okq (⟨"BlameCourt$Reade\x72", "pushLocal", "(J)V"⟩, 14) := ⟨⟨by decide +kernel, by decide +kernel⟩, List.mem_of_getElem? (i := 189) (by decide +kernel), List.mem_of_getElem? (i := 648) (by decide +kernel), List.mem_of_getElem? (i := 649) (by decide +kernel)⟩
def lw_privs_1 : List (MethodName × Nat) := [(⟨"BlameCourt$Kinds", "findOrAdd", "(II[IIII)I"⟩, 8), (⟨"BlameCourt$Kinds", "isSame", "(II[III)Z"⟩, 8), (⟨"BlameCourt", "putFou\x72", "(I)V"⟩, 13), (⟨"BlameCourt$Tokens", "byteAt", "(I)I"⟩, 8), (⟨"BlameCourt$Tokens", "takeWord", "()V"⟩, 8), (⟨"BlameCourt$Tokens", "wordType", "()I"⟩, 8), (⟨"BlameCourt$Tokens", "takeNumbe\x72", "()V"⟩, 8), (⟨"BlameCourt$Tokens", "takeSign", "(I)V"⟩, 8), (⟨"BlameCourt$Reade\x72", "refuse", "(I)V"⟩, 14), (⟨"BlameCourt$Reade\x72", "refuseAt", "(II)V"⟩, 14), (⟨"BlameCourt$Reade\x72", "takePartName", "(I)V"⟩, 14), (⟨"BlameCourt$Reade\x72", "want", "(I)V"⟩, 14), (⟨"BlameCourt$Reade\x72", "takeParams", "(I)V"⟩, 14), (⟨"BlameCourt$Reade\x72", "ente\x72", "(I)V"⟩, 14), (⟨"BlameCourt$Reade\x72", "slotOf", "(J)I"⟩, 14), (⟨"BlameCourt$Reade\x72", "pushLocal", "(J)V"⟩, 14)]
theorem lw_r1 : ∀ q ∈ lw_privs_1, lw_okq q := List.forall_mem_cons.mpr ⟨lw_p0, List.forall_mem_cons.mpr ⟨lw_p1, List.forall_mem_cons.mpr ⟨lw_p2, List.forall_mem_cons.mpr ⟨lw_p3, List.forall_mem_cons.mpr ⟨lw_p4, List.forall_mem_cons.mpr ⟨lw_p5, List.forall_mem_cons.mpr ⟨lw_p6, List.forall_mem_cons.mpr ⟨lw_p7, List.forall_mem_cons.mpr ⟨lw_p8, List.forall_mem_cons.mpr ⟨lw_p9, List.forall_mem_cons.mpr ⟨lw_p10, List.forall_mem_cons.mpr ⟨lw_p11, List.forall_mem_cons.mpr ⟨lw_p12, List.forall_mem_cons.mpr ⟨lw_p13, List.forall_mem_cons.mpr ⟨lw_p14, List.forall_mem_cons.mpr ⟨lw_p15, fun _ h => absurd h List.not_mem_nil⟩⟩⟩⟩⟩⟩⟩⟩⟩⟩⟩⟩⟩⟩⟩⟩
theorem lw_p16 : lw_okq (⟨"BlameCourt$Reade\x72", "tookColon", "()Z"⟩, 14) := ⟨⟨by decide +kernel, by decide +kernel⟩, List.mem_of_getElem? (i := 189) (by decide +kernel), List.mem_of_getElem? (i := 652) (by decide +kernel), List.mem_of_getElem? (i := 653) (by decide +kernel)⟩
theorem lw_p17 : lw_okq (⟨"BlameCourt$Reade\x72", "takeKind", "()I"⟩, 14) := ⟨⟨by decide +kernel, by decide +kernel⟩, List.mem_of_getElem? (i := 189) (by decide +kernel), List.mem_of_getElem? (i := 656) (by decide +kernel), List.mem_of_getElem? (i := 657) (by decide +kernel)⟩
theorem lw_p18 : lw_okq (⟨"BlameCourt$Reade\x72", "beginsKind", "()Z"⟩, 14) := ⟨⟨by decide +kernel, by decide +kernel⟩, List.mem_of_getElem? (i := 189) (by decide +kernel), List.mem_of_getElem? (i := 660) (by decide +kernel), List.mem_of_getElem? (i := 661) (by decide +kernel)⟩
theorem lw_p19 : lw_okq (⟨"BlameCourt$Reade\x72", "takeFunctionKind", "()I"⟩, 14) := ⟨⟨by decide +kernel, by decide +kernel⟩, List.mem_of_getElem? (i := 189) (by decide +kernel), List.mem_of_getElem? (i := 664) (by decide +kernel), List.mem_of_getElem? (i := 665) (by decide +kernel)⟩
theorem lw_p20 : lw_okq (⟨"BlameCourt$Reade\x72", "takeKindList", "()V"⟩, 14) := ⟨⟨by decide +kernel, by decide +kernel⟩, List.mem_of_getElem? (i := 189) (by decide +kernel), List.mem_of_getElem? (i := 668) (by decide +kernel), List.mem_of_getElem? (i := 669) (by decide +kernel)⟩
theorem lw_p21 : lw_okq (⟨"BlameCourt$Reade\x72", "takeOwnKind", "(I)V"⟩, 14) := ⟨⟨by decide +kernel, by decide +kernel⟩, List.mem_of_getElem? (i := 189) (by decide +kernel), List.mem_of_getElem? (i := 674) (by decide +kernel), List.mem_of_getElem? (i := 675) (by decide +kernel)⟩
theorem lw_p22 : lw_okq (⟨"BlameCourt$Reade\x72", "takeE", "()I"⟩, 14) := ⟨⟨by decide +kernel, by decide +kernel⟩, List.mem_of_getElem? (i := 189) (by decide +kernel), List.mem_of_getElem? (i := 678) (by decide +kernel), List.mem_of_getElem? (i := 679) (by decide +kernel)⟩
theorem lw_p23 : lw_okq (⟨"BlameCourt$Reade\x72", "takeLet", "()I"⟩, 14) := ⟨⟨by decide +kernel, by decide +kernel⟩, List.mem_of_getElem? (i := 189) (by decide +kernel), List.mem_of_getElem? (i := 682) (by decide +kernel), List.mem_of_getElem? (i := 683) (by decide +kernel)⟩
theorem lw_p24 : lw_okq (⟨"BlameCourt$Reade\x72", "emitStep", "()I"⟩, 14) := ⟨⟨by decide +kernel, by decide +kernel⟩, List.mem_of_getElem? (i := 189) (by decide +kernel), List.mem_of_getElem? (i := 686) (by decide +kernel), List.mem_of_getElem? (i := 687) (by decide +kernel)⟩
theorem lw_p25 : lw_okq (⟨"BlameCourt$Reade\x72", "placeOf", "(I)I"⟩, 14) := ⟨⟨by decide +kernel, by decide +kernel⟩, List.mem_of_getElem? (i := 189) (by decide +kernel), List.mem_of_getElem? (i := 694) (by decide +kernel), List.mem_of_getElem? (i := 695) (by decide +kernel)⟩
theorem lw_p26 : lw_okq (⟨"BlameCourt$Reade\x72", "takeIf", "()I"⟩, 14) := ⟨⟨by decide +kernel, by decide +kernel⟩, List.mem_of_getElem? (i := 189) (by decide +kernel), List.mem_of_getElem? (i := 698) (by decide +kernel), List.mem_of_getElem? (i := 699) (by decide +kernel)⟩
theorem lw_p27 : lw_okq (⟨"BlameCourt$Reade\x72", "takeC", "()I"⟩, 14) := ⟨⟨by decide +kernel, by decide +kernel⟩, List.mem_of_getElem? (i := 189) (by decide +kernel), List.mem_of_getElem? (i := 702) (by decide +kernel), List.mem_of_getElem? (i := 703) (by decide +kernel)⟩
theorem lw_p28 : lw_okq (⟨"BlameCourt$Reade\x72", "takeU", "()I"⟩, 14) := ⟨⟨by decide +kernel, by decide +kernel⟩, List.mem_of_getElem? (i := 189) (by decide +kernel), List.mem_of_getElem? (i := 706) (by decide +kernel), List.mem_of_getElem? (i := 707) (by decide +kernel)⟩
theorem lw_p29 : lw_okq (⟨"BlameCourt$Reade\x72", "takePrefix", "(II)I"⟩, 14) := ⟨⟨by decide +kernel, by decide +kernel⟩, List.mem_of_getElem? (i := 189) (by decide +kernel), List.mem_of_getElem? (i := 710) (by decide +kernel), List.mem_of_getElem? (i := 711) (by decide +kernel)⟩
theorem lw_p30 : lw_okq (⟨"BlameCourt$Reade\x72", "takeB", "()I"⟩, 14) := ⟨⟨by decide +kernel, by decide +kernel⟩, List.mem_of_getElem? (i := 189) (by decide +kernel), List.mem_of_getElem? (i := 714) (by decide +kernel), List.mem_of_getElem? (i := 715) (by decide +kernel)⟩
theorem lw_p31 : lw_okq (⟨"BlameCourt$Reade\x72", "takeDigits", "()V"⟩, 14) := ⟨⟨by decide +kernel, by decide +kernel⟩, List.mem_of_getElem? (i := 189) (by decide +kernel), List.mem_of_getElem? (i := 718) (by decide +kernel), List.mem_of_getElem? (i := 719) (by decide +kernel)⟩
def lw_privs_2 : List (MethodName × Nat) := [(⟨"BlameCourt$Reade\x72", "tookColon", "()Z"⟩, 14), (⟨"BlameCourt$Reade\x72", "takeKind", "()I"⟩, 14), (⟨"BlameCourt$Reade\x72", "beginsKind", "()Z"⟩, 14), (⟨"BlameCourt$Reade\x72", "takeFunctionKind", "()I"⟩, 14), (⟨"BlameCourt$Reade\x72", "takeKindList", "()V"⟩, 14), (⟨"BlameCourt$Reade\x72", "takeOwnKind", "(I)V"⟩, 14), (⟨"BlameCourt$Reade\x72", "takeE", "()I"⟩, 14), (⟨"BlameCourt$Reade\x72", "takeLet", "()I"⟩, 14), (⟨"BlameCourt$Reade\x72", "emitStep", "()I"⟩, 14), (⟨"BlameCourt$Reade\x72", "placeOf", "(I)I"⟩, 14), (⟨"BlameCourt$Reade\x72", "takeIf", "()I"⟩, 14), (⟨"BlameCourt$Reade\x72", "takeC", "()I"⟩, 14), (⟨"BlameCourt$Reade\x72", "takeU", "()I"⟩, 14), (⟨"BlameCourt$Reade\x72", "takePrefix", "(II)I"⟩, 14), (⟨"BlameCourt$Reade\x72", "takeB", "()I"⟩, 14), (⟨"BlameCourt$Reade\x72", "takeDigits", "()V"⟩, 14)]
theorem lw_r2 : ∀ q ∈ lw_privs_2, lw_okq q := List.forall_mem_cons.mpr ⟨lw_p16, List.forall_mem_cons.mpr ⟨lw_p17, List.forall_mem_cons.mpr ⟨lw_p18, List.forall_mem_cons.mpr ⟨lw_p19, List.forall_mem_cons.mpr ⟨lw_p20, List.forall_mem_cons.mpr ⟨lw_p21, List.forall_mem_cons.mpr ⟨lw_p22, List.forall_mem_cons.mpr ⟨lw_p23, List.forall_mem_cons.mpr ⟨lw_p24, List.forall_mem_cons.mpr ⟨lw_p25, List.forall_mem_cons.mpr ⟨lw_p26, List.forall_mem_cons.mpr ⟨lw_p27, List.forall_mem_cons.mpr ⟨lw_p28, List.forall_mem_cons.mpr ⟨lw_p29, List.forall_mem_cons.mpr ⟨lw_p30, List.forall_mem_cons.mpr ⟨lw_p31, fun _ h => absurd h List.not_mem_nil⟩⟩⟩⟩⟩⟩⟩⟩⟩⟩⟩⟩⟩⟩⟩⟩
theorem lw_p32 : lw_okq (⟨"BlameCourt$Reade\x72", "takeName", "()V"⟩, 14) := ⟨⟨by decide +kernel, by decide +kernel⟩, List.mem_of_getElem? (i := 189) (by decide +kernel), List.mem_of_getElem? (i := 723) (by decide +kernel), List.mem_of_getElem? (i := 724) (by decide +kernel)⟩
theorem lw_p33 : lw_okq (⟨"BlameCourt$Reade\x72", "takeNew", "()V"⟩, 14) := ⟨⟨by decide +kernel, by decide +kernel⟩, List.mem_of_getElem? (i := 189) (by decide +kernel), List.mem_of_getElem? (i := 727) (by decide +kernel), List.mem_of_getElem? (i := 728) (by decide +kernel)⟩
theorem lw_p34 : lw_okq (⟨"BlameCourt$Reade\x72", "takeWork", "(II)V"⟩, 14) := ⟨⟨by decide +kernel, by decide +kernel⟩, List.mem_of_getElem? (i := 189) (by decide +kernel), List.mem_of_getElem? (i := 731) (by decide +kernel), List.mem_of_getElem? (i := 732) (by decide +kernel)⟩
theorem lw_p35 : lw_okq (⟨"BlameCourt$Reade\x72", "takeList", "(III)I"⟩, 14) := ⟨⟨by decide +kernel, by decide +kernel⟩, List.mem_of_getElem? (i := 189) (by decide +kernel), List.mem_of_getElem? (i := 735) (by decide +kernel), List.mem_of_getElem? (i := 736) (by decide +kernel)⟩
theorem lw_p36 : lw_okq (⟨"BlameCourt$Reade\x72", "beginsE", "()Z"⟩, 14) := ⟨⟨by decide +kernel, by decide +kernel⟩, List.mem_of_getElem? (i := 189) (by decide +kernel), List.mem_of_getElem? (i := 739) (by decide +kernel), List.mem_of_getElem? (i := 740) (by decide +kernel)⟩
theorem lw_p37 : lw_okq (⟨"BlameCourt$Reade\x72", "takeBlock", "()V"⟩, 14) := ⟨⟨by decide +kernel, by decide +kernel⟩, List.mem_of_getElem? (i := 189) (by decide +kernel), List.mem_of_getElem? (i := 743) (by decide +kernel), List.mem_of_getElem? (i := 744) (by decide +kernel)⟩
theorem lw_p38 : lw_okq (⟨"BlameCourt$Reade\x72", "addStep", "(I)V"⟩, 14) := ⟨⟨by decide +kernel, by decide +kernel⟩, List.mem_of_getElem? (i := 189) (by decide +kernel), List.mem_of_getElem? (i := 747) (by decide +kernel), List.mem_of_getElem? (i := 748) (by decide +kernel)⟩
theorem lw_p39 : lw_okq (⟨"BlameCourt$Reade\x72", "takeCall", "(I)V"⟩, 14) := ⟨⟨by decide +kernel, by decide +kernel⟩, List.mem_of_getElem? (i := 189) (by decide +kernel), List.mem_of_getElem? (i := 751) (by decide +kernel), List.mem_of_getElem? (i := 752) (by decide +kernel)⟩
theorem lw_p40 : lw_okq (⟨"BlameCourt$Reade\x72", "takePlace", "()Z"⟩, 14) := ⟨⟨by decide +kernel, by decide +kernel⟩, List.mem_of_getElem? (i := 189) (by decide +kernel), List.mem_of_getElem? (i := 755) (by decide +kernel), List.mem_of_getElem? (i := 756) (by decide +kernel)⟩
theorem lw_p41 : lw_okq (⟨"BlameCourt$Reade\x72", "applyWaiting", "(III)I"⟩, 14) := ⟨⟨by decide +kernel, by decide +kernel⟩, List.mem_of_getElem? (i := 189) (by decide +kernel), List.mem_of_getElem? (i := 762) (by decide +kernel), List.mem_of_getElem? (i := 763) (by decide +kernel)⟩
theorem lw_p42 : lw_okq (⟨"BlameCourt$Reade\x72", "pushWaiting", "(I)V"⟩, 14) := ⟨⟨by decide +kernel, by decide +kernel⟩, List.mem_of_getElem? (i := 189) (by decide +kernel), List.mem_of_getElem? (i := 769) (by decide +kernel), List.mem_of_getElem? (i := 770) (by decide +kernel)⟩
theorem lw_p43 : lw_okq (⟨"BlameCourt$Reade\x72", "endPart", "(II)V"⟩, 14) := ⟨⟨by decide +kernel, by decide +kernel⟩, List.mem_of_getElem? (i := 189) (by decide +kernel), List.mem_of_getElem? (i := 773) (by decide +kernel), List.mem_of_getElem? (i := 774) (by decide +kernel)⟩
theorem lw_p44 : lw_okq (⟨"BlameCourt$Reade\x72", "resolve", "(I)V"⟩, 14) := ⟨⟨by decide +kernel, by decide +kernel⟩, List.mem_of_getElem? (i := 189) (by decide +kernel), List.mem_of_getElem? (i := 777) (by decide +kernel), List.mem_of_getElem? (i := 778) (by decide +kernel)⟩
theorem lw_p45 : lw_okq (⟨"BlameCourt$Reade\x72", "resolveAt", "(I)V"⟩, 14) := ⟨⟨by decide +kernel, by decide +kernel⟩, List.mem_of_getElem? (i := 189) (by decide +kernel), List.mem_of_getElem? (i := 785) (by decide +kernel), List.mem_of_getElem? (i := 786) (by decide +kernel)⟩
theorem lw_p46 : lw_okq (⟨"BlameCourt", "isPart", "(I)Z"⟩, 13) := ⟨⟨by decide +kernel, by decide +kernel⟩, List.mem_of_getElem? (i := 15) (by decide +kernel), List.mem_of_getElem? (i := 803) (by decide +kernel), List.mem_of_getElem? (i := 804) (by decide +kernel)⟩
theorem lw_p47 : lw_okq (⟨"BlameCourt$Judging", "takeHeade\x72", "(I)V"⟩, 15) := ⟨⟨by decide +kernel, by decide +kernel⟩, List.mem_of_getElem? (i := 314) (by decide +kernel), List.mem_of_getElem? (i := 816) (by decide +kernel), List.mem_of_getElem? (i := 817) (by decide +kernel)⟩
def lw_privs_3 : List (MethodName × Nat) := [(⟨"BlameCourt$Reade\x72", "takeName", "()V"⟩, 14), (⟨"BlameCourt$Reade\x72", "takeNew", "()V"⟩, 14), (⟨"BlameCourt$Reade\x72", "takeWork", "(II)V"⟩, 14), (⟨"BlameCourt$Reade\x72", "takeList", "(III)I"⟩, 14), (⟨"BlameCourt$Reade\x72", "beginsE", "()Z"⟩, 14), (⟨"BlameCourt$Reade\x72", "takeBlock", "()V"⟩, 14), (⟨"BlameCourt$Reade\x72", "addStep", "(I)V"⟩, 14), (⟨"BlameCourt$Reade\x72", "takeCall", "(I)V"⟩, 14), (⟨"BlameCourt$Reade\x72", "takePlace", "()Z"⟩, 14), (⟨"BlameCourt$Reade\x72", "applyWaiting", "(III)I"⟩, 14), (⟨"BlameCourt$Reade\x72", "pushWaiting", "(I)V"⟩, 14), (⟨"BlameCourt$Reade\x72", "endPart", "(II)V"⟩, 14), (⟨"BlameCourt$Reade\x72", "resolve", "(I)V"⟩, 14), (⟨"BlameCourt$Reade\x72", "resolveAt", "(I)V"⟩, 14), (⟨"BlameCourt", "isPart", "(I)Z"⟩, 13), (⟨"BlameCourt$Judging", "takeHeade\x72", "(I)V"⟩, 15)]
theorem lw_r3 : ∀ q ∈ lw_privs_3, lw_okq q := List.forall_mem_cons.mpr ⟨lw_p32, List.forall_mem_cons.mpr ⟨lw_p33, List.forall_mem_cons.mpr ⟨lw_p34, List.forall_mem_cons.mpr ⟨lw_p35, List.forall_mem_cons.mpr ⟨lw_p36, List.forall_mem_cons.mpr ⟨lw_p37, List.forall_mem_cons.mpr ⟨lw_p38, List.forall_mem_cons.mpr ⟨lw_p39, List.forall_mem_cons.mpr ⟨lw_p40, List.forall_mem_cons.mpr ⟨lw_p41, List.forall_mem_cons.mpr ⟨lw_p42, List.forall_mem_cons.mpr ⟨lw_p43, List.forall_mem_cons.mpr ⟨lw_p44, List.forall_mem_cons.mpr ⟨lw_p45, List.forall_mem_cons.mpr ⟨lw_p46, List.forall_mem_cons.mpr ⟨lw_p47, fun _ h => absurd h List.not_mem_nil⟩⟩⟩⟩⟩⟩⟩⟩⟩⟩⟩⟩⟩⟩⟩⟩
theorem lw_p48 : lw_okq (⟨"BlameCourt$Judging", "asTold", "(II)I"⟩, 15) := ⟨⟨by decide +kernel, by decide +kernel⟩, List.mem_of_getElem? (i := 314) (by decide +kernel), List.mem_of_getElem? (i := 820) (by decide +kernel), List.mem_of_getElem? (i := 821) (by decide +kernel)⟩
theorem lw_p49 : lw_okq (⟨"BlameCourt$Judging", "judgePart", "(I)V"⟩, 15) := ⟨⟨by decide +kernel, by decide +kernel⟩, List.mem_of_getElem? (i := 314) (by decide +kernel), List.mem_of_getElem? (i := 826) (by decide +kernel), List.mem_of_getElem? (i := 827) (by decide +kernel)⟩
theorem lw_p50 : lw_okq (⟨"BlameCourt$Judging", "judgeAsking", "(I)V"⟩, 15) := ⟨⟨by decide +kernel, by decide +kernel⟩, List.mem_of_getElem? (i := 314) (by decide +kernel), List.mem_of_getElem? (i := 830) (by decide +kernel), List.mem_of_getElem? (i := 831) (by decide +kernel)⟩
theorem lw_p51 : lw_okq (⟨"BlameCourt$Judging", "meet", "(III)V"⟩, 15) := ⟨⟨by decide +kernel, by decide +kernel⟩, List.mem_of_getElem? (i := 314) (by decide +kernel), List.mem_of_getElem? (i := 834) (by decide +kernel), List.mem_of_getElem? (i := 835) (by decide +kernel)⟩
theorem lw_p52 : lw_okq (⟨"BlameCourt$Judging", "below", "(I)I"⟩, 15) := ⟨⟨by decide +kernel, by decide +kernel⟩, List.mem_of_getElem? (i := 314) (by decide +kernel), List.mem_of_getElem? (i := 838) (by decide +kernel), List.mem_of_getElem? (i := 839) (by decide +kernel)⟩
theorem lw_p53 : lw_okq (⟨"BlameCourt$Judging", "refuse", "(II)V"⟩, 15) := ⟨⟨by decide +kernel, by decide +kernel⟩, List.mem_of_getElem? (i := 314) (by decide +kernel), List.mem_of_getElem? (i := 863) (by decide +kernel), List.mem_of_getElem? (i := 864) (by decide +kernel)⟩
theorem lw_p54 : lw_okq (⟨"BlameCourt$Judging", "layGuard", "(IIII)V"⟩, 15) := ⟨⟨by decide +kernel, by decide +kernel⟩, List.mem_of_getElem? (i := 314) (by decide +kernel), List.mem_of_getElem? (i := 867) (by decide +kernel), List.mem_of_getElem? (i := 868) (by decide +kernel)⟩
theorem lw_p55 : lw_okq (⟨"BlameCourt$Judging", "setTop", "(I)V"⟩, 15) := ⟨⟨by decide +kernel, by decide +kernel⟩, List.mem_of_getElem? (i := 314) (by decide +kernel), List.mem_of_getElem? (i := 875) (by decide +kernel), List.mem_of_getElem? (i := 876) (by decide +kernel)⟩
theorem lw_p56 : lw_okq (⟨"BlameCourt$Judging", "meetForm", "(III)V"⟩, 15) := ⟨⟨by decide +kernel, by decide +kernel⟩, List.mem_of_getElem? (i := 314) (by decide +kernel), List.mem_of_getElem? (i := 882) (by decide +kernel), List.mem_of_getElem? (i := 883) (by decide +kernel)⟩
theorem lw_p57 : lw_okq (⟨"BlameCourt$Judging", "meetCalled", "(II)V"⟩, 15) := ⟨⟨by decide +kernel, by decide +kernel⟩, List.mem_of_getElem? (i := 314) (by decide +kernel), List.mem_of_getElem? (i := 887) (by decide +kernel), List.mem_of_getElem? (i := 888) (by decide +kernel)⟩
theorem lw_p58 : lw_okq (⟨"BlameCourt$Judging", "takerBelow", "(I)I"⟩, 15) := ⟨⟨by decide +kernel, by decide +kernel⟩, List.mem_of_getElem? (i := 314) (by decide +kernel), List.mem_of_getElem? (i := 893) (by decide +kernel), List.mem_of_getElem? (i := 894) (by decide +kernel)⟩
theorem lw_p59 : lw_okq (⟨"BlameCourt$Judging", "judgeWork", "(II)V"⟩, 15) := ⟨⟨by decide +kernel, by decide +kernel⟩, List.mem_of_getElem? (i := 314) (by decide +kernel), List.mem_of_getElem? (i := 898) (by decide +kernel), List.mem_of_getElem? (i := 899) (by decide +kernel)⟩
theorem lw_p60 : lw_okq (⟨"BlameCourt$Judging", "replace", "(II)V"⟩, 15) := ⟨⟨by decide +kernel, by decide +kernel⟩, List.mem_of_getElem? (i := 314) (by decide +kernel), List.mem_of_getElem? (i := 903) (by decide +kernel), List.mem_of_getElem? (i := 904) (by decide +kernel)⟩
theorem lw_p61 : lw_okq (⟨"BlameCourt$Judging", "push", "(I)V"⟩, 15) := ⟨⟨by decide +kernel, by decide +kernel⟩, List.mem_of_getElem? (i := 314) (by decide +kernel), List.mem_of_getElem? (i := 907) (by decide +kernel), List.mem_of_getElem? (i := 908) (by decide +kernel)⟩
theorem lw_p62 : lw_okq (⟨"BlameCourt$Judging", "pop", "()I"⟩, 15) := ⟨⟨by decide +kernel, by decide +kernel⟩, List.mem_of_getElem? (i := 314) (by decide +kernel), List.mem_of_getElem? (i := 911) (by decide +kernel), List.mem_of_getElem? (i := 912) (by decide +kernel)⟩
theorem lw_p63 : lw_okq (⟨"BlameCourt$Judging", "judgePlain", "(II)V"⟩, 15) := ⟨⟨by decide +kernel, by decide +kernel⟩, List.mem_of_getElem? (i := 314) (by decide +kernel), List.mem_of_getElem? (i := 915) (by decide +kernel), List.mem_of_getElem? (i := 916) (by decide +kernel)⟩
def lw_privs_4 : List (MethodName × Nat) := [(⟨"BlameCourt$Judging", "asTold", "(II)I"⟩, 15), (⟨"BlameCourt$Judging", "judgePart", "(I)V"⟩, 15), (⟨"BlameCourt$Judging", "judgeAsking", "(I)V"⟩, 15), (⟨"BlameCourt$Judging", "meet", "(III)V"⟩, 15), (⟨"BlameCourt$Judging", "below", "(I)I"⟩, 15), (⟨"BlameCourt$Judging", "refuse", "(II)V"⟩, 15), (⟨"BlameCourt$Judging", "layGuard", "(IIII)V"⟩, 15), (⟨"BlameCourt$Judging", "setTop", "(I)V"⟩, 15), (⟨"BlameCourt$Judging", "meetForm", "(III)V"⟩, 15), (⟨"BlameCourt$Judging", "meetCalled", "(II)V"⟩, 15), (⟨"BlameCourt$Judging", "takerBelow", "(I)I"⟩, 15), (⟨"BlameCourt$Judging", "judgeWork", "(II)V"⟩, 15), (⟨"BlameCourt$Judging", "replace", "(II)V"⟩, 15), (⟨"BlameCourt$Judging", "push", "(I)V"⟩, 15), (⟨"BlameCourt$Judging", "pop", "()I"⟩, 15), (⟨"BlameCourt$Judging", "judgePlain", "(II)V"⟩, 15)]
theorem lw_r4 : ∀ q ∈ lw_privs_4, lw_okq q := List.forall_mem_cons.mpr ⟨lw_p48, List.forall_mem_cons.mpr ⟨lw_p49, List.forall_mem_cons.mpr ⟨lw_p50, List.forall_mem_cons.mpr ⟨lw_p51, List.forall_mem_cons.mpr ⟨lw_p52, List.forall_mem_cons.mpr ⟨lw_p53, List.forall_mem_cons.mpr ⟨lw_p54, List.forall_mem_cons.mpr ⟨lw_p55, List.forall_mem_cons.mpr ⟨lw_p56, List.forall_mem_cons.mpr ⟨lw_p57, List.forall_mem_cons.mpr ⟨lw_p58, List.forall_mem_cons.mpr ⟨lw_p59, List.forall_mem_cons.mpr ⟨lw_p60, List.forall_mem_cons.mpr ⟨lw_p61, List.forall_mem_cons.mpr ⟨lw_p62, List.forall_mem_cons.mpr ⟨lw_p63, fun _ h => absurd h List.not_mem_nil⟩⟩⟩⟩⟩⟩⟩⟩⟩⟩⟩⟩⟩⟩⟩⟩
theorem lw_p64 : lw_okq (⟨"BlameCourt$Judging", "bind", "(I)V"⟩, 15) := ⟨⟨by decide +kernel, by decide +kernel⟩, List.mem_of_getElem? (i := 314) (by decide +kernel), List.mem_of_getElem? (i := 919) (by decide +kernel), List.mem_of_getElem? (i := 920) (by decide +kernel)⟩
theorem lw_p65 : lw_okq (⟨"BlameCourt$Judging", "mix", "(I)I"⟩, 15) := ⟨⟨by decide +kernel, by decide +kernel⟩, List.mem_of_getElem? (i := 314) (by decide +kernel), List.mem_of_getElem? (i := 923) (by decide +kernel), List.mem_of_getElem? (i := 924) (by decide +kernel)⟩
theorem lw_p66 : lw_okq (⟨"BlameCourt$Running", "push", "(J)V"⟩, 20) := ⟨⟨by decide +kernel, by decide +kernel⟩, List.mem_of_getElem? (i := 369) (by decide +kernel), List.mem_of_getElem? (i := 960) (by decide +kernel), List.mem_of_getElem? (i := 961) (by decide +kernel)⟩
theorem lw_p67 : lw_okq (⟨"BlameCourt$Running", "enterPart", "(III)V"⟩, 20) := ⟨⟨by decide +kernel, by decide +kernel⟩, List.mem_of_getElem? (i := 369) (by decide +kernel), List.mem_of_getElem? (i := 964) (by decide +kernel), List.mem_of_getElem? (i := 965) (by decide +kernel)⟩
theorem lw_p68 : lw_okq (⟨"BlameCourt$Running", "failWith", "(II)V"⟩, 20) := ⟨⟨by decide +kernel, by decide +kernel⟩, List.mem_of_getElem? (i := 369) (by decide +kernel), List.mem_of_getElem? (i := 968) (by decide +kernel), List.mem_of_getElem? (i := 969) (by decide +kernel)⟩
theorem lw_p69 : lw_okq (⟨"BlameCourt$Running", "slotAt", "(I)I"⟩, 20) := ⟨⟨by decide +kernel, by decide +kernel⟩, List.mem_of_getElem? (i := 369) (by decide +kernel), List.mem_of_getElem? (i := 972) (by decide +kernel), List.mem_of_getElem? (i := 973) (by decide +kernel)⟩
theorem lw_p70 : lw_okq (⟨"BlameCourt$Running", "pop", "()J"⟩, 20) := ⟨⟨by decide +kernel, by decide +kernel⟩, List.mem_of_getElem? (i := 369) (by decide +kernel), List.mem_of_getElem? (i := 976) (by decide +kernel), List.mem_of_getElem? (i := 977) (by decide +kernel)⟩
theorem lw_p71 : lw_okq (⟨"BlameCourt$Running", "workAsking", "(I)V"⟩, 20) := ⟨⟨by decide +kernel, by decide +kernel⟩, List.mem_of_getElem? (i := 369) (by decide +kernel), List.mem_of_getElem? (i := 981) (by decide +kernel), List.mem_of_getElem? (i := 982) (by decide +kernel)⟩
theorem lw_p72 : lw_okq (⟨"BlameCourt$Running", "askUntold", "(III)V"⟩, 20) := ⟨⟨by decide +kernel, by decide +kernel⟩, List.mem_of_getElem? (i := 369) (by decide +kernel), List.mem_of_getElem? (i := 985) (by decide +kernel), List.mem_of_getElem? (i := 986) (by decide +kernel)⟩
theorem lw_p73 : lw_okq (⟨"BlameCourt$Running", "isSuch", "(JII)Z"⟩, 20) := ⟨⟨by decide +kernel, by decide +kernel⟩, List.mem_of_getElem? (i := 369) (by decide +kernel), List.mem_of_getElem? (i := 992) (by decide +kernel), List.mem_of_getElem? (i := 993) (by decide +kernel)⟩
theorem lw_p74 : lw_okq (⟨"BlameCourt$Running", "ask", "(JIIIII)J"⟩, 20) := ⟨⟨by decide +kernel, by decide +kernel⟩, List.mem_of_getElem? (i := 369) (by decide +kernel), List.mem_of_getElem? (i := 1003) (by decide +kernel), List.mem_of_getElem? (i := 1004) (by decide +kernel)⟩
theorem lw_p75 : lw_okq (⟨"BlameCourt$Running", "count", "(II)V"⟩, 20) := ⟨⟨by decide +kernel, by decide +kernel⟩, List.mem_of_getElem? (i := 369) (by decide +kernel), List.mem_of_getElem? (i := 1007) (by decide +kernel), List.mem_of_getElem? (i := 1008) (by decide +kernel)⟩
theorem lw_p76 : lw_okq (⟨"BlameCourt$Running", "wrap", "(JIIIII)J"⟩, 20) := ⟨⟨by decide +kernel, by decide +kernel⟩, List.mem_of_getElem? (i := 369) (by decide +kernel), List.mem_of_getElem? (i := 1026) (by decide +kernel), List.mem_of_getElem? (i := 1027) (by decide +kernel)⟩
theorem lw_p77 : lw_okq (⟨"BlameCourt$Running", "workNumbers", "(II)V"⟩, 20) := ⟨⟨by decide +kernel, by decide +kernel⟩, List.mem_of_getElem? (i := 369) (by decide +kernel), List.mem_of_getElem? (i := 1035) (by decide +kernel), List.mem_of_getElem? (i := 1036) (by decide +kernel)⟩
theorem lw_p78 : lw_okq (⟨"BlameCourt$Running", "popContent", "()I"⟩, 20) := ⟨⟨by decide +kernel, by decide +kernel⟩, List.mem_of_getElem? (i := 369) (by decide +kernel), List.mem_of_getElem? (i := 1039) (by decide +kernel), List.mem_of_getElem? (i := 1040) (by decide +kernel)⟩
theorem lw_p79 : lw_okq (⟨"BlameCourt$Running", "pushNumbe\x72", "(I)V"⟩, 20) := ⟨⟨by decide +kernel, by decide +kernel⟩, List.mem_of_getElem? (i := 369) (by decide +kernel), List.mem_of_getElem? (i := 1043) (by decide +kernel), List.mem_of_getElem? (i := 1044) (by decide +kernel)⟩
def lw_privs_5 : List (MethodName × Nat) := [(⟨"BlameCourt$Judging", "bind", "(I)V"⟩, 15), (⟨"BlameCourt$Judging", "mix", "(I)I"⟩, 15), (⟨"BlameCourt$Running", "push", "(J)V"⟩, 20), (⟨"BlameCourt$Running", "enterPart", "(III)V"⟩, 20), (⟨"BlameCourt$Running", "failWith", "(II)V"⟩, 20), (⟨"BlameCourt$Running", "slotAt", "(I)I"⟩, 20), (⟨"BlameCourt$Running", "pop", "()J"⟩, 20), (⟨"BlameCourt$Running", "workAsking", "(I)V"⟩, 20), (⟨"BlameCourt$Running", "askUntold", "(III)V"⟩, 20), (⟨"BlameCourt$Running", "isSuch", "(JII)Z"⟩, 20), (⟨"BlameCourt$Running", "ask", "(JIIIII)J"⟩, 20), (⟨"BlameCourt$Running", "count", "(II)V"⟩, 20), (⟨"BlameCourt$Running", "wrap", "(JIIIII)J"⟩, 20), (⟨"BlameCourt$Running", "workNumbers", "(II)V"⟩, 20), (⟨"BlameCourt$Running", "popContent", "()I"⟩, 20), (⟨"BlameCourt$Running", "pushNumbe\x72", "(I)V"⟩, 20)]
theorem lw_r5 : ∀ q ∈ lw_privs_5, lw_okq q := List.forall_mem_cons.mpr ⟨lw_p64, List.forall_mem_cons.mpr ⟨lw_p65, List.forall_mem_cons.mpr ⟨lw_p66, List.forall_mem_cons.mpr ⟨lw_p67, List.forall_mem_cons.mpr ⟨lw_p68, List.forall_mem_cons.mpr ⟨lw_p69, List.forall_mem_cons.mpr ⟨lw_p70, List.forall_mem_cons.mpr ⟨lw_p71, List.forall_mem_cons.mpr ⟨lw_p72, List.forall_mem_cons.mpr ⟨lw_p73, List.forall_mem_cons.mpr ⟨lw_p74, List.forall_mem_cons.mpr ⟨lw_p75, List.forall_mem_cons.mpr ⟨lw_p76, List.forall_mem_cons.mpr ⟨lw_p77, List.forall_mem_cons.mpr ⟨lw_p78, List.forall_mem_cons.mpr ⟨lw_p79, fun _ h => absurd h List.not_mem_nil⟩⟩⟩⟩⟩⟩⟩⟩⟩⟩⟩⟩⟩⟩⟩⟩
theorem lw_p80 : lw_okq (⟨"BlameCourt$Running", "pushTruth", "(Z)V"⟩, 20) := ⟨⟨by decide +kernel, by decide +kernel⟩, List.mem_of_getElem? (i := 369) (by decide +kernel), List.mem_of_getElem? (i := 1047) (by decide +kernel), List.mem_of_getElem? (i := 1048) (by decide +kernel)⟩
theorem lw_p81 : lw_okq (⟨"BlameCourt$Running", "workRowOrCall", "(III)V"⟩, 20) := ⟨⟨by decide +kernel, by decide +kernel⟩, List.mem_of_getElem? (i := 369) (by decide +kernel), List.mem_of_getElem? (i := 1054) (by decide +kernel), List.mem_of_getElem? (i := 1055) (by decide +kernel)⟩
theorem lw_p82 : lw_okq (⟨"BlameCourt$Running", "makeRow", "(II)V"⟩, 20) := ⟨⟨by decide +kernel, by decide +kernel⟩, List.mem_of_getElem? (i := 369) (by decide +kernel), List.mem_of_getElem? (i := 1058) (by decide +kernel), List.mem_of_getElem? (i := 1059) (by decide +kernel)⟩
theorem lw_p83 : lw_okq (⟨"BlameCourt$Running", "makeNew", "(I)V"⟩, 20) := ⟨⟨by decide +kernel, by decide +kernel⟩, List.mem_of_getElem? (i := 369) (by decide +kernel), List.mem_of_getElem? (i := 1081) (by decide +kernel), List.mem_of_getElem? (i := 1082) (by decide +kernel)⟩
theorem lw_p84 : lw_okq (⟨"BlameCourt$Running", "print", "(I)V"⟩, 20) := ⟨⟨by decide +kernel, by decide +kernel⟩, List.mem_of_getElem? (i := 369) (by decide +kernel), List.mem_of_getElem? (i := 1087) (by decide +kernel), List.mem_of_getElem? (i := 1088) (by decide +kernel)⟩
theorem lw_p85 : lw_okq (⟨"BlameCourt$Running", "fetch", "(I)V"⟩, 20) := ⟨⟨by decide +kernel, by decide +kernel⟩, List.mem_of_getElem? (i := 369) (by decide +kernel), List.mem_of_getElem? (i := 1091) (by decide +kernel), List.mem_of_getElem? (i := 1092) (by decide +kernel)⟩
theorem lw_p86 : lw_okq (⟨"BlameCourt$Running", "askOutward", "(JJ)J"⟩, 20) := ⟨⟨by decide +kernel, by decide +kernel⟩, List.mem_of_getElem? (i := 369) (by decide +kernel), List.mem_of_getElem? (i := 1100) (by decide +kernel), List.mem_of_getElem? (i := 1101) (by decide +kernel)⟩
theorem lw_p87 : lw_okq (⟨"BlameCourt$Running", "unwrap", "(J)I"⟩, 20) := ⟨⟨by decide +kernel, by decide +kernel⟩, List.mem_of_getElem? (i := 369) (by decide +kernel), List.mem_of_getElem? (i := 1104) (by decide +kernel), List.mem_of_getElem? (i := 1105) (by decide +kernel)⟩
theorem lw_p88 : lw_okq (⟨"BlameCourt$Running", "store", "(I)V"⟩, 20) := ⟨⟨by decide +kernel, by decide +kernel⟩, List.mem_of_getElem? (i := 369) (by decide +kernel), List.mem_of_getElem? (i := 1109) (by decide +kernel), List.mem_of_getElem? (i := 1110) (by decide +kernel)⟩
theorem lw_p89 : lw_okq (⟨"BlameCourt$Running", "askInto", "(IIJ)J"⟩, 20) := ⟨⟨by decide +kernel, by decide +kernel⟩, List.mem_of_getElem? (i := 369) (by decide +kernel), List.mem_of_getElem? (i := 1113) (by decide +kernel), List.mem_of_getElem? (i := 1114) (by decide +kernel)⟩
theorem lw_p90 : lw_okq (⟨"BlameCourt$Running", "callWith", "(II)V"⟩, 20) := ⟨⟨by decide +kernel, by decide +kernel⟩, List.mem_of_getElem? (i := 369) (by decide +kernel), List.mem_of_getElem? (i := 1118) (by decide +kernel), List.mem_of_getElem? (i := 1119) (by decide +kernel)⟩
theorem lw_p91 : lw_okq (⟨"BlameCourt$Running", "leavePart", "()V"⟩, 20) := ⟨⟨by decide +kernel, by decide +kernel⟩, List.mem_of_getElem? (i := 369) (by decide +kernel), List.mem_of_getElem? (i := 1122) (by decide +kernel), List.mem_of_getElem? (i := 1123) (by decide +kernel)⟩
theorem lw_p92 : lw_okq (⟨"BlameCourt$Running", "workPlain", "(III)V"⟩, 20) := ⟨⟨by decide +kernel, by decide +kernel⟩, List.mem_of_getElem? (i := 369) (by decide +kernel), List.mem_of_getElem? (i := 1126) (by decide +kernel), List.mem_of_getElem? (i := 1127) (by decide +kernel)⟩
theorem lw_p93 : lw_okq (⟨"BlameCourt$Running", "makeSteps", "(II)V"⟩, 20) := ⟨⟨by decide +kernel, by decide +kernel⟩, List.mem_of_getElem? (i := 369) (by decide +kernel), List.mem_of_getElem? (i := 1130) (by decide +kernel), List.mem_of_getElem? (i := 1131) (by decide +kernel)⟩
theorem lw_p94 : lw_okq (⟨"BlameCourt$Running", "contentTold", "(J)I"⟩, 20) := ⟨⟨by decide +kernel, by decide +kernel⟩, List.mem_of_getElem? (i := 369) (by decide +kernel), List.mem_of_getElem? (i := 1146) (by decide +kernel), List.mem_of_getElem? (i := 1147) (by decide +kernel)⟩
theorem lw_p95 : lw_okq (⟨"BlameCourtModel", "kinds", "(I)V"⟩, 129) := ⟨⟨by decide +kernel, by decide +kernel⟩, List.mem_of_getElem? (i := 1166) (by decide +kernel), List.mem_of_getElem? (i := 1172) (by decide +kernel), List.mem_of_getElem? (i := 1173) (by decide +kernel)⟩
def lw_privs_6 : List (MethodName × Nat) := [(⟨"BlameCourt$Running", "pushTruth", "(Z)V"⟩, 20), (⟨"BlameCourt$Running", "workRowOrCall", "(III)V"⟩, 20), (⟨"BlameCourt$Running", "makeRow", "(II)V"⟩, 20), (⟨"BlameCourt$Running", "makeNew", "(I)V"⟩, 20), (⟨"BlameCourt$Running", "print", "(I)V"⟩, 20), (⟨"BlameCourt$Running", "fetch", "(I)V"⟩, 20), (⟨"BlameCourt$Running", "askOutward", "(JJ)J"⟩, 20), (⟨"BlameCourt$Running", "unwrap", "(J)I"⟩, 20), (⟨"BlameCourt$Running", "store", "(I)V"⟩, 20), (⟨"BlameCourt$Running", "askInto", "(IIJ)J"⟩, 20), (⟨"BlameCourt$Running", "callWith", "(II)V"⟩, 20), (⟨"BlameCourt$Running", "leavePart", "()V"⟩, 20), (⟨"BlameCourt$Running", "workPlain", "(III)V"⟩, 20), (⟨"BlameCourt$Running", "makeSteps", "(II)V"⟩, 20), (⟨"BlameCourt$Running", "contentTold", "(J)I"⟩, 20), (⟨"BlameCourtModel", "kinds", "(I)V"⟩, 129)]
theorem lw_r6 : ∀ q ∈ lw_privs_6, lw_okq q := List.forall_mem_cons.mpr ⟨lw_p80, List.forall_mem_cons.mpr ⟨lw_p81, List.forall_mem_cons.mpr ⟨lw_p82, List.forall_mem_cons.mpr ⟨lw_p83, List.forall_mem_cons.mpr ⟨lw_p84, List.forall_mem_cons.mpr ⟨lw_p85, List.forall_mem_cons.mpr ⟨lw_p86, List.forall_mem_cons.mpr ⟨lw_p87, List.forall_mem_cons.mpr ⟨lw_p88, List.forall_mem_cons.mpr ⟨lw_p89, List.forall_mem_cons.mpr ⟨lw_p90, List.forall_mem_cons.mpr ⟨lw_p91, List.forall_mem_cons.mpr ⟨lw_p92, List.forall_mem_cons.mpr ⟨lw_p93, List.forall_mem_cons.mpr ⟨lw_p94, List.forall_mem_cons.mpr ⟨lw_p95, fun _ h => absurd h List.not_mem_nil⟩⟩⟩⟩⟩⟩⟩⟩⟩⟩⟩⟩⟩⟩⟩⟩
theorem lw_p96 : lw_okq (⟨"BlameCourtModel", "kindOf", "(III)I"⟩, 129) := ⟨⟨by decide +kernel, by decide +kernel⟩, List.mem_of_getElem? (i := 1166) (by decide +kernel), List.mem_of_getElem? (i := 1176) (by decide +kernel), List.mem_of_getElem? (i := 1177) (by decide +kernel)⟩
theorem lw_p97 : lw_okq (⟨"BlameCourtModel", "put", "(I)V"⟩, 129) := ⟨⟨by decide +kernel, by decide +kernel⟩, List.mem_of_getElem? (i := 1166) (by decide +kernel), List.mem_of_getElem? (i := 1572) (by decide +kernel), List.mem_of_getElem? (i := 1573) (by decide +kernel)⟩
theorem lw_p98 : lw_okq (⟨"BlameCourtModel", "reads", "()V"⟩, 129) := ⟨⟨by decide +kernel, by decide +kernel⟩, List.mem_of_getElem? (i := 1166) (by decide +kernel), List.mem_of_getElem? (i := 1587) (by decide +kernel), List.mem_of_getElem? (i := 1588) (by decide +kernel)⟩
theorem lw_p99 : lw_okq (⟨"BlameCourtModel", "next", "()V"⟩, 129) := ⟨⟨by decide +kernel, by decide +kernel⟩, List.mem_of_getElem? (i := 1166) (by decide +kernel), List.mem_of_getElem? (i := 1591) (by decide +kernel), List.mem_of_getElem? (i := 1592) (by decide +kernel)⟩
theorem lw_p100 : lw_okq (⟨"BlameCourtModel", "name", "()V"⟩, 129) := ⟨⟨by decide +kernel, by decide +kernel⟩, List.mem_of_getElem? (i := 1166) (by decide +kernel), List.mem_of_getElem? (i := 1598) (by decide +kernel), List.mem_of_getElem? (i := 1599) (by decide +kernel)⟩
theorem lw_p101 : lw_okq (⟨"BlameCourtModel", "sign", "(I)V"⟩, 129) := ⟨⟨by decide +kernel, by decide +kernel⟩, List.mem_of_getElem? (i := 1166) (by decide +kernel), List.mem_of_getElem? (i := 1610) (by decide +kernel), List.mem_of_getElem? (i := 1611) (by decide +kernel)⟩
theorem lw_p102 : lw_okq (⟨"BlameCourtModel", "isWell", "()Z"⟩, 129) := ⟨⟨by decide +kernel, by decide +kernel⟩, List.mem_of_getElem? (i := 1166) (by decide +kernel), List.mem_of_getElem? (i := 1615) (by decide +kernel), List.mem_of_getElem? (i := 1616) (by decide +kernel)⟩
theorem lw_p103 : lw_okq (⟨"BlameCourtModel", "isWord", "(I)Z"⟩, 129) := ⟨⟨by decide +kernel, by decide +kernel⟩, List.mem_of_getElem? (i := 1166) (by decide +kernel), List.mem_of_getElem? (i := 1619) (by decide +kernel), List.mem_of_getElem? (i := 1620) (by decide +kernel)⟩
theorem lw_p104 : lw_okq (⟨"BlameCourtModel", "stray", "()V"⟩, 129) := ⟨⟨by decide +kernel, by decide +kernel⟩, List.mem_of_getElem? (i := 1166) (by decide +kernel), List.mem_of_getElem? (i := 1623) (by decide +kernel), List.mem_of_getElem? (i := 1624) (by decide +kernel)⟩
theorem lw_p105 : lw_okq (⟨"BlameCourtModel", "fails", "(II)V"⟩, 129) := ⟨⟨by decide +kernel, by decide +kernel⟩, List.mem_of_getElem? (i := 1166) (by decide +kernel), List.mem_of_getElem? (i := 1627) (by decide +kernel), List.mem_of_getElem? (i := 1628) (by decide +kernel)⟩
theorem lw_p106 : lw_okq (⟨"BlameCourtModel", "part", "()V"⟩, 129) := ⟨⟨by decide +kernel, by decide +kernel⟩, List.mem_of_getElem? (i := 1166) (by decide +kernel), List.mem_of_getElem? (i := 1631) (by decide +kernel), List.mem_of_getElem? (i := 1632) (by decide +kernel)⟩
theorem lw_p107 : lw_okq (⟨"BlameCourtModel", "opens", "(I)V"⟩, 129) := ⟨⟨by decide +kernel, by decide +kernel⟩, List.mem_of_getElem? (i := 1166) (by decide +kernel), List.mem_of_getElem? (i := 1635) (by decide +kernel), List.mem_of_getElem? (i := 1636) (by decide +kernel)⟩
theorem lw_p108 : lw_okq (⟨"BlameCourtModel", "isSign", "(I)Z"⟩, 129) := ⟨⟨by decide +kernel, by decide +kernel⟩, List.mem_of_getElem? (i := 1166) (by decide +kernel), List.mem_of_getElem? (i := 1639) (by decide +kernel), List.mem_of_getElem? (i := 1640) (by decide +kernel)⟩
theorem lw_p109 : lw_okq (⟨"BlameCourtModel", "nests", "()V"⟩, 129) := ⟨⟨by decide +kernel, by decide +kernel⟩, List.mem_of_getElem? (i := 1166) (by decide +kernel), List.mem_of_getElem? (i := 1643) (by decide +kernel), List.mem_of_getElem? (i := 1644) (by decide +kernel)⟩
theorem lw_p110 : lw_okq (⟨"BlameCourtModel", "closes", "(I)V"⟩, 129) := ⟨⟨by decide +kernel, by decide +kernel⟩, List.mem_of_getElem? (i := 1166) (by decide +kernel), List.mem_of_getElem? (i := 1647) (by decide +kernel), List.mem_of_getElem? (i := 1648) (by decide +kernel)⟩
theorem lw_p111 : lw_okq (⟨"BlameCourtModel", "takes", "(I)V"⟩, 129) := ⟨⟨by decide +kernel, by decide +kernel⟩, List.mem_of_getElem? (i := 1166) (by decide +kernel), List.mem_of_getElem? (i := 1651) (by decide +kernel), List.mem_of_getElem? (i := 1652) (by decide +kernel)⟩
def lw_privs_7 : List (MethodName × Nat) := [(⟨"BlameCourtModel", "kindOf", "(III)I"⟩, 129), (⟨"BlameCourtModel", "put", "(I)V"⟩, 129), (⟨"BlameCourtModel", "reads", "()V"⟩, 129), (⟨"BlameCourtModel", "next", "()V"⟩, 129), (⟨"BlameCourtModel", "name", "()V"⟩, 129), (⟨"BlameCourtModel", "sign", "(I)V"⟩, 129), (⟨"BlameCourtModel", "isWell", "()Z"⟩, 129), (⟨"BlameCourtModel", "isWord", "(I)Z"⟩, 129), (⟨"BlameCourtModel", "stray", "()V"⟩, 129), (⟨"BlameCourtModel", "fails", "(II)V"⟩, 129), (⟨"BlameCourtModel", "part", "()V"⟩, 129), (⟨"BlameCourtModel", "opens", "(I)V"⟩, 129), (⟨"BlameCourtModel", "isSign", "(I)Z"⟩, 129), (⟨"BlameCourtModel", "nests", "()V"⟩, 129), (⟨"BlameCourtModel", "closes", "(I)V"⟩, 129), (⟨"BlameCourtModel", "takes", "(I)V"⟩, 129)]
theorem lw_r7 : ∀ q ∈ lw_privs_7, lw_okq q := List.forall_mem_cons.mpr ⟨lw_p96, List.forall_mem_cons.mpr ⟨lw_p97, List.forall_mem_cons.mpr ⟨lw_p98, List.forall_mem_cons.mpr ⟨lw_p99, List.forall_mem_cons.mpr ⟨lw_p100, List.forall_mem_cons.mpr ⟨lw_p101, List.forall_mem_cons.mpr ⟨lw_p102, List.forall_mem_cons.mpr ⟨lw_p103, List.forall_mem_cons.mpr ⟨lw_p104, List.forall_mem_cons.mpr ⟨lw_p105, List.forall_mem_cons.mpr ⟨lw_p106, List.forall_mem_cons.mpr ⟨lw_p107, List.forall_mem_cons.mpr ⟨lw_p108, List.forall_mem_cons.mpr ⟨lw_p109, List.forall_mem_cons.mpr ⟨lw_p110, List.forall_mem_cons.mpr ⟨lw_p111, fun _ h => absurd h List.not_mem_nil⟩⟩⟩⟩⟩⟩⟩⟩⟩⟩⟩⟩⟩⟩⟩⟩
theorem lw_p112 : lw_okq (⟨"BlameCourtModel", "param", "(I)V"⟩, 129) := ⟨⟨by decide +kernel, by decide +kernel⟩, List.mem_of_getElem? (i := 1166) (by decide +kernel), List.mem_of_getElem? (i := 1655) (by decide +kernel), List.mem_of_getElem? (i := 1656) (by decide +kernel)⟩
theorem lw_p113 : lw_okq (⟨"BlameCourtModel", "kind", "()I"⟩, 129) := ⟨⟨by decide +kernel, by decide +kernel⟩, List.mem_of_getElem? (i := 1166) (by decide +kernel), List.mem_of_getElem? (i := 1659) (by decide +kernel), List.mem_of_getElem? (i := 1660) (by decide +kernel)⟩
theorem lw_p114 : lw_okq (⟨"BlameCourtModel", "plainKind", "()I"⟩, 129) := ⟨⟨by decide +kernel, by decide +kernel⟩, List.mem_of_getElem? (i := 1166) (by decide +kernel), List.mem_of_getElem? (i := 1663) (by decide +kernel), List.mem_of_getElem? (i := 1664) (by decide +kernel)⟩
theorem lw_p115 : lw_okq (⟨"BlameCourtModel", "rowOf", "(I)I"⟩, 129) := ⟨⟨by decide +kernel, by decide +kernel⟩, List.mem_of_getElem? (i := 1166) (by decide +kernel), List.mem_of_getElem? (i := 1667) (by decide +kernel), List.mem_of_getElem? (i := 1668) (by decide +kernel)⟩
theorem lw_p116 : lw_okq (⟨"BlameCourtModel", "fifth", "(I)V"⟩, 129) := ⟨⟨by decide +kernel, by decide +kernel⟩, List.mem_of_getElem? (i := 1166) (by decide +kernel), List.mem_of_getElem? (i := 1671) (by decide +kernel), List.mem_of_getElem? (i := 1672) (by decide +kernel)⟩
theorem lw_p117 : lw_okq (⟨"BlameCourtModel", "expression", "()I"⟩, 129) := ⟨⟨by decide +kernel, by decide +kernel⟩, List.mem_of_getElem? (i := 1166) (by decide +kernel), List.mem_of_getElem? (i := 1675) (by decide +kernel), List.mem_of_getElem? (i := 1676) (by decide +kernel)⟩
theorem lw_p118 : lw_okq (⟨"BlameCourtModel", "ente\x72", "(II)V"⟩, 129) := ⟨⟨by decide +kernel, by decide +kernel⟩, List.mem_of_getElem? (i := 1166) (by decide +kernel), List.mem_of_getElem? (i := 1679) (by decide +kernel), List.mem_of_getElem? (i := 1680) (by decide +kernel)⟩
theorem lw_p119 : lw_okq (⟨"BlameCourtModel", "begins", "()V"⟩, 129) := ⟨⟨by decide +kernel, by decide +kernel⟩, List.mem_of_getElem? (i := 1166) (by decide +kernel), List.mem_of_getElem? (i := 1683) (by decide +kernel), List.mem_of_getElem? (i := 1684) (by decide +kernel)⟩
theorem lw_p120 : lw_okq (⟨"BlameCourtModel", "isBeginning", "()Z"⟩, 129) := ⟨⟨by decide +kernel, by decide +kernel⟩, List.mem_of_getElem? (i := 1166) (by decide +kernel), List.mem_of_getElem? (i := 1687) (by decide +kernel), List.mem_of_getElem? (i := 1688) (by decide +kernel)⟩
theorem lw_p121 : lw_okq (⟨"BlameCourtModel", "beginsLet", "()V"⟩, 129) := ⟨⟨by decide +kernel, by decide +kernel⟩, List.mem_of_getElem? (i := 1166) (by decide +kernel), List.mem_of_getElem? (i := 1701) (by decide +kernel), List.mem_of_getElem? (i := 1702) (by decide +kernel)⟩
theorem lw_p122 : lw_okq (⟨"BlameCourtModel", "make", "(II)I"⟩, 129) := ⟨⟨by decide +kernel, by decide +kernel⟩, List.mem_of_getElem? (i := 1166) (by decide +kernel), List.mem_of_getElem? (i := 1705) (by decide +kernel), List.mem_of_getElem? (i := 1706) (by decide +kernel)⟩
theorem lw_p123 : lw_okq (⟨"BlameCourtModel", "operand", "()V"⟩, 129) := ⟨⟨by decide +kernel, by decide +kernel⟩, List.mem_of_getElem? (i := 1166) (by decide +kernel), List.mem_of_getElem? (i := 1709) (by decide +kernel), List.mem_of_getElem? (i := 1710) (by decide +kernel)⟩
theorem lw_p124 : lw_okq (⟨"BlameCourtModel", "numbe\x72", "(I)V"⟩, 129) := ⟨⟨by decide +kernel, by decide +kernel⟩, List.mem_of_getElem? (i := 1166) (by decide +kernel), List.mem_of_getElem? (i := 1713) (by decide +kernel), List.mem_of_getElem? (i := 1714) (by decide +kernel)⟩
theorem lw_p125 : lw_okq (⟨"BlameCourtModel", "done", "(I)V"⟩, 129) := ⟨⟨by decide +kernel, by decide +kernel⟩, List.mem_of_getElem? (i := 1166) (by decide +kernel), List.mem_of_getElem? (i := 1717) (by decide +kernel), List.mem_of_getElem? (i := 1718) (by decide +kernel)⟩
theorem lw_p126 : lw_okq (⟨"BlameCourtModel", "named", "(I)V"⟩, 129) := ⟨⟨by decide +kernel, by decide +kernel⟩, List.mem_of_getElem? (i := 1166) (by decide +kernel), List.mem_of_getElem? (i := 1721) (by decide +kernel), List.mem_of_getElem? (i := 1722) (by decide +kernel)⟩
theorem lw_p127 : lw_okq (⟨"BlameCourtModel", "opened", "(II)V"⟩, 129) := ⟨⟨by decide +kernel, by decide +kernel⟩, List.mem_of_getElem? (i := 1166) (by decide +kernel), List.mem_of_getElem? (i := 1725) (by decide +kernel), List.mem_of_getElem? (i := 1726) (by decide +kernel)⟩
def lw_privs_8 : List (MethodName × Nat) := [(⟨"BlameCourtModel", "param", "(I)V"⟩, 129), (⟨"BlameCourtModel", "kind", "()I"⟩, 129), (⟨"BlameCourtModel", "plainKind", "()I"⟩, 129), (⟨"BlameCourtModel", "rowOf", "(I)I"⟩, 129), (⟨"BlameCourtModel", "fifth", "(I)V"⟩, 129), (⟨"BlameCourtModel", "expression", "()I"⟩, 129), (⟨"BlameCourtModel", "ente\x72", "(II)V"⟩, 129), (⟨"BlameCourtModel", "begins", "()V"⟩, 129), (⟨"BlameCourtModel", "isBeginning", "()Z"⟩, 129), (⟨"BlameCourtModel", "beginsLet", "()V"⟩, 129), (⟨"BlameCourtModel", "make", "(II)I"⟩, 129), (⟨"BlameCourtModel", "operand", "()V"⟩, 129), (⟨"BlameCourtModel", "numbe\x72", "(I)V"⟩, 129), (⟨"BlameCourtModel", "done", "(I)V"⟩, 129), (⟨"BlameCourtModel", "named", "(I)V"⟩, 129), (⟨"BlameCourtModel", "opened", "(II)V"⟩, 129)]
theorem lw_r8 : ∀ q ∈ lw_privs_8, lw_okq q := List.forall_mem_cons.mpr ⟨lw_p112, List.forall_mem_cons.mpr ⟨lw_p113, List.forall_mem_cons.mpr ⟨lw_p114, List.forall_mem_cons.mpr ⟨lw_p115, List.forall_mem_cons.mpr ⟨lw_p116, List.forall_mem_cons.mpr ⟨lw_p117, List.forall_mem_cons.mpr ⟨lw_p118, List.forall_mem_cons.mpr ⟨lw_p119, List.forall_mem_cons.mpr ⟨lw_p120, List.forall_mem_cons.mpr ⟨lw_p121, List.forall_mem_cons.mpr ⟨lw_p122, List.forall_mem_cons.mpr ⟨lw_p123, List.forall_mem_cons.mpr ⟨lw_p124, List.forall_mem_cons.mpr ⟨lw_p125, List.forall_mem_cons.mpr ⟨lw_p126, List.forall_mem_cons.mpr ⟨lw_p127, fun _ h => absurd h List.not_mem_nil⟩⟩⟩⟩⟩⟩⟩⟩⟩⟩⟩⟩⟩⟩⟩⟩
theorem lw_p128 : lw_okq (⟨"BlameCourtModel", "behind", "()V"⟩, 129) := ⟨⟨by decide +kernel, by decide +kernel⟩, List.mem_of_getElem? (i := 1166) (by decide +kernel), List.mem_of_getElem? (i := 1729) (by decide +kernel), List.mem_of_getElem? (i := 1730) (by decide +kernel)⟩
theorem lw_p129 : lw_okq (⟨"BlameCourtModel", "signs", "()V"⟩, 129) := ⟨⟨by decide +kernel, by decide +kernel⟩, List.mem_of_getElem? (i := 1166) (by decide +kernel), List.mem_of_getElem? (i := 1733) (by decide +kernel), List.mem_of_getElem? (i := 1734) (by decide +kernel)⟩
theorem lw_p130 : lw_okq (⟨"BlameCourtModel", "second", "(I)V"⟩, 129) := ⟨⟨by decide +kernel, by decide +kernel⟩, List.mem_of_getElem? (i := 1166) (by decide +kernel), List.mem_of_getElem? (i := 1746) (by decide +kernel), List.mem_of_getElem? (i := 1747) (by decide +kernel)⟩
theorem lw_p131 : lw_okq (⟨"BlameCourtModel", "endsOne", "()V"⟩, 129) := ⟨⟨by decide +kernel, by decide +kernel⟩, List.mem_of_getElem? (i := 1166) (by decide +kernel), List.mem_of_getElem? (i := 1750) (by decide +kernel), List.mem_of_getElem? (i := 1751) (by decide +kernel)⟩
theorem lw_p132 : lw_okq (⟨"BlameCourtModel", "word", "(I)V"⟩, 129) := ⟨⟨by decide +kernel, by decide +kernel⟩, List.mem_of_getElem? (i := 1166) (by decide +kernel), List.mem_of_getElem? (i := 1754) (by decide +kernel), List.mem_of_getElem? (i := 1755) (by decide +kernel)⟩
theorem lw_p133 : lw_okq (⟨"BlameCourtModel", "leaves", "(I)V"⟩, 129) := ⟨⟨by decide +kernel, by decide +kernel⟩, List.mem_of_getElem? (i := 1166) (by decide +kernel), List.mem_of_getElem? (i := 1758) (by decide +kernel), List.mem_of_getElem? (i := 1759) (by decide +kernel)⟩
theorem lw_p134 : lw_okq (⟨"BlameCourtModel", "endsWithin", "(II)V"⟩, 129) := ⟨⟨by decide +kernel, by decide +kernel⟩, List.mem_of_getElem? (i := 1166) (by decide +kernel), List.mem_of_getElem? (i := 1762) (by decide +kernel), List.mem_of_getElem? (i := 1763) (by decide +kernel)⟩
theorem lw_p135 : lw_okq (⟨"BlameCourtModel", "shuts", "(II)V"⟩, 129) := ⟨⟨by decide +kernel, by decide +kernel⟩, List.mem_of_getElem? (i := 1166) (by decide +kernel), List.mem_of_getElem? (i := 1766) (by decide +kernel), List.mem_of_getElem? (i := 1767) (by decide +kernel)⟩
theorem lw_p136 : lw_okq (⟨"BlameCourtModel", "add", "(I)V"⟩, 129) := ⟨⟨by decide +kernel, by decide +kernel⟩, List.mem_of_getElem? (i := 1166) (by decide +kernel), List.mem_of_getElem? (i := 1770) (by decide +kernel), List.mem_of_getElem? (i := 1771) (by decide +kernel)⟩
theorem lw_p137 : lw_okq (⟨"BlameCourtModel", "knows", "()V"⟩, 129) := ⟨⟨by decide +kernel, by decide +kernel⟩, List.mem_of_getElem? (i := 1166) (by decide +kernel), List.mem_of_getElem? (i := 1774) (by decide +kernel), List.mem_of_getElem? (i := 1775) (by decide +kernel)⟩
theorem lw_p138 : lw_okq (⟨"BlameCourtModel", "partOf", "(J)I"⟩, 129) := ⟨⟨by decide +kernel, by decide +kernel⟩, List.mem_of_getElem? (i := 1166) (by decide +kernel), List.mem_of_getElem? (i := 1778) (by decide +kernel), List.mem_of_getElem? (i := 1779) (by decide +kernel)⟩
theorem lw_p139 : lw_okq (⟨"BlameCourtModel", "judges", "()V"⟩, 129) := ⟨⟨by decide +kernel, by decide +kernel⟩, List.mem_of_getElem? (i := 1166) (by decide +kernel), List.mem_of_getElem? (i := 1783) (by decide +kernel), List.mem_of_getElem? (i := 1784) (by decide +kernel)⟩
theorem lw_p140 : lw_okq (⟨"BlameCourtModel", "compiles", "()V"⟩, 129) := ⟨⟨by decide +kernel, by decide +kernel⟩, List.mem_of_getElem? (i := 1166) (by decide +kernel), List.mem_of_getElem? (i := 1787) (by decide +kernel), List.mem_of_getElem? (i := 1788) (by decide +kernel)⟩
theorem lw_p141 : lw_okq (⟨"BlameCourtModel", "task", "(III)V"⟩, 129) := ⟨⟨by decide +kernel, by decide +kernel⟩, List.mem_of_getElem? (i := 1166) (by decide +kernel), List.mem_of_getElem? (i := 1791) (by decide +kernel), List.mem_of_getElem? (i := 1792) (by decide +kernel)⟩
theorem lw_p142 : lw_okq (⟨"BlameCourtModel", "goesOn", "(III)V"⟩, 129) := ⟨⟨by decide +kernel, by decide +kernel⟩, List.mem_of_getElem? (i := 1166) (by decide +kernel), List.mem_of_getElem? (i := 1795) (by decide +kernel), List.mem_of_getElem? (i := 1796) (by decide +kernel)⟩
theorem lw_p143 : lw_okq (⟨"BlameCourtModel", "orde\x72", "(III)V"⟩, 129) := ⟨⟨by decide +kernel, by decide +kernel⟩, List.mem_of_getElem? (i := 1166) (by decide +kernel), List.mem_of_getElem? (i := 1799) (by decide +kernel), List.mem_of_getElem? (i := 1800) (by decide +kernel)⟩
def lw_privs_9 : List (MethodName × Nat) := [(⟨"BlameCourtModel", "behind", "()V"⟩, 129), (⟨"BlameCourtModel", "signs", "()V"⟩, 129), (⟨"BlameCourtModel", "second", "(I)V"⟩, 129), (⟨"BlameCourtModel", "endsOne", "()V"⟩, 129), (⟨"BlameCourtModel", "word", "(I)V"⟩, 129), (⟨"BlameCourtModel", "leaves", "(I)V"⟩, 129), (⟨"BlameCourtModel", "endsWithin", "(II)V"⟩, 129), (⟨"BlameCourtModel", "shuts", "(II)V"⟩, 129), (⟨"BlameCourtModel", "add", "(I)V"⟩, 129), (⟨"BlameCourtModel", "knows", "()V"⟩, 129), (⟨"BlameCourtModel", "partOf", "(J)I"⟩, 129), (⟨"BlameCourtModel", "judges", "()V"⟩, 129), (⟨"BlameCourtModel", "compiles", "()V"⟩, 129), (⟨"BlameCourtModel", "task", "(III)V"⟩, 129), (⟨"BlameCourtModel", "goesOn", "(III)V"⟩, 129), (⟨"BlameCourtModel", "orde\x72", "(III)V"⟩, 129)]
theorem lw_r9 : ∀ q ∈ lw_privs_9, lw_okq q := List.forall_mem_cons.mpr ⟨lw_p128, List.forall_mem_cons.mpr ⟨lw_p129, List.forall_mem_cons.mpr ⟨lw_p130, List.forall_mem_cons.mpr ⟨lw_p131, List.forall_mem_cons.mpr ⟨lw_p132, List.forall_mem_cons.mpr ⟨lw_p133, List.forall_mem_cons.mpr ⟨lw_p134, List.forall_mem_cons.mpr ⟨lw_p135, List.forall_mem_cons.mpr ⟨lw_p136, List.forall_mem_cons.mpr ⟨lw_p137, List.forall_mem_cons.mpr ⟨lw_p138, List.forall_mem_cons.mpr ⟨lw_p139, List.forall_mem_cons.mpr ⟨lw_p140, List.forall_mem_cons.mpr ⟨lw_p141, List.forall_mem_cons.mpr ⟨lw_p142, List.forall_mem_cons.mpr ⟨lw_p143, fun _ h => absurd h List.not_mem_nil⟩⟩⟩⟩⟩⟩⟩⟩⟩⟩⟩⟩⟩⟩⟩⟩
theorem lw_p144 : lw_okq (⟨"BlameCourtModel", "tells", "(I)V"⟩, 129) := ⟨⟨by decide +kernel, by decide +kernel⟩, List.mem_of_getElem? (i := 1166) (by decide +kernel), List.mem_of_getElem? (i := 1803) (by decide +kernel), List.mem_of_getElem? (i := 1804) (by decide +kernel)⟩
theorem lw_p145 : lw_okq (⟨"BlameCourtModel", "taskOfCall", "(I)V"⟩, 129) := ⟨⟨by decide +kernel, by decide +kernel⟩, List.mem_of_getElem? (i := 1166) (by decide +kernel), List.mem_of_getElem? (i := 1807) (by decide +kernel), List.mem_of_getElem? (i := 1808) (by decide +kernel)⟩
theorem lw_p146 : lw_okq (⟨"BlameCourtModel", "tellsMore", "(I)V"⟩, 129) := ⟨⟨by decide +kernel, by decide +kernel⟩, List.mem_of_getElem? (i := 1166) (by decide +kernel), List.mem_of_getElem? (i := 1811) (by decide +kernel), List.mem_of_getElem? (i := 1812) (by decide +kernel)⟩
theorem lw_p147 : lw_okq (⟨"BlameCourtModel", "ownKindOf", "(I)I"⟩, 129) := ⟨⟨by decide +kernel, by decide +kernel⟩, List.mem_of_getElem? (i := 1166) (by decide +kernel), List.mem_of_getElem? (i := 1815) (by decide +kernel), List.mem_of_getElem? (i := 1816) (by decide +kernel)⟩
theorem lw_p148 : lw_okq (⟨"BlameCourtModel", "paramKindOf", "(II)I"⟩, 129) := ⟨⟨by decide +kernel, by decide +kernel⟩, List.mem_of_getElem? (i := 1166) (by decide +kernel), List.mem_of_getElem? (i := 1819) (by decide +kernel), List.mem_of_getElem? (i := 1820) (by decide +kernel)⟩
theorem lw_p149 : lw_okq (⟨"BlameCourtModel", "judgeOne", "(II)V"⟩, 129) := ⟨⟨by decide +kernel, by decide +kernel⟩, List.mem_of_getElem? (i := 1166) (by decide +kernel), List.mem_of_getElem? (i := 1823) (by decide +kernel), List.mem_of_getElem? (i := 1824) (by decide +kernel)⟩
theorem lw_p150 : lw_okq (⟨"BlameCourtModel", "push", "(I)V"⟩, 129) := ⟨⟨by decide +kernel, by decide +kernel⟩, List.mem_of_getElem? (i := 1166) (by decide +kernel), List.mem_of_getElem? (i := 1827) (by decide +kernel), List.mem_of_getElem? (i := 1828) (by decide +kernel)⟩
theorem lw_p151 : lw_okq (⟨"BlameCourtModel", "functionOf", "(I)I"⟩, 129) := ⟨⟨by decide +kernel, by decide +kernel⟩, List.mem_of_getElem? (i := 1166) (by decide +kernel), List.mem_of_getElem? (i := 1831) (by decide +kernel), List.mem_of_getElem? (i := 1832) (by decide +kernel)⟩
theorem lw_p152 : lw_okq (⟨"BlameCourtModel", "must", "(IIII)V"⟩, 129) := ⟨⟨by decide +kernel, by decide +kernel⟩, List.mem_of_getElem? (i := 1166) (by decide +kernel), List.mem_of_getElem? (i := 1835) (by decide +kernel), List.mem_of_getElem? (i := 1836) (by decide +kernel)⟩
theorem lw_p153 : lw_okq (⟨"BlameCourtModel", "fits", "(II)Z"⟩, 129) := ⟨⟨by decide +kernel, by decide +kernel⟩, List.mem_of_getElem? (i := 1166) (by decide +kernel), List.mem_of_getElem? (i := 1839) (by decide +kernel), List.mem_of_getElem? (i := 1840) (by decide +kernel)⟩
theorem lw_p154 : lw_okq (⟨"BlameCourtModel", "guards", "(IIIII)V"⟩, 129) := ⟨⟨by decide +kernel, by decide +kernel⟩, List.mem_of_getElem? (i := 1166) (by decide +kernel), List.mem_of_getElem? (i := 1843) (by decide +kernel), List.mem_of_getElem? (i := 1844) (by decide +kernel)⟩
theorem lw_p155 : lw_okq (⟨"BlameCourtModel", "judgeCallee", "(II)V"⟩, 129) := ⟨⟨by decide +kernel, by decide +kernel⟩, List.mem_of_getElem? (i := 1166) (by decide +kernel), List.mem_of_getElem? (i := 1847) (by decide +kernel), List.mem_of_getElem? (i := 1848) (by decide +kernel)⟩
theorem lw_p156 : lw_okq (⟨"BlameCourtModel", "anyFunction", "(I)I"⟩, 129) := ⟨⟨by decide +kernel, by decide +kernel⟩, List.mem_of_getElem? (i := 1166) (by decide +kernel), List.mem_of_getElem? (i := 1851) (by decide +kernel), List.mem_of_getElem? (i := 1852) (by decide +kernel)⟩
theorem lw_p157 : lw_okq (⟨"BlameCourtModel", "judgeRow", "(II)V"⟩, 129) := ⟨⟨by decide +kernel, by decide +kernel⟩, List.mem_of_getElem? (i := 1166) (by decide +kernel), List.mem_of_getElem? (i := 1855) (by decide +kernel), List.mem_of_getElem? (i := 1856) (by decide +kernel)⟩
theorem lw_p158 : lw_okq (⟨"BlameCourtModel", "paramOf", "(II)I"⟩, 129) := ⟨⟨by decide +kernel, by decide +kernel⟩, List.mem_of_getElem? (i := 1166) (by decide +kernel), List.mem_of_getElem? (i := 1859) (by decide +kernel), List.mem_of_getElem? (i := 1860) (by decide +kernel)⟩
theorem lw_p159 : lw_okq (⟨"BlameCourtModel", "elementOf", "(I)I"⟩, 129) := ⟨⟨by decide +kernel, by decide +kernel⟩, List.mem_of_getElem? (i := 1166) (by decide +kernel), List.mem_of_getElem? (i := 1863) (by decide +kernel), List.mem_of_getElem? (i := 1864) (by decide +kernel)⟩
def lw_privs_10 : List (MethodName × Nat) := [(⟨"BlameCourtModel", "tells", "(I)V"⟩, 129), (⟨"BlameCourtModel", "taskOfCall", "(I)V"⟩, 129), (⟨"BlameCourtModel", "tellsMore", "(I)V"⟩, 129), (⟨"BlameCourtModel", "ownKindOf", "(I)I"⟩, 129), (⟨"BlameCourtModel", "paramKindOf", "(II)I"⟩, 129), (⟨"BlameCourtModel", "judgeOne", "(II)V"⟩, 129), (⟨"BlameCourtModel", "push", "(I)V"⟩, 129), (⟨"BlameCourtModel", "functionOf", "(I)I"⟩, 129), (⟨"BlameCourtModel", "must", "(IIII)V"⟩, 129), (⟨"BlameCourtModel", "fits", "(II)Z"⟩, 129), (⟨"BlameCourtModel", "guards", "(IIIII)V"⟩, 129), (⟨"BlameCourtModel", "judgeCallee", "(II)V"⟩, 129), (⟨"BlameCourtModel", "anyFunction", "(I)I"⟩, 129), (⟨"BlameCourtModel", "judgeRow", "(II)V"⟩, 129), (⟨"BlameCourtModel", "paramOf", "(II)I"⟩, 129), (⟨"BlameCourtModel", "elementOf", "(I)I"⟩, 129)]
theorem lw_r10 : ∀ q ∈ lw_privs_10, lw_okq q := List.forall_mem_cons.mpr ⟨lw_p144, List.forall_mem_cons.mpr ⟨lw_p145, List.forall_mem_cons.mpr ⟨lw_p146, List.forall_mem_cons.mpr ⟨lw_p147, List.forall_mem_cons.mpr ⟨lw_p148, List.forall_mem_cons.mpr ⟨lw_p149, List.forall_mem_cons.mpr ⟨lw_p150, List.forall_mem_cons.mpr ⟨lw_p151, List.forall_mem_cons.mpr ⟨lw_p152, List.forall_mem_cons.mpr ⟨lw_p153, List.forall_mem_cons.mpr ⟨lw_p154, List.forall_mem_cons.mpr ⟨lw_p155, List.forall_mem_cons.mpr ⟨lw_p156, List.forall_mem_cons.mpr ⟨lw_p157, List.forall_mem_cons.mpr ⟨lw_p158, List.forall_mem_cons.mpr ⟨lw_p159, fun _ h => absurd h List.not_mem_nil⟩⟩⟩⟩⟩⟩⟩⟩⟩⟩⟩⟩⟩⟩⟩⟩
theorem lw_p160 : lw_okq (⟨"BlameCourtModel", "judgeMore", "(II)V"⟩, 129) := ⟨⟨by decide +kernel, by decide +kernel⟩, List.mem_of_getElem? (i := 1166) (by decide +kernel), List.mem_of_getElem? (i := 1867) (by decide +kernel), List.mem_of_getElem? (i := 1868) (by decide +kernel)⟩
theorem lw_p161 : lw_okq (⟨"BlameCourtModel", "toldKind", "(I)I"⟩, 129) := ⟨⟨by decide +kernel, by decide +kernel⟩, List.mem_of_getElem? (i := 1166) (by decide +kernel), List.mem_of_getElem? (i := 1871) (by decide +kernel), List.mem_of_getElem? (i := 1872) (by decide +kernel)⟩
theorem lw_p162 : lw_okq (⟨"BlameCourtModel", "judgeJoin", "(I)V"⟩, 129) := ⟨⟨by decide +kernel, by decide +kernel⟩, List.mem_of_getElem? (i := 1166) (by decide +kernel), List.mem_of_getElem? (i := 1875) (by decide +kernel), List.mem_of_getElem? (i := 1876) (by decide +kernel)⟩
theorem lw_p163 : lw_okq (⟨"BlameCourtModel", "judgeElements", "(I)V"⟩, 129) := ⟨⟨by decide +kernel, by decide +kernel⟩, List.mem_of_getElem? (i := 1166) (by decide +kernel), List.mem_of_getElem? (i := 1879) (by decide +kernel), List.mem_of_getElem? (i := 1880) (by decide +kernel)⟩
theorem lw_p164 : lw_okq (⟨"BlameCourtModel", "resultOf", "(I)I"⟩, 129) := ⟨⟨by decide +kernel, by decide +kernel⟩, List.mem_of_getElem? (i := 1166) (by decide +kernel), List.mem_of_getElem? (i := 1883) (by decide +kernel), List.mem_of_getElem? (i := 1884) (by decide +kernel)⟩
theorem lw_p165 : lw_okq (⟨"BlameCourtModel", "starts", "(I)I"⟩, 129) := ⟨⟨by decide +kernel, by decide +kernel⟩, List.mem_of_getElem? (i := 1166) (by decide +kernel), List.mem_of_getElem? (i := 1911) (by decide +kernel), List.mem_of_getElem? (i := 1912) (by decide +kernel)⟩
theorem lw_p166 : lw_okq (⟨"BlameCourtModel", "calls", "(III)V"⟩, 129) := ⟨⟨by decide +kernel, by decide +kernel⟩, List.mem_of_getElem? (i := 1166) (by decide +kernel), List.mem_of_getElem? (i := 1915) (by decide +kernel), List.mem_of_getElem? (i := 1916) (by decide +kernel)⟩
theorem lw_p167 : lw_okq (⟨"BlameCourtModel", "ends", "(II)V"⟩, 129) := ⟨⟨by decide +kernel, by decide +kernel⟩, List.mem_of_getElem? (i := 1166) (by decide +kernel), List.mem_of_getElem? (i := 1919) (by decide +kernel), List.mem_of_getElem? (i := 1920) (by decide +kernel)⟩
theorem lw_p168 : lw_okq (⟨"BlameCourtModel", "isOn", "()Z"⟩, 129) := ⟨⟨by decide +kernel, by decide +kernel⟩, List.mem_of_getElem? (i := 1166) (by decide +kernel), List.mem_of_getElem? (i := 1923) (by decide +kernel), List.mem_of_getElem? (i := 1924) (by decide +kernel)⟩
theorem lw_p169 : lw_okq (⟨"BlameCourtModel", "does", "(II)I"⟩, 129) := ⟨⟨by decide +kernel, by decide +kernel⟩, List.mem_of_getElem? (i := 1166) (by decide +kernel), List.mem_of_getElem? (i := 1927) (by decide +kernel), List.mem_of_getElem? (i := 1928) (by decide +kernel)⟩
theorem lw_p170 : lw_okq (⟨"BlameCourtModel", "value", "(II)V"⟩, 129) := ⟨⟨by decide +kernel, by decide +kernel⟩, List.mem_of_getElem? (i := 1166) (by decide +kernel), List.mem_of_getElem? (i := 1931) (by decide +kernel), List.mem_of_getElem? (i := 1932) (by decide +kernel)⟩
theorem lw_p171 : lw_okq (⟨"BlameCourtModel", "guarded", "(III)V"⟩, 129) := ⟨⟨by decide +kernel, by decide +kernel⟩, List.mem_of_getElem? (i := 1166) (by decide +kernel), List.mem_of_getElem? (i := 1935) (by decide +kernel), List.mem_of_getElem? (i := 1936) (by decide +kernel)⟩
theorem lw_p172 : lw_okq (⟨"BlameCourtModel", "asks", "(IIIIII)V"⟩, 129) := ⟨⟨by decide +kernel, by decide +kernel⟩, List.mem_of_getElem? (i := 1166) (by decide +kernel), List.mem_of_getElem? (i := 1939) (by decide +kernel), List.mem_of_getElem? (i := 1940) (by decide +kernel)⟩
theorem lw_p173 : lw_okq (⟨"BlameCourtModel", "isOfSort", "(II)Z"⟩, 129) := ⟨⟨by decide +kernel, by decide +kernel⟩, List.mem_of_getElem? (i := 1166) (by decide +kernel), List.mem_of_getElem? (i := 1943) (by decide +kernel), List.mem_of_getElem? (i := 1944) (by decide +kernel)⟩
theorem lw_p174 : lw_okq (⟨"BlameCourtModel", "within", "(II)I"⟩, 129) := ⟨⟨by decide +kernel, by decide +kernel⟩, List.mem_of_getElem? (i := 1166) (by decide +kernel), List.mem_of_getElem? (i := 1947) (by decide +kernel), List.mem_of_getElem? (i := 1948) (by decide +kernel)⟩
theorem lw_p175 : lw_okq (⟨"BlameCourtModel", "wraps", "(IIIIII)V"⟩, 129) := ⟨⟨by decide +kernel, by decide +kernel⟩, List.mem_of_getElem? (i := 1166) (by decide +kernel), List.mem_of_getElem? (i := 1951) (by decide +kernel), List.mem_of_getElem? (i := 1952) (by decide +kernel)⟩
def lw_privs_11 : List (MethodName × Nat) := [(⟨"BlameCourtModel", "judgeMore", "(II)V"⟩, 129), (⟨"BlameCourtModel", "toldKind", "(I)I"⟩, 129), (⟨"BlameCourtModel", "judgeJoin", "(I)V"⟩, 129), (⟨"BlameCourtModel", "judgeElements", "(I)V"⟩, 129), (⟨"BlameCourtModel", "resultOf", "(I)I"⟩, 129), (⟨"BlameCourtModel", "starts", "(I)I"⟩, 129), (⟨"BlameCourtModel", "calls", "(III)V"⟩, 129), (⟨"BlameCourtModel", "ends", "(II)V"⟩, 129), (⟨"BlameCourtModel", "isOn", "()Z"⟩, 129), (⟨"BlameCourtModel", "does", "(II)I"⟩, 129), (⟨"BlameCourtModel", "value", "(II)V"⟩, 129), (⟨"BlameCourtModel", "guarded", "(III)V"⟩, 129), (⟨"BlameCourtModel", "asks", "(IIIIII)V"⟩, 129), (⟨"BlameCourtModel", "isOfSort", "(II)Z"⟩, 129), (⟨"BlameCourtModel", "within", "(II)I"⟩, 129), (⟨"BlameCourtModel", "wraps", "(IIIIII)V"⟩, 129)]
theorem lw_r11 : ∀ q ∈ lw_privs_11, lw_okq q := List.forall_mem_cons.mpr ⟨lw_p160, List.forall_mem_cons.mpr ⟨lw_p161, List.forall_mem_cons.mpr ⟨lw_p162, List.forall_mem_cons.mpr ⟨lw_p163, List.forall_mem_cons.mpr ⟨lw_p164, List.forall_mem_cons.mpr ⟨lw_p165, List.forall_mem_cons.mpr ⟨lw_p166, List.forall_mem_cons.mpr ⟨lw_p167, List.forall_mem_cons.mpr ⟨lw_p168, List.forall_mem_cons.mpr ⟨lw_p169, List.forall_mem_cons.mpr ⟨lw_p170, List.forall_mem_cons.mpr ⟨lw_p171, List.forall_mem_cons.mpr ⟨lw_p172, List.forall_mem_cons.mpr ⟨lw_p173, List.forall_mem_cons.mpr ⟨lw_p174, List.forall_mem_cons.mpr ⟨lw_p175, fun _ h => absurd h List.not_mem_nil⟩⟩⟩⟩⟩⟩⟩⟩⟩⟩⟩⟩⟩⟩⟩⟩
theorem lw_p176 : lw_okq (⟨"BlameCourtModel", "deep", "(II)I"⟩, 129) := ⟨⟨by decide +kernel, by decide +kernel⟩, List.mem_of_getElem? (i := 1166) (by decide +kernel), List.mem_of_getElem? (i := 1955) (by decide +kernel), List.mem_of_getElem? (i := 1956) (by decide +kernel)⟩
theorem lw_p177 : lw_okq (⟨"BlameCourtModel", "call", "(II)I"⟩, 129) := ⟨⟨by decide +kernel, by decide +kernel⟩, List.mem_of_getElem? (i := 1166) (by decide +kernel), List.mem_of_getElem? (i := 1959) (by decide +kernel), List.mem_of_getElem? (i := 1960) (by decide +kernel)⟩
theorem lw_p178 : lw_okq (⟨"BlameCourtModel", "goesBack", "()I"⟩, 129) := ⟨⟨by decide +kernel, by decide +kernel⟩, List.mem_of_getElem? (i := 1166) (by decide +kernel), List.mem_of_getElem? (i := 1963) (by decide +kernel), List.mem_of_getElem? (i := 1964) (by decide +kernel)⟩
theorem lw_p179 : lw_okq (⟨"BlameCourtModel", "works", "(II)V"⟩, 129) := ⟨⟨by decide +kernel, by decide +kernel⟩, List.mem_of_getElem? (i := 1166) (by decide +kernel), List.mem_of_getElem? (i := 1967) (by decide +kernel), List.mem_of_getElem? (i := 1968) (by decide +kernel)⟩
theorem lw_p180 : lw_okq (⟨"BlameCourtModel", "row", "(II)I"⟩, 129) := ⟨⟨by decide +kernel, by decide +kernel⟩, List.mem_of_getElem? (i := 1166) (by decide +kernel), List.mem_of_getElem? (i := 1971) (by decide +kernel), List.mem_of_getElem? (i := 1972) (by decide +kernel)⟩
theorem lw_p181 : lw_okq (⟨"BlameCourtModel", "makes", "(I)V"⟩, 129) := ⟨⟨by decide +kernel, by decide +kernel⟩, List.mem_of_getElem? (i := 1166) (by decide +kernel), List.mem_of_getElem? (i := 1975) (by decide +kernel), List.mem_of_getElem? (i := 1976) (by decide +kernel)⟩
theorem lw_p182 : lw_okq (⟨"BlameCourtModel", "sums", "(I)V"⟩, 129) := ⟨⟨by decide +kernel, by decide +kernel⟩, List.mem_of_getElem? (i := 1166) (by decide +kernel), List.mem_of_getElem? (i := 1979) (by decide +kernel), List.mem_of_getElem? (i := 1980) (by decide +kernel)⟩
theorem lw_p183 : lw_okq (⟨"BlameCourtModel", "readsPlace", "(I)V"⟩, 129) := ⟨⟨by decide +kernel, by decide +kernel⟩, List.mem_of_getElem? (i := 1166) (by decide +kernel), List.mem_of_getElem? (i := 1983) (by decide +kernel), List.mem_of_getElem? (i := 1984) (by decide +kernel)⟩
theorem lw_p184 : lw_okq (⟨"BlameCourtModel", "aroundOf", "(I)I"⟩, 129) := ⟨⟨by decide +kernel, by decide +kernel⟩, List.mem_of_getElem? (i := 1166) (by decide +kernel), List.mem_of_getElem? (i := 1987) (by decide +kernel), List.mem_of_getElem? (i := 1988) (by decide +kernel)⟩
theorem lw_p185 : lw_okq (⟨"BlameCourtModel", "writes", "(I)V"⟩, 129) := ⟨⟨by decide +kernel, by decide +kernel⟩, List.mem_of_getElem? (i := 1166) (by decide +kernel), List.mem_of_getElem? (i := 1991) (by decide +kernel), List.mem_of_getElem? (i := 1992) (by decide +kernel)⟩
def lw_privs_12 : List (MethodName × Nat) := [(⟨"BlameCourtModel", "deep", "(II)I"⟩, 129), (⟨"BlameCourtModel", "call", "(II)I"⟩, 129), (⟨"BlameCourtModel", "goesBack", "()I"⟩, 129), (⟨"BlameCourtModel", "works", "(II)V"⟩, 129), (⟨"BlameCourtModel", "row", "(II)I"⟩, 129), (⟨"BlameCourtModel", "makes", "(I)V"⟩, 129), (⟨"BlameCourtModel", "sums", "(I)V"⟩, 129), (⟨"BlameCourtModel", "readsPlace", "(I)V"⟩, 129), (⟨"BlameCourtModel", "aroundOf", "(I)I"⟩, 129), (⟨"BlameCourtModel", "writes", "(I)V"⟩, 129)]
theorem lw_r12 : ∀ q ∈ lw_privs_12, lw_okq q := List.forall_mem_cons.mpr ⟨lw_p176, List.forall_mem_cons.mpr ⟨lw_p177, List.forall_mem_cons.mpr ⟨lw_p178, List.forall_mem_cons.mpr ⟨lw_p179, List.forall_mem_cons.mpr ⟨lw_p180, List.forall_mem_cons.mpr ⟨lw_p181, List.forall_mem_cons.mpr ⟨lw_p182, List.forall_mem_cons.mpr ⟨lw_p183, List.forall_mem_cons.mpr ⟨lw_p184, List.forall_mem_cons.mpr ⟨lw_p185, fun _ h => absurd h List.not_mem_nil⟩⟩⟩⟩⟩⟩⟩⟩⟩⟩
def lw_privs : List (MethodName × Nat) := lw_privs_1 ++ (lw_privs_2 ++ (lw_privs_3 ++ (lw_privs_4 ++ (lw_privs_5 ++ (lw_privs_6 ++ (lw_privs_7 ++ (lw_privs_8 ++ (lw_privs_9 ++ (lw_privs_10 ++ (lw_privs_11 ++ (lw_privs_12)))))))))))
def lw_tbl : List Cond := k2_sels lw_privs ++ tables_1
theorem lw_privs_ok : ∀ q ∈ lw_privs, lw_okq q := by
  show ∀ q ∈ lw_privs_1 ++ (lw_privs_2 ++ (lw_privs_3 ++ (lw_privs_4 ++ (lw_privs_5 ++ (lw_privs_6 ++ (lw_privs_7 ++ (lw_privs_8 ++ (lw_privs_9 ++ (lw_privs_10 ++ (lw_privs_11 ++ (lw_privs_12))))))))))), lw_okq q
  exact List.forall_mem_append.mpr ⟨lw_r1, List.forall_mem_append.mpr ⟨lw_r2, List.forall_mem_append.mpr ⟨lw_r3, List.forall_mem_append.mpr ⟨lw_r4, List.forall_mem_append.mpr ⟨lw_r5, List.forall_mem_append.mpr ⟨lw_r6, List.forall_mem_append.mpr ⟨lw_r7, List.forall_mem_append.mpr ⟨lw_r8, List.forall_mem_append.mpr ⟨lw_r9, List.forall_mem_append.mpr ⟨lw_r10, List.forall_mem_append.mpr ⟨lw_r11, lw_r12⟩⟩⟩⟩⟩⟩⟩⟩⟩⟩⟩

def RX0 : String := "BlameCourt$Guards"
def TX0 : u_T := fun k => match k with
  | 0 => ("BlameCourt$Guards", "place", "[I", true)
  | 1 => ("BlameCourt$Guards", "give\x72", "[I", true)
  | 2 => ("BlameCourt$Guards", "take\x72", "[I", true)
  | 3 => ("BlameCourt$Guards", "from", "[I", true)
  | 4 => ("BlameCourt$Guards", "to", "[I", true)
  | _ => ("BlameCourt$Guards", "count", "I", false)
def tyX0 : Nat → FieldType := fun k => match k with
  | 0 => .array .int
  | 1 => .array .int
  | 2 => .array .int
  | 3 => .array .int
  | 4 => .array .int
  | _ => .int
theorem nmX0 : ∀ a, a < 6 → ∀ b, b < 6 → a ≠ b → (TX0 a).2.1 ≠ (TX0 b).2.1 := by decide +kernel
theorem tyX0_ok : ∀ k, k < 6 → parseFieldDescriptor (TX0 k).2.2.1 = some (tyX0 k) := by decide +kernel
abbrev dfX0 : List Value := [.null, .null, .null, .null, .null, .int 0]
theorem hdfX0 : dfX0.length = 6 := rfl
set_option maxRecDepth 20000 in
theorem dfX0_ok : (List.range 6).map (fun j => defaultValue (tyX0 j)) = dfX0 := rfl
def RX1 : String := "BlameCourt$Heap"
def TX1 : u_T := fun k => match k with
  | 0 => ("BlameCourt$Heap", "rows", "I", false)
  | 1 => ("BlameCourt$Heap", "places", "I", false)
  | 2 => ("BlameCourt$Heap", "wrappings", "I", false)
  | 3 => ("BlameCourt$Heap", "rowFrom", "[I", true)
  | 4 => ("BlameCourt$Heap", "rowLength", "[I", true)
  | 5 => ("BlameCourt$Heap", "cell", "[J", true)
  | 6 => ("BlameCourt$Heap", "within", "[J", true)
  | 7 => ("BlameCourt$Heap", "from", "[I", true)
  | 8 => ("BlameCourt$Heap", "to", "[I", true)
  | 9 => ("BlameCourt$Heap", "give\x72", "[I", true)
  | 10 => ("BlameCourt$Heap", "take\x72", "[I", true)
  | 11 => ("BlameCourt$Heap", "place", "[I", true)
  | _ => ("BlameCourt$Heap", "around", "[I", true)
def tyX1 : Nat → FieldType := fun k => match k with
  | 0 => .int
  | 1 => .int
  | 2 => .int
  | 3 => .array .int
  | 4 => .array .int
  | 5 => .array .long
  | 6 => .array .long
  | 7 => .array .int
  | 8 => .array .int
  | 9 => .array .int
  | 10 => .array .int
  | 11 => .array .int
  | _ => .array .int
theorem nmX1 : ∀ a, a < 13 → ∀ b, b < 13 → a ≠ b → (TX1 a).2.1 ≠ (TX1 b).2.1 := by decide +kernel
theorem tyX1_ok : ∀ k, k < 13 → parseFieldDescriptor (TX1 k).2.2.1 = some (tyX1 k) := by decide +kernel
abbrev dfX1 : List Value := [.int 0, .int 0, .int 0, .null, .null, .null, .null, .null, .null, .null, .null, .null, .null]
theorem hdfX1 : dfX1.length = 13 := rfl
set_option maxRecDepth 20000 in
theorem dfX1_ok : (List.range 13).map (fun j => defaultValue (tyX1 j)) = dfX1 := rfl
def RX2 : String := "BlameCourt$Judging"
def TX2 : u_T := fun k => match k with
  | 0 => ("BlameCourt$Judging", "guards", "LBlameCourt$Guards;", false)
  | 1 => ("BlameCourt$Judging", "program", "LBlameCourt$Program;", false)
  | 2 => ("BlameCourt$Judging", "kinds", "LBlameCourt$Kinds;", false)
  | 3 => ("BlameCourt$Judging", "inPart", "I", false)
  | 4 => ("BlameCourt$Judging", "fault", "I", false)
  | 5 => ("BlameCourt$Judging", "faultPlace", "I", false)
  | 6 => ("BlameCourt$Judging", "anyStands", "[Z", true)
  | 7 => ("BlameCourt$Judging", "paramKind", "[I", true)
  | 8 => ("BlameCourt$Judging", "ownKind", "[I", true)
  | 9 => ("BlameCourt$Judging", "partKind", "[I", true)
  | 10 => ("BlameCourt$Judging", "localKind", "[I", true)
  | 11 => ("BlameCourt$Judging", "stack", "[I", true)
  | 12 => ("BlameCourt$Judging", "askedAt", "[I", true)
  | 13 => ("BlameCourt$Judging", "takerOf", "[I", true)
  | _ => ("BlameCourt$Judging", "top", "I", false)
def tyX2 : Nat → FieldType := fun k => match k with
  | 0 => .object "BlameCourt$Guards"
  | 1 => .object "BlameCourt$Program"
  | 2 => .object "BlameCourt$Kinds"
  | 3 => .int
  | 4 => .int
  | 5 => .int
  | 6 => .array .boolean
  | 7 => .array .int
  | 8 => .array .int
  | 9 => .array .int
  | 10 => .array .int
  | 11 => .array .int
  | 12 => .array .int
  | 13 => .array .int
  | _ => .int
theorem nmX2 : ∀ a, a < 15 → ∀ b, b < 15 → a ≠ b → (TX2 a).2.1 ≠ (TX2 b).2.1 := by decide +kernel
theorem tyX2_ok : ∀ k, k < 15 → parseFieldDescriptor (TX2 k).2.2.1 = some (tyX2 k) := by decide +kernel
abbrev dfX2 : List Value := [.null, .null, .null, .int 0, .int 0, .int 0, .null, .null, .null, .null, .null, .null, .null, .null, .int 0]
theorem hdfX2 : dfX2.length = 15 := rfl
set_option maxRecDepth 20000 in
theorem dfX2_ok : (List.range 15).map (fun j => defaultValue (tyX2 j)) = dfX2 := rfl
def RX3 : String := "BlameCourt$Kinds"
def TX3 : u_T := fun k => match k with
  | 0 => ("BlameCourt$Kinds", "count", "I", false)
  | 1 => ("BlameCourt$Kinds", "sort", "[I", true)
  | 2 => ("BlameCourt$Kinds", "takes", "[I", true)
  | 3 => ("BlameCourt$Kinds", "inne\x72", "[I", true)
  | 4 => ("BlameCourt$Kinds", "code", "[I", true)
  | 5 => ("BlameCourt$Kinds", "hasAny", "[Z", true)
  | 6 => ("BlameCourt$Kinds", "bucket", "[I", true)
  | _ => ("BlameCourt$Kinds", "nextInBucket", "[I", true)
def tyX3 : Nat → FieldType := fun k => match k with
  | 0 => .int
  | 1 => .array .int
  | 2 => .array .int
  | 3 => .array .int
  | 4 => .array .int
  | 5 => .array .boolean
  | 6 => .array .int
  | _ => .array .int
theorem nmX3 : ∀ a, a < 8 → ∀ b, b < 8 → a ≠ b → (TX3 a).2.1 ≠ (TX3 b).2.1 := by decide +kernel
theorem tyX3_ok : ∀ k, k < 8 → parseFieldDescriptor (TX3 k).2.2.1 = some (tyX3 k) := by decide +kernel
abbrev dtX3 : List Value := []
theorem hdtX3 : dtX3.length = 0 := rfl
set_option maxRecDepth 20000 in
theorem dfX3_ok : (List.range 8).map (fun j => defaultValue (tyX3 j)) = [.int 0, .null, .null, .null, .null, .null, .null, .null] := rfl
def RX5 : String := "BlameCourt$Program"
def TX5 : u_T := fun k => match k with
  | 0 => ("BlameCourt$Program", "kinds", "LBlameCourt$Kinds;", true)
  | 1 => ("BlameCourt$Program", "parts", "I", false)
  | 2 => ("BlameCourt$Program", "mainPart", "I", false)
  | 3 => ("BlameCourt$Program", "isTold", "[Z", true)
  | 4 => ("BlameCourt$Program", "entry", "[I", true)
  | 5 => ("BlameCourt$Program", "textKinds", "I", false)
  | 6 => ("BlameCourt$Program", "length", "I", false)
  | 7 => ("BlameCourt$Program", "name", "[J", true)
  | 8 => ("BlameCourt$Program", "letters", "[I", true)
  | 9 => ("BlameCourt$Program", "partPlace", "[I", true)
  | 10 => ("BlameCourt$Program", "params", "[I", true)
  | 11 => ("BlameCourt$Program", "paramKind", "[I", true)
  | 12 => ("BlameCourt$Program", "ownKind", "[I", true)
  | 13 => ("BlameCourt$Program", "op", "[I", true)
  | 14 => ("BlameCourt$Program", "x", "[I", true)
  | 15 => ("BlameCourt$Program", "y", "[I", true)
  | _ => ("BlameCourt$Program", "place", "[I", true)
def tyX5 : Nat → FieldType := fun k => match k with
  | 0 => .object "BlameCourt$Kinds"
  | 1 => .int
  | 2 => .int
  | 3 => .array .boolean
  | 4 => .array .int
  | 5 => .int
  | 6 => .int
  | 7 => .array .long
  | 8 => .array .int
  | 9 => .array .int
  | 10 => .array .int
  | 11 => .array .int
  | 12 => .array .int
  | 13 => .array .int
  | 14 => .array .int
  | 15 => .array .int
  | _ => .array .int
theorem nmX5 : ∀ a, a < 17 → ∀ b, b < 17 → a ≠ b → (TX5 a).2.1 ≠ (TX5 b).2.1 := by decide +kernel
theorem tyX5_ok : ∀ k, k < 17 → parseFieldDescriptor (TX5 k).2.2.1 = some (tyX5 k) := by decide +kernel
abbrev dtX5 : List Value := [.null, .null, .null, .null, .null, .null, .null, .null, .null, .null]
theorem hdtX5 : dtX5.length = 10 := rfl
set_option maxRecDepth 20000 in
theorem dfX5_ok : (List.range 17).map (fun j => defaultValue (tyX5 j)) = .null :: .int 0 :: .int 0 :: .null :: .null :: .int 0 :: .int 0 :: dtX5 := rfl
def RX6 : String := "BlameCourt$Reade\x72"
def TX6 : u_T := fun k => match k with
  | 0 => ("BlameCourt$Reade\x72", "tokens", "LBlameCourt$Tokens;", true)
  | 1 => ("BlameCourt$Reade\x72", "program", "LBlameCourt$Program;", false)
  | 2 => ("BlameCourt$Reade\x72", "open", "I", false)
  | 3 => ("BlameCourt$Reade\x72", "fault", "I", false)
  | 4 => ("BlameCourt$Reade\x72", "faultPlace", "I", false)
  | 5 => ("BlameCourt$Reade\x72", "waiting", "I", false)
  | 6 => ("BlameCourt$Reade\x72", "listedKinds", "I", false)
  | 7 => ("BlameCourt$Reade\x72", "namePlace", "[I", true)
  | 8 => ("BlameCourt$Reade\x72", "local", "[J", true)
  | 9 => ("BlameCourt$Reade\x72", "locals", "I", false)
  | 10 => ("BlameCourt$Reade\x72", "waitingSign", "[I", true)
  | 11 => ("BlameCourt$Reade\x72", "waitingPlace", "[I", true)
  | 12 => ("BlameCourt$Reade\x72", "waitingLeft", "[I", true)
  | _ => ("BlameCourt$Reade\x72", "listedKind", "[I", true)
def tyX6 : Nat → FieldType := fun k => match k with
  | 0 => .object "BlameCourt$Tokens"
  | 1 => .object "BlameCourt$Program"
  | 2 => .int
  | 3 => .int
  | 4 => .int
  | 5 => .int
  | 6 => .int
  | 7 => .array .int
  | 8 => .array .long
  | 9 => .int
  | 10 => .array .int
  | 11 => .array .int
  | 12 => .array .int
  | _ => .array .int
theorem nmX6 : ∀ a, a < 14 → ∀ b, b < 14 → a ≠ b → (TX6 a).2.1 ≠ (TX6 b).2.1 := by decide +kernel
theorem tyX6_ok : ∀ k, k < 14 → parseFieldDescriptor (TX6 k).2.2.1 = some (tyX6 k) := by decide +kernel
abbrev dtX6 : List Value := [.null, .null, .int 0, .null, .null, .null, .null]
theorem hdtX6 : dtX6.length = 7 := rfl
set_option maxRecDepth 20000 in
theorem dfX6_ok : (List.range 14).map (fun j => defaultValue (tyX6 j)) = .null :: .null :: .int 0 :: .int 0 :: .int 0 :: .int 0 :: .int 0 :: dtX6 := rfl
def RX7 : String := "BlameCourt$Running"
def TX7 : u_T := fun k => match k with
  | 0 => ("BlameCourt$Running", "guards", "LBlameCourt$Guards;", false)
  | 1 => ("BlameCourt$Running", "heap", "LBlameCourt$Heap;", true)
  | 2 => ("BlameCourt$Running", "program", "LBlameCourt$Program;", false)
  | 3 => ("BlameCourt$Running", "guarded", "Z", false)
  | 4 => ("BlameCourt$Running", "going", "Z", false)
  | 5 => ("BlameCourt$Running", "ended", "I", false)
  | 6 => ("BlameCourt$Running", "endPlace", "I", false)
  | 7 => ("BlameCourt$Running", "blamed", "I", false)
  | 8 => ("BlameCourt$Running", "fuel", "I", false)
  | 9 => ("BlameCourt$Running", "steps", "I", false)
  | 10 => ("BlameCourt$Running", "pc", "I", false)
  | 11 => ("BlameCourt$Running", "calls", "I", false)
  | 12 => ("BlameCourt$Running", "returnTo", "[I", true)
  | 13 => ("BlameCourt$Running", "local", "[J", true)
  | 14 => ("BlameCourt$Running", "stack", "[J", true)
  | 15 => ("BlameCourt$Running", "top", "I", false)
  | 16 => ("BlameCourt$Running", "wrapping", "[I", true)
  | 17 => ("BlameCourt$Running", "outNumbers", "[I", true)
  | 18 => ("BlameCourt$Running", "outs", "I", false)
  | _ => ("BlameCourt$Running", "askings", "[I", true)
def tyX7 : Nat → FieldType := fun k => match k with
  | 0 => .object "BlameCourt$Guards"
  | 1 => .object "BlameCourt$Heap"
  | 2 => .object "BlameCourt$Program"
  | 3 => .boolean
  | 4 => .boolean
  | 5 => .int
  | 6 => .int
  | 7 => .int
  | 8 => .int
  | 9 => .int
  | 10 => .int
  | 11 => .int
  | 12 => .array .int
  | 13 => .array .long
  | 14 => .array .long
  | 15 => .int
  | 16 => .array .int
  | 17 => .array .int
  | 18 => .int
  | _ => .array .int
theorem nmX7 : ∀ a, a < 20 → ∀ b, b < 20 → a ≠ b → (TX7 a).2.1 ≠ (TX7 b).2.1 := by decide +kernel
theorem tyX7_ok : ∀ k, k < 20 → parseFieldDescriptor (TX7 k).2.2.1 = some (tyX7 k) := by decide +kernel
abbrev dfX7 : List Value := [.null, .null, .null, .int 0, .int 0, .int 0, .int 0, .int 0, .int 0, .int 0, .int 0, .int 0, .null, .null, .null, .int 0, .null, .null, .int 0, .null]
theorem hdfX7 : dfX7.length = 20 := rfl
set_option maxRecDepth 20000 in
theorem dfX7_ok : (List.range 20).map (fun j => defaultValue (tyX7 j)) = dfX7 := rfl
def RX9 : String := "BlameCourt$Tokens"
def TX9 : u_T := fun k => match k with
  | 0 => ("BlameCourt$Tokens", "text", "[B", false)
  | 1 => ("BlameCourt$Tokens", "length", "I", false)
  | 2 => ("BlameCourt$Tokens", "next", "I", false)
  | 3 => ("BlameCourt$Tokens", "type", "I", false)
  | 4 => ("BlameCourt$Tokens", "place", "I", false)
  | 5 => ("BlameCourt$Tokens", "letters", "J", false)
  | 6 => ("BlameCourt$Tokens", "letterCount", "I", false)
  | _ => ("BlameCourt$Tokens", "numbe\x72", "J", false)
def tyX9 : Nat → FieldType := fun k => match k with
  | 0 => .array .byte
  | 1 => .int
  | 2 => .int
  | 3 => .int
  | 4 => .int
  | 5 => .long
  | 6 => .int
  | _ => .long
theorem nmX9 : ∀ a, a < 8 → ∀ b, b < 8 → a ≠ b → (TX9 a).2.1 ≠ (TX9 b).2.1 := by decide +kernel
theorem tyX9_ok : ∀ k, k < 8 → parseFieldDescriptor (TX9 k).2.2.1 = some (tyX9 k) := by decide +kernel
abbrev dtX9 : List Value := []
theorem hdtX9 : dtX9.length = 0 := rfl
set_option maxRecDepth 20000 in
theorem dfX9_ok : (List.range 8).map (fun j => defaultValue (tyX9 j)) = [.null, .int 0, .int 0, .int 0, .int 0, .long 0, .int 0, .long 0] := rfl
def RX10 : String := "BlameCourt"
def TX10 : u_T := fun k => match k with
  | 0 => ("BlameCourt", "tape", "[B", true)
  | 1 => ("BlameCourt", "tapeLength", "I", false)
  | 2 => ("BlameCourt", "spare", "LBlameCourt$Program;", false)
  | 3 => ("BlameCourt", "hasProgram", "Z", false)
  | 4 => ("BlameCourt", "isJudged", "Z", false)
  | 5 => ("BlameCourt", "hasRun", "Z", false)
  | 6 => ("BlameCourt", "reade\x72", "LBlameCourt$Reader;", true)
  | 7 => ("BlameCourt", "latestFault", "I", false)
  | 8 => ("BlameCourt", "latestFaultPlace", "I", false)
  | 9 => ("BlameCourt", "program", "LBlameCourt$Program;", false)
  | 10 => ("BlameCourt", "guards", "LBlameCourt$Guards;", true)
  | 11 => ("BlameCourt", "judging", "LBlameCourt$Judging;", true)
  | _ => ("BlameCourt", "running", "LBlameCourt$Running;", true)
def tyX10 : Nat → FieldType := fun k => match k with
  | 0 => .array .byte
  | 1 => .int
  | 2 => .object "BlameCourt$Program"
  | 3 => .boolean
  | 4 => .boolean
  | 5 => .boolean
  | 6 => .object "BlameCourt$Reade\x72"
  | 7 => .int
  | 8 => .int
  | 9 => .object "BlameCourt$Program"
  | 10 => .object "BlameCourt$Guards"
  | 11 => .object "BlameCourt$Judging"
  | _ => .object "BlameCourt$Running"
theorem nmX10 : ∀ a, a < 13 → ∀ b, b < 13 → a ≠ b → (TX10 a).2.1 ≠ (TX10 b).2.1 := by decide +kernel
theorem tyX10_ok : ∀ k, k < 13 → parseFieldDescriptor (TX10 k).2.2.1 = some (tyX10 k) := by decide +kernel
abbrev dtX10 : List Value := [.null, .null, .null, .null]
theorem hdtX10 : dtX10.length = 4 := rfl
set_option maxRecDepth 20000 in
theorem dfX10_ok : (List.range 13).map (fun j => defaultValue (tyX10 j)) = .null :: .int 0 :: .null :: .int 0 :: .int 0 :: .int 0 :: .null :: .int 0 :: .int 0 :: dtX10 := rfl
def RX11 : String := "BlameCourtModel"
def TX11 : u_T := fun k => match k with
  | 0 => ("BlameCourtModel", "taped", "I", false)
  | 1 => ("BlameCourtModel", "length", "I", false)
  | 2 => ("BlameCourtModel", "formerLength", "I", false)
  | 3 => ("BlameCourtModel", "hasProgram", "Z", false)
  | 4 => ("BlameCourtModel", "isJudged", "Z", false)
  | 5 => ("BlameCourtModel", "at", "I", false)
  | 6 => ("BlameCourtModel", "token", "I", false)
  | 7 => ("BlameCourtModel", "sort", "I", false)
  | 8 => ("BlameCourtModel", "letters", "I", false)
  | 9 => ("BlameCourtModel", "wrong", "I", false)
  | 10 => ("BlameCourtModel", "wrongAt", "I", false)
  | 11 => ("BlameCourtModel", "fault", "I", false)
  | 12 => ("BlameCourtModel", "faultAt", "I", false)
  | 13 => ("BlameCourtModel", "kinds", "I", false)
  | 14 => ("BlameCourtModel", "textKinds", "I", false)
  | 15 => ("BlameCourtModel", "listed", "I", false)
  | 16 => ("BlameCourtModel", "textListed", "I", false)
  | 17 => ("BlameCourtModel", "givens", "I", false)
  | 18 => ("BlameCourtModel", "parts", "I", false)
  | 19 => ("BlameCourtModel", "nodes", "I", false)
  | 20 => ("BlameCourtModel", "scope", "I", false)
  | 21 => ("BlameCourtModel", "nest", "I", false)
  | 22 => ("BlameCourtModel", "frames", "I", false)
  | 23 => ("BlameCourtModel", "mode", "I", false)
  | 24 => ("BlameCourtModel", "hand", "I", false)
  | 25 => ("BlameCourtModel", "main", "I", false)
  | 26 => ("BlameCourtModel", "orders", "I", false)
  | 27 => ("BlameCourtModel", "tasks", "I", false)
  | 28 => ("BlameCourtModel", "guards", "I", false)
  | 29 => ("BlameCourtModel", "judged", "I", false)
  | 30 => ("BlameCourtModel", "depth", "I", false)
  | 31 => ("BlameCourtModel", "top", "I", false)
  | 32 => ("BlameCourtModel", "base", "I", false)
  | 33 => ("BlameCourtModel", "things", "I", false)
  | 34 => ("BlameCourtModel", "placed", "I", false)
  | 35 => ("BlameCourtModel", "rows", "I", false)
  | 36 => ("BlameCourtModel", "wraps", "I", false)
  | 37 => ("BlameCourtModel", "backs", "I", false)
  | 38 => ("BlameCourtModel", "calls", "I", false)
  | 39 => ("BlameCourtModel", "fuel", "I", false)
  | 40 => ("BlameCourtModel", "steps", "I", false)
  | 41 => ("BlameCourtModel", "hasRun", "Z", false)
  | 42 => ("BlameCourtModel", "isGuarded", "Z", false)
  | 43 => ("BlameCourtModel", "ended", "I", false)
  | 44 => ("BlameCourtModel", "endedAt", "I", false)
  | 45 => ("BlameCourtModel", "blamed", "I", false)
  | 46 => ("BlameCourtModel", "outs", "I", false)
  | 47 => ("BlameCourtModel", "told", "J", false)
  | 48 => ("BlameCourtModel", "tape", "[B", true)
  | 49 => ("BlameCourtModel", "text", "[B", true)
  | 50 => ("BlameCourtModel", "forme\x72", "[B", true)
  | 51 => ("BlameCourtModel", "kSort", "[I", true)
  | 52 => ("BlameCourtModel", "kMany", "[I", true)
  | 53 => ("BlameCourtModel", "kFirst", "[I", true)
  | 54 => ("BlameCourtModel", "kCode", "[I", true)
  | 55 => ("BlameCourtModel", "kAny", "[Z", true)
  | 56 => ("BlameCourtModel", "kList", "[I", true)
  | 57 => ("BlameCourtModel", "given", "[I", true)
  | 58 => ("BlameCourtModel", "partName", "[J", true)
  | 59 => ("BlameCourtModel", "partNameAt", "[I", true)
  | 60 => ("BlameCourtModel", "partNameMany", "[I", true)
  | 61 => ("BlameCourtModel", "partAt", "[I", true)
  | 62 => ("BlameCourtModel", "params", "[I", true)
  | 63 => ("BlameCourtModel", "paramKind", "[I", true)
  | 64 => ("BlameCourtModel", "partKind", "[I", true)
  | 65 => ("BlameCourtModel", "partBody", "[I", true)
  | 66 => ("BlameCourtModel", "isTold", "[Z", true)
  | 67 => ("BlameCourtModel", "node", "[I", true)
  | 68 => ("BlameCourtModel", "first", "[I", true)
  | 69 => ("BlameCourtModel", "where", "[I", true)
  | 70 => ("BlameCourtModel", "a", "[I", true)
  | 71 => ("BlameCourtModel", "b", "[I", true)
  | 72 => ("BlameCourtModel", "c", "[I", true)
  | 73 => ("BlameCourtModel", "v", "[I", true)
  | 74 => ("BlameCourtModel", "many", "[I", true)
  | 75 => ("BlameCourtModel", "afte\x72", "[I", true)
  | 76 => ("BlameCourtModel", "unknown", "[J", true)
  | 77 => ("BlameCourtModel", "scopeName", "[J", true)
  | 78 => ("BlameCourtModel", "pairA", "[I", true)
  | 79 => ("BlameCourtModel", "pairB", "[I", true)
  | 80 => ("BlameCourtModel", "openKind", "[I", true)
  | 81 => ("BlameCourtModel", "openFrom", "[I", true)
  | 82 => ("BlameCourtModel", "frame", "[I", true)
  | 83 => ("BlameCourtModel", "frameNode", "[I", true)
  | 84 => ("BlameCourtModel", "frameLast", "[I", true)
  | 85 => ("BlameCourtModel", "frameScope", "[I", true)
  | 86 => ("BlameCourtModel", "chain", "[I", true)
  | 87 => ("BlameCourtModel", "orde\x72", "[I", true)
  | 88 => ("BlameCourtModel", "of", "[I", true)
  | 89 => ("BlameCourtModel", "more", "[I", true)
  | 90 => ("BlameCourtModel", "guardOf", "[I", true)
  | 91 => ("BlameCourtModel", "partOrde\x72", "[I", true)
  | 92 => ("BlameCourtModel", "eitherAt", "[I", true)
  | 93 => ("BlameCourtModel", "elseAt", "[I", true)
  | 94 => ("BlameCourtModel", "overAt", "[I", true)
  | 95 => ("BlameCourtModel", "task", "[I", true)
  | 96 => ("BlameCourtModel", "taskOf", "[I", true)
  | 97 => ("BlameCourtModel", "taskMore", "[I", true)
  | 98 => ("BlameCourtModel", "callOf", "[I", true)
  | 99 => ("BlameCourtModel", "gPlace", "[I", true)
  | 100 => ("BlameCourtModel", "gFrom", "[I", true)
  | 101 => ("BlameCourtModel", "gTo", "[I", true)
  | 102 => ("BlameCourtModel", "gGive\x72", "[I", true)
  | 103 => ("BlameCourtModel", "gTake\x72", "[I", true)
  | 104 => ("BlameCourtModel", "standsAny", "[Z", true)
  | 105 => ("BlameCourtModel", "kindAt", "[I", true)
  | 106 => ("BlameCourtModel", "localKind", "[I", true)
  | 107 => ("BlameCourtModel", "vSort", "[I", true)
  | 108 => ("BlameCourtModel", "vWhat", "[I", true)
  | 109 => ("BlameCourtModel", "lSort", "[I", true)
  | 110 => ("BlameCourtModel", "lWhat", "[I", true)
  | 111 => ("BlameCourtModel", "isWrap", "[Z", true)
  | 112 => ("BlameCourtModel", "tFirst", "[I", true)
  | 113 => ("BlameCourtModel", "tMany", "[I", true)
  | 114 => ("BlameCourtModel", "tWithin", "[I", true)
  | 115 => ("BlameCourtModel", "tFrom", "[I", true)
  | 116 => ("BlameCourtModel", "tTo", "[I", true)
  | 117 => ("BlameCourtModel", "tGive\x72", "[I", true)
  | 118 => ("BlameCourtModel", "tTake\x72", "[I", true)
  | 119 => ("BlameCourtModel", "tPlace", "[I", true)
  | 120 => ("BlameCourtModel", "tDeep", "[I", true)
  | 121 => ("BlameCourtModel", "pSort", "[I", true)
  | 122 => ("BlameCourtModel", "pWhat", "[I", true)
  | 123 => ("BlameCourtModel", "backWrap", "[I", true)
  | 124 => ("BlameCourtModel", "backTo", "[I", true)
  | 125 => ("BlameCourtModel", "backBase", "[I", true)
  | 126 => ("BlameCourtModel", "out", "[I", true)
  | 127 => ("BlameCourtModel", "asks", "[I", true)
  | _ => ("BlameCourtModel", "around", "[I", true)
def tyX11 : Nat → FieldType := fun k => match k with
  | 0 => .int
  | 1 => .int
  | 2 => .int
  | 3 => .boolean
  | 4 => .boolean
  | 5 => .int
  | 6 => .int
  | 7 => .int
  | 8 => .int
  | 9 => .int
  | 10 => .int
  | 11 => .int
  | 12 => .int
  | 13 => .int
  | 14 => .int
  | 15 => .int
  | 16 => .int
  | 17 => .int
  | 18 => .int
  | 19 => .int
  | 20 => .int
  | 21 => .int
  | 22 => .int
  | 23 => .int
  | 24 => .int
  | 25 => .int
  | 26 => .int
  | 27 => .int
  | 28 => .int
  | 29 => .int
  | 30 => .int
  | 31 => .int
  | 32 => .int
  | 33 => .int
  | 34 => .int
  | 35 => .int
  | 36 => .int
  | 37 => .int
  | 38 => .int
  | 39 => .int
  | 40 => .int
  | 41 => .boolean
  | 42 => .boolean
  | 43 => .int
  | 44 => .int
  | 45 => .int
  | 46 => .int
  | 47 => .long
  | 48 => .array .byte
  | 49 => .array .byte
  | 50 => .array .byte
  | 51 => .array .int
  | 52 => .array .int
  | 53 => .array .int
  | 54 => .array .int
  | 55 => .array .boolean
  | 56 => .array .int
  | 57 => .array .int
  | 58 => .array .long
  | 59 => .array .int
  | 60 => .array .int
  | 61 => .array .int
  | 62 => .array .int
  | 63 => .array .int
  | 64 => .array .int
  | 65 => .array .int
  | 66 => .array .boolean
  | 67 => .array .int
  | 68 => .array .int
  | 69 => .array .int
  | 70 => .array .int
  | 71 => .array .int
  | 72 => .array .int
  | 73 => .array .int
  | 74 => .array .int
  | 75 => .array .int
  | 76 => .array .long
  | 77 => .array .long
  | 78 => .array .int
  | 79 => .array .int
  | 80 => .array .int
  | 81 => .array .int
  | 82 => .array .int
  | 83 => .array .int
  | 84 => .array .int
  | 85 => .array .int
  | 86 => .array .int
  | 87 => .array .int
  | 88 => .array .int
  | 89 => .array .int
  | 90 => .array .int
  | 91 => .array .int
  | 92 => .array .int
  | 93 => .array .int
  | 94 => .array .int
  | 95 => .array .int
  | 96 => .array .int
  | 97 => .array .int
  | 98 => .array .int
  | 99 => .array .int
  | 100 => .array .int
  | 101 => .array .int
  | 102 => .array .int
  | 103 => .array .int
  | 104 => .array .boolean
  | 105 => .array .int
  | 106 => .array .int
  | 107 => .array .int
  | 108 => .array .int
  | 109 => .array .int
  | 110 => .array .int
  | 111 => .array .boolean
  | 112 => .array .int
  | 113 => .array .int
  | 114 => .array .int
  | 115 => .array .int
  | 116 => .array .int
  | 117 => .array .int
  | 118 => .array .int
  | 119 => .array .int
  | 120 => .array .int
  | 121 => .array .int
  | 122 => .array .int
  | 123 => .array .int
  | 124 => .array .int
  | 125 => .array .int
  | 126 => .array .int
  | 127 => .array .int
  | _ => .array .int
theorem nmX11 : ∀ a, a < 129 → ∀ b, b < 129 → a ≠ b → (TX11 a).2.1 ≠ (TX11 b).2.1 := by decide +kernel
theorem tyX11_ok : ∀ k, k < 129 → parseFieldDescriptor (TX11 k).2.2.1 = some (tyX11 k) := by decide +kernel
abbrev dtX11 : List Value := []
theorem hdtX11 : dtX11.length = 0 := rfl
set_option maxRecDepth 20000 in
theorem dfX11_ok : (List.range 129).map (fun j => defaultValue (tyX11 j)) = [.int 0, .int 0, .int 0, .int 0, .int 0, .int 0, .int 0, .int 0, .int 0, .int 0, .int 0, .int 0, .int 0, .int 0, .int 0, .int 0, .int 0, .int 0, .int 0, .int 0, .int 0, .int 0, .int 0, .int 0, .int 0, .int 0, .int 0, .int 0, .int 0, .int 0, .int 0, .int 0, .int 0, .int 0, .int 0, .int 0, .int 0, .int 0, .int 0, .int 0, .int 0, .int 0, .int 0, .int 0, .int 0, .int 0, .int 0, .long 0, .null, .null, .null, .null, .null, .null, .null, .null, .null, .null, .null, .null, .null, .null, .null, .null, .null, .null, .null, .null, .null, .null, .null, .null, .null, .null, .null, .null, .null, .null, .null, .null, .null, .null, .null, .null, .null, .null, .null, .null, .null, .null, .null, .null, .null, .null, .null, .null, .null, .null, .null, .null, .null, .null, .null, .null, .null, .null, .null, .null, .null, .null, .null, .null, .null, .null, .null, .null, .null, .null, .null, .null, .null, .null, .null, .null, .null, .null, .null, .null, .null] := rfl
abbrev classes : List vw_C := [(RX0, TX0, 6), (RX1, TX1, 13), (RX2, TX2, 15), (RX3, TX3, 8), (RX5, TX5, 17), (RX6, TX6, 14), (RX7, TX7, 20), (RX9, TX9, 8), (RX10, TX10, 13), (RX11, TX11, 129)]
abbrev cX0_init : ByteArray := prog_2_method_1_code
def yX0_init : MethodName := ⟨RX0, "<init>", "()V"⟩
abbrev cX0_lay : ByteArray := prog_2_method_2_code
def yX0_lay : MethodName := ⟨RX0, "lay", "(IIIII)I"⟩
abbrev cX1_init : ByteArray := prog_3_method_1_code
def yX1_init : MethodName := ⟨RX1, "<init>", "()V"⟩
abbrev cX1_clear : ByteArray := prog_3_method_2_code
def yX1_clear : MethodName := ⟨RX1, "clea\x72", "()V"⟩
abbrev cX1_valueOf : ByteArray := prog_3_method_3_code
def yX1_valueOf : MethodName := ⟨RX1, "valueOf", "(II)J"⟩
abbrev cX1_sortOf : ByteArray := prog_3_method_4_code
def yX1_sortOf : MethodName := ⟨RX1, "sortOf", "(J)I"⟩
abbrev cX1_contentOf : ByteArray := prog_3_method_5_code
def yX1_contentOf : MethodName := ⟨RX1, "contentOf", "(J)I"⟩
abbrev cX1_hasRoom : ByteArray := prog_3_method_6_code
def yX1_hasRoom : MethodName := ⟨RX1, "hasRoom", "(I)Z"⟩
abbrev cX1_newRow : ByteArray := prog_3_method_7_code
def yX1_newRow : MethodName := ⟨RX1, "newRow", "(IJ)J"⟩
abbrev cX1_lengthOf : ByteArray := prog_3_method_8_code
def yX1_lengthOf : MethodName := ⟨RX1, "lengthOf", "(J)I"⟩
abbrev cX1_hasPlace : ByteArray := prog_3_method_9_code
def yX1_hasPlace : MethodName := ⟨RX1, "hasPlace", "(JI)Z"⟩
abbrev cX1_fetch : ByteArray := prog_3_method_10_code
def yX1_fetch : MethodName := ⟨RX1, "fetch", "(JI)J"⟩
abbrev cX1_store : ByteArray := prog_3_method_11_code
def yX1_store : MethodName := ⟨RX1, "store", "(JIJ)V"⟩
abbrev cX1_wrappingOf : ByteArray := prog_3_method_12_code
def yX1_wrappingOf : MethodName := ⟨RX1, "wrappingOf", "(J)I"⟩
abbrev cX1_core : ByteArray := prog_3_method_13_code
def yX1_core : MethodName := ⟨RX1, "core", "(J)J"⟩
abbrev cX1_wrappingsAround : ByteArray := prog_3_method_14_code
def yX1_wrappingsAround : MethodName := ⟨RX1, "wrappingsAround", "(J)I"⟩
abbrev cX2_init : ByteArray := prog_4_method_1_code
def yX2_init : MethodName := ⟨RX2, "<init>", "()V"⟩
abbrev cX2_judgeAll : ByteArray := prog_4_method_2_code
def yX2_judgeAll : MethodName := ⟨RX2, "judgeAll", "(LBlameCourt$Program;LBlameCourt$Guards;)V"⟩
abbrev cX2_takeHeader : ByteArray := prog_4_method_3_code
def yX2_takeHeader : MethodName := ⟨RX2, "takeHeade\x72", "(I)V"⟩
abbrev cX2_asTold : ByteArray := prog_4_method_4_code
def yX2_asTold : MethodName := ⟨RX2, "asTold", "(II)I"⟩
abbrev cX2_judgePart : ByteArray := prog_4_method_5_code
def yX2_judgePart : MethodName := ⟨RX2, "judgePart", "(I)V"⟩
abbrev cX2_push : ByteArray := prog_4_method_6_code
def yX2_push : MethodName := ⟨RX2, "push", "(I)V"⟩
abbrev cX2_pop : ByteArray := prog_4_method_7_code
def yX2_pop : MethodName := ⟨RX2, "pop", "()I"⟩
abbrev cX2_below : ByteArray := prog_4_method_8_code
def yX2_below : MethodName := ⟨RX2, "below", "(I)I"⟩
abbrev cX2_replace : ByteArray := prog_4_method_9_code
def yX2_replace : MethodName := ⟨RX2, "replace", "(II)V"⟩
abbrev cX2_judgePlain : ByteArray := prog_4_method_10_code
def yX2_judgePlain : MethodName := ⟨RX2, "judgePlain", "(II)V"⟩
abbrev cX2_judgeWork : ByteArray := prog_4_method_11_code
def yX2_judgeWork : MethodName := ⟨RX2, "judgeWork", "(II)V"⟩
abbrev cX2_bind : ByteArray := prog_4_method_12_code
def yX2_bind : MethodName := ⟨RX2, "bind", "(I)V"⟩
abbrev cX2_mix : ByteArray := prog_4_method_13_code
def yX2_mix : MethodName := ⟨RX2, "mix", "(I)I"⟩
abbrev cX2_layGuard : ByteArray := prog_4_method_14_code
def yX2_layGuard : MethodName := ⟨RX2, "layGuard", "(IIII)V"⟩
abbrev cX2_judgeAsking : ByteArray := prog_4_method_15_code
def yX2_judgeAsking : MethodName := ⟨RX2, "judgeAsking", "(I)V"⟩
abbrev cX2_takerBelow : ByteArray := prog_4_method_16_code
def yX2_takerBelow : MethodName := ⟨RX2, "takerBelow", "(I)I"⟩
abbrev cX2_meet : ByteArray := prog_4_method_17_code
def yX2_meet : MethodName := ⟨RX2, "meet", "(III)V"⟩
abbrev cX2_setTop : ByteArray := prog_4_method_18_code
def yX2_setTop : MethodName := ⟨RX2, "setTop", "(I)V"⟩
abbrev cX2_meetForm : ByteArray := prog_4_method_19_code
def yX2_meetForm : MethodName := ⟨RX2, "meetForm", "(III)V"⟩
abbrev cX2_meetCalled : ByteArray := prog_4_method_20_code
def yX2_meetCalled : MethodName := ⟨RX2, "meetCalled", "(II)V"⟩
abbrev cX2_refuse : ByteArray := prog_4_method_21_code
def yX2_refuse : MethodName := ⟨RX2, "refuse", "(II)V"⟩
abbrev cX3_init : ByteArray := prog_5_method_1_code
def yX3_init : MethodName := ⟨RX3, "<init>", "()V"⟩
abbrev cX3_forgetTexts : ByteArray := prog_5_method_2_code
def yX3_forgetTexts : MethodName := ⟨RX3, "forgetTexts", "()V"⟩
abbrev cX3_cutTo : ByteArray := prog_5_method_3_code
def yX3_cutTo : MethodName := ⟨RX3, "cutTo", "(I)V"⟩
abbrev cX3_rowOf : ByteArray := prog_5_method_4_code
def yX3_rowOf : MethodName := ⟨RX3, "rowOf", "(I)I"⟩
abbrev cX3_functionOf : ByteArray := prog_5_method_5_code
def yX3_functionOf : MethodName := ⟨RX3, "functionOf", "([IIII)I"⟩
abbrev cX3_bucketOf : ByteArray := prog_5_method_6_code
def yX3_bucketOf : MethodName := ⟨RX3, "bucketOf", "(I)I"⟩
abbrev cX3_findOrAdd : ByteArray := prog_5_method_7_code
def yX3_findOrAdd : MethodName := ⟨RX3, "findOrAdd", "(II[IIII)I"⟩
abbrev cX3_isSame : ByteArray := prog_5_method_8_code
def yX3_isSame : MethodName := ⟨RX3, "isSame", "(II[III)Z"⟩
abbrev cX3_codeOf : ByteArray := prog_5_method_9_code
def yX3_codeOf : MethodName := ⟨RX3, "codeOf", "(I)I"⟩
abbrev cX3_sortOf : ByteArray := prog_5_method_10_code
def yX3_sortOf : MethodName := ⟨RX3, "sortOf", "(I)I"⟩
abbrev cX3_hasAny : ByteArray := prog_5_method_11_code
def yX3_hasAny : MethodName := ⟨RX3, "hasAny", "(I)Z"⟩
abbrev cX3_takenBy : ByteArray := prog_5_method_12_code
def yX3_takenBy : MethodName := ⟨RX3, "takenBy", "(I)I"⟩
abbrev cX3_paramOf : ByteArray := prog_5_method_13_code
def yX3_paramOf : MethodName := ⟨RX3, "paramOf", "(II)I"⟩
abbrev cX3_givesOf : ByteArray := prog_5_method_14_code
def yX3_givesOf : MethodName := ⟨RX3, "givesOf", "(I)I"⟩
abbrev cX3_withAnys : ByteArray := prog_5_method_15_code
def yX3_withAnys : MethodName := ⟨RX3, "withAnys", "(I)I"⟩
abbrev cX3_fit : ByteArray := prog_5_method_16_code
def yX3_fit : MethodName := ⟨RX3, "fit", "(III)Z"⟩
abbrev cX5_init : ByteArray := prog_7_method_1_code
def yX5_init : MethodName := ⟨RX5, "<init>", "()V"⟩
abbrev cX5_clear : ByteArray := prog_7_method_2_code
def yX5_clear : MethodName := ⟨RX5, "clea\x72", "()V"⟩
abbrev cX5_letterOf : ByteArray := prog_7_method_3_code
def yX5_letterOf : MethodName := ⟨RX5, "letterOf", "(II)I"⟩
abbrev cX5_partOfName : ByteArray := prog_7_method_4_code
def yX5_partOfName : MethodName := ⟨RX5, "partOfName", "(J)I"⟩
abbrev cX5_paramsOf : ByteArray := prog_7_method_5_code
def yX5_paramsOf : MethodName := ⟨RX5, "paramsOf", "(I)I"⟩
abbrev cX5_emit : ByteArray := prog_7_method_6_code
def yX5_emit : MethodName := ⟨RX5, "emit", "(III)I"⟩
abbrev cX6_init : ByteArray := prog_8_method_1_code
def yX6_init : MethodName := ⟨RX6, "<init>", "()V"⟩
abbrev cX6_readInto : ByteArray := prog_8_method_2_code
def yX6_readInto : MethodName := ⟨RX6, "readInto", "(LBlameCourt$Program;[BI)V"⟩
abbrev cX6_refuse : ByteArray := prog_8_method_3_code
def yX6_refuse : MethodName := ⟨RX6, "refuse", "(I)V"⟩
abbrev cX6_refuseAt : ByteArray := prog_8_method_4_code
def yX6_refuseAt : MethodName := ⟨RX6, "refuseAt", "(II)V"⟩
abbrev cX6_want : ByteArray := prog_8_method_5_code
def yX6_want : MethodName := ⟨RX6, "want", "(I)V"⟩
abbrev cX6_enter : ByteArray := prog_8_method_6_code
def yX6_enter : MethodName := ⟨RX6, "ente\x72", "(I)V"⟩
abbrev cX6_takePartName : ByteArray := prog_8_method_7_code
def yX6_takePartName : MethodName := ⟨RX6, "takePartName", "(I)V"⟩
abbrev cX6_takeOwnKind : ByteArray := prog_8_method_8_code
def yX6_takeOwnKind : MethodName := ⟨RX6, "takeOwnKind", "(I)V"⟩
abbrev cX6_endPart : ByteArray := prog_8_method_9_code
def yX6_endPart : MethodName := ⟨RX6, "endPart", "(II)V"⟩
abbrev cX6_takeParams : ByteArray := prog_8_method_10_code
def yX6_takeParams : MethodName := ⟨RX6, "takeParams", "(I)V"⟩
abbrev cX6_pushLocal : ByteArray := prog_8_method_11_code
def yX6_pushLocal : MethodName := ⟨RX6, "pushLocal", "(J)V"⟩
abbrev cX6_slotOf : ByteArray := prog_8_method_12_code
def yX6_slotOf : MethodName := ⟨RX6, "slotOf", "(J)I"⟩
abbrev cX6_tookColon : ByteArray := prog_8_method_13_code
def yX6_tookColon : MethodName := ⟨RX6, "tookColon", "()Z"⟩
abbrev cX6_beginsKind : ByteArray := prog_8_method_14_code
def yX6_beginsKind : MethodName := ⟨RX6, "beginsKind", "()Z"⟩
abbrev cX6_takeKind : ByteArray := prog_8_method_15_code
def yX6_takeKind : MethodName := ⟨RX6, "takeKind", "()I"⟩
abbrev cX6_takeFunctionKind : ByteArray := prog_8_method_16_code
def yX6_takeFunctionKind : MethodName := ⟨RX6, "takeFunctionKind", "()I"⟩
abbrev cX6_takeKindList : ByteArray := prog_8_method_17_code
def yX6_takeKindList : MethodName := ⟨RX6, "takeKindList", "()V"⟩
abbrev cX6_placeOf : ByteArray := prog_8_method_18_code
def yX6_placeOf : MethodName := ⟨RX6, "placeOf", "(I)I"⟩
abbrev cX6_emitStep : ByteArray := prog_8_method_19_code
def yX6_emitStep : MethodName := ⟨RX6, "emitStep", "()I"⟩
abbrev cX6_addStep : ByteArray := prog_8_method_20_code
def yX6_addStep : MethodName := ⟨RX6, "addStep", "(I)V"⟩
abbrev cX6_takeE : ByteArray := prog_8_method_21_code
def yX6_takeE : MethodName := ⟨RX6, "takeE", "()I"⟩
abbrev cX6_takeLet : ByteArray := prog_8_method_22_code
def yX6_takeLet : MethodName := ⟨RX6, "takeLet", "()I"⟩
abbrev cX6_takeIf : ByteArray := prog_8_method_23_code
def yX6_takeIf : MethodName := ⟨RX6, "takeIf", "()I"⟩
abbrev cX6_takeC : ByteArray := prog_8_method_24_code
def yX6_takeC : MethodName := ⟨RX6, "takeC", "()I"⟩
abbrev cX6_levelOf : ByteArray := prog_8_method_25_code
def yX6_levelOf : MethodName := ⟨RX6, "levelOf", "(I)I"⟩
abbrev cX6_pushWaiting : ByteArray := prog_8_method_26_code
def yX6_pushWaiting : MethodName := ⟨RX6, "pushWaiting", "(I)V"⟩
abbrev cX6_applyWaiting : ByteArray := prog_8_method_27_code
def yX6_applyWaiting : MethodName := ⟨RX6, "applyWaiting", "(III)I"⟩
abbrev cX6_opOf : ByteArray := prog_8_method_28_code
def yX6_opOf : MethodName := ⟨RX6, "opOf", "(I)I"⟩
abbrev cX6_takeU : ByteArray := prog_8_method_29_code
def yX6_takeU : MethodName := ⟨RX6, "takeU", "()I"⟩
abbrev cX6_takePrefix : ByteArray := prog_8_method_30_code
def yX6_takePrefix : MethodName := ⟨RX6, "takePrefix", "(II)I"⟩
abbrev cX6_takeCall : ByteArray := prog_8_method_31_code
def yX6_takeCall : MethodName := ⟨RX6, "takeCall", "(I)V"⟩
abbrev cX6_takeList : ByteArray := prog_8_method_32_code
def yX6_takeList : MethodName := ⟨RX6, "takeList", "(III)I"⟩
abbrev cX6_beginsE : ByteArray := prog_8_method_33_code
def yX6_beginsE : MethodName := ⟨RX6, "beginsE", "()Z"⟩
abbrev cX6_takePlace : ByteArray := prog_8_method_34_code
def yX6_takePlace : MethodName := ⟨RX6, "takePlace", "()Z"⟩
abbrev cX6_takeB : ByteArray := prog_8_method_35_code
def yX6_takeB : MethodName := ⟨RX6, "takeB", "()I"⟩
abbrev cX6_takeDigits : ByteArray := prog_8_method_36_code
def yX6_takeDigits : MethodName := ⟨RX6, "takeDigits", "()V"⟩
abbrev cX6_takeName : ByteArray := prog_8_method_37_code
def yX6_takeName : MethodName := ⟨RX6, "takeName", "()V"⟩
abbrev cX6_takeNew : ByteArray := prog_8_method_38_code
def yX6_takeNew : MethodName := ⟨RX6, "takeNew", "()V"⟩
abbrev cX6_takeWork : ByteArray := prog_8_method_39_code
def yX6_takeWork : MethodName := ⟨RX6, "takeWork", "(II)V"⟩
abbrev cX6_takeBlock : ByteArray := prog_8_method_40_code
def yX6_takeBlock : MethodName := ⟨RX6, "takeBlock", "()V"⟩
abbrev cX6_resolve : ByteArray := prog_8_method_41_code
def yX6_resolve : MethodName := ⟨RX6, "resolve", "(I)V"⟩
abbrev cX6_resolveAt : ByteArray := prog_8_method_42_code
def yX6_resolveAt : MethodName := ⟨RX6, "resolveAt", "(I)V"⟩
abbrev cX7_init : ByteArray := prog_9_method_1_code
def yX7_init : MethodName := ⟨RX7, "<init>", "()V"⟩
abbrev cX7_runAll : ByteArray := prog_9_method_2_code
def yX7_runAll : MethodName := ⟨RX7, "runAll", "(LBlameCourt$Program;LBlameCourt$Guards;ZI)I"⟩
abbrev cX7_tellOf : ByteArray := prog_9_method_3_code
def yX7_tellOf : MethodName := ⟨RX7, "tellOf", "(I)I"⟩
abbrev cX7_contentTold : ByteArray := prog_9_method_4_code
def yX7_contentTold : MethodName := ⟨RX7, "contentTold", "(J)I"⟩
abbrev cX7_failWith : ByteArray := prog_9_method_5_code
def yX7_failWith : MethodName := ⟨RX7, "failWith", "(II)V"⟩
abbrev cX7_push : ByteArray := prog_9_method_6_code
def yX7_push : MethodName := ⟨RX7, "push", "(J)V"⟩
abbrev cX7_pop : ByteArray := prog_9_method_7_code
def yX7_pop : MethodName := ⟨RX7, "pop", "()J"⟩
abbrev cX7_popContent : ByteArray := prog_9_method_8_code
def yX7_popContent : MethodName := ⟨RX7, "popContent", "()I"⟩
abbrev cX7_pushNumber : ByteArray := prog_9_method_9_code
def yX7_pushNumber : MethodName := ⟨RX7, "pushNumbe\x72", "(I)V"⟩
abbrev cX7_pushTruth : ByteArray := prog_9_method_10_code
def yX7_pushTruth : MethodName := ⟨RX7, "pushTruth", "(Z)V"⟩
abbrev cX7_workPlain : ByteArray := prog_9_method_11_code
def yX7_workPlain : MethodName := ⟨RX7, "workPlain", "(III)V"⟩
abbrev cX7_makeSteps : ByteArray := prog_9_method_12_code
def yX7_makeSteps : MethodName := ⟨RX7, "makeSteps", "(II)V"⟩
abbrev cX7_slotAt : ByteArray := prog_9_method_13_code
def yX7_slotAt : MethodName := ⟨RX7, "slotAt", "(I)I"⟩
abbrev cX7_workRowOrCall : ByteArray := prog_9_method_14_code
def yX7_workRowOrCall : MethodName := ⟨RX7, "workRowOrCall", "(III)V"⟩
abbrev cX7_makeRow : ByteArray := prog_9_method_15_code
def yX7_makeRow : MethodName := ⟨RX7, "makeRow", "(II)V"⟩
abbrev cX7_makeNew : ByteArray := prog_9_method_16_code
def yX7_makeNew : MethodName := ⟨RX7, "makeNew", "(I)V"⟩
abbrev cX7_print : ByteArray := prog_9_method_17_code
def yX7_print : MethodName := ⟨RX7, "print", "(I)V"⟩
abbrev cX7_fetch : ByteArray := prog_9_method_18_code
def yX7_fetch : MethodName := ⟨RX7, "fetch", "(I)V"⟩
abbrev cX7_store : ByteArray := prog_9_method_19_code
def yX7_store : MethodName := ⟨RX7, "store", "(I)V"⟩
abbrev cX7_unwrap : ByteArray := prog_9_method_20_code
def yX7_unwrap : MethodName := ⟨RX7, "unwrap", "(J)I"⟩
abbrev cX7_askOutward : ByteArray := prog_9_method_21_code
def yX7_askOutward : MethodName := ⟨RX7, "askOutward", "(JJ)J"⟩
abbrev cX7_askInto : ByteArray := prog_9_method_22_code
def yX7_askInto : MethodName := ⟨RX7, "askInto", "(IIJ)J"⟩
abbrev cX7_callWith : ByteArray := prog_9_method_23_code
def yX7_callWith : MethodName := ⟨RX7, "callWith", "(II)V"⟩
abbrev cX7_enterPart : ByteArray := prog_9_method_24_code
def yX7_enterPart : MethodName := ⟨RX7, "enterPart", "(III)V"⟩
abbrev cX7_leavePart : ByteArray := prog_9_method_25_code
def yX7_leavePart : MethodName := ⟨RX7, "leavePart", "()V"⟩
abbrev cX7_workNumbers : ByteArray := prog_9_method_26_code
def yX7_workNumbers : MethodName := ⟨RX7, "workNumbers", "(II)V"⟩
abbrev cX7_resultOf : ByteArray := prog_9_method_27_code
def yX7_resultOf : MethodName := ⟨RX7, "resultOf", "(III)I"⟩
abbrev cX7_workAsking : ByteArray := prog_9_method_28_code
def yX7_workAsking : MethodName := ⟨RX7, "workAsking", "(I)V"⟩
abbrev cX7_askUntold : ByteArray := prog_9_method_29_code
def yX7_askUntold : MethodName := ⟨RX7, "askUntold", "(III)V"⟩
abbrev cX7_sortAskedBy : ByteArray := prog_9_method_30_code
def yX7_sortAskedBy : MethodName := ⟨RX7, "sortAskedBy", "(I)I"⟩
abbrev cX7_isSuch : ByteArray := prog_9_method_31_code
def yX7_isSuch : MethodName := ⟨RX7, "isSuch", "(JII)Z"⟩
abbrev cX7_ask : ByteArray := prog_9_method_32_code
def yX7_ask : MethodName := ⟨RX7, "ask", "(JIIIII)J"⟩
abbrev cX7_count : ByteArray := prog_9_method_33_code
def yX7_count : MethodName := ⟨RX7, "count", "(II)V"⟩
abbrev cX7_wrap : ByteArray := prog_9_method_34_code
def yX7_wrap : MethodName := ⟨RX7, "wrap", "(JIIIII)J"⟩
abbrev cX9_init : ByteArray := prog_11_method_1_code
def yX9_init : MethodName := ⟨RX9, "<init>", "()V"⟩
abbrev cX9_begin : ByteArray := prog_11_method_2_code
def yX9_begin : MethodName := ⟨RX9, "begin", "([BI)V"⟩
abbrev cX9_goTo : ByteArray := prog_11_method_3_code
def yX9_goTo : MethodName := ⟨RX9, "goTo", "(I)V"⟩
abbrev cX9_stop : ByteArray := prog_11_method_4_code
def yX9_stop : MethodName := ⟨RX9, "stop", "()V"⟩
abbrev cX9_advance : ByteArray := prog_11_method_5_code
def yX9_advance : MethodName := ⟨RX9, "advance", "()V"⟩
abbrev cX9_byteAt : ByteArray := prog_11_method_6_code
def yX9_byteAt : MethodName := ⟨RX9, "byteAt", "(I)I"⟩
abbrev cX9_isLetter : ByteArray := prog_11_method_7_code
def yX9_isLetter : MethodName := ⟨RX9, "isLette\x72", "(I)Z"⟩
abbrev cX9_isDigit : ByteArray := prog_11_method_8_code
def yX9_isDigit : MethodName := ⟨RX9, "isDigit", "(I)Z"⟩
abbrev cX9_takeWord : ByteArray := prog_11_method_9_code
def yX9_takeWord : MethodName := ⟨RX9, "takeWord", "()V"⟩
abbrev cX9_wordType : ByteArray := prog_11_method_10_code
def yX9_wordType : MethodName := ⟨RX9, "wordType", "()I"⟩
abbrev cX9_takeNumber : ByteArray := prog_11_method_11_code
def yX9_takeNumber : MethodName := ⟨RX9, "takeNumbe\x72", "()V"⟩
abbrev cX9_takeSign : ByteArray := prog_11_method_12_code
def yX9_takeSign : MethodName := ⟨RX9, "takeSign", "(I)V"⟩
abbrev cX9_isSign : ByteArray := prog_11_method_13_code
def yX9_isSign : MethodName := ⟨RX9, "isSign", "(I)Z"⟩
abbrev cX10_init : ByteArray := prog_1_method_1_code
def yX10_init : MethodName := ⟨RX10, "<init>", "()V"⟩
abbrev cX10_feed : ByteArray := prog_1_method_2_code
def yX10_feed : MethodName := ⟨RX10, "feed", "(IIIII)I"⟩
abbrev cX10_putFour : ByteArray := prog_1_method_3_code
def yX10_putFour : MethodName := ⟨RX10, "putFou\x72", "(I)V"⟩
abbrev cX10_end : ByteArray := prog_1_method_4_code
def yX10_end : MethodName := ⟨RX10, "end", "(I)I"⟩
abbrev cX10_read : ByteArray := prog_1_method_5_code
def yX10_read : MethodName := ⟨RX10, "read", "()I"⟩
abbrev cX10_fault : ByteArray := prog_1_method_6_code
def yX10_fault : MethodName := ⟨RX10, "fault", "(I)I"⟩
abbrev cX10_tell : ByteArray := prog_1_method_7_code
def yX10_tell : MethodName := ⟨RX10, "tell", "(IZ)Z"⟩
abbrev cX10_judge : ByteArray := prog_1_method_8_code
def yX10_judge : MethodName := ⟨RX10, "judge", "()I"⟩
abbrev cX10_guard : ByteArray := prog_1_method_9_code
def yX10_guard : MethodName := ⟨RX10, "guard", "(II)I"⟩
abbrev cX10_part : ByteArray := prog_1_method_10_code
def yX10_part : MethodName := ⟨RX10, "part", "(II)I"⟩
abbrev cX10_run : ByteArray := prog_1_method_11_code
def yX10_run : MethodName := ⟨RX10, "run", "(I)I"⟩
abbrev cX10_runUntold : ByteArray := prog_1_method_12_code
def yX10_runUntold : MethodName := ⟨RX10, "runUntold", "(I)I"⟩
abbrev cX10_told : ByteArray := prog_1_method_13_code
def yX10_told : MethodName := ⟨RX10, "told", "(I)I"⟩
abbrev cX10_out : ByteArray := prog_1_method_14_code
def yX10_out : MethodName := ⟨RX10, "out", "(I)I"⟩
abbrev cX10_asked : ByteArray := prog_1_method_15_code
def yX10_asked : MethodName := ⟨RX10, "asked", "(II)I"⟩
abbrev cX10_about : ByteArray := prog_1_method_16_code
def yX10_about : MethodName := ⟨RX10, "about", "(I)I"⟩
abbrev cX10_isPart : ByteArray := prog_1_method_17_code
def yX10_isPart : MethodName := ⟨RX10, "isPart", "(I)Z"⟩
abbrev cX10_isFuel : ByteArray := prog_1_method_18_code
def yX10_isFuel : MethodName := ⟨RX10, "isFuel", "(I)Z"⟩
abbrev cX11_in : ByteArray := prog_13_method_1_code
def yX11_in : MethodName := ⟨RX11, "in", "(III)Z"⟩
abbrev cX11_init : ByteArray := prog_13_method_2_code
def yX11_init : MethodName := ⟨RX11, "<init>", "()V"⟩
abbrev cX11_kinds : ByteArray := prog_13_method_3_code
def yX11_kinds : MethodName := ⟨RX11, "kinds", "(I)V"⟩
abbrev cX11_kindOf : ByteArray := prog_13_method_4_code
def yX11_kindOf : MethodName := ⟨RX11, "kindOf", "(III)I"⟩
abbrev cX11_rowOf : ByteArray := prog_13_method_5_code
def yX11_rowOf : MethodName := ⟨RX11, "rowOf", "(I)I"⟩
abbrev cX11_anyFunction : ByteArray := prog_13_method_6_code
def yX11_anyFunction : MethodName := ⟨RX11, "anyFunction", "(I)I"⟩
abbrev cX11_elementOf : ByteArray := prog_13_method_7_code
def yX11_elementOf : MethodName := ⟨RX11, "elementOf", "(I)I"⟩
abbrev cX11_resultOf : ByteArray := prog_13_method_8_code
def yX11_resultOf : MethodName := ⟨RX11, "resultOf", "(I)I"⟩
abbrev cX11_paramOf : ByteArray := prog_13_method_9_code
def yX11_paramOf : MethodName := ⟨RX11, "paramOf", "(II)I"⟩
abbrev cX11_fits : ByteArray := prog_13_method_10_code
def yX11_fits : MethodName := ⟨RX11, "fits", "(II)Z"⟩
abbrev cX11_put : ByteArray := prog_13_method_11_code
def yX11_put : MethodName := ⟨RX11, "put", "(I)V"⟩
abbrev cX11_feed : ByteArray := prog_13_method_12_code
def yX11_feed : MethodName := ⟨RX11, "feed", "(IIIII)I"⟩
abbrev cX11_end : ByteArray := prog_13_method_13_code
def yX11_end : MethodName := ⟨RX11, "end", "(I)I"⟩
abbrev cX11_isWell : ByteArray := prog_13_method_14_code
def yX11_isWell : MethodName := ⟨RX11, "isWell", "()Z"⟩
abbrev cX11_fails : ByteArray := prog_13_method_15_code
def yX11_fails : MethodName := ⟨RX11, "fails", "(II)V"⟩
abbrev cX11_stray : ByteArray := prog_13_method_16_code
def yX11_stray : MethodName := ⟨RX11, "stray", "()V"⟩
abbrev cX11_letterOf : ByteArray := prog_13_method_17_code
def yX11_letterOf : MethodName := ⟨RX11, "letterOf", "(I)I"⟩
abbrev cX11_next : ByteArray := prog_13_method_18_code
def yX11_next : MethodName := ⟨RX11, "next", "()V"⟩
abbrev cX11_name : ByteArray := prog_13_method_19_code
def yX11_name : MethodName := ⟨RX11, "name", "()V"⟩
abbrev cX11_wordOf : ByteArray := prog_13_method_20_code
def yX11_wordOf : MethodName := ⟨RX11, "wordOf", "(J)I"⟩
abbrev cX11_sign : ByteArray := prog_13_method_21_code
def yX11_sign : MethodName := ⟨RX11, "sign", "(I)V"⟩
abbrev cX11_isSign : ByteArray := prog_13_method_22_code
def yX11_isSign : MethodName := ⟨RX11, "isSign", "(I)Z"⟩
abbrev cX11_isWord : ByteArray := prog_13_method_23_code
def yX11_isWord : MethodName := ⟨RX11, "isWord", "(I)Z"⟩
abbrev cX11_takes : ByteArray := prog_13_method_24_code
def yX11_takes : MethodName := ⟨RX11, "takes", "(I)V"⟩
abbrev cX11_nests : ByteArray := prog_13_method_25_code
def yX11_nests : MethodName := ⟨RX11, "nests", "()V"⟩
abbrev cX11_opens : ByteArray := prog_13_method_26_code
def yX11_opens : MethodName := ⟨RX11, "opens", "(I)V"⟩
abbrev cX11_closes : ByteArray := prog_13_method_27_code
def yX11_closes : MethodName := ⟨RX11, "closes", "(I)V"⟩
abbrev cX11_kind : ByteArray := prog_13_method_28_code
def yX11_kind : MethodName := ⟨RX11, "kind", "()I"⟩
abbrev cX11_fifth : ByteArray := prog_13_method_29_code
def yX11_fifth : MethodName := ⟨RX11, "fifth", "(I)V"⟩
abbrev cX11_plainKind : ByteArray := prog_13_method_30_code
def yX11_plainKind : MethodName := ⟨RX11, "plainKind", "()I"⟩
abbrev cX11_make : ByteArray := prog_13_method_31_code
def yX11_make : MethodName := ⟨RX11, "make", "(II)I"⟩
abbrev cX11_enter : ByteArray := prog_13_method_32_code
def yX11_enter : MethodName := ⟨RX11, "ente\x72", "(II)V"⟩
abbrev cX11_expression : ByteArray := prog_13_method_33_code
def yX11_expression : MethodName := ⟨RX11, "expression", "()I"⟩
abbrev cX11_isBeginning : ByteArray := prog_13_method_34_code
def yX11_isBeginning : MethodName := ⟨RX11, "isBeginning", "()Z"⟩
abbrev cX11_begins : ByteArray := prog_13_method_35_code
def yX11_begins : MethodName := ⟨RX11, "begins", "()V"⟩
abbrev cX11_beginsLet : ByteArray := prog_13_method_36_code
def yX11_beginsLet : MethodName := ⟨RX11, "beginsLet", "()V"⟩
abbrev cX11_done : ByteArray := prog_13_method_37_code
def yX11_done : MethodName := ⟨RX11, "done", "(I)V"⟩
abbrev cX11_opened : ByteArray := prog_13_method_38_code
def yX11_opened : MethodName := ⟨RX11, "opened", "(II)V"⟩
abbrev cX11_operand : ByteArray := prog_13_method_39_code
def yX11_operand : MethodName := ⟨RX11, "operand", "()V"⟩
abbrev cX11_number : ByteArray := prog_13_method_40_code
def yX11_number : MethodName := ⟨RX11, "numbe\x72", "(I)V"⟩
abbrev cX11_named : ByteArray := prog_13_method_41_code
def yX11_named : MethodName := ⟨RX11, "named", "(I)V"⟩
abbrev cX11_behind : ByteArray := prog_13_method_42_code
def yX11_behind : MethodName := ⟨RX11, "behind", "()V"⟩
abbrev cX11_levelOf : ByteArray := prog_13_method_43_code
def yX11_levelOf : MethodName := ⟨RX11, "levelOf", "(J)I"⟩
abbrev cX11_second : ByteArray := prog_13_method_45_code
def yX11_second : MethodName := ⟨RX11, "second", "(I)V"⟩
abbrev cX11_signs : ByteArray := prog_13_method_46_code
def yX11_signs : MethodName := ⟨RX11, "signs", "()V"⟩
abbrev cX11_add : ByteArray := prog_13_method_47_code
def yX11_add : MethodName := ⟨RX11, "add", "(I)V"⟩
abbrev cX11_word : ByteArray := prog_13_method_48_code
def yX11_word : MethodName := ⟨RX11, "word", "(I)V"⟩
abbrev cX11_endsOne : ByteArray := prog_13_method_49_code
def yX11_endsOne : MethodName := ⟨RX11, "endsOne", "()V"⟩
abbrev cX11_leaves : ByteArray := prog_13_method_50_code
def yX11_leaves : MethodName := ⟨RX11, "leaves", "(I)V"⟩
abbrev cX11_endsWithin : ByteArray := prog_13_method_51_code
def yX11_endsWithin : MethodName := ⟨RX11, "endsWithin", "(II)V"⟩
abbrev cX11_shuts : ByteArray := prog_13_method_52_code
def yX11_shuts : MethodName := ⟨RX11, "shuts", "(II)V"⟩
abbrev cX11_part : ByteArray := prog_13_method_53_code
def yX11_part : MethodName := ⟨RX11, "part", "()V"⟩
abbrev cX11_param : ByteArray := prog_13_method_54_code
def yX11_param : MethodName := ⟨RX11, "param", "(I)V"⟩
abbrev cX11_knows : ByteArray := prog_13_method_55_code
def yX11_knows : MethodName := ⟨RX11, "knows", "()V"⟩
abbrev cX11_partOf : ByteArray := prog_13_method_56_code
def yX11_partOf : MethodName := ⟨RX11, "partOf", "(J)I"⟩
abbrev cX11_reads : ByteArray := prog_13_method_57_code
def yX11_reads : MethodName := ⟨RX11, "reads", "()V"⟩
abbrev cX11_read : ByteArray := prog_13_method_58_code
def yX11_read : MethodName := ⟨RX11, "read", "()I"⟩
abbrev cX11_fault : ByteArray := prog_13_method_59_code
def yX11_fault : MethodName := ⟨RX11, "fault", "(I)I"⟩
abbrev cX11_task : ByteArray := prog_13_method_60_code
def yX11_task : MethodName := ⟨RX11, "task", "(III)V"⟩
abbrev cX11_order : ByteArray := prog_13_method_61_code
def yX11_order : MethodName := ⟨RX11, "orde\x72", "(III)V"⟩
abbrev cX11_compiles : ByteArray := prog_13_method_62_code
def yX11_compiles : MethodName := ⟨RX11, "compiles", "()V"⟩
abbrev cX11_goesOn : ByteArray := prog_13_method_63_code
def yX11_goesOn : MethodName := ⟨RX11, "goesOn", "(III)V"⟩
abbrev cX11_tells : ByteArray := prog_13_method_64_code
def yX11_tells : MethodName := ⟨RX11, "tells", "(I)V"⟩
abbrev cX11_taskOfCall : ByteArray := prog_13_method_65_code
def yX11_taskOfCall : MethodName := ⟨RX11, "taskOfCall", "(I)V"⟩
abbrev cX11_tellsMore : ByteArray := prog_13_method_66_code
def yX11_tellsMore : MethodName := ⟨RX11, "tellsMore", "(I)V"⟩
abbrev cX11_toldKind : ByteArray := prog_13_method_67_code
def yX11_toldKind : MethodName := ⟨RX11, "toldKind", "(I)I"⟩
abbrev cX11_paramKindOf : ByteArray := prog_13_method_68_code
def yX11_paramKindOf : MethodName := ⟨RX11, "paramKindOf", "(II)I"⟩
abbrev cX11_ownKindOf : ByteArray := prog_13_method_69_code
def yX11_ownKindOf : MethodName := ⟨RX11, "ownKindOf", "(I)I"⟩
abbrev cX11_functionOf : ByteArray := prog_13_method_70_code
def yX11_functionOf : MethodName := ⟨RX11, "functionOf", "(I)I"⟩
abbrev cX11_push : ByteArray := prog_13_method_71_code
def yX11_push : MethodName := ⟨RX11, "push", "(I)V"⟩
abbrev cX11_must : ByteArray := prog_13_method_72_code
def yX11_must : MethodName := ⟨RX11, "must", "(IIII)V"⟩
abbrev cX11_guards : ByteArray := prog_13_method_73_code
def yX11_guards : MethodName := ⟨RX11, "guards", "(IIIII)V"⟩
abbrev cX11_judges : ByteArray := prog_13_method_74_code
def yX11_judges : MethodName := ⟨RX11, "judges", "()V"⟩
abbrev cX11_judgeOne : ByteArray := prog_13_method_75_code
def yX11_judgeOne : MethodName := ⟨RX11, "judgeOne", "(II)V"⟩
abbrev cX11_judgeCallee : ByteArray := prog_13_method_76_code
def yX11_judgeCallee : MethodName := ⟨RX11, "judgeCallee", "(II)V"⟩
abbrev cX11_judgeRow : ByteArray := prog_13_method_77_code
def yX11_judgeRow : MethodName := ⟨RX11, "judgeRow", "(II)V"⟩
abbrev cX11_judgeMore : ByteArray := prog_13_method_78_code
def yX11_judgeMore : MethodName := ⟨RX11, "judgeMore", "(II)V"⟩
abbrev cX11_judgeJoin : ByteArray := prog_13_method_79_code
def yX11_judgeJoin : MethodName := ⟨RX11, "judgeJoin", "(I)V"⟩
abbrev cX11_judgeElements : ByteArray := prog_13_method_80_code
def yX11_judgeElements : MethodName := ⟨RX11, "judgeElements", "(I)V"⟩
abbrev cX11_tell : ByteArray := prog_13_method_81_code
def yX11_tell : MethodName := ⟨RX11, "tell", "(IZ)Z"⟩
abbrev cX11_judge : ByteArray := prog_13_method_82_code
def yX11_judge : MethodName := ⟨RX11, "judge", "()I"⟩
abbrev cX11_guard : ByteArray := prog_13_method_83_code
def yX11_guard : MethodName := ⟨RX11, "guard", "(II)I"⟩
abbrev cX11_part_ : ByteArray := prog_13_method_84_code
def yX11_part_ : MethodName := ⟨RX11, "part", "(II)I"⟩
abbrev cX11_ends : ByteArray := prog_13_method_85_code
def yX11_ends : MethodName := ⟨RX11, "ends", "(II)V"⟩
abbrev cX11_isOn : ByteArray := prog_13_method_86_code
def yX11_isOn : MethodName := ⟨RX11, "isOn", "()Z"⟩
abbrev cX11_value : ByteArray := prog_13_method_87_code
def yX11_value : MethodName := ⟨RX11, "value", "(II)V"⟩
abbrev cX11_within : ByteArray := prog_13_method_88_code
def yX11_within : MethodName := ⟨RX11, "within", "(II)I"⟩
abbrev cX11_deep : ByteArray := prog_13_method_89_code
def yX11_deep : MethodName := ⟨RX11, "deep", "(II)I"⟩
abbrev cX11_asks : ByteArray := prog_13_method_90_code
def yX11_asks : MethodName := ⟨RX11, "asks", "(IIIIII)V"⟩
abbrev cX11_isOfSort : ByteArray := prog_13_method_91_code
def yX11_isOfSort : MethodName := ⟨RX11, "isOfSort", "(II)Z"⟩
abbrev cX11_wraps : ByteArray := prog_13_method_92_code
def yX11_wraps : MethodName := ⟨RX11, "wraps", "(IIIIII)V"⟩
abbrev cX11_row : ByteArray := prog_13_method_93_code
def yX11_row : MethodName := ⟨RX11, "row", "(II)I"⟩
abbrev cX11_starts : ByteArray := prog_13_method_94_code
def yX11_starts : MethodName := ⟨RX11, "starts", "(I)I"⟩
abbrev cX11_calls : ByteArray := prog_13_method_95_code
def yX11_calls : MethodName := ⟨RX11, "calls", "(III)V"⟩
abbrev cX11_guarded : ByteArray := prog_13_method_96_code
def yX11_guarded : MethodName := ⟨RX11, "guarded", "(III)V"⟩
abbrev cX11_does : ByteArray := prog_13_method_97_code
def yX11_does : MethodName := ⟨RX11, "does", "(II)I"⟩
abbrev cX11_call : ByteArray := prog_13_method_98_code
def yX11_call : MethodName := ⟨RX11, "call", "(II)I"⟩
abbrev cX11_goesBack : ByteArray := prog_13_method_99_code
def yX11_goesBack : MethodName := ⟨RX11, "goesBack", "()I"⟩
abbrev cX11_works : ByteArray := prog_13_method_100_code
def yX11_works : MethodName := ⟨RX11, "works", "(II)V"⟩
abbrev cX11_makes : ByteArray := prog_13_method_101_code
def yX11_makes : MethodName := ⟨RX11, "makes", "(I)V"⟩
abbrev cX11_sums : ByteArray := prog_13_method_102_code
def yX11_sums : MethodName := ⟨RX11, "sums", "(I)V"⟩
abbrev cX11_aroundOf : ByteArray := prog_13_method_103_code
def yX11_aroundOf : MethodName := ⟨RX11, "aroundOf", "(I)I"⟩
abbrev cX11_readsPlace : ByteArray := prog_13_method_104_code
def yX11_readsPlace : MethodName := ⟨RX11, "readsPlace", "(I)V"⟩
abbrev cX11_writes : ByteArray := prog_13_method_105_code
def yX11_writes : MethodName := ⟨RX11, "writes", "(I)V"⟩
abbrev cX11_run : ByteArray := prog_13_method_106_code
def yX11_run : MethodName := ⟨RX11, "run", "(I)I"⟩
abbrev cX11_runUntold : ByteArray := prog_13_method_107_code
def yX11_runUntold : MethodName := ⟨RX11, "runUntold", "(I)I"⟩
abbrev cX11_told : ByteArray := prog_13_method_108_code
def yX11_told : MethodName := ⟨RX11, "told", "(I)I"⟩
abbrev cX11_out : ByteArray := prog_13_method_109_code
def yX11_out : MethodName := ⟨RX11, "out", "(I)I"⟩
abbrev cX11_asked : ByteArray := prog_13_method_110_code
def yX11_asked : MethodName := ⟨RX11, "asked", "(II)I"⟩
abbrev cX11_about : ByteArray := prog_13_method_111_code
def yX11_about : MethodName := ⟨RX11, "about", "(I)I"⟩
abbrev cJ9_max_7cf53 : ByteArray := prog_14_method_65_code
def yJ9_max_7cf53 : MethodName := ⟨"java/lang/Math", "max", "(II)I"⟩
abbrev cJ9_min_7cf53 : ByteArray := prog_14_method_69_code
def yJ9_min_7cf53 : MethodName := ⟨"java/lang/Math", "min", "(II)I"⟩
abbrev cJ7_fill_53178 : ByteArray := prog_15_method_103_code
def yJ7_fill_53178 : MethodName := ⟨"java/util/Arrays", "fill", "([II)V"⟩
theorem in_tables_1_1 {w : Cond} (h : w ∈ tables_1_1) : w ∈ lw_tbl := List.mem_append_right _ (show w ∈ tables_1 from List.mem_append_left _ h)
theorem in_tables_1_2 {w : Cond} (h : w ∈ tables_1_2) : w ∈ lw_tbl := List.mem_append_right _ (show w ∈ tables_1 from List.mem_append_right _ (List.mem_append_left _ h))
theorem in_tables_1_3 {w : Cond} (h : w ∈ tables_1_3) : w ∈ lw_tbl := List.mem_append_right _ (show w ∈ tables_1 from List.mem_append_right _ (List.mem_append_right _ (List.mem_append_left _ h)))
theorem in_tables_1_4 {w : Cond} (h : w ∈ tables_1_4) : w ∈ lw_tbl := List.mem_append_right _ (show w ∈ tables_1 from List.mem_append_right _ (List.mem_append_right _ (List.mem_append_right _ (List.mem_append_left _ h))))
theorem in_tables_1_5 {w : Cond} (h : w ∈ tables_1_5) : w ∈ lw_tbl := List.mem_append_right _ (show w ∈ tables_1 from List.mem_append_right _ (List.mem_append_right _ (List.mem_append_right _ (List.mem_append_right _ (List.mem_append_left _ h)))))
theorem in_tables_1_6 {w : Cond} (h : w ∈ tables_1_6) : w ∈ lw_tbl := List.mem_append_right _ (show w ∈ tables_1 from List.mem_append_right _ (List.mem_append_right _ (List.mem_append_right _ (List.mem_append_right _ (List.mem_append_right _ (List.mem_append_left _ h))))))
theorem in_tables_1_7 {w : Cond} (h : w ∈ tables_1_7) : w ∈ lw_tbl := List.mem_append_right _ (show w ∈ tables_1 from List.mem_append_right _ (List.mem_append_right _ (List.mem_append_right _ (List.mem_append_right _ (List.mem_append_right _ (List.mem_append_right _ (List.mem_append_left _ h)))))))
theorem in_tables_1_8 {w : Cond} (h : w ∈ tables_1_8) : w ∈ lw_tbl := List.mem_append_right _ (show w ∈ tables_1 from List.mem_append_right _ (List.mem_append_right _ (List.mem_append_right _ (List.mem_append_right _ (List.mem_append_right _ (List.mem_append_right _ (List.mem_append_right _ (List.mem_append_left _ h))))))))
theorem in_tables_1_9 {w : Cond} (h : w ∈ tables_1_9) : w ∈ lw_tbl := List.mem_append_right _ (show w ∈ tables_1 from List.mem_append_right _ (List.mem_append_right _ (List.mem_append_right _ (List.mem_append_right _ (List.mem_append_right _ (List.mem_append_right _ (List.mem_append_right _ (List.mem_append_right _ (h)))))))))
theorem in_lw_privs_1 {q : MethodName × Nat} (h : q ∈ lw_privs_1) : Cond.selects q.1.cls q.1 q.1 ∈ lw_tbl := List.mem_append_left _ (List.mem_map.mpr ⟨q, (show q ∈ lw_privs from List.mem_append_left _ h), rfl⟩)
theorem in_lw_privs_2 {q : MethodName × Nat} (h : q ∈ lw_privs_2) : Cond.selects q.1.cls q.1 q.1 ∈ lw_tbl := List.mem_append_left _ (List.mem_map.mpr ⟨q, (show q ∈ lw_privs from List.mem_append_right _ (List.mem_append_left _ h)), rfl⟩)
theorem in_lw_privs_3 {q : MethodName × Nat} (h : q ∈ lw_privs_3) : Cond.selects q.1.cls q.1 q.1 ∈ lw_tbl := List.mem_append_left _ (List.mem_map.mpr ⟨q, (show q ∈ lw_privs from List.mem_append_right _ (List.mem_append_right _ (List.mem_append_left _ h))), rfl⟩)
theorem in_lw_privs_4 {q : MethodName × Nat} (h : q ∈ lw_privs_4) : Cond.selects q.1.cls q.1 q.1 ∈ lw_tbl := List.mem_append_left _ (List.mem_map.mpr ⟨q, (show q ∈ lw_privs from List.mem_append_right _ (List.mem_append_right _ (List.mem_append_right _ (List.mem_append_left _ h)))), rfl⟩)
theorem in_lw_privs_5 {q : MethodName × Nat} (h : q ∈ lw_privs_5) : Cond.selects q.1.cls q.1 q.1 ∈ lw_tbl := List.mem_append_left _ (List.mem_map.mpr ⟨q, (show q ∈ lw_privs from List.mem_append_right _ (List.mem_append_right _ (List.mem_append_right _ (List.mem_append_right _ (List.mem_append_left _ h))))), rfl⟩)
theorem in_lw_privs_6 {q : MethodName × Nat} (h : q ∈ lw_privs_6) : Cond.selects q.1.cls q.1 q.1 ∈ lw_tbl := List.mem_append_left _ (List.mem_map.mpr ⟨q, (show q ∈ lw_privs from List.mem_append_right _ (List.mem_append_right _ (List.mem_append_right _ (List.mem_append_right _ (List.mem_append_right _ (List.mem_append_left _ h)))))), rfl⟩)
theorem in_lw_privs_7 {q : MethodName × Nat} (h : q ∈ lw_privs_7) : Cond.selects q.1.cls q.1 q.1 ∈ lw_tbl := List.mem_append_left _ (List.mem_map.mpr ⟨q, (show q ∈ lw_privs from List.mem_append_right _ (List.mem_append_right _ (List.mem_append_right _ (List.mem_append_right _ (List.mem_append_right _ (List.mem_append_right _ (List.mem_append_left _ h))))))), rfl⟩)
theorem in_lw_privs_8 {q : MethodName × Nat} (h : q ∈ lw_privs_8) : Cond.selects q.1.cls q.1 q.1 ∈ lw_tbl := List.mem_append_left _ (List.mem_map.mpr ⟨q, (show q ∈ lw_privs from List.mem_append_right _ (List.mem_append_right _ (List.mem_append_right _ (List.mem_append_right _ (List.mem_append_right _ (List.mem_append_right _ (List.mem_append_right _ (List.mem_append_left _ h)))))))), rfl⟩)
theorem in_lw_privs_9 {q : MethodName × Nat} (h : q ∈ lw_privs_9) : Cond.selects q.1.cls q.1 q.1 ∈ lw_tbl := List.mem_append_left _ (List.mem_map.mpr ⟨q, (show q ∈ lw_privs from List.mem_append_right _ (List.mem_append_right _ (List.mem_append_right _ (List.mem_append_right _ (List.mem_append_right _ (List.mem_append_right _ (List.mem_append_right _ (List.mem_append_right _ (List.mem_append_left _ h))))))))), rfl⟩)
theorem in_lw_privs_10 {q : MethodName × Nat} (h : q ∈ lw_privs_10) : Cond.selects q.1.cls q.1 q.1 ∈ lw_tbl := List.mem_append_left _ (List.mem_map.mpr ⟨q, (show q ∈ lw_privs from List.mem_append_right _ (List.mem_append_right _ (List.mem_append_right _ (List.mem_append_right _ (List.mem_append_right _ (List.mem_append_right _ (List.mem_append_right _ (List.mem_append_right _ (List.mem_append_right _ (List.mem_append_left _ h)))))))))), rfl⟩)
theorem in_lw_privs_11 {q : MethodName × Nat} (h : q ∈ lw_privs_11) : Cond.selects q.1.cls q.1 q.1 ∈ lw_tbl := List.mem_append_left _ (List.mem_map.mpr ⟨q, (show q ∈ lw_privs from List.mem_append_right _ (List.mem_append_right _ (List.mem_append_right _ (List.mem_append_right _ (List.mem_append_right _ (List.mem_append_right _ (List.mem_append_right _ (List.mem_append_right _ (List.mem_append_right _ (List.mem_append_right _ (List.mem_append_left _ h))))))))))), rfl⟩)
theorem in_lw_privs_12 {q : MethodName × Nat} (h : q ∈ lw_privs_12) : Cond.selects q.1.cls q.1 q.1 ∈ lw_tbl := List.mem_append_left _ (List.mem_map.mpr ⟨q, (show q ∈ lw_privs from List.mem_append_right _ (List.mem_append_right _ (List.mem_append_right _ (List.mem_append_right _ (List.mem_append_right _ (List.mem_append_right _ (List.mem_append_right _ (List.mem_append_right _ (List.mem_append_right _ (List.mem_append_right _ (List.mem_append_right _ (h)))))))))))), rfl⟩)
