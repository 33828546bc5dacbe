section
-- ===== PART A: goes FIRST, ahead of the names: the tables' words, and 'selects' of the private methods out of them =====
/-- a private method of a class that the tables say can be made, by its rows of tables_1 -/
def lw_okq (q : MethodName × Nat) : Prop := (q.1.cls ≠ "java/lang/invoke/MethodHandle" ∧ q.1.cls ≠ "java/lang/invoke/VarHandle") ∧ Cond.instantiable q.1.cls q.2 ∈ tables_1 ∧ Cond.privateMethod q.1 ∈ tables_1 ∧ Cond.instanceMethod q.1 ∈ tables_1
theorem lw_p0 : lw_okq (⟨"BlameCourt$Kinds", "findOrAdd", "(II[IIII)I"⟩, 8) := ⟨⟨by decide +kernel, by decide +kernel⟩, List.mem_of_getElem? (i := 29) (by decide +kernel), List.mem_of_getElem? (i := 38) (by decide +kernel), List.mem_of_getElem? (i := 39) (by decide +kernel)⟩
theorem lw_p1 : lw_okq (⟨"BlameCourt$Kinds", "isSame", "(II[III)Z"⟩, 8) := ⟨⟨by decide +kernel, by decide +kernel⟩, List.mem_of_getElem? (i := 29) (by decide +kernel), List.mem_of_getElem? (i := 45) (by decide +kernel), List.mem_of_getElem? (i := 46) (by decide +kernel)⟩
theorem lw_p2 : lw_okq (⟨"BlameCourt", "putFou\x72", "(I)V"⟩, 13) := ⟨⟨by decide +kernel, by decide +kernel⟩, List.mem_of_getElem? (i := 15) (by decide +kernel), List.mem_of_getElem? (i := 538) (by decide +kernel), List.mem_of_getElem? (i := 539) (by decide +kernel)⟩
theorem lw_p3 : lw_okq (⟨"BlameCourt$Tokens", "byteAt", "(I)I"⟩, 8) := ⟨⟨by decide +kernel, by decide +kernel⟩, List.mem_of_getElem? (i := 195) (by decide +kernel), List.mem_of_getElem? (i := 581) (by decide +kernel), List.mem_of_getElem? (i := 582) (by decide +kernel)⟩
theorem lw_p4 : lw_okq (⟨"BlameCourt$Tokens", "takeWord", "()V"⟩, 8) := ⟨⟨by decide +kernel, by decide +kernel⟩, List.mem_of_getElem? (i := 195) (by decide +kernel), List.mem_of_getElem? (i := 588) (by decide +kernel), List.mem_of_getElem? (i := 589) (by decide +kernel)⟩
theorem lw_p5 : lw_okq (⟨"BlameCourt$Tokens", "wordType", "()I"⟩, 8) := ⟨⟨by decide +kernel, by decide +kernel⟩, List.mem_of_getElem? (i := 195) (by decide +kernel), List.mem_of_getElem? (i := 592) (by decide +kernel), List.mem_of_getElem? (i := 593) (by decide +kernel)⟩
theorem lw_p6 : lw_okq (⟨"BlameCourt$Tokens", "takeNumbe\x72", "()V"⟩, 8) := ⟨⟨by decide +kernel, by decide +kernel⟩, List.mem_of_getElem? (i := 195) (by decide +kernel), List.mem_of_getElem? (i := 601) (by decide +kernel), List.mem_of_getElem? (i := 602) (by decide +kernel)⟩
theorem lw_p7 : lw_okq (⟨"BlameCourt$Tokens", "takeSign", "(I)V"⟩, 8) := ⟨⟨by decide +kernel, by decide +kernel⟩, List.mem_of_getElem? (i := 195) (by decide +kernel), List.mem_of_getElem? (i := 608) (by decide +kernel), List.mem_of_getElem? (i := 609) (by decide +kernel)⟩
theorem lw_p8 : lw_okq (⟨"BlameCourt$Reade\x72", "refuse", "(I)V"⟩, 14) := ⟨⟨by decide +kernel, by decide +kernel⟩, List.mem_of_getElem? (i := 189) (by decide +kernel), List.mem_of_getElem? (i := 615) (by decide +kernel), List.mem_of_getElem? (i := 616) (by decide +kernel)⟩
theorem lw_p9 : lw_okq (⟨"BlameCourt$Reade\x72", "refuseAt", "(II)V"⟩, 14) := ⟨⟨by decide +kernel, by decide +kernel⟩, List.mem_of_getElem? (i := 189) (by decide +kernel), List.mem_of_getElem? (i := 619) (by decide +kernel), List.mem_of_getElem? (i := 620) (by decide +kernel)⟩
theorem lw_p10 : lw_okq (⟨"BlameCourt$Reade\x72", "takePartName", "(I)V"⟩, 14) := ⟨⟨by decide +kernel, by decide +kernel⟩, List.mem_of_getElem? (i := 189) (by decide +kernel), List.mem_of_getElem? (i := 627) (by decide +kernel), List.mem_of_getElem? (i := 628) (by decide +kernel)⟩
theorem lw_p11 : lw_okq (⟨"BlameCourt$Reade\x72", "want", "(I)V"⟩, 14) := ⟨⟨by decide +kernel, by decide +kernel⟩, List.mem_of_getElem? (i := 189) (by decide +kernel), List.mem_of_getElem? (i := 632) (by decide +kernel), List.mem_of_getElem? (i := 633) (by decide +kernel)⟩
theorem lw_p12 : lw_okq (⟨"BlameCourt$Reade\x72", "takeParams", "(I)V"⟩, 14) := ⟨⟨by decide +kernel, by decide +kernel⟩, List.mem_of_getElem? (i := 189) (by decide +kernel), List.mem_of_getElem? (i := 636) (by decide +kernel), List.mem_of_getElem? (i := 637) (by decide +kernel)⟩
theorem lw_p13 : lw_okq (⟨"BlameCourt$Reade\x72", "ente\x72", "(I)V"⟩, 14) := ⟨⟨by decide +kernel, by decide +kernel⟩, List.mem_of_getElem? (i := 189) (by decide +kernel), List.mem_of_getElem? (i := 640) (by decide +kernel), List.mem_of_getElem? (i := 641) (by decide +kernel)⟩
theorem lw_p14 : lw_okq (⟨"BlameCourt$Reade\x72", "slotOf", "(J)I"⟩, 14) := ⟨⟨by decide +kernel, by decide +kernel⟩, List.mem_of_getElem? (i := 189) (by decide +kernel), List.mem_of_getElem? (i := 644) (by decide +kernel), List.mem_of_getElem? (i := 645) (by decide +kernel)⟩
theorem lw_p15 : lw_okq (⟨"BlameCourt$Reade\x72", "pushLocal", "(J)V"⟩, 14) := ⟨⟨by decide +kernel, by decide +kernel⟩, List.mem_of_getElem? (i := 189) (by decide +kernel), List.mem_of_getElem? (i := 648) (by decide +kernel), List.mem_of_getElem? (i := 649) (by decide +kernel)⟩
def lw_privs_1 : List (MethodName × Nat) := [(⟨"BlameCourt$Kinds", "findOrAdd", "(II[IIII)I"⟩, 8), (⟨"BlameCourt$Kinds", "isSame", "(II[III)Z"⟩, 8), (⟨"BlameCourt", "putFou\x72", "(I)V"⟩, 13), (⟨"BlameCourt$Tokens", "byteAt", "(I)I"⟩, 8), (⟨"BlameCourt$Tokens", "takeWord", "()V"⟩, 8), (⟨"BlameCourt$Tokens", "wordType", "()I"⟩, 8), (⟨"BlameCourt$Tokens", "takeNumbe\x72", "()V"⟩, 8), (⟨"BlameCourt$Tokens", "takeSign", "(I)V"⟩, 8), (⟨"BlameCourt$Reade\x72", "refuse", "(I)V"⟩, 14), (⟨"BlameCourt$Reade\x72", "refuseAt", "(II)V"⟩, 14), (⟨"BlameCourt$Reade\x72", "takePartName", "(I)V"⟩, 14), (⟨"BlameCourt$Reade\x72", "want", "(I)V"⟩, 14), (⟨"BlameCourt$Reade\x72", "takeParams", "(I)V"⟩, 14), (⟨"BlameCourt$Reade\x72", "ente\x72", "(I)V"⟩, 14), (⟨"BlameCourt$Reade\x72", "slotOf", "(J)I"⟩, 14), (⟨"BlameCourt$Reade\x72", "pushLocal", "(J)V"⟩, 14)]
theorem lw_r1 : ∀ q ∈ lw_privs_1, lw_okq q := List.forall_mem_cons.mpr ⟨lw_p0, List.forall_mem_cons.mpr ⟨lw_p1, List.forall_mem_cons.mpr ⟨lw_p2, List.forall_mem_cons.mpr ⟨lw_p3, List.forall_mem_cons.mpr ⟨lw_p4, List.forall_mem_cons.mpr ⟨lw_p5, List.forall_mem_cons.mpr ⟨lw_p6, List.forall_mem_cons.mpr ⟨lw_p7, List.forall_mem_cons.mpr ⟨lw_p8, List.forall_mem_cons.mpr ⟨lw_p9, List.forall_mem_cons.mpr ⟨lw_p10, List.forall_mem_cons.mpr ⟨lw_p11, List.forall_mem_cons.mpr ⟨lw_p12, List.forall_mem_cons.mpr ⟨lw_p13, List.forall_mem_cons.mpr ⟨lw_p14, List.forall_mem_cons.mpr ⟨lw_p15, fun _ h => absurd h List.not_mem_nil⟩⟩⟩⟩⟩⟩⟩⟩⟩⟩⟩⟩⟩⟩⟩⟩
theorem lw_p16 : lw_okq (⟨"BlameCourt$Reade\x72", "tookColon", "()Z"⟩, 14) := ⟨⟨by decide +kernel, by decide +kernel⟩, List.mem_of_getElem? (i := 189) (by decide +kernel), List.mem_of_getElem? (i := 652) (by decide +kernel), List.mem_of_getElem? (i := 653) (by decide +kernel)⟩
theorem lw_p17 : lw_okq (⟨"BlameCourt$Reade\x72", "takeKind", "()I"⟩, 14) := ⟨⟨by decide +kernel, by decide +kernel⟩, List.mem_of_getElem? (i := 189) (by decide +kernel), List.mem_of_getElem? (i := 656) (by decide +kernel), List.mem_of_getElem? (i := 657) (by decide +kernel)⟩
theorem lw_p18 : lw_okq (⟨"BlameCourt$Reade\x72", "beginsKind", "()Z"⟩, 14) := ⟨⟨by decide +kernel, by decide +kernel⟩, List.mem_of_getElem? (i := 189) (by decide +kernel), List.mem_of_getElem? (i := 660) (by decide +kernel), List.mem_of_getElem? (i := 661) (by decide +kernel)⟩
theorem lw_p19 : lw_okq (⟨"BlameCourt$Reade\x72", "takeFunctionKind", "()I"⟩, 14) := ⟨⟨by decide +kernel, by decide +kernel⟩, List.mem_of_getElem? (i := 189) (by decide +kernel), List.mem_of_getElem? (i := 664) (by decide +kernel), List.mem_of_getElem? (i := 665) (by decide +kernel)⟩
theorem lw_p20 : lw_okq (⟨"BlameCourt$Reade\x72", "takeKindList", "()V"⟩, 14) := ⟨⟨by decide +kernel, by decide +kernel⟩, List.mem_of_getElem? (i := 189) (by decide +kernel), List.mem_of_getElem? (i := 668) (by decide +kernel), List.mem_of_getElem? (i := 669) (by decide +kernel)⟩
theorem lw_p21 : lw_okq (⟨"BlameCourt$Reade\x72", "takeOwnKind", "(I)V"⟩, 14) := ⟨⟨by decide +kernel, by decide +kernel⟩, List.mem_of_getElem? (i := 189) (by decide +kernel), List.mem_of_getElem? (i := 674) (by decide +kernel), List.mem_of_getElem? (i := 675) (by decide +kernel)⟩
theorem lw_p22 : lw_okq (⟨"BlameCourt$Reade\x72", "takeE", "()I"⟩, 14) := ⟨⟨by decide +kernel, by decide +kernel⟩, List.mem_of_getElem? (i := 189) (by decide +kernel), List.mem_of_getElem? (i := 678) (by decide +kernel), List.mem_of_getElem? (i := 679) (by decide +kernel)⟩
theorem lw_p23 : lw_okq (⟨"BlameCourt$Reade\x72", "takeLet", "()I"⟩, 14) := ⟨⟨by decide +kernel, by decide +kernel⟩, List.mem_of_getElem? (i := 189) (by decide +kernel), List.mem_of_getElem? (i := 682) (by decide +kernel), List.mem_of_getElem? (i := 683) (by decide +kernel)⟩
theorem lw_p24 : lw_okq (⟨"BlameCourt$Reade\x72", "emitStep", "()I"⟩, 14) := ⟨⟨by decide +kernel, by decide +kernel⟩, List.mem_of_getElem? (i := 189) (by decide +kernel), List.mem_of_getElem? (i := 686) (by decide +kernel), List.mem_of_getElem? (i := 687) (by decide +kernel)⟩
theorem lw_p25 : lw_okq (⟨"BlameCourt$Reade\x72", "placeOf", "(I)I"⟩, 14) := ⟨⟨by decide +kernel, by decide +kernel⟩, List.mem_of_getElem? (i := 189) (by decide +kernel), List.mem_of_getElem? (i := 694) (by decide +kernel), List.mem_of_getElem? (i := 695) (by decide +kernel)⟩
theorem lw_p26 : lw_okq (⟨"BlameCourt$Reade\x72", "takeIf", "()I"⟩, 14) := ⟨⟨by decide +kernel, by decide +kernel⟩, List.mem_of_getElem? (i := 189) (by decide +kernel), List.mem_of_getElem? (i := 698) (by decide +kernel), List.mem_of_getElem? (i := 699) (by decide +kernel)⟩
theorem lw_p27 : lw_okq (⟨"BlameCourt$Reade\x72", "takeC", "()I"⟩, 14) := ⟨⟨by decide +kernel, by decide +kernel⟩, List.mem_of_getElem? (i := 189) (by decide +kernel), List.mem_of_getElem? (i := 702) (by decide +kernel), List.mem_of_getElem? (i := 703) (by decide +kernel)⟩
theorem lw_p28 : lw_okq (⟨"BlameCourt$Reade\x72", "takeU", "()I"⟩, 14) := ⟨⟨by decide +kernel, by decide +kernel⟩, List.mem_of_getElem? (i := 189) (by decide +kernel), List.mem_of_getElem? (i := 706) (by decide +kernel), List.mem_of_getElem? (i := 707) (by decide +kernel)⟩
theorem lw_p29 : lw_okq (⟨"BlameCourt$Reade\x72", "takePrefix", "(II)I"⟩, 14) := ⟨⟨by decide +kernel, by decide +kernel⟩, List.mem_of_getElem? (i := 189) (by decide +kernel), List.mem_of_getElem? (i := 710) (by decide +kernel), List.mem_of_getElem? (i := 711) (by decide +kernel)⟩
theorem lw_p30 : lw_okq (⟨"BlameCourt$Reade\x72", "takeB", "()I"⟩, 14) := ⟨⟨by decide +kernel, by decide +kernel⟩, List.mem_of_getElem? (i := 189) (by decide +kernel), List.mem_of_getElem? (i := 714) (by decide +kernel), List.mem_of_getElem? (i := 715) (by decide +kernel)⟩
theorem lw_p31 : lw_okq (⟨"BlameCourt$Reade\x72", "takeDigits", "()V"⟩, 14) := ⟨⟨by decide +kernel, by decide +kernel⟩, List.mem_of_getElem? (i := 189) (by decide +kernel), List.mem_of_getElem? (i := 718) (by decide +kernel), List.mem_of_getElem? (i := 719) (by decide +kernel)⟩
def lw_privs_2 : List (MethodName × Nat) := [(⟨"BlameCourt$Reade\x72", "tookColon", "()Z"⟩, 14), (⟨"BlameCourt$Reade\x72", "takeKind", "()I"⟩, 14), (⟨"BlameCourt$Reade\x72", "beginsKind", "()Z"⟩, 14), (⟨"BlameCourt$Reade\x72", "takeFunctionKind", "()I"⟩, 14), (⟨"BlameCourt$Reade\x72", "takeKindList", "()V"⟩, 14), (⟨"BlameCourt$Reade\x72", "takeOwnKind", "(I)V"⟩, 14), (⟨"BlameCourt$Reade\x72", "takeE", "()I"⟩, 14), (⟨"BlameCourt$Reade\x72", "takeLet", "()I"⟩, 14), (⟨"BlameCourt$Reade\x72", "emitStep", "()I"⟩, 14), (⟨"BlameCourt$Reade\x72", "placeOf", "(I)I"⟩, 14), (⟨"BlameCourt$Reade\x72", "takeIf", "()I"⟩, 14), (⟨"BlameCourt$Reade\x72", "takeC", "()I"⟩, 14), (⟨"BlameCourt$Reade\x72", "takeU", "()I"⟩, 14), (⟨"BlameCourt$Reade\x72", "takePrefix", "(II)I"⟩, 14), (⟨"BlameCourt$Reade\x72", "takeB", "()I"⟩, 14), (⟨"BlameCourt$Reade\x72", "takeDigits", "()V"⟩, 14)]
theorem lw_r2 : ∀ q ∈ lw_privs_2, lw_okq q := List.forall_mem_cons.mpr ⟨lw_p16, List.forall_mem_cons.mpr ⟨lw_p17, List.forall_mem_cons.mpr ⟨lw_p18, List.forall_mem_cons.mpr ⟨lw_p19, List.forall_mem_cons.mpr ⟨lw_p20, List.forall_mem_cons.mpr ⟨lw_p21, List.forall_mem_cons.mpr ⟨lw_p22, List.forall_mem_cons.mpr ⟨lw_p23, List.forall_mem_cons.mpr ⟨lw_p24, List.forall_mem_cons.mpr ⟨lw_p25, List.forall_mem_cons.mpr ⟨lw_p26, List.forall_mem_cons.mpr ⟨lw_p27, List.forall_mem_cons.mpr ⟨lw_p28, List.forall_mem_cons.mpr ⟨lw_p29, List.forall_mem_cons.mpr ⟨lw_p30, List.forall_mem_cons.mpr ⟨lw_p31, fun _ h => absurd h List.not_mem_nil⟩⟩⟩⟩⟩⟩⟩⟩⟩⟩⟩⟩⟩⟩⟩⟩
theorem lw_p32 : lw_okq (⟨"BlameCourt$Reade\x72", "takeName", "()V"⟩, 14) := ⟨⟨by decide +kernel, by decide +kernel⟩, List.mem_of_getElem? (i := 189) (by decide +kernel), List.mem_of_getElem? (i := 723) (by decide +kernel), List.mem_of_getElem? (i := 724) (by decide +kernel)⟩
theorem lw_p33 : lw_okq (⟨"BlameCourt$Reade\x72", "takeNew", "()V"⟩, 14) := ⟨⟨by decide +kernel, by decide +kernel⟩, List.mem_of_getElem? (i := 189) (by decide +kernel), List.mem_of_getElem? (i := 727) (by decide +kernel), List.mem_of_getElem? (i := 728) (by decide +kernel)⟩
theorem lw_p34 : lw_okq (⟨"BlameCourt$Reade\x72", "takeWork", "(II)V"⟩, 14) := ⟨⟨by decide +kernel, by decide +kernel⟩, List.mem_of_getElem? (i := 189) (by decide +kernel), List.mem_of_getElem? (i := 731) (by decide +kernel), List.mem_of_getElem? (i := 732) (by decide +kernel)⟩
theorem lw_p35 : lw_okq (⟨"BlameCourt$Reade\x72", "takeList", "(III)I"⟩, 14) := ⟨⟨by decide +kernel, by decide +kernel⟩, List.mem_of_getElem? (i := 189) (by decide +kernel), List.mem_of_getElem? (i := 735) (by decide +kernel), List.mem_of_getElem? (i := 736) (by decide +kernel)⟩
theorem lw_p36 : lw_okq (⟨"BlameCourt$Reade\x72", "beginsE", "()Z"⟩, 14) := ⟨⟨by decide +kernel, by decide +kernel⟩, List.mem_of_getElem? (i := 189) (by decide +kernel), List.mem_of_getElem? (i := 739) (by decide +kernel), List.mem_of_getElem? (i := 740) (by decide +kernel)⟩
theorem lw_p37 : lw_okq (⟨"BlameCourt$Reade\x72", "takeBlock", "()V"⟩, 14) := ⟨⟨by decide +kernel, by decide +kernel⟩, List.mem_of_getElem? (i := 189) (by decide +kernel), List.mem_of_getElem? (i := 743) (by decide +kernel), List.mem_of_getElem? (i := 744) (by decide +kernel)⟩
theorem lw_p38 : lw_okq (⟨"BlameCourt$Reade\x72", "addStep", "(I)V"⟩, 14) := ⟨⟨by decide +kernel, by decide +kernel⟩, List.mem_of_getElem? (i := 189) (by decide +kernel), List.mem_of_getElem? (i := 747) (by decide +kernel), List.mem_of_getElem? (i := 748) (by decide +kernel)⟩
theorem lw_p39 : lw_okq (⟨"BlameCourt$Reade\x72", "takeCall", "(I)V"⟩, 14) := ⟨⟨by decide +kernel, by decide +kernel⟩, List.mem_of_getElem? (i := 189) (by decide +kernel), List.mem_of_getElem? (i := 751) (by decide +kernel), List.mem_of_getElem? (i := 752) (by decide +kernel)⟩
theorem lw_p40 : lw_okq (⟨"BlameCourt$Reade\x72", "takePlace", "()Z"⟩, 14) := ⟨⟨by decide +kernel, by decide +kernel⟩, List.mem_of_getElem? (i := 189) (by decide +kernel), List.mem_of_getElem? (i := 755) (by decide +kernel), List.mem_of_getElem? (i := 756) (by decide +kernel)⟩
theorem lw_p41 : lw_okq (⟨"BlameCourt$Reade\x72", "applyWaiting", "(III)I"⟩, 14) := ⟨⟨by decide +kernel, by decide +kernel⟩, List.mem_of_getElem? (i := 189) (by decide +kernel), List.mem_of_getElem? (i := 762) (by decide +kernel), List.mem_of_getElem? (i := 763) (by decide +kernel)⟩
theorem lw_p42 : lw_okq (⟨"BlameCourt$Reade\x72", "pushWaiting", "(I)V"⟩, 14) := ⟨⟨by decide +kernel, by decide +kernel⟩, List.mem_of_getElem? (i := 189) (by decide +kernel), List.mem_of_getElem? (i := 769) (by decide +kernel), List.mem_of_getElem? (i := 770) (by decide +kernel)⟩
theorem lw_p43 : lw_okq (⟨"BlameCourt$Reade\x72", "endPart", "(II)V"⟩, 14) := ⟨⟨by decide +kernel, by decide +kernel⟩, List.mem_of_getElem? (i := 189) (by decide +kernel), List.mem_of_getElem? (i := 773) (by decide +kernel), List.mem_of_getElem? (i := 774) (by decide +kernel)⟩
theorem lw_p44 : lw_okq (⟨"BlameCourt$Reade\x72", "resolve", "(I)V"⟩, 14) := ⟨⟨by decide +kernel, by decide +kernel⟩, List.mem_of_getElem? (i := 189) (by decide +kernel), List.mem_of_getElem? (i := 777) (by decide +kernel), List.mem_of_getElem? (i := 778) (by decide +kernel)⟩
theorem lw_p45 : lw_okq (⟨"BlameCourt$Reade\x72", "resolveAt", "(I)V"⟩, 14) := ⟨⟨by decide +kernel, by decide +kernel⟩, List.mem_of_getElem? (i := 189) (by decide +kernel), List.mem_of_getElem? (i := 785) (by decide +kernel), List.mem_of_getElem? (i := 786) (by decide +kernel)⟩
theorem lw_p46 : lw_okq (⟨"BlameCourt", "isPart", "(I)Z"⟩, 13) := ⟨⟨by decide +kernel, by decide +kernel⟩, List.mem_of_getElem? (i := 15) (by decide +kernel), List.mem_of_getElem? (i := 803) (by decide +kernel), List.mem_of_getElem? (i := 804) (by decide +kernel)⟩
theorem lw_p47 : lw_okq (⟨"BlameCourt$Judging", "takeHeade\x72", "(I)V"⟩, 15) := ⟨⟨by decide +kernel, by decide +kernel⟩, List.mem_of_getElem? (i := 314) (by decide +kernel), List.mem_of_getElem? (i := 816) (by decide +kernel), List.mem_of_getElem? (i := 817) (by decide +kernel)⟩
def lw_privs_3 : List (MethodName × Nat) := [(⟨"BlameCourt$Reade\x72", "takeName", "()V"⟩, 14), (⟨"BlameCourt$Reade\x72", "takeNew", "()V"⟩, 14), (⟨"BlameCourt$Reade\x72", "takeWork", "(II)V"⟩, 14), (⟨"BlameCourt$Reade\x72", "takeList", "(III)I"⟩, 14), (⟨"BlameCourt$Reade\x72", "beginsE", "()Z"⟩, 14), (⟨"BlameCourt$Reade\x72", "takeBlock", "()V"⟩, 14), (⟨"BlameCourt$Reade\x72", "addStep", "(I)V"⟩, 14), (⟨"BlameCourt$Reade\x72", "takeCall", "(I)V"⟩, 14), (⟨"BlameCourt$Reade\x72", "takePlace", "()Z"⟩, 14), (⟨"BlameCourt$Reade\x72", "applyWaiting", "(III)I"⟩, 14), (⟨"BlameCourt$Reade\x72", "pushWaiting", "(I)V"⟩, 14), (⟨"BlameCourt$Reade\x72", "endPart", "(II)V"⟩, 14), (⟨"BlameCourt$Reade\x72", "resolve", "(I)V"⟩, 14), (⟨"BlameCourt$Reade\x72", "resolveAt", "(I)V"⟩, 14), (⟨"BlameCourt", "isPart", "(I)Z"⟩, 13), (⟨"BlameCourt$Judging", "takeHeade\x72", "(I)V"⟩, 15)]
theorem lw_r3 : ∀ q ∈ lw_privs_3, lw_okq q := List.forall_mem_cons.mpr ⟨lw_p32, List.forall_mem_cons.mpr ⟨lw_p33, List.forall_mem_cons.mpr ⟨lw_p34, List.forall_mem_cons.mpr ⟨lw_p35, List.forall_mem_cons.mpr ⟨lw_p36, List.forall_mem_cons.mpr ⟨lw_p37, List.forall_mem_cons.mpr ⟨lw_p38, List.forall_mem_cons.mpr ⟨lw_p39, List.forall_mem_cons.mpr ⟨lw_p40, List.forall_mem_cons.mpr ⟨lw_p41, List.forall_mem_cons.mpr ⟨lw_p42, List.forall_mem_cons.mpr ⟨lw_p43, List.forall_mem_cons.mpr ⟨lw_p44, List.forall_mem_cons.mpr ⟨lw_p45, List.forall_mem_cons.mpr ⟨lw_p46, List.forall_mem_cons.mpr ⟨lw_p47, fun _ h => absurd h List.not_mem_nil⟩⟩⟩⟩⟩⟩⟩⟩⟩⟩⟩⟩⟩⟩⟩⟩
theorem lw_p48 : lw_okq (⟨"BlameCourt$Judging", "asTold", "(II)I"⟩, 15) := ⟨⟨by decide +kernel, by decide +kernel⟩, List.mem_of_getElem? (i := 314) (by decide +kernel), List.mem_of_getElem? (i := 820) (by decide +kernel), List.mem_of_getElem? (i := 821) (by decide +kernel)⟩
theorem lw_p49 : lw_okq (⟨"BlameCourt$Judging", "judgePart", "(I)V"⟩, 15) := ⟨⟨by decide +kernel, by decide +kernel⟩, List.mem_of_getElem? (i := 314) (by decide +kernel), List.mem_of_getElem? (i := 826) (by decide +kernel), List.mem_of_getElem? (i := 827) (by decide +kernel)⟩
theorem lw_p50 : lw_okq (⟨"BlameCourt$Judging", "judgeAsking", "(I)V"⟩, 15) := ⟨⟨by decide +kernel, by decide +kernel⟩, List.mem_of_getElem? (i := 314) (by decide +kernel), List.mem_of_getElem? (i := 830) (by decide +kernel), List.mem_of_getElem? (i := 831) (by decide +kernel)⟩
theorem lw_p51 : lw_okq (⟨"BlameCourt$Judging", "meet", "(III)V"⟩, 15) := ⟨⟨by decide +kernel, by decide +kernel⟩, List.mem_of_getElem? (i := 314) (by decide +kernel), List.mem_of_getElem? (i := 834) (by decide +kernel), List.mem_of_getElem? (i := 835) (by decide +kernel)⟩
theorem lw_p52 : lw_okq (⟨"BlameCourt$Judging", "below", "(I)I"⟩, 15) := ⟨⟨by decide +kernel, by decide +kernel⟩, List.mem_of_getElem? (i := 314) (by decide +kernel), List.mem_of_getElem? (i := 838) (by decide +kernel), List.mem_of_getElem? (i := 839) (by decide +kernel)⟩
theorem lw_p53 : lw_okq (⟨"BlameCourt$Judging", "refuse", "(II)V"⟩, 15) := ⟨⟨by decide +kernel, by decide +kernel⟩, List.mem_of_getElem? (i := 314) (by decide +kernel), List.mem_of_getElem? (i := 863) (by decide +kernel), List.mem_of_getElem? (i := 864) (by decide +kernel)⟩
theorem lw_p54 : lw_okq (⟨"BlameCourt$Judging", "layGuard", "(IIII)V"⟩, 15) := ⟨⟨by decide +kernel, by decide +kernel⟩, List.mem_of_getElem? (i := 314) (by decide +kernel), List.mem_of_getElem? (i := 867) (by decide +kernel), List.mem_of_getElem? (i := 868) (by decide +kernel)⟩
theorem lw_p55 : lw_okq (⟨"BlameCourt$Judging", "setTop", "(I)V"⟩, 15) := ⟨⟨by decide +kernel, by decide +kernel⟩, List.mem_of_getElem? (i := 314) (by decide +kernel), List.mem_of_getElem? (i := 875) (by decide +kernel), List.mem_of_getElem? (i := 876) (by decide +kernel)⟩
theorem lw_p56 : lw_okq (⟨"BlameCourt$Judging", "meetForm", "(III)V"⟩, 15) := ⟨⟨by decide +kernel, by decide +kernel⟩, List.mem_of_getElem? (i := 314) (by decide +kernel), List.mem_of_getElem? (i := 882) (by decide +kernel), List.mem_of_getElem? (i := 883) (by decide +kernel)⟩
theorem lw_p57 : lw_okq (⟨"BlameCourt$Judging", "meetCalled", "(II)V"⟩, 15) := ⟨⟨by decide +kernel, by decide +kernel⟩, List.mem_of_getElem? (i := 314) (by decide +kernel), List.mem_of_getElem? (i := 887) (by decide +kernel), List.mem_of_getElem? (i := 888) (by decide +kernel)⟩
theorem lw_p58 : lw_okq (⟨"BlameCourt$Judging", "takerBelow", "(I)I"⟩, 15) := ⟨⟨by decide +kernel, by decide +kernel⟩, List.mem_of_getElem? (i := 314) (by decide +kernel), List.mem_of_getElem? (i := 893) (by decide +kernel), List.mem_of_getElem? (i := 894) (by decide +kernel)⟩
theorem lw_p59 : lw_okq (⟨"BlameCourt$Judging", "judgeWork", "(II)V"⟩, 15) := ⟨⟨by decide +kernel, by decide +kernel⟩, List.mem_of_getElem? (i := 314) (by decide +kernel), List.mem_of_getElem? (i := 898) (by decide +kernel), List.mem_of_getElem? (i := 899) (by decide +kernel)⟩
theorem lw_p60 : lw_okq (⟨"BlameCourt$Judging", "replace", "(II)V"⟩, 15) := ⟨⟨by decide +kernel, by decide +kernel⟩, List.mem_of_getElem? (i := 314) (by decide +kernel), List.mem_of_getElem? (i := 903) (by decide +kernel), List.mem_of_getElem? (i := 904) (by decide +kernel)⟩
theorem lw_p61 : lw_okq (⟨"BlameCourt$Judging", "push", "(I)V"⟩, 15) := ⟨⟨by decide +kernel, by decide +kernel⟩, List.mem_of_getElem? (i := 314) (by decide +kernel), List.mem_of_getElem? (i := 907) (by decide +kernel), List.mem_of_getElem? (i := 908) (by decide +kernel)⟩
theorem lw_p62 : lw_okq (⟨"BlameCourt$Judging", "pop", "()I"⟩, 15) := ⟨⟨by decide +kernel, by decide +kernel⟩, List.mem_of_getElem? (i := 314) (by decide +kernel), List.mem_of_getElem? (i := 911) (by decide +kernel), List.mem_of_getElem? (i := 912) (by decide +kernel)⟩
theorem lw_p63 : lw_okq (⟨"BlameCourt$Judging", "judgePlain", "(II)V"⟩, 15) := ⟨⟨by decide +kernel, by decide +kernel⟩, List.mem_of_getElem? (i := 314) (by decide +kernel), List.mem_of_getElem? (i := 915) (by decide +kernel), List.mem_of_getElem? (i := 916) (by decide +kernel)⟩
def lw_privs_4 : List (MethodName × Nat) := [(⟨"BlameCourt$Judging", "asTold", "(II)I"⟩, 15), (⟨"BlameCourt$Judging", "judgePart", "(I)V"⟩, 15), (⟨"BlameCourt$Judging", "judgeAsking", "(I)V"⟩, 15), (⟨"BlameCourt$Judging", "meet", "(III)V"⟩, 15), (⟨"BlameCourt$Judging", "below", "(I)I"⟩, 15), (⟨"BlameCourt$Judging", "refuse", "(II)V"⟩, 15), (⟨"BlameCourt$Judging", "layGuard", "(IIII)V"⟩, 15), (⟨"BlameCourt$Judging", "setTop", "(I)V"⟩, 15), (⟨"BlameCourt$Judging", "meetForm", "(III)V"⟩, 15), (⟨"BlameCourt$Judging", "meetCalled", "(II)V"⟩, 15), (⟨"BlameCourt$Judging", "takerBelow", "(I)I"⟩, 15), (⟨"BlameCourt$Judging", "judgeWork", "(II)V"⟩, 15), (⟨"BlameCourt$Judging", "replace", "(II)V"⟩, 15), (⟨"BlameCourt$Judging", "push", "(I)V"⟩, 15), (⟨"BlameCourt$Judging", "pop", "()I"⟩, 15), (⟨"BlameCourt$Judging", "judgePlain", "(II)V"⟩, 15)]
theorem lw_r4 : ∀ q ∈ lw_privs_4, lw_okq q := List.forall_mem_cons.mpr ⟨lw_p48, List.forall_mem_cons.mpr ⟨lw_p49, List.forall_mem_cons.mpr ⟨lw_p50, List.forall_mem_cons.mpr ⟨lw_p51, List.forall_mem_cons.mpr ⟨lw_p52, List.forall_mem_cons.mpr ⟨lw_p53, List.forall_mem_cons.mpr ⟨lw_p54, List.forall_mem_cons.mpr ⟨lw_p55, List.forall_mem_cons.mpr ⟨lw_p56, List.forall_mem_cons.mpr ⟨lw_p57, List.forall_mem_cons.mpr ⟨lw_p58, List.forall_mem_cons.mpr ⟨lw_p59, List.forall_mem_cons.mpr ⟨lw_p60, List.forall_mem_cons.mpr ⟨lw_p61, List.forall_mem_cons.mpr ⟨lw_p62, List.forall_mem_cons.mpr ⟨lw_p63, fun _ h => absurd h List.not_mem_nil⟩⟩⟩⟩⟩⟩⟩⟩⟩⟩⟩⟩⟩⟩⟩⟩
theorem lw_p64 : lw_okq (⟨"BlameCourt$Judging", "bind", "(I)V"⟩, 15) := ⟨⟨by decide +kernel, by decide +kernel⟩, List.mem_of_getElem? (i := 314) (by decide +kernel), List.mem_of_getElem? (i := 919) (by decide +kernel), List.mem_of_getElem? (i := 920) (by decide +kernel)⟩
theorem lw_p65 : lw_okq (⟨"BlameCourt$Judging", "mix", "(I)I"⟩, 15) := ⟨⟨by decide +kernel, by decide +kernel⟩, List.mem_of_getElem? (i := 314) (by decide +kernel), List.mem_of_getElem? (i := 923) (by decide +kernel), List.mem_of_getElem? (i := 924) (by decide +kernel)⟩
theorem lw_p66 : lw_okq (⟨"BlameCourt$Running", "push", "(J)V"⟩, 20) := ⟨⟨by decide +kernel, by decide +kernel⟩, List.mem_of_getElem? (i := 369) (by decide +kernel), List.mem_of_getElem? (i := 960) (by decide +kernel), List.mem_of_getElem? (i := 961) (by decide +kernel)⟩
theorem lw_p67 : lw_okq (⟨"BlameCourt$Running", "enterPart", "(III)V"⟩, 20) := ⟨⟨by decide +kernel, by decide +kernel⟩, List.mem_of_getElem? (i := 369) (by decide +kernel), List.mem_of_getElem? (i := 964) (by decide +kernel), List.mem_of_getElem? (i := 965) (by decide +kernel)⟩
theorem lw_p68 : lw_okq (⟨"BlameCourt$Running", "failWith", "(II)V"⟩, 20) := ⟨⟨by decide +kernel, by decide +kernel⟩, List.mem_of_getElem? (i := 369) (by decide +kernel), List.mem_of_getElem? (i := 968) (by decide +kernel), List.mem_of_getElem? (i := 969) (by decide +kernel)⟩
theorem lw_p69 : lw_okq (⟨"BlameCourt$Running", "slotAt", "(I)I"⟩, 20) := ⟨⟨by decide +kernel, by decide +kernel⟩, List.mem_of_getElem? (i := 369) (by decide +kernel), List.mem_of_getElem? (i := 972) (by decide +kernel), List.mem_of_getElem? (i := 973) (by decide +kernel)⟩
theorem lw_p70 : lw_okq (⟨"BlameCourt$Running", "pop", "()J"⟩, 20) := ⟨⟨by decide +kernel, by decide +kernel⟩, List.mem_of_getElem? (i := 369) (by decide +kernel), List.mem_of_getElem? (i := 976) (by decide +kernel), List.mem_of_getElem? (i := 977) (by decide +kernel)⟩
theorem lw_p71 : lw_okq (⟨"BlameCourt$Running", "workAsking", "(I)V"⟩, 20) := ⟨⟨by decide +kernel, by decide +kernel⟩, List.mem_of_getElem? (i := 369) (by decide +kernel), List.mem_of_getElem? (i := 981) (by decide +kernel), List.mem_of_getElem? (i := 982) (by decide +kernel)⟩
theorem lw_p72 : lw_okq (⟨"BlameCourt$Running", "askUntold", "(III)V"⟩, 20) := ⟨⟨by decide +kernel, by decide +kernel⟩, List.mem_of_getElem? (i := 369) (by decide +kernel), List.mem_of_getElem? (i := 985) (by decide +kernel), List.mem_of_getElem? (i := 986) (by decide +kernel)⟩
theorem lw_p73 : lw_okq (⟨"BlameCourt$Running", "isSuch", "(JII)Z"⟩, 20) := ⟨⟨by decide +kernel, by decide +kernel⟩, List.mem_of_getElem? (i := 369) (by decide +kernel), List.mem_of_getElem? (i := 992) (by decide +kernel), List.mem_of_getElem? (i := 993) (by decide +kernel)⟩
theorem lw_p74 : lw_okq (⟨"BlameCourt$Running", "ask", "(JIIIII)J"⟩, 20) := ⟨⟨by decide +kernel, by decide +kernel⟩, List.mem_of_getElem? (i := 369) (by decide +kernel), List.mem_of_getElem? (i := 1003) (by decide +kernel), List.mem_of_getElem? (i := 1004) (by decide +kernel)⟩
theorem lw_p75 : lw_okq (⟨"BlameCourt$Running", "count", "(II)V"⟩, 20) := ⟨⟨by decide +kernel, by decide +kernel⟩, List.mem_of_getElem? (i := 369) (by decide +kernel), List.mem_of_getElem? (i := 1007) (by decide +kernel), List.mem_of_getElem? (i := 1008) (by decide +kernel)⟩
theorem lw_p76 : lw_okq (⟨"BlameCourt$Running", "wrap", "(JIIIII)J"⟩, 20) := ⟨⟨by decide +kernel, by decide +kernel⟩, List.mem_of_getElem? (i := 369) (by decide +kernel), List.mem_of_getElem? (i := 1026) (by decide +kernel), List.mem_of_getElem? (i := 1027) (by decide +kernel)⟩
theorem lw_p77 : lw_okq (⟨"BlameCourt$Running", "workNumbers", "(II)V"⟩, 20) := ⟨⟨by decide +kernel, by decide +kernel⟩, List.mem_of_getElem? (i := 369) (by decide +kernel), List.mem_of_getElem? (i := 1035) (by decide +kernel), List.mem_of_getElem? (i := 1036) (by decide +kernel)⟩
theorem lw_p78 : lw_okq (⟨"BlameCourt$Running", "popContent", "()I"⟩, 20) := ⟨⟨by decide +kernel, by decide +kernel⟩, List.mem_of_getElem? (i := 369) (by decide +kernel), List.mem_of_getElem? (i := 1039) (by decide +kernel), List.mem_of_getElem? (i := 1040) (by decide +kernel)⟩
theorem lw_p79 : lw_okq (⟨"BlameCourt$Running", "pushNumbe\x72", "(I)V"⟩, 20) := ⟨⟨by decide +kernel, by decide +kernel⟩, List.mem_of_getElem? (i := 369) (by decide +kernel), List.mem_of_getElem? (i := 1043) (by decide +kernel), List.mem_of_getElem? (i := 1044) (by decide +kernel)⟩
def lw_privs_5 : List (MethodName × Nat) := [(⟨"BlameCourt$Judging", "bind", "(I)V"⟩, 15), (⟨"BlameCourt$Judging", "mix", "(I)I"⟩, 15), (⟨"BlameCourt$Running", "push", "(J)V"⟩, 20), (⟨"BlameCourt$Running", "enterPart", "(III)V"⟩, 20), (⟨"BlameCourt$Running", "failWith", "(II)V"⟩, 20), (⟨"BlameCourt$Running", "slotAt", "(I)I"⟩, 20), (⟨"BlameCourt$Running", "pop", "()J"⟩, 20), (⟨"BlameCourt$Running", "workAsking", "(I)V"⟩, 20), (⟨"BlameCourt$Running", "askUntold", "(III)V"⟩, 20), (⟨"BlameCourt$Running", "isSuch", "(JII)Z"⟩, 20), (⟨"BlameCourt$Running", "ask", "(JIIIII)J"⟩, 20), (⟨"BlameCourt$Running", "count", "(II)V"⟩, 20), (⟨"BlameCourt$Running", "wrap", "(JIIIII)J"⟩, 20), (⟨"BlameCourt$Running", "workNumbers", "(II)V"⟩, 20), (⟨"BlameCourt$Running", "popContent", "()I"⟩, 20), (⟨"BlameCourt$Running", "pushNumbe\x72", "(I)V"⟩, 20)]
theorem lw_r5 : ∀ q ∈ lw_privs_5, lw_okq q := List.forall_mem_cons.mpr ⟨lw_p64, List.forall_mem_cons.mpr ⟨lw_p65, List.forall_mem_cons.mpr ⟨lw_p66, List.forall_mem_cons.mpr ⟨lw_p67, List.forall_mem_cons.mpr ⟨lw_p68, List.forall_mem_cons.mpr ⟨lw_p69, List.forall_mem_cons.mpr ⟨lw_p70, List.forall_mem_cons.mpr ⟨lw_p71, List.forall_mem_cons.mpr ⟨lw_p72, List.forall_mem_cons.mpr ⟨lw_p73, List.forall_mem_cons.mpr ⟨lw_p74, List.forall_mem_cons.mpr ⟨lw_p75, List.forall_mem_cons.mpr ⟨lw_p76, List.forall_mem_cons.mpr ⟨lw_p77, List.forall_mem_cons.mpr ⟨lw_p78, List.forall_mem_cons.mpr ⟨lw_p79, fun _ h => absurd h List.not_mem_nil⟩⟩⟩⟩⟩⟩⟩⟩⟩⟩⟩⟩⟩⟩⟩⟩
theorem lw_p80 : lw_okq (⟨"BlameCourt$Running", "pushTruth", "(Z)V"⟩, 20) := ⟨⟨by decide +kernel, by decide +kernel⟩, List.mem_of_getElem? (i := 369) (by decide +kernel), List.mem_of_getElem? (i := 1047) (by decide +kernel), List.mem_of_getElem? (i := 1048) (by decide +kernel)⟩
theorem lw_p81 : lw_okq (⟨"BlameCourt$Running", "workRowOrCall", "(III)V"⟩, 20) := ⟨⟨by decide +kernel, by decide +kernel⟩, List.mem_of_getElem? (i := 369) (by decide +kernel), List.mem_of_getElem? (i := 1054) (by decide +kernel), List.mem_of_getElem? (i := 1055) (by decide +kernel)⟩
theorem lw_p82 : lw_okq (⟨"BlameCourt$Running", "makeRow", "(II)V"⟩, 20) := ⟨⟨by decide +kernel, by decide +kernel⟩, List.mem_of_getElem? (i := 369) (by decide +kernel), List.mem_of_getElem? (i := 1058) (by decide +kernel), List.mem_of_getElem? (i := 1059) (by decide +kernel)⟩
theorem lw_p83 : lw_okq (⟨"BlameCourt$Running", "makeNew", "(I)V"⟩, 20) := ⟨⟨by decide +kernel, by decide +kernel⟩, List.mem_of_getElem? (i := 369) (by decide +kernel), List.mem_of_getElem? (i := 1081) (by decide +kernel), List.mem_of_getElem? (i := 1082) (by decide +kernel)⟩
theorem lw_p84 : lw_okq (⟨"BlameCourt$Running", "print", "(I)V"⟩, 20) := ⟨⟨by decide +kernel, by decide +kernel⟩, List.mem_of_getElem? (i := 369) (by decide +kernel), List.mem_of_getElem? (i := 1087) (by decide +kernel), List.mem_of_getElem? (i := 1088) (by decide +kernel)⟩
theorem lw_p85 : lw_okq (⟨"BlameCourt$Running", "fetch", "(I)V"⟩, 20) := ⟨⟨by decide +kernel, by decide +kernel⟩, List.mem_of_getElem? (i := 369) (by decide +kernel), List.mem_of_getElem? (i := 1091) (by decide +kernel), List.mem_of_getElem? (i := 1092) (by decide +kernel)⟩
theorem lw_p86 : lw_okq (⟨"BlameCourt$Running", "askOutward", "(JJ)J"⟩, 20) := ⟨⟨by decide +kernel, by decide +kernel⟩, List.mem_of_getElem? (i := 369) (by decide +kernel), List.mem_of_getElem? (i := 1100) (by decide +kernel), List.mem_of_getElem? (i := 1101) (by decide +kernel)⟩
theorem lw_p87 : lw_okq (⟨"BlameCourt$Running", "unwrap", "(J)I"⟩, 20) := ⟨⟨by decide +kernel, by decide +kernel⟩, List.mem_of_getElem? (i := 369) (by decide +kernel), List.mem_of_getElem? (i := 1104) (by decide +kernel), List.mem_of_getElem? (i := 1105) (by decide +kernel)⟩
theorem lw_p88 : lw_okq (⟨"BlameCourt$Running", "store", "(I)V"⟩, 20) := ⟨⟨by decide +kernel, by decide +kernel⟩, List.mem_of_getElem? (i := 369) (by decide +kernel), List.mem_of_getElem? (i := 1109) (by decide +kernel), List.mem_of_getElem? (i := 1110) (by decide +kernel)⟩
theorem lw_p89 : lw_okq (⟨"BlameCourt$Running", "askInto", "(IIJ)J"⟩, 20) := ⟨⟨by decide +kernel, by decide +kernel⟩, List.mem_of_getElem? (i := 369) (by decide +kernel), List.mem_of_getElem? (i := 1113) (by decide +kernel), List.mem_of_getElem? (i := 1114) (by decide +kernel)⟩
theorem lw_p90 : lw_okq (⟨"BlameCourt$Running", "callWith", "(II)V"⟩, 20) := ⟨⟨by decide +kernel, by decide +kernel⟩, List.mem_of_getElem? (i := 369) (by decide +kernel), List.mem_of_getElem? (i := 1118) (by decide +kernel), List.mem_of_getElem? (i := 1119) (by decide +kernel)⟩
theorem lw_p91 : lw_okq (⟨"BlameCourt$Running", "leavePart", "()V"⟩, 20) := ⟨⟨by decide +kernel, by decide +kernel⟩, List.mem_of_getElem? (i := 369) (by decide +kernel), List.mem_of_getElem? (i := 1122) (by decide +kernel), List.mem_of_getElem? (i := 1123) (by decide +kernel)⟩
theorem lw_p92 : lw_okq (⟨"BlameCourt$Running", "workPlain", "(III)V"⟩, 20) := ⟨⟨by decide +kernel, by decide +kernel⟩, List.mem_of_getElem? (i := 369) (by decide +kernel), List.mem_of_getElem? (i := 1126) (by decide +kernel), List.mem_of_getElem? (i := 1127) (by decide +kernel)⟩
theorem lw_p93 : lw_okq (⟨"BlameCourt$Running", "makeSteps", "(II)V"⟩, 20) := ⟨⟨by decide +kernel, by decide +kernel⟩, List.mem_of_getElem? (i := 369) (by decide +kernel), List.mem_of_getElem? (i := 1130) (by decide +kernel), List.mem_of_getElem? (i := 1131) (by decide +kernel)⟩
theorem lw_p94 : lw_okq (⟨"BlameCourt$Running", "contentTold", "(J)I"⟩, 20) := ⟨⟨by decide +kernel, by decide +kernel⟩, List.mem_of_getElem? (i := 369) (by decide +kernel), List.mem_of_getElem? (i := 1146) (by decide +kernel), List.mem_of_getElem? (i := 1147) (by decide +kernel)⟩
theorem lw_p95 : lw_okq (⟨"BlameCourtModel", "kinds", "(I)V"⟩, 129) := ⟨⟨by decide +kernel, by decide +kernel⟩, List.mem_of_getElem? (i := 1166) (by decide +kernel), List.mem_of_getElem? (i := 1172) (by decide +kernel), List.mem_of_getElem? (i := 1173) (by decide +kernel)⟩
def lw_privs_6 : List (MethodName × Nat) := [(⟨"BlameCourt$Running", "pushTruth", "(Z)V"⟩, 20), (⟨"BlameCourt$Running", "workRowOrCall", "(III)V"⟩, 20), (⟨"BlameCourt$Running", "makeRow", "(II)V"⟩, 20), (⟨"BlameCourt$Running", "makeNew", "(I)V"⟩, 20), (⟨"BlameCourt$Running", "print", "(I)V"⟩, 20), (⟨"BlameCourt$Running", "fetch", "(I)V"⟩, 20), (⟨"BlameCourt$Running", "askOutward", "(JJ)J"⟩, 20), (⟨"BlameCourt$Running", "unwrap", "(J)I"⟩, 20), (⟨"BlameCourt$Running", "store", "(I)V"⟩, 20), (⟨"BlameCourt$Running", "askInto", "(IIJ)J"⟩, 20), (⟨"BlameCourt$Running", "callWith", "(II)V"⟩, 20), (⟨"BlameCourt$Running", "leavePart", "()V"⟩, 20), (⟨"BlameCourt$Running", "workPlain", "(III)V"⟩, 20), (⟨"BlameCourt$Running", "makeSteps", "(II)V"⟩, 20), (⟨"BlameCourt$Running", "contentTold", "(J)I"⟩, 20), (⟨"BlameCourtModel", "kinds", "(I)V"⟩, 129)]
theorem lw_r6 : ∀ q ∈ lw_privs_6, lw_okq q := List.forall_mem_cons.mpr ⟨lw_p80, List.forall_mem_cons.mpr ⟨lw_p81, List.forall_mem_cons.mpr ⟨lw_p82, List.forall_mem_cons.mpr ⟨lw_p83, List.forall_mem_cons.mpr ⟨lw_p84, List.forall_mem_cons.mpr ⟨lw_p85, List.forall_mem_cons.mpr ⟨lw_p86, List.forall_mem_cons.mpr ⟨lw_p87, List.forall_mem_cons.mpr ⟨lw_p88, List.forall_mem_cons.mpr ⟨lw_p89, List.forall_mem_cons.mpr ⟨lw_p90, List.forall_mem_cons.mpr ⟨lw_p91, List.forall_mem_cons.mpr ⟨lw_p92, List.forall_mem_cons.mpr ⟨lw_p93, List.forall_mem_cons.mpr ⟨lw_p94, List.forall_mem_cons.mpr ⟨lw_p95, fun _ h => absurd h List.not_mem_nil⟩⟩⟩⟩⟩⟩⟩⟩⟩⟩⟩⟩⟩⟩⟩⟩
theorem lw_p96 : lw_okq (⟨"BlameCourtModel", "kindOf", "(III)I"⟩, 129) := ⟨⟨by decide +kernel, by decide +kernel⟩, List.mem_of_getElem? (i := 1166) (by decide +kernel), List.mem_of_getElem? (i := 1176) (by decide +kernel), List.mem_of_getElem? (i := 1177) (by decide +kernel)⟩
theorem lw_p97 : lw_okq (⟨"BlameCourtModel", "put", "(I)V"⟩, 129) := ⟨⟨by decide +kernel, by decide +kernel⟩, List.mem_of_getElem? (i := 1166) (by decide +kernel), List.mem_of_getElem? (i := 1572) (by decide +kernel), List.mem_of_getElem? (i := 1573) (by decide +kernel)⟩
theorem lw_p98 : lw_okq (⟨"BlameCourtModel", "reads", "()V"⟩, 129) := ⟨⟨by decide +kernel, by decide +kernel⟩, List.mem_of_getElem? (i := 1166) (by decide +kernel), List.mem_of_getElem? (i := 1587) (by decide +kernel), List.mem_of_getElem? (i := 1588) (by decide +kernel)⟩
theorem lw_p99 : lw_okq (⟨"BlameCourtModel", "next", "()V"⟩, 129) := ⟨⟨by decide +kernel, by decide +kernel⟩, List.mem_of_getElem? (i := 1166) (by decide +kernel), List.mem_of_getElem? (i := 1591) (by decide +kernel), List.mem_of_getElem? (i := 1592) (by decide +kernel)⟩
theorem lw_p100 : lw_okq (⟨"BlameCourtModel", "name", "()V"⟩, 129) := ⟨⟨by decide +kernel, by decide +kernel⟩, List.mem_of_getElem? (i := 1166) (by decide +kernel), List.mem_of_getElem? (i := 1598) (by decide +kernel), List.mem_of_getElem? (i := 1599) (by decide +kernel)⟩
theorem lw_p101 : lw_okq (⟨"BlameCourtModel", "sign", "(I)V"⟩, 129) := ⟨⟨by decide +kernel, by decide +kernel⟩, List.mem_of_getElem? (i := 1166) (by decide +kernel), List.mem_of_getElem? (i := 1610) (by decide +kernel), List.mem_of_getElem? (i := 1611) (by decide +kernel)⟩
theorem lw_p102 : lw_okq (⟨"BlameCourtModel", "isWell", "()Z"⟩, 129) := ⟨⟨by decide +kernel, by decide +kernel⟩, List.mem_of_getElem? (i := 1166) (by decide +kernel), List.mem_of_getElem? (i := 1615) (by decide +kernel), List.mem_of_getElem? (i := 1616) (by decide +kernel)⟩
theorem lw_p103 : lw_okq (⟨"BlameCourtModel", "isWord", "(I)Z"⟩, 129) := ⟨⟨by decide +kernel, by decide +kernel⟩, List.mem_of_getElem? (i := 1166) (by decide +kernel), List.mem_of_getElem? (i := 1619) (by decide +kernel), List.mem_of_getElem? (i := 1620) (by decide +kernel)⟩
theorem lw_p104 : lw_okq (⟨"BlameCourtModel", "stray", "()V"⟩, 129) := ⟨⟨by decide +kernel, by decide +kernel⟩, List.mem_of_getElem? (i := 1166) (by decide +kernel), List.mem_of_getElem? (i := 1623) (by decide +kernel), List.mem_of_getElem? (i := 1624) (by decide +kernel)⟩
theorem lw_p105 : lw_okq (⟨"BlameCourtModel", "fails", "(II)V"⟩, 129) := ⟨⟨by decide +kernel, by decide +kernel⟩, List.mem_of_getElem? (i := 1166) (by decide +kernel), List.mem_of_getElem? (i := 1627) (by decide +kernel), List.mem_of_getElem? (i := 1628) (by decide +kernel)⟩
theorem lw_p106 : lw_okq (⟨"BlameCourtModel", "part", "()V"⟩, 129) := ⟨⟨by decide +kernel, by decide +kernel⟩, List.mem_of_getElem? (i := 1166) (by decide +kernel), List.mem_of_getElem? (i := 1631) (by decide +kernel), List.mem_of_getElem? (i := 1632) (by decide +kernel)⟩
theorem lw_p107 : lw_okq (⟨"BlameCourtModel", "opens", "(I)V"⟩, 129) := ⟨⟨by decide +kernel, by decide +kernel⟩, List.mem_of_getElem? (i := 1166) (by decide +kernel), List.mem_of_getElem? (i := 1635) (by decide +kernel), List.mem_of_getElem? (i := 1636) (by decide +kernel)⟩
theorem lw_p108 : lw_okq (⟨"BlameCourtModel", "isSign", "(I)Z"⟩, 129) := ⟨⟨by decide +kernel, by decide +kernel⟩, List.mem_of_getElem? (i := 1166) (by decide +kernel), List.mem_of_getElem? (i := 1639) (by decide +kernel), List.mem_of_getElem? (i := 1640) (by decide +kernel)⟩
theorem lw_p109 : lw_okq (⟨"BlameCourtModel", "nests", "()V"⟩, 129) := ⟨⟨by decide +kernel, by decide +kernel⟩, List.mem_of_getElem? (i := 1166) (by decide +kernel), List.mem_of_getElem? (i := 1643) (by decide +kernel), List.mem_of_getElem? (i := 1644) (by decide +kernel)⟩
theorem lw_p110 : lw_okq (⟨"BlameCourtModel", "closes", "(I)V"⟩, 129) := ⟨⟨by decide +kernel, by decide +kernel⟩, List.mem_of_getElem? (i := 1166) (by decide +kernel), List.mem_of_getElem? (i := 1647) (by decide +kernel), List.mem_of_getElem? (i := 1648) (by decide +kernel)⟩
theorem lw_p111 : lw_okq (⟨"BlameCourtModel", "takes", "(I)V"⟩, 129) := ⟨⟨by decide +kernel, by decide +kernel⟩, List.mem_of_getElem? (i := 1166) (by decide +kernel), List.mem_of_getElem? (i := 1651) (by decide +kernel), List.mem_of_getElem? (i := 1652) (by decide +kernel)⟩
def lw_privs_7 : List (MethodName × Nat) := [(⟨"BlameCourtModel", "kindOf", "(III)I"⟩, 129), (⟨"BlameCourtModel", "put", "(I)V"⟩, 129), (⟨"BlameCourtModel", "reads", "()V"⟩, 129), (⟨"BlameCourtModel", "next", "()V"⟩, 129), (⟨"BlameCourtModel", "name", "()V"⟩, 129), (⟨"BlameCourtModel", "sign", "(I)V"⟩, 129), (⟨"BlameCourtModel", "isWell", "()Z"⟩, 129), (⟨"BlameCourtModel", "isWord", "(I)Z"⟩, 129), (⟨"BlameCourtModel", "stray", "()V"⟩, 129), (⟨"BlameCourtModel", "fails", "(II)V"⟩, 129), (⟨"BlameCourtModel", "part", "()V"⟩, 129), (⟨"BlameCourtModel", "opens", "(I)V"⟩, 129), (⟨"BlameCourtModel", "isSign", "(I)Z"⟩, 129), (⟨"BlameCourtModel", "nests", "()V"⟩, 129), (⟨"BlameCourtModel", "closes", "(I)V"⟩, 129), (⟨"BlameCourtModel", "takes", "(I)V"⟩, 129)]
theorem lw_r7 : ∀ q ∈ lw_privs_7, lw_okq q := List.forall_mem_cons.mpr ⟨lw_p96, List.forall_mem_cons.mpr ⟨lw_p97, List.forall_mem_cons.mpr ⟨lw_p98, List.forall_mem_cons.mpr ⟨lw_p99, List.forall_mem_cons.mpr ⟨lw_p100, List.forall_mem_cons.mpr ⟨lw_p101, List.forall_mem_cons.mpr ⟨lw_p102, List.forall_mem_cons.mpr ⟨lw_p103, List.forall_mem_cons.mpr ⟨lw_p104, List.forall_mem_cons.mpr ⟨lw_p105, List.forall_mem_cons.mpr ⟨lw_p106, List.forall_mem_cons.mpr ⟨lw_p107, List.forall_mem_cons.mpr ⟨lw_p108, List.forall_mem_cons.mpr ⟨lw_p109, List.forall_mem_cons.mpr ⟨lw_p110, List.forall_mem_cons.mpr ⟨lw_p111, fun _ h => absurd h List.not_mem_nil⟩⟩⟩⟩⟩⟩⟩⟩⟩⟩⟩⟩⟩⟩⟩⟩
theorem lw_p112 : lw_okq (⟨"BlameCourtModel", "param", "(I)V"⟩, 129) := ⟨⟨by decide +kernel, by decide +kernel⟩, List.mem_of_getElem? (i := 1166) (by decide +kernel), List.mem_of_getElem? (i := 1655) (by decide +kernel), List.mem_of_getElem? (i := 1656) (by decide +kernel)⟩
theorem lw_p113 : lw_okq (⟨"BlameCourtModel", "kind", "()I"⟩, 129) := ⟨⟨by decide +kernel, by decide +kernel⟩, List.mem_of_getElem? (i := 1166) (by decide +kernel), List.mem_of_getElem? (i := 1659) (by decide +kernel), List.mem_of_getElem? (i := 1660) (by decide +kernel)⟩
theorem lw_p114 : lw_okq (⟨"BlameCourtModel", "plainKind", "()I"⟩, 129) := ⟨⟨by decide +kernel, by decide +kernel⟩, List.mem_of_getElem? (i := 1166) (by decide +kernel), List.mem_of_getElem? (i := 1663) (by decide +kernel), List.mem_of_getElem? (i := 1664) (by decide +kernel)⟩
theorem lw_p115 : lw_okq (⟨"BlameCourtModel", "rowOf", "(I)I"⟩, 129) := ⟨⟨by decide +kernel, by decide +kernel⟩, List.mem_of_getElem? (i := 1166) (by decide +kernel), List.mem_of_getElem? (i := 1667) (by decide +kernel), List.mem_of_getElem? (i := 1668) (by decide +kernel)⟩
theorem lw_p116 : lw_okq (⟨"BlameCourtModel", "fifth", "(I)V"⟩, 129) := ⟨⟨by decide +kernel, by decide +kernel⟩, List.mem_of_getElem? (i := 1166) (by decide +kernel), List.mem_of_getElem? (i := 1671) (by decide +kernel), List.mem_of_getElem? (i := 1672) (by decide +kernel)⟩
theorem lw_p117 : lw_okq (⟨"BlameCourtModel", "expression", "()I"⟩, 129) := ⟨⟨by decide +kernel, by decide +kernel⟩, List.mem_of_getElem? (i := 1166) (by decide +kernel), List.mem_of_getElem? (i := 1675) (by decide +kernel), List.mem_of_getElem? (i := 1676) (by decide +kernel)⟩
theorem lw_p118 : lw_okq (⟨"BlameCourtModel", "ente\x72", "(II)V"⟩, 129) := ⟨⟨by decide +kernel, by decide +kernel⟩, List.mem_of_getElem? (i := 1166) (by decide +kernel), List.mem_of_getElem? (i := 1679) (by decide +kernel), List.mem_of_getElem? (i := 1680) (by decide +kernel)⟩
theorem lw_p119 : lw_okq (⟨"BlameCourtModel", "begins", "()V"⟩, 129) := ⟨⟨by decide +kernel, by decide +kernel⟩, List.mem_of_getElem? (i := 1166) (by decide +kernel), List.mem_of_getElem? (i := 1683) (by decide +kernel), List.mem_of_getElem? (i := 1684) (by decide +kernel)⟩
theorem lw_p120 : lw_okq (⟨"BlameCourtModel", "isBeginning", "()Z"⟩, 129) := ⟨⟨by decide +kernel, by decide +kernel⟩, List.mem_of_getElem? (i := 1166) (by decide +kernel), List.mem_of_getElem? (i := 1687) (by decide +kernel), List.mem_of_getElem? (i := 1688) (by decide +kernel)⟩
theorem lw_p121 : lw_okq (⟨"BlameCourtModel", "beginsLet", "()V"⟩, 129) := ⟨⟨by decide +kernel, by decide +kernel⟩, List.mem_of_getElem? (i := 1166) (by decide +kernel), List.mem_of_getElem? (i := 1701) (by decide +kernel), List.mem_of_getElem? (i := 1702) (by decide +kernel)⟩
theorem lw_p122 : lw_okq (⟨"BlameCourtModel", "make", "(II)I"⟩, 129) := ⟨⟨by decide +kernel, by decide +kernel⟩, List.mem_of_getElem? (i := 1166) (by decide +kernel), List.mem_of_getElem? (i := 1705) (by decide +kernel), List.mem_of_getElem? (i := 1706) (by decide +kernel)⟩
theorem lw_p123 : lw_okq (⟨"BlameCourtModel", "operand", "()V"⟩, 129) := ⟨⟨by decide +kernel, by decide +kernel⟩, List.mem_of_getElem? (i := 1166) (by decide +kernel), List.mem_of_getElem? (i := 1709) (by decide +kernel), List.mem_of_getElem? (i := 1710) (by decide +kernel)⟩
theorem lw_p124 : lw_okq (⟨"BlameCourtModel", "numbe\x72", "(I)V"⟩, 129) := ⟨⟨by decide +kernel, by decide +kernel⟩, List.mem_of_getElem? (i := 1166) (by decide +kernel), List.mem_of_getElem? (i := 1713) (by decide +kernel), List.mem_of_getElem? (i := 1714) (by decide +kernel)⟩
theorem lw_p125 : lw_okq (⟨"BlameCourtModel", "done", "(I)V"⟩, 129) := ⟨⟨by decide +kernel, by decide +kernel⟩, List.mem_of_getElem? (i := 1166) (by decide +kernel), List.mem_of_getElem? (i := 1717) (by decide +kernel), List.mem_of_getElem? (i := 1718) (by decide +kernel)⟩
theorem lw_p126 : lw_okq (⟨"BlameCourtModel", "named", "(I)V"⟩, 129) := ⟨⟨by decide +kernel, by decide +kernel⟩, List.mem_of_getElem? (i := 1166) (by decide +kernel), List.mem_of_getElem? (i := 1721) (by decide +kernel), List.mem_of_getElem? (i := 1722) (by decide +kernel)⟩
theorem lw_p127 : lw_okq (⟨"BlameCourtModel", "opened", "(II)V"⟩, 129) := ⟨⟨by decide +kernel, by decide +kernel⟩, List.mem_of_getElem? (i := 1166) (by decide +kernel), List.mem_of_getElem? (i := 1725) (by decide +kernel), List.mem_of_getElem? (i := 1726) (by decide +kernel)⟩
def lw_privs_8 : List (MethodName × Nat) := [(⟨"BlameCourtModel", "param", "(I)V"⟩, 129), (⟨"BlameCourtModel", "kind", "()I"⟩, 129), (⟨"BlameCourtModel", "plainKind", "()I"⟩, 129), (⟨"BlameCourtModel", "rowOf", "(I)I"⟩, 129), (⟨"BlameCourtModel", "fifth", "(I)V"⟩, 129), (⟨"BlameCourtModel", "expression", "()I"⟩, 129), (⟨"BlameCourtModel", "ente\x72", "(II)V"⟩, 129), (⟨"BlameCourtModel", "begins", "()V"⟩, 129), (⟨"BlameCourtModel", "isBeginning", "()Z"⟩, 129), (⟨"BlameCourtModel", "beginsLet", "()V"⟩, 129), (⟨"BlameCourtModel", "make", "(II)I"⟩, 129), (⟨"BlameCourtModel", "operand", "()V"⟩, 129), (⟨"BlameCourtModel", "numbe\x72", "(I)V"⟩, 129), (⟨"BlameCourtModel", "done", "(I)V"⟩, 129), (⟨"BlameCourtModel", "named", "(I)V"⟩, 129), (⟨"BlameCourtModel", "opened", "(II)V"⟩, 129)]
theorem lw_r8 : ∀ q ∈ lw_privs_8, lw_okq q := List.forall_mem_cons.mpr ⟨lw_p112, List.forall_mem_cons.mpr ⟨lw_p113, List.forall_mem_cons.mpr ⟨lw_p114, List.forall_mem_cons.mpr ⟨lw_p115, List.forall_mem_cons.mpr ⟨lw_p116, List.forall_mem_cons.mpr ⟨lw_p117, List.forall_mem_cons.mpr ⟨lw_p118, List.forall_mem_cons.mpr ⟨lw_p119, List.forall_mem_cons.mpr ⟨lw_p120, List.forall_mem_cons.mpr ⟨lw_p121, List.forall_mem_cons.mpr ⟨lw_p122, List.forall_mem_cons.mpr ⟨lw_p123, List.forall_mem_cons.mpr ⟨lw_p124, List.forall_mem_cons.mpr ⟨lw_p125, List.forall_mem_cons.mpr ⟨lw_p126, List.forall_mem_cons.mpr ⟨lw_p127, fun _ h => absurd h List.not_mem_nil⟩⟩⟩⟩⟩⟩⟩⟩⟩⟩⟩⟩⟩⟩⟩⟩
theorem lw_p128 : lw_okq (⟨"BlameCourtModel", "behind", "()V"⟩, 129) := ⟨⟨by decide +kernel, by decide +kernel⟩, List.mem_of_getElem? (i := 1166) (by decide +kernel), List.mem_of_getElem? (i := 1729) (by decide +kernel), List.mem_of_getElem? (i := 1730) (by decide +kernel)⟩
theorem lw_p129 : lw_okq (⟨"BlameCourtModel", "signs", "()V"⟩, 129) := ⟨⟨by decide +kernel, by decide +kernel⟩, List.mem_of_getElem? (i := 1166) (by decide +kernel), List.mem_of_getElem? (i := 1733) (by decide +kernel), List.mem_of_getElem? (i := 1734) (by decide +kernel)⟩
theorem lw_p130 : lw_okq (⟨"BlameCourtModel", "second", "(I)V"⟩, 129) := ⟨⟨by decide +kernel, by decide +kernel⟩, List.mem_of_getElem? (i := 1166) (by decide +kernel), List.mem_of_getElem? (i := 1746) (by decide +kernel), List.mem_of_getElem? (i := 1747) (by decide +kernel)⟩
theorem lw_p131 : lw_okq (⟨"BlameCourtModel", "endsOne", "()V"⟩, 129) := ⟨⟨by decide +kernel, by decide +kernel⟩, List.mem_of_getElem? (i := 1166) (by decide +kernel), List.mem_of_getElem? (i := 1750) (by decide +kernel), List.mem_of_getElem? (i := 1751) (by decide +kernel)⟩
theorem lw_p132 : lw_okq (⟨"BlameCourtModel", "word", "(I)V"⟩, 129) := ⟨⟨by decide +kernel, by decide +kernel⟩, List.mem_of_getElem? (i := 1166) (by decide +kernel), List.mem_of_getElem? (i := 1754) (by decide +kernel), List.mem_of_getElem? (i := 1755) (by decide +kernel)⟩
theorem lw_p133 : lw_okq (⟨"BlameCourtModel", "leaves", "(I)V"⟩, 129) := ⟨⟨by decide +kernel, by decide +kernel⟩, List.mem_of_getElem? (i := 1166) (by decide +kernel), List.mem_of_getElem? (i := 1758) (by decide +kernel), List.mem_of_getElem? (i := 1759) (by decide +kernel)⟩
theorem lw_p134 : lw_okq (⟨"BlameCourtModel", "endsWithin", "(II)V"⟩, 129) := ⟨⟨by decide +kernel, by decide +kernel⟩, List.mem_of_getElem? (i := 1166) (by decide +kernel), List.mem_of_getElem? (i := 1762) (by decide +kernel), List.mem_of_getElem? (i := 1763) (by decide +kernel)⟩
theorem lw_p135 : lw_okq (⟨"BlameCourtModel", "shuts", "(II)V"⟩, 129) := ⟨⟨by decide +kernel, by decide +kernel⟩, List.mem_of_getElem? (i := 1166) (by decide +kernel), List.mem_of_getElem? (i := 1766) (by decide +kernel), List.mem_of_getElem? (i := 1767) (by decide +kernel)⟩
theorem lw_p136 : lw_okq (⟨"BlameCourtModel", "add", "(I)V"⟩, 129) := ⟨⟨by decide +kernel, by decide +kernel⟩, List.mem_of_getElem? (i := 1166) (by decide +kernel), List.mem_of_getElem? (i := 1770) (by decide +kernel), List.mem_of_getElem? (i := 1771) (by decide +kernel)⟩
theorem lw_p137 : lw_okq (⟨"BlameCourtModel", "knows", "()V"⟩, 129) := ⟨⟨by decide +kernel, by decide +kernel⟩, List.mem_of_getElem? (i := 1166) (by decide +kernel), List.mem_of_getElem? (i := 1774) (by decide +kernel), List.mem_of_getElem? (i := 1775) (by decide +kernel)⟩
theorem lw_p138 : lw_okq (⟨"BlameCourtModel", "partOf", "(J)I"⟩, 129) := ⟨⟨by decide +kernel, by decide +kernel⟩, List.mem_of_getElem? (i := 1166) (by decide +kernel), List.mem_of_getElem? (i := 1778) (by decide +kernel), List.mem_of_getElem? (i := 1779) (by decide +kernel)⟩
theorem lw_p139 : lw_okq (⟨"BlameCourtModel", "judges", "()V"⟩, 129) := ⟨⟨by decide +kernel, by decide +kernel⟩, List.mem_of_getElem? (i := 1166) (by decide +kernel), List.mem_of_getElem? (i := 1783) (by decide +kernel), List.mem_of_getElem? (i := 1784) (by decide +kernel)⟩
theorem lw_p140 : lw_okq (⟨"BlameCourtModel", "compiles", "()V"⟩, 129) := ⟨⟨by decide +kernel, by decide +kernel⟩, List.mem_of_getElem? (i := 1166) (by decide +kernel), List.mem_of_getElem? (i := 1787) (by decide +kernel), List.mem_of_getElem? (i := 1788) (by decide +kernel)⟩
theorem lw_p141 : lw_okq (⟨"BlameCourtModel", "task", "(III)V"⟩, 129) := ⟨⟨by decide +kernel, by decide +kernel⟩, List.mem_of_getElem? (i := 1166) (by decide +kernel), List.mem_of_getElem? (i := 1791) (by decide +kernel), List.mem_of_getElem? (i := 1792) (by decide +kernel)⟩
theorem lw_p142 : lw_okq (⟨"BlameCourtModel", "goesOn", "(III)V"⟩, 129) := ⟨⟨by decide +kernel, by decide +kernel⟩, List.mem_of_getElem? (i := 1166) (by decide +kernel), List.mem_of_getElem? (i := 1795) (by decide +kernel), List.mem_of_getElem? (i := 1796) (by decide +kernel)⟩
theorem lw_p143 : lw_okq (⟨"BlameCourtModel", "orde\x72", "(III)V"⟩, 129) := ⟨⟨by decide +kernel, by decide +kernel⟩, List.mem_of_getElem? (i := 1166) (by decide +kernel), List.mem_of_getElem? (i := 1799) (by decide +kernel), List.mem_of_getElem? (i := 1800) (by decide +kernel)⟩
def lw_privs_9 : List (MethodName × Nat) := [(⟨"BlameCourtModel", "behind", "()V"⟩, 129), (⟨"BlameCourtModel", "signs", "()V"⟩, 129), (⟨"BlameCourtModel", "second", "(I)V"⟩, 129), (⟨"BlameCourtModel", "endsOne", "()V"⟩, 129), (⟨"BlameCourtModel", "word", "(I)V"⟩, 129), (⟨"BlameCourtModel", "leaves", "(I)V"⟩, 129), (⟨"BlameCourtModel", "endsWithin", "(II)V"⟩, 129), (⟨"BlameCourtModel", "shuts", "(II)V"⟩, 129), (⟨"BlameCourtModel", "add", "(I)V"⟩, 129), (⟨"BlameCourtModel", "knows", "()V"⟩, 129), (⟨"BlameCourtModel", "partOf", "(J)I"⟩, 129), (⟨"BlameCourtModel", "judges", "()V"⟩, 129), (⟨"BlameCourtModel", "compiles", "()V"⟩, 129), (⟨"BlameCourtModel", "task", "(III)V"⟩, 129), (⟨"BlameCourtModel", "goesOn", "(III)V"⟩, 129), (⟨"BlameCourtModel", "orde\x72", "(III)V"⟩, 129)]
theorem lw_r9 : ∀ q ∈ lw_privs_9, lw_okq q := List.forall_mem_cons.mpr ⟨lw_p128, List.forall_mem_cons.mpr ⟨lw_p129, List.forall_mem_cons.mpr ⟨lw_p130, List.forall_mem_cons.mpr ⟨lw_p131, List.forall_mem_cons.mpr ⟨lw_p132, List.forall_mem_cons.mpr ⟨lw_p133, List.forall_mem_cons.mpr ⟨lw_p134, List.forall_mem_cons.mpr ⟨lw_p135, List.forall_mem_cons.mpr ⟨lw_p136, List.forall_mem_cons.mpr ⟨lw_p137, List.forall_mem_cons.mpr ⟨lw_p138, List.forall_mem_cons.mpr ⟨lw_p139, List.forall_mem_cons.mpr ⟨lw_p140, List.forall_mem_cons.mpr ⟨lw_p141, List.forall_mem_cons.mpr ⟨lw_p142, List.forall_mem_cons.mpr ⟨lw_p143, fun _ h => absurd h List.not_mem_nil⟩⟩⟩⟩⟩⟩⟩⟩⟩⟩⟩⟩⟩⟩⟩⟩
theorem lw_p144 : lw_okq (⟨"BlameCourtModel", "tells", "(I)V"⟩, 129) := ⟨⟨by decide +kernel, by decide +kernel⟩, List.mem_of_getElem? (i := 1166) (by decide +kernel), List.mem_of_getElem? (i := 1803) (by decide +kernel), List.mem_of_getElem? (i := 1804) (by decide +kernel)⟩
theorem lw_p145 : lw_okq (⟨"BlameCourtModel", "taskOfCall", "(I)V"⟩, 129) := ⟨⟨by decide +kernel, by decide +kernel⟩, List.mem_of_getElem? (i := 1166) (by decide +kernel), List.mem_of_getElem? (i := 1807) (by decide +kernel), List.mem_of_getElem? (i := 1808) (by decide +kernel)⟩
theorem lw_p146 : lw_okq (⟨"BlameCourtModel", "tellsMore", "(I)V"⟩, 129) := ⟨⟨by decide +kernel, by decide +kernel⟩, List.mem_of_getElem? (i := 1166) (by decide +kernel), List.mem_of_getElem? (i := 1811) (by decide +kernel), List.mem_of_getElem? (i := 1812) (by decide +kernel)⟩
theorem lw_p147 : lw_okq (⟨"BlameCourtModel", "ownKindOf", "(I)I"⟩, 129) := ⟨⟨by decide +kernel, by decide +kernel⟩, List.mem_of_getElem? (i := 1166) (by decide +kernel), List.mem_of_getElem? (i := 1815) (by decide +kernel), List.mem_of_getElem? (i := 1816) (by decide +kernel)⟩
theorem lw_p148 : lw_okq (⟨"BlameCourtModel", "paramKindOf", "(II)I"⟩, 129) := ⟨⟨by decide +kernel, by decide +kernel⟩, List.mem_of_getElem? (i := 1166) (by decide +kernel), List.mem_of_getElem? (i := 1819) (by decide +kernel), List.mem_of_getElem? (i := 1820) (by decide +kernel)⟩
theorem lw_p149 : lw_okq (⟨"BlameCourtModel", "judgeOne", "(II)V"⟩, 129) := ⟨⟨by decide +kernel, by decide +kernel⟩, List.mem_of_getElem? (i := 1166) (by decide +kernel), List.mem_of_getElem? (i := 1823) (by decide +kernel), List.mem_of_getElem? (i := 1824) (by decide +kernel)⟩
theorem lw_p150 : lw_okq (⟨"BlameCourtModel", "push", "(I)V"⟩, 129) := ⟨⟨by decide +kernel, by decide +kernel⟩, List.mem_of_getElem? (i := 1166) (by decide +kernel), List.mem_of_getElem? (i := 1827) (by decide +kernel), List.mem_of_getElem? (i := 1828) (by decide +kernel)⟩
theorem lw_p151 : lw_okq (⟨"BlameCourtModel", "functionOf", "(I)I"⟩, 129) := ⟨⟨by decide +kernel, by decide +kernel⟩, List.mem_of_getElem? (i := 1166) (by decide +kernel), List.mem_of_getElem? (i := 1831) (by decide +kernel), List.mem_of_getElem? (i := 1832) (by decide +kernel)⟩
theorem lw_p152 : lw_okq (⟨"BlameCourtModel", "must", "(IIII)V"⟩, 129) := ⟨⟨by decide +kernel, by decide +kernel⟩, List.mem_of_getElem? (i := 1166) (by decide +kernel), List.mem_of_getElem? (i := 1835) (by decide +kernel), List.mem_of_getElem? (i := 1836) (by decide +kernel)⟩
theorem lw_p153 : lw_okq (⟨"BlameCourtModel", "fits", "(II)Z"⟩, 129) := ⟨⟨by decide +kernel, by decide +kernel⟩, List.mem_of_getElem? (i := 1166) (by decide +kernel), List.mem_of_getElem? (i := 1839) (by decide +kernel), List.mem_of_getElem? (i := 1840) (by decide +kernel)⟩
theorem lw_p154 : lw_okq (⟨"BlameCourtModel", "guards", "(IIIII)V"⟩, 129) := ⟨⟨by decide +kernel, by decide +kernel⟩, List.mem_of_getElem? (i := 1166) (by decide +kernel), List.mem_of_getElem? (i := 1843) (by decide +kernel), List.mem_of_getElem? (i := 1844) (by decide +kernel)⟩
theorem lw_p155 : lw_okq (⟨"BlameCourtModel", "judgeCallee", "(II)V"⟩, 129) := ⟨⟨by decide +kernel, by decide +kernel⟩, List.mem_of_getElem? (i := 1166) (by decide +kernel), List.mem_of_getElem? (i := 1847) (by decide +kernel), List.mem_of_getElem? (i := 1848) (by decide +kernel)⟩
theorem lw_p156 : lw_okq (⟨"BlameCourtModel", "anyFunction", "(I)I"⟩, 129) := ⟨⟨by decide +kernel, by decide +kernel⟩, List.mem_of_getElem? (i := 1166) (by decide +kernel), List.mem_of_getElem? (i := 1851) (by decide +kernel), List.mem_of_getElem? (i := 1852) (by decide +kernel)⟩
theorem lw_p157 : lw_okq (⟨"BlameCourtModel", "judgeRow", "(II)V"⟩, 129) := ⟨⟨by decide +kernel, by decide +kernel⟩, List.mem_of_getElem? (i := 1166) (by decide +kernel), List.mem_of_getElem? (i := 1855) (by decide +kernel), List.mem_of_getElem? (i := 1856) (by decide +kernel)⟩
theorem lw_p158 : lw_okq (⟨"BlameCourtModel", "paramOf", "(II)I"⟩, 129) := ⟨⟨by decide +kernel, by decide +kernel⟩, List.mem_of_getElem? (i := 1166) (by decide +kernel), List.mem_of_getElem? (i := 1859) (by decide +kernel), List.mem_of_getElem? (i := 1860) (by decide +kernel)⟩
theorem lw_p159 : lw_okq (⟨"BlameCourtModel", "elementOf", "(I)I"⟩, 129) := ⟨⟨by decide +kernel, by decide +kernel⟩, List.mem_of_getElem? (i := 1166) (by decide +kernel), List.mem_of_getElem? (i := 1863) (by decide +kernel), List.mem_of_getElem? (i := 1864) (by decide +kernel)⟩
def lw_privs_10 : List (MethodName × Nat) := [(⟨"BlameCourtModel", "tells", "(I)V"⟩, 129), (⟨"BlameCourtModel", "taskOfCall", "(I)V"⟩, 129), (⟨"BlameCourtModel", "tellsMore", "(I)V"⟩, 129), (⟨"BlameCourtModel", "ownKindOf", "(I)I"⟩, 129), (⟨"BlameCourtModel", "paramKindOf", "(II)I"⟩, 129), (⟨"BlameCourtModel", "judgeOne", "(II)V"⟩, 129), (⟨"BlameCourtModel", "push", "(I)V"⟩, 129), (⟨"BlameCourtModel", "functionOf", "(I)I"⟩, 129), (⟨"BlameCourtModel", "must", "(IIII)V"⟩, 129), (⟨"BlameCourtModel", "fits", "(II)Z"⟩, 129), (⟨"BlameCourtModel", "guards", "(IIIII)V"⟩, 129), (⟨"BlameCourtModel", "judgeCallee", "(II)V"⟩, 129), (⟨"BlameCourtModel", "anyFunction", "(I)I"⟩, 129), (⟨"BlameCourtModel", "judgeRow", "(II)V"⟩, 129), (⟨"BlameCourtModel", "paramOf", "(II)I"⟩, 129), (⟨"BlameCourtModel", "elementOf", "(I)I"⟩, 129)]
theorem lw_r10 : ∀ q ∈ lw_privs_10, lw_okq q := List.forall_mem_cons.mpr ⟨lw_p144, List.forall_mem_cons.mpr ⟨lw_p145, List.forall_mem_cons.mpr ⟨lw_p146, List.forall_mem_cons.mpr ⟨lw_p147, List.forall_mem_cons.mpr ⟨lw_p148, List.forall_mem_cons.mpr ⟨lw_p149, List.forall_mem_cons.mpr ⟨lw_p150, List.forall_mem_cons.mpr ⟨lw_p151, List.forall_mem_cons.mpr ⟨lw_p152, List.forall_mem_cons.mpr ⟨lw_p153, List.forall_mem_cons.mpr ⟨lw_p154, List.forall_mem_cons.mpr ⟨lw_p155, List.forall_mem_cons.mpr ⟨lw_p156, List.forall_mem_cons.mpr ⟨lw_p157, List.forall_mem_cons.mpr ⟨lw_p158, List.forall_mem_cons.mpr ⟨lw_p159, fun _ h => absurd h List.not_mem_nil⟩⟩⟩⟩⟩⟩⟩⟩⟩⟩⟩⟩⟩⟩⟩⟩
theorem lw_p160 : lw_okq (⟨"BlameCourtModel", "judgeMore", "(II)V"⟩, 129) := ⟨⟨by decide +kernel, by decide +kernel⟩, List.mem_of_getElem? (i := 1166) (by decide +kernel), List.mem_of_getElem? (i := 1867) (by decide +kernel), List.mem_of_getElem? (i := 1868) (by decide +kernel)⟩
theorem lw_p161 : lw_okq (⟨"BlameCourtModel", "toldKind", "(I)I"⟩, 129) := ⟨⟨by decide +kernel, by decide +kernel⟩, List.mem_of_getElem? (i := 1166) (by decide +kernel), List.mem_of_getElem? (i := 1871) (by decide +kernel), List.mem_of_getElem? (i := 1872) (by decide +kernel)⟩
theorem lw_p162 : lw_okq (⟨"BlameCourtModel", "judgeJoin", "(I)V"⟩, 129) := ⟨⟨by decide +kernel, by decide +kernel⟩, List.mem_of_getElem? (i := 1166) (by decide +kernel), List.mem_of_getElem? (i := 1875) (by decide +kernel), List.mem_of_getElem? (i := 1876) (by decide +kernel)⟩
theorem lw_p163 : lw_okq (⟨"BlameCourtModel", "judgeElements", "(I)V"⟩, 129) := ⟨⟨by decide +kernel, by decide +kernel⟩, List.mem_of_getElem? (i := 1166) (by decide +kernel), List.mem_of_getElem? (i := 1879) (by decide +kernel), List.mem_of_getElem? (i := 1880) (by decide +kernel)⟩
theorem lw_p164 : lw_okq (⟨"BlameCourtModel", "resultOf", "(I)I"⟩, 129) := ⟨⟨by decide +kernel, by decide +kernel⟩, List.mem_of_getElem? (i := 1166) (by decide +kernel), List.mem_of_getElem? (i := 1883) (by decide +kernel), List.mem_of_getElem? (i := 1884) (by decide +kernel)⟩
theorem lw_p165 : lw_okq (⟨"BlameCourtModel", "starts", "(I)I"⟩, 129) := ⟨⟨by decide +kernel, by decide +kernel⟩, List.mem_of_getElem? (i := 1166) (by decide +kernel), List.mem_of_getElem? (i := 1911) (by decide +kernel), List.mem_of_getElem? (i := 1912) (by decide +kernel)⟩
theorem lw_p166 : lw_okq (⟨"BlameCourtModel", "calls", "(III)V"⟩, 129) := ⟨⟨by decide +kernel, by decide +kernel⟩, List.mem_of_getElem? (i := 1166) (by decide +kernel), List.mem_of_getElem? (i := 1915) (by decide +kernel), List.mem_of_getElem? (i := 1916) (by decide +kernel)⟩
theorem lw_p167 : lw_okq (⟨"BlameCourtModel", "ends", "(II)V"⟩, 129) := ⟨⟨by decide +kernel, by decide +kernel⟩, List.mem_of_getElem? (i := 1166) (by decide +kernel), List.mem_of_getElem? (i := 1919) (by decide +kernel), List.mem_of_getElem? (i := 1920) (by decide +kernel)⟩
theorem lw_p168 : lw_okq (⟨"BlameCourtModel", "isOn", "()Z"⟩, 129) := ⟨⟨by decide +kernel, by decide +kernel⟩, List.mem_of_getElem? (i := 1166) (by decide +kernel), List.mem_of_getElem? (i := 1923) (by decide +kernel), List.mem_of_getElem? (i := 1924) (by decide +kernel)⟩
theorem lw_p169 : lw_okq (⟨"BlameCourtModel", "does", "(II)I"⟩, 129) := ⟨⟨by decide +kernel, by decide +kernel⟩, List.mem_of_getElem? (i := 1166) (by decide +kernel), List.mem_of_getElem? (i := 1927) (by decide +kernel), List.mem_of_getElem? (i := 1928) (by decide +kernel)⟩
theorem lw_p170 : lw_okq (⟨"BlameCourtModel", "value", "(II)V"⟩, 129) := ⟨⟨by decide +kernel, by decide +kernel⟩, List.mem_of_getElem? (i := 1166) (by decide +kernel), List.mem_of_getElem? (i := 1931) (by decide +kernel), List.mem_of_getElem? (i := 1932) (by decide +kernel)⟩
theorem lw_p171 : lw_okq (⟨"BlameCourtModel", "guarded", "(III)V"⟩, 129) := ⟨⟨by decide +kernel, by decide +kernel⟩, List.mem_of_getElem? (i := 1166) (by decide +kernel), List.mem_of_getElem? (i := 1935) (by decide +kernel), List.mem_of_getElem? (i := 1936) (by decide +kernel)⟩
theorem lw_p172 : lw_okq (⟨"BlameCourtModel", "asks", "(IIIIII)V"⟩, 129) := ⟨⟨by decide +kernel, by decide +kernel⟩, List.mem_of_getElem? (i := 1166) (by decide +kernel), List.mem_of_getElem? (i := 1939) (by decide +kernel), List.mem_of_getElem? (i := 1940) (by decide +kernel)⟩
theorem lw_p173 : lw_okq (⟨"BlameCourtModel", "isOfSort", "(II)Z"⟩, 129) := ⟨⟨by decide +kernel, by decide +kernel⟩, List.mem_of_getElem? (i := 1166) (by decide +kernel), List.mem_of_getElem? (i := 1943) (by decide +kernel), List.mem_of_getElem? (i := 1944) (by decide +kernel)⟩
theorem lw_p174 : lw_okq (⟨"BlameCourtModel", "within", "(II)I"⟩, 129) := ⟨⟨by decide +kernel, by decide +kernel⟩, List.mem_of_getElem? (i := 1166) (by decide +kernel), List.mem_of_getElem? (i := 1947) (by decide +kernel), List.mem_of_getElem? (i := 1948) (by decide +kernel)⟩
theorem lw_p175 : lw_okq (⟨"BlameCourtModel", "wraps", "(IIIIII)V"⟩, 129) := ⟨⟨by decide +kernel, by decide +kernel⟩, List.mem_of_getElem? (i := 1166) (by decide +kernel), List.mem_of_getElem? (i := 1951) (by decide +kernel), List.mem_of_getElem? (i := 1952) (by decide +kernel)⟩
def lw_privs_11 : List (MethodName × Nat) := [(⟨"BlameCourtModel", "judgeMore", "(II)V"⟩, 129), (⟨"BlameCourtModel", "toldKind", "(I)I"⟩, 129), (⟨"BlameCourtModel", "judgeJoin", "(I)V"⟩, 129), (⟨"BlameCourtModel", "judgeElements", "(I)V"⟩, 129), (⟨"BlameCourtModel", "resultOf", "(I)I"⟩, 129), (⟨"BlameCourtModel", "starts", "(I)I"⟩, 129), (⟨"BlameCourtModel", "calls", "(III)V"⟩, 129), (⟨"BlameCourtModel", "ends", "(II)V"⟩, 129), (⟨"BlameCourtModel", "isOn", "()Z"⟩, 129), (⟨"BlameCourtModel", "does", "(II)I"⟩, 129), (⟨"BlameCourtModel", "value", "(II)V"⟩, 129), (⟨"BlameCourtModel", "guarded", "(III)V"⟩, 129), (⟨"BlameCourtModel", "asks", "(IIIIII)V"⟩, 129), (⟨"BlameCourtModel", "isOfSort", "(II)Z"⟩, 129), (⟨"BlameCourtModel", "within", "(II)I"⟩, 129), (⟨"BlameCourtModel", "wraps", "(IIIIII)V"⟩, 129)]
theorem lw_r11 : ∀ q ∈ lw_privs_11, lw_okq q := List.forall_mem_cons.mpr ⟨lw_p160, List.forall_mem_cons.mpr ⟨lw_p161, List.forall_mem_cons.mpr ⟨lw_p162, List.forall_mem_cons.mpr ⟨lw_p163, List.forall_mem_cons.mpr ⟨lw_p164, List.forall_mem_cons.mpr ⟨lw_p165, List.forall_mem_cons.mpr ⟨lw_p166, List.forall_mem_cons.mpr ⟨lw_p167, List.forall_mem_cons.mpr ⟨lw_p168, List.forall_mem_cons.mpr ⟨lw_p169, List.forall_mem_cons.mpr ⟨lw_p170, List.forall_mem_cons.mpr ⟨lw_p171, List.forall_mem_cons.mpr ⟨lw_p172, List.forall_mem_cons.mpr ⟨lw_p173, List.forall_mem_cons.mpr ⟨lw_p174, List.forall_mem_cons.mpr ⟨lw_p175, fun _ h => absurd h List.not_mem_nil⟩⟩⟩⟩⟩⟩⟩⟩⟩⟩⟩⟩⟩⟩⟩⟩
theorem lw_p176 : lw_okq (⟨"BlameCourtModel", "deep", "(II)I"⟩, 129) := ⟨⟨by decide +kernel, by decide +kernel⟩, List.mem_of_getElem? (i := 1166) (by decide +kernel), List.mem_of_getElem? (i := 1955) (by decide +kernel), List.mem_of_getElem? (i := 1956) (by decide +kernel)⟩
theorem lw_p177 : lw_okq (⟨"BlameCourtModel", "call", "(II)I"⟩, 129) := ⟨⟨by decide +kernel, by decide +kernel⟩, List.mem_of_getElem? (i := 1166) (by decide +kernel), List.mem_of_getElem? (i := 1959) (by decide +kernel), List.mem_of_getElem? (i := 1960) (by decide +kernel)⟩
theorem lw_p178 : lw_okq (⟨"BlameCourtModel", "goesBack", "()I"⟩, 129) := ⟨⟨by decide +kernel, by decide +kernel⟩, List.mem_of_getElem? (i := 1166) (by decide +kernel), List.mem_of_getElem? (i := 1963) (by decide +kernel), List.mem_of_getElem? (i := 1964) (by decide +kernel)⟩
theorem lw_p179 : lw_okq (⟨"BlameCourtModel", "works", "(II)V"⟩, 129) := ⟨⟨by decide +kernel, by decide +kernel⟩, List.mem_of_getElem? (i := 1166) (by decide +kernel), List.mem_of_getElem? (i := 1967) (by decide +kernel), List.mem_of_getElem? (i := 1968) (by decide +kernel)⟩
theorem lw_p180 : lw_okq (⟨"BlameCourtModel", "row", "(II)I"⟩, 129) := ⟨⟨by decide +kernel, by decide +kernel⟩, List.mem_of_getElem? (i := 1166) (by decide +kernel), List.mem_of_getElem? (i := 1971) (by decide +kernel), List.mem_of_getElem? (i := 1972) (by decide +kernel)⟩
theorem lw_p181 : lw_okq (⟨"BlameCourtModel", "makes", "(I)V"⟩, 129) := ⟨⟨by decide +kernel, by decide +kernel⟩, List.mem_of_getElem? (i := 1166) (by decide +kernel), List.mem_of_getElem? (i := 1975) (by decide +kernel), List.mem_of_getElem? (i := 1976) (by decide +kernel)⟩
theorem lw_p182 : lw_okq (⟨"BlameCourtModel", "sums", "(I)V"⟩, 129) := ⟨⟨by decide +kernel, by decide +kernel⟩, List.mem_of_getElem? (i := 1166) (by decide +kernel), List.mem_of_getElem? (i := 1979) (by decide +kernel), List.mem_of_getElem? (i := 1980) (by decide +kernel)⟩
theorem lw_p183 : lw_okq (⟨"BlameCourtModel", "readsPlace", "(I)V"⟩, 129) := ⟨⟨by decide +kernel, by decide +kernel⟩, List.mem_of_getElem? (i := 1166) (by decide +kernel), List.mem_of_getElem? (i := 1983) (by decide +kernel), List.mem_of_getElem? (i := 1984) (by decide +kernel)⟩
theorem lw_p184 : lw_okq (⟨"BlameCourtModel", "aroundOf", "(I)I"⟩, 129) := ⟨⟨by decide +kernel, by decide +kernel⟩, List.mem_of_getElem? (i := 1166) (by decide +kernel), List.mem_of_getElem? (i := 1987) (by decide +kernel), List.mem_of_getElem? (i := 1988) (by decide +kernel)⟩
theorem lw_p185 : lw_okq (⟨"BlameCourtModel", "writes", "(I)V"⟩, 129) := ⟨⟨by decide +kernel, by decide +kernel⟩, List.mem_of_getElem? (i := 1166) (by decide +kernel), List.mem_of_getElem? (i := 1991) (by decide +kernel), List.mem_of_getElem? (i := 1992) (by decide +kernel)⟩
def lw_privs_12 : List (MethodName × Nat) := [(⟨"BlameCourtModel", "deep", "(II)I"⟩, 129), (⟨"BlameCourtModel", "call", "(II)I"⟩, 129), (⟨"BlameCourtModel", "goesBack", "()I"⟩, 129), (⟨"BlameCourtModel", "works", "(II)V"⟩, 129), (⟨"BlameCourtModel", "row", "(II)I"⟩, 129), (⟨"BlameCourtModel", "makes", "(I)V"⟩, 129), (⟨"BlameCourtModel", "sums", "(I)V"⟩, 129), (⟨"BlameCourtModel", "readsPlace", "(I)V"⟩, 129), (⟨"BlameCourtModel", "aroundOf", "(I)I"⟩, 129), (⟨"BlameCourtModel", "writes", "(I)V"⟩, 129)]
theorem lw_r12 : ∀ q ∈ lw_privs_12, lw_okq q := List.forall_mem_cons.mpr ⟨lw_p176, List.forall_mem_cons.mpr ⟨lw_p177, List.forall_mem_cons.mpr ⟨lw_p178, List.forall_mem_cons.mpr ⟨lw_p179, List.forall_mem_cons.mpr ⟨lw_p180, List.forall_mem_cons.mpr ⟨lw_p181, List.forall_mem_cons.mpr ⟨lw_p182, List.forall_mem_cons.mpr ⟨lw_p183, List.forall_mem_cons.mpr ⟨lw_p184, List.forall_mem_cons.mpr ⟨lw_p185, fun _ h => absurd h List.not_mem_nil⟩⟩⟩⟩⟩⟩⟩⟩⟩⟩
def lw_privs : List (MethodName × Nat) := lw_privs_1 ++ (lw_privs_2 ++ (lw_privs_3 ++ (lw_privs_4 ++ (lw_privs_5 ++ (lw_privs_6 ++ (lw_privs_7 ++ (lw_privs_8 ++ (lw_privs_9 ++ (lw_privs_10 ++ (lw_privs_11 ++ (lw_privs_12)))))))))))
def lw_tbl : List Cond := k2_sels lw_privs ++ tables_1
theorem lw_privs_ok : ∀ q ∈ lw_privs, lw_okq q := by
  show ∀ q ∈ lw_privs_1 ++ (lw_privs_2 ++ (lw_privs_3 ++ (lw_privs_4 ++ (lw_privs_5 ++ (lw_privs_6 ++ (lw_privs_7 ++ (lw_privs_8 ++ (lw_privs_9 ++ (lw_privs_10 ++ (lw_privs_11 ++ (lw_privs_12))))))))))), lw_okq q
  exact List.forall_mem_append.mpr ⟨lw_r1, List.forall_mem_append.mpr ⟨lw_r2, List.forall_mem_append.mpr ⟨lw_r3, List.forall_mem_append.mpr ⟨lw_r4, List.forall_mem_append.mpr ⟨lw_r5, List.forall_mem_append.mpr ⟨lw_r6, List.forall_mem_append.mpr ⟨lw_r7, List.forall_mem_append.mpr ⟨lw_r8, List.forall_mem_append.mpr ⟨lw_r9, List.forall_mem_append.mpr ⟨lw_r10, List.forall_mem_append.mpr ⟨lw_r11, lw_r12⟩⟩⟩⟩⟩⟩⟩⟩⟩⟩⟩

def RX0 : String := "BlameCourt$Guards"
def TX0 : u_T := fun k => match k with
  | 0 => ("BlameCourt$Guards", "place", "[I", true)
  | 1 => ("BlameCourt$Guards", "give\x72", "[I", true)
  | 2 => ("BlameCourt$Guards", "take\x72", "[I", true)
  | 3 => ("BlameCourt$Guards", "from", "[I", true)
  | 4 => ("BlameCourt$Guards", "to", "[I", true)
  | _ => ("BlameCourt$Guards", "count", "I", false)
def tyX0 : Nat → FieldType := fun k => match k with
  | 0 => .array .int
  | 1 => .array .int
  | 2 => .array .int
  | 3 => .array .int
  | 4 => .array .int
  | _ => .int
theorem nmX0 : ∀ a, a < 6 → ∀ b, b < 6 → a ≠ b → (TX0 a).2.1 ≠ (TX0 b).2.1 := by decide +kernel
theorem tyX0_ok : ∀ k, k < 6 → parseFieldDescriptor (TX0 k).2.2.1 = some (tyX0 k) := by decide +kernel
abbrev dfX0 : List Value := [.null, .null, .null, .null, .null, .int 0]
theorem hdfX0 : dfX0.length = 6 := rfl
set_option maxRecDepth 20000 in
theorem dfX0_ok : (List.range 6).map (fun j => defaultValue (tyX0 j)) = dfX0 := rfl
def RX1 : String := "BlameCourt$Heap"
def TX1 : u_T := fun k => match k with
  | 0 => ("BlameCourt$Heap", "rows", "I", false)
  | 1 => ("BlameCourt$Heap", "places", "I", false)
  | 2 => ("BlameCourt$Heap", "wrappings", "I", false)
  | 3 => ("BlameCourt$Heap", "rowFrom", "[I", true)
  | 4 => ("BlameCourt$Heap", "rowLength", "[I", true)
  | 5 => ("BlameCourt$Heap", "cell", "[J", true)
  | 6 => ("BlameCourt$Heap", "within", "[J", true)
  | 7 => ("BlameCourt$Heap", "from", "[I", true)
  | 8 => ("BlameCourt$Heap", "to", "[I", true)
  | 9 => ("BlameCourt$Heap", "give\x72", "[I", true)
  | 10 => ("BlameCourt$Heap", "take\x72", "[I", true)
  | 11 => ("BlameCourt$Heap", "place", "[I", true)
  | _ => ("BlameCourt$Heap", "around", "[I", true)
def tyX1 : Nat → FieldType := fun k => match k with
  | 0 => .int
  | 1 => .int
  | 2 => .int
  | 3 => .array .int
  | 4 => .array .int
  | 5 => .array .long
  | 6 => .array .long
  | 7 => .array .int
  | 8 => .array .int
  | 9 => .array .int
  | 10 => .array .int
  | 11 => .array .int
  | _ => .array .int
theorem nmX1 : ∀ a, a < 13 → ∀ b, b < 13 → a ≠ b → (TX1 a).2.1 ≠ (TX1 b).2.1 := by decide +kernel
theorem tyX1_ok : ∀ k, k < 13 → parseFieldDescriptor (TX1 k).2.2.1 = some (tyX1 k) := by decide +kernel
abbrev dfX1 : List Value := [.int 0, .int 0, .int 0, .null, .null, .null, .null, .null, .null, .null, .null, .null, .null]
theorem hdfX1 : dfX1.length = 13 := rfl
set_option maxRecDepth 20000 in
theorem dfX1_ok : (List.range 13).map (fun j => defaultValue (tyX1 j)) = dfX1 := rfl
def RX2 : String := "BlameCourt$Judging"
def TX2 : u_T := fun k => match k with
  | 0 => ("BlameCourt$Judging", "guards", "LBlameCourt$Guards;", false)
  | 1 => ("BlameCourt$Judging", "program", "LBlameCourt$Program;", false)
  | 2 => ("BlameCourt$Judging", "kinds", "LBlameCourt$Kinds;", false)
  | 3 => ("BlameCourt$Judging", "inPart", "I", false)
  | 4 => ("BlameCourt$Judging", "fault", "I", false)
  | 5 => ("BlameCourt$Judging", "faultPlace", "I", false)
  | 6 => ("BlameCourt$Judging", "anyStands", "[Z", true)
  | 7 => ("BlameCourt$Judging", "paramKind", "[I", true)
  | 8 => ("BlameCourt$Judging", "ownKind", "[I", true)
  | 9 => ("BlameCourt$Judging", "partKind", "[I", true)
  | 10 => ("BlameCourt$Judging", "localKind", "[I", true)
  | 11 => ("BlameCourt$Judging", "stack", "[I", true)
  | 12 => ("BlameCourt$Judging", "askedAt", "[I", true)
  | 13 => ("BlameCourt$Judging", "takerOf", "[I", true)
  | _ => ("BlameCourt$Judging", "top", "I", false)
def tyX2 : Nat → FieldType := fun k => match k with
  | 0 => .object "BlameCourt$Guards"
  | 1 => .object "BlameCourt$Program"
  | 2 => .object "BlameCourt$Kinds"
  | 3 => .int
  | 4 => .int
  | 5 => .int
  | 6 => .array .boolean
  | 7 => .array .int
  | 8 => .array .int
  | 9 => .array .int
  | 10 => .array .int
  | 11 => .array .int
  | 12 => .array .int
  | 13 => .array .int
  | _ => .int
theorem nmX2 : ∀ a, a < 15 → ∀ b, b < 15 → a ≠ b → (TX2 a).2.1 ≠ (TX2 b).2.1 := by decide +kernel
theorem tyX2_ok : ∀ k, k < 15 → parseFieldDescriptor (TX2 k).2.2.1 = some (tyX2 k) := by decide +kernel
abbrev dfX2 : List Value := [.null, .null, .null, .int 0, .int 0, .int 0, .null, .null, .null, .null, .null, .null, .null, .null, .int 0]
theorem hdfX2 : dfX2.length = 15 := rfl
set_option maxRecDepth 20000 in
theorem dfX2_ok : (List.range 15).map (fun j => defaultValue (tyX2 j)) = dfX2 := rfl
def RX3 : String := "BlameCourt$Kinds"
def TX3 : u_T := fun k => match k with
  | 0 => ("BlameCourt$Kinds", "count", "I", false)
  | 1 => ("BlameCourt$Kinds", "sort", "[I", true)
  | 2 => ("BlameCourt$Kinds", "takes", "[I", true)
  | 3 => ("BlameCourt$Kinds", "inne\x72", "[I", true)
  | 4 => ("BlameCourt$Kinds", "code", "[I", true)
  | 5 => ("BlameCourt$Kinds", "hasAny", "[Z", true)
  | 6 => ("BlameCourt$Kinds", "bucket", "[I", true)
  | _ => ("BlameCourt$Kinds", "nextInBucket", "[I", true)
def tyX3 : Nat → FieldType := fun k => match k with
  | 0 => .int
  | 1 => .array .int
  | 2 => .array .int
  | 3 => .array .int
  | 4 => .array .int
  | 5 => .array .boolean
  | 6 => .array .int
  | _ => .array .int
theorem nmX3 : ∀ a, a < 8 → ∀ b, b < 8 → a ≠ b → (TX3 a).2.1 ≠ (TX3 b).2.1 := by decide +kernel
theorem tyX3_ok : ∀ k, k < 8 → parseFieldDescriptor (TX3 k).2.2.1 = some (tyX3 k) := by decide +kernel
abbrev dtX3 : List Value := []
theorem hdtX3 : dtX3.length = 0 := rfl
set_option maxRecDepth 20000 in
theorem dfX3_ok : (List.range 8).map (fun j => defaultValue (tyX3 j)) = [.int 0, .null, .null, .null, .null, .null, .null, .null] := rfl
def RX5 : String := "BlameCourt$Program"
def TX5 : u_T := fun k => match k with
  | 0 => ("BlameCourt$Program", "kinds", "LBlameCourt$Kinds;", true)
  | 1 => ("BlameCourt$Program", "parts", "I", false)
  | 2 => ("BlameCourt$Program", "mainPart", "I", false)
  | 3 => ("BlameCourt$Program", "isTold", "[Z", true)
  | 4 => ("BlameCourt$Program", "entry", "[I", true)
  | 5 => ("BlameCourt$Program", "textKinds", "I", false)
  | 6 => ("BlameCourt$Program", "length", "I", false)
  | 7 => ("BlameCourt$Program", "name", "[J", true)
  | 8 => ("BlameCourt$Program", "letters", "[I", true)
  | 9 => ("BlameCourt$Program", "partPlace", "[I", true)
  | 10 => ("BlameCourt$Program", "params", "[I", true)
  | 11 => ("BlameCourt$Program", "paramKind", "[I", true)
  | 12 => ("BlameCourt$Program", "ownKind", "[I", true)
  | 13 => ("BlameCourt$Program", "op", "[I", true)
  | 14 => ("BlameCourt$Program", "x", "[I", true)
  | 15 => ("BlameCourt$Program", "y", "[I", true)
  | _ => ("BlameCourt$Program", "place", "[I", true)
def tyX5 : Nat → FieldType := fun k => match k with
  | 0 => .object "BlameCourt$Kinds"
  | 1 => .int
  | 2 => .int
  | 3 => .array .boolean
  | 4 => .array .int
  | 5 => .int
  | 6 => .int
  | 7 => .array .long
  | 8 => .array .int
  | 9 => .array .int
  | 10 => .array .int
  | 11 => .array .int
  | 12 => .array .int
  | 13 => .array .int
  | 14 => .array .int
  | 15 => .array .int
  | _ => .array .int
theorem nmX5 : ∀ a, a < 17 → ∀ b, b < 17 → a ≠ b → (TX5 a).2.1 ≠ (TX5 b).2.1 := by decide +kernel
theorem tyX5_ok : ∀ k, k < 17 → parseFieldDescriptor (TX5 k).2.2.1 = some (tyX5 k) := by decide +kernel
abbrev dtX5 : List Value := [.null, .null, .null, .null, .null, .null, .null, .null, .null, .null]
theorem hdtX5 : dtX5.length = 10 := rfl
set_option maxRecDepth 20000 in
theorem dfX5_ok : (List.range 17).map (fun j => defaultValue (tyX5 j)) = [.null, .int 0, .int 0, .null, .null, .int 0, .int 0] ++ dtX5 := rfl
def RX6 : String := "BlameCourt$Reade\x72"
def TX6 : u_T := fun k => match k with
  | 0 => ("BlameCourt$Reade\x72", "tokens", "LBlameCourt$Tokens;", true)
  | 1 => ("BlameCourt$Reade\x72", "program", "LBlameCourt$Program;", false)
  | 2 => ("BlameCourt$Reade\x72", "open", "I", false)
  | 3 => ("BlameCourt$Reade\x72", "fault", "I", false)
  | 4 => ("BlameCourt$Reade\x72", "faultPlace", "I", false)
  | 5 => ("BlameCourt$Reade\x72", "waiting", "I", false)
  | 6 => ("BlameCourt$Reade\x72", "listedKinds", "I", false)
  | 7 => ("BlameCourt$Reade\x72", "namePlace", "[I", true)
  | 8 => ("BlameCourt$Reade\x72", "local", "[J", true)
  | 9 => ("BlameCourt$Reade\x72", "locals", "I", false)
  | 10 => ("BlameCourt$Reade\x72", "waitingSign", "[I", true)
  | 11 => ("BlameCourt$Reade\x72", "waitingPlace", "[I", true)
  | 12 => ("BlameCourt$Reade\x72", "waitingLeft", "[I", true)
  | _ => ("BlameCourt$Reade\x72", "listedKind", "[I", true)
def tyX6 : Nat → FieldType := fun k => match k with
  | 0 => .object "BlameCourt$Tokens"
  | 1 => .object "BlameCourt$Program"
  | 2 => .int
  | 3 => .int
  | 4 => .int
  | 5 => .int
  | 6 => .int
  | 7 => .array .int
  | 8 => .array .long
  | 9 => .int
  | 10 => .array .int
  | 11 => .array .int
  | 12 => .array .int
  | _ => .array .int
theorem nmX6 : ∀ a, a < 14 → ∀ b, b < 14 → a ≠ b → (TX6 a).2.1 ≠ (TX6 b).2.1 := by decide +kernel
theorem tyX6_ok : ∀ k, k < 14 → parseFieldDescriptor (TX6 k).2.2.1 = some (tyX6 k) := by decide +kernel
abbrev dtX6 : List Value := [.null, .null, .int 0, .null, .null, .null, .null]
theorem hdtX6 : dtX6.length = 7 := rfl
set_option maxRecDepth 20000 in
theorem dfX6_ok : (List.range 14).map (fun j => defaultValue (tyX6 j)) = [.null, .null, .int 0, .int 0, .int 0, .int 0, .int 0] ++ dtX6 := rfl
def RX7 : String := "BlameCourt$Running"
def TX7 : u_T := fun k => match k with
  | 0 => ("BlameCourt$Running", "guards", "LBlameCourt$Guards;", false)
  | 1 => ("BlameCourt$Running", "heap", "LBlameCourt$Heap;", true)
  | 2 => ("BlameCourt$Running", "program", "LBlameCourt$Program;", false)
  | 3 => ("BlameCourt$Running", "guarded", "Z", false)
  | 4 => ("BlameCourt$Running", "going", "Z", false)
  | 5 => ("BlameCourt$Running", "ended", "I", false)
  | 6 => ("BlameCourt$Running", "endPlace", "I", false)
  | 7 => ("BlameCourt$Running", "blamed", "I", false)
  | 8 => ("BlameCourt$Running", "fuel", "I", false)
  | 9 => ("BlameCourt$Running", "steps", "I", false)
  | 10 => ("BlameCourt$Running", "pc", "I", false)
  | 11 => ("BlameCourt$Running", "calls", "I", false)
  | 12 => ("BlameCourt$Running", "returnTo", "[I", true)
  | 13 => ("BlameCourt$Running", "local", "[J", true)
  | 14 => ("BlameCourt$Running", "stack", "[J", true)
  | 15 => ("BlameCourt$Running", "top", "I", false)
  | 16 => ("BlameCourt$Running", "wrapping", "[I", true)
  | 17 => ("BlameCourt$Running", "outNumbers", "[I", true)
  | 18 => ("BlameCourt$Running", "outs", "I", false)
  | _ => ("BlameCourt$Running", "askings", "[I", true)
def tyX7 : Nat → FieldType := fun k => match k with
  | 0 => .object "BlameCourt$Guards"
  | 1 => .object "BlameCourt$Heap"
  | 2 => .object "BlameCourt$Program"
  | 3 => .boolean
  | 4 => .boolean
  | 5 => .int
  | 6 => .int
  | 7 => .int
  | 8 => .int
  | 9 => .int
  | 10 => .int
  | 11 => .int
  | 12 => .array .int
  | 13 => .array .long
  | 14 => .array .long
  | 15 => .int
  | 16 => .array .int
  | 17 => .array .int
  | 18 => .int
  | _ => .array .int
theorem nmX7 : ∀ a, a < 20 → ∀ b, b < 20 → a ≠ b → (TX7 a).2.1 ≠ (TX7 b).2.1 := by decide +kernel
theorem tyX7_ok : ∀ k, k < 20 → parseFieldDescriptor (TX7 k).2.2.1 = some (tyX7 k) := by decide +kernel
abbrev dfX7 : List Value := [.null, .null, .null, .int 0, .int 0, .int 0, .int 0, .int 0, .int 0, .int 0, .int 0, .int 0, .null, .null, .null, .int 0, .null, .null, .int 0, .null]
theorem hdfX7 : dfX7.length = 20 := rfl
set_option maxRecDepth 20000 in
theorem dfX7_ok : (List.range 20).map (fun j => defaultValue (tyX7 j)) = dfX7 := rfl
def RX9 : String := "BlameCourt$Tokens"
def TX9 : u_T := fun k => match k with
  | 0 => ("BlameCourt$Tokens", "text", "[B", false)
  | 1 => ("BlameCourt$Tokens", "length", "I", false)
  | 2 => ("BlameCourt$Tokens", "next", "I", false)
  | 3 => ("BlameCourt$Tokens", "type", "I", false)
  | 4 => ("BlameCourt$Tokens", "place", "I", false)
  | 5 => ("BlameCourt$Tokens", "letters", "J", false)
  | 6 => ("BlameCourt$Tokens", "letterCount", "I", false)
  | _ => ("BlameCourt$Tokens", "numbe\x72", "J", false)
def tyX9 : Nat → FieldType := fun k => match k with
  | 0 => .array .byte
  | 1 => .int
  | 2 => .int
  | 3 => .int
  | 4 => .int
  | 5 => .long
  | 6 => .int
  | _ => .long
theorem nmX9 : ∀ a, a < 8 → ∀ b, b < 8 → a ≠ b → (TX9 a).2.1 ≠ (TX9 b).2.1 := by decide +kernel
theorem tyX9_ok : ∀ k, k < 8 → parseFieldDescriptor (TX9 k).2.2.1 = some (tyX9 k) := by decide +kernel
abbrev dtX9 : List Value := []
theorem hdtX9 : dtX9.length = 0 := rfl
set_option maxRecDepth 20000 in
theorem dfX9_ok : (List.range 8).map (fun j => defaultValue (tyX9 j)) = [.null, .int 0, .int 0, .int 0, .int 0, .long 0, .int 0, .long 0] := rfl
def RX10 : String := "BlameCourt"
def TX10 : u_T := fun k => match k with
  | 0 => ("BlameCourt", "tape", "[B", true)
  | 1 => ("BlameCourt", "tapeLength", "I", false)
  | 2 => ("BlameCourt", "spare", "LBlameCourt$Program;", false)
  | 3 => ("BlameCourt", "hasProgram", "Z", false)
  | 4 => ("BlameCourt", "isJudged", "Z", false)
  | 5 => ("BlameCourt", "hasRun", "Z", false)
  | 6 => ("BlameCourt", "reade\x72", "LBlameCourt$Reader;", true)
  | 7 => ("BlameCourt", "latestFault", "I", false)
  | 8 => ("BlameCourt", "latestFaultPlace", "I", false)
  | 9 => ("BlameCourt", "program", "LBlameCourt$Program;", false)
  | 10 => ("BlameCourt", "guards", "LBlameCourt$Guards;", true)
  | 11 => ("BlameCourt", "judging", "LBlameCourt$Judging;", true)
  | _ => ("BlameCourt", "running", "LBlameCourt$Running;", true)
def tyX10 : Nat → FieldType := fun k => match k with
  | 0 => .array .byte
  | 1 => .int
  | 2 => .object "BlameCourt$Program"
  | 3 => .boolean
  | 4 => .boolean
  | 5 => .boolean
  | 6 => .object "BlameCourt$Reade\x72"
  | 7 => .int
  | 8 => .int
  | 9 => .object "BlameCourt$Program"
  | 10 => .object "BlameCourt$Guards"
  | 11 => .object "BlameCourt$Judging"
  | _ => .object "BlameCourt$Running"
theorem nmX10 : ∀ a, a < 13 → ∀ b, b < 13 → a ≠ b → (TX10 a).2.1 ≠ (TX10 b).2.1 := by decide +kernel
theorem tyX10_ok : ∀ k, k < 13 → parseFieldDescriptor (TX10 k).2.2.1 = some (tyX10 k) := by decide +kernel
abbrev dtX10 : List Value := [.null, .null, .null, .null]
theorem hdtX10 : dtX10.length = 4 := rfl
set_option maxRecDepth 20000 in
theorem dfX10_ok : (List.range 13).map (fun j => defaultValue (tyX10 j)) = [.null, .int 0, .null, .int 0, .int 0, .int 0, .null, .int 0, .int 0] ++ dtX10 := rfl
def RX11 : String := "BlameCourtModel"
def TX11 : u_T := fun k => match k with
  | 0 => ("BlameCourtModel", "taped", "I", false)
  | 1 => ("BlameCourtModel", "length", "I", false)
  | 2 => ("BlameCourtModel", "hasProgram", "Z", false)
  | 3 => ("BlameCourtModel", "isJudged", "Z", false)
  | 4 => ("BlameCourtModel", "at", "I", false)
  | 5 => ("BlameCourtModel", "token", "I", false)
  | 6 => ("BlameCourtModel", "sort", "I", false)
  | 7 => ("BlameCourtModel", "told", "J", false)
  | 8 => ("BlameCourtModel", "wrong", "I", false)
  | 9 => ("BlameCourtModel", "wrongAt", "I", false)
  | 10 => ("BlameCourtModel", "fault", "I", false)
  | 11 => ("BlameCourtModel", "faultAt", "I", false)
  | 12 => ("BlameCourtModel", "kinds", "I", false)
  | 13 => ("BlameCourtModel", "textKinds", "I", false)
  | 14 => ("BlameCourtModel", "listed", "I", false)
  | 15 => ("BlameCourtModel", "textListed", "I", false)
  | 16 => ("BlameCourtModel", "parts", "I", false)
  | 17 => ("BlameCourtModel", "nodes", "I", false)
  | 18 => ("BlameCourtModel", "main", "I", false)
  | 19 => ("BlameCourtModel", "hasRun", "Z", false)
  | 20 => ("BlameCourtModel", "tape", "[B", true)
  | 21 => ("BlameCourtModel", "kSort", "[I", true)
  | 22 => ("BlameCourtModel", "kMany", "[I", true)
  | 23 => ("BlameCourtModel", "kFirst", "[I", true)
  | 24 => ("BlameCourtModel", "kCode", "[I", true)
  | 25 => ("BlameCourtModel", "kAny", "[Z", true)
  | 26 => ("BlameCourtModel", "text", "[B", true)
  | 27 => ("BlameCourtModel", "forme\x72", "[B", true)
  | 28 => ("BlameCourtModel", "formerLength", "I", false)
  | 29 => ("BlameCourtModel", "letters", "I", false)
  | 30 => ("BlameCourtModel", "kList", "[I", true)
  | 31 => ("BlameCourtModel", "given", "[I", true)
  | 32 => ("BlameCourtModel", "givens", "I", false)
  | 33 => ("BlameCourtModel", "partName", "[J", true)
  | 34 => ("BlameCourtModel", "partNameAt", "[I", true)
  | 35 => ("BlameCourtModel", "partNameMany", "[I", true)
  | 36 => ("BlameCourtModel", "partAt", "[I", true)
  | 37 => ("BlameCourtModel", "params", "[I", true)
  | 38 => ("BlameCourtModel", "paramKind", "[I", true)
  | 39 => ("BlameCourtModel", "partKind", "[I", true)
  | 40 => ("BlameCourtModel", "partBody", "[I", true)
  | 41 => ("BlameCourtModel", "isTold", "[Z", true)
  | 42 => ("BlameCourtModel", "node", "[I", true)
  | 43 => ("BlameCourtModel", "first", "[I", true)
  | 44 => ("BlameCourtModel", "where", "[I", true)
  | 45 => ("BlameCourtModel", "a", "[I", true)
  | 46 => ("BlameCourtModel", "b", "[I", true)
  | 47 => ("BlameCourtModel", "c", "[I", true)
  | 48 => ("BlameCourtModel", "v", "[I", true)
  | 49 => ("BlameCourtModel", "many", "[I", true)
  | 50 => ("BlameCourtModel", "afte\x72", "[I", true)
  | 51 => ("BlameCourtModel", "unknown", "[J", true)
  | 52 => ("BlameCourtModel", "scope", "I", false)
  | 53 => ("BlameCourtModel", "scopeName", "[J", true)
  | 54 => ("BlameCourtModel", "pairA", "[I", true)
  | 55 => ("BlameCourtModel", "pairB", "[I", true)
  | 56 => ("BlameCourtModel", "nest", "I", false)
  | 57 => ("BlameCourtModel", "openKind", "[I", true)
  | 58 => ("BlameCourtModel", "openFrom", "[I", true)
  | 59 => ("BlameCourtModel", "frames", "I", false)
  | 60 => ("BlameCourtModel", "frame", "[I", true)
  | 61 => ("BlameCourtModel", "frameNode", "[I", true)
  | 62 => ("BlameCourtModel", "frameLast", "[I", true)
  | 63 => ("BlameCourtModel", "frameScope", "[I", true)
  | 64 => ("BlameCourtModel", "chain", "[I", true)
  | 65 => ("BlameCourtModel", "mode", "I", false)
  | 66 => ("BlameCourtModel", "hand", "I", false)
  | 67 => ("BlameCourtModel", "orders", "I", false)
  | 68 => ("BlameCourtModel", "orde\x72", "[I", true)
  | 69 => ("BlameCourtModel", "of", "[I", true)
  | 70 => ("BlameCourtModel", "more", "[I", true)
  | 71 => ("BlameCourtModel", "guardOf", "[I", true)
  | 72 => ("BlameCourtModel", "partOrde\x72", "[I", true)
  | 73 => ("BlameCourtModel", "eitherAt", "[I", true)
  | 74 => ("BlameCourtModel", "elseAt", "[I", true)
  | 75 => ("BlameCourtModel", "overAt", "[I", true)
  | 76 => ("BlameCourtModel", "tasks", "I", false)
  | 77 => ("BlameCourtModel", "task", "[I", true)
  | 78 => ("BlameCourtModel", "taskOf", "[I", true)
  | 79 => ("BlameCourtModel", "taskMore", "[I", true)
  | 80 => ("BlameCourtModel", "callOf", "[I", true)
  | 81 => ("BlameCourtModel", "guards", "I", false)
  | 82 => ("BlameCourtModel", "gPlace", "[I", true)
  | 83 => ("BlameCourtModel", "gFrom", "[I", true)
  | 84 => ("BlameCourtModel", "gTo", "[I", true)
  | 85 => ("BlameCourtModel", "gGive\x72", "[I", true)
  | 86 => ("BlameCourtModel", "gTake\x72", "[I", true)
  | 87 => ("BlameCourtModel", "standsAny", "[Z", true)
  | 88 => ("BlameCourtModel", "judged", "I", false)
  | 89 => ("BlameCourtModel", "depth", "I", false)
  | 90 => ("BlameCourtModel", "kindAt", "[I", true)
  | 91 => ("BlameCourtModel", "localKind", "[I", true)
  | 92 => ("BlameCourtModel", "top", "I", false)
  | 93 => ("BlameCourtModel", "vSort", "[I", true)
  | 94 => ("BlameCourtModel", "vWhat", "[I", true)
  | 95 => ("BlameCourtModel", "base", "I", false)
  | 96 => ("BlameCourtModel", "lSort", "[I", true)
  | 97 => ("BlameCourtModel", "lWhat", "[I", true)
  | 98 => ("BlameCourtModel", "things", "I", false)
  | 99 => ("BlameCourtModel", "isWrap", "[Z", true)
  | 100 => ("BlameCourtModel", "tFirst", "[I", true)
  | 101 => ("BlameCourtModel", "tMany", "[I", true)
  | 102 => ("BlameCourtModel", "tWithin", "[I", true)
  | 103 => ("BlameCourtModel", "tFrom", "[I", true)
  | 104 => ("BlameCourtModel", "tTo", "[I", true)
  | 105 => ("BlameCourtModel", "tGive\x72", "[I", true)
  | 106 => ("BlameCourtModel", "tTake\x72", "[I", true)
  | 107 => ("BlameCourtModel", "tPlace", "[I", true)
  | 108 => ("BlameCourtModel", "tDeep", "[I", true)
  | 109 => ("BlameCourtModel", "placed", "I", false)
  | 110 => ("BlameCourtModel", "pSort", "[I", true)
  | 111 => ("BlameCourtModel", "pWhat", "[I", true)
  | 112 => ("BlameCourtModel", "rows", "I", false)
  | 113 => ("BlameCourtModel", "wraps", "I", false)
  | 114 => ("BlameCourtModel", "backs", "I", false)
  | 115 => ("BlameCourtModel", "calls", "I", false)
  | 116 => ("BlameCourtModel", "backWrap", "[I", true)
  | 117 => ("BlameCourtModel", "backTo", "[I", true)
  | 118 => ("BlameCourtModel", "backBase", "[I", true)
  | 119 => ("BlameCourtModel", "fuel", "I", false)
  | 120 => ("BlameCourtModel", "steps", "I", false)
  | 121 => ("BlameCourtModel", "isGuarded", "Z", false)
  | 122 => ("BlameCourtModel", "ended", "I", false)
  | 123 => ("BlameCourtModel", "endedAt", "I", false)
  | 124 => ("BlameCourtModel", "blamed", "I", false)
  | 125 => ("BlameCourtModel", "outs", "I", false)
  | 126 => ("BlameCourtModel", "out", "[I", true)
  | 127 => ("BlameCourtModel", "asks", "[I", true)
  | _ => ("BlameCourtModel", "around", "[I", true)
def tyX11 : Nat → FieldType := fun k => match k with
  | 0 => .int
  | 1 => .int
  | 2 => .boolean
  | 3 => .boolean
  | 4 => .int
  | 5 => .int
  | 6 => .int
  | 7 => .long
  | 8 => .int
  | 9 => .int
  | 10 => .int
  | 11 => .int
  | 12 => .int
  | 13 => .int
  | 14 => .int
  | 15 => .int
  | 16 => .int
  | 17 => .int
  | 18 => .int
  | 19 => .boolean
  | 20 => .array .byte
  | 21 => .array .int
  | 22 => .array .int
  | 23 => .array .int
  | 24 => .array .int
  | 25 => .array .boolean
  | 26 => .array .byte
  | 27 => .array .byte
  | 28 => .int
  | 29 => .int
  | 30 => .array .int
  | 31 => .array .int
  | 32 => .int
  | 33 => .array .long
  | 34 => .array .int
  | 35 => .array .int
  | 36 => .array .int
  | 37 => .array .int
  | 38 => .array .int
  | 39 => .array .int
  | 40 => .array .int
  | 41 => .array .boolean
  | 42 => .array .int
  | 43 => .array .int
  | 44 => .array .int
  | 45 => .array .int
  | 46 => .array .int
  | 47 => .array .int
  | 48 => .array .int
  | 49 => .array .int
  | 50 => .array .int
  | 51 => .array .long
  | 52 => .int
  | 53 => .array .long
  | 54 => .array .int
  | 55 => .array .int
  | 56 => .int
  | 57 => .array .int
  | 58 => .array .int
  | 59 => .int
  | 60 => .array .int
  | 61 => .array .int
  | 62 => .array .int
  | 63 => .array .int
  | 64 => .array .int
  | 65 => .int
  | 66 => .int
  | 67 => .int
  | 68 => .array .int
  | 69 => .array .int
  | 70 => .array .int
  | 71 => .array .int
  | 72 => .array .int
  | 73 => .array .int
  | 74 => .array .int
  | 75 => .array .int
  | 76 => .int
  | 77 => .array .int
  | 78 => .array .int
  | 79 => .array .int
  | 80 => .array .int
  | 81 => .int
  | 82 => .array .int
  | 83 => .array .int
  | 84 => .array .int
  | 85 => .array .int
  | 86 => .array .int
  | 87 => .array .boolean
  | 88 => .int
  | 89 => .int
  | 90 => .array .int
  | 91 => .array .int
  | 92 => .int
  | 93 => .array .int
  | 94 => .array .int
  | 95 => .int
  | 96 => .array .int
  | 97 => .array .int
  | 98 => .int
  | 99 => .array .boolean
  | 100 => .array .int
  | 101 => .array .int
  | 102 => .array .int
  | 103 => .array .int
  | 104 => .array .int
  | 105 => .array .int
  | 106 => .array .int
  | 107 => .array .int
  | 108 => .array .int
  | 109 => .int
  | 110 => .array .int
  | 111 => .array .int
  | 112 => .int
  | 113 => .int
  | 114 => .int
  | 115 => .int
  | 116 => .array .int
  | 117 => .array .int
  | 118 => .array .int
  | 119 => .int
  | 120 => .int
  | 121 => .boolean
  | 122 => .int
  | 123 => .int
  | 124 => .int
  | 125 => .int
  | 126 => .array .int
  | 127 => .array .int
  | _ => .array .int
theorem nmX11 : ∀ a, a < 129 → ∀ b, b < 129 → a ≠ b → (TX11 a).2.1 ≠ (TX11 b).2.1 := by decide +kernel
theorem tyX11_ok : ∀ k, k < 129 → parseFieldDescriptor (TX11 k).2.2.1 = some (tyX11 k) := by decide +kernel
abbrev dtX11 : List Value := [.null, .null, .int 0, .int 0, .null, .null, .int 0, .null, .null, .null, .null, .null, .null, .null, .null, .null, .null, .null, .null, .null, .null, .null, .null, .null, .null, .null, .int 0, .null, .null, .null, .int 0, .null, .null, .int 0, .null, .null, .null, .null, .null, .int 0, .int 0, .int 0, .null, .null, .null, .null, .null, .null, .null, .null, .int 0, .null, .null, .null, .null, .int 0, .null, .null, .null, .null, .null, .null, .int 0, .int 0, .null, .null, .int 0, .null, .null, .int 0, .null, .null, .int 0, .null, .null, .null, .null, .null, .null, .null, .null, .null, .null, .int 0, .null, .null, .int 0, .int 0, .int 0, .int 0, .null, .null, .null, .int 0, .int 0, .int 0, .int 0, .int 0, .int 0, .int 0, .null, .null, .null]
theorem hdtX11 : dtX11.length = 103 := rfl
set_option maxRecDepth 20000 in
theorem dfX11_ok : (List.range 129).map (fun j => defaultValue (tyX11 j)) = [.int 0, .int 0, .int 0, .int 0, .int 0, .int 0, .int 0, .long 0, .int 0, .int 0, .int 0, .int 0, .int 0, .int 0, .int 0, .int 0, .int 0, .int 0, .int 0, .int 0, .null, .null, .null, .null, .null, .null] ++ dtX11 := rfl
abbrev classes : List vw_C := [(RX0, TX0, 6), (RX1, TX1, 13), (RX2, TX2, 15), (RX3, TX3, 8), (RX5, TX5, 17), (RX6, TX6, 14), (RX7, TX7, 20), (RX9, TX9, 8), (RX10, TX10, 13), (RX11, TX11, 129)]
abbrev cX0_init : ByteArray := prog_2_method_1_code
def yX0_init : MethodName := ⟨RX0, "<init>", "()V"⟩
abbrev cX0_lay : ByteArray := prog_2_method_2_code
def yX0_lay : MethodName := ⟨RX0, "lay", "(IIIII)I"⟩
abbrev cX1_init : ByteArray := prog_3_method_1_code
def yX1_init : MethodName := ⟨RX1, "<init>", "()V"⟩
abbrev cX1_clear : ByteArray := prog_3_method_2_code
def yX1_clear : MethodName := ⟨RX1, "clea\x72", "()V"⟩
abbrev cX1_valueOf : ByteArray := prog_3_method_3_code
def yX1_valueOf : MethodName := ⟨RX1, "valueOf", "(II)J"⟩
abbrev cX1_sortOf : ByteArray := prog_3_method_4_code
def yX1_sortOf : MethodName := ⟨RX1, "sortOf", "(J)I"⟩
abbrev cX1_contentOf : ByteArray := prog_3_method_5_code
def yX1_contentOf : MethodName := ⟨RX1, "contentOf", "(J)I"⟩
abbrev cX1_hasRoom : ByteArray := prog_3_method_6_code
def yX1_hasRoom : MethodName := ⟨RX1, "hasRoom", "(I)Z"⟩
abbrev cX1_newRow : ByteArray := prog_3_method_7_code
def yX1_newRow : MethodName := ⟨RX1, "newRow", "(IJ)J"⟩
abbrev cX1_lengthOf : ByteArray := prog_3_method_8_code
def yX1_lengthOf : MethodName := ⟨RX1, "lengthOf", "(J)I"⟩
abbrev cX1_hasPlace : ByteArray := prog_3_method_9_code
def yX1_hasPlace : MethodName := ⟨RX1, "hasPlace", "(JI)Z"⟩
abbrev cX1_fetch : ByteArray := prog_3_method_10_code
def yX1_fetch : MethodName := ⟨RX1, "fetch", "(JI)J"⟩
abbrev cX1_store : ByteArray := prog_3_method_11_code
def yX1_store : MethodName := ⟨RX1, "store", "(JIJ)V"⟩
abbrev cX1_wrappingOf : ByteArray := prog_3_method_12_code
def yX1_wrappingOf : MethodName := ⟨RX1, "wrappingOf", "(J)I"⟩
abbrev cX1_core : ByteArray := prog_3_method_13_code
def yX1_core : MethodName := ⟨RX1, "core", "(J)J"⟩
abbrev cX1_wrappingsAround : ByteArray := prog_3_method_14_code
def yX1_wrappingsAround : MethodName := ⟨RX1, "wrappingsAround", "(J)I"⟩
abbrev cX2_init : ByteArray := prog_4_method_1_code
def yX2_init : MethodName := ⟨RX2, "<init>", "()V"⟩
abbrev cX2_judgeAll : ByteArray := prog_4_method_2_code
def yX2_judgeAll : MethodName := ⟨RX2, "judgeAll", "(LBlameCourt$Program;LBlameCourt$Guards;)V"⟩
abbrev cX2_takeHeader : ByteArray := prog_4_method_3_code
def yX2_takeHeader : MethodName := ⟨RX2, "takeHeade\x72", "(I)V"⟩
abbrev cX2_asTold : ByteArray := prog_4_method_4_code
def yX2_asTold : MethodName := ⟨RX2, "asTold", "(II)I"⟩
abbrev cX2_judgePart : ByteArray := prog_4_method_5_code
def yX2_judgePart : MethodName := ⟨RX2, "judgePart", "(I)V"⟩
abbrev cX2_push : ByteArray := prog_4_method_6_code
def yX2_push : MethodName := ⟨RX2, "push", "(I)V"⟩
abbrev cX2_pop : ByteArray := prog_4_method_7_code
def yX2_pop : MethodName := ⟨RX2, "pop", "()I"⟩
abbrev cX2_below : ByteArray := prog_4_method_8_code
def yX2_below : MethodName := ⟨RX2, "below", "(I)I"⟩
abbrev cX2_replace : ByteArray := prog_4_method_9_code
def yX2_replace : MethodName := ⟨RX2, "replace", "(II)V"⟩
abbrev cX2_judgePlain : ByteArray := prog_4_method_10_code
def yX2_judgePlain : MethodName := ⟨RX2, "judgePlain", "(II)V"⟩
abbrev cX2_judgeWork : ByteArray := prog_4_method_11_code
def yX2_judgeWork : MethodName := ⟨RX2, "judgeWork", "(II)V"⟩
abbrev cX2_bind : ByteArray := prog_4_method_12_code
def yX2_bind : MethodName := ⟨RX2, "bind", "(I)V"⟩
abbrev cX2_mix : ByteArray := prog_4_method_13_code
def yX2_mix : MethodName := ⟨RX2, "mix", "(I)I"⟩
abbrev cX2_layGuard : ByteArray := prog_4_method_14_code
def yX2_layGuard : MethodName := ⟨RX2, "layGuard", "(IIII)V"⟩
abbrev cX2_judgeAsking : ByteArray := prog_4_method_15_code
def yX2_judgeAsking : MethodName := ⟨RX2, "judgeAsking", "(I)V"⟩
abbrev cX2_takerBelow : ByteArray := prog_4_method_16_code
def yX2_takerBelow : MethodName := ⟨RX2, "takerBelow", "(I)I"⟩
abbrev cX2_meet : ByteArray := prog_4_method_17_code
def yX2_meet : MethodName := ⟨RX2, "meet", "(III)V"⟩
abbrev cX2_setTop : ByteArray := prog_4_method_18_code
def yX2_setTop : MethodName := ⟨RX2, "setTop", "(I)V"⟩
abbrev cX2_meetForm : ByteArray := prog_4_method_19_code
def yX2_meetForm : MethodName := ⟨RX2, "meetForm", "(III)V"⟩
abbrev cX2_meetCalled : ByteArray := prog_4_method_20_code
def yX2_meetCalled : MethodName := ⟨RX2, "meetCalled", "(II)V"⟩
abbrev cX2_refuse : ByteArray := prog_4_method_21_code
def yX2_refuse : MethodName := ⟨RX2, "refuse", "(II)V"⟩
abbrev cX3_init : ByteArray := prog_5_method_1_code
def yX3_init : MethodName := ⟨RX3, "<init>", "()V"⟩
abbrev cX3_forgetTexts : ByteArray := prog_5_method_2_code
def yX3_forgetTexts : MethodName := ⟨RX3, "forgetTexts", "()V"⟩
abbrev cX3_cutTo : ByteArray := prog_5_method_3_code
def yX3_cutTo : MethodName := ⟨RX3, "cutTo", "(I)V"⟩
abbrev cX3_rowOf : ByteArray := prog_5_method_4_code
def yX3_rowOf : MethodName := ⟨RX3, "rowOf", "(I)I"⟩
abbrev cX3_functionOf : ByteArray := prog_5_method_5_code
def yX3_functionOf : MethodName := ⟨RX3, "functionOf", "([IIII)I"⟩
abbrev cX3_bucketOf : ByteArray := prog_5_method_6_code
def yX3_bucketOf : MethodName := ⟨RX3, "bucketOf", "(I)I"⟩
abbrev cX3_findOrAdd : ByteArray := prog_5_method_7_code
def yX3_findOrAdd : MethodName := ⟨RX3, "findOrAdd", "(II[IIII)I"⟩
abbrev cX3_isSame : ByteArray := prog_5_method_8_code
def yX3_isSame : MethodName := ⟨RX3, "isSame", "(II[III)Z"⟩
abbrev cX3_codeOf : ByteArray := prog_5_method_9_code
def yX3_codeOf : MethodName := ⟨RX3, "codeOf", "(I)I"⟩
abbrev cX3_sortOf : ByteArray := prog_5_method_10_code
def yX3_sortOf : MethodName := ⟨RX3, "sortOf", "(I)I"⟩
abbrev cX3_hasAny : ByteArray := prog_5_method_11_code
def yX3_hasAny : MethodName := ⟨RX3, "hasAny", "(I)Z"⟩
abbrev cX3_takenBy : ByteArray := prog_5_method_12_code
def yX3_takenBy : MethodName := ⟨RX3, "takenBy", "(I)I"⟩
abbrev cX3_paramOf : ByteArray := prog_5_method_13_code
def yX3_paramOf : MethodName := ⟨RX3, "paramOf", "(II)I"⟩
abbrev cX3_givesOf : ByteArray := prog_5_method_14_code
def yX3_givesOf : MethodName := ⟨RX3, "givesOf", "(I)I"⟩
abbrev cX3_withAnys : ByteArray := prog_5_method_15_code
def yX3_withAnys : MethodName := ⟨RX3, "withAnys", "(I)I"⟩
abbrev cX3_fit : ByteArray := prog_5_method_16_code
def yX3_fit : MethodName := ⟨RX3, "fit", "(III)Z"⟩
abbrev cX5_init : ByteArray := prog_7_method_1_code
def yX5_init : MethodName := ⟨RX5, "<init>", "()V"⟩
abbrev cX5_clear : ByteArray := prog_7_method_2_code
def yX5_clear : MethodName := ⟨RX5, "clea\x72", "()V"⟩
abbrev cX5_letterOf : ByteArray := prog_7_method_3_code
def yX5_letterOf : MethodName := ⟨RX5, "letterOf", "(II)I"⟩
abbrev cX5_partOfName : ByteArray := prog_7_method_4_code
def yX5_partOfName : MethodName := ⟨RX5, "partOfName", "(J)I"⟩
abbrev cX5_paramsOf : ByteArray := prog_7_method_5_code
def yX5_paramsOf : MethodName := ⟨RX5, "paramsOf", "(I)I"⟩
abbrev cX5_emit : ByteArray := prog_7_method_6_code
def yX5_emit : MethodName := ⟨RX5, "emit", "(III)I"⟩
abbrev cX6_init : ByteArray := prog_8_method_1_code
def yX6_init : MethodName := ⟨RX6, "<init>", "()V"⟩
abbrev cX6_readInto : ByteArray := prog_8_method_2_code
def yX6_readInto : MethodName := ⟨RX6, "readInto", "(LBlameCourt$Program;[BI)V"⟩
abbrev cX6_refuse : ByteArray := prog_8_method_3_code
def yX6_refuse : MethodName := ⟨RX6, "refuse", "(I)V"⟩
abbrev cX6_refuseAt : ByteArray := prog_8_method_4_code
def yX6_refuseAt : MethodName := ⟨RX6, "refuseAt", "(II)V"⟩
abbrev cX6_want : ByteArray := prog_8_method_5_code
def yX6_want : MethodName := ⟨RX6, "want", "(I)V"⟩
abbrev cX6_enter : ByteArray := prog_8_method_6_code
def yX6_enter : MethodName := ⟨RX6, "ente\x72", "(I)V"⟩
abbrev cX6_takePartName : ByteArray := prog_8_method_7_code
def yX6_takePartName : MethodName := ⟨RX6, "takePartName", "(I)V"⟩
abbrev cX6_takeOwnKind : ByteArray := prog_8_method_8_code
def yX6_takeOwnKind : MethodName := ⟨RX6, "takeOwnKind", "(I)V"⟩
abbrev cX6_endPart : ByteArray := prog_8_method_9_code
def yX6_endPart : MethodName := ⟨RX6, "endPart", "(II)V"⟩
abbrev cX6_takeParams : ByteArray := prog_8_method_10_code
def yX6_takeParams : MethodName := ⟨RX6, "takeParams", "(I)V"⟩
abbrev cX6_pushLocal : ByteArray := prog_8_method_11_code
def yX6_pushLocal : MethodName := ⟨RX6, "pushLocal", "(J)V"⟩
abbrev cX6_slotOf : ByteArray := prog_8_method_12_code
def yX6_slotOf : MethodName := ⟨RX6, "slotOf", "(J)I"⟩
abbrev cX6_tookColon : ByteArray := prog_8_method_13_code
def yX6_tookColon : MethodName := ⟨RX6, "tookColon", "()Z"⟩
abbrev cX6_beginsKind : ByteArray := prog_8_method_14_code
def yX6_beginsKind : MethodName := ⟨RX6, "beginsKind", "()Z"⟩
abbrev cX6_takeKind : ByteArray := prog_8_method_15_code
def yX6_takeKind : MethodName := ⟨RX6, "takeKind", "()I"⟩
abbrev cX6_takeFunctionKind : ByteArray := prog_8_method_16_code
def yX6_takeFunctionKind : MethodName := ⟨RX6, "takeFunctionKind", "()I"⟩
abbrev cX6_takeKindList : ByteArray := prog_8_method_17_code
def yX6_takeKindList : MethodName := ⟨RX6, "takeKindList", "()V"⟩
abbrev cX6_placeOf : ByteArray := prog_8_method_18_code
def yX6_placeOf : MethodName := ⟨RX6, "placeOf", "(I)I"⟩
abbrev cX6_emitStep : ByteArray := prog_8_method_19_code
def yX6_emitStep : MethodName := ⟨RX6, "emitStep", "()I"⟩
abbrev cX6_addStep : ByteArray := prog_8_method_20_code
def yX6_addStep : MethodName := ⟨RX6, "addStep", "(I)V"⟩
abbrev cX6_takeE : ByteArray := prog_8_method_21_code
def yX6_takeE : MethodName := ⟨RX6, "takeE", "()I"⟩
abbrev cX6_takeLet : ByteArray := prog_8_method_22_code
def yX6_takeLet : MethodName := ⟨RX6, "takeLet", "()I"⟩
abbrev cX6_takeIf : ByteArray := prog_8_method_23_code
def yX6_takeIf : MethodName := ⟨RX6, "takeIf", "()I"⟩
abbrev cX6_takeC : ByteArray := prog_8_method_24_code
def yX6_takeC : MethodName := ⟨RX6, "takeC", "()I"⟩
abbrev cX6_levelOf : ByteArray := prog_8_method_25_code
def yX6_levelOf : MethodName := ⟨RX6, "levelOf", "(I)I"⟩
abbrev cX6_pushWaiting : ByteArray := prog_8_method_26_code
def yX6_pushWaiting : MethodName := ⟨RX6, "pushWaiting", "(I)V"⟩
abbrev cX6_applyWaiting : ByteArray := prog_8_method_27_code
def yX6_applyWaiting : MethodName := ⟨RX6, "applyWaiting", "(III)I"⟩
abbrev cX6_opOf : ByteArray := prog_8_method_28_code
def yX6_opOf : MethodName := ⟨RX6, "opOf", "(I)I"⟩
abbrev cX6_takeU : ByteArray := prog_8_method_29_code
def yX6_takeU : MethodName := ⟨RX6, "takeU", "()I"⟩
abbrev cX6_takePrefix : ByteArray := prog_8_method_30_code
def yX6_takePrefix : MethodName := ⟨RX6, "takePrefix", "(II)I"⟩
abbrev cX6_takeCall : ByteArray := prog_8_method_31_code
def yX6_takeCall : MethodName := ⟨RX6, "takeCall", "(I)V"⟩
abbrev cX6_takeList : ByteArray := prog_8_method_32_code
def yX6_takeList : MethodName := ⟨RX6, "takeList", "(III)I"⟩
abbrev cX6_beginsE : ByteArray := prog_8_method_33_code
def yX6_beginsE : MethodName := ⟨RX6, "beginsE", "()Z"⟩
abbrev cX6_takePlace : ByteArray := prog_8_method_34_code
def yX6_takePlace : MethodName := ⟨RX6, "takePlace", "()Z"⟩
abbrev cX6_takeB : ByteArray := prog_8_method_35_code
def yX6_takeB : MethodName := ⟨RX6, "takeB", "()I"⟩
abbrev cX6_takeDigits : ByteArray := prog_8_method_36_code
def yX6_takeDigits : MethodName := ⟨RX6, "takeDigits", "()V"⟩
abbrev cX6_takeName : ByteArray := prog_8_method_37_code
def yX6_takeName : MethodName := ⟨RX6, "takeName", "()V"⟩
abbrev cX6_takeNew : ByteArray := prog_8_method_38_code
def yX6_takeNew : MethodName := ⟨RX6, "takeNew", "()V"⟩
abbrev cX6_takeWork : ByteArray := prog_8_method_39_code
def yX6_takeWork : MethodName := ⟨RX6, "takeWork", "(II)V"⟩
abbrev cX6_takeBlock : ByteArray := prog_8_method_40_code
def yX6_takeBlock : MethodName := ⟨RX6, "takeBlock", "()V"⟩
abbrev cX6_resolve : ByteArray := prog_8_method_41_code
def yX6_resolve : MethodName := ⟨RX6, "resolve", "(I)V"⟩
abbrev cX6_resolveAt : ByteArray := prog_8_method_42_code
def yX6_resolveAt : MethodName := ⟨RX6, "resolveAt", "(I)V"⟩
abbrev cX7_init : ByteArray := prog_9_method_1_code
def yX7_init : MethodName := ⟨RX7, "<init>", "()V"⟩
abbrev cX7_runAll : ByteArray := prog_9_method_2_code
def yX7_runAll : MethodName := ⟨RX7, "runAll", "(LBlameCourt$Program;LBlameCourt$Guards;ZI)I"⟩
abbrev cX7_tellOf : ByteArray := prog_9_method_3_code
def yX7_tellOf : MethodName := ⟨RX7, "tellOf", "(I)I"⟩
abbrev cX7_contentTold : ByteArray := prog_9_method_4_code
def yX7_contentTold : MethodName := ⟨RX7, "contentTold", "(J)I"⟩
abbrev cX7_failWith : ByteArray := prog_9_method_5_code
def yX7_failWith : MethodName := ⟨RX7, "failWith", "(II)V"⟩
abbrev cX7_push : ByteArray := prog_9_method_6_code
def yX7_push : MethodName := ⟨RX7, "push", "(J)V"⟩
abbrev cX7_pop : ByteArray := prog_9_method_7_code
def yX7_pop : MethodName := ⟨RX7, "pop", "()J"⟩
abbrev cX7_popContent : ByteArray := prog_9_method_8_code
def yX7_popContent : MethodName := ⟨RX7, "popContent", "()I"⟩
abbrev cX7_pushNumber : ByteArray := prog_9_method_9_code
def yX7_pushNumber : MethodName := ⟨RX7, "pushNumbe\x72", "(I)V"⟩
abbrev cX7_pushTruth : ByteArray := prog_9_method_10_code
def yX7_pushTruth : MethodName := ⟨RX7, "pushTruth", "(Z)V"⟩
abbrev cX7_workPlain : ByteArray := prog_9_method_11_code
def yX7_workPlain : MethodName := ⟨RX7, "workPlain", "(III)V"⟩
abbrev cX7_makeSteps : ByteArray := prog_9_method_12_code
def yX7_makeSteps : MethodName := ⟨RX7, "makeSteps", "(II)V"⟩
abbrev cX7_slotAt : ByteArray := prog_9_method_13_code
def yX7_slotAt : MethodName := ⟨RX7, "slotAt", "(I)I"⟩
abbrev cX7_workRowOrCall : ByteArray := prog_9_method_14_code
def yX7_workRowOrCall : MethodName := ⟨RX7, "workRowOrCall", "(III)V"⟩
abbrev cX7_makeRow : ByteArray := prog_9_method_15_code
def yX7_makeRow : MethodName := ⟨RX7, "makeRow", "(II)V"⟩
abbrev cX7_makeNew : ByteArray := prog_9_method_16_code
def yX7_makeNew : MethodName := ⟨RX7, "makeNew", "(I)V"⟩
abbrev cX7_print : ByteArray := prog_9_method_17_code
def yX7_print : MethodName := ⟨RX7, "print", "(I)V"⟩
abbrev cX7_fetch : ByteArray := prog_9_method_18_code
def yX7_fetch : MethodName := ⟨RX7, "fetch", "(I)V"⟩
abbrev cX7_store : ByteArray := prog_9_method_19_code
def yX7_store : MethodName := ⟨RX7, "store", "(I)V"⟩
abbrev cX7_unwrap : ByteArray := prog_9_method_20_code
def yX7_unwrap : MethodName := ⟨RX7, "unwrap", "(J)I"⟩
abbrev cX7_askOutward : ByteArray := prog_9_method_21_code
def yX7_askOutward : MethodName := ⟨RX7, "askOutward", "(JJ)J"⟩
abbrev cX7_askInto : ByteArray := prog_9_method_22_code
def yX7_askInto : MethodName := ⟨RX7, "askInto", "(IIJ)J"⟩
abbrev cX7_callWith : ByteArray := prog_9_method_23_code
def yX7_callWith : MethodName := ⟨RX7, "callWith", "(II)V"⟩
abbrev cX7_enterPart : ByteArray := prog_9_method_24_code
def yX7_enterPart : MethodName := ⟨RX7, "enterPart", "(III)V"⟩
abbrev cX7_leavePart : ByteArray := prog_9_method_25_code
def yX7_leavePart : MethodName := ⟨RX7, "leavePart", "()V"⟩
abbrev cX7_workNumbers : ByteArray := prog_9_method_26_code
def yX7_workNumbers : MethodName := ⟨RX7, "workNumbers", "(II)V"⟩
abbrev cX7_resultOf : ByteArray := prog_9_method_27_code
def yX7_resultOf : MethodName := ⟨RX7, "resultOf", "(III)I"⟩
abbrev cX7_workAsking : ByteArray := prog_9_method_28_code
def yX7_workAsking : MethodName := ⟨RX7, "workAsking", "(I)V"⟩
abbrev cX7_askUntold : ByteArray := prog_9_method_29_code
def yX7_askUntold : MethodName := ⟨RX7, "askUntold", "(III)V"⟩
abbrev cX7_sortAskedBy : ByteArray := prog_9_method_30_code
def yX7_sortAskedBy : MethodName := ⟨RX7, "sortAskedBy", "(I)I"⟩
abbrev cX7_isSuch : ByteArray := prog_9_method_31_code
def yX7_isSuch : MethodName := ⟨RX7, "isSuch", "(JII)Z"⟩
abbrev cX7_ask : ByteArray := prog_9_method_32_code
def yX7_ask : MethodName := ⟨RX7, "ask", "(JIIIII)J"⟩
abbrev cX7_count : ByteArray := prog_9_method_33_code
def yX7_count : MethodName := ⟨RX7, "count", "(II)V"⟩
abbrev cX7_wrap : ByteArray := prog_9_method_34_code
def yX7_wrap : MethodName := ⟨RX7, "wrap", "(JIIIII)J"⟩
abbrev cX9_init : ByteArray := prog_11_method_1_code
def yX9_init : MethodName := ⟨RX9, "<init>", "()V"⟩
abbrev cX9_begin : ByteArray := prog_11_method_2_code
def yX9_begin : MethodName := ⟨RX9, "begin", "([BI)V"⟩
abbrev cX9_goTo : ByteArray := prog_11_method_3_code
def yX9_goTo : MethodName := ⟨RX9, "goTo", "(I)V"⟩
abbrev cX9_stop : ByteArray := prog_11_method_4_code
def yX9_stop : MethodName := ⟨RX9, "stop", "()V"⟩
abbrev cX9_advance : ByteArray := prog_11_method_5_code
def yX9_advance : MethodName := ⟨RX9, "advance", "()V"⟩
abbrev cX9_byteAt : ByteArray := prog_11_method_6_code
def yX9_byteAt : MethodName := ⟨RX9, "byteAt", "(I)I"⟩
abbrev cX9_isLetter : ByteArray := prog_11_method_7_code
def yX9_isLetter : MethodName := ⟨RX9, "isLette\x72", "(I)Z"⟩
abbrev cX9_isDigit : ByteArray := prog_11_method_8_code
def yX9_isDigit : MethodName := ⟨RX9, "isDigit", "(I)Z"⟩
abbrev cX9_takeWord : ByteArray := prog_11_method_9_code
def yX9_takeWord : MethodName := ⟨RX9, "takeWord", "()V"⟩
abbrev cX9_wordType : ByteArray := prog_11_method_10_code
def yX9_wordType : MethodName := ⟨RX9, "wordType", "()I"⟩
abbrev cX9_takeNumber : ByteArray := prog_11_method_11_code
def yX9_takeNumber : MethodName := ⟨RX9, "takeNumbe\x72", "()V"⟩
abbrev cX9_takeSign : ByteArray := prog_11_method_12_code
def yX9_takeSign : MethodName := ⟨RX9, "takeSign", "(I)V"⟩
abbrev cX9_isSign : ByteArray := prog_11_method_13_code
def yX9_isSign : MethodName := ⟨RX9, "isSign", "(I)Z"⟩
abbrev cX10_init : ByteArray := prog_1_method_1_code
def yX10_init : MethodName := ⟨RX10, "<init>", "()V"⟩
abbrev cX10_feed : ByteArray := prog_1_method_2_code
def yX10_feed : MethodName := ⟨RX10, "feed", "(IIIII)I"⟩
abbrev cX10_putFour : ByteArray := prog_1_method_3_code
def yX10_putFour : MethodName := ⟨RX10, "putFou\x72", "(I)V"⟩
abbrev cX10_end : ByteArray := prog_1_method_4_code
def yX10_end : MethodName := ⟨RX10, "end", "(I)I"⟩
abbrev cX10_read : ByteArray := prog_1_method_5_code
def yX10_read : MethodName := ⟨RX10, "read", "()I"⟩
abbrev cX10_fault : ByteArray := prog_1_method_6_code
def yX10_fault : MethodName := ⟨RX10, "fault", "(I)I"⟩
abbrev cX10_tell : ByteArray := prog_1_method_7_code
def yX10_tell : MethodName := ⟨RX10, "tell", "(IZ)Z"⟩
abbrev cX10_judge : ByteArray := prog_1_method_8_code
def yX10_judge : MethodName := ⟨RX10, "judge", "()I"⟩
abbrev cX10_guard : ByteArray := prog_1_method_9_code
def yX10_guard : MethodName := ⟨RX10, "guard", "(II)I"⟩
abbrev cX10_part : ByteArray := prog_1_method_10_code
def yX10_part : MethodName := ⟨RX10, "part", "(II)I"⟩
abbrev cX10_run : ByteArray := prog_1_method_11_code
def yX10_run : MethodName := ⟨RX10, "run", "(I)I"⟩
abbrev cX10_runUntold : ByteArray := prog_1_method_12_code
def yX10_runUntold : MethodName := ⟨RX10, "runUntold", "(I)I"⟩
abbrev cX10_told : ByteArray := prog_1_method_13_code
def yX10_told : MethodName := ⟨RX10, "told", "(I)I"⟩
abbrev cX10_out : ByteArray := prog_1_method_14_code
def yX10_out : MethodName := ⟨RX10, "out", "(I)I"⟩
abbrev cX10_asked : ByteArray := prog_1_method_15_code
def yX10_asked : MethodName := ⟨RX10, "asked", "(II)I"⟩
abbrev cX10_about : ByteArray := prog_1_method_16_code
def yX10_about : MethodName := ⟨RX10, "about", "(I)I"⟩
abbrev cX10_isPart : ByteArray := prog_1_method_17_code
def yX10_isPart : MethodName := ⟨RX10, "isPart", "(I)Z"⟩
abbrev cX10_isFuel : ByteArray := prog_1_method_18_code
def yX10_isFuel : MethodName := ⟨RX10, "isFuel", "(I)Z"⟩
abbrev cX11_in : ByteArray := prog_13_method_1_code
def yX11_in : MethodName := ⟨RX11, "in", "(III)Z"⟩
abbrev cX11_init : ByteArray := prog_13_method_2_code
def yX11_init : MethodName := ⟨RX11, "<init>", "()V"⟩
abbrev cX11_kinds : ByteArray := prog_13_method_3_code
def yX11_kinds : MethodName := ⟨RX11, "kinds", "(I)V"⟩
abbrev cX11_kindOf : ByteArray := prog_13_method_4_code
def yX11_kindOf : MethodName := ⟨RX11, "kindOf", "(III)I"⟩
abbrev cX11_rowOf : ByteArray := prog_13_method_5_code
def yX11_rowOf : MethodName := ⟨RX11, "rowOf", "(I)I"⟩
abbrev cX11_anyFunction : ByteArray := prog_13_method_6_code
def yX11_anyFunction : MethodName := ⟨RX11, "anyFunction", "(I)I"⟩
abbrev cX11_elementOf : ByteArray := prog_13_method_7_code
def yX11_elementOf : MethodName := ⟨RX11, "elementOf", "(I)I"⟩
abbrev cX11_resultOf : ByteArray := prog_13_method_8_code
def yX11_resultOf : MethodName := ⟨RX11, "resultOf", "(I)I"⟩
abbrev cX11_paramOf : ByteArray := prog_13_method_9_code
def yX11_paramOf : MethodName := ⟨RX11, "paramOf", "(II)I"⟩
abbrev cX11_fits : ByteArray := prog_13_method_10_code
def yX11_fits : MethodName := ⟨RX11, "fits", "(II)Z"⟩
abbrev cX11_put : ByteArray := prog_13_method_11_code
def yX11_put : MethodName := ⟨RX11, "put", "(I)V"⟩
abbrev cX11_feed : ByteArray := prog_13_method_12_code
def yX11_feed : MethodName := ⟨RX11, "feed", "(IIIII)I"⟩
abbrev cX11_end : ByteArray := prog_13_method_13_code
def yX11_end : MethodName := ⟨RX11, "end", "(I)I"⟩
abbrev cX11_isWell : ByteArray := prog_13_method_14_code
def yX11_isWell : MethodName := ⟨RX11, "isWell", "()Z"⟩
abbrev cX11_fails : ByteArray := prog_13_method_15_code
def yX11_fails : MethodName := ⟨RX11, "fails", "(II)V"⟩
abbrev cX11_stray : ByteArray := prog_13_method_16_code
def yX11_stray : MethodName := ⟨RX11, "stray", "()V"⟩
abbrev cX11_letterOf : ByteArray := prog_13_method_17_code
def yX11_letterOf : MethodName := ⟨RX11, "letterOf", "(I)I"⟩
abbrev cX11_next : ByteArray := prog_13_method_18_code
def yX11_next : MethodName := ⟨RX11, "next", "()V"⟩
abbrev cX11_name : ByteArray := prog_13_method_19_code
def yX11_name : MethodName := ⟨RX11, "name", "()V"⟩
abbrev cX11_wordOf : ByteArray := prog_13_method_20_code
def yX11_wordOf : MethodName := ⟨RX11, "wordOf", "(J)I"⟩
abbrev cX11_sign : ByteArray := prog_13_method_21_code
def yX11_sign : MethodName := ⟨RX11, "sign", "(I)V"⟩
abbrev cX11_isSign : ByteArray := prog_13_method_22_code
def yX11_isSign : MethodName := ⟨RX11, "isSign", "(I)Z"⟩
abbrev cX11_isWord : ByteArray := prog_13_method_23_code
def yX11_isWord : MethodName := ⟨RX11, "isWord", "(I)Z"⟩
abbrev cX11_takes : ByteArray := prog_13_method_24_code
def yX11_takes : MethodName := ⟨RX11, "takes", "(I)V"⟩
abbrev cX11_nests : ByteArray := prog_13_method_25_code
def yX11_nests : MethodName := ⟨RX11, "nests", "()V"⟩
abbrev cX11_opens : ByteArray := prog_13_method_26_code
def yX11_opens : MethodName := ⟨RX11, "opens", "(I)V"⟩
abbrev cX11_closes : ByteArray := prog_13_method_27_code
def yX11_closes : MethodName := ⟨RX11, "closes", "(I)V"⟩
abbrev cX11_kind : ByteArray := prog_13_method_28_code
def yX11_kind : MethodName := ⟨RX11, "kind", "()I"⟩
abbrev cX11_fifth : ByteArray := prog_13_method_29_code
def yX11_fifth : MethodName := ⟨RX11, "fifth", "(I)V"⟩
abbrev cX11_plainKind : ByteArray := prog_13_method_30_code
def yX11_plainKind : MethodName := ⟨RX11, "plainKind", "()I"⟩
abbrev cX11_make : ByteArray := prog_13_method_31_code
def yX11_make : MethodName := ⟨RX11, "make", "(II)I"⟩
abbrev cX11_enter : ByteArray := prog_13_method_32_code
def yX11_enter : MethodName := ⟨RX11, "ente\x72", "(II)V"⟩
abbrev cX11_expression : ByteArray := prog_13_method_33_code
def yX11_expression : MethodName := ⟨RX11, "expression", "()I"⟩
abbrev cX11_isBeginning : ByteArray := prog_13_method_34_code
def yX11_isBeginning : MethodName := ⟨RX11, "isBeginning", "()Z"⟩
abbrev cX11_begins : ByteArray := prog_13_method_35_code
def yX11_begins : MethodName := ⟨RX11, "begins", "()V"⟩
abbrev cX11_beginsLet : ByteArray := prog_13_method_36_code
def yX11_beginsLet : MethodName := ⟨RX11, "beginsLet", "()V"⟩
abbrev cX11_done : ByteArray := prog_13_method_37_code
def yX11_done : MethodName := ⟨RX11, "done", "(I)V"⟩
abbrev cX11_opened : ByteArray := prog_13_method_38_code
def yX11_opened : MethodName := ⟨RX11, "opened", "(II)V"⟩
abbrev cX11_operand : ByteArray := prog_13_method_39_code
def yX11_operand : MethodName := ⟨RX11, "operand", "()V"⟩
abbrev cX11_number : ByteArray := prog_13_method_40_code
def yX11_number : MethodName := ⟨RX11, "numbe\x72", "(I)V"⟩
abbrev cX11_named : ByteArray := prog_13_method_41_code
def yX11_named : MethodName := ⟨RX11, "named", "(I)V"⟩
abbrev cX11_behind : ByteArray := prog_13_method_42_code
def yX11_behind : MethodName := ⟨RX11, "behind", "()V"⟩
abbrev cX11_levelOf : ByteArray := prog_13_method_43_code
def yX11_levelOf : MethodName := ⟨RX11, "levelOf", "(J)I"⟩
abbrev cX11_second : ByteArray := prog_13_method_45_code
def yX11_second : MethodName := ⟨RX11, "second", "(I)V"⟩
abbrev cX11_signs : ByteArray := prog_13_method_46_code
def yX11_signs : MethodName := ⟨RX11, "signs", "()V"⟩
abbrev cX11_add : ByteArray := prog_13_method_47_code
def yX11_add : MethodName := ⟨RX11, "add", "(I)V"⟩
abbrev cX11_word : ByteArray := prog_13_method_48_code
def yX11_word : MethodName := ⟨RX11, "word", "(I)V"⟩
abbrev cX11_endsOne : ByteArray := prog_13_method_49_code
def yX11_endsOne : MethodName := ⟨RX11, "endsOne", "()V"⟩
abbrev cX11_leaves : ByteArray := prog_13_method_50_code
def yX11_leaves : MethodName := ⟨RX11, "leaves", "(I)V"⟩
abbrev cX11_endsWithin : ByteArray := prog_13_method_51_code
def yX11_endsWithin : MethodName := ⟨RX11, "endsWithin", "(II)V"⟩
abbrev cX11_shuts : ByteArray := prog_13_method_52_code
def yX11_shuts : MethodName := ⟨RX11, "shuts", "(II)V"⟩
abbrev cX11_part : ByteArray := prog_13_method_53_code
def yX11_part : MethodName := ⟨RX11, "part", "()V"⟩
abbrev cX11_param : ByteArray := prog_13_method_54_code
def yX11_param : MethodName := ⟨RX11, "param", "(I)V"⟩
abbrev cX11_knows : ByteArray := prog_13_method_55_code
def yX11_knows : MethodName := ⟨RX11, "knows", "()V"⟩
abbrev cX11_partOf : ByteArray := prog_13_method_56_code
def yX11_partOf : MethodName := ⟨RX11, "partOf", "(J)I"⟩
abbrev cX11_reads : ByteArray := prog_13_method_57_code
def yX11_reads : MethodName := ⟨RX11, "reads", "()V"⟩
abbrev cX11_read : ByteArray := prog_13_method_58_code
def yX11_read : MethodName := ⟨RX11, "read", "()I"⟩
abbrev cX11_fault : ByteArray := prog_13_method_59_code
def yX11_fault : MethodName := ⟨RX11, "fault", "(I)I"⟩
abbrev cX11_task : ByteArray := prog_13_method_60_code
def yX11_task : MethodName := ⟨RX11, "task", "(III)V"⟩
abbrev cX11_order : ByteArray := prog_13_method_61_code
def yX11_order : MethodName := ⟨RX11, "orde\x72", "(III)V"⟩
abbrev cX11_compiles : ByteArray := prog_13_method_62_code
def yX11_compiles : MethodName := ⟨RX11, "compiles", "()V"⟩
abbrev cX11_goesOn : ByteArray := prog_13_method_63_code
def yX11_goesOn : MethodName := ⟨RX11, "goesOn", "(III)V"⟩
abbrev cX11_tells : ByteArray := prog_13_method_64_code
def yX11_tells : MethodName := ⟨RX11, "tells", "(I)V"⟩
abbrev cX11_taskOfCall : ByteArray := prog_13_method_65_code
def yX11_taskOfCall : MethodName := ⟨RX11, "taskOfCall", "(I)V"⟩
abbrev cX11_tellsMore : ByteArray := prog_13_method_66_code
def yX11_tellsMore : MethodName := ⟨RX11, "tellsMore", "(I)V"⟩
abbrev cX11_toldKind : ByteArray := prog_13_method_67_code
def yX11_toldKind : MethodName := ⟨RX11, "toldKind", "(I)I"⟩
abbrev cX11_paramKindOf : ByteArray := prog_13_method_68_code
def yX11_paramKindOf : MethodName := ⟨RX11, "paramKindOf", "(II)I"⟩
abbrev cX11_ownKindOf : ByteArray := prog_13_method_69_code
def yX11_ownKindOf : MethodName := ⟨RX11, "ownKindOf", "(I)I"⟩
abbrev cX11_functionOf : ByteArray := prog_13_method_70_code
def yX11_functionOf : MethodName := ⟨RX11, "functionOf", "(I)I"⟩
abbrev cX11_push : ByteArray := prog_13_method_71_code
def yX11_push : MethodName := ⟨RX11, "push", "(I)V"⟩
abbrev cX11_must : ByteArray := prog_13_method_72_code
def yX11_must : MethodName := ⟨RX11, "must", "(IIII)V"⟩
abbrev cX11_guards : ByteArray := prog_13_method_73_code
def yX11_guards : MethodName := ⟨RX11, "guards", "(IIIII)V"⟩
abbrev cX11_judges : ByteArray := prog_13_method_74_code
def yX11_judges : MethodName := ⟨RX11, "judges", "()V"⟩
abbrev cX11_judgeOne : ByteArray := prog_13_method_75_code
def yX11_judgeOne : MethodName := ⟨RX11, "judgeOne", "(II)V"⟩
abbrev cX11_judgeCallee : ByteArray := prog_13_method_76_code
def yX11_judgeCallee : MethodName := ⟨RX11, "judgeCallee", "(II)V"⟩
abbrev cX11_judgeRow : ByteArray := prog_13_method_77_code
def yX11_judgeRow : MethodName := ⟨RX11, "judgeRow", "(II)V"⟩
abbrev cX11_judgeMore : ByteArray := prog_13_method_78_code
def yX11_judgeMore : MethodName := ⟨RX11, "judgeMore", "(II)V"⟩
abbrev cX11_judgeJoin : ByteArray := prog_13_method_79_code
def yX11_judgeJoin : MethodName := ⟨RX11, "judgeJoin", "(I)V"⟩
abbrev cX11_judgeElements : ByteArray := prog_13_method_80_code
def yX11_judgeElements : MethodName := ⟨RX11, "judgeElements", "(I)V"⟩
abbrev cX11_tell : ByteArray := prog_13_method_81_code
def yX11_tell : MethodName := ⟨RX11, "tell", "(IZ)Z"⟩
abbrev cX11_judge : ByteArray := prog_13_method_82_code
def yX11_judge : MethodName := ⟨RX11, "judge", "()I"⟩
abbrev cX11_guard : ByteArray := prog_13_method_83_code
def yX11_guard : MethodName := ⟨RX11, "guard", "(II)I"⟩
abbrev cX11_part_ : ByteArray := prog_13_method_84_code
def yX11_part_ : MethodName := ⟨RX11, "part", "(II)I"⟩
abbrev cX11_ends : ByteArray := prog_13_method_85_code
def yX11_ends : MethodName := ⟨RX11, "ends", "(II)V"⟩
abbrev cX11_isOn : ByteArray := prog_13_method_86_code
def yX11_isOn : MethodName := ⟨RX11, "isOn", "()Z"⟩
abbrev cX11_value : ByteArray := prog_13_method_87_code
def yX11_value : MethodName := ⟨RX11, "value", "(II)V"⟩
abbrev cX11_within : ByteArray := prog_13_method_88_code
def yX11_within : MethodName := ⟨RX11, "within", "(II)I"⟩
abbrev cX11_deep : ByteArray := prog_13_method_89_code
def yX11_deep : MethodName := ⟨RX11, "deep", "(II)I"⟩
abbrev cX11_asks : ByteArray := prog_13_method_90_code
def yX11_asks : MethodName := ⟨RX11, "asks", "(IIIIII)V"⟩
abbrev cX11_isOfSort : ByteArray := prog_13_method_91_code
def yX11_isOfSort : MethodName := ⟨RX11, "isOfSort", "(II)Z"⟩
abbrev cX11_wraps : ByteArray := prog_13_method_92_code
def yX11_wraps : MethodName := ⟨RX11, "wraps", "(IIIIII)V"⟩
abbrev cX11_row : ByteArray := prog_13_method_93_code
def yX11_row : MethodName := ⟨RX11, "row", "(II)I"⟩
abbrev cX11_starts : ByteArray := prog_13_method_94_code
def yX11_starts : MethodName := ⟨RX11, "starts", "(I)I"⟩
abbrev cX11_calls : ByteArray := prog_13_method_95_code
def yX11_calls : MethodName := ⟨RX11, "calls", "(III)V"⟩
abbrev cX11_guarded : ByteArray := prog_13_method_96_code
def yX11_guarded : MethodName := ⟨RX11, "guarded", "(III)V"⟩
abbrev cX11_does : ByteArray := prog_13_method_97_code
def yX11_does : MethodName := ⟨RX11, "does", "(II)I"⟩
abbrev cX11_call : ByteArray := prog_13_method_98_code
def yX11_call : MethodName := ⟨RX11, "call", "(II)I"⟩
abbrev cX11_goesBack : ByteArray := prog_13_method_99_code
def yX11_goesBack : MethodName := ⟨RX11, "goesBack", "()I"⟩
abbrev cX11_works : ByteArray := prog_13_method_100_code
def yX11_works : MethodName := ⟨RX11, "works", "(II)V"⟩
abbrev cX11_makes : ByteArray := prog_13_method_101_code
def yX11_makes : MethodName := ⟨RX11, "makes", "(I)V"⟩
abbrev cX11_sums : ByteArray := prog_13_method_102_code
def yX11_sums : MethodName := ⟨RX11, "sums", "(I)V"⟩
abbrev cX11_aroundOf : ByteArray := prog_13_method_103_code
def yX11_aroundOf : MethodName := ⟨RX11, "aroundOf", "(I)I"⟩
abbrev cX11_readsPlace : ByteArray := prog_13_method_104_code
def yX11_readsPlace : MethodName := ⟨RX11, "readsPlace", "(I)V"⟩
abbrev cX11_writes : ByteArray := prog_13_method_105_code
def yX11_writes : MethodName := ⟨RX11, "writes", "(I)V"⟩
abbrev cX11_run : ByteArray := prog_13_method_106_code
def yX11_run : MethodName := ⟨RX11, "run", "(I)I"⟩
abbrev cX11_runUntold : ByteArray := prog_13_method_107_code
def yX11_runUntold : MethodName := ⟨RX11, "runUntold", "(I)I"⟩
abbrev cX11_told : ByteArray := prog_13_method_108_code
def yX11_told : MethodName := ⟨RX11, "told", "(I)I"⟩
abbrev cX11_out : ByteArray := prog_13_method_109_code
def yX11_out : MethodName := ⟨RX11, "out", "(I)I"⟩
abbrev cX11_asked : ByteArray := prog_13_method_110_code
def yX11_asked : MethodName := ⟨RX11, "asked", "(II)I"⟩
abbrev cX11_about : ByteArray := prog_13_method_111_code
def yX11_about : MethodName := ⟨RX11, "about", "(I)I"⟩
abbrev cJ9_max_7cf53 : ByteArray := prog_14_method_65_code
def yJ9_max_7cf53 : MethodName := ⟨"java/lang/Math", "max", "(II)I"⟩
abbrev cJ9_min_7cf53 : ByteArray := prog_14_method_69_code
def yJ9_min_7cf53 : MethodName := ⟨"java/lang/Math", "min", "(II)I"⟩
abbrev cJ7_fill_53178 : ByteArray := prog_15_method_103_code
def yJ7_fill_53178 : MethodName := ⟨"java/util/Arrays", "fill", "([II)V"⟩
theorem in_tables_1_1 {w : Cond} (h : w ∈ tables_1_1) : w ∈ lw_tbl := List.mem_append_right _ (show w ∈ tables_1 from List.mem_append_left _ h)
theorem in_tables_1_2 {w : Cond} (h : w ∈ tables_1_2) : w ∈ lw_tbl := List.mem_append_right _ (show w ∈ tables_1 from List.mem_append_right _ (List.mem_append_left _ h))
theorem in_tables_1_3 {w : Cond} (h : w ∈ tables_1_3) : w ∈ lw_tbl := List.mem_append_right _ (show w ∈ tables_1 from List.mem_append_right _ (List.mem_append_right _ (List.mem_append_left _ h)))
theorem in_tables_1_4 {w : Cond} (h : w ∈ tables_1_4) : w ∈ lw_tbl := List.mem_append_right _ (show w ∈ tables_1 from List.mem_append_right _ (List.mem_append_right _ (List.mem_append_right _ (List.mem_append_left _ h))))
theorem in_tables_1_5 {w : Cond} (h : w ∈ tables_1_5) : w ∈ lw_tbl := List.mem_append_right _ (show w ∈ tables_1 from List.mem_append_right _ (List.mem_append_right _ (List.mem_append_right _ (List.mem_append_right _ (List.mem_append_left _ h)))))
theorem in_tables_1_6 {w : Cond} (h : w ∈ tables_1_6) : w ∈ lw_tbl := List.mem_append_right _ (show w ∈ tables_1 from List.mem_append_right _ (List.mem_append_right _ (List.mem_append_right _ (List.mem_append_right _ (List.mem_append_right _ (List.mem_append_left _ h))))))
theorem in_tables_1_7 {w : Cond} (h : w ∈ tables_1_7) : w ∈ lw_tbl := List.mem_append_right _ (show w ∈ tables_1 from List.mem_append_right _ (List.mem_append_right _ (List.mem_append_right _ (List.mem_append_right _ (List.mem_append_right _ (List.mem_append_right _ (List.mem_append_left _ h)))))))
theorem in_tables_1_8 {w : Cond} (h : w ∈ tables_1_8) : w ∈ lw_tbl := List.mem_append_right _ (show w ∈ tables_1 from List.mem_append_right _ (List.mem_append_right _ (List.mem_append_right _ (List.mem_append_right _ (List.mem_append_right _ (List.mem_append_right _ (List.mem_append_right _ (List.mem_append_left _ h))))))))
theorem in_tables_1_9 {w : Cond} (h : w ∈ tables_1_9) : w ∈ lw_tbl := List.mem_append_right _ (show w ∈ tables_1 from List.mem_append_right _ (List.mem_append_right _ (List.mem_append_right _ (List.mem_append_right _ (List.mem_append_right _ (List.mem_append_right _ (List.mem_append_right _ (List.mem_append_right _ (h)))))))))
theorem in_lw_privs_1 {q : MethodName × Nat} (h : q ∈ lw_privs_1) : Cond.selects q.1.cls q.1 q.1 ∈ lw_tbl := List.mem_append_left _ (List.mem_map.mpr ⟨q, (show q ∈ lw_privs from List.mem_append_left _ h), rfl⟩)
theorem in_lw_privs_2 {q : MethodName × Nat} (h : q ∈ lw_privs_2) : Cond.selects q.1.cls q.1 q.1 ∈ lw_tbl := List.mem_append_left _ (List.mem_map.mpr ⟨q, (show q ∈ lw_privs from List.mem_append_right _ (List.mem_append_left _ h)), rfl⟩)
theorem in_lw_privs_3 {q : MethodName × Nat} (h : q ∈ lw_privs_3) : Cond.selects q.1.cls q.1 q.1 ∈ lw_tbl := List.mem_append_left _ (List.mem_map.mpr ⟨q, (show q ∈ lw_privs from List.mem_append_right _ (List.mem_append_right _ (List.mem_append_left _ h))), rfl⟩)
theorem in_lw_privs_4 {q : MethodName × Nat} (h : q ∈ lw_privs_4) : Cond.selects q.1.cls q.1 q.1 ∈ lw_tbl := List.mem_append_left _ (List.mem_map.mpr ⟨q, (show q ∈ lw_privs from List.mem_append_right _ (List.mem_append_right _ (List.mem_append_right _ (List.mem_append_left _ h)))), rfl⟩)
theorem in_lw_privs_5 {q : MethodName × Nat} (h : q ∈ lw_privs_5) : Cond.selects q.1.cls q.1 q.1 ∈ lw_tbl := List.mem_append_left _ (List.mem_map.mpr ⟨q, (show q ∈ lw_privs from List.mem_append_right _ (List.mem_append_right _ (List.mem_append_right _ (List.mem_append_right _ (List.mem_append_left _ h))))), rfl⟩)
theorem in_lw_privs_6 {q : MethodName × Nat} (h : q ∈ lw_privs_6) : Cond.selects q.1.cls q.1 q.1 ∈ lw_tbl := List.mem_append_left _ (List.mem_map.mpr ⟨q, (show q ∈ lw_privs from List.mem_append_right _ (List.mem_append_right _ (List.mem_append_right _ (List.mem_append_right _ (List.mem_append_right _ (List.mem_append_left _ h)))))), rfl⟩)
theorem in_lw_privs_7 {q : MethodName × Nat} (h : q ∈ lw_privs_7) : Cond.selects q.1.cls q.1 q.1 ∈ lw_tbl := List.mem_append_left _ (List.mem_map.mpr ⟨q, (show q ∈ lw_privs from List.mem_append_right _ (List.mem_append_right _ (List.mem_append_right _ (List.mem_append_right _ (List.mem_append_right _ (List.mem_append_right _ (List.mem_append_left _ h))))))), rfl⟩)
theorem in_lw_privs_8 {q : MethodName × Nat} (h : q ∈ lw_privs_8) : Cond.selects q.1.cls q.1 q.1 ∈ lw_tbl := List.mem_append_left _ (List.mem_map.mpr ⟨q, (show q ∈ lw_privs from List.mem_append_right _ (List.mem_append_right _ (List.mem_append_right _ (List.mem_append_right _ (List.mem_append_right _ (List.mem_append_right _ (List.mem_append_right _ (List.mem_append_left _ h)))))))), rfl⟩)
theorem in_lw_privs_9 {q : MethodName × Nat} (h : q ∈ lw_privs_9) : Cond.selects q.1.cls q.1 q.1 ∈ lw_tbl := List.mem_append_left _ (List.mem_map.mpr ⟨q, (show q ∈ lw_privs from List.mem_append_right _ (List.mem_append_right _ (List.mem_append_right _ (List.mem_append_right _ (List.mem_append_right _ (List.mem_append_right _ (List.mem_append_right _ (List.mem_append_right _ (List.mem_append_left _ h))))))))), rfl⟩)
theorem in_lw_privs_10 {q : MethodName × Nat} (h : q ∈ lw_privs_10) : Cond.selects q.1.cls q.1 q.1 ∈ lw_tbl := List.mem_append_left _ (List.mem_map.mpr ⟨q, (show q ∈ lw_privs from List.mem_append_right _ (List.mem_append_right _ (List.mem_append_right _ (List.mem_append_right _ (List.mem_append_right _ (List.mem_append_right _ (List.mem_append_right _ (List.mem_append_right _ (List.mem_append_right _ (List.mem_append_left _ h)))))))))), rfl⟩)
theorem in_lw_privs_11 {q : MethodName × Nat} (h : q ∈ lw_privs_11) : Cond.selects q.1.cls q.1 q.1 ∈ lw_tbl := List.mem_append_left _ (List.mem_map.mpr ⟨q, (show q ∈ lw_privs from List.mem_append_right _ (List.mem_append_right _ (List.mem_append_right _ (List.mem_append_right _ (List.mem_append_right _ (List.mem_append_right _ (List.mem_append_right _ (List.mem_append_right _ (List.mem_append_right _ (List.mem_append_right _ (List.mem_append_left _ h))))))))))), rfl⟩)
theorem in_lw_privs_12 {q : MethodName × Nat} (h : q ∈ lw_privs_12) : Cond.selects q.1.cls q.1 q.1 ∈ lw_tbl := List.mem_append_left _ (List.mem_map.mpr ⟨q, (show q ∈ lw_privs from List.mem_append_right _ (List.mem_append_right _ (List.mem_append_right _ (List.mem_append_right _ (List.mem_append_right _ (List.mem_append_right _ (List.mem_append_right _ (List.mem_append_right _ (List.mem_append_right _ (List.mem_append_right _ (List.mem_append_right _ (h)))))))))))), rfl⟩)
end
section
/-! macro rows: one bundle for what stays (Fx), one for the world (Wd); rows of the kit put together -/
def gtb : List Cond := lw_tbl.filter goodWord
theorem gtb_good : GoodIn gtb gtb := fun _ h => ⟨h, good_of_word (List.mem_filter.mp h).2⟩
abbrev wsOf (y : MethodName) (b : ByteArray) (n : Nat) (r : Option FieldType) : List Cond := .code y b n r :: gtb
theorem gtX {w : Cond} (i : Nat) (h : lw_tbl[i]? = some w) (g : goodWord w = true) : w ∈ gtb := List.mem_filter.mpr ⟨List.mem_of_getElem? h, g⟩
theorem gtm {w : Cond} (h : w ∈ lw_tbl) (g : goodWord w = true) : w ∈ gtb := List.mem_filter.mpr ⟨h, g⟩
theorem gts_p {ws : List Cond} (ps : List Nat) (hp : ws = ps.filterMap (fun i => lw_tbl[i]?)) (h : ws.all goodWord = true) : ∀ w ∈ ws, w ∈ gtb := by
  intro w hw
  have h1 := List.all_eq_true.mp h w hw
  rw [hp] at hw
  obtain ⟨i, -, hi⟩ := List.mem_filterMap.mp hw
  exact gtm (List.mem_of_getElem? hi) h1
theorem gts {ws : List Cond} (h : ∀ w ∈ ws, w ∈ lw_tbl) (g : ∀ w ∈ ws, goodWord w = true) : ∀ w ∈ ws, w ∈ gtb := fun w hw => List.mem_filter.mpr ⟨h w hw, g w hw⟩
def isNest : Cond → Bool
  | .fieldLinkNest .. => true
  | .methodLinkNest .. => true
  | _ => false
/-- the words that link nest mates -/
def nk (U : State) : Prop := ∀ w ∈ lw_tbl, isNest w = true → va_Nw w U
theorem nk_warm {s U : State} (hW : s.WarmedH U.vm) (h : nk s) : nk U := by
  intro w hw hi
  have h1 := h w hw hi
  cases w <;> first | exact va_Nw.warmF hW h1 | exact va_Nw.warmM hW h1 | (simp [isNest] at hi; done)
theorem nk_same {u U : State} (e : u.vm = U.vm) (h : nk u) : nk U := by
  intro w hw hi
  have h1 := h w hw hi
  cases w <;> first | exact va_Nw.same rfl e h1 | (simp [isNest] at hi; done)
theorem nk_of {s : State} {args : Array Value} (hts : ∀ w ∈ lw_tbl, w.before args s = true) : nk s := by
  intro w hw hi
  have h1 := hts w hw
  cases w <;> first | exact va_Nw.of rfl h1 | (simp [isNest] at hi; done)
/-- a method's start: its world -/
def PB (dC : Nat → ClassId) (dI : Nat → Nat → Nat) (sz : Nat) (ws : va_W) (tys : List (ClassId × FieldType)) (U : State) : Prop := U.heap.size = sz ∧ va_P (dC, dI) classes ws U.heap ∧ va_K (dC, dI) classes tys U ∧ va_D (fun _ => True) ws ∧ nk U
/-- .. its end -/
def PW (dC : Nat → ClassId) (dI : Nat → Nat → Nat) (A : Nat → Prop) (ws : va_W) (tys : List (ClassId × FieldType)) (t : State) : Prop := va_P (dC, dI) classes ws t.heap ∧ va_K (dC, dI) classes tys t ∧ va_D A ws
theorem PB_blind {As : List Value} {dC : Nat → ClassId} {dI : Nat → Nat → Nat} {sz : Nat} {ws : va_W} {tys : List (ClassId × FieldType)} : FrameBlind (va_Pc As (PB dC dI sz ws tys)) := fun a U g mk q => by
  obtain ⟨q0, q1, qP, qK, qD, qN⟩ := q
  exact ⟨q0, q1, qP, va_K.moved (u := U) (U := U.calling g mk a) (Vm.Alike.refl U.vm) qK, qD, nk_same (u := U) (U := U.calling g mk a) rfl qN⟩
/-- what stays through a method -/
def Fx (p : Program) (c : Code) (cc : ByteArray) (nL : Nat) (s : State) (args : Array Value) (m : MethodId) (own : String) : Prop :=
  p.tables.exec = Jvm.exec ∧ c.code = cc ∧ c.maxLocals = nL ∧ s.vm.findClass own = some m.cls ∧ (∀ w ∈ gtb, w.before args s = true) ∧ nk s
/-- the world now: cells, what the tables say of its classes, apart, what else stayed -/
def Wd (dC : Nat → ClassId) (dI : Nat → Nat → Nat) (A : Nat → Prop) (ws : va_W) (tys : List (ClassId × FieldType)) (s : State) (H : Heap) (locs : List Loc) : Prop :=
  va_K (dC, dI) classes tys s ∧ va_P (dC, dI) classes ws H ∧ va_D A ws ∧ va_S A s.heap H locs ∧ ∀ q : Nat, s.heap.size ≤ q → A q
theorem Wd.pick {dC : Nat → ClassId} {dI : Nat → Nat → Nat} {A : Nat → Prop} {ws ws' : va_W} {tys tys' : List (ClassId × FieldType)} {s : State} {H : Heap} {locs : List Loc} (h : Wd dC dI A ws tys s H locs) (is ts : List Nat) (hn : va_nd is = true) (hw : is.map (fun i => ws[i]?) = ws'.map some) (ht : ts.filterMap (fun i => tys[i]?) = tys') : Wd dC dI A ws' tys' s H locs := by
  obtain ⟨hK, hP, hD, hS, hA⟩ := h
  refine ⟨hK.sub ts ht, ?_, hD.sub is hn hw, hS, hA⟩
  intro k q hk
  have h1 : (is.map (fun i => ws[i]?))[k]? = some (some q) := by rw [hw, List.getElem?_map, hk]; rfl
  rw [List.getElem?_map] at h1
  cases hi : is[k]? with
  | none => rw [hi] at h1; cases h1
  | some i => rw [hi] at h1; exact hP i q (Option.some.inj h1)
section MAC
variable {p : Program} {l : Launch} {e : Env} {R : Room} {s : State} {m : MethodId} {args : Array Value} {below : List Frame} {meth : Method} {c : Code} {H : Heap} {locs : List Loc} {cells slots : Nat} {Q : State → Prop}
variable {cc : ByteArray} {pc : Nat} {ls : Array Slot} {dC : Nat → ClassId} {dI : Nat → Nat → Nat} {A : Nat → Prop} {tys tc tr : List (ClassId × FieldType)} {ws wc wr : va_W} {y : MethodName} {bytes : ByteArray} {maxL nL mc ms n index : Nat} {ret : Option FieldType} {rm : Room} {own C : String} {b a : Addr} {As rest : List Value}
/-- getfield -/
theorem mget (hf : Fx p c cc nL s args m own) (hw : Wd dC dI A ws tys s H locs) {C : String} {T : u_T} {N ci index : Nat} (hin : ∀ w ∈ u_ws C T N, w ∈ gtb) (q0 : Nat) {fs : List Value} (he : ws[q0]? = some (a, .inr (ci, fs))) (hc : classes[ci]? = some (C, T, N)) (k : Nat) (hk : k < N) (hlink : (Cond.fieldLink own index (T k).1 (T k).2.1 (T k).2.2.1) ∈ gtb) {v : Value} (hv : fs[k]? = some v) (hdg : decode cc pc = .ok (.getfield index, 3))
    (kk : W p l e R s m args below meth c H locs cells slots Q (F0 m (pc + 3) ls (v :: rest))) : W p l e R s m args below meth c H locs cells slots Q (F0 m pc ls (.ref a :: rest)) :=
  va_get (D := (dC, dI)) hf.1 hf.2.1 hf.2.2.2.2.1 hin hf.2.2.2.1 hw.1 hw.2.1 q0 he hc k hk (hf.2.2.2.2.1 _ hlink) (fun _ h => h) hv hdg kk
/-- putfield -/
theorem mput (hf : Fx p c cc nL s args m own) (hw : Wd dC dI A ws tys s H locs) {C : String} {T : u_T} {N ci index : Nat} (hin : ∀ w ∈ u_ws C T N, w ∈ gtb) (ty0 : Nat → FieldType) (hty : ∀ k, k < N → parseFieldDescriptor (T k).2.2.1 = some (ty0 k)) (hnm : ∀ a, a < N → ∀ b, b < N → a ≠ b → (T a).2.1 ≠ (T b).2.1) (q0 : Nat) {fs : List Value} (he : ws[q0]? = some (a, .inr (ci, fs))) (hc : classes[ci]? = some (C, T, N)) (k : Nat) (hk : k < N) (hlink : (Cond.fieldLink own index (T k).1 (T k).2.1 (T k).2.2.1) ∈ gtb) (hfin : (T k).2.2.2 = false) {v : Value} (hn : narrow (ty0 k) v = v) (hfit : fits (ty0 k) v = true) (hl : k < fs.length) {ws' : va_W} (hw' : ws.set q0 (a, .inr (ci, fs.set k v)) = ws')
    (hdg : decode cc pc = .ok (.putfield index, 3)) (kk : ∀ (H1 : Heap) (locs1 : List Loc), Wd dC dI A ws' tys s H1 locs1 → W p l e R s m args below meth c H1 locs1 cells slots Q (F0 m (pc + 3) ls rest)) : W p l e R s m args below meth c H locs cells slots Q (F0 m pc ls (v :: .ref a :: rest)) := by
  subst hw'
  exact va_put (D := (dC, dI)) hf.1 hf.2.1 hf.2.2.2.2.1 hin ty0 hty hnm hf.2.2.2.1 hw.1 hw.2.1 hw.2.2.1 hw.2.2.2.1 q0 he hc k hk (hf.2.2.2.2.1 _ hlink) (fun _ h => h) hfin (hty k hk) hn hfit hl hdg (fun H1 locs1 h1 h2 h3 => kk H1 locs1 ⟨hw.1, h1, h2, h3, hw.2.2.2.2⟩)
/-- putfield of a final field, in a constructor -/
theorem mputF (hf : Fx p c cc nL s args m own) (hin2 : meth.name = "<init>") (hw : Wd dC dI A ws tys s H locs) {C : String} {T : u_T} {N ci index : Nat} (hin : ∀ w ∈ u_ws C T N, w ∈ gtb) (ty0 : Nat → FieldType) (hty : ∀ k, k < N → parseFieldDescriptor (T k).2.2.1 = some (ty0 k)) (hnm : ∀ a, a < N → ∀ b, b < N → a ≠ b → (T a).2.1 ≠ (T b).2.1) (q0 : Nat) {fs : List Value} (he : ws[q0]? = some (a, .inr (ci, fs))) (hc : classes[ci]? = some (C, T, N)) (k : Nat) (hk : k < N) (hlink : (Cond.fieldLink own index (T k).1 (T k).2.1 (T k).2.2.1) ∈ gtb) (hfin : (T k).2.2.2 = true) (hdecl : (T k).1 = own) {v : Value} (hn : narrow (ty0 k) v = v) (hfit : fits (ty0 k) v = true) (hl : k < fs.length) {ws' : va_W} (hw' : ws.set q0 (a, .inr (ci, fs.set k v)) = ws')
    (hdg : decode cc pc = .ok (.putfield index, 3)) (kk : ∀ (H1 : Heap) (locs1 : List Loc), Wd dC dI A ws' tys s H1 locs1 → W p l e R s m args below meth c H1 locs1 cells slots Q (F0 m (pc + 3) ls rest)) : W p l e R s m args below meth c H locs cells slots Q (F0 m pc ls (v :: .ref a :: rest)) := by
  subst hw'
  exact va_putF (D := (dC, dI)) hf.1 hf.2.1 hf.2.2.2.2.1 hin ty0 hty hnm hf.2.2.2.1 hw.1 hw.2.1 hw.2.2.1 hw.2.2.2.1 q0 he hc k hk (hf.2.2.2.2.1 _ hlink) (fun _ h => h) hfin hin2 hdecl (hty k hk) hn hfit hl hdg (fun H1 locs1 h1 h2 h3 => kk H1 locs1 ⟨hw.1, h1, h2, h3, hw.2.2.2.2⟩)
/-- new -/
theorem mnew (hf : Fx p c cc nL s args m own) (hw : Wd dC dI A ws tys s H locs) {C : String} {T : u_T} {N ci index : Nat} (hin : ∀ w ∈ u_ws C T N, w ∈ gtb) (ty0 : Nat → FieldType) (hty : ∀ k, k < N → parseFieldDescriptor (T k).2.2.1 = some (ty0 k)) (hcl : (Cond.classLink own index C) ∈ gtb) (hinst : (Cond.instantiable C N) ∈ gtb) (hini : (Cond.initialized C) ∈ gtb) (hc : classes[ci]? = some (C, T, N)) {fs : List Value} (hfs : ∀ j, j < N → defaultValue (ty0 j) = vp_V fs j) {ce sl : Nat} (hce : cells + 1 = ce) (hsl : slots + N = sl) (hcells : ce ≤ R.cells) (hslots : sl ≤ R.slots) (hdg : decode cc pc = .ok (.new index, 3))
    (kk : ∀ (q : Nat) (H1 : Heap), Wd dC dI A (ws ++ [(q, .inr (ci, fs))]) tys s H1 locs → W p l e R s m args below meth c H1 locs ce sl Q (F0 m (pc + 3) ls (.ref q :: rest))) : W p l e R s m args below meth c H locs cells slots Q (F0 m pc ls rest) := by
  subst hce
  subst hsl
  exact va_new (D := (dC, dI)) hf.1 hf.2.1 hf.2.2.2.2.1 hin ty0 hty hf.2.2.2.1 (hf.2.2.2.2.1 _ hcl) (hf.2.2.2.2.1 _ hinst) (hf.2.2.2.2.1 _ hini) hw.1 hw.2.1 hw.2.2.1 hw.2.2.2.1 hw.2.2.2.2 hc hfs hcells hslots hdg (fun q H1 h1 h2 h3 => kk q H1 ⟨hw.1, h1, h2, h3, hw.2.2.2.2⟩)
/-- newarray of a primitive type -/
theorem mnewa (hf : Fx p c cc nL s args m own) (hw : Wd dC dI A ws tys s H locs) {atype : ArrayType} (harr : (Cond.arrayClass (newarray.typeOf atype)) ∈ gtb) {ty : FieldType} (hty : newarray.typeOf atype = ty)
    {n : Int32} {N' : Nat} {a0 : vp_A} (ha : ∀ cA : ClassId, vp_cell cA a0 = arrV cA N' (fun _ => defaultValue ty)) (hn : ¬ n < 0) (hN : n.toNatClampNeg = N') (hbytes : N' * componentBytes ty ≤ 536870912) {ce sl : Nat} (hce : cells + 1 = ce) (hsl : slots + N' = sl) (hcells : ce ≤ R.cells) (hslots : sl ≤ R.slots) (hdg : decode cc pc = .ok (.newarray atype, 2))
    (kk : ∀ (q : Nat) (cA : ClassId) (H1 : Heap), Wd dC dI A (ws ++ [(q, .inl (cA, a0))]) (tys ++ [(cA, ty)]) s H1 locs →
      W p l e R s m args below meth c H1 locs ce sl Q (F0 m (pc + 2) ls (.ref q :: rest))) : W p l e R s m args below meth c H locs cells slots Q (F0 m pc ls (.int n :: rest)) := by
  subst hce
  subst hsl
  exact va_newa (D := (dC, dI)) hf.1 hf.2.1 (hf.2.2.2.2.1 _ harr) hty hw.1 hw.2.1 hw.2.2.1 hw.2.2.2.1 hw.2.2.2.2 ha hn hN hbytes hcells hslots hdg (fun q cA H1 h0 h1 h2 h3 => kk q cA H1 ⟨h0, h1, h2, h3, hw.2.2.2.2⟩)
/-- Object's constructor -/
theorem mobj (hf : Fx p c cc nL s args m own) (hz : ls.size = nL) (hlink : (Cond.methodLink own index objectInit) ∈ gtb) (hinst : (Cond.instanceMethod objectInit) ∈ gtb) (hcode : (Cond.code objectInit ⟨#[0xb1]⟩ 1 none) ∈ gtb) (hd : decode cc pc = .ok (.invokespecial index, 3)) (h1 : 1 ≤ R.frames) (h2 : 12 ≤ R.locals)
    (kk : W p l e R s m args below meth c H locs cells slots Q (F0 m (pc + 3) ls [])) : W p l e R s m args below meth c H locs cells slots Q (F0 m pc ls [.ref a]) := by
  refine W.objInit hf.1 hf.2.1 hf.2.2.2.1 (hf.2.2.2.2.1 _ hlink) (hf.2.2.2.2.1 _ hinst) (hf.2.2.2.2.1 _ hcode) rfl (by rw [hf.2.2.1]; exact hz) rfl hd h1 h2 ?_
  exact kk
end MAC
section MAC2
variable {p : Program} {l : Launch} {e : Env} {R : Room} {s : State} {m : MethodId} {args : Array Value} {below : List Frame} {meth : Method} {c : Code} {H : Heap} {locs : List Loc} {cells slots : Nat} {Q : State → Prop}
variable {cc : ByteArray} {pc : Nat} {ls : Array Slot} {dC : Nat → ClassId} {dI : Nat → Nat → Nat} {A : Nat → Prop} {tys tc tr : List (ClassId × FieldType)} {ws wc wr : va_W} {y : MethodName} {bytes : ByteArray} {maxL nL mc ms n index : Nat} {ret : Option FieldType} {rm : Room} {own C : String} {b a : Addr} {As rest : List Value}
/-- newarray, of which nothing is kept -/
theorem mnewaD (hf : Fx p c cc nL s args m own) (hw : Wd dC dI A ws tys s H locs) {atype : ArrayType} (harr : (Cond.arrayClass (newarray.typeOf atype)) ∈ gtb) {ty : FieldType} (hty : newarray.typeOf atype = ty)
    {n : Int32} {N' : Nat} {a0 : vp_A} (ha : ∀ cA : ClassId, vp_cell cA a0 = arrV cA N' (fun _ => defaultValue ty)) (hn : ¬ n < 0) (hN : n.toNatClampNeg = N') (hbytes : N' * componentBytes ty ≤ 536870912) {ce sl : Nat} (hce : cells + 1 = ce) (hsl : slots + N' = sl) (hcells : ce ≤ R.cells) (hslots : sl ≤ R.slots) (hdg : decode cc pc = .ok (.newarray atype, 2))
    (kk : ∀ (q : Nat) (H1 : Heap), Wd dC dI A ws tys s H1 locs →
      W p l e R s m args below meth c H1 locs ce sl Q (F0 m (pc + 2) ls (.ref q :: rest))) : W p l e R s m args below meth c H locs cells slots Q (F0 m pc ls (.int n :: rest)) := by
  refine mnewa hf hw harr hty ha hn hN hbytes hce hsl hcells hslots hdg (fun q cA H1 h => kk q H1 ?_)
  obtain ⟨hK, hP, hD, hS, hA⟩ := h
  refine ⟨⟨hK.1, fun k x hx => hK.2 k x (by rw [List.getElem?_append_left (List.getElem?_eq_some_iff.mp hx).1]; exact hx)⟩, fun k x hx => hP k x (by rw [List.getElem?_append_left (List.getElem?_eq_some_iff.mp hx).1]; exact hx), ⟨fun i j x z hi hj => hD.1 i j x z (by rw [List.getElem?_append_left (List.getElem?_eq_some_iff.mp hi).1]; exact hi) (by rw [List.getElem?_append_left (List.getElem?_eq_some_iff.mp hj).1]; exact hj), fun k x hx => hD.2 k x (by rw [List.getElem?_append_left (List.getElem?_eq_some_iff.mp hx).1]; exact hx)⟩, hS, hA⟩
theorem miald (hf : Fx p c cc nL s args m own) (hw : Wd dC dI A ws tys s H locs) (q0 t0 : Nat) {cA : ClassId} {n : Nat} {f : Nat → Int32} (ha : ws[q0]? = some (a, .inl (cA, n, .inl f))) (ht : tys[t0]? = some (cA, .int)) {i : Int32} (hin : vp_in i n) (hdg : decode cc pc = .ok (.iaload, 1))
    (kk : W p l e R s m args below meth c H locs cells slots Q (F0 m (pc + 1) ls (.int (f i.toNatClampNeg) :: rest))) : W p l e R s m args below meth c H locs cells slots Q (F0 m pc ls (.int i :: .ref a :: rest)) :=
  va_iald (D := (dC, dI)) hf.1 hf.2.1 hw.1 hw.2.1 q0 t0 ha ht hin hdg kk
theorem mbald (hf : Fx p c cc nL s args m own) (hw : Wd dC dI A ws tys s H locs) (q0 t0 : Nat) {cA : ClassId} {n : Nat} {f : Nat → Int32} (ha : ws[q0]? = some (a, .inl (cA, n, .inl f))) (ht : tys[t0]? = some (cA, .byte)) {i : Int32} (hin : vp_in i n) (hdg : decode cc pc = .ok (.baload, 1))
    (kk : W p l e R s m args below meth c H locs cells slots Q (F0 m (pc + 1) ls (.int (f i.toNatClampNeg) :: rest))) : W p l e R s m args below meth c H locs cells slots Q (F0 m pc ls (.int i :: .ref a :: rest)) :=
  va_bald (D := (dC, dI)) hf.1 hf.2.1 hw.1 hw.2.1 q0 t0 ha ht hin hdg kk
theorem mzald (hf : Fx p c cc nL s args m own) (hw : Wd dC dI A ws tys s H locs) (q0 t0 : Nat) {cA : ClassId} {n : Nat} {f : Nat → Int32} (ha : ws[q0]? = some (a, .inl (cA, n, .inl f))) (ht : tys[t0]? = some (cA, .boolean)) {i : Int32} (hin : vp_in i n) (hdg : decode cc pc = .ok (.baload, 1))
    (kk : W p l e R s m args below meth c H locs cells slots Q (F0 m (pc + 1) ls (.int (f i.toNatClampNeg) :: rest))) : W p l e R s m args below meth c H locs cells slots Q (F0 m pc ls (.int i :: .ref a :: rest)) :=
  va_zald (D := (dC, dI)) hf.1 hf.2.1 hw.1 hw.2.1 q0 t0 ha ht hin hdg kk
theorem mlald (hf : Fx p c cc nL s args m own) (hw : Wd dC dI A ws tys s H locs) (q0 t0 : Nat) {cA : ClassId} {n : Nat} {f : Nat → Int64} (ha : ws[q0]? = some (a, .inl (cA, n, .inr (.inl f)))) (ht : tys[t0]? = some (cA, .long)) {i : Int32} (hin : vp_in i n) (hdg : decode cc pc = .ok (.laload, 1))
    (kk : W p l e R s m args below meth c H locs cells slots Q (F0 m (pc + 1) ls (.long (f i.toNatClampNeg) :: rest))) : W p l e R s m args below meth c H locs cells slots Q (F0 m pc ls (.int i :: .ref a :: rest)) :=
  va_lald (D := (dC, dI)) hf.1 hf.2.1 hw.1 hw.2.1 q0 t0 ha ht hin hdg kk
theorem miast (hf : Fx p c cc nL s args m own) (hw : Wd dC dI A ws tys s H locs) (q0 t0 : Nat) {cA : ClassId} {n : Nat} {f : Nat → Int32} (ha : ws[q0]? = some (a, .inl (cA, n, .inl f))) (ht : tys[t0]? = some (cA, .int)) {i : Int32} {x : Int32} (hin : vp_in i n) (hdg : decode cc pc = .ok (.iastore, 1))
    (kk : ∀ (f1 : Nat → Int32), f1 = (upd f i.toNatClampNeg x) → ∀ (H1 : Heap) (locs1 : List Loc), Wd dC dI A (ws.set q0 (a, .inl (cA, n, .inl f1))) tys s H1 locs1 → W p l e R s m args below meth c H1 locs1 cells slots Q (F0 m (pc + 1) ls rest)) : W p l e R s m args below meth c H locs cells slots Q (F0 m pc ls (.int x :: .int i :: .ref a :: rest)) :=
  va_iast (D := (dC, dI)) hf.1 hf.2.1 hw.1 hw.2.1 hw.2.2.1 hw.2.2.2.1 q0 t0 ha ht hin hdg (fun H1 locs1 h1 h2 h3 => kk _ rfl H1 locs1 ⟨hw.1, h1, h2, h3, hw.2.2.2.2⟩)
theorem mbast (hf : Fx p c cc nL s args m own) (hw : Wd dC dI A ws tys s H locs) (q0 t0 : Nat) {cA : ClassId} {n : Nat} {f : Nat → Int32} (ha : ws[q0]? = some (a, .inl (cA, n, .inl f))) (ht : tys[t0]? = some (cA, .byte)) {i : Int32} {x : Int32} (hin : vp_in i n) (hdg : decode cc pc = .ok (.bastore, 1))
    (kk : ∀ (f1 : Nat → Int32), f1 = (upd f i.toNatClampNeg (vp_nar .byte x)) → ∀ (H1 : Heap) (locs1 : List Loc), Wd dC dI A (ws.set q0 (a, .inl (cA, n, .inl f1))) tys s H1 locs1 → W p l e R s m args below meth c H1 locs1 cells slots Q (F0 m (pc + 1) ls rest)) : W p l e R s m args below meth c H locs cells slots Q (F0 m pc ls (.int x :: .int i :: .ref a :: rest)) :=
  va_bast (D := (dC, dI)) hf.1 hf.2.1 hw.1 hw.2.1 hw.2.2.1 hw.2.2.2.1 q0 t0 ha ht hin hdg (fun H1 locs1 h1 h2 h3 => kk _ rfl H1 locs1 ⟨hw.1, h1, h2, h3, hw.2.2.2.2⟩)
theorem mzast (hf : Fx p c cc nL s args m own) (hw : Wd dC dI A ws tys s H locs) (q0 t0 : Nat) {cA : ClassId} {n : Nat} {f : Nat → Int32} (ha : ws[q0]? = some (a, .inl (cA, n, .inl f))) (ht : tys[t0]? = some (cA, .boolean)) {i : Int32} {x : Int32} (hin : vp_in i n) (hdg : decode cc pc = .ok (.bastore, 1))
    (kk : ∀ (f1 : Nat → Int32), f1 = (upd f i.toNatClampNeg (vp_nar .boolean x)) → ∀ (H1 : Heap) (locs1 : List Loc), Wd dC dI A (ws.set q0 (a, .inl (cA, n, .inl f1))) tys s H1 locs1 → W p l e R s m args below meth c H1 locs1 cells slots Q (F0 m (pc + 1) ls rest)) : W p l e R s m args below meth c H locs cells slots Q (F0 m pc ls (.int x :: .int i :: .ref a :: rest)) :=
  va_zast (D := (dC, dI)) hf.1 hf.2.1 hw.1 hw.2.1 hw.2.2.1 hw.2.2.2.1 q0 t0 ha ht hin hdg (fun H1 locs1 h1 h2 h3 => kk _ rfl H1 locs1 ⟨hw.1, h1, h2, h3, hw.2.2.2.2⟩)
theorem mlast (hf : Fx p c cc nL s args m own) (hw : Wd dC dI A ws tys s H locs) (q0 t0 : Nat) {cA : ClassId} {n : Nat} {f : Nat → Int64} (ha : ws[q0]? = some (a, .inl (cA, n, .inr (.inl f)))) (ht : tys[t0]? = some (cA, .long)) {i : Int32} {x : Int64} (hin : vp_in i n) (hdg : decode cc pc = .ok (.lastore, 1))
    (kk : ∀ (f1 : Nat → Int64), f1 = (vp_updL f i.toNatClampNeg x) → ∀ (H1 : Heap) (locs1 : List Loc), Wd dC dI A (ws.set q0 (a, .inl (cA, n, .inr (.inl f1)))) tys s H1 locs1 → W p l e R s m args below meth c H1 locs1 cells slots Q (F0 m (pc + 1) ls rest)) : W p l e R s m args below meth c H locs cells slots Q (F0 m pc ls (.long x :: .int i :: .ref a :: rest)) :=
  va_last (D := (dC, dI)) hf.1 hf.2.1 hw.1 hw.2.1 hw.2.2.1 hw.2.2.2.1 q0 t0 ha ht hin hdg (fun H1 locs1 h1 h2 h3 => kk _ rfl H1 locs1 ⟨hw.1, h1, h2, h3, hw.2.2.2.2⟩)
theorem malen (hf : Fx p c cc nL s args m own) (hw : Wd dC dI A ws tys s H locs) (q0 t0 : Nat) {cA : ClassId} {x : vp_A} (ha : ws[q0]? = some (a, .inl (cA, x))) {ty : FieldType} (ht : tys[t0]? = some (cA, ty)) {v : Int32} (hv : Int32.ofNat x.1 = v) (hdg : decode cc pc = .ok (.arraylength, 1))
    (kk : W p l e R s m args below meth c H locs cells slots Q (F0 m (pc + 1) ls (.int v :: rest))) : W p l e R s m args below meth c H locs cells slots Q (F0 m pc ls (.ref a :: rest)) :=
  va_alen (D := (dC, dI)) hf.1 hf.2.1 hw.1 hw.2.1 q0 t0 ha ht hv hdg kk
end MAC2
/-- what the tables say of a callee -/
def KA (y : MethodName) (bytes : ByteArray) (maxL : Nat) (ret : Option FieldType) (n : Nat) : Prop := Cond.code y bytes maxL ret ∈ gtb ∧ Cond.initialized y.cls ∈ gtb ∧ y.cls ≠ "java/lang/invoke/MethodHandle" ∧ y.cls ≠ "java/lang/invoke/VarHandle" ∧ (parseMethodDescriptor y.desc).map (fun d => d.parameters.length) = some n
def KV (y : MethodName) : Prop := Cond.instanceMethod y ∈ gtb ∧ Cond.selects y.cls y y ∈ gtb
theorem wsOf_good {y : MethodName} {bytes : ByteArray} {maxL n : Nat} {ret : Option FieldType} (h : KA y bytes maxL ret n) : GoodIn gtb (wsOf y bytes maxL ret) := by
  intro w hw
  rcases List.mem_cons.mp hw with rfl | hw
  · exact gtb_good _ h.1
  · exact gtb_good w hw
section MAC3
variable {p : Program} {l : Launch} {e : Env} {R : Room} {s : State} {m : MethodId} {args : Array Value} {below : List Frame} {meth : Method} {c : Code} {H : Heap} {locs : List Loc} {cells slots : Nat} {Q : State → Prop}
variable {cc : ByteArray} {pc : Nat} {ls : Array Slot} {dC : Nat → ClassId} {dI : Nat → Nat → Nat} {A : Nat → Prop} {tys tc tr : List (ClassId × FieldType)} {ws wc wr : va_W} {y : MethodName} {bytes : ByteArray} {maxL nL mc ms n index : Nat} {ret : Option FieldType} {rm : Room} {own host : String} {b a : Addr} {As rest st0 : List Value}
theorem mcallB (hf : Fx p c cc nL s args m own) (hk : KA y bytes maxL ret n) (hrc : rm.cells = mc) (hrs : rm.slots = ms) (hlink : Cond.methodLink own index y ∈ gtb) (hR : rm.frames + 1 ≤ R.frames ∧ 8 + (maxL + 11) + rm.locals ≤ R.locals) : CallB R s args own index y bytes maxL ret (wsOf y bytes maxL ret) rm mc ms n :=
  callB_of n hf.2.2.2.2.1 (wsOf_good hk) rfl hrc hrs (hf.2.2.2.2.1 _ hk.2.1) (hf.2.2.2.2.1 _ hlink) hk.2.2 hR
theorem mcallN (hf : Fx p c cc nL s args m own) (hk : KA y bytes maxL ret n) (hrc : rm.cells = mc) (hrs : rm.slots = ms) (hlink : Cond.methodLinkNest own index y host ∈ lw_tbl) (hR : rm.frames + 1 ≤ R.frames ∧ 8 + (maxL + 11) + rm.locals ≤ R.locals) : va_CN R s args own index y host bytes maxL ret (wsOf y bytes maxL ret) rm mc ms n :=
  va_cnB n hf.2.2.2.2.1 (wsOf_good hk) rfl hrc hrs (hf.2.2.2.2.2 _ hlink rfl) (hf.2.2.2.2.1 _ hk.2.1) hk.2.2 hR
theorem mpre (hf : Fx p c cc nL s args m own) (hw : Wd dC dI A ws tys s H locs) (isC tC : List Nat) (hC : isC.map (fun i => ws[i]?) = wc.map some) (hn : va_nd isC = true) (htc : tC.filterMap (fun i => tys[i]?) = tc) {av : List Value} : ∀ U : State, U.heap = H → s.WarmedH U.vm → va_Pc av (PB dC dI H.size wc tc) av.toArray U := by
  intro U hU hW
  obtain ⟨hK, hP, hD, hS, hA⟩ := hw.pick isC tC hn hC htc
  exact ⟨rfl, by rw [hU], by rw [hU]; exact hP, va_K.moved hW.alike hK, hD.weaken (fun _ _ _ _ => trivial), nk_warm hW hf.2.2.2.2.2⟩
theorem mrecv (hw : Wd dC dI A ws tys s H locs) {C : String} {T : u_T} {N ci : Nat} (q0 : Nat) {fs : List Value} (he : ws[q0]? = some (b, .inr (ci, fs))) (hc : classes[ci]? = some (C, T, N)) : ∃ cellB : Cell, H[b]? = some cellB ∧ cellB.vm.isStatics = false ∧ s.vm.findClass C = some cellB.cls :=
  va_recv (q := (C, T, N)) hw.1 hw.2.1 hc he
/-- behind a call: the frame -/
theorem mback {X : Type} {w1 : X → va_W} {t1 : X → List (ClassId × FieldType)} (hw : Wd dC dI A ws tys s H locs) (isC isR tR : List Nat) (hC : isC.map (fun i => ws[i]?) = wc.map some) (hRr : isR.map (fun i => ws[i]?) = wr.map some) (hn : va_nd isR = true) (hdis : ∀ i ∈ isR, i ∉ isC) (htr : tR.filterMap (fun i => tys[i]?) = tr)
    {x : X} {t : State} {H1 : Heap} {locs1 : List Loc} (ht : t.heap = H1) (hvm : s.vm.Alike t.vm) (hB : PW dC dI (va_A wc H.size) (w1 x) (t1 x) t) (hk1 : ∀ q : Nat, q < H.size → ¬ va_A wc H.size q → H1[q]? = H[q]?) (hS1 : va_S A s.heap H1 locs1) : Wd dC dI A (wr ++ w1 x) (tr ++ t1 x) s H1 locs1 := by
  obtain ⟨hK, hP, hD, hS, hA⟩ := hw
  obtain ⟨hP1, hK1, hD1⟩ := hB
  rw [ht] at hP1
  have hK1 := va_K.moved hvm.symm hK1
  have hFc := va_free (wc := wc) hD hS hA isC hC
  obtain ⟨hP', hD'⟩ := va_join (wr := wr) (w1 := w1 x) hP hD isC isR hC hRr hn hdis hk1 hFc hP1 hD1
  exact ⟨(hK.sub (tys' := tr) tR htr).app hK1, hP', hD', hS1, hA⟩
theorem mV_v {X : Type} {φ : X → Prop} {w1 : X → va_W} {t1 : X → List (ClassId × FieldType)} (hf : Fx p c cc nL s args m own) (hw : Wd dC dI A ws tys s H locs)
    (hM : Met l y (wsOf y bytes maxL ret) rm (va_Pc (Value.ref b :: As) (PB dC dI H.size wc tc)) (va_Qv φ (fun x t => PW dC dI (va_A wc H.size) (w1 x) (t1 x) t) (va_A wc H.size)) mc ms (va_A wc H.size)) (hk : KA y bytes maxL ret n) (hv : KV y) {T : u_T} {N ci : Nat} (q0 : Nat) {fs : List Value} (he : ws[q0]? = some (b, .inr (ci, fs))) (hc : classes[ci]? = some (y.cls, T, N)) (hlink : Cond.methodLink own index y ∈ gtb)
    (isC tC isR tR : List Nat) (hC : isC.map (fun i => ws[i]?) = wc.map some) (hnC : va_nd isC = true) (htc : tC.filterMap (fun i => tys[i]?) = tc) (hRr : isR.map (fun i => ws[i]?) = wr.map some) (hnR : va_nd isR = true) (hdis : ∀ i ∈ isR, i ∉ isC) (htr : tR.filterMap (fun i => tys[i]?) = tr)
    (hst : st0 = As.reverse ++ .ref b :: rest) (hn : As.length = n) (hz : ls.size = nL) (hrc : rm.cells = mc) (hrs : rm.slots = ms) (hR : rm.frames + 1 ≤ R.frames ∧ 8 + (maxL + 11) + rm.locals ≤ R.locals) (hcat : (rest.map fun v => v.category).sum ≤ 8) {ce sl : Nat} (hce : cells + mc = ce) (hsl : slots + ms = sl) (hcells : ce ≤ R.cells ∧ sl ≤ R.slots) (hdg : decode cc pc = .ok (.invokevirtual index, 3))
    (kk : ∀ (x : X), φ x → ∀ (H1 : Heap) (locs1 : List Loc), Wd dC dI A (wr ++ w1 x) (tr ++ t1 x) s H1 locs1 → W p l e R s m args below meth c H1 locs1 ce sl Q (F0 m (pc + 3) ls (rest))) : W p l e R s m args below meth c H locs cells slots Q (F0 m pc ls st0) := by
  subst hst
  subst hce
  subst hsl
  have hFc := va_free (wc := wc) hw.2.2.1 hw.2.2.2.1 hw.2.2.2.2 isC hC
  exact va_callv (va_runV (C := y.cls) (As := As) (rest := rest) ⟨hf.1, hf.2.1, hf.2.2.1, hf.2.2.2.1, hf.2.2.2.2.1⟩ hM ⟨mcallB hf hk hrc hrs hlink hR, hf.2.2.2.2.1 _ hv.1, hf.2.2.2.2.1 _ hv.2⟩ ⟨PB_blind, mrecv hw q0 he hc, mpre hf hw isC tC hC hnC htc⟩ rfl hn hz rfl (lv_room hcat) hdg hcells) hw.2.2.2.1 (fun q _ h => hFc q h) hFc (fun x t H1 locs1 ht hvm hφ hB hz1 hk1 hS1 => kk x hφ H1 locs1 (mback hw isC isR tR hC hRr hnR hdis htr ht hvm hB hk1 hS1))
theorem mV_i {X : Type} {φ : Int32 → X → Prop} {w1 : X → va_W} {t1 : X → List (ClassId × FieldType)} (hf : Fx p c cc nL s args m own) (hw : Wd dC dI A ws tys s H locs)
    (hM : Met l y (wsOf y bytes maxL ret) rm (va_Pc (Value.ref b :: As) (PB dC dI H.size wc tc)) (va_Qi φ (fun x t => PW dC dI (va_A wc H.size) (w1 x) (t1 x) t) (va_A wc H.size)) mc ms (va_A wc H.size)) (hk : KA y bytes maxL ret n) (hv : KV y) {T : u_T} {N ci : Nat} (q0 : Nat) {fs : List Value} (he : ws[q0]? = some (b, .inr (ci, fs))) (hc : classes[ci]? = some (y.cls, T, N)) (hlink : Cond.methodLink own index y ∈ gtb)
    (isC tC isR tR : List Nat) (hC : isC.map (fun i => ws[i]?) = wc.map some) (hnC : va_nd isC = true) (htc : tC.filterMap (fun i => tys[i]?) = tc) (hRr : isR.map (fun i => ws[i]?) = wr.map some) (hnR : va_nd isR = true) (hdis : ∀ i ∈ isR, i ∉ isC) (htr : tR.filterMap (fun i => tys[i]?) = tr)
    (hst : st0 = As.reverse ++ .ref b :: rest) (hn : As.length = n) (hz : ls.size = nL) (hrc : rm.cells = mc) (hrs : rm.slots = ms) (hR : rm.frames + 1 ≤ R.frames ∧ 8 + (maxL + 11) + rm.locals ≤ R.locals) (hcat : (rest.map fun v => v.category).sum ≤ 8) {ce sl : Nat} (hce : cells + mc = ce) (hsl : slots + ms = sl) (hcells : ce ≤ R.cells ∧ sl ≤ R.slots) (hdg : decode cc pc = .ok (.invokevirtual index, 3))
    (kk : ∀ (r : Int32) (x : X), φ r x → ∀ (H1 : Heap) (locs1 : List Loc), Wd dC dI A (wr ++ w1 x) (tr ++ t1 x) s H1 locs1 → W p l e R s m args below meth c H1 locs1 ce sl Q (F0 m (pc + 3) ls (.int r :: rest))) : W p l e R s m args below meth c H locs cells slots Q (F0 m pc ls st0) := by
  subst hst
  subst hce
  subst hsl
  have hFc := va_free (wc := wc) hw.2.2.1 hw.2.2.2.1 hw.2.2.2.2 isC hC
  exact va_calli (va_runV (C := y.cls) (As := As) (rest := rest) ⟨hf.1, hf.2.1, hf.2.2.1, hf.2.2.2.1, hf.2.2.2.2.1⟩ hM ⟨mcallB hf hk hrc hrs hlink hR, hf.2.2.2.2.1 _ hv.1, hf.2.2.2.2.1 _ hv.2⟩ ⟨PB_blind, mrecv hw q0 he hc, mpre hf hw isC tC hC hnC htc⟩ rfl hn hz rfl (lv_room hcat) hdg hcells) hw.2.2.2.1 (fun q _ h => hFc q h) hFc (fun r x t H1 locs1 ht hvm hφ hB hz1 hk1 hS1 => kk r x hφ H1 locs1 (mback hw isC isR tR hC hRr hnR hdis htr ht hvm hB hk1 hS1))
theorem mV_l {X : Type} {φ : Int64 → X → Prop} {w1 : X → va_W} {t1 : X → List (ClassId × FieldType)} (hf : Fx p c cc nL s args m own) (hw : Wd dC dI A ws tys s H locs)
    (hM : Met l y (wsOf y bytes maxL ret) rm (va_Pc (Value.ref b :: As) (PB dC dI H.size wc tc)) (va_Ql φ (fun x t => PW dC dI (va_A wc H.size) (w1 x) (t1 x) t) (va_A wc H.size)) mc ms (va_A wc H.size)) (hk : KA y bytes maxL ret n) (hv : KV y) {T : u_T} {N ci : Nat} (q0 : Nat) {fs : List Value} (he : ws[q0]? = some (b, .inr (ci, fs))) (hc : classes[ci]? = some (y.cls, T, N)) (hlink : Cond.methodLink own index y ∈ gtb)
    (isC tC isR tR : List Nat) (hC : isC.map (fun i => ws[i]?) = wc.map some) (hnC : va_nd isC = true) (htc : tC.filterMap (fun i => tys[i]?) = tc) (hRr : isR.map (fun i => ws[i]?) = wr.map some) (hnR : va_nd isR = true) (hdis : ∀ i ∈ isR, i ∉ isC) (htr : tR.filterMap (fun i => tys[i]?) = tr)
    (hst : st0 = As.reverse ++ .ref b :: rest) (hn : As.length = n) (hz : ls.size = nL) (hrc : rm.cells = mc) (hrs : rm.slots = ms) (hR : rm.frames + 1 ≤ R.frames ∧ 8 + (maxL + 11) + rm.locals ≤ R.locals) (hcat : (rest.map fun v => v.category).sum ≤ 8) {ce sl : Nat} (hce : cells + mc = ce) (hsl : slots + ms = sl) (hcells : ce ≤ R.cells ∧ sl ≤ R.slots) (hdg : decode cc pc = .ok (.invokevirtual index, 3))
    (kk : ∀ (r : Int64) (x : X), φ r x → ∀ (H1 : Heap) (locs1 : List Loc), Wd dC dI A (wr ++ w1 x) (tr ++ t1 x) s H1 locs1 → W p l e R s m args below meth c H1 locs1 ce sl Q (F0 m (pc + 3) ls (.long r :: rest))) : W p l e R s m args below meth c H locs cells slots Q (F0 m pc ls st0) := by
  subst hst
  subst hce
  subst hsl
  have hFc := va_free (wc := wc) hw.2.2.1 hw.2.2.2.1 hw.2.2.2.2 isC hC
  exact va_calll (va_runV (C := y.cls) (As := As) (rest := rest) ⟨hf.1, hf.2.1, hf.2.2.1, hf.2.2.2.1, hf.2.2.2.2.1⟩ hM ⟨mcallB hf hk hrc hrs hlink hR, hf.2.2.2.2.1 _ hv.1, hf.2.2.2.2.1 _ hv.2⟩ ⟨PB_blind, mrecv hw q0 he hc, mpre hf hw isC tC hC hnC htc⟩ rfl hn hz rfl (lv_room hcat) hdg hcells) hw.2.2.2.1 (fun q _ h => hFc q h) hFc (fun r x t H1 locs1 ht hvm hφ hB hz1 hk1 hS1 => kk r x hφ H1 locs1 (mback hw isC isR tR hC hRr hnR hdis htr ht hvm hB hk1 hS1))
theorem mVN_v {X : Type} {φ : X → Prop} {w1 : X → va_W} {t1 : X → List (ClassId × FieldType)} (hf : Fx p c cc nL s args m own) (hw : Wd dC dI A ws tys s H locs)
    (hM : Met l y (wsOf y bytes maxL ret) rm (va_Pc (Value.ref b :: As) (PB dC dI H.size wc tc)) (va_Qv φ (fun x t => PW dC dI (va_A wc H.size) (w1 x) (t1 x) t) (va_A wc H.size)) mc ms (va_A wc H.size)) (hk : KA y bytes maxL ret n) (hv : KV y) {T : u_T} {N ci : Nat} (q0 : Nat) {fs : List Value} (he : ws[q0]? = some (b, .inr (ci, fs))) (hc : classes[ci]? = some (y.cls, T, N)) (hlink : Cond.methodLinkNest own index y host ∈ lw_tbl)
    (isC tC isR tR : List Nat) (hC : isC.map (fun i => ws[i]?) = wc.map some) (hnC : va_nd isC = true) (htc : tC.filterMap (fun i => tys[i]?) = tc) (hRr : isR.map (fun i => ws[i]?) = wr.map some) (hnR : va_nd isR = true) (hdis : ∀ i ∈ isR, i ∉ isC) (htr : tR.filterMap (fun i => tys[i]?) = tr)
    (hst : st0 = As.reverse ++ .ref b :: rest) (hn : As.length = n) (hz : ls.size = nL) (hrc : rm.cells = mc) (hrs : rm.slots = ms) (hR : rm.frames + 1 ≤ R.frames ∧ 8 + (maxL + 11) + rm.locals ≤ R.locals) (hcat : (rest.map fun v => v.category).sum ≤ 8) {ce sl : Nat} (hce : cells + mc = ce) (hsl : slots + ms = sl) (hcells : ce ≤ R.cells ∧ sl ≤ R.slots) (hdg : decode cc pc = .ok (.invokevirtual index, 3))
    (kk : ∀ (x : X), φ x → ∀ (H1 : Heap) (locs1 : List Loc), Wd dC dI A (wr ++ w1 x) (tr ++ t1 x) s H1 locs1 → W p l e R s m args below meth c H1 locs1 ce sl Q (F0 m (pc + 3) ls (rest))) : W p l e R s m args below meth c H locs cells slots Q (F0 m pc ls st0) := by
  subst hst
  subst hce
  subst hsl
  have hFc := va_free (wc := wc) hw.2.2.1 hw.2.2.2.1 hw.2.2.2.2 isC hC
  exact va_callv (va_runVN (C := y.cls) (As := As) (rest := rest) ⟨hf.1, hf.2.1, hf.2.2.1, hf.2.2.2.1, hf.2.2.2.2.1⟩ hM ⟨mcallN hf hk hrc hrs hlink hR, hf.2.2.2.2.1 _ hv.1, hf.2.2.2.2.1 _ hv.2⟩ ⟨PB_blind, mrecv hw q0 he hc, mpre hf hw isC tC hC hnC htc⟩ rfl hn hz rfl (lv_room hcat) hdg hcells) hw.2.2.2.1 (fun q _ h => hFc q h) hFc (fun x t H1 locs1 ht hvm hφ hB hz1 hk1 hS1 => kk x hφ H1 locs1 (mback hw isC isR tR hC hRr hnR hdis htr ht hvm hB hk1 hS1))
theorem mVN_i {X : Type} {φ : Int32 → X → Prop} {w1 : X → va_W} {t1 : X → List (ClassId × FieldType)} (hf : Fx p c cc nL s args m own) (hw : Wd dC dI A ws tys s H locs)
    (hM : Met l y (wsOf y bytes maxL ret) rm (va_Pc (Value.ref b :: As) (PB dC dI H.size wc tc)) (va_Qi φ (fun x t => PW dC dI (va_A wc H.size) (w1 x) (t1 x) t) (va_A wc H.size)) mc ms (va_A wc H.size)) (hk : KA y bytes maxL ret n) (hv : KV y) {T : u_T} {N ci : Nat} (q0 : Nat) {fs : List Value} (he : ws[q0]? = some (b, .inr (ci, fs))) (hc : classes[ci]? = some (y.cls, T, N)) (hlink : Cond.methodLinkNest own index y host ∈ lw_tbl)
    (isC tC isR tR : List Nat) (hC : isC.map (fun i => ws[i]?) = wc.map some) (hnC : va_nd isC = true) (htc : tC.filterMap (fun i => tys[i]?) = tc) (hRr : isR.map (fun i => ws[i]?) = wr.map some) (hnR : va_nd isR = true) (hdis : ∀ i ∈ isR, i ∉ isC) (htr : tR.filterMap (fun i => tys[i]?) = tr)
    (hst : st0 = As.reverse ++ .ref b :: rest) (hn : As.length = n) (hz : ls.size = nL) (hrc : rm.cells = mc) (hrs : rm.slots = ms) (hR : rm.frames + 1 ≤ R.frames ∧ 8 + (maxL + 11) + rm.locals ≤ R.locals) (hcat : (rest.map fun v => v.category).sum ≤ 8) {ce sl : Nat} (hce : cells + mc = ce) (hsl : slots + ms = sl) (hcells : ce ≤ R.cells ∧ sl ≤ R.slots) (hdg : decode cc pc = .ok (.invokevirtual index, 3))
    (kk : ∀ (r : Int32) (x : X), φ r x → ∀ (H1 : Heap) (locs1 : List Loc), Wd dC dI A (wr ++ w1 x) (tr ++ t1 x) s H1 locs1 → W p l e R s m args below meth c H1 locs1 ce sl Q (F0 m (pc + 3) ls (.int r :: rest))) : W p l e R s m args below meth c H locs cells slots Q (F0 m pc ls st0) := by
  subst hst
  subst hce
  subst hsl
  have hFc := va_free (wc := wc) hw.2.2.1 hw.2.2.2.1 hw.2.2.2.2 isC hC
  exact va_calli (va_runVN (C := y.cls) (As := As) (rest := rest) ⟨hf.1, hf.2.1, hf.2.2.1, hf.2.2.2.1, hf.2.2.2.2.1⟩ hM ⟨mcallN hf hk hrc hrs hlink hR, hf.2.2.2.2.1 _ hv.1, hf.2.2.2.2.1 _ hv.2⟩ ⟨PB_blind, mrecv hw q0 he hc, mpre hf hw isC tC hC hnC htc⟩ rfl hn hz rfl (lv_room hcat) hdg hcells) hw.2.2.2.1 (fun q _ h => hFc q h) hFc (fun r x t H1 locs1 ht hvm hφ hB hz1 hk1 hS1 => kk r x hφ H1 locs1 (mback hw isC isR tR hC hRr hnR hdis htr ht hvm hB hk1 hS1))
theorem mVN_l {X : Type} {φ : Int64 → X → Prop} {w1 : X → va_W} {t1 : X → List (ClassId × FieldType)} (hf : Fx p c cc nL s args m own) (hw : Wd dC dI A ws tys s H locs)
    (hM : Met l y (wsOf y bytes maxL ret) rm (va_Pc (Value.ref b :: As) (PB dC dI H.size wc tc)) (va_Ql φ (fun x t => PW dC dI (va_A wc H.size) (w1 x) (t1 x) t) (va_A wc H.size)) mc ms (va_A wc H.size)) (hk : KA y bytes maxL ret n) (hv : KV y) {T : u_T} {N ci : Nat} (q0 : Nat) {fs : List Value} (he : ws[q0]? = some (b, .inr (ci, fs))) (hc : classes[ci]? = some (y.cls, T, N)) (hlink : Cond.methodLinkNest own index y host ∈ lw_tbl)
    (isC tC isR tR : List Nat) (hC : isC.map (fun i => ws[i]?) = wc.map some) (hnC : va_nd isC = true) (htc : tC.filterMap (fun i => tys[i]?) = tc) (hRr : isR.map (fun i => ws[i]?) = wr.map some) (hnR : va_nd isR = true) (hdis : ∀ i ∈ isR, i ∉ isC) (htr : tR.filterMap (fun i => tys[i]?) = tr)
    (hst : st0 = As.reverse ++ .ref b :: rest) (hn : As.length = n) (hz : ls.size = nL) (hrc : rm.cells = mc) (hrs : rm.slots = ms) (hR : rm.frames + 1 ≤ R.frames ∧ 8 + (maxL + 11) + rm.locals ≤ R.locals) (hcat : (rest.map fun v => v.category).sum ≤ 8) {ce sl : Nat} (hce : cells + mc = ce) (hsl : slots + ms = sl) (hcells : ce ≤ R.cells ∧ sl ≤ R.slots) (hdg : decode cc pc = .ok (.invokevirtual index, 3))
    (kk : ∀ (r : Int64) (x : X), φ r x → ∀ (H1 : Heap) (locs1 : List Loc), Wd dC dI A (wr ++ w1 x) (tr ++ t1 x) s H1 locs1 → W p l e R s m args below meth c H1 locs1 ce sl Q (F0 m (pc + 3) ls (.long r :: rest))) : W p l e R s m args below meth c H locs cells slots Q (F0 m pc ls st0) := by
  subst hst
  subst hce
  subst hsl
  have hFc := va_free (wc := wc) hw.2.2.1 hw.2.2.2.1 hw.2.2.2.2 isC hC
  exact va_calll (va_runVN (C := y.cls) (As := As) (rest := rest) ⟨hf.1, hf.2.1, hf.2.2.1, hf.2.2.2.1, hf.2.2.2.2.1⟩ hM ⟨mcallN hf hk hrc hrs hlink hR, hf.2.2.2.2.1 _ hv.1, hf.2.2.2.2.1 _ hv.2⟩ ⟨PB_blind, mrecv hw q0 he hc, mpre hf hw isC tC hC hnC htc⟩ rfl hn hz rfl (lv_room hcat) hdg hcells) hw.2.2.2.1 (fun q _ h => hFc q h) hFc (fun r x t H1 locs1 ht hvm hφ hB hz1 hk1 hS1 => kk r x hφ H1 locs1 (mback hw isC isR tR hC hRr hnR hdis htr ht hvm hB hk1 hS1))
theorem mS_v {X : Type} {φ : X → Prop} {w1 : X → va_W} {t1 : X → List (ClassId × FieldType)} (hf : Fx p c cc nL s args m own) (hw : Wd dC dI A ws tys s H locs)
    (hM : Met l y (wsOf y bytes maxL ret) rm (va_Pc As (PB dC dI H.size wc tc)) (va_Qv φ (fun x t => PW dC dI (va_A wc H.size) (w1 x) (t1 x) t) (va_A wc H.size)) mc ms (va_A wc H.size)) (hk : KA y bytes maxL ret n) (hv : Cond.static y ∈ gtb) (hlink : Cond.methodLink own index y ∈ gtb)
    (isC tC isR tR : List Nat) (hC : isC.map (fun i => ws[i]?) = wc.map some) (hnC : va_nd isC = true) (htc : tC.filterMap (fun i => tys[i]?) = tc) (hRr : isR.map (fun i => ws[i]?) = wr.map some) (hnR : va_nd isR = true) (hdis : ∀ i ∈ isR, i ∉ isC) (htr : tR.filterMap (fun i => tys[i]?) = tr)
    (hst : st0 = As.reverse ++ rest) (hn : As.length = n) (hz : ls.size = nL) (hrc : rm.cells = mc) (hrs : rm.slots = ms) (hR : rm.frames + 1 ≤ R.frames ∧ 8 + (maxL + 11) + rm.locals ≤ R.locals) (hcat : (rest.map fun v => v.category).sum ≤ 8) {ce sl : Nat} (hce : cells + mc = ce) (hsl : slots + ms = sl) (hcells : ce ≤ R.cells ∧ sl ≤ R.slots) (hdg : decode cc pc = .ok (.invokestatic index, 3))
    (kk : ∀ (x : X), φ x → ∀ (H1 : Heap) (locs1 : List Loc), Wd dC dI A (wr ++ w1 x) (tr ++ t1 x) s H1 locs1 → W p l e R s m args below meth c H1 locs1 ce sl Q (F0 m (pc + 3) ls (rest))) : W p l e R s m args below meth c H locs cells slots Q (F0 m pc ls st0) := by
  subst hst
  subst hce
  subst hsl
  have hFc := va_free (wc := wc) hw.2.2.1 hw.2.2.2.1 hw.2.2.2.2 isC hC
  exact va_callv (va_runS (As := As) (rest := rest) ⟨hf.1, hf.2.1, hf.2.2.1, hf.2.2.2.1, hf.2.2.2.2.1⟩ hM ⟨mcallB hf hk hrc hrs hlink hR, hf.2.2.2.2.1 _ hv⟩ ⟨PB_blind, mpre hf hw isC tC hC hnC htc⟩ rfl hn hz rfl (lv_room hcat) hdg hcells) hw.2.2.2.1 (fun q _ h => hFc q h) hFc (fun x t H1 locs1 ht hvm hφ hB hz1 hk1 hS1 => kk x hφ H1 locs1 (mback hw isC isR tR hC hRr hnR hdis htr ht hvm hB hk1 hS1))
theorem mS_i {X : Type} {φ : Int32 → X → Prop} {w1 : X → va_W} {t1 : X → List (ClassId × FieldType)} (hf : Fx p c cc nL s args m own) (hw : Wd dC dI A ws tys s H locs)
    (hM : Met l y (wsOf y bytes maxL ret) rm (va_Pc As (PB dC dI H.size wc tc)) (va_Qi φ (fun x t => PW dC dI (va_A wc H.size) (w1 x) (t1 x) t) (va_A wc H.size)) mc ms (va_A wc H.size)) (hk : KA y bytes maxL ret n) (hv : Cond.static y ∈ gtb) (hlink : Cond.methodLink own index y ∈ gtb)
    (isC tC isR tR : List Nat) (hC : isC.map (fun i => ws[i]?) = wc.map some) (hnC : va_nd isC = true) (htc : tC.filterMap (fun i => tys[i]?) = tc) (hRr : isR.map (fun i => ws[i]?) = wr.map some) (hnR : va_nd isR = true) (hdis : ∀ i ∈ isR, i ∉ isC) (htr : tR.filterMap (fun i => tys[i]?) = tr)
    (hst : st0 = As.reverse ++ rest) (hn : As.length = n) (hz : ls.size = nL) (hrc : rm.cells = mc) (hrs : rm.slots = ms) (hR : rm.frames + 1 ≤ R.frames ∧ 8 + (maxL + 11) + rm.locals ≤ R.locals) (hcat : (rest.map fun v => v.category).sum ≤ 8) {ce sl : Nat} (hce : cells + mc = ce) (hsl : slots + ms = sl) (hcells : ce ≤ R.cells ∧ sl ≤ R.slots) (hdg : decode cc pc = .ok (.invokestatic index, 3))
    (kk : ∀ (r : Int32) (x : X), φ r x → ∀ (H1 : Heap) (locs1 : List Loc), Wd dC dI A (wr ++ w1 x) (tr ++ t1 x) s H1 locs1 → W p l e R s m args below meth c H1 locs1 ce sl Q (F0 m (pc + 3) ls (.int r :: rest))) : W p l e R s m args below meth c H locs cells slots Q (F0 m pc ls st0) := by
  subst hst
  subst hce
  subst hsl
  have hFc := va_free (wc := wc) hw.2.2.1 hw.2.2.2.1 hw.2.2.2.2 isC hC
  exact va_calli (va_runS (As := As) (rest := rest) ⟨hf.1, hf.2.1, hf.2.2.1, hf.2.2.2.1, hf.2.2.2.2.1⟩ hM ⟨mcallB hf hk hrc hrs hlink hR, hf.2.2.2.2.1 _ hv⟩ ⟨PB_blind, mpre hf hw isC tC hC hnC htc⟩ rfl hn hz rfl (lv_room hcat) hdg hcells) hw.2.2.2.1 (fun q _ h => hFc q h) hFc (fun r x t H1 locs1 ht hvm hφ hB hz1 hk1 hS1 => kk r x hφ H1 locs1 (mback hw isC isR tR hC hRr hnR hdis htr ht hvm hB hk1 hS1))
theorem mS_l {X : Type} {φ : Int64 → X → Prop} {w1 : X → va_W} {t1 : X → List (ClassId × FieldType)} (hf : Fx p c cc nL s args m own) (hw : Wd dC dI A ws tys s H locs)
    (hM : Met l y (wsOf y bytes maxL ret) rm (va_Pc As (PB dC dI H.size wc tc)) (va_Ql φ (fun x t => PW dC dI (va_A wc H.size) (w1 x) (t1 x) t) (va_A wc H.size)) mc ms (va_A wc H.size)) (hk : KA y bytes maxL ret n) (hv : Cond.static y ∈ gtb) (hlink : Cond.methodLink own index y ∈ gtb)
    (isC tC isR tR : List Nat) (hC : isC.map (fun i => ws[i]?) = wc.map some) (hnC : va_nd isC = true) (htc : tC.filterMap (fun i => tys[i]?) = tc) (hRr : isR.map (fun i => ws[i]?) = wr.map some) (hnR : va_nd isR = true) (hdis : ∀ i ∈ isR, i ∉ isC) (htr : tR.filterMap (fun i => tys[i]?) = tr)
    (hst : st0 = As.reverse ++ rest) (hn : As.length = n) (hz : ls.size = nL) (hrc : rm.cells = mc) (hrs : rm.slots = ms) (hR : rm.frames + 1 ≤ R.frames ∧ 8 + (maxL + 11) + rm.locals ≤ R.locals) (hcat : (rest.map fun v => v.category).sum ≤ 8) {ce sl : Nat} (hce : cells + mc = ce) (hsl : slots + ms = sl) (hcells : ce ≤ R.cells ∧ sl ≤ R.slots) (hdg : decode cc pc = .ok (.invokestatic index, 3))
    (kk : ∀ (r : Int64) (x : X), φ r x → ∀ (H1 : Heap) (locs1 : List Loc), Wd dC dI A (wr ++ w1 x) (tr ++ t1 x) s H1 locs1 → W p l e R s m args below meth c H1 locs1 ce sl Q (F0 m (pc + 3) ls (.long r :: rest))) : W p l e R s m args below meth c H locs cells slots Q (F0 m pc ls st0) := by
  subst hst
  subst hce
  subst hsl
  have hFc := va_free (wc := wc) hw.2.2.1 hw.2.2.2.1 hw.2.2.2.2 isC hC
  exact va_calll (va_runS (As := As) (rest := rest) ⟨hf.1, hf.2.1, hf.2.2.1, hf.2.2.2.1, hf.2.2.2.2.1⟩ hM ⟨mcallB hf hk hrc hrs hlink hR, hf.2.2.2.2.1 _ hv⟩ ⟨PB_blind, mpre hf hw isC tC hC hnC htc⟩ rfl hn hz rfl (lv_room hcat) hdg hcells) hw.2.2.2.1 (fun q _ h => hFc q h) hFc (fun r x t H1 locs1 ht hvm hφ hB hz1 hk1 hS1 => kk r x hφ H1 locs1 (mback hw isC isR tR hC hRr hnR hdis htr ht hvm hB hk1 hS1))
theorem mSN_v {X : Type} {φ : X → Prop} {w1 : X → va_W} {t1 : X → List (ClassId × FieldType)} (hf : Fx p c cc nL s args m own) (hw : Wd dC dI A ws tys s H locs)
    (hM : Met l y (wsOf y bytes maxL ret) rm (va_Pc As (PB dC dI H.size wc tc)) (va_Qv φ (fun x t => PW dC dI (va_A wc H.size) (w1 x) (t1 x) t) (va_A wc H.size)) mc ms (va_A wc H.size)) (hk : KA y bytes maxL ret n) (hv : Cond.static y ∈ gtb) (hlink : Cond.methodLinkNest own index y host ∈ lw_tbl)
    (isC tC isR tR : List Nat) (hC : isC.map (fun i => ws[i]?) = wc.map some) (hnC : va_nd isC = true) (htc : tC.filterMap (fun i => tys[i]?) = tc) (hRr : isR.map (fun i => ws[i]?) = wr.map some) (hnR : va_nd isR = true) (hdis : ∀ i ∈ isR, i ∉ isC) (htr : tR.filterMap (fun i => tys[i]?) = tr)
    (hst : st0 = As.reverse ++ rest) (hn : As.length = n) (hz : ls.size = nL) (hrc : rm.cells = mc) (hrs : rm.slots = ms) (hR : rm.frames + 1 ≤ R.frames ∧ 8 + (maxL + 11) + rm.locals ≤ R.locals) (hcat : (rest.map fun v => v.category).sum ≤ 8) {ce sl : Nat} (hce : cells + mc = ce) (hsl : slots + ms = sl) (hcells : ce ≤ R.cells ∧ sl ≤ R.slots) (hdg : decode cc pc = .ok (.invokestatic index, 3))
    (kk : ∀ (x : X), φ x → ∀ (H1 : Heap) (locs1 : List Loc), Wd dC dI A (wr ++ w1 x) (tr ++ t1 x) s H1 locs1 → W p l e R s m args below meth c H1 locs1 ce sl Q (F0 m (pc + 3) ls (rest))) : W p l e R s m args below meth c H locs cells slots Q (F0 m pc ls st0) := by
  subst hst
  subst hce
  subst hsl
  have hFc := va_free (wc := wc) hw.2.2.1 hw.2.2.2.1 hw.2.2.2.2 isC hC
  exact va_callv (va_runSN (As := As) (rest := rest) ⟨hf.1, hf.2.1, hf.2.2.1, hf.2.2.2.1, hf.2.2.2.2.1⟩ hM ⟨mcallN hf hk hrc hrs hlink hR, hf.2.2.2.2.1 _ hv, trivial⟩ ⟨PB_blind, mpre hf hw isC tC hC hnC htc⟩ rfl hn hz rfl (lv_room hcat) hdg hcells) hw.2.2.2.1 (fun q _ h => hFc q h) hFc (fun x t H1 locs1 ht hvm hφ hB hz1 hk1 hS1 => kk x hφ H1 locs1 (mback hw isC isR tR hC hRr hnR hdis htr ht hvm hB hk1 hS1))
theorem mSN_i {X : Type} {φ : Int32 → X → Prop} {w1 : X → va_W} {t1 : X → List (ClassId × FieldType)} (hf : Fx p c cc nL s args m own) (hw : Wd dC dI A ws tys s H locs)
    (hM : Met l y (wsOf y bytes maxL ret) rm (va_Pc As (PB dC dI H.size wc tc)) (va_Qi φ (fun x t => PW dC dI (va_A wc H.size) (w1 x) (t1 x) t) (va_A wc H.size)) mc ms (va_A wc H.size)) (hk : KA y bytes maxL ret n) (hv : Cond.static y ∈ gtb) (hlink : Cond.methodLinkNest own index y host ∈ lw_tbl)
    (isC tC isR tR : List Nat) (hC : isC.map (fun i => ws[i]?) = wc.map some) (hnC : va_nd isC = true) (htc : tC.filterMap (fun i => tys[i]?) = tc) (hRr : isR.map (fun i => ws[i]?) = wr.map some) (hnR : va_nd isR = true) (hdis : ∀ i ∈ isR, i ∉ isC) (htr : tR.filterMap (fun i => tys[i]?) = tr)
    (hst : st0 = As.reverse ++ rest) (hn : As.length = n) (hz : ls.size = nL) (hrc : rm.cells = mc) (hrs : rm.slots = ms) (hR : rm.frames + 1 ≤ R.frames ∧ 8 + (maxL + 11) + rm.locals ≤ R.locals) (hcat : (rest.map fun v => v.category).sum ≤ 8) {ce sl : Nat} (hce : cells + mc = ce) (hsl : slots + ms = sl) (hcells : ce ≤ R.cells ∧ sl ≤ R.slots) (hdg : decode cc pc = .ok (.invokestatic index, 3))
    (kk : ∀ (r : Int32) (x : X), φ r x → ∀ (H1 : Heap) (locs1 : List Loc), Wd dC dI A (wr ++ w1 x) (tr ++ t1 x) s H1 locs1 → W p l e R s m args below meth c H1 locs1 ce sl Q (F0 m (pc + 3) ls (.int r :: rest))) : W p l e R s m args below meth c H locs cells slots Q (F0 m pc ls st0) := by
  subst hst
  subst hce
  subst hsl
  have hFc := va_free (wc := wc) hw.2.2.1 hw.2.2.2.1 hw.2.2.2.2 isC hC
  exact va_calli (va_runSN (As := As) (rest := rest) ⟨hf.1, hf.2.1, hf.2.2.1, hf.2.2.2.1, hf.2.2.2.2.1⟩ hM ⟨mcallN hf hk hrc hrs hlink hR, hf.2.2.2.2.1 _ hv, trivial⟩ ⟨PB_blind, mpre hf hw isC tC hC hnC htc⟩ rfl hn hz rfl (lv_room hcat) hdg hcells) hw.2.2.2.1 (fun q _ h => hFc q h) hFc (fun r x t H1 locs1 ht hvm hφ hB hz1 hk1 hS1 => kk r x hφ H1 locs1 (mback hw isC isR tR hC hRr hnR hdis htr ht hvm hB hk1 hS1))
theorem mSN_l {X : Type} {φ : Int64 → X → Prop} {w1 : X → va_W} {t1 : X → List (ClassId × FieldType)} (hf : Fx p c cc nL s args m own) (hw : Wd dC dI A ws tys s H locs)
    (hM : Met l y (wsOf y bytes maxL ret) rm (va_Pc As (PB dC dI H.size wc tc)) (va_Ql φ (fun x t => PW dC dI (va_A wc H.size) (w1 x) (t1 x) t) (va_A wc H.size)) mc ms (va_A wc H.size)) (hk : KA y bytes maxL ret n) (hv : Cond.static y ∈ gtb) (hlink : Cond.methodLinkNest own index y host ∈ lw_tbl)
    (isC tC isR tR : List Nat) (hC : isC.map (fun i => ws[i]?) = wc.map some) (hnC : va_nd isC = true) (htc : tC.filterMap (fun i => tys[i]?) = tc) (hRr : isR.map (fun i => ws[i]?) = wr.map some) (hnR : va_nd isR = true) (hdis : ∀ i ∈ isR, i ∉ isC) (htr : tR.filterMap (fun i => tys[i]?) = tr)
    (hst : st0 = As.reverse ++ rest) (hn : As.length = n) (hz : ls.size = nL) (hrc : rm.cells = mc) (hrs : rm.slots = ms) (hR : rm.frames + 1 ≤ R.frames ∧ 8 + (maxL + 11) + rm.locals ≤ R.locals) (hcat : (rest.map fun v => v.category).sum ≤ 8) {ce sl : Nat} (hce : cells + mc = ce) (hsl : slots + ms = sl) (hcells : ce ≤ R.cells ∧ sl ≤ R.slots) (hdg : decode cc pc = .ok (.invokestatic index, 3))
    (kk : ∀ (r : Int64) (x : X), φ r x → ∀ (H1 : Heap) (locs1 : List Loc), Wd dC dI A (wr ++ w1 x) (tr ++ t1 x) s H1 locs1 → W p l e R s m args below meth c H1 locs1 ce sl Q (F0 m (pc + 3) ls (.long r :: rest))) : W p l e R s m args below meth c H locs cells slots Q (F0 m pc ls st0) := by
  subst hst
  subst hce
  subst hsl
  have hFc := va_free (wc := wc) hw.2.2.1 hw.2.2.2.1 hw.2.2.2.2 isC hC
  exact va_calll (va_runSN (As := As) (rest := rest) ⟨hf.1, hf.2.1, hf.2.2.1, hf.2.2.2.1, hf.2.2.2.2.1⟩ hM ⟨mcallN hf hk hrc hrs hlink hR, hf.2.2.2.2.1 _ hv, trivial⟩ ⟨PB_blind, mpre hf hw isC tC hC hnC htc⟩ rfl hn hz rfl (lv_room hcat) hdg hcells) hw.2.2.2.1 (fun q _ h => hFc q h) hFc (fun r x t H1 locs1 ht hvm hφ hB hz1 hk1 hS1 => kk r x hφ H1 locs1 (mback hw isC isR tR hC hRr hnR hdis htr ht hvm hB hk1 hS1))
theorem mI_v {X : Type} {φ : X → Prop} {w1 : X → va_W} {t1 : X → List (ClassId × FieldType)} (hf : Fx p c cc nL s args m own) (hw : Wd dC dI A ws tys s H locs)
    (hM : Met l y (wsOf y bytes maxL none) rm (va_Pc (Value.ref b :: As) (PB dC dI H.size wc tc)) (va_Qv φ (fun x t => PW dC dI (va_A wc H.size) (w1 x) (t1 x) t) (va_A wc H.size)) mc ms (va_A wc H.size)) (hk : KA y bytes maxL none n) (hv : Cond.instanceMethod y ∈ gtb) (hy1 : y.name = "<init>") (hlink : Cond.methodLink own index y ∈ gtb)
    (isC tC isR tR : List Nat) (hC : isC.map (fun i => ws[i]?) = wc.map some) (hnC : va_nd isC = true) (htc : tC.filterMap (fun i => tys[i]?) = tc) (hRr : isR.map (fun i => ws[i]?) = wr.map some) (hnR : va_nd isR = true) (hdis : ∀ i ∈ isR, i ∉ isC) (htr : tR.filterMap (fun i => tys[i]?) = tr)
    (hst : st0 = As.reverse ++ .ref b :: rest) (hn : As.length = n) (hz : ls.size = nL) (hrc : rm.cells = mc) (hrs : rm.slots = ms) (hR : rm.frames + 1 ≤ R.frames ∧ 8 + (maxL + 11) + rm.locals ≤ R.locals) (hcat : (rest.map fun v => v.category).sum ≤ 8) {ce sl : Nat} (hce : cells + mc = ce) (hsl : slots + ms = sl) (hcells : ce ≤ R.cells ∧ sl ≤ R.slots) (hdg : decode cc pc = .ok (.invokespecial index, 3))
    (kk : ∀ (x : X), φ x → ∀ (H1 : Heap) (locs1 : List Loc), Wd dC dI A (wr ++ w1 x) (tr ++ t1 x) s H1 locs1 → W p l e R s m args below meth c H1 locs1 ce sl Q (F0 m (pc + 3) ls (rest))) : W p l e R s m args below meth c H locs cells slots Q (F0 m pc ls st0) := by
  subst hst
  subst hce
  subst hsl
  have hFc := va_free (wc := wc) hw.2.2.1 hw.2.2.2.1 hw.2.2.2.2 isC hC
  exact va_callv (va_runI (As := As) (rest := rest) ⟨hf.1, hf.2.1, hf.2.2.1, hf.2.2.2.1, hf.2.2.2.2.1⟩ hM ⟨mcallB hf hk hrc hrs hlink hR, hy1, hf.2.2.2.2.1 _ hv⟩ ⟨PB_blind, mpre hf hw isC tC hC hnC htc⟩ rfl hn hz rfl (lv_room hcat) hdg hcells) hw.2.2.2.1 (fun q _ h => hFc q h) hFc (fun x t H1 locs1 ht hvm hφ hB hz1 hk1 hS1 => kk x hφ H1 locs1 (mback hw isC isR tR hC hRr hnR hdis htr ht hvm hB hk1 hS1))
theorem mIN_v {X : Type} {φ : X → Prop} {w1 : X → va_W} {t1 : X → List (ClassId × FieldType)} (hf : Fx p c cc nL s args m own) (hw : Wd dC dI A ws tys s H locs)
    (hM : Met l y (wsOf y bytes maxL none) rm (va_Pc (Value.ref b :: As) (PB dC dI H.size wc tc)) (va_Qv φ (fun x t => PW dC dI (va_A wc H.size) (w1 x) (t1 x) t) (va_A wc H.size)) mc ms (va_A wc H.size)) (hk : KA y bytes maxL none n) (hv : Cond.instanceMethod y ∈ gtb) (hy1 : y.name = "<init>") (hlink : Cond.methodLinkNest own index y host ∈ lw_tbl)
    (isC tC isR tR : List Nat) (hC : isC.map (fun i => ws[i]?) = wc.map some) (hnC : va_nd isC = true) (htc : tC.filterMap (fun i => tys[i]?) = tc) (hRr : isR.map (fun i => ws[i]?) = wr.map some) (hnR : va_nd isR = true) (hdis : ∀ i ∈ isR, i ∉ isC) (htr : tR.filterMap (fun i => tys[i]?) = tr)
    (hst : st0 = As.reverse ++ .ref b :: rest) (hn : As.length = n) (hz : ls.size = nL) (hrc : rm.cells = mc) (hrs : rm.slots = ms) (hR : rm.frames + 1 ≤ R.frames ∧ 8 + (maxL + 11) + rm.locals ≤ R.locals) (hcat : (rest.map fun v => v.category).sum ≤ 8) {ce sl : Nat} (hce : cells + mc = ce) (hsl : slots + ms = sl) (hcells : ce ≤ R.cells ∧ sl ≤ R.slots) (hdg : decode cc pc = .ok (.invokespecial index, 3))
    (kk : ∀ (x : X), φ x → ∀ (H1 : Heap) (locs1 : List Loc), Wd dC dI A (wr ++ w1 x) (tr ++ t1 x) s H1 locs1 → W p l e R s m args below meth c H1 locs1 ce sl Q (F0 m (pc + 3) ls (rest))) : W p l e R s m args below meth c H locs cells slots Q (F0 m pc ls st0) := by
  subst hst
  subst hce
  subst hsl
  have hFc := va_free (wc := wc) hw.2.2.1 hw.2.2.2.1 hw.2.2.2.2 isC hC
  exact va_callv (va_runIN (As := As) (rest := rest) ⟨hf.1, hf.2.1, hf.2.2.1, hf.2.2.2.1, hf.2.2.2.2.1⟩ hM ⟨mcallN hf hk hrc hrs hlink hR, hy1, hf.2.2.2.2.1 _ hv⟩ ⟨PB_blind, mpre hf hw isC tC hC hnC htc⟩ rfl hn hz rfl (lv_room hcat) hdg hcells) hw.2.2.2.1 (fun q _ h => hFc q h) hFc (fun x t H1 locs1 ht hvm hφ hB hz1 hk1 hS1 => kk x hφ H1 locs1 (mback hw isC isR tR hC hRr hnR hdis htr ht hvm hB hk1 hS1))
end MAC3
section MAC4
variable {p : Program} {l : Launch} {e : Env} {R : Room} {s : State} {m : MethodId} {args : Array Value} {below : List Frame} {meth : Method} {c : Code} {H : Heap} {locs : List Loc} {cells slots : Nat} {Q : State → Prop}
variable {cc : ByteArray} {pc : Nat} {ls : Array Slot} {dC : Nat → ClassId} {dI : Nat → Nat → Nat} {A : Nat → Prop} {tys : List (ClassId × FieldType)} {ws : va_W} {y : MethodName} {nL mc ms : Nat} {ret : Option FieldType} {rm : Room} {own : String}
theorem mPW (hw : Wd dC dI A ws tys s H locs) {w1 : va_W} {t1 : List (ClassId × FieldType)} (isP isT : List Nat) (hp : isP.map (fun i => ws[i]?) = w1.map some) (hn : va_nd isP = true) (ht : isT.filterMap (fun i => tys[i]?) = t1) {t : State} (h : t.heap = H) (hW : s.WarmedH t.vm) : PW dC dI A w1 t1 t := by
  obtain ⟨hK, hP, hD, hS, hA⟩ := hw.pick isP isT hn hp ht
  exact ⟨by rw [h]; exact hP, va_K.moved hW.alike hK, hD⟩
theorem mret_v {X : Type} {φ : X → Prop} {w1 : X → va_W} {t1 : X → List (ClassId × FieldType)} (hf : Fx p c cc nL s args m own) (hr : meth.sig.returnType = none) (hlocks : meth.locks = false) (hw : Wd dC dI A ws tys s H locs) (x : X) (hφ : φ x) (isP isT : List Nat) (hp : isP.map (fun i => ws[i]?) = (w1 x).map some) (hn : va_nd isP = true) (ht : isT.filterMap (fun i => tys[i]?) = t1 x) (h1 : cells ≤ mc) (h2 : slots ≤ ms) (hdg : decode cc pc = .ok (.return_, 1)) :
    W p l e R s m args below meth c H locs cells slots (MQ below (va_Qv φ (fun x t => PW dC dI A (w1 x) (t1 x) t) A) args s mc ms A) (F0 m pc ls []) :=
  W.widen (k := mc) (n := ms) h1 h2 (W.vret hf.1 hf.2.1 hr (fun t h hW => ⟨⟨x, rfl, hφ, mPW hw isP isT hp hn ht h hW⟩, hw.2.2.2.1.F h⟩) hw.2.2.2.1.2.2 hdg hlocks)
theorem mret_i {X : Type} {φ : Int32 → X → Prop} {w1 : X → va_W} {t1 : X → List (ClassId × FieldType)} {v : Int32} (hf : Fx p c cc nL s args m own) (hr : meth.sig.returnType = some .int) (hlocks : meth.locks = false) (hw : Wd dC dI A ws tys s H locs) (x : X) (hφ : φ v x) (isP isT : List Nat) (hp : isP.map (fun i => ws[i]?) = (w1 x).map some) (hn : va_nd isP = true) (ht : isT.filterMap (fun i => tys[i]?) = t1 x) (h1 : cells ≤ mc) (h2 : slots ≤ ms) (hdg : decode cc pc = .ok (.ireturn, 1)) :
    W p l e R s m args below meth c H locs cells slots (MQ below (va_Qi φ (fun x t => PW dC dI A (w1 x) (t1 x) t) A) args s mc ms A) (F0 m pc ls [.int v]) :=
  W.widen (k := mc) (n := ms) h1 h2 (W.iret hf.1 hf.2.1 hr (fun t h hW => ⟨⟨v, x, rfl, hφ, mPW hw isP isT hp hn ht h hW⟩, hw.2.2.2.1.F h⟩) hw.2.2.2.1.2.2 hdg hlocks)
theorem mret_z {X : Type} {φ : Int32 → X → Prop} {w1 : X → va_W} {t1 : X → List (ClassId × FieldType)} {v : Int32} (hf : Fx p c cc nL s args m own) (hr : meth.sig.returnType = some .boolean) (hlocks : meth.locks = false) (hz : narrow .boolean (.int v) = .int v) (hw : Wd dC dI A ws tys s H locs) (x : X) (hφ : φ v x) (isP isT : List Nat) (hp : isP.map (fun i => ws[i]?) = (w1 x).map some) (hn : va_nd isP = true) (ht : isT.filterMap (fun i => tys[i]?) = t1 x) (h1 : cells ≤ mc) (h2 : slots ≤ ms) (hdg : decode cc pc = .ok (.ireturn, 1)) :
    W p l e R s m args below meth c H locs cells slots (MQ below (va_Qi φ (fun x t => PW dC dI A (w1 x) (t1 x) t) A) args s mc ms A) (F0 m pc ls [.int v]) :=
  W.widen (k := mc) (n := ms) h1 h2 (W.zret hf.1 hf.2.1 hr hz (fun t h hW => ⟨⟨v, x, rfl, hφ, mPW hw isP isT hp hn ht h hW⟩, hw.2.2.2.1.F h⟩) hw.2.2.2.1.2.2 hdg hlocks)
end MAC4
/-- a method's body, from its entry -/
theorem mbody {l : Launch} {dC : Nat → ClassId} {dI : Nat → Nat → Nat} {y : MethodName} {b : ByteArray} {n : Nat} {ret : Option FieldType} {rm : Room} {av : List Value} {sz : Nat} {ws : va_W} {tys : List (ClassId × FieldType)} {Qc : (Nat → Prop) → Array Value → State → Outcome → State → Prop} {mc ms : Nat} (hy : plainName y.cls = true) (hav : (lg_sl av).length ≤ n)
    (body : ∀ (p : Program) (e : Env) (s : State) (m : MethodId) (below : List Frame) (meth : Method) (c : Code) (ls : Array Slot) (A : Nat → Prop) (H : Heap), Fx p c b n s av.toArray m y.cls → meth.sig.returnType = ret → meth.name = y.name → meth.locks = false → Wd dC dI A ws tys s H [] → lv_has ls n (lv_args 0 av) →
      W p l e rm s m av.toArray below meth c H [] 0 0 (MQ below (Qc A) av.toArray s mc ms A) (F0 m 0 ls [])) :
    Met l y (wsOf y b n ret) rm (va_Pc av (PB dC dI sz ws tys)) (Qc (va_A ws sz)) mc ms (va_A ws sz) := by
  refine Met.ofW (cc := b) (maxL := n) (ret := ret) hy rfl ?_
  intro p e s m args below meth c s₁ B hml hv
  obtain ⟨rfl, hsz, hP, hK, hD0, hN⟩ := hv
  have hts0 := atoms_spec (ws := wsOf y b n ret) B.pre
  have hts : ∀ w ∈ gtb, w.before av.toArray s = true := fun w hw => hts0 w (List.mem_cons_of_mem _ hw)
  subst hsz
  have hD := hD0.self (sz := s.heap.size)
  have hl := lv_entry av (n := n) hav
  rw [lg_entry_eq]
  exact body p e s m below meth c _ (va_A ws s.heap.size) s.heap ⟨B.exec, B.bytes, hml, findClass_of_methodNamed B.named, hts, hN⟩ B.returns (name_of_methodNamed B.named B.method).1 B.notSynchronized ⟨hK, hP, hD, va_S.rf, fun q h => Or.inr h⟩ hl
theorem hfs_of {ty0 : Nat → FieldType} {N : Nat} {fs : List Value} (h : (List.range N).map (fun j => defaultValue (ty0 j)) = fs) : ∀ j, j < N → defaultValue (ty0 j) = vp_V fs j := by
  intro j hj
  subst h
  simp [vp_V, hj]
theorem lt_app {K tl : List Value} {n k : Nat} (h : tl.length = n) (hk : k < K.length + n) : k < (K ++ tl).length := by rw [List.length_append, h]; exact hk
section MAC5
variable {p : Program} {l : Launch} {e : Env} {R : Room} {s : State} {m : MethodId} {args : Array Value} {below : List Frame} {meth : Method} {c : Code} {H : Heap} {locs : List Loc} {cells slots : Nat} {Q : State → Prop}
variable {cc : ByteArray} {pc : Nat} {ls : Array Slot} {dC : Nat → ClassId} {dI : Nat → Nat → Nat} {A : Nat → Prop} {tys : List (ClassId × FieldType)} {ws : va_W} {nL : Nat} {own : String} {a : Addr} {rest : List Value}
theorem mputT {C : String} {T : u_T} {N ci index nt j : Nat} {K tl : List Value} (hf : Fx p c cc nL s args m own) (hw : Wd dC dI A ws tys s H locs) (hin : ∀ w ∈ u_ws C T N, w ∈ gtb) (ty0 : Nat → FieldType) (hty : ∀ k, k < N → parseFieldDescriptor (T k).2.2.1 = some (ty0 k)) (hnm : ∀ a, a < N → ∀ b, b < N → a ≠ b → (T a).2.1 ≠ (T b).2.1) (q0 : Nat) (he : ws[q0]? = some (a, .inr (ci, K ++ tl))) (hc : classes[ci]? = some (C, T, N)) (k : Nat) (hk : k < N) (hlink : (Cond.fieldLink own index (T k).1 (T k).2.1 (T k).2.2.1) ∈ gtb) (hfin : (T k).2.2.2 = false) {v : Value} (hn : narrow (ty0 k) v = v) (hfit : fits (ty0 k) v = true) (htl : tl.length = nt) (hkj : K.length + j = k) (hj : j < nt) {ws' : List Value → va_W} (hw' : ∀ tl', ws.set q0 (a, .inr (ci, K ++ tl')) = ws' tl')
    (hdg : decode cc pc = .ok (.putfield index, 3)) (kk : ∀ tl' : List Value, tl'.length = nt → ∀ (H1 : Heap) (locs1 : List Loc), Wd dC dI A (ws' tl') tys s H1 locs1 → W p l e R s m args below meth c H1 locs1 cells slots Q (F0 m (pc + 3) ls rest)) : W p l e R s m args below meth c H locs cells slots Q (F0 m pc ls (v :: .ref a :: rest)) := by
  subst hkj
  have e1 : (K ++ tl).set (K.length + j) v = K ++ tl.set j v := by
    rw [List.set_append_right _ _ (by omega)]
    congr 2
    omega
  refine mput hf hw hin ty0 hty hnm q0 he hc (K.length + j) hk hlink hfin hn hfit (lt_app htl (by omega)) (by rw [e1]; exact hw' _) hdg (kk (tl.set j v) (by rw [List.length_set]; exact htl))
theorem mputFT {C : String} {T : u_T} {N ci index nt j : Nat} {K tl : List Value} (hf : Fx p c cc nL s args m own) (hin2 : meth.name = "<init>") (hw : Wd dC dI A ws tys s H locs) (hin : ∀ w ∈ u_ws C T N, w ∈ gtb) (ty0 : Nat → FieldType) (hty : ∀ k, k < N → parseFieldDescriptor (T k).2.2.1 = some (ty0 k)) (hnm : ∀ a, a < N → ∀ b, b < N → a ≠ b → (T a).2.1 ≠ (T b).2.1) (q0 : Nat) (he : ws[q0]? = some (a, .inr (ci, K ++ tl))) (hc : classes[ci]? = some (C, T, N)) (k : Nat) (hk : k < N) (hlink : (Cond.fieldLink own index (T k).1 (T k).2.1 (T k).2.2.1) ∈ gtb) (hfin : (T k).2.2.2 = true) (hdecl : (T k).1 = own) {v : Value} (hn : narrow (ty0 k) v = v) (hfit : fits (ty0 k) v = true) (htl : tl.length = nt) (hkj : K.length + j = k) (hj : j < nt) {ws' : List Value → va_W} (hw' : ∀ tl', ws.set q0 (a, .inr (ci, K ++ tl')) = ws' tl')
    (hdg : decode cc pc = .ok (.putfield index, 3)) (kk : ∀ tl' : List Value, tl'.length = nt → ∀ (H1 : Heap) (locs1 : List Loc), Wd dC dI A (ws' tl') tys s H1 locs1 → W p l e R s m args below meth c H1 locs1 cells slots Q (F0 m (pc + 3) ls rest)) : W p l e R s m args below meth c H locs cells slots Q (F0 m pc ls (v :: .ref a :: rest)) := by
  subst hkj
  have e1 : (K ++ tl).set (K.length + j) v = K ++ tl.set j v := by
    rw [List.set_append_right _ _ (by omega)]
    congr 2
    omega
  refine mputF hf hin2 hw hin ty0 hty hnm q0 he hc (K.length + j) hk hlink hfin hdecl hn hfit (lt_app htl (by omega)) (by rw [e1]; exact hw' _) hdg (kk (tl.set j v) (by rw [List.length_set]; exact htl))
end MAC5
end
section
theorem iX0 : ∀ w ∈ u_ws RX0 TX0 6, w ∈ gtb := gts_p [486, 488, 490, 492, 494, 496] (by decide +kernel) (by decide +kernel)
theorem iX1 : ∀ w ∈ u_ws RX1 TX1 13, w ∈ gtb := gts_p [588, 590, 592, 594, 596, 598, 600, 602, 604, 606, 608, 610, 612] (by decide +kernel) (by decide +kernel)
theorem iX2 : ∀ w ∈ u_ws RX2 TX2 15, w ∈ gtb := gts_p [523, 525, 527, 529, 531, 533, 535, 537, 539, 541, 543, 545, 547, 549, 551] (by decide +kernel) (by decide +kernel)
theorem iX3 : ∀ w ∈ u_ws RX3 TX3 8, w ∈ gtb := gts_p [273, 259, 261, 263, 265, 267, 269, 271] (by decide +kernel) (by decide +kernel)
theorem iX5 : ∀ w ∈ u_ws RX5 TX5 17, w ∈ gtb := gts_p [338, 340, 342, 356, 358, 360, 370, 344, 346, 348, 350, 352, 354, 362, 364, 366, 368] (by decide +kernel) (by decide +kernel)
theorem iX6 : ∀ w ∈ u_ws RX6 TX6 14, w ∈ gtb := gts_p [432, 434, 436, 438, 440, 454, 458, 442, 444, 446, 448, 450, 452, 456] (by decide +kernel) (by decide +kernel)
theorem iX7 : ∀ w ∈ u_ws RX7 TX7 20, w ∈ gtb := gts_p [638, 640, 642, 644, 646, 648, 650, 652, 654, 656, 658, 660, 662, 664, 666, 668, 670, 672, 674, 676] (by decide +kernel) (by decide +kernel)
theorem iX9 : ∀ w ∈ u_ws RX9 TX9 8, w ∈ gtb := gts_p [399, 401, 403, 405, 407, 409, 411, 413] (by decide +kernel) (by decide +kernel)
theorem iX10 : ∀ w ∈ u_ws RX10 TX10 13, w ∈ gtb := gts_p [692, 694, 698, 700, 702, 704, 706, 714, 716, 696, 708, 710, 712] (by decide +kernel) (by decide +kernel)
theorem iX11 : ∀ w ∈ u_ws RX11 TX11 129, w ∈ gtb := gts_p [1496, 1500, 1506, 1508, 1510, 1512, 1514, 1516, 1520, 1522, 1524, 1526, 1528, 1530, 1542, 1544, 1552, 1572, 1624, 1734, 1494, 1532, 1534, 1536, 1538, 1540, 1498, 1502, 1504, 1518, 1546, 1548, 1550, 1554, 1556, 1558, 1560, 1562, 1564, 1566, 1568, 1570, 1574, 1576, 1578, 1580, 1582, 1584, 1586, 1588, 1590, 1592, 1594, 1596, 1598, 1600, 1602, 1604, 1606, 1608, 1610, 1612, 1614, 1616, 1618, 1620, 1622, 1626, 1628, 1630, 1632, 1634, 1636, 1638, 1640, 1642, 1644, 1646, 1648, 1650, 1652, 1654, 1656, 1658, 1660, 1662, 1664, 1666, 1668, 1670, 1672, 1674, 1676, 1678, 1680, 1682, 1684, 1686, 1688, 1690, 1692, 1694, 1696, 1698, 1700, 1702, 1704, 1706, 1708, 1710, 1712, 1714, 1716, 1718, 1720, 1722, 1724, 1726, 1728, 1730, 1732, 1736, 1738, 1740, 1742, 1744, 1746, 1748, 1750] (by decide +kernel) (by decide +kernel)
end
section
theorem dX0_init_0 : decode cX0_init 0 = .ok (.aload_n 0, 1) := by decide +kernel
theorem dX0_init_1 : decode cX0_init 1 = .ok (.invokespecial 3, 3) := by decide +kernel
theorem dX0_init_4 : decode cX0_init 4 = .ok (.aload_n 0, 1) := by decide +kernel
theorem dX0_init_5 : decode cX0_init 5 = .ok (.sipush 3000, 3) := by decide +kernel
theorem dX0_init_8 : decode cX0_init 8 = .ok (.newarray .int, 2) := by decide +kernel
theorem dX0_init_10 : decode cX0_init 10 = .ok (.putfield 9, 3) := by decide +kernel
theorem dX0_init_13 : decode cX0_init 13 = .ok (.aload_n 0, 1) := by decide +kernel
theorem dX0_init_14 : decode cX0_init 14 = .ok (.sipush 3000, 3) := by decide +kernel
theorem dX0_init_17 : decode cX0_init 17 = .ok (.newarray .int, 2) := by decide +kernel
theorem dX0_init_19 : decode cX0_init 19 = .ok (.putfield 15, 3) := by decide +kernel
theorem dX0_init_22 : decode cX0_init 22 = .ok (.aload_n 0, 1) := by decide +kernel
theorem dX0_init_23 : decode cX0_init 23 = .ok (.sipush 3000, 3) := by decide +kernel
theorem dX0_init_26 : decode cX0_init 26 = .ok (.newarray .int, 2) := by decide +kernel
theorem dX0_init_28 : decode cX0_init 28 = .ok (.putfield 18, 3) := by decide +kernel
theorem dX0_init_31 : decode cX0_init 31 = .ok (.aload_n 0, 1) := by decide +kernel
theorem dX0_init_32 : decode cX0_init 32 = .ok (.sipush 3000, 3) := by decide +kernel
theorem dX0_init_35 : decode cX0_init 35 = .ok (.newarray .int, 2) := by decide +kernel
theorem dX0_init_37 : decode cX0_init 37 = .ok (.putfield 21, 3) := by decide +kernel
theorem dX0_init_40 : decode cX0_init 40 = .ok (.aload_n 0, 1) := by decide +kernel
theorem dX0_init_41 : decode cX0_init 41 = .ok (.sipush 3000, 3) := by decide +kernel
theorem dX0_init_44 : decode cX0_init 44 = .ok (.newarray .int, 2) := by decide +kernel
theorem dX0_init_46 : decode cX0_init 46 = .ok (.putfield 24, 3) := by decide +kernel
theorem dX0_init_49 : decode cX0_init 49 = .ok (.aload_n 0, 1) := by decide +kernel
theorem dX0_init_50 : decode cX0_init 50 = .ok (.iconst 0, 1) := by decide +kernel
theorem dX0_init_51 : decode cX0_init 51 = .ok (.putfield 27, 3) := by decide +kernel
theorem dX0_init_54 : decode cX0_init 54 = .ok (.return_, 1) := by decide +kernel
theorem dX1_init_0 : decode cX1_init 0 = .ok (.aload_n 0, 1) := by decide +kernel
theorem dX1_init_1 : decode cX1_init 1 = .ok (.invokespecial 3, 3) := by decide +kernel
theorem dX1_init_4 : decode cX1_init 4 = .ok (.aload_n 0, 1) := by decide +kernel
theorem dX1_init_5 : decode cX1_init 5 = .ok (.iconst 0, 1) := by decide +kernel
theorem dX1_init_6 : decode cX1_init 6 = .ok (.putfield 9, 3) := by decide +kernel
theorem dX1_init_9 : decode cX1_init 9 = .ok (.aload_n 0, 1) := by decide +kernel
theorem dX1_init_10 : decode cX1_init 10 = .ok (.iconst 0, 1) := by decide +kernel
theorem dX1_init_11 : decode cX1_init 11 = .ok (.putfield 15, 3) := by decide +kernel
theorem dX1_init_14 : decode cX1_init 14 = .ok (.aload_n 0, 1) := by decide +kernel
theorem dX1_init_15 : decode cX1_init 15 = .ok (.iconst 0, 1) := by decide +kernel
theorem dX1_init_16 : decode cX1_init 16 = .ok (.putfield 18, 3) := by decide +kernel
theorem dX1_init_19 : decode cX1_init 19 = .ok (.aload_n 0, 1) := by decide +kernel
theorem dX1_init_20 : decode cX1_init 20 = .ok (.sipush 1000, 3) := by decide +kernel
theorem dX1_init_23 : decode cX1_init 23 = .ok (.newarray .int, 2) := by decide +kernel
theorem dX1_init_25 : decode cX1_init 25 = .ok (.putfield 21, 3) := by decide +kernel
theorem dX1_init_28 : decode cX1_init 28 = .ok (.aload_n 0, 1) := by decide +kernel
theorem dX1_init_29 : decode cX1_init 29 = .ok (.sipush 1000, 3) := by decide +kernel
theorem dX1_init_32 : decode cX1_init 32 = .ok (.newarray .int, 2) := by decide +kernel
theorem dX1_init_34 : decode cX1_init 34 = .ok (.putfield 25, 3) := by decide +kernel
theorem dX1_init_37 : decode cX1_init 37 = .ok (.aload_n 0, 1) := by decide +kernel
theorem dX1_init_38 : decode cX1_init 38 = .ok (.sipush 4000, 3) := by decide +kernel
theorem dX1_init_41 : decode cX1_init 41 = .ok (.newarray .long, 2) := by decide +kernel
theorem dX1_init_43 : decode cX1_init 43 = .ok (.putfield 28, 3) := by decide +kernel
theorem dX1_init_46 : decode cX1_init 46 = .ok (.aload_n 0, 1) := by decide +kernel
theorem dX1_init_47 : decode cX1_init 47 = .ok (.sipush 1000, 3) := by decide +kernel
theorem dX1_init_50 : decode cX1_init 50 = .ok (.newarray .long, 2) := by decide +kernel
theorem dX1_init_52 : decode cX1_init 52 = .ok (.putfield 32, 3) := by decide +kernel
theorem dX1_init_55 : decode cX1_init 55 = .ok (.aload_n 0, 1) := by decide +kernel
theorem dX1_init_56 : decode cX1_init 56 = .ok (.sipush 1000, 3) := by decide +kernel
theorem dX1_init_59 : decode cX1_init 59 = .ok (.newarray .int, 2) := by decide +kernel
theorem dX1_init_61 : decode cX1_init 61 = .ok (.putfield 35, 3) := by decide +kernel
theorem dX1_init_64 : decode cX1_init 64 = .ok (.aload_n 0, 1) := by decide +kernel
theorem dX1_init_65 : decode cX1_init 65 = .ok (.sipush 1000, 3) := by decide +kernel
theorem dX1_init_68 : decode cX1_init 68 = .ok (.newarray .int, 2) := by decide +kernel
theorem dX1_init_70 : decode cX1_init 70 = .ok (.putfield 38, 3) := by decide +kernel
theorem dX1_init_73 : decode cX1_init 73 = .ok (.aload_n 0, 1) := by decide +kernel
theorem dX1_init_74 : decode cX1_init 74 = .ok (.sipush 1000, 3) := by decide +kernel
theorem dX1_init_77 : decode cX1_init 77 = .ok (.newarray .int, 2) := by decide +kernel
theorem dX1_init_79 : decode cX1_init 79 = .ok (.putfield 41, 3) := by decide +kernel
theorem dX1_init_82 : decode cX1_init 82 = .ok (.aload_n 0, 1) := by decide +kernel
theorem dX1_init_83 : decode cX1_init 83 = .ok (.sipush 1000, 3) := by decide +kernel
theorem dX1_init_86 : decode cX1_init 86 = .ok (.newarray .int, 2) := by decide +kernel
theorem dX1_init_88 : decode cX1_init 88 = .ok (.putfield 44, 3) := by decide +kernel
theorem dX1_init_91 : decode cX1_init 91 = .ok (.aload_n 0, 1) := by decide +kernel
theorem dX1_init_92 : decode cX1_init 92 = .ok (.sipush 1000, 3) := by decide +kernel
theorem dX1_init_95 : decode cX1_init 95 = .ok (.newarray .int, 2) := by decide +kernel
theorem dX1_init_97 : decode cX1_init 97 = .ok (.putfield 47, 3) := by decide +kernel
theorem dX1_init_100 : decode cX1_init 100 = .ok (.aload_n 0, 1) := by decide +kernel
theorem dX1_init_101 : decode cX1_init 101 = .ok (.sipush 1000, 3) := by decide +kernel
theorem dX1_init_104 : decode cX1_init 104 = .ok (.newarray .int, 2) := by decide +kernel
theorem dX1_init_106 : decode cX1_init 106 = .ok (.putfield 50, 3) := by decide +kernel
theorem dX1_init_109 : decode cX1_init 109 = .ok (.return_, 1) := by decide +kernel
theorem dX2_init_0 : decode cX2_init 0 = .ok (.aload_n 0, 1) := by decide +kernel
theorem dX2_init_1 : decode cX2_init 1 = .ok (.invokespecial 3, 3) := by decide +kernel
theorem dX2_init_4 : decode cX2_init 4 = .ok (.aload_n 0, 1) := by decide +kernel
theorem dX2_init_5 : decode cX2_init 5 = .ok (.aconst_null, 1) := by decide +kernel
theorem dX2_init_6 : decode cX2_init 6 = .ok (.putfield 9, 3) := by decide +kernel
theorem dX2_init_9 : decode cX2_init 9 = .ok (.aload_n 0, 1) := by decide +kernel
theorem dX2_init_10 : decode cX2_init 10 = .ok (.aconst_null, 1) := by decide +kernel
theorem dX2_init_11 : decode cX2_init 11 = .ok (.putfield 15, 3) := by decide +kernel
theorem dX2_init_14 : decode cX2_init 14 = .ok (.aload_n 0, 1) := by decide +kernel
theorem dX2_init_15 : decode cX2_init 15 = .ok (.aconst_null, 1) := by decide +kernel
theorem dX2_init_16 : decode cX2_init 16 = .ok (.putfield 19, 3) := by decide +kernel
theorem dX2_init_19 : decode cX2_init 19 = .ok (.aload_n 0, 1) := by decide +kernel
theorem dX2_init_20 : decode cX2_init 20 = .ok (.iconst 0, 1) := by decide +kernel
theorem dX2_init_21 : decode cX2_init 21 = .ok (.putfield 23, 3) := by decide +kernel
theorem dX2_init_24 : decode cX2_init 24 = .ok (.aload_n 0, 1) := by decide +kernel
theorem dX2_init_25 : decode cX2_init 25 = .ok (.iconst 0, 1) := by decide +kernel
theorem dX2_init_26 : decode cX2_init 26 = .ok (.putfield 27, 3) := by decide +kernel
theorem dX2_init_29 : decode cX2_init 29 = .ok (.aload_n 0, 1) := by decide +kernel
theorem dX2_init_30 : decode cX2_init 30 = .ok (.iconst (-1), 1) := by decide +kernel
theorem dX2_init_31 : decode cX2_init 31 = .ok (.putfield 30, 3) := by decide +kernel
theorem dX2_init_34 : decode cX2_init 34 = .ok (.aload_n 0, 1) := by decide +kernel
theorem dX2_init_35 : decode cX2_init 35 = .ok (.bipush 40, 2) := by decide +kernel
theorem dX2_init_37 : decode cX2_init 37 = .ok (.newarray .boolean, 2) := by decide +kernel
theorem dX2_init_39 : decode cX2_init 39 = .ok (.putfield 33, 3) := by decide +kernel
theorem dX2_init_42 : decode cX2_init 42 = .ok (.aload_n 0, 1) := by decide +kernel
theorem dX2_init_43 : decode cX2_init 43 = .ok (.sipush 160, 3) := by decide +kernel
theorem dX2_init_46 : decode cX2_init 46 = .ok (.newarray .int, 2) := by decide +kernel
theorem dX2_init_48 : decode cX2_init 48 = .ok (.putfield 37, 3) := by decide +kernel
theorem dX2_init_51 : decode cX2_init 51 = .ok (.aload_n 0, 1) := by decide +kernel
theorem dX2_init_52 : decode cX2_init 52 = .ok (.bipush 40, 2) := by decide +kernel
theorem dX2_init_54 : decode cX2_init 54 = .ok (.newarray .int, 2) := by decide +kernel
theorem dX2_init_56 : decode cX2_init 56 = .ok (.putfield 41, 3) := by decide +kernel
theorem dX2_init_59 : decode cX2_init 59 = .ok (.aload_n 0, 1) := by decide +kernel
theorem dX2_init_60 : decode cX2_init 60 = .ok (.bipush 40, 2) := by decide +kernel
theorem dX2_init_62 : decode cX2_init 62 = .ok (.newarray .int, 2) := by decide +kernel
theorem dX2_init_64 : decode cX2_init 64 = .ok (.putfield 44, 3) := by decide +kernel
theorem dX2_init_67 : decode cX2_init 67 = .ok (.aload_n 0, 1) := by decide +kernel
theorem dX2_init_68 : decode cX2_init 68 = .ok (.bipush 44, 2) := by decide +kernel
theorem dX2_init_70 : decode cX2_init 70 = .ok (.newarray .int, 2) := by decide +kernel
theorem dX2_init_72 : decode cX2_init 72 = .ok (.putfield 47, 3) := by decide +kernel
theorem dX2_init_75 : decode cX2_init 75 = .ok (.aload_n 0, 1) := by decide +kernel
theorem dX2_init_76 : decode cX2_init 76 = .ok (.sipush 3000, 3) := by decide +kernel
theorem dX2_init_79 : decode cX2_init 79 = .ok (.newarray .int, 2) := by decide +kernel
theorem dX2_init_81 : decode cX2_init 81 = .ok (.putfield 50, 3) := by decide +kernel
theorem dX2_init_84 : decode cX2_init 84 = .ok (.aload_n 0, 1) := by decide +kernel
theorem dX2_init_85 : decode cX2_init 85 = .ok (.sipush 3000, 3) := by decide +kernel
theorem dX2_init_88 : decode cX2_init 88 = .ok (.newarray .int, 2) := by decide +kernel
theorem dX2_init_90 : decode cX2_init 90 = .ok (.putfield 53, 3) := by decide +kernel
theorem dX2_init_93 : decode cX2_init 93 = .ok (.aload_n 0, 1) := by decide +kernel
theorem dX2_init_94 : decode cX2_init 94 = .ok (.sipush 3000, 3) := by decide +kernel
theorem dX2_init_97 : decode cX2_init 97 = .ok (.newarray .int, 2) := by decide +kernel
theorem dX2_init_99 : decode cX2_init 99 = .ok (.putfield 56, 3) := by decide +kernel
theorem dX2_init_102 : decode cX2_init 102 = .ok (.aload_n 0, 1) := by decide +kernel
theorem dX2_init_103 : decode cX2_init 103 = .ok (.iconst 0, 1) := by decide +kernel
theorem dX2_init_104 : decode cX2_init 104 = .ok (.putfield 59, 3) := by decide +kernel
theorem dX2_init_107 : decode cX2_init 107 = .ok (.return_, 1) := by decide +kernel
theorem dX7_init_0 : decode cX7_init 0 = .ok (.aload_n 0, 1) := by decide +kernel
theorem dX7_init_1 : decode cX7_init 1 = .ok (.invokespecial 3, 3) := by decide +kernel
theorem dX7_init_4 : decode cX7_init 4 = .ok (.aload_n 0, 1) := by decide +kernel
theorem dX7_init_5 : decode cX7_init 5 = .ok (.aconst_null, 1) := by decide +kernel
theorem dX7_init_6 : decode cX7_init 6 = .ok (.putfield 9, 3) := by decide +kernel
theorem dX7_init_9 : decode cX7_init 9 = .ok (.aload_n 0, 1) := by decide +kernel
theorem dX7_init_10 : decode cX7_init 10 = .ok (.new 15, 3) := by decide +kernel
theorem dX7_init_13 : decode cX7_init 13 = .ok (.dup, 1) := by decide +kernel
theorem dX7_init_14 : decode cX7_init 14 = .ok (.invokespecial 17, 3) := by decide +kernel
theorem dX7_init_17 : decode cX7_init 17 = .ok (.putfield 18, 3) := by decide +kernel
theorem dX7_init_20 : decode cX7_init 20 = .ok (.aload_n 0, 1) := by decide +kernel
theorem dX7_init_21 : decode cX7_init 21 = .ok (.aconst_null, 1) := by decide +kernel
theorem dX7_init_22 : decode cX7_init 22 = .ok (.putfield 22, 3) := by decide +kernel
theorem dX7_init_25 : decode cX7_init 25 = .ok (.aload_n 0, 1) := by decide +kernel
theorem dX7_init_26 : decode cX7_init 26 = .ok (.iconst 0, 1) := by decide +kernel
theorem dX7_init_27 : decode cX7_init 27 = .ok (.putfield 26, 3) := by decide +kernel
theorem dX7_init_30 : decode cX7_init 30 = .ok (.aload_n 0, 1) := by decide +kernel
theorem dX7_init_31 : decode cX7_init 31 = .ok (.iconst 0, 1) := by decide +kernel
theorem dX7_init_32 : decode cX7_init 32 = .ok (.putfield 30, 3) := by decide +kernel
theorem dX7_init_35 : decode cX7_init 35 = .ok (.aload_n 0, 1) := by decide +kernel
theorem dX7_init_36 : decode cX7_init 36 = .ok (.iconst 0, 1) := by decide +kernel
theorem dX7_init_37 : decode cX7_init 37 = .ok (.putfield 33, 3) := by decide +kernel
theorem dX7_init_40 : decode cX7_init 40 = .ok (.aload_n 0, 1) := by decide +kernel
theorem dX7_init_41 : decode cX7_init 41 = .ok (.iconst (-1), 1) := by decide +kernel
theorem dX7_init_42 : decode cX7_init 42 = .ok (.putfield 37, 3) := by decide +kernel
theorem dX7_init_45 : decode cX7_init 45 = .ok (.aload_n 0, 1) := by decide +kernel
theorem dX7_init_46 : decode cX7_init 46 = .ok (.iconst (-1), 1) := by decide +kernel
theorem dX7_init_47 : decode cX7_init 47 = .ok (.putfield 40, 3) := by decide +kernel
theorem dX7_init_50 : decode cX7_init 50 = .ok (.aload_n 0, 1) := by decide +kernel
theorem dX7_init_51 : decode cX7_init 51 = .ok (.iconst 0, 1) := by decide +kernel
theorem dX7_init_52 : decode cX7_init 52 = .ok (.putfield 43, 3) := by decide +kernel
theorem dX7_init_55 : decode cX7_init 55 = .ok (.aload_n 0, 1) := by decide +kernel
theorem dX7_init_56 : decode cX7_init 56 = .ok (.iconst 0, 1) := by decide +kernel
theorem dX7_init_57 : decode cX7_init 57 = .ok (.putfield 46, 3) := by decide +kernel
theorem dX7_init_60 : decode cX7_init 60 = .ok (.aload_n 0, 1) := by decide +kernel
theorem dX7_init_61 : decode cX7_init 61 = .ok (.iconst 0, 1) := by decide +kernel
theorem dX7_init_62 : decode cX7_init 62 = .ok (.putfield 49, 3) := by decide +kernel
theorem dX7_init_65 : decode cX7_init 65 = .ok (.aload_n 0, 1) := by decide +kernel
theorem dX7_init_66 : decode cX7_init 66 = .ok (.iconst 0, 1) := by decide +kernel
theorem dX7_init_67 : decode cX7_init 67 = .ok (.putfield 52, 3) := by decide +kernel
theorem dX7_init_70 : decode cX7_init 70 = .ok (.aload_n 0, 1) := by decide +kernel
theorem dX7_init_71 : decode cX7_init 71 = .ok (.bipush 100, 2) := by decide +kernel
theorem dX7_init_73 : decode cX7_init 73 = .ok (.newarray .int, 2) := by decide +kernel
theorem dX7_init_75 : decode cX7_init 75 = .ok (.putfield 55, 3) := by decide +kernel
theorem dX7_init_78 : decode cX7_init 78 = .ok (.aload_n 0, 1) := by decide +kernel
theorem dX7_init_79 : decode cX7_init 79 = .ok (.sipush 4400, 3) := by decide +kernel
theorem dX7_init_82 : decode cX7_init 82 = .ok (.newarray .long, 2) := by decide +kernel
theorem dX7_init_84 : decode cX7_init 84 = .ok (.putfield 59, 3) := by decide +kernel
theorem dX7_init_87 : decode cX7_init 87 = .ok (.aload_n 0, 1) := by decide +kernel
theorem dX7_init_88 : decode cX7_init 88 = .ok (.sipush 20002, 3) := by decide +kernel
theorem dX7_init_91 : decode cX7_init 91 = .ok (.newarray .long, 2) := by decide +kernel
theorem dX7_init_93 : decode cX7_init 93 = .ok (.putfield 63, 3) := by decide +kernel
theorem dX7_init_96 : decode cX7_init 96 = .ok (.aload_n 0, 1) := by decide +kernel
theorem dX7_init_97 : decode cX7_init 97 = .ok (.iconst 0, 1) := by decide +kernel
theorem dX7_init_98 : decode cX7_init 98 = .ok (.putfield 66, 3) := by decide +kernel
theorem dX7_init_101 : decode cX7_init 101 = .ok (.aload_n 0, 1) := by decide +kernel
theorem dX7_init_102 : decode cX7_init 102 = .ok (.bipush 20, 2) := by decide +kernel
theorem dX7_init_104 : decode cX7_init 104 = .ok (.newarray .int, 2) := by decide +kernel
theorem dX7_init_106 : decode cX7_init 106 = .ok (.putfield 69, 3) := by decide +kernel
theorem dX7_init_109 : decode cX7_init 109 = .ok (.aload_n 0, 1) := by decide +kernel
theorem dX7_init_110 : decode cX7_init 110 = .ok (.sipush 200, 3) := by decide +kernel
theorem dX7_init_113 : decode cX7_init 113 = .ok (.newarray .int, 2) := by decide +kernel
theorem dX7_init_115 : decode cX7_init 115 = .ok (.putfield 72, 3) := by decide +kernel
theorem dX7_init_118 : decode cX7_init 118 = .ok (.aload_n 0, 1) := by decide +kernel
theorem dX7_init_119 : decode cX7_init 119 = .ok (.iconst 0, 1) := by decide +kernel
theorem dX7_init_120 : decode cX7_init 120 = .ok (.putfield 75, 3) := by decide +kernel
theorem dX7_init_123 : decode cX7_init 123 = .ok (.aload_n 0, 1) := by decide +kernel
theorem dX7_init_124 : decode cX7_init 124 = .ok (.sipush 1600, 3) := by decide +kernel
theorem dX7_init_127 : decode cX7_init 127 = .ok (.newarray .int, 2) := by decide +kernel
theorem dX7_init_129 : decode cX7_init 129 = .ok (.putfield 78, 3) := by decide +kernel
theorem dX7_init_132 : decode cX7_init 132 = .ok (.return_, 1) := by decide +kernel
theorem dX9_init_0 : decode cX9_init 0 = .ok (.aload_n 0, 1) := by decide +kernel
theorem dX9_init_1 : decode cX9_init 1 = .ok (.invokespecial 3, 3) := by decide +kernel
theorem dX9_init_4 : decode cX9_init 4 = .ok (.aload_n 0, 1) := by decide +kernel
theorem dX9_init_5 : decode cX9_init 5 = .ok (.iconst 0, 1) := by decide +kernel
theorem dX9_init_6 : decode cX9_init 6 = .ok (.newarray .byte, 2) := by decide +kernel
theorem dX9_init_8 : decode cX9_init 8 = .ok (.putfield 9, 3) := by decide +kernel
theorem dX9_init_11 : decode cX9_init 11 = .ok (.aload_n 0, 1) := by decide +kernel
theorem dX9_init_12 : decode cX9_init 12 = .ok (.iconst 0, 1) := by decide +kernel
theorem dX9_init_13 : decode cX9_init 13 = .ok (.putfield 15, 3) := by decide +kernel
theorem dX9_init_16 : decode cX9_init 16 = .ok (.aload_n 0, 1) := by decide +kernel
theorem dX9_init_17 : decode cX9_init 17 = .ok (.iconst 0, 1) := by decide +kernel
theorem dX9_init_18 : decode cX9_init 18 = .ok (.putfield 19, 3) := by decide +kernel
theorem dX9_init_21 : decode cX9_init 21 = .ok (.aload_n 0, 1) := by decide +kernel
theorem dX9_init_22 : decode cX9_init 22 = .ok (.sipush 257, 3) := by decide +kernel
theorem dX9_init_25 : decode cX9_init 25 = .ok (.putfield 24, 3) := by decide +kernel
theorem dX9_init_28 : decode cX9_init 28 = .ok (.aload_n 0, 1) := by decide +kernel
theorem dX9_init_29 : decode cX9_init 29 = .ok (.iconst 0, 1) := by decide +kernel
theorem dX9_init_30 : decode cX9_init 30 = .ok (.putfield 27, 3) := by decide +kernel
theorem dX9_init_33 : decode cX9_init 33 = .ok (.aload_n 0, 1) := by decide +kernel
theorem dX9_init_34 : decode cX9_init 34 = .ok (.lconst 0, 1) := by decide +kernel
theorem dX9_init_35 : decode cX9_init 35 = .ok (.putfield 30, 3) := by decide +kernel
theorem dX9_init_38 : decode cX9_init 38 = .ok (.aload_n 0, 1) := by decide +kernel
theorem dX9_init_39 : decode cX9_init 39 = .ok (.iconst 0, 1) := by decide +kernel
theorem dX9_init_40 : decode cX9_init 40 = .ok (.putfield 34, 3) := by decide +kernel
theorem dX9_init_43 : decode cX9_init 43 = .ok (.aload_n 0, 1) := by decide +kernel
theorem dX9_init_44 : decode cX9_init 44 = .ok (.lconst 0, 1) := by decide +kernel
theorem dX9_init_45 : decode cX9_init 45 = .ok (.putfield 37, 3) := by decide +kernel
theorem dX9_init_48 : decode cX9_init 48 = .ok (.return_, 1) := by decide +kernel
theorem k196 : Cond.initialized "BlameCourt$Heap" ∈ gtb := gtm (in_tables_1_1 (List.mem_of_getElem? (i := 10) rfl)) rfl
theorem k206 : Cond.instanceMethod objectInit ∈ gtb := gtm (in_tables_1_1 (List.mem_of_getElem? (i := 20) rfl)) rfl
theorem k207 : Cond.code objectInit ⟨#[0xb1]⟩ 1 none ∈ gtb := gtm (in_tables_1_1 (List.mem_of_getElem? (i := 21) rfl)) rfl
theorem k276 : Cond.arrayClass .byte ∈ gtb := gtm (in_tables_1_1 (List.mem_of_getElem? (i := 90) rfl)) rfl
theorem k277 : Cond.arrayClass .int ∈ gtb := gtm (in_tables_1_1 (List.mem_of_getElem? (i := 91) rfl)) rfl
theorem k278 : Cond.arrayClass .boolean ∈ gtb := gtm (in_tables_1_1 (List.mem_of_getElem? (i := 92) rfl)) rfl
theorem k373 : Cond.arrayClass .long ∈ gtb := gtm (in_tables_1_1 (List.mem_of_getElem? (i := 187) rfl)) rfl
theorem k385 : Cond.methodLink "BlameCourt$Tokens" 3 objectInit ∈ gtb := gtm (in_tables_1_1 (List.mem_of_getElem? (i := 199) rfl)) rfl
theorem k386 : Cond.fieldLink "BlameCourt$Tokens" 9 "BlameCourt$Tokens" "text" "[B" ∈ gtb := gtm (in_tables_1_1 (List.mem_of_getElem? (i := 200) rfl)) rfl
theorem k387 : Cond.fieldLink "BlameCourt$Tokens" 15 "BlameCourt$Tokens" "length" "I" ∈ gtb := gtm (in_tables_1_1 (List.mem_of_getElem? (i := 201) rfl)) rfl
theorem k388 : Cond.fieldLink "BlameCourt$Tokens" 19 "BlameCourt$Tokens" "next" "I" ∈ gtb := gtm (in_tables_1_1 (List.mem_of_getElem? (i := 202) rfl)) rfl
theorem k389 : Cond.fieldLink "BlameCourt$Tokens" 24 "BlameCourt$Tokens" "type" "I" ∈ gtb := gtm (in_tables_1_1 (List.mem_of_getElem? (i := 203) rfl)) rfl
theorem k391 : Cond.fieldLink "BlameCourt$Tokens" 27 "BlameCourt$Tokens" "place" "I" ∈ gtb := gtm (in_tables_1_1 (List.mem_of_getElem? (i := 205) rfl)) rfl
theorem k393 : Cond.fieldLink "BlameCourt$Tokens" 30 "BlameCourt$Tokens" "letters" "J" ∈ gtb := gtm (in_tables_1_1 (List.mem_of_getElem? (i := 207) rfl)) rfl
theorem k395 : Cond.fieldLink "BlameCourt$Tokens" 34 "BlameCourt$Tokens" "letterCount" "I" ∈ gtb := gtm (in_tables_1_1 (List.mem_of_getElem? (i := 209) rfl)) rfl
theorem k397 : Cond.fieldLink "BlameCourt$Tokens" 37 "BlameCourt$Tokens" "numbe\x72" "J" ∈ gtb := gtm (in_tables_1_1 (List.mem_of_getElem? (i := 211) rfl)) rfl
theorem k466 : Cond.methodLink "BlameCourt$Guards" 3 objectInit ∈ gtb := gtm (in_tables_1_2 (List.mem_of_getElem? (i := 40) rfl)) rfl
theorem k467 : Cond.fieldLink "BlameCourt$Guards" 9 "BlameCourt$Guards" "place" "[I" ∈ gtb := gtm (in_tables_1_2 (List.mem_of_getElem? (i := 41) rfl)) rfl
theorem k470 : Cond.fieldLink "BlameCourt$Guards" 15 "BlameCourt$Guards" "give\x72" "[I" ∈ gtb := gtm (in_tables_1_2 (List.mem_of_getElem? (i := 44) rfl)) rfl
theorem k473 : Cond.fieldLink "BlameCourt$Guards" 18 "BlameCourt$Guards" "take\x72" "[I" ∈ gtb := gtm (in_tables_1_2 (List.mem_of_getElem? (i := 47) rfl)) rfl
theorem k476 : Cond.fieldLink "BlameCourt$Guards" 21 "BlameCourt$Guards" "from" "[I" ∈ gtb := gtm (in_tables_1_2 (List.mem_of_getElem? (i := 50) rfl)) rfl
theorem k479 : Cond.fieldLink "BlameCourt$Guards" 24 "BlameCourt$Guards" "to" "[I" ∈ gtb := gtm (in_tables_1_2 (List.mem_of_getElem? (i := 53) rfl)) rfl
theorem k482 : Cond.fieldLink "BlameCourt$Guards" 27 "BlameCourt$Guards" "count" "I" ∈ gtb := gtm (in_tables_1_2 (List.mem_of_getElem? (i := 56) rfl)) rfl
theorem k504 : Cond.methodLink "BlameCourt$Judging" 3 objectInit ∈ gtb := gtm (in_tables_1_2 (List.mem_of_getElem? (i := 78) rfl)) rfl
theorem k505 : Cond.fieldLink "BlameCourt$Judging" 9 "BlameCourt$Judging" "guards" "LBlameCourt$Guards;" ∈ gtb := gtm (in_tables_1_2 (List.mem_of_getElem? (i := 79) rfl)) rfl
theorem k506 : Cond.fieldLink "BlameCourt$Judging" 15 "BlameCourt$Judging" "program" "LBlameCourt$Program;" ∈ gtb := gtm (in_tables_1_2 (List.mem_of_getElem? (i := 80) rfl)) rfl
theorem k507 : Cond.fieldLink "BlameCourt$Judging" 19 "BlameCourt$Judging" "kinds" "LBlameCourt$Kinds;" ∈ gtb := gtm (in_tables_1_2 (List.mem_of_getElem? (i := 81) rfl)) rfl
theorem k508 : Cond.fieldLink "BlameCourt$Judging" 23 "BlameCourt$Judging" "inPart" "I" ∈ gtb := gtm (in_tables_1_2 (List.mem_of_getElem? (i := 82) rfl)) rfl
theorem k509 : Cond.fieldLink "BlameCourt$Judging" 27 "BlameCourt$Judging" "fault" "I" ∈ gtb := gtm (in_tables_1_2 (List.mem_of_getElem? (i := 83) rfl)) rfl
theorem k511 : Cond.fieldLink "BlameCourt$Judging" 30 "BlameCourt$Judging" "faultPlace" "I" ∈ gtb := gtm (in_tables_1_2 (List.mem_of_getElem? (i := 85) rfl)) rfl
theorem k513 : Cond.fieldLink "BlameCourt$Judging" 33 "BlameCourt$Judging" "anyStands" "[Z" ∈ gtb := gtm (in_tables_1_2 (List.mem_of_getElem? (i := 87) rfl)) rfl
theorem k515 : Cond.fieldLink "BlameCourt$Judging" 37 "BlameCourt$Judging" "paramKind" "[I" ∈ gtb := gtm (in_tables_1_2 (List.mem_of_getElem? (i := 89) rfl)) rfl
theorem k516 : Cond.fieldLink "BlameCourt$Judging" 41 "BlameCourt$Judging" "ownKind" "[I" ∈ gtb := gtm (in_tables_1_2 (List.mem_of_getElem? (i := 90) rfl)) rfl
theorem k517 : Cond.fieldLink "BlameCourt$Judging" 44 "BlameCourt$Judging" "partKind" "[I" ∈ gtb := gtm (in_tables_1_2 (List.mem_of_getElem? (i := 91) rfl)) rfl
theorem k518 : Cond.fieldLink "BlameCourt$Judging" 47 "BlameCourt$Judging" "localKind" "[I" ∈ gtb := gtm (in_tables_1_2 (List.mem_of_getElem? (i := 92) rfl)) rfl
theorem k519 : Cond.fieldLink "BlameCourt$Judging" 50 "BlameCourt$Judging" "stack" "[I" ∈ gtb := gtm (in_tables_1_2 (List.mem_of_getElem? (i := 93) rfl)) rfl
theorem k520 : Cond.fieldLink "BlameCourt$Judging" 53 "BlameCourt$Judging" "askedAt" "[I" ∈ gtb := gtm (in_tables_1_2 (List.mem_of_getElem? (i := 94) rfl)) rfl
theorem k521 : Cond.fieldLink "BlameCourt$Judging" 56 "BlameCourt$Judging" "takerOf" "[I" ∈ gtb := gtm (in_tables_1_2 (List.mem_of_getElem? (i := 95) rfl)) rfl
theorem k522 : Cond.fieldLink "BlameCourt$Judging" 59 "BlameCourt$Judging" "top" "I" ∈ gtb := gtm (in_tables_1_2 (List.mem_of_getElem? (i := 96) rfl)) rfl
theorem k559 : Cond.methodLink "BlameCourt$Running" 3 objectInit ∈ gtb := gtm (in_tables_1_2 (List.mem_of_getElem? (i := 133) rfl)) rfl
theorem k560 : Cond.classLink "BlameCourt$Running" 15 "BlameCourt$Heap" ∈ gtb := gtm (in_tables_1_2 (List.mem_of_getElem? (i := 134) rfl)) rfl
theorem k561 : Cond.instantiable "BlameCourt$Heap" 13 ∈ gtb := gtm (in_tables_1_2 (List.mem_of_getElem? (i := 135) rfl)) rfl
theorem k563 : Cond.instanceMethod yX1_init ∈ gtb := gtm (in_tables_1_2 (List.mem_of_getElem? (i := 137) rfl)) rfl
theorem k565 : Cond.methodLink "BlameCourt$Heap" 3 objectInit ∈ gtb := gtm (in_tables_1_2 (List.mem_of_getElem? (i := 139) rfl)) rfl
theorem k566 : Cond.fieldLink "BlameCourt$Heap" 9 "BlameCourt$Heap" "rows" "I" ∈ gtb := gtm (in_tables_1_2 (List.mem_of_getElem? (i := 140) rfl)) rfl
theorem k568 : Cond.fieldLink "BlameCourt$Heap" 15 "BlameCourt$Heap" "places" "I" ∈ gtb := gtm (in_tables_1_2 (List.mem_of_getElem? (i := 142) rfl)) rfl
theorem k569 : Cond.fieldLink "BlameCourt$Heap" 18 "BlameCourt$Heap" "wrappings" "I" ∈ gtb := gtm (in_tables_1_2 (List.mem_of_getElem? (i := 143) rfl)) rfl
theorem k571 : Cond.fieldLink "BlameCourt$Heap" 21 "BlameCourt$Heap" "rowFrom" "[I" ∈ gtb := gtm (in_tables_1_2 (List.mem_of_getElem? (i := 145) rfl)) rfl
theorem k572 : Cond.fieldLink "BlameCourt$Heap" 25 "BlameCourt$Heap" "rowLength" "[I" ∈ gtb := gtm (in_tables_1_2 (List.mem_of_getElem? (i := 146) rfl)) rfl
theorem k573 : Cond.fieldLink "BlameCourt$Heap" 28 "BlameCourt$Heap" "cell" "[J" ∈ gtb := gtm (in_tables_1_2 (List.mem_of_getElem? (i := 147) rfl)) rfl
theorem k574 : Cond.fieldLink "BlameCourt$Heap" 32 "BlameCourt$Heap" "within" "[J" ∈ gtb := gtm (in_tables_1_2 (List.mem_of_getElem? (i := 148) rfl)) rfl
theorem k576 : Cond.fieldLink "BlameCourt$Heap" 35 "BlameCourt$Heap" "from" "[I" ∈ gtb := gtm (in_tables_1_2 (List.mem_of_getElem? (i := 150) rfl)) rfl
theorem k578 : Cond.fieldLink "BlameCourt$Heap" 38 "BlameCourt$Heap" "to" "[I" ∈ gtb := gtm (in_tables_1_2 (List.mem_of_getElem? (i := 152) rfl)) rfl
theorem k580 : Cond.fieldLink "BlameCourt$Heap" 41 "BlameCourt$Heap" "give\x72" "[I" ∈ gtb := gtm (in_tables_1_2 (List.mem_of_getElem? (i := 154) rfl)) rfl
theorem k582 : Cond.fieldLink "BlameCourt$Heap" 44 "BlameCourt$Heap" "take\x72" "[I" ∈ gtb := gtm (in_tables_1_2 (List.mem_of_getElem? (i := 156) rfl)) rfl
theorem k584 : Cond.fieldLink "BlameCourt$Heap" 47 "BlameCourt$Heap" "place" "[I" ∈ gtb := gtm (in_tables_1_2 (List.mem_of_getElem? (i := 158) rfl)) rfl
theorem k586 : Cond.fieldLink "BlameCourt$Heap" 50 "BlameCourt$Heap" "around" "[I" ∈ gtb := gtm (in_tables_1_2 (List.mem_of_getElem? (i := 160) rfl)) rfl
theorem k615 : Cond.fieldLink "BlameCourt$Running" 9 "BlameCourt$Running" "guards" "LBlameCourt$Guards;" ∈ gtb := gtm (in_tables_1_2 (List.mem_of_getElem? (i := 189) rfl)) rfl
theorem k616 : Cond.fieldLink "BlameCourt$Running" 18 "BlameCourt$Running" "heap" "LBlameCourt$Heap;" ∈ gtb := gtm (in_tables_1_2 (List.mem_of_getElem? (i := 190) rfl)) rfl
theorem k617 : Cond.fieldLink "BlameCourt$Running" 22 "BlameCourt$Running" "program" "LBlameCourt$Program;" ∈ gtb := gtm (in_tables_1_2 (List.mem_of_getElem? (i := 191) rfl)) rfl
theorem k618 : Cond.fieldLink "BlameCourt$Running" 26 "BlameCourt$Running" "guarded" "Z" ∈ gtb := gtm (in_tables_1_2 (List.mem_of_getElem? (i := 192) rfl)) rfl
theorem k619 : Cond.fieldLink "BlameCourt$Running" 30 "BlameCourt$Running" "going" "Z" ∈ gtb := gtm (in_tables_1_2 (List.mem_of_getElem? (i := 193) rfl)) rfl
theorem k620 : Cond.fieldLink "BlameCourt$Running" 33 "BlameCourt$Running" "ended" "I" ∈ gtb := gtm (in_tables_1_2 (List.mem_of_getElem? (i := 194) rfl)) rfl
theorem k621 : Cond.fieldLink "BlameCourt$Running" 37 "BlameCourt$Running" "endPlace" "I" ∈ gtb := gtm (in_tables_1_2 (List.mem_of_getElem? (i := 195) rfl)) rfl
theorem k622 : Cond.fieldLink "BlameCourt$Running" 40 "BlameCourt$Running" "blamed" "I" ∈ gtb := gtm (in_tables_1_2 (List.mem_of_getElem? (i := 196) rfl)) rfl
theorem k623 : Cond.fieldLink "BlameCourt$Running" 43 "BlameCourt$Running" "fuel" "I" ∈ gtb := gtm (in_tables_1_2 (List.mem_of_getElem? (i := 197) rfl)) rfl
theorem k624 : Cond.fieldLink "BlameCourt$Running" 46 "BlameCourt$Running" "steps" "I" ∈ gtb := gtm (in_tables_1_2 (List.mem_of_getElem? (i := 198) rfl)) rfl
theorem k625 : Cond.fieldLink "BlameCourt$Running" 49 "BlameCourt$Running" "pc" "I" ∈ gtb := gtm (in_tables_1_2 (List.mem_of_getElem? (i := 199) rfl)) rfl
theorem k626 : Cond.fieldLink "BlameCourt$Running" 52 "BlameCourt$Running" "calls" "I" ∈ gtb := gtm (in_tables_1_2 (List.mem_of_getElem? (i := 200) rfl)) rfl
theorem k627 : Cond.fieldLink "BlameCourt$Running" 55 "BlameCourt$Running" "returnTo" "[I" ∈ gtb := gtm (in_tables_1_2 (List.mem_of_getElem? (i := 201) rfl)) rfl
theorem k628 : Cond.fieldLink "BlameCourt$Running" 59 "BlameCourt$Running" "local" "[J" ∈ gtb := gtm (in_tables_1_2 (List.mem_of_getElem? (i := 202) rfl)) rfl
theorem k629 : Cond.fieldLink "BlameCourt$Running" 63 "BlameCourt$Running" "stack" "[J" ∈ gtb := gtm (in_tables_1_2 (List.mem_of_getElem? (i := 203) rfl)) rfl
theorem k630 : Cond.fieldLink "BlameCourt$Running" 66 "BlameCourt$Running" "top" "I" ∈ gtb := gtm (in_tables_1_2 (List.mem_of_getElem? (i := 204) rfl)) rfl
theorem k631 : Cond.fieldLink "BlameCourt$Running" 69 "BlameCourt$Running" "wrapping" "[I" ∈ gtb := gtm (in_tables_1_2 (List.mem_of_getElem? (i := 205) rfl)) rfl
theorem k632 : Cond.fieldLink "BlameCourt$Running" 72 "BlameCourt$Running" "outNumbers" "[I" ∈ gtb := gtm (in_tables_1_2 (List.mem_of_getElem? (i := 206) rfl)) rfl
theorem k634 : Cond.fieldLink "BlameCourt$Running" 75 "BlameCourt$Running" "outs" "I" ∈ gtb := gtm (in_tables_1_2 (List.mem_of_getElem? (i := 208) rfl)) rfl
theorem k636 : Cond.fieldLink "BlameCourt$Running" 78 "BlameCourt$Running" "askings" "[I" ∈ gtb := gtm (in_tables_1_2 (List.mem_of_getElem? (i := 210) rfl)) rfl
theorem n562 : Cond.methodLinkNest "BlameCourt$Running" 17 yX1_init "BlameCourt" ∈ lw_tbl := in_tables_1_2 (List.mem_of_getElem? (i := 136) rfl)
theorem k465 : Cond.code yX0_init cX0_init 1 none ∈ gtb := gtm (in_tables_1_2 (List.mem_of_getElem? (i := 39) rfl)) rfl
theorem k193 : Cond.initialized "BlameCourt$Guards" ∈ gtb := gtm (in_tables_1_1 (List.mem_of_getElem? (i := 7) rfl)) rfl
theorem ka_X0_init : KA yX0_init cX0_init 1 none 0 := ⟨k465, k193, by decide, by decide, by decide +kernel⟩
theorem k564 : Cond.code yX1_init cX1_init 1 none ∈ gtb := gtm (in_tables_1_2 (List.mem_of_getElem? (i := 138) rfl)) rfl
theorem ka_X1_init : KA yX1_init cX1_init 1 none 0 := ⟨k564, k196, by decide, by decide, by decide +kernel⟩
theorem k503 : Cond.code yX2_init cX2_init 1 none ∈ gtb := gtm (in_tables_1_2 (List.mem_of_getElem? (i := 77) rfl)) rfl
theorem k194 : Cond.initialized "BlameCourt$Judging" ∈ gtb := gtm (in_tables_1_1 (List.mem_of_getElem? (i := 8) rfl)) rfl
theorem ka_X2_init : KA yX2_init cX2_init 1 none 0 := ⟨k503, k194, by decide, by decide, by decide +kernel⟩
theorem k558 : Cond.code yX7_init cX7_init 1 none ∈ gtb := gtm (in_tables_1_2 (List.mem_of_getElem? (i := 132) rfl)) rfl
theorem k195 : Cond.initialized "BlameCourt$Running" ∈ gtb := gtm (in_tables_1_1 (List.mem_of_getElem? (i := 9) rfl)) rfl
theorem ka_X7_init : KA yX7_init cX7_init 1 none 0 := ⟨k558, k195, by decide, by decide, by decide +kernel⟩
theorem k384 : Cond.code yX9_init cX9_init 1 none ∈ gtb := gtm (in_tables_1_1 (List.mem_of_getElem? (i := 198) rfl)) rfl
theorem k192 : Cond.initialized "BlameCourt$Tokens" ∈ gtb := gtm (in_tables_1_1 (List.mem_of_getElem? (i := 6) rfl)) rfl
theorem ka_X9_init : KA yX9_init cX9_init 1 none 0 := ⟨k384, k192, by decide, by decide, by decide +kernel⟩
set_option maxHeartbeats 4000000 in
set_option maxRecDepth 100000 in
/-- BlameCourt.Guards(): nothing of it is kept -/
theorem c_Guards_init (l : Launch) (dC : Nat → ClassId) (dI : Nat → Nat → Nat) (h0 : Nat) (tl : List Value) (sz : Nat) (htl : tl.length = 6) : Met l yX0_init (wsOf yX0_init cX0_init 1 none) ({ frames := 6, cells := 5, slots := 15000, locals := 90 } : Room) (va_Pc [.ref h0] (PB dC dI sz [(h0, .inr (0, tl))] [])) (va_Qv (S := Unit) (fun _ => True) (fun x t => PW dC dI (va_A [(h0, .inr (0, tl))] sz) ([]) ([]) t) (va_A [(h0, .inr (0, tl))] sz)) 5 15000 (va_A [(h0, .inr (0, tl))] sz) := by
  refine mbody (b := cX0_init) (n := 1) (ret := none) (Qc := fun A => (va_Qv (S := Unit) (fun _ => True) (fun x t => PW dC dI A ([]) ([]) t) A)) (by decide) (Nat.le_of_ble_eq_true rfl) ?_
  intro p e s m below meth c ls A H hf hr hin hlk hw hl
  have hl : lv_has ls 1 [(0, .ref h0)] := hl
  refine lv_aload_n hf.1 hf.2.1 dX0_init_0 rfl (lv_at hl 0 rfl) ?_
  refine mobj hf hl.1 k466 k206 k207 dX0_init_1 (Nat.le_of_ble_eq_true rfl) (Nat.le_of_ble_eq_true rfl) ?_
  refine lv_aload_n hf.1 hf.2.1 dX0_init_4 rfl (lv_at hl 0 rfl) ?_
  refine lv_sipush (v := 3000) hf.1 hf.2.1 dX0_init_5 (by decide) ?_
  refine mnewaD hf hw (atype := .int) (ty := .int) (a0 := (3000, .inl (fun _ => 0))) k277 rfl (fun _ => rfl) (by decide) rfl (Nat.le_of_ble_eq_true rfl) (ce := 1) (sl := 3000) rfl rfl (Nat.le_of_ble_eq_true rfl) (Nat.le_of_ble_eq_true rfl) dX0_init_8 (fun q_1 H hw => ?_)
  refine mputFT (K := []) (j := 0) (nt := 6) hf hin hw iX0 tyX0 tyX0_ok nmX0 0 rfl rfl 0 (by decide) k467 rfl rfl rfl rfl htl rfl (by decide) (ws' := fun tl_2 => [(h0, .inr (0, tl_2))]) (fun _ => rfl) dX0_init_10 (fun tl_2 htl_2 H locs hw => ?_)
  refine lv_aload_n hf.1 hf.2.1 dX0_init_13 rfl (lv_at hl 0 rfl) ?_
  refine lv_sipush (v := 3000) hf.1 hf.2.1 dX0_init_14 (by decide) ?_
  refine mnewaD hf hw (atype := .int) (ty := .int) (a0 := (3000, .inl (fun _ => 0))) k277 rfl (fun _ => rfl) (by decide) rfl (Nat.le_of_ble_eq_true rfl) (ce := 2) (sl := 6000) rfl rfl (Nat.le_of_ble_eq_true rfl) (Nat.le_of_ble_eq_true rfl) dX0_init_17 (fun q_3 H hw => ?_)
  refine mputFT (K := []) (j := 1) (nt := 6) hf hin hw iX0 tyX0 tyX0_ok nmX0 0 rfl rfl 1 (by decide) k470 rfl rfl rfl rfl htl_2 rfl (by decide) (ws' := fun tl_4 => [(h0, .inr (0, tl_4))]) (fun _ => rfl) dX0_init_19 (fun tl_4 htl_4 H locs hw => ?_)
  refine lv_aload_n hf.1 hf.2.1 dX0_init_22 rfl (lv_at hl 0 rfl) ?_
  refine lv_sipush (v := 3000) hf.1 hf.2.1 dX0_init_23 (by decide) ?_
  refine mnewaD hf hw (atype := .int) (ty := .int) (a0 := (3000, .inl (fun _ => 0))) k277 rfl (fun _ => rfl) (by decide) rfl (Nat.le_of_ble_eq_true rfl) (ce := 3) (sl := 9000) rfl rfl (Nat.le_of_ble_eq_true rfl) (Nat.le_of_ble_eq_true rfl) dX0_init_26 (fun q_5 H hw => ?_)
  refine mputFT (K := []) (j := 2) (nt := 6) hf hin hw iX0 tyX0 tyX0_ok nmX0 0 rfl rfl 2 (by decide) k473 rfl rfl rfl rfl htl_4 rfl (by decide) (ws' := fun tl_6 => [(h0, .inr (0, tl_6))]) (fun _ => rfl) dX0_init_28 (fun tl_6 htl_6 H locs hw => ?_)
  refine lv_aload_n hf.1 hf.2.1 dX0_init_31 rfl (lv_at hl 0 rfl) ?_
  refine lv_sipush (v := 3000) hf.1 hf.2.1 dX0_init_32 (by decide) ?_
  refine mnewaD hf hw (atype := .int) (ty := .int) (a0 := (3000, .inl (fun _ => 0))) k277 rfl (fun _ => rfl) (by decide) rfl (Nat.le_of_ble_eq_true rfl) (ce := 4) (sl := 12000) rfl rfl (Nat.le_of_ble_eq_true rfl) (Nat.le_of_ble_eq_true rfl) dX0_init_35 (fun q_7 H hw => ?_)
  refine mputFT (K := []) (j := 3) (nt := 6) hf hin hw iX0 tyX0 tyX0_ok nmX0 0 rfl rfl 3 (by decide) k476 rfl rfl rfl rfl htl_6 rfl (by decide) (ws' := fun tl_8 => [(h0, .inr (0, tl_8))]) (fun _ => rfl) dX0_init_37 (fun tl_8 htl_8 H locs hw => ?_)
  refine lv_aload_n hf.1 hf.2.1 dX0_init_40 rfl (lv_at hl 0 rfl) ?_
  refine lv_sipush (v := 3000) hf.1 hf.2.1 dX0_init_41 (by decide) ?_
  refine mnewaD hf hw (atype := .int) (ty := .int) (a0 := (3000, .inl (fun _ => 0))) k277 rfl (fun _ => rfl) (by decide) rfl (Nat.le_of_ble_eq_true rfl) (ce := 5) (sl := 15000) rfl rfl (Nat.le_of_ble_eq_true rfl) (Nat.le_of_ble_eq_true rfl) dX0_init_44 (fun q_9 H hw => ?_)
  refine mputFT (K := []) (j := 4) (nt := 6) hf hin hw iX0 tyX0 tyX0_ok nmX0 0 rfl rfl 4 (by decide) k479 rfl rfl rfl rfl htl_8 rfl (by decide) (ws' := fun tl_10 => [(h0, .inr (0, tl_10))]) (fun _ => rfl) dX0_init_46 (fun tl_10 htl_10 H locs hw => ?_)
  refine lv_aload_n hf.1 hf.2.1 dX0_init_49 rfl (lv_at hl 0 rfl) ?_
  refine lv_iconst (v := 0) hf.1 hf.2.1 dX0_init_50 (by decide) ?_
  refine mputT (K := []) (j := 5) (nt := 6) hf hw iX0 tyX0 tyX0_ok nmX0 0 rfl rfl 5 (by decide) k482 rfl rfl rfl htl_10 rfl (by decide) (ws' := fun tl_11 => [(h0, .inr (0, tl_11))]) (fun _ => rfl) dX0_init_51 (fun tl_11 htl_11 H locs hw => ?_)
  exact mret_v hf hr hlk hw () trivial [] [] rfl rfl rfl (Nat.le_of_ble_eq_true rfl) (Nat.le_of_ble_eq_true rfl) dX0_init_54

set_option maxHeartbeats 4000000 in
set_option maxRecDepth 100000 in
/-- BlameCourt.Heap(): nothing of it is kept -/
theorem c_Heap_init (l : Launch) (dC : Nat → ClassId) (dI : Nat → Nat → Nat) (h0 : Nat) (tl : List Value) (sz : Nat) (htl : tl.length = 13) : Met l yX1_init (wsOf yX1_init cX1_init 1 none) ({ frames := 6, cells := 10, slots := 13000, locals := 90 } : Room) (va_Pc [.ref h0] (PB dC dI sz [(h0, .inr (1, tl))] [])) (va_Qv (S := Unit) (fun _ => True) (fun x t => PW dC dI (va_A [(h0, .inr (1, tl))] sz) ([]) ([]) t) (va_A [(h0, .inr (1, tl))] sz)) 10 13000 (va_A [(h0, .inr (1, tl))] sz) := by
  refine mbody (b := cX1_init) (n := 1) (ret := none) (Qc := fun A => (va_Qv (S := Unit) (fun _ => True) (fun x t => PW dC dI A ([]) ([]) t) A)) (by decide) (Nat.le_of_ble_eq_true rfl) ?_
  intro p e s m below meth c ls A H hf hr hin hlk hw hl
  have hl : lv_has ls 1 [(0, .ref h0)] := hl
  refine lv_aload_n hf.1 hf.2.1 dX1_init_0 rfl (lv_at hl 0 rfl) ?_
  refine mobj hf hl.1 k565 k206 k207 dX1_init_1 (Nat.le_of_ble_eq_true rfl) (Nat.le_of_ble_eq_true rfl) ?_
  refine lv_aload_n hf.1 hf.2.1 dX1_init_4 rfl (lv_at hl 0 rfl) ?_
  refine lv_iconst (v := 0) hf.1 hf.2.1 dX1_init_5 (by decide) ?_
  refine mputT (K := []) (j := 0) (nt := 13) hf hw iX1 tyX1 tyX1_ok nmX1 0 rfl rfl 0 (by decide) k566 rfl rfl rfl htl rfl (by decide) (ws' := fun tl_1 => [(h0, .inr (1, tl_1))]) (fun _ => rfl) dX1_init_6 (fun tl_1 htl_1 H locs hw => ?_)
  refine lv_aload_n hf.1 hf.2.1 dX1_init_9 rfl (lv_at hl 0 rfl) ?_
  refine lv_iconst (v := 0) hf.1 hf.2.1 dX1_init_10 (by decide) ?_
  refine mputT (K := []) (j := 1) (nt := 13) hf hw iX1 tyX1 tyX1_ok nmX1 0 rfl rfl 1 (by decide) k568 rfl rfl rfl htl_1 rfl (by decide) (ws' := fun tl_2 => [(h0, .inr (1, tl_2))]) (fun _ => rfl) dX1_init_11 (fun tl_2 htl_2 H locs hw => ?_)
  refine lv_aload_n hf.1 hf.2.1 dX1_init_14 rfl (lv_at hl 0 rfl) ?_
  refine lv_iconst (v := 0) hf.1 hf.2.1 dX1_init_15 (by decide) ?_
  refine mputT (K := []) (j := 2) (nt := 13) hf hw iX1 tyX1 tyX1_ok nmX1 0 rfl rfl 2 (by decide) k569 rfl rfl rfl htl_2 rfl (by decide) (ws' := fun tl_3 => [(h0, .inr (1, tl_3))]) (fun _ => rfl) dX1_init_16 (fun tl_3 htl_3 H locs hw => ?_)
  refine lv_aload_n hf.1 hf.2.1 dX1_init_19 rfl (lv_at hl 0 rfl) ?_
  refine lv_sipush (v := 1000) hf.1 hf.2.1 dX1_init_20 (by decide) ?_
  refine mnewaD hf hw (atype := .int) (ty := .int) (a0 := (1000, .inl (fun _ => 0))) k277 rfl (fun _ => rfl) (by decide) rfl (Nat.le_of_ble_eq_true rfl) (ce := 1) (sl := 1000) rfl rfl (Nat.le_of_ble_eq_true rfl) (Nat.le_of_ble_eq_true rfl) dX1_init_23 (fun q_4 H hw => ?_)
  refine mputFT (K := []) (j := 3) (nt := 13) hf hin hw iX1 tyX1 tyX1_ok nmX1 0 rfl rfl 3 (by decide) k571 rfl rfl rfl rfl htl_3 rfl (by decide) (ws' := fun tl_5 => [(h0, .inr (1, tl_5))]) (fun _ => rfl) dX1_init_25 (fun tl_5 htl_5 H locs hw => ?_)
  refine lv_aload_n hf.1 hf.2.1 dX1_init_28 rfl (lv_at hl 0 rfl) ?_
  refine lv_sipush (v := 1000) hf.1 hf.2.1 dX1_init_29 (by decide) ?_
  refine mnewaD hf hw (atype := .int) (ty := .int) (a0 := (1000, .inl (fun _ => 0))) k277 rfl (fun _ => rfl) (by decide) rfl (Nat.le_of_ble_eq_true rfl) (ce := 2) (sl := 2000) rfl rfl (Nat.le_of_ble_eq_true rfl) (Nat.le_of_ble_eq_true rfl) dX1_init_32 (fun q_6 H hw => ?_)
  refine mputFT (K := []) (j := 4) (nt := 13) hf hin hw iX1 tyX1 tyX1_ok nmX1 0 rfl rfl 4 (by decide) k572 rfl rfl rfl rfl htl_5 rfl (by decide) (ws' := fun tl_7 => [(h0, .inr (1, tl_7))]) (fun _ => rfl) dX1_init_34 (fun tl_7 htl_7 H locs hw => ?_)
  refine lv_aload_n hf.1 hf.2.1 dX1_init_37 rfl (lv_at hl 0 rfl) ?_
  refine lv_sipush (v := 4000) hf.1 hf.2.1 dX1_init_38 (by decide) ?_
  refine mnewaD hf hw (atype := .long) (ty := .long) (a0 := (4000, .inr (.inl (fun _ => 0)))) k373 rfl (fun _ => rfl) (by decide) rfl (Nat.le_of_ble_eq_true rfl) (ce := 3) (sl := 6000) rfl rfl (Nat.le_of_ble_eq_true rfl) (Nat.le_of_ble_eq_true rfl) dX1_init_41 (fun q_8 H hw => ?_)
  refine mputFT (K := []) (j := 5) (nt := 13) hf hin hw iX1 tyX1 tyX1_ok nmX1 0 rfl rfl 5 (by decide) k573 rfl rfl rfl rfl htl_7 rfl (by decide) (ws' := fun tl_9 => [(h0, .inr (1, tl_9))]) (fun _ => rfl) dX1_init_43 (fun tl_9 htl_9 H locs hw => ?_)
  refine lv_aload_n hf.1 hf.2.1 dX1_init_46 rfl (lv_at hl 0 rfl) ?_
  refine lv_sipush (v := 1000) hf.1 hf.2.1 dX1_init_47 (by decide) ?_
  refine mnewaD hf hw (atype := .long) (ty := .long) (a0 := (1000, .inr (.inl (fun _ => 0)))) k373 rfl (fun _ => rfl) (by decide) rfl (Nat.le_of_ble_eq_true rfl) (ce := 4) (sl := 7000) rfl rfl (Nat.le_of_ble_eq_true rfl) (Nat.le_of_ble_eq_true rfl) dX1_init_50 (fun q_10 H hw => ?_)
  refine mputFT (K := []) (j := 6) (nt := 13) hf hin hw iX1 tyX1 tyX1_ok nmX1 0 rfl rfl 6 (by decide) k574 rfl rfl rfl rfl htl_9 rfl (by decide) (ws' := fun tl_11 => [(h0, .inr (1, tl_11))]) (fun _ => rfl) dX1_init_52 (fun tl_11 htl_11 H locs hw => ?_)
  refine lv_aload_n hf.1 hf.2.1 dX1_init_55 rfl (lv_at hl 0 rfl) ?_
  refine lv_sipush (v := 1000) hf.1 hf.2.1 dX1_init_56 (by decide) ?_
  refine mnewaD hf hw (atype := .int) (ty := .int) (a0 := (1000, .inl (fun _ => 0))) k277 rfl (fun _ => rfl) (by decide) rfl (Nat.le_of_ble_eq_true rfl) (ce := 5) (sl := 8000) rfl rfl (Nat.le_of_ble_eq_true rfl) (Nat.le_of_ble_eq_true rfl) dX1_init_59 (fun q_12 H hw => ?_)
  refine mputFT (K := []) (j := 7) (nt := 13) hf hin hw iX1 tyX1 tyX1_ok nmX1 0 rfl rfl 7 (by decide) k576 rfl rfl rfl rfl htl_11 rfl (by decide) (ws' := fun tl_13 => [(h0, .inr (1, tl_13))]) (fun _ => rfl) dX1_init_61 (fun tl_13 htl_13 H locs hw => ?_)
  refine lv_aload_n hf.1 hf.2.1 dX1_init_64 rfl (lv_at hl 0 rfl) ?_
  refine lv_sipush (v := 1000) hf.1 hf.2.1 dX1_init_65 (by decide) ?_
  refine mnewaD hf hw (atype := .int) (ty := .int) (a0 := (1000, .inl (fun _ => 0))) k277 rfl (fun _ => rfl) (by decide) rfl (Nat.le_of_ble_eq_true rfl) (ce := 6) (sl := 9000) rfl rfl (Nat.le_of_ble_eq_true rfl) (Nat.le_of_ble_eq_true rfl) dX1_init_68 (fun q_14 H hw => ?_)
  refine mputFT (K := []) (j := 8) (nt := 13) hf hin hw iX1 tyX1 tyX1_ok nmX1 0 rfl rfl 8 (by decide) k578 rfl rfl rfl rfl htl_13 rfl (by decide) (ws' := fun tl_15 => [(h0, .inr (1, tl_15))]) (fun _ => rfl) dX1_init_70 (fun tl_15 htl_15 H locs hw => ?_)
  refine lv_aload_n hf.1 hf.2.1 dX1_init_73 rfl (lv_at hl 0 rfl) ?_
  refine lv_sipush (v := 1000) hf.1 hf.2.1 dX1_init_74 (by decide) ?_
  refine mnewaD hf hw (atype := .int) (ty := .int) (a0 := (1000, .inl (fun _ => 0))) k277 rfl (fun _ => rfl) (by decide) rfl (Nat.le_of_ble_eq_true rfl) (ce := 7) (sl := 10000) rfl rfl (Nat.le_of_ble_eq_true rfl) (Nat.le_of_ble_eq_true rfl) dX1_init_77 (fun q_16 H hw => ?_)
  refine mputFT (K := []) (j := 9) (nt := 13) hf hin hw iX1 tyX1 tyX1_ok nmX1 0 rfl rfl 9 (by decide) k580 rfl rfl rfl rfl htl_15 rfl (by decide) (ws' := fun tl_17 => [(h0, .inr (1, tl_17))]) (fun _ => rfl) dX1_init_79 (fun tl_17 htl_17 H locs hw => ?_)
  refine lv_aload_n hf.1 hf.2.1 dX1_init_82 rfl (lv_at hl 0 rfl) ?_
  refine lv_sipush (v := 1000) hf.1 hf.2.1 dX1_init_83 (by decide) ?_
  refine mnewaD hf hw (atype := .int) (ty := .int) (a0 := (1000, .inl (fun _ => 0))) k277 rfl (fun _ => rfl) (by decide) rfl (Nat.le_of_ble_eq_true rfl) (ce := 8) (sl := 11000) rfl rfl (Nat.le_of_ble_eq_true rfl) (Nat.le_of_ble_eq_true rfl) dX1_init_86 (fun q_18 H hw => ?_)
  refine mputFT (K := []) (j := 10) (nt := 13) hf hin hw iX1 tyX1 tyX1_ok nmX1 0 rfl rfl 10 (by decide) k582 rfl rfl rfl rfl htl_17 rfl (by decide) (ws' := fun tl_19 => [(h0, .inr (1, tl_19))]) (fun _ => rfl) dX1_init_88 (fun tl_19 htl_19 H locs hw => ?_)
  refine lv_aload_n hf.1 hf.2.1 dX1_init_91 rfl (lv_at hl 0 rfl) ?_
  refine lv_sipush (v := 1000) hf.1 hf.2.1 dX1_init_92 (by decide) ?_
  refine mnewaD hf hw (atype := .int) (ty := .int) (a0 := (1000, .inl (fun _ => 0))) k277 rfl (fun _ => rfl) (by decide) rfl (Nat.le_of_ble_eq_true rfl) (ce := 9) (sl := 12000) rfl rfl (Nat.le_of_ble_eq_true rfl) (Nat.le_of_ble_eq_true rfl) dX1_init_95 (fun q_20 H hw => ?_)
  refine mputFT (K := []) (j := 11) (nt := 13) hf hin hw iX1 tyX1 tyX1_ok nmX1 0 rfl rfl 11 (by decide) k584 rfl rfl rfl rfl htl_19 rfl (by decide) (ws' := fun tl_21 => [(h0, .inr (1, tl_21))]) (fun _ => rfl) dX1_init_97 (fun tl_21 htl_21 H locs hw => ?_)
  refine lv_aload_n hf.1 hf.2.1 dX1_init_100 rfl (lv_at hl 0 rfl) ?_
  refine lv_sipush (v := 1000) hf.1 hf.2.1 dX1_init_101 (by decide) ?_
  refine mnewaD hf hw (atype := .int) (ty := .int) (a0 := (1000, .inl (fun _ => 0))) k277 rfl (fun _ => rfl) (by decide) rfl (Nat.le_of_ble_eq_true rfl) (ce := 10) (sl := 13000) rfl rfl (Nat.le_of_ble_eq_true rfl) (Nat.le_of_ble_eq_true rfl) dX1_init_104 (fun q_22 H hw => ?_)
  refine mputFT (K := []) (j := 12) (nt := 13) hf hin hw iX1 tyX1 tyX1_ok nmX1 0 rfl rfl 12 (by decide) k586 rfl rfl rfl rfl htl_21 rfl (by decide) (ws' := fun tl_23 => [(h0, .inr (1, tl_23))]) (fun _ => rfl) dX1_init_106 (fun tl_23 htl_23 H locs hw => ?_)
  exact mret_v hf hr hlk hw () trivial [] [] rfl rfl rfl (Nat.le_of_ble_eq_true rfl) (Nat.le_of_ble_eq_true rfl) dX1_init_109

set_option maxHeartbeats 4000000 in
set_option maxRecDepth 100000 in
/-- BlameCourt.Judging(): nothing of it is kept -/
theorem c_Judging_init (l : Launch) (dC : Nat → ClassId) (dI : Nat → Nat → Nat) (h0 : Nat) (tl : List Value) (sz : Nat) (htl : tl.length = 15) : Met l yX2_init (wsOf yX2_init cX2_init 1 none) ({ frames := 6, cells := 8, slots := 9324, locals := 90 } : Room) (va_Pc [.ref h0] (PB dC dI sz [(h0, .inr (2, tl))] [])) (va_Qv (S := Unit) (fun _ => True) (fun x t => PW dC dI (va_A [(h0, .inr (2, tl))] sz) ([]) ([]) t) (va_A [(h0, .inr (2, tl))] sz)) 8 9324 (va_A [(h0, .inr (2, tl))] sz) := by
  refine mbody (b := cX2_init) (n := 1) (ret := none) (Qc := fun A => (va_Qv (S := Unit) (fun _ => True) (fun x t => PW dC dI A ([]) ([]) t) A)) (by decide) (Nat.le_of_ble_eq_true rfl) ?_
  intro p e s m below meth c ls A H hf hr hin hlk hw hl
  have hl : lv_has ls 1 [(0, .ref h0)] := hl
  refine lv_aload_n hf.1 hf.2.1 dX2_init_0 rfl (lv_at hl 0 rfl) ?_
  refine mobj hf hl.1 k504 k206 k207 dX2_init_1 (Nat.le_of_ble_eq_true rfl) (Nat.le_of_ble_eq_true rfl) ?_
  refine lv_aload_n hf.1 hf.2.1 dX2_init_4 rfl (lv_at hl 0 rfl) ?_
  refine lv_null hf.1 hf.2.1 dX2_init_5 ?_
  refine mputT (K := []) (j := 0) (nt := 15) hf hw iX2 tyX2 tyX2_ok nmX2 0 rfl rfl 0 (by decide) k505 rfl rfl rfl htl rfl (by decide) (ws' := fun tl_1 => [(h0, .inr (2, tl_1))]) (fun _ => rfl) dX2_init_6 (fun tl_1 htl_1 H locs hw => ?_)
  refine lv_aload_n hf.1 hf.2.1 dX2_init_9 rfl (lv_at hl 0 rfl) ?_
  refine lv_null hf.1 hf.2.1 dX2_init_10 ?_
  refine mputT (K := []) (j := 1) (nt := 15) hf hw iX2 tyX2 tyX2_ok nmX2 0 rfl rfl 1 (by decide) k506 rfl rfl rfl htl_1 rfl (by decide) (ws' := fun tl_2 => [(h0, .inr (2, tl_2))]) (fun _ => rfl) dX2_init_11 (fun tl_2 htl_2 H locs hw => ?_)
  refine lv_aload_n hf.1 hf.2.1 dX2_init_14 rfl (lv_at hl 0 rfl) ?_
  refine lv_null hf.1 hf.2.1 dX2_init_15 ?_
  refine mputT (K := []) (j := 2) (nt := 15) hf hw iX2 tyX2 tyX2_ok nmX2 0 rfl rfl 2 (by decide) k507 rfl rfl rfl htl_2 rfl (by decide) (ws' := fun tl_3 => [(h0, .inr (2, tl_3))]) (fun _ => rfl) dX2_init_16 (fun tl_3 htl_3 H locs hw => ?_)
  refine lv_aload_n hf.1 hf.2.1 dX2_init_19 rfl (lv_at hl 0 rfl) ?_
  refine lv_iconst (v := 0) hf.1 hf.2.1 dX2_init_20 (by decide) ?_
  refine mputT (K := []) (j := 3) (nt := 15) hf hw iX2 tyX2 tyX2_ok nmX2 0 rfl rfl 3 (by decide) k508 rfl rfl rfl htl_3 rfl (by decide) (ws' := fun tl_4 => [(h0, .inr (2, tl_4))]) (fun _ => rfl) dX2_init_21 (fun tl_4 htl_4 H locs hw => ?_)
  refine lv_aload_n hf.1 hf.2.1 dX2_init_24 rfl (lv_at hl 0 rfl) ?_
  refine lv_iconst (v := 0) hf.1 hf.2.1 dX2_init_25 (by decide) ?_
  refine mputT (K := []) (j := 4) (nt := 15) hf hw iX2 tyX2 tyX2_ok nmX2 0 rfl rfl 4 (by decide) k509 rfl rfl rfl htl_4 rfl (by decide) (ws' := fun tl_5 => [(h0, .inr (2, tl_5))]) (fun _ => rfl) dX2_init_26 (fun tl_5 htl_5 H locs hw => ?_)
  refine lv_aload_n hf.1 hf.2.1 dX2_init_29 rfl (lv_at hl 0 rfl) ?_
  refine lv_iconst (v := (-1)) hf.1 hf.2.1 dX2_init_30 (by decide) ?_
  refine mputT (K := []) (j := 5) (nt := 15) hf hw iX2 tyX2 tyX2_ok nmX2 0 rfl rfl 5 (by decide) k511 rfl rfl rfl htl_5 rfl (by decide) (ws' := fun tl_6 => [(h0, .inr (2, tl_6))]) (fun _ => rfl) dX2_init_31 (fun tl_6 htl_6 H locs hw => ?_)
  refine lv_aload_n hf.1 hf.2.1 dX2_init_34 rfl (lv_at hl 0 rfl) ?_
  refine lv_bipush (v := 40) hf.1 hf.2.1 dX2_init_35 (by decide) ?_
  refine mnewaD hf hw (atype := .boolean) (ty := .boolean) (a0 := (40, .inl (fun _ => 0))) k278 rfl (fun _ => rfl) (by decide) rfl (Nat.le_of_ble_eq_true rfl) (ce := 1) (sl := 40) rfl rfl (Nat.le_of_ble_eq_true rfl) (Nat.le_of_ble_eq_true rfl) dX2_init_37 (fun q_7 H hw => ?_)
  refine mputFT (K := []) (j := 6) (nt := 15) hf hin hw iX2 tyX2 tyX2_ok nmX2 0 rfl rfl 6 (by decide) k513 rfl rfl rfl rfl htl_6 rfl (by decide) (ws' := fun tl_8 => [(h0, .inr (2, tl_8))]) (fun _ => rfl) dX2_init_39 (fun tl_8 htl_8 H locs hw => ?_)
  refine lv_aload_n hf.1 hf.2.1 dX2_init_42 rfl (lv_at hl 0 rfl) ?_
  refine lv_sipush (v := 160) hf.1 hf.2.1 dX2_init_43 (by decide) ?_
  refine mnewaD hf hw (atype := .int) (ty := .int) (a0 := (160, .inl (fun _ => 0))) k277 rfl (fun _ => rfl) (by decide) rfl (Nat.le_of_ble_eq_true rfl) (ce := 2) (sl := 200) rfl rfl (Nat.le_of_ble_eq_true rfl) (Nat.le_of_ble_eq_true rfl) dX2_init_46 (fun q_9 H hw => ?_)
  refine mputFT (K := []) (j := 7) (nt := 15) hf hin hw iX2 tyX2 tyX2_ok nmX2 0 rfl rfl 7 (by decide) k515 rfl rfl rfl rfl htl_8 rfl (by decide) (ws' := fun tl_10 => [(h0, .inr (2, tl_10))]) (fun _ => rfl) dX2_init_48 (fun tl_10 htl_10 H locs hw => ?_)
  refine lv_aload_n hf.1 hf.2.1 dX2_init_51 rfl (lv_at hl 0 rfl) ?_
  refine lv_bipush (v := 40) hf.1 hf.2.1 dX2_init_52 (by decide) ?_
  refine mnewaD hf hw (atype := .int) (ty := .int) (a0 := (40, .inl (fun _ => 0))) k277 rfl (fun _ => rfl) (by decide) rfl (Nat.le_of_ble_eq_true rfl) (ce := 3) (sl := 240) rfl rfl (Nat.le_of_ble_eq_true rfl) (Nat.le_of_ble_eq_true rfl) dX2_init_54 (fun q_11 H hw => ?_)
  refine mputFT (K := []) (j := 8) (nt := 15) hf hin hw iX2 tyX2 tyX2_ok nmX2 0 rfl rfl 8 (by decide) k516 rfl rfl rfl rfl htl_10 rfl (by decide) (ws' := fun tl_12 => [(h0, .inr (2, tl_12))]) (fun _ => rfl) dX2_init_56 (fun tl_12 htl_12 H locs hw => ?_)
  refine lv_aload_n hf.1 hf.2.1 dX2_init_59 rfl (lv_at hl 0 rfl) ?_
  refine lv_bipush (v := 40) hf.1 hf.2.1 dX2_init_60 (by decide) ?_
  refine mnewaD hf hw (atype := .int) (ty := .int) (a0 := (40, .inl (fun _ => 0))) k277 rfl (fun _ => rfl) (by decide) rfl (Nat.le_of_ble_eq_true rfl) (ce := 4) (sl := 280) rfl rfl (Nat.le_of_ble_eq_true rfl) (Nat.le_of_ble_eq_true rfl) dX2_init_62 (fun q_13 H hw => ?_)
  refine mputFT (K := []) (j := 9) (nt := 15) hf hin hw iX2 tyX2 tyX2_ok nmX2 0 rfl rfl 9 (by decide) k517 rfl rfl rfl rfl htl_12 rfl (by decide) (ws' := fun tl_14 => [(h0, .inr (2, tl_14))]) (fun _ => rfl) dX2_init_64 (fun tl_14 htl_14 H locs hw => ?_)
  refine lv_aload_n hf.1 hf.2.1 dX2_init_67 rfl (lv_at hl 0 rfl) ?_
  refine lv_bipush (v := 44) hf.1 hf.2.1 dX2_init_68 (by decide) ?_
  refine mnewaD hf hw (atype := .int) (ty := .int) (a0 := (44, .inl (fun _ => 0))) k277 rfl (fun _ => rfl) (by decide) rfl (Nat.le_of_ble_eq_true rfl) (ce := 5) (sl := 324) rfl rfl (Nat.le_of_ble_eq_true rfl) (Nat.le_of_ble_eq_true rfl) dX2_init_70 (fun q_15 H hw => ?_)
  refine mputFT (K := []) (j := 10) (nt := 15) hf hin hw iX2 tyX2 tyX2_ok nmX2 0 rfl rfl 10 (by decide) k518 rfl rfl rfl rfl htl_14 rfl (by decide) (ws' := fun tl_16 => [(h0, .inr (2, tl_16))]) (fun _ => rfl) dX2_init_72 (fun tl_16 htl_16 H locs hw => ?_)
  refine lv_aload_n hf.1 hf.2.1 dX2_init_75 rfl (lv_at hl 0 rfl) ?_
  refine lv_sipush (v := 3000) hf.1 hf.2.1 dX2_init_76 (by decide) ?_
  refine mnewaD hf hw (atype := .int) (ty := .int) (a0 := (3000, .inl (fun _ => 0))) k277 rfl (fun _ => rfl) (by decide) rfl (Nat.le_of_ble_eq_true rfl) (ce := 6) (sl := 3324) rfl rfl (Nat.le_of_ble_eq_true rfl) (Nat.le_of_ble_eq_true rfl) dX2_init_79 (fun q_17 H hw => ?_)
  refine mputFT (K := []) (j := 11) (nt := 15) hf hin hw iX2 tyX2 tyX2_ok nmX2 0 rfl rfl 11 (by decide) k519 rfl rfl rfl rfl htl_16 rfl (by decide) (ws' := fun tl_18 => [(h0, .inr (2, tl_18))]) (fun _ => rfl) dX2_init_81 (fun tl_18 htl_18 H locs hw => ?_)
  refine lv_aload_n hf.1 hf.2.1 dX2_init_84 rfl (lv_at hl 0 rfl) ?_
  refine lv_sipush (v := 3000) hf.1 hf.2.1 dX2_init_85 (by decide) ?_
  refine mnewaD hf hw (atype := .int) (ty := .int) (a0 := (3000, .inl (fun _ => 0))) k277 rfl (fun _ => rfl) (by decide) rfl (Nat.le_of_ble_eq_true rfl) (ce := 7) (sl := 6324) rfl rfl (Nat.le_of_ble_eq_true rfl) (Nat.le_of_ble_eq_true rfl) dX2_init_88 (fun q_19 H hw => ?_)
  refine mputFT (K := []) (j := 12) (nt := 15) hf hin hw iX2 tyX2 tyX2_ok nmX2 0 rfl rfl 12 (by decide) k520 rfl rfl rfl rfl htl_18 rfl (by decide) (ws' := fun tl_20 => [(h0, .inr (2, tl_20))]) (fun _ => rfl) dX2_init_90 (fun tl_20 htl_20 H locs hw => ?_)
  refine lv_aload_n hf.1 hf.2.1 dX2_init_93 rfl (lv_at hl 0 rfl) ?_
  refine lv_sipush (v := 3000) hf.1 hf.2.1 dX2_init_94 (by decide) ?_
  refine mnewaD hf hw (atype := .int) (ty := .int) (a0 := (3000, .inl (fun _ => 0))) k277 rfl (fun _ => rfl) (by decide) rfl (Nat.le_of_ble_eq_true rfl) (ce := 8) (sl := 9324) rfl rfl (Nat.le_of_ble_eq_true rfl) (Nat.le_of_ble_eq_true rfl) dX2_init_97 (fun q_21 H hw => ?_)
  refine mputFT (K := []) (j := 13) (nt := 15) hf hin hw iX2 tyX2 tyX2_ok nmX2 0 rfl rfl 13 (by decide) k521 rfl rfl rfl rfl htl_20 rfl (by decide) (ws' := fun tl_22 => [(h0, .inr (2, tl_22))]) (fun _ => rfl) dX2_init_99 (fun tl_22 htl_22 H locs hw => ?_)
  refine lv_aload_n hf.1 hf.2.1 dX2_init_102 rfl (lv_at hl 0 rfl) ?_
  refine lv_iconst (v := 0) hf.1 hf.2.1 dX2_init_103 (by decide) ?_
  refine mputT (K := []) (j := 14) (nt := 15) hf hw iX2 tyX2 tyX2_ok nmX2 0 rfl rfl 14 (by decide) k522 rfl rfl rfl htl_22 rfl (by decide) (ws' := fun tl_23 => [(h0, .inr (2, tl_23))]) (fun _ => rfl) dX2_init_104 (fun tl_23 htl_23 H locs hw => ?_)
  exact mret_v hf hr hlk hw () trivial [] [] rfl rfl rfl (Nat.le_of_ble_eq_true rfl) (Nat.le_of_ble_eq_true rfl) dX2_init_107

set_option maxHeartbeats 4000000 in
set_option maxRecDepth 100000 in
theorem c_Tokens_init (l : Launch) (dC : Nat → ClassId) (dI : Nat → Nat → Nat) (h0 : Nat) (sz : Nat) : Met l yX9_init (wsOf yX9_init cX9_init 1 none) ({ frames := 6, cells := 1, slots := 0, locals := 90 } : Room) (va_Pc [.ref h0] (PB dC dI sz [(h0, .inr (7, [.null, .int 0, .int 0, .int 0, .int 0, .long 0, .int 0, .long 0]))] [])) (va_Qv (S := Nat) (fun _ => True) (fun x t => PW dC dI (va_A [(h0, .inr (7, [.null, .int 0, .int 0, .int 0, .int 0, .long 0, .int 0, .long 0]))] sz) ([(h0, .inr (7, [.ref x, .int 0, .int 0, .int 257, .int 0, .long 0, .int 0, .long 0]))]) ([]) t) (va_A [(h0, .inr (7, [.null, .int 0, .int 0, .int 0, .int 0, .long 0, .int 0, .long 0]))] sz)) 1 0 (va_A [(h0, .inr (7, [.null, .int 0, .int 0, .int 0, .int 0, .long 0, .int 0, .long 0]))] sz) := by
  refine mbody (b := cX9_init) (n := 1) (ret := none) (Qc := fun A => (va_Qv (S := Nat) (fun _ => True) (fun x t => PW dC dI A ([(h0, .inr (7, [.ref x, .int 0, .int 0, .int 257, .int 0, .long 0, .int 0, .long 0]))]) ([]) t) A)) (by decide) (Nat.le_of_ble_eq_true rfl) ?_
  intro p e s m below meth c ls A H hf hr hin hlk hw hl
  have hl : lv_has ls 1 [(0, .ref h0)] := hl
  refine lv_aload_n hf.1 hf.2.1 dX9_init_0 rfl (lv_at hl 0 rfl) ?_
  refine mobj hf hl.1 k385 k206 k207 dX9_init_1 (Nat.le_of_ble_eq_true rfl) (Nat.le_of_ble_eq_true rfl) ?_
  refine lv_aload_n hf.1 hf.2.1 dX9_init_4 rfl (lv_at hl 0 rfl) ?_
  refine lv_iconst (v := 0) hf.1 hf.2.1 dX9_init_5 (by decide) ?_
  refine mnewaD hf hw (atype := .byte) (ty := .byte) (a0 := (0, .inl (fun _ => 0))) k276 rfl (fun _ => rfl) (by decide) rfl (Nat.le_of_ble_eq_true rfl) (ce := 1) (sl := 0) rfl rfl (Nat.le_of_ble_eq_true rfl) (Nat.le_of_ble_eq_true rfl) dX9_init_6 (fun q_1 H hw => ?_)
  refine mput hf hw iX9 tyX9 tyX9_ok nmX9 0 rfl rfl 0 (by decide) k386 rfl rfl rfl (Nat.le_of_ble_eq_true rfl) (ws' := [(h0, .inr (7, [.ref q_1, .int 0, .int 0, .int 0, .int 0, .long 0, .int 0, .long 0]))]) rfl dX9_init_8 (fun H locs hw => ?_)
  refine lv_aload_n hf.1 hf.2.1 dX9_init_11 rfl (lv_at hl 0 rfl) ?_
  refine lv_iconst (v := 0) hf.1 hf.2.1 dX9_init_12 (by decide) ?_
  refine mput hf hw iX9 tyX9 tyX9_ok nmX9 0 rfl rfl 1 (by decide) k387 rfl rfl rfl (Nat.le_of_ble_eq_true rfl) (ws' := [(h0, .inr (7, [.ref q_1, .int 0, .int 0, .int 0, .int 0, .long 0, .int 0, .long 0]))]) rfl dX9_init_13 (fun H locs hw => ?_)
  refine lv_aload_n hf.1 hf.2.1 dX9_init_16 rfl (lv_at hl 0 rfl) ?_
  refine lv_iconst (v := 0) hf.1 hf.2.1 dX9_init_17 (by decide) ?_
  refine mput hf hw iX9 tyX9 tyX9_ok nmX9 0 rfl rfl 2 (by decide) k388 rfl rfl rfl (Nat.le_of_ble_eq_true rfl) (ws' := [(h0, .inr (7, [.ref q_1, .int 0, .int 0, .int 0, .int 0, .long 0, .int 0, .long 0]))]) rfl dX9_init_18 (fun H locs hw => ?_)
  refine lv_aload_n hf.1 hf.2.1 dX9_init_21 rfl (lv_at hl 0 rfl) ?_
  refine lv_sipush (v := 257) hf.1 hf.2.1 dX9_init_22 (by decide) ?_
  refine mput hf hw iX9 tyX9 tyX9_ok nmX9 0 rfl rfl 3 (by decide) k389 rfl rfl rfl (Nat.le_of_ble_eq_true rfl) (ws' := [(h0, .inr (7, [.ref q_1, .int 0, .int 0, .int 257, .int 0, .long 0, .int 0, .long 0]))]) rfl dX9_init_25 (fun H locs hw => ?_)
  refine lv_aload_n hf.1 hf.2.1 dX9_init_28 rfl (lv_at hl 0 rfl) ?_
  refine lv_iconst (v := 0) hf.1 hf.2.1 dX9_init_29 (by decide) ?_
  refine mput hf hw iX9 tyX9 tyX9_ok nmX9 0 rfl rfl 4 (by decide) k391 rfl rfl rfl (Nat.le_of_ble_eq_true rfl) (ws' := [(h0, .inr (7, [.ref q_1, .int 0, .int 0, .int 257, .int 0, .long 0, .int 0, .long 0]))]) rfl dX9_init_30 (fun H locs hw => ?_)
  refine lv_aload_n hf.1 hf.2.1 dX9_init_33 rfl (lv_at hl 0 rfl) ?_
  refine lv_lconst (v := 0) hf.1 hf.2.1 dX9_init_34 (by decide) ?_
  refine mput hf hw iX9 tyX9 tyX9_ok nmX9 0 rfl rfl 5 (by decide) k393 rfl rfl rfl (Nat.le_of_ble_eq_true rfl) (ws' := [(h0, .inr (7, [.ref q_1, .int 0, .int 0, .int 257, .int 0, .long 0, .int 0, .long 0]))]) rfl dX9_init_35 (fun H locs hw => ?_)
  refine lv_aload_n hf.1 hf.2.1 dX9_init_38 rfl (lv_at hl 0 rfl) ?_
  refine lv_iconst (v := 0) hf.1 hf.2.1 dX9_init_39 (by decide) ?_
  refine mput hf hw iX9 tyX9 tyX9_ok nmX9 0 rfl rfl 6 (by decide) k395 rfl rfl rfl (Nat.le_of_ble_eq_true rfl) (ws' := [(h0, .inr (7, [.ref q_1, .int 0, .int 0, .int 257, .int 0, .long 0, .int 0, .long 0]))]) rfl dX9_init_40 (fun H locs hw => ?_)
  refine lv_aload_n hf.1 hf.2.1 dX9_init_43 rfl (lv_at hl 0 rfl) ?_
  refine lv_lconst (v := 0) hf.1 hf.2.1 dX9_init_44 (by decide) ?_
  refine mput hf hw iX9 tyX9 tyX9_ok nmX9 0 rfl rfl 7 (by decide) k397 rfl rfl rfl (Nat.le_of_ble_eq_true rfl) (ws' := [(h0, .inr (7, [.ref q_1, .int 0, .int 0, .int 257, .int 0, .long 0, .int 0, .long 0]))]) rfl dX9_init_45 (fun H locs hw => ?_)
  exact mret_v hf hr hlk hw q_1 trivial [0] [] rfl rfl rfl (Nat.le_of_ble_eq_true rfl) (Nat.le_of_ble_eq_true rfl) dX9_init_48

set_option maxHeartbeats 4000000 in
set_option maxRecDepth 100000 in
theorem c_Running_init (l : Launch) (dC : Nat → ClassId) (dI : Nat → Nat → Nat) (h0 : Nat) (tl : List Value) (sz : Nat) (htl : tl.length = 20) : Met l yX7_init (wsOf yX7_init cX7_init 1 none) ({ frames := 10, cells := 17, slots := 39335, locals := 150 } : Room) (va_Pc [.ref h0] (PB dC dI sz [(h0, .inr (6, tl))] [])) (va_Qv (S := Unit) (fun _ => True) (fun x t => PW dC dI (va_A [(h0, .inr (6, tl))] sz) ([]) ([]) t) (va_A [(h0, .inr (6, tl))] sz)) 17 39335 (va_A [(h0, .inr (6, tl))] sz) := by
  refine mbody (b := cX7_init) (n := 1) (ret := none) (Qc := fun A => (va_Qv (S := Unit) (fun _ => True) (fun x t => PW dC dI A ([]) ([]) t) A)) (by decide) (Nat.le_of_ble_eq_true rfl) ?_
  intro p e s m below meth c ls A H hf hr hin hlk hw hl
  have hl : lv_has ls 1 [(0, .ref h0)] := hl
  refine lv_aload_n hf.1 hf.2.1 dX7_init_0 rfl (lv_at hl 0 rfl) ?_
  refine mobj hf hl.1 k559 k206 k207 dX7_init_1 (Nat.le_of_ble_eq_true rfl) (Nat.le_of_ble_eq_true rfl) ?_
  refine lv_aload_n hf.1 hf.2.1 dX7_init_4 rfl (lv_at hl 0 rfl) ?_
  refine lv_null hf.1 hf.2.1 dX7_init_5 ?_
  refine mputT (K := []) (j := 0) (nt := 20) hf hw iX7 tyX7 tyX7_ok nmX7 0 rfl rfl 0 (by decide) k615 rfl rfl rfl htl rfl (by decide) (ws' := fun tl_1 => [(h0, .inr (6, tl_1))]) (fun _ => rfl) dX7_init_6 (fun tl_1 htl_1 H locs hw => ?_)
  refine lv_aload_n hf.1 hf.2.1 dX7_init_9 rfl (lv_at hl 0 rfl) ?_
  refine mnew (ci := 1) (fs := dfX1) hf hw iX1 tyX1 tyX1_ok k560 k561 k196 rfl (hfs_of dfX1_ok) (ce := 1) (sl := 13) rfl rfl (Nat.le_of_ble_eq_true rfl) (Nat.le_of_ble_eq_true rfl) dX7_init_10 (fun q_2 H hw => ?_)
  refine lv_dup hf.1 hf.2.1 dX7_init_13 rfl ?_
  refine mIN_v (As := []) (rest := [.ref q_2, .ref h0]) (wr := [(h0, .inr (6, tl_1))]) (tr := []) hf hw (c_Heap_init l dC dI q_2 dfX1 H.size hdfX1) ka_X1_init k563 rfl n562 [1] [] [0] [] rfl rfl rfl rfl rfl (by decide) rfl rfl rfl hl.1 rfl rfl ⟨Nat.le_of_ble_eq_true rfl, Nat.le_of_ble_eq_true rfl⟩ (Nat.le_of_ble_eq_true rfl) (ce := 11) (sl := 13013) rfl rfl ⟨Nat.le_of_ble_eq_true rfl, Nat.le_of_ble_eq_true rfl⟩ dX7_init_14 (fun u_4 hu_4 H locs hw => ?_)
  have hw : Wd dC dI A [(h0, .inr (6, tl_1))] [] s H locs := hw
  refine mputFT (K := []) (j := 1) (nt := 20) hf hin hw iX7 tyX7 tyX7_ok nmX7 0 rfl rfl 1 (by decide) k616 rfl rfl rfl rfl htl_1 rfl (by decide) (ws' := fun tl_5 => [(h0, .inr (6, tl_5))]) (fun _ => rfl) dX7_init_17 (fun tl_5 htl_5 H locs hw => ?_)
  refine lv_aload_n hf.1 hf.2.1 dX7_init_20 rfl (lv_at hl 0 rfl) ?_
  refine lv_null hf.1 hf.2.1 dX7_init_21 ?_
  refine mputT (K := []) (j := 2) (nt := 20) hf hw iX7 tyX7 tyX7_ok nmX7 0 rfl rfl 2 (by decide) k617 rfl rfl rfl htl_5 rfl (by decide) (ws' := fun tl_6 => [(h0, .inr (6, tl_6))]) (fun _ => rfl) dX7_init_22 (fun tl_6 htl_6 H locs hw => ?_)
  refine lv_aload_n hf.1 hf.2.1 dX7_init_25 rfl (lv_at hl 0 rfl) ?_
  refine lv_iconst (v := 0) hf.1 hf.2.1 dX7_init_26 (by decide) ?_
  refine mputT (K := []) (j := 3) (nt := 20) hf hw iX7 tyX7 tyX7_ok nmX7 0 rfl rfl 3 (by decide) k618 rfl rfl rfl htl_6 rfl (by decide) (ws' := fun tl_7 => [(h0, .inr (6, tl_7))]) (fun _ => rfl) dX7_init_27 (fun tl_7 htl_7 H locs hw => ?_)
  refine lv_aload_n hf.1 hf.2.1 dX7_init_30 rfl (lv_at hl 0 rfl) ?_
  refine lv_iconst (v := 0) hf.1 hf.2.1 dX7_init_31 (by decide) ?_
  refine mputT (K := []) (j := 4) (nt := 20) hf hw iX7 tyX7 tyX7_ok nmX7 0 rfl rfl 4 (by decide) k619 rfl rfl rfl htl_7 rfl (by decide) (ws' := fun tl_8 => [(h0, .inr (6, tl_8))]) (fun _ => rfl) dX7_init_32 (fun tl_8 htl_8 H locs hw => ?_)
  refine lv_aload_n hf.1 hf.2.1 dX7_init_35 rfl (lv_at hl 0 rfl) ?_
  refine lv_iconst (v := 0) hf.1 hf.2.1 dX7_init_36 (by decide) ?_
  refine mputT (K := []) (j := 5) (nt := 20) hf hw iX7 tyX7 tyX7_ok nmX7 0 rfl rfl 5 (by decide) k620 rfl rfl rfl htl_8 rfl (by decide) (ws' := fun tl_9 => [(h0, .inr (6, tl_9))]) (fun _ => rfl) dX7_init_37 (fun tl_9 htl_9 H locs hw => ?_)
  refine lv_aload_n hf.1 hf.2.1 dX7_init_40 rfl (lv_at hl 0 rfl) ?_
  refine lv_iconst (v := (-1)) hf.1 hf.2.1 dX7_init_41 (by decide) ?_
  refine mputT (K := []) (j := 6) (nt := 20) hf hw iX7 tyX7 tyX7_ok nmX7 0 rfl rfl 6 (by decide) k621 rfl rfl rfl htl_9 rfl (by decide) (ws' := fun tl_10 => [(h0, .inr (6, tl_10))]) (fun _ => rfl) dX7_init_42 (fun tl_10 htl_10 H locs hw => ?_)
  refine lv_aload_n hf.1 hf.2.1 dX7_init_45 rfl (lv_at hl 0 rfl) ?_
  refine lv_iconst (v := (-1)) hf.1 hf.2.1 dX7_init_46 (by decide) ?_
  refine mputT (K := []) (j := 7) (nt := 20) hf hw iX7 tyX7 tyX7_ok nmX7 0 rfl rfl 7 (by decide) k622 rfl rfl rfl htl_10 rfl (by decide) (ws' := fun tl_11 => [(h0, .inr (6, tl_11))]) (fun _ => rfl) dX7_init_47 (fun tl_11 htl_11 H locs hw => ?_)
  refine lv_aload_n hf.1 hf.2.1 dX7_init_50 rfl (lv_at hl 0 rfl) ?_
  refine lv_iconst (v := 0) hf.1 hf.2.1 dX7_init_51 (by decide) ?_
  refine mputT (K := []) (j := 8) (nt := 20) hf hw iX7 tyX7 tyX7_ok nmX7 0 rfl rfl 8 (by decide) k623 rfl rfl rfl htl_11 rfl (by decide) (ws' := fun tl_12 => [(h0, .inr (6, tl_12))]) (fun _ => rfl) dX7_init_52 (fun tl_12 htl_12 H locs hw => ?_)
  refine lv_aload_n hf.1 hf.2.1 dX7_init_55 rfl (lv_at hl 0 rfl) ?_
  refine lv_iconst (v := 0) hf.1 hf.2.1 dX7_init_56 (by decide) ?_
  refine mputT (K := []) (j := 9) (nt := 20) hf hw iX7 tyX7 tyX7_ok nmX7 0 rfl rfl 9 (by decide) k624 rfl rfl rfl htl_12 rfl (by decide) (ws' := fun tl_13 => [(h0, .inr (6, tl_13))]) (fun _ => rfl) dX7_init_57 (fun tl_13 htl_13 H locs hw => ?_)
  refine lv_aload_n hf.1 hf.2.1 dX7_init_60 rfl (lv_at hl 0 rfl) ?_
  refine lv_iconst (v := 0) hf.1 hf.2.1 dX7_init_61 (by decide) ?_
  refine mputT (K := []) (j := 10) (nt := 20) hf hw iX7 tyX7 tyX7_ok nmX7 0 rfl rfl 10 (by decide) k625 rfl rfl rfl htl_13 rfl (by decide) (ws' := fun tl_14 => [(h0, .inr (6, tl_14))]) (fun _ => rfl) dX7_init_62 (fun tl_14 htl_14 H locs hw => ?_)
  refine lv_aload_n hf.1 hf.2.1 dX7_init_65 rfl (lv_at hl 0 rfl) ?_
  refine lv_iconst (v := 0) hf.1 hf.2.1 dX7_init_66 (by decide) ?_
  refine mputT (K := []) (j := 11) (nt := 20) hf hw iX7 tyX7 tyX7_ok nmX7 0 rfl rfl 11 (by decide) k626 rfl rfl rfl htl_14 rfl (by decide) (ws' := fun tl_15 => [(h0, .inr (6, tl_15))]) (fun _ => rfl) dX7_init_67 (fun tl_15 htl_15 H locs hw => ?_)
  refine lv_aload_n hf.1 hf.2.1 dX7_init_70 rfl (lv_at hl 0 rfl) ?_
  refine lv_bipush (v := 100) hf.1 hf.2.1 dX7_init_71 (by decide) ?_
  refine mnewaD hf hw (atype := .int) (ty := .int) (a0 := (100, .inl (fun _ => 0))) k277 rfl (fun _ => rfl) (by decide) rfl (Nat.le_of_ble_eq_true rfl) (ce := 12) (sl := 13113) rfl rfl (Nat.le_of_ble_eq_true rfl) (Nat.le_of_ble_eq_true rfl) dX7_init_73 (fun q_16 H hw => ?_)
  refine mputFT (K := []) (j := 12) (nt := 20) hf hin hw iX7 tyX7 tyX7_ok nmX7 0 rfl rfl 12 (by decide) k627 rfl rfl rfl rfl htl_15 rfl (by decide) (ws' := fun tl_17 => [(h0, .inr (6, tl_17))]) (fun _ => rfl) dX7_init_75 (fun tl_17 htl_17 H locs hw => ?_)
  refine lv_aload_n hf.1 hf.2.1 dX7_init_78 rfl (lv_at hl 0 rfl) ?_
  refine lv_sipush (v := 4400) hf.1 hf.2.1 dX7_init_79 (by decide) ?_
  refine mnewaD hf hw (atype := .long) (ty := .long) (a0 := (4400, .inr (.inl (fun _ => 0)))) k373 rfl (fun _ => rfl) (by decide) rfl (Nat.le_of_ble_eq_true rfl) (ce := 13) (sl := 17513) rfl rfl (Nat.le_of_ble_eq_true rfl) (Nat.le_of_ble_eq_true rfl) dX7_init_82 (fun q_18 H hw => ?_)
  refine mputFT (K := []) (j := 13) (nt := 20) hf hin hw iX7 tyX7 tyX7_ok nmX7 0 rfl rfl 13 (by decide) k628 rfl rfl rfl rfl htl_17 rfl (by decide) (ws' := fun tl_19 => [(h0, .inr (6, tl_19))]) (fun _ => rfl) dX7_init_84 (fun tl_19 htl_19 H locs hw => ?_)
  refine lv_aload_n hf.1 hf.2.1 dX7_init_87 rfl (lv_at hl 0 rfl) ?_
  refine lv_sipush (v := 20002) hf.1 hf.2.1 dX7_init_88 (by decide) ?_
  refine mnewaD hf hw (atype := .long) (ty := .long) (a0 := (20002, .inr (.inl (fun _ => 0)))) k373 rfl (fun _ => rfl) (by decide) rfl (Nat.le_of_ble_eq_true rfl) (ce := 14) (sl := 37515) rfl rfl (Nat.le_of_ble_eq_true rfl) (Nat.le_of_ble_eq_true rfl) dX7_init_91 (fun q_20 H hw => ?_)
  refine mputFT (K := []) (j := 14) (nt := 20) hf hin hw iX7 tyX7 tyX7_ok nmX7 0 rfl rfl 14 (by decide) k629 rfl rfl rfl rfl htl_19 rfl (by decide) (ws' := fun tl_21 => [(h0, .inr (6, tl_21))]) (fun _ => rfl) dX7_init_93 (fun tl_21 htl_21 H locs hw => ?_)
  refine lv_aload_n hf.1 hf.2.1 dX7_init_96 rfl (lv_at hl 0 rfl) ?_
  refine lv_iconst (v := 0) hf.1 hf.2.1 dX7_init_97 (by decide) ?_
  refine mputT (K := []) (j := 15) (nt := 20) hf hw iX7 tyX7 tyX7_ok nmX7 0 rfl rfl 15 (by decide) k630 rfl rfl rfl htl_21 rfl (by decide) (ws' := fun tl_22 => [(h0, .inr (6, tl_22))]) (fun _ => rfl) dX7_init_98 (fun tl_22 htl_22 H locs hw => ?_)
  refine lv_aload_n hf.1 hf.2.1 dX7_init_101 rfl (lv_at hl 0 rfl) ?_
  refine lv_bipush (v := 20) hf.1 hf.2.1 dX7_init_102 (by decide) ?_
  refine mnewaD hf hw (atype := .int) (ty := .int) (a0 := (20, .inl (fun _ => 0))) k277 rfl (fun _ => rfl) (by decide) rfl (Nat.le_of_ble_eq_true rfl) (ce := 15) (sl := 37535) rfl rfl (Nat.le_of_ble_eq_true rfl) (Nat.le_of_ble_eq_true rfl) dX7_init_104 (fun q_23 H hw => ?_)
  refine mputFT (K := []) (j := 16) (nt := 20) hf hin hw iX7 tyX7 tyX7_ok nmX7 0 rfl rfl 16 (by decide) k631 rfl rfl rfl rfl htl_22 rfl (by decide) (ws' := fun tl_24 => [(h0, .inr (6, tl_24))]) (fun _ => rfl) dX7_init_106 (fun tl_24 htl_24 H locs hw => ?_)
  refine lv_aload_n hf.1 hf.2.1 dX7_init_109 rfl (lv_at hl 0 rfl) ?_
  refine lv_sipush (v := 200) hf.1 hf.2.1 dX7_init_110 (by decide) ?_
  refine mnewaD hf hw (atype := .int) (ty := .int) (a0 := (200, .inl (fun _ => 0))) k277 rfl (fun _ => rfl) (by decide) rfl (Nat.le_of_ble_eq_true rfl) (ce := 16) (sl := 37735) rfl rfl (Nat.le_of_ble_eq_true rfl) (Nat.le_of_ble_eq_true rfl) dX7_init_113 (fun q_25 H hw => ?_)
  refine mputFT (K := []) (j := 17) (nt := 20) hf hin hw iX7 tyX7 tyX7_ok nmX7 0 rfl rfl 17 (by decide) k632 rfl rfl rfl rfl htl_24 rfl (by decide) (ws' := fun tl_26 => [(h0, .inr (6, tl_26))]) (fun _ => rfl) dX7_init_115 (fun tl_26 htl_26 H locs hw => ?_)
  refine lv_aload_n hf.1 hf.2.1 dX7_init_118 rfl (lv_at hl 0 rfl) ?_
  refine lv_iconst (v := 0) hf.1 hf.2.1 dX7_init_119 (by decide) ?_
  refine mputT (K := []) (j := 18) (nt := 20) hf hw iX7 tyX7 tyX7_ok nmX7 0 rfl rfl 18 (by decide) k634 rfl rfl rfl htl_26 rfl (by decide) (ws' := fun tl_27 => [(h0, .inr (6, tl_27))]) (fun _ => rfl) dX7_init_120 (fun tl_27 htl_27 H locs hw => ?_)
  refine lv_aload_n hf.1 hf.2.1 dX7_init_123 rfl (lv_at hl 0 rfl) ?_
  refine lv_sipush (v := 1600) hf.1 hf.2.1 dX7_init_124 (by decide) ?_
  refine mnewaD hf hw (atype := .int) (ty := .int) (a0 := (1600, .inl (fun _ => 0))) k277 rfl (fun _ => rfl) (by decide) rfl (Nat.le_of_ble_eq_true rfl) (ce := 17) (sl := 39335) rfl rfl (Nat.le_of_ble_eq_true rfl) (Nat.le_of_ble_eq_true rfl) dX7_init_127 (fun q_28 H hw => ?_)
  refine mputFT (K := []) (j := 19) (nt := 20) hf hin hw iX7 tyX7 tyX7_ok nmX7 0 rfl rfl 19 (by decide) k636 rfl rfl rfl rfl htl_27 rfl (by decide) (ws' := fun tl_29 => [(h0, .inr (6, tl_29))]) (fun _ => rfl) dX7_init_129 (fun tl_29 htl_29 H locs hw => ?_)
  exact mret_v hf hr hlk hw () trivial [] [] rfl rfl rfl (Nat.le_of_ble_eq_true rfl) (Nat.le_of_ble_eq_true rfl) dX7_init_132
end
section
theorem dJ7_fill_53178_0 : decode cJ7_fill_53178 0 = .ok (.iconst 0, 1) := by decide +kernel
theorem dJ7_fill_53178_1 : decode cJ7_fill_53178 1 = .ok (.istore_n 2, 1) := by decide +kernel
theorem dJ7_fill_53178_2 : decode cJ7_fill_53178 2 = .ok (.aload_n 0, 1) := by decide +kernel
theorem dJ7_fill_53178_3 : decode cJ7_fill_53178 3 = .ok (.arraylength, 1) := by decide +kernel
theorem dJ7_fill_53178_4 : decode cJ7_fill_53178 4 = .ok (.istore_n 3, 1) := by decide +kernel
theorem dJ7_fill_53178_5 : decode cJ7_fill_53178 5 = .ok (.iload_n 2, 1) := by decide +kernel
theorem dJ7_fill_53178_6 : decode cJ7_fill_53178 6 = .ok (.iload_n 3, 1) := by decide +kernel
theorem dJ7_fill_53178_7 : decode cJ7_fill_53178 7 = .ok (.if_icmp .ge 13, 3) := by decide +kernel
theorem dJ7_fill_53178_10 : decode cJ7_fill_53178 10 = .ok (.aload_n 0, 1) := by decide +kernel
theorem dJ7_fill_53178_11 : decode cJ7_fill_53178 11 = .ok (.iload_n 2, 1) := by decide +kernel
theorem dJ7_fill_53178_12 : decode cJ7_fill_53178 12 = .ok (.iload_n 1, 1) := by decide +kernel
theorem dJ7_fill_53178_13 : decode cJ7_fill_53178 13 = .ok (.iastore, 1) := by decide +kernel
theorem dJ7_fill_53178_14 : decode cJ7_fill_53178 14 = .ok (.iinc 2 1, 3) := by decide +kernel
theorem dJ7_fill_53178_17 : decode cJ7_fill_53178 17 = .ok (.goto (-12), 3) := by decide +kernel
theorem dJ7_fill_53178_20 : decode cJ7_fill_53178 20 = .ok (.return_, 1) := by decide +kernel
theorem dX3_bucketOf_0 : decode cX3_bucketOf 0 = .ok (.iload_n 0, 1) := by decide +kernel
theorem dX3_bucketOf_1 : decode cX3_bucketOf 1 = .ok (.iload_n 0, 1) := by decide +kernel
theorem dX3_bucketOf_2 : decode cX3_bucketOf 2 = .ok (.bipush 9, 2) := by decide +kernel
theorem dX3_bucketOf_4 : decode cX3_bucketOf 4 = .ok (.iushr, 1) := by decide +kernel
theorem dX3_bucketOf_5 : decode cX3_bucketOf 5 = .ok (.ixor, 1) := by decide +kernel
theorem dX3_bucketOf_6 : decode cX3_bucketOf 6 = .ok (.iload_n 0, 1) := by decide +kernel
theorem dX3_bucketOf_7 : decode cX3_bucketOf 7 = .ok (.bipush 18, 2) := by decide +kernel
theorem dX3_bucketOf_9 : decode cX3_bucketOf 9 = .ok (.iushr, 1) := by decide +kernel
theorem dX3_bucketOf_10 : decode cX3_bucketOf 10 = .ok (.ixor, 1) := by decide +kernel
theorem dX3_bucketOf_11 : decode cX3_bucketOf 11 = .ok (.sipush 511, 3) := by decide +kernel
theorem dX3_bucketOf_14 : decode cX3_bucketOf 14 = .ok (.iand, 1) := by decide +kernel
theorem dX3_bucketOf_15 : decode cX3_bucketOf 15 = .ok (.ireturn, 1) := by decide +kernel
theorem dX3_codeOf_0 : decode cX3_codeOf 0 = .ok (.iload_n 1, 1) := by decide +kernel
theorem dX3_codeOf_1 : decode cX3_codeOf 1 = .ok (.ifCond .lt 20, 3) := by decide +kernel
theorem dX3_codeOf_4 : decode cX3_codeOf 4 = .ok (.iload_n 1, 1) := by decide +kernel
theorem dX3_codeOf_5 : decode cX3_codeOf 5 = .ok (.aload_n 0, 1) := by decide +kernel
theorem dX3_codeOf_6 : decode cX3_codeOf 6 = .ok (.getfield 34, 3) := by decide +kernel
theorem dX3_codeOf_9 : decode cX3_codeOf 9 = .ok (.if_icmp .ge 12, 3) := by decide +kernel
theorem dX3_codeOf_12 : decode cX3_codeOf 12 = .ok (.aload_n 0, 1) := by decide +kernel
theorem dX3_codeOf_13 : decode cX3_codeOf 13 = .ok (.getfield 21, 3) := by decide +kernel
theorem dX3_codeOf_16 : decode cX3_codeOf 16 = .ok (.iload_n 1, 1) := by decide +kernel
theorem dX3_codeOf_17 : decode cX3_codeOf 17 = .ok (.iaload, 1) := by decide +kernel
theorem dX3_codeOf_18 : decode cX3_codeOf 18 = .ok (.goto 4, 3) := by decide +kernel
theorem dX3_codeOf_21 : decode cX3_codeOf 21 = .ok (.iconst (-1), 1) := by decide +kernel
theorem dX3_codeOf_22 : decode cX3_codeOf 22 = .ok (.ireturn, 1) := by decide +kernel
theorem dX3_hasAny_0 : decode cX3_hasAny 0 = .ok (.iload_n 1, 1) := by decide +kernel
theorem dX3_hasAny_1 : decode cX3_hasAny 1 = .ok (.ifCond .lt 24, 3) := by decide +kernel
theorem dX3_hasAny_4 : decode cX3_hasAny 4 = .ok (.iload_n 1, 1) := by decide +kernel
theorem dX3_hasAny_5 : decode cX3_hasAny 5 = .ok (.aload_n 0, 1) := by decide +kernel
theorem dX3_hasAny_6 : decode cX3_hasAny 6 = .ok (.getfield 34, 3) := by decide +kernel
theorem dX3_hasAny_9 : decode cX3_hasAny 9 = .ok (.if_icmp .ge 16, 3) := by decide +kernel
theorem dX3_hasAny_12 : decode cX3_hasAny 12 = .ok (.aload_n 0, 1) := by decide +kernel
theorem dX3_hasAny_13 : decode cX3_hasAny 13 = .ok (.getfield 24, 3) := by decide +kernel
theorem dX3_hasAny_16 : decode cX3_hasAny 16 = .ok (.iload_n 1, 1) := by decide +kernel
theorem dX3_hasAny_17 : decode cX3_hasAny 17 = .ok (.baload, 1) := by decide +kernel
theorem dX3_hasAny_18 : decode cX3_hasAny 18 = .ok (.ifCond .eq 7, 3) := by decide +kernel
theorem dX3_hasAny_21 : decode cX3_hasAny 21 = .ok (.iconst 1, 1) := by decide +kernel
theorem dX3_hasAny_22 : decode cX3_hasAny 22 = .ok (.goto 4, 3) := by decide +kernel
theorem dX3_hasAny_25 : decode cX3_hasAny 25 = .ok (.iconst 0, 1) := by decide +kernel
theorem dX3_hasAny_26 : decode cX3_hasAny 26 = .ok (.ireturn, 1) := by decide +kernel
theorem dX3_isSame_0 : decode cX3_isSame 0 = .ok (.aload_n 0, 1) := by decide +kernel
theorem dX3_isSame_1 : decode cX3_isSame 1 = .ok (.getfield 15, 3) := by decide +kernel
theorem dX3_isSame_4 : decode cX3_isSame 4 = .ok (.iload_n 1, 1) := by decide +kernel
theorem dX3_isSame_5 : decode cX3_isSame 5 = .ok (.iaload, 1) := by decide +kernel
theorem dX3_isSame_6 : decode cX3_isSame 6 = .ok (.iload_n 2, 1) := by decide +kernel
theorem dX3_isSame_7 : decode cX3_isSame 7 = .ok (.if_icmp .ne 18, 3) := by decide +kernel
theorem dX3_isSame_10 : decode cX3_isSame 10 = .ok (.aload_n 0, 1) := by decide +kernel
theorem dX3_isSame_11 : decode cX3_isSame 11 = .ok (.getfield 18, 3) := by decide +kernel
theorem dX3_isSame_14 : decode cX3_isSame 14 = .ok (.iload_n 1, 1) := by decide +kernel
theorem dX3_isSame_15 : decode cX3_isSame 15 = .ok (.iconst 5, 1) := by decide +kernel
theorem dX3_isSame_16 : decode cX3_isSame 16 = .ok (.imul, 1) := by decide +kernel
theorem dX3_isSame_17 : decode cX3_isSame 17 = .ok (.iconst 4, 1) := by decide +kernel
theorem dX3_isSame_18 : decode cX3_isSame 18 = .ok (.iadd, 1) := by decide +kernel
theorem dX3_isSame_19 : decode cX3_isSame 19 = .ok (.iaload, 1) := by decide +kernel
theorem dX3_isSame_20 : decode cX3_isSame 20 = .ok (.iload 5, 2) := by decide +kernel
theorem dX3_isSame_22 : decode cX3_isSame 22 = .ok (.if_icmp .eq 5, 3) := by decide +kernel
theorem dX3_isSame_25 : decode cX3_isSame 25 = .ok (.iconst 0, 1) := by decide +kernel
theorem dX3_isSame_26 : decode cX3_isSame 26 = .ok (.ireturn, 1) := by decide +kernel
theorem dX3_isSame_27 : decode cX3_isSame 27 = .ok (.iconst 0, 1) := by decide +kernel
theorem dX3_isSame_28 : decode cX3_isSame 28 = .ok (.istore 6, 2) := by decide +kernel
theorem dX3_isSame_30 : decode cX3_isSame 30 = .ok (.iload 6, 2) := by decide +kernel
theorem dX3_isSame_32 : decode cX3_isSame 32 = .ok (.iload_n 2, 1) := by decide +kernel
theorem dX3_isSame_33 : decode cX3_isSame 33 = .ok (.if_icmp .ge 32, 3) := by decide +kernel
theorem dX3_isSame_36 : decode cX3_isSame 36 = .ok (.aload_n 0, 1) := by decide +kernel
theorem dX3_isSame_37 : decode cX3_isSame 37 = .ok (.getfield 18, 3) := by decide +kernel
theorem dX3_isSame_40 : decode cX3_isSame 40 = .ok (.iload_n 1, 1) := by decide +kernel
theorem dX3_isSame_41 : decode cX3_isSame 41 = .ok (.iconst 5, 1) := by decide +kernel
theorem dX3_isSame_42 : decode cX3_isSame 42 = .ok (.imul, 1) := by decide +kernel
theorem dX3_isSame_43 : decode cX3_isSame 43 = .ok (.iload 6, 2) := by decide +kernel
theorem dX3_isSame_45 : decode cX3_isSame 45 = .ok (.iadd, 1) := by decide +kernel
theorem dX3_isSame_46 : decode cX3_isSame 46 = .ok (.iaload, 1) := by decide +kernel
theorem dX3_isSame_47 : decode cX3_isSame 47 = .ok (.aload_n 3, 1) := by decide +kernel
theorem dX3_isSame_48 : decode cX3_isSame 48 = .ok (.iload 4, 2) := by decide +kernel
theorem dX3_isSame_50 : decode cX3_isSame 50 = .ok (.iload 6, 2) := by decide +kernel
theorem dX3_isSame_52 : decode cX3_isSame 52 = .ok (.iadd, 1) := by decide +kernel
theorem dX3_isSame_53 : decode cX3_isSame 53 = .ok (.iaload, 1) := by decide +kernel
theorem dX3_isSame_54 : decode cX3_isSame 54 = .ok (.if_icmp .eq 5, 3) := by decide +kernel
theorem dX3_isSame_57 : decode cX3_isSame 57 = .ok (.iconst 0, 1) := by decide +kernel
theorem dX3_isSame_58 : decode cX3_isSame 58 = .ok (.ireturn, 1) := by decide +kernel
theorem dX3_isSame_59 : decode cX3_isSame 59 = .ok (.iinc 6 1, 3) := by decide +kernel
theorem dX3_isSame_62 : decode cX3_isSame 62 = .ok (.goto (-32), 3) := by decide +kernel
theorem dX3_isSame_65 : decode cX3_isSame 65 = .ok (.iconst 1, 1) := by decide +kernel
theorem dX3_isSame_66 : decode cX3_isSame 66 = .ok (.ireturn, 1) := by decide +kernel
theorem k251 : Cond.fieldLink "BlameCourt$Kinds" 15 "BlameCourt$Kinds" "takes" "[I" ∈ gtb := gtm (in_tables_1_1 (List.mem_of_getElem? (i := 65) rfl)) rfl
theorem k252 : Cond.fieldLink "BlameCourt$Kinds" 18 "BlameCourt$Kinds" "inne\x72" "[I" ∈ gtb := gtm (in_tables_1_1 (List.mem_of_getElem? (i := 66) rfl)) rfl
theorem k253 : Cond.fieldLink "BlameCourt$Kinds" 21 "BlameCourt$Kinds" "code" "[I" ∈ gtb := gtm (in_tables_1_1 (List.mem_of_getElem? (i := 67) rfl)) rfl
theorem k254 : Cond.fieldLink "BlameCourt$Kinds" 24 "BlameCourt$Kinds" "hasAny" "[Z" ∈ gtb := gtm (in_tables_1_1 (List.mem_of_getElem? (i := 68) rfl)) rfl
theorem k257 : Cond.fieldLink "BlameCourt$Kinds" 34 "BlameCourt$Kinds" "count" "I" ∈ gtb := gtm (in_tables_1_1 (List.mem_of_getElem? (i := 71) rfl)) rfl
theorem k229 : Cond.code yX3_bucketOf cX3_bucketOf 1 (some .int) ∈ gtb := gtm (in_tables_1_1 (List.mem_of_getElem? (i := 43) rfl)) rfl
theorem k189 : Cond.initialized "BlameCourt$Kinds" ∈ gtb := gtm (in_tables_1_1 (List.mem_of_getElem? (i := 3) rfl)) rfl
theorem ka_X3_bucketOf : KA yX3_bucketOf cX3_bucketOf 1 (some .int) 1 := ⟨k229, k189, by decide, by decide, by decide +kernel⟩
theorem k245 : Cond.code yX3_codeOf cX3_codeOf 2 (some .int) ∈ gtb := gtm (in_tables_1_1 (List.mem_of_getElem? (i := 59) rfl)) rfl
theorem ka_X3_codeOf : KA yX3_codeOf cX3_codeOf 2 (some .int) 1 := ⟨k245, k189, by decide, by decide, by decide +kernel⟩
theorem k243 : Cond.instanceMethod yX3_codeOf ∈ gtb := gtm (in_tables_1_1 (List.mem_of_getElem? (i := 57) rfl)) rfl
theorem k244 : Cond.selects "BlameCourt$Kinds" yX3_codeOf yX3_codeOf ∈ gtb := gtm (in_tables_1_1 (List.mem_of_getElem? (i := 58) rfl)) rfl
theorem kv_X3_codeOf : KV yX3_codeOf := ⟨k243, k244⟩
theorem k237 : Cond.code yX3_hasAny cX3_hasAny 2 (some .boolean) ∈ gtb := gtm (in_tables_1_1 (List.mem_of_getElem? (i := 51) rfl)) rfl
theorem ka_X3_hasAny : KA yX3_hasAny cX3_hasAny 2 (some .boolean) 1 := ⟨k237, k189, by decide, by decide, by decide +kernel⟩
theorem k235 : Cond.instanceMethod yX3_hasAny ∈ gtb := gtm (in_tables_1_1 (List.mem_of_getElem? (i := 49) rfl)) rfl
theorem k236 : Cond.selects "BlameCourt$Kinds" yX3_hasAny yX3_hasAny ∈ gtb := gtm (in_tables_1_1 (List.mem_of_getElem? (i := 50) rfl)) rfl
theorem kv_X3_hasAny : KV yX3_hasAny := ⟨k235, k236⟩
theorem k233 : Cond.code yX3_isSame cX3_isSame 7 (some .boolean) ∈ gtb := gtm (in_tables_1_1 (List.mem_of_getElem? (i := 47) rfl)) rfl
theorem ka_X3_isSame : KA yX3_isSame cX3_isSame 7 (some .boolean) 5 := ⟨k233, k189, by decide, by decide, by decide +kernel⟩
theorem k232 : Cond.instanceMethod yX3_isSame ∈ gtb := gtm (in_tables_1_1 (List.mem_of_getElem? (i := 46) rfl)) rfl
theorem k1 : Cond.selects "BlameCourt$Kinds" yX3_isSame yX3_isSame ∈ gtb := gtm (in_lw_privs_1 (q := (yX3_isSame, 8)) (List.mem_of_getElem? (i := 1) rfl)) rfl
theorem kv_X3_isSame : KV yX3_isSame := ⟨k232, k1⟩
theorem k222 : Cond.code yJ7_fill_53178 cJ7_fill_53178 4 none ∈ gtb := gtm (in_tables_1_1 (List.mem_of_getElem? (i := 36) rfl)) rfl
theorem k190 : Cond.initialized "java/util/Arrays" ∈ gtb := gtm (in_tables_1_1 (List.mem_of_getElem? (i := 4) rfl)) rfl
theorem ka_J7_fill_53178 : KA yJ7_fill_53178 cJ7_fill_53178 4 none 2 := ⟨k222, k190, by decide, by decide, by decide +kernel⟩
/-- numbers of the kinds' table -/
theorem nI_mul (a b : Nat) : nI a * nI b = nI (a * b) := (Int32.ofNat_mul a b).symm
theorem nI_m1 (k : Nat) : ¬ nI k = -1 ∨ 2147483648 ≤ k := by
  by_cases h : k < 2 ^ 31
  · refine Or.inl (fun q => ?_)
    have a := nI_toInt h
    rw [q] at a
    have e : (-1 : Int32).toInt = -1 := by decide
    omega
  · exact Or.inr (by omega)
theorem and511 (x : Int32) : ∃ b : Nat, b < 512 ∧ x &&& 511 = nI b := by
  refine ⟨(x &&& 511).toBitVec.toNat, ?_, ?_⟩
  · rw [Int32.toBitVec_and, BitVec.toNat_and]
    exact Nat.lt_of_le_of_lt Nat.and_le_right (by decide)
  · apply Int32.toBitVec_inj.mp
    apply BitVec.eq_of_toNat_eq
    have h : (x &&& 511).toBitVec.toNat < 2 ^ 32 := BitVec.isLt _
    show _ = (Int32.ofNat _).toBitVec.toNat
    rw [Int32.toBitVec_ofNat', BitVec.toNat_ofNat, Nat.mod_eq_of_lt h]
/-- an entry of the buckets: none, or a kind -/
def kiv (cnt : Nat) (x : Int32) : Prop := x = -1 ∨ ∃ k : Nat, k < cnt ∧ x = nI k
def KI (cnt : Nat) (bk nx : Nat → Int32) : Prop := (∀ b, b < 512 → kiv cnt (bk b)) ∧ ∀ k, k < cnt → kiv cnt (nx k)
theorem kiv.mono {a b : Nat} {x : Int32} (h : kiv a x) (hab : a ≤ b) : kiv b x := h.imp id (fun ⟨k, h1, h2⟩ => ⟨k, Nat.lt_of_lt_of_le h1 hab, h2⟩)
theorem KI.ins {cnt b : Nat} {bk nx : Nat → Int32} (h : KI cnt bk nx) (hb : b < 512) : KI (cnt + 1) (upd bk b (nI cnt)) (upd nx cnt (bk b)) := by
  refine ⟨fun j hj => ?_, fun k hk => ?_⟩
  · unfold upd
    split
    · exact Or.inr ⟨cnt, by omega, rfl⟩
    · exact (h.1 j hj).mono (by omega)
  · unfold upd
    split
    · exact (h.1 b hb).mono (by omega)
    · exact (h.2 k (by omega)).mono (by omega)
theorem nI_tc {k : Nat} (h : k < 2147483648) : (nI k).toNatClampNeg = k := nI_clamp (by omega)
theorem add_toInt {x : Int32} {j N : Nat} (h0 : 0 ≤ x.toInt) (h : x.toInt + j < N) (hN : N < 2147483648) : (x + nI j).toInt = x.toInt + j := by
  obtain ⟨a, ha, rfl⟩ := nI_of (x := x) (by rw [Int32.lt_iff_toInt_lt, Int32.toInt_zero]; omega)
  rw [nI_toInt ha] at h h0 ⊢
  rw [nI_add, nI_toInt (by omega)]
  omega
theorem vp_in_add {x : Int32} {j N : Nat} (h0 : 0 ≤ x.toInt) (h : x.toInt + j < N) (hN : N < 2147483648) : vp_in (x + nI j) N := vp_in_iff.mpr (by rw [add_toInt h0 h hN]; omega)
theorem nI_ge_lit {a : Nat} {n : Int32} (ha : a < 2147483648) (h : ¬ n ≤ nI a) : (a : Int) < n.toInt := by
  rw [Int32.le_iff_toInt_le, nI_toInt (by omega)] at h; omega
theorem nI_lt_lit {a : Nat} {n : Int32} (ha : a < 2147483648) (h : nI a < n) : (a : Int) < n.toInt := by
  rw [Int32.lt_iff_toInt_lt, nI_toInt (by omega)] at h; exact h

set_option maxHeartbeats 4000000 in
set_option maxRecDepth 100000 in
theorem c_fill (l : Launch) (dC : Nat → ClassId) (dI : Nat → Nat → Nat) (q : Nat) (cA : ClassId) (n : Nat) (f : Nat → Int32) (v : Int32) (sz : Nat) (hn : n < 2147483648) : Met l yJ7_fill_53178 (wsOf yJ7_fill_53178 cJ7_fill_53178 4 none) ({ frames := 6, cells := 0, slots := 0, locals := 90 } : Room) (va_Pc [.ref q, .int v] (PB dC dI sz [(q, .inl (cA, n, .inl f))] [(cA, .int)])) (va_Qv (S := (Nat → Int32)) (fun x => ∀ j, j < n → x j = v) (fun x t => PW dC dI (va_A [(q, .inl (cA, n, .inl f))] sz) ([(q, .inl (cA, n, .inl x))]) ([(cA, .int)]) t) (va_A [(q, .inl (cA, n, .inl f))] sz)) 0 0 (va_A [(q, .inl (cA, n, .inl f))] sz) := by
  refine mbody (b := cJ7_fill_53178) (n := 4) (ret := none) (Qc := fun A => (va_Qv (S := (Nat → Int32)) (fun x => ∀ j, j < n → x j = v) (fun x t => PW dC dI A ([(q, .inl (cA, n, .inl x))]) ([(cA, .int)]) t) A)) (by decide) (Nat.le_of_ble_eq_true rfl) ?_
  intro p e s m below meth c ls A H hf hr hin hlk hw hl
  have hl : lv_has ls 4 [(0, .ref q), (1, .int v)] := hl
  refine lv_iconst (v := 0) hf.1 hf.2.1 dJ7_fill_53178_0 (by decide) ?_
  refine lv_istore_n (lv' := [(2, .int 0), (0, .ref q), (1, .int v)]) hf.1 hf.2.1 dJ7_fill_53178_1 rfl hl (by decide) rfl (fun ls hl => ?_)
  refine lv_aload_n hf.1 hf.2.1 dJ7_fill_53178_2 rfl (lv_at hl 1 rfl) ?_
  refine malen hf hw 0 0 rfl rfl (v := nI n) rfl dJ7_fill_53178_3 ?_
  refine lv_istore_n (lv' := [(3, .int (nI n)), (2, .int 0), (0, .ref q), (1, .int v)]) hf.1 hf.2.1 dJ7_fill_53178_4 rfl hl (by decide) rfl (fun ls hl => ?_)
  have loop : ∀ (N : Nat) (i : Nat) (g : Nat → Int32) (H : Heap) (locs : List Loc) (ls : Array Slot), n - i < N → i ≤ n → (∀ j, j < i → g j = v) → Wd dC dI A [(q, .inl (cA, n, .inl g))] [(cA, .int)] s H locs → lv_has ls 4 [(3, .int (nI n)), (2, .int (nI i)), (0, .ref q), (1, .int v)] → W p l e ({ frames := 6, cells := 0, slots := 0, locals := 90 } : Room) s m [.ref q, .int v].toArray below meth c H locs 0 0 (MQ below (va_Qv (S := (Nat → Int32)) (fun x => ∀ j, j < n → x j = v) (fun x t => PW dC dI A ([(q, .inl (cA, n, .inl x))]) ([(cA, .int)]) t) A) [.ref q, .int v].toArray s 0 0 A) (F0 m 5 ls []) := by
    intro N
    induction N with
    | zero => intro i g H locs ls hm; exact absurd hm (Nat.not_lt_zero _)
    | succ N ih =>
      intro i g H locs ls hm hi hg hw hl
      refine lv_iload_n hf.1 hf.2.1 dJ7_fill_53178_5 rfl (lv_at hl 1 rfl) ?_
      refine lv_iload_n hf.1 hf.2.1 dJ7_fill_53178_6 rfl (lv_at hl 0 rfl) ?_
      refine lv_icmp_ge (tgt := 20) hf.1 hf.2.1 dJ7_fill_53178_7 (by decide) (fun c_1 => ?_) (fun c_1 => ?_)
      · exact mret_v hf hr hlk hw g (fun j hj => hg j (by have := Nat.not_lt.mp (fun q => nI_ge q (by omega) c_1); omega)) [0] [0] rfl rfl rfl (Nat.le_of_ble_eq_true rfl) (Nat.le_of_ble_eq_true rfl) dJ7_fill_53178_20
      · have hlt : i < n := by rcases Nat.lt_or_ge i n with q | q; exact q; exact absurd (nI_le q (by omega)) c_1
        refine lv_aload_n hf.1 hf.2.1 dJ7_fill_53178_10 rfl (lv_at hl 2 rfl) ?_
        refine lv_iload_n hf.1 hf.2.1 dJ7_fill_53178_11 rfl (lv_at hl 1 rfl) ?_
        refine lv_iload_n hf.1 hf.2.1 dJ7_fill_53178_12 rfl (lv_at hl 3 rfl) ?_
        refine miast hf hw 0 0 rfl rfl (vp_in_nI hlt (by omega)) dJ7_fill_53178_13 (fun f_2 ef_2 H locs hw => ?_)
        have hw : Wd dC dI A [(q, .inl (cA, n, .inl f_2))] [(cA, .int)] s H locs := hw
        obtain rfl : f_2 = upd g i v := by rw [ef_2, nI_tc (by omega)]
        obtain ⟨x_3, ex_3⟩ : ∃ y : Int32, y = (nI i) + 1 := ⟨_, rfl⟩
        refine lv_iinc (v := x_3) (lv' := [(2, .int x_3), (3, .int (nI n)), (0, .ref q), (1, .int v)]) hf.1 hf.2.1 dJ7_fill_53178_14 hl (k := 1) rfl (by rw [ex_3]; rfl) (by decide) rfl (fun ls hl => ?_)
        obtain rfl : x_3 = nI (i + 1) := by rw [ex_3, nI_1]
        refine lv_goto (tgt := 5) hf.1 hf.2.1 dJ7_fill_53178_17 (by decide) ?_
        exact ih (i + 1) (upd g i v) _ _ _ (by omega) (by omega) (fun j hj => by unfold upd; split; rfl; exact hg j (by omega)) hw (lv_sub hl [1, 0, 2, 3] rfl)
  exact loop (n + 1) 0 f _ _ _ (by omega) (Nat.zero_le _) (fun j hj => absurd hj (Nat.not_lt_zero _)) hw (lv_sub hl [0, 1, 2, 3] rfl)

set_option maxHeartbeats 4000000 in
set_option maxRecDepth 100000 in
theorem c_bucketOf (l : Launch) (dC : Nat → ClassId) (dI : Nat → Nat → Nat) (x : Int32) (sz : Nat) : Met l yX3_bucketOf (wsOf yX3_bucketOf cX3_bucketOf 1 (some .int)) ({ frames := 6, cells := 0, slots := 0, locals := 90 } : Room) (va_Pc [.int x] (PB dC dI sz [] [])) (va_Qi (S := Unit) (fun r _ => ∃ b : Nat, b < 512 ∧ r = nI b) (fun x t => PW dC dI (va_A [] sz) ([]) ([]) t) (va_A [] sz)) 0 0 (va_A [] sz) := by
  refine mbody (b := cX3_bucketOf) (n := 1) (ret := (some .int)) (Qc := fun A => (va_Qi (S := Unit) (fun r _ => ∃ b : Nat, b < 512 ∧ r = nI b) (fun x t => PW dC dI A ([]) ([]) t) A)) (by decide) (Nat.le_of_ble_eq_true rfl) ?_
  intro p e s m below meth c ls A H hf hr hin hlk hw hl
  have hl : lv_has ls 1 [(0, .int x)] := hl
  refine lv_iload_n hf.1 hf.2.1 dX3_bucketOf_0 rfl (lv_at hl 0 rfl) ?_
  refine lv_iload_n hf.1 hf.2.1 dX3_bucketOf_1 rfl (lv_at hl 0 rfl) ?_
  refine lv_bipush (v := 9) hf.1 hf.2.1 dX3_bucketOf_2 (by decide) ?_
  refine lv_iushr hf.1 hf.2.1 dX3_bucketOf_4 rfl ?_
  refine lv_topi (fun x_1 ex_1 => ?_)
  refine lv_ixor hf.1 hf.2.1 dX3_bucketOf_5 ?_
  refine lv_topi (fun x_2 ex_2 => ?_)
  refine lv_iload_n hf.1 hf.2.1 dX3_bucketOf_6 rfl (lv_at hl 0 rfl) ?_
  refine lv_bipush (v := 18) hf.1 hf.2.1 dX3_bucketOf_7 (by decide) ?_
  refine lv_iushr hf.1 hf.2.1 dX3_bucketOf_9 rfl ?_
  refine lv_topi (fun x_3 ex_3 => ?_)
  refine lv_ixor hf.1 hf.2.1 dX3_bucketOf_10 ?_
  refine lv_topi (fun x_4 ex_4 => ?_)
  refine lv_sipush (v := 511) hf.1 hf.2.1 dX3_bucketOf_11 (by decide) ?_
  refine lv_iand hf.1 hf.2.1 dX3_bucketOf_14 ?_
  refine lv_topi (fun x_5 ex_5 => ?_)
  obtain ⟨b, hb, eb⟩ := and511 _
  exact mret_i (v := x_5) hf hr hlk hw () ⟨b, hb, by rw [ex_5]; exact eb⟩ [] [] rfl rfl rfl (Nat.le_of_ble_eq_true rfl) (Nat.le_of_ble_eq_true rfl) dX3_bucketOf_15

set_option maxHeartbeats 4000000 in
set_option maxRecDepth 100000 in
theorem c_hasAny (l : Launch) (dC : Nat → ClassId) (dI : Nat → Nat → Nat) (h0 q1 q2 q3 q4 q5 q6 q7 : Nat) (c5 : ClassId) (f5 : Nat → Int32) (cnt : Nat) (kd : Int32) (sz : Nat) (hc : cnt ≤ 1549) : Met l yX3_hasAny (wsOf yX3_hasAny cX3_hasAny 2 (some .boolean)) ({ frames := 6, cells := 0, slots := 0, locals := 90 } : Room) (va_Pc [.ref h0, .int kd] (PB dC dI sz [(h0, .inr (3, [.int (nI cnt), .ref q1, .ref q2, .ref q3, .ref q4, .ref q5, .ref q6, .ref q7])), (q5, .inl (c5, 1549, .inl f5))] [(c5, .boolean)])) (va_Qi (S := Unit) (fun r _ => r = 0 ∨ r = 1) (fun x t => PW dC dI (va_A [(h0, .inr (3, [.int (nI cnt), .ref q1, .ref q2, .ref q3, .ref q4, .ref q5, .ref q6, .ref q7])), (q5, .inl (c5, 1549, .inl f5))] sz) ([(h0, .inr (3, [.int (nI cnt), .ref q1, .ref q2, .ref q3, .ref q4, .ref q5, .ref q6, .ref q7])), (q5, .inl (c5, 1549, .inl f5))]) ([(c5, .boolean)]) t) (va_A [(h0, .inr (3, [.int (nI cnt), .ref q1, .ref q2, .ref q3, .ref q4, .ref q5, .ref q6, .ref q7])), (q5, .inl (c5, 1549, .inl f5))] sz)) 0 0 (va_A [(h0, .inr (3, [.int (nI cnt), .ref q1, .ref q2, .ref q3, .ref q4, .ref q5, .ref q6, .ref q7])), (q5, .inl (c5, 1549, .inl f5))] sz) := by
  refine mbody (b := cX3_hasAny) (n := 2) (ret := (some .boolean)) (Qc := fun A => (va_Qi (S := Unit) (fun r _ => r = 0 ∨ r = 1) (fun x t => PW dC dI A ([(h0, .inr (3, [.int (nI cnt), .ref q1, .ref q2, .ref q3, .ref q4, .ref q5, .ref q6, .ref q7])), (q5, .inl (c5, 1549, .inl f5))]) ([(c5, .boolean)]) t) A)) (by decide) (Nat.le_of_ble_eq_true rfl) ?_
  intro p e s m below meth c ls A H hf hr hin hlk hw hl
  have hl : lv_has ls 2 [(0, .ref h0), (1, .int kd)] := hl
  refine lv_iload_n hf.1 hf.2.1 dX3_hasAny_0 rfl (lv_at hl 1 rfl) ?_
  refine lv_if_lt (tgt := 25) hf.1 hf.2.1 dX3_hasAny_1 (by decide) (fun c_1 => ?_) (fun c_1 => ?_)
  · refine lv_iconst (v := 0) hf.1 hf.2.1 dX3_hasAny_25 (by decide) ?_
    exact mret_z (v := 0) hf hr hlk (by decide) hw () (Or.inl rfl) [0, 1] [0] rfl rfl rfl (Nat.le_of_ble_eq_true rfl) (Nat.le_of_ble_eq_true rfl) dX3_hasAny_26
  · refine lv_iload_n hf.1 hf.2.1 dX3_hasAny_4 rfl (lv_at hl 1 rfl) ?_
    refine lv_aload_n hf.1 hf.2.1 dX3_hasAny_5 rfl (lv_at hl 0 rfl) ?_
    refine mget hf hw iX3 0 rfl rfl 0 (by decide) k257 rfl dX3_hasAny_6 ?_
    refine lv_icmp_ge (tgt := 25) hf.1 hf.2.1 dX3_hasAny_9 (by decide) (fun c_2 => ?_) (fun c_2 => ?_)
    · refine lv_iconst (v := 0) hf.1 hf.2.1 dX3_hasAny_25 (by decide) ?_
      exact mret_z (v := 0) hf hr hlk (by decide) hw () (Or.inl rfl) [0, 1] [0] rfl rfl rfl (Nat.le_of_ble_eq_true rfl) (Nat.le_of_ble_eq_true rfl) dX3_hasAny_26
    · obtain ⟨k, hk, rfl⟩ := nI_of c_1
      have hlt : k < 1549 := by rcases Nat.lt_or_ge k cnt with q | q; omega; exact absurd (nI_le q (by omega)) c_2
      refine lv_aload_n hf.1 hf.2.1 dX3_hasAny_12 rfl (lv_at hl 0 rfl) ?_
      refine mget hf hw iX3 0 rfl rfl 5 (by decide) k254 rfl dX3_hasAny_13 ?_
      refine lv_iload_n hf.1 hf.2.1 dX3_hasAny_16 rfl (lv_at hl 1 rfl) ?_
      refine mzald hf hw 1 0 rfl rfl (vp_in_nI hlt (by decide)) dX3_hasAny_17 ?_
      refine lv_topi (fun x_3 ex_3 => ?_)
      refine lv_if_eq (tgt := 25) hf.1 hf.2.1 dX3_hasAny_18 (by decide) (fun c_4 => ?_) (fun c_4 => ?_)
      · refine lv_iconst (v := 0) hf.1 hf.2.1 dX3_hasAny_25 (by decide) ?_
        exact mret_z (v := 0) hf hr hlk (by decide) hw () (Or.inl rfl) [0, 1] [0] rfl rfl rfl (Nat.le_of_ble_eq_true rfl) (Nat.le_of_ble_eq_true rfl) dX3_hasAny_26
      · refine lv_iconst (v := 1) hf.1 hf.2.1 dX3_hasAny_21 (by decide) ?_
        refine lv_goto (tgt := 26) hf.1 hf.2.1 dX3_hasAny_22 (by decide) ?_
        exact mret_z (v := 1) hf hr hlk (by decide) hw () (Or.inr rfl) [0, 1] [0] rfl rfl rfl (Nat.le_of_ble_eq_true rfl) (Nat.le_of_ble_eq_true rfl) dX3_hasAny_26

set_option maxHeartbeats 4000000 in
set_option maxRecDepth 100000 in
theorem c_codeOf (l : Launch) (dC : Nat → ClassId) (dI : Nat → Nat → Nat) (h0 q1 q2 q3 q4 q5 q6 q7 : Nat) (c4 : ClassId) (f4 : Nat → Int32) (cnt : Nat) (kd : Int32) (sz : Nat) (hc : cnt ≤ 1549) : Met l yX3_codeOf (wsOf yX3_codeOf cX3_codeOf 2 (some .int)) ({ frames := 6, cells := 0, slots := 0, locals := 90 } : Room) (va_Pc [.ref h0, .int kd] (PB dC dI sz [(h0, .inr (3, [.int (nI cnt), .ref q1, .ref q2, .ref q3, .ref q4, .ref q5, .ref q6, .ref q7])), (q4, .inl (c4, 1549, .inl f4))] [(c4, .int)])) (va_Qi (S := Unit) (fun _ _ => True) (fun x t => PW dC dI (va_A [(h0, .inr (3, [.int (nI cnt), .ref q1, .ref q2, .ref q3, .ref q4, .ref q5, .ref q6, .ref q7])), (q4, .inl (c4, 1549, .inl f4))] sz) ([(h0, .inr (3, [.int (nI cnt), .ref q1, .ref q2, .ref q3, .ref q4, .ref q5, .ref q6, .ref q7])), (q4, .inl (c4, 1549, .inl f4))]) ([(c4, .int)]) t) (va_A [(h0, .inr (3, [.int (nI cnt), .ref q1, .ref q2, .ref q3, .ref q4, .ref q5, .ref q6, .ref q7])), (q4, .inl (c4, 1549, .inl f4))] sz)) 0 0 (va_A [(h0, .inr (3, [.int (nI cnt), .ref q1, .ref q2, .ref q3, .ref q4, .ref q5, .ref q6, .ref q7])), (q4, .inl (c4, 1549, .inl f4))] sz) := by
  refine mbody (b := cX3_codeOf) (n := 2) (ret := (some .int)) (Qc := fun A => (va_Qi (S := Unit) (fun _ _ => True) (fun x t => PW dC dI A ([(h0, .inr (3, [.int (nI cnt), .ref q1, .ref q2, .ref q3, .ref q4, .ref q5, .ref q6, .ref q7])), (q4, .inl (c4, 1549, .inl f4))]) ([(c4, .int)]) t) A)) (by decide) (Nat.le_of_ble_eq_true rfl) ?_
  intro p e s m below meth c ls A H hf hr hin hlk hw hl
  have hl : lv_has ls 2 [(0, .ref h0), (1, .int kd)] := hl
  refine lv_iload_n hf.1 hf.2.1 dX3_codeOf_0 rfl (lv_at hl 1 rfl) ?_
  refine lv_if_lt (tgt := 21) hf.1 hf.2.1 dX3_codeOf_1 (by decide) (fun c_1 => ?_) (fun c_1 => ?_)
  · refine lv_iconst (v := (-1)) hf.1 hf.2.1 dX3_codeOf_21 (by decide) ?_
    exact mret_i (v := (-1)) hf hr hlk hw () trivial [0, 1] [0] rfl rfl rfl (Nat.le_of_ble_eq_true rfl) (Nat.le_of_ble_eq_true rfl) dX3_codeOf_22
  · refine lv_iload_n hf.1 hf.2.1 dX3_codeOf_4 rfl (lv_at hl 1 rfl) ?_
    refine lv_aload_n hf.1 hf.2.1 dX3_codeOf_5 rfl (lv_at hl 0 rfl) ?_
    refine mget hf hw iX3 0 rfl rfl 0 (by decide) k257 rfl dX3_codeOf_6 ?_
    refine lv_icmp_ge (tgt := 21) hf.1 hf.2.1 dX3_codeOf_9 (by decide) (fun c_2 => ?_) (fun c_2 => ?_)
    · refine lv_iconst (v := (-1)) hf.1 hf.2.1 dX3_codeOf_21 (by decide) ?_
      exact mret_i (v := (-1)) hf hr hlk hw () trivial [0, 1] [0] rfl rfl rfl (Nat.le_of_ble_eq_true rfl) (Nat.le_of_ble_eq_true rfl) dX3_codeOf_22
    · obtain ⟨k, hk, rfl⟩ := nI_of c_1
      have hlt : k < 1549 := by rcases Nat.lt_or_ge k cnt with q | q; omega; exact absurd (nI_le q (by omega)) c_2
      refine lv_aload_n hf.1 hf.2.1 dX3_codeOf_12 rfl (lv_at hl 0 rfl) ?_
      refine mget hf hw iX3 0 rfl rfl 4 (by decide) k253 rfl dX3_codeOf_13 ?_
      refine lv_iload_n hf.1 hf.2.1 dX3_codeOf_16 rfl (lv_at hl 1 rfl) ?_
      refine miald hf hw 1 0 rfl rfl (vp_in_nI hlt (by decide)) dX3_codeOf_17 ?_
      refine lv_topi (fun x_3 ex_3 => ?_)
      refine lv_goto (tgt := 22) hf.1 hf.2.1 dX3_codeOf_18 (by decide) ?_
      exact mret_i (v := x_3) hf hr hlk hw () trivial [0, 1] [0] rfl rfl rfl (Nat.le_of_ble_eq_true rfl) (Nat.le_of_ble_eq_true rfl) dX3_codeOf_22

set_option maxHeartbeats 4000000 in
set_option maxRecDepth 100000 in
theorem c_isSame (l : Launch) (dC : Nat → ClassId) (dI : Nat → Nat → Nat) (h0 q1 q2 q3 q4 q5 q6 q7 : Nat) (c2 c3 : ClassId) (f2 f3 : Nat → Int32) (cnt k : Nat) (n fr gi : Int32) (pr : Nat) (cp : ClassId) (NP : Nat) (fp : Nat → Int32) (sz : Nat) (hk : k < 1549) (hn4 : n.toInt ≤ 4) (hfr : 0 ≤ fr.toInt) (hfp : fr.toInt + n.toInt ≤ NP) (hNP : NP < 2147483648) : Met l yX3_isSame (wsOf yX3_isSame cX3_isSame 7 (some .boolean)) ({ frames := 6, cells := 0, slots := 0, locals := 90 } : Room) (va_Pc [.ref h0, .int (nI k), .int n, .ref pr, .int fr, .int gi] (PB dC dI sz [(h0, .inr (3, [.int (nI cnt), .ref q1, .ref q2, .ref q3, .ref q4, .ref q5, .ref q6, .ref q7])), (q2, .inl (c2, 1549, .inl f2)), (q3, .inl (c3, 7745, .inl f3)), (pr, .inl (cp, NP, .inl fp))] [(c2, .int), (c3, .int), (cp, .int)])) (va_Qi (S := Unit) (fun r _ => r = 0 ∨ r = 1) (fun x t => PW dC dI (va_A [(h0, .inr (3, [.int (nI cnt), .ref q1, .ref q2, .ref q3, .ref q4, .ref q5, .ref q6, .ref q7])), (q2, .inl (c2, 1549, .inl f2)), (q3, .inl (c3, 7745, .inl f3)), (pr, .inl (cp, NP, .inl fp))] sz) ([(h0, .inr (3, [.int (nI cnt), .ref q1, .ref q2, .ref q3, .ref q4, .ref q5, .ref q6, .ref q7])), (q2, .inl (c2, 1549, .inl f2)), (q3, .inl (c3, 7745, .inl f3)), (pr, .inl (cp, NP, .inl fp))]) ([(c2, .int), (c3, .int), (cp, .int)]) t) (va_A [(h0, .inr (3, [.int (nI cnt), .ref q1, .ref q2, .ref q3, .ref q4, .ref q5, .ref q6, .ref q7])), (q2, .inl (c2, 1549, .inl f2)), (q3, .inl (c3, 7745, .inl f3)), (pr, .inl (cp, NP, .inl fp))] sz)) 0 0 (va_A [(h0, .inr (3, [.int (nI cnt), .ref q1, .ref q2, .ref q3, .ref q4, .ref q5, .ref q6, .ref q7])), (q2, .inl (c2, 1549, .inl f2)), (q3, .inl (c3, 7745, .inl f3)), (pr, .inl (cp, NP, .inl fp))] sz) := by
  refine mbody (b := cX3_isSame) (n := 7) (ret := (some .boolean)) (Qc := fun A => (va_Qi (S := Unit) (fun r _ => r = 0 ∨ r = 1) (fun x t => PW dC dI A ([(h0, .inr (3, [.int (nI cnt), .ref q1, .ref q2, .ref q3, .ref q4, .ref q5, .ref q6, .ref q7])), (q2, .inl (c2, 1549, .inl f2)), (q3, .inl (c3, 7745, .inl f3)), (pr, .inl (cp, NP, .inl fp))]) ([(c2, .int), (c3, .int), (cp, .int)]) t) A)) (by decide) (Nat.le_of_ble_eq_true rfl) ?_
  intro p e s m below meth c ls A H hf hr hin hlk hw hl
  have hl : lv_has ls 7 [(0, .ref h0), (1, .int (nI k)), (2, .int n), (3, .ref pr), (4, .int fr), (5, .int gi)] := hl
  refine lv_aload_n hf.1 hf.2.1 dX3_isSame_0 rfl (lv_at hl 0 rfl) ?_
  refine mget hf hw iX3 0 rfl rfl 2 (by decide) k251 rfl dX3_isSame_1 ?_
  refine lv_iload_n hf.1 hf.2.1 dX3_isSame_4 rfl (lv_at hl 1 rfl) ?_
  refine miald hf hw 1 0 rfl rfl (vp_in_nI hk (by decide)) dX3_isSame_5 ?_
  refine lv_topi (fun x_1 ex_1 => ?_)
  refine lv_iload_n hf.1 hf.2.1 dX3_isSame_6 rfl (lv_at hl 2 rfl) ?_
  refine lv_icmp_ne (tgt := 25) hf.1 hf.2.1 dX3_isSame_7 (by decide) (fun c_2 => ?_) (fun c_2 => ?_)
  · refine lv_iconst (v := 0) hf.1 hf.2.1 dX3_isSame_25 (by decide) ?_
    exact mret_z (v := 0) hf hr hlk (by decide) hw () (Or.inl rfl) [0, 1, 2, 3] [0, 1, 2] rfl rfl rfl (Nat.le_of_ble_eq_true rfl) (Nat.le_of_ble_eq_true rfl) dX3_isSame_26
  · refine lv_aload_n hf.1 hf.2.1 dX3_isSame_10 rfl (lv_at hl 0 rfl) ?_
    refine mget hf hw iX3 0 rfl rfl 3 (by decide) k252 rfl dX3_isSame_11 ?_
    refine lv_iload_n hf.1 hf.2.1 dX3_isSame_14 rfl (lv_at hl 1 rfl) ?_
    refine lv_iconst (v := 5) hf.1 hf.2.1 dX3_isSame_15 (by decide) ?_
    refine lv_imul hf.1 hf.2.1 dX3_isSame_16 ?_
    refine lv_topi (fun x_3 ex_3 => ?_)
    obtain rfl : x_3 = nI (k * 5) := by rw [ex_3]; exact nI_mul k 5
    refine lv_iconst (v := 4) hf.1 hf.2.1 dX3_isSame_17 (by decide) ?_
    refine lv_iadd hf.1 hf.2.1 dX3_isSame_18 ?_
    refine lv_topi (fun x_4 ex_4 => ?_)
    obtain rfl : x_4 = nI (k * 5 + 4) := by rw [ex_4]; exact nI_add _ 4
    refine miald hf hw 2 1 rfl rfl (vp_in_nI (by omega) (by decide)) dX3_isSame_19 ?_
    refine lv_topi (fun x_5 ex_5 => ?_)
    refine lv_iload hf.1 hf.2.1 dX3_isSame_20 (lv_at hl 5 rfl) ?_
    refine lv_icmp_eq (tgt := 27) hf.1 hf.2.1 dX3_isSame_22 (by decide) (fun c_6 => ?_) (fun c_6 => ?_)
    · refine lv_iconst (v := 0) hf.1 hf.2.1 dX3_isSame_27 (by decide) ?_
      refine lv_istore (lv' := [(6, .int 0), (0, .ref h0), (1, .int (nI k)), (2, .int n), (3, .ref pr), (4, .int fr), (5, .int gi)]) hf.1 hf.2.1 dX3_isSame_28 hl (by decide) rfl (fun ls hl => ?_)
      have loop : ∀ (N : Nat) (j : Nat) (H : Heap) (locs : List Loc) (ls : Array Slot), 5 - j < N → (j : Int) ≤ 4 → Wd dC dI A [(h0, .inr (3, [.int (nI cnt), .ref q1, .ref q2, .ref q3, .ref q4, .ref q5, .ref q6, .ref q7])), (q2, .inl (c2, 1549, .inl f2)), (q3, .inl (c3, 7745, .inl f3)), (pr, .inl (cp, NP, .inl fp))] [(c2, .int), (c3, .int), (cp, .int)] s H locs → lv_has ls 7 [(6, .int (nI j)), (0, .ref h0), (1, .int (nI k)), (2, .int n), (3, .ref pr), (4, .int fr), (5, .int gi)] → W p l e ({ frames := 6, cells := 0, slots := 0, locals := 90 } : Room) s m [.ref h0, .int (nI k), .int n, .ref pr, .int fr, .int gi].toArray below meth c H locs 0 0 (MQ below (va_Qi (S := Unit) (fun r _ => r = 0 ∨ r = 1) (fun x t => PW dC dI A ([(h0, .inr (3, [.int (nI cnt), .ref q1, .ref q2, .ref q3, .ref q4, .ref q5, .ref q6, .ref q7])), (q2, .inl (c2, 1549, .inl f2)), (q3, .inl (c3, 7745, .inl f3)), (pr, .inl (cp, NP, .inl fp))]) ([(c2, .int), (c3, .int), (cp, .int)]) t) A) [.ref h0, .int (nI k), .int n, .ref pr, .int fr, .int gi].toArray s 0 0 A) (F0 m 30 ls []) := by
        intro N
        induction N with
        | zero => intro j H locs ls hm; exact absurd hm (Nat.not_lt_zero _)
        | succ N ih =>
          intro j H locs ls hm hj4 hw hl
          refine lv_iload hf.1 hf.2.1 dX3_isSame_30 (lv_at hl 0 rfl) ?_
          refine lv_iload_n hf.1 hf.2.1 dX3_isSame_32 rfl (lv_at hl 3 rfl) ?_
          refine lv_icmp_ge (tgt := 65) hf.1 hf.2.1 dX3_isSame_33 (by decide) (fun c_7 => ?_) (fun c_7 => ?_)
          · refine lv_iconst (v := 1) hf.1 hf.2.1 dX3_isSame_65 (by decide) ?_
            exact mret_z (v := 1) hf hr hlk (by decide) hw () (Or.inr rfl) [0, 1, 2, 3] [0, 1, 2] rfl rfl rfl (Nat.le_of_ble_eq_true rfl) (Nat.le_of_ble_eq_true rfl) dX3_isSame_66
          · have hj : (j : Int) < n.toInt := nI_ge_lit (by omega) c_7
            refine lv_aload_n hf.1 hf.2.1 dX3_isSame_36 rfl (lv_at hl 1 rfl) ?_
            refine mget hf hw iX3 0 rfl rfl 3 (by decide) k252 rfl dX3_isSame_37 ?_
            refine lv_iload_n hf.1 hf.2.1 dX3_isSame_40 rfl (lv_at hl 2 rfl) ?_
            refine lv_iconst (v := 5) hf.1 hf.2.1 dX3_isSame_41 (by decide) ?_
            refine lv_imul hf.1 hf.2.1 dX3_isSame_42 ?_
            refine lv_topi (fun x_8 ex_8 => ?_)
            obtain rfl : x_8 = nI (k * 5) := by rw [ex_8]; exact nI_mul k 5
            refine lv_iload hf.1 hf.2.1 dX3_isSame_43 (lv_at hl 0 rfl) ?_
            refine lv_iadd hf.1 hf.2.1 dX3_isSame_45 ?_
            refine lv_topi (fun x_9 ex_9 => ?_)
            obtain rfl : x_9 = nI (k * 5 + j) := by rw [ex_9]; exact nI_add _ j
            refine miald hf hw 2 1 rfl rfl (vp_in_nI (by omega) (by decide)) dX3_isSame_46 ?_
            refine lv_topi (fun x_10 ex_10 => ?_)
            refine lv_aload_n hf.1 hf.2.1 dX3_isSame_47 rfl (lv_at hl 4 rfl) ?_
            refine lv_iload hf.1 hf.2.1 dX3_isSame_48 (lv_at hl 5 rfl) ?_
            refine lv_iload hf.1 hf.2.1 dX3_isSame_50 (lv_at hl 0 rfl) ?_
            refine lv_iadd hf.1 hf.2.1 dX3_isSame_52 ?_
            refine lv_topi (fun x_11 ex_11 => ?_)
            refine miald hf hw 3 2 rfl rfl (by rw [ex_11]; exact vp_in_add hfr (by omega) hNP) dX3_isSame_53 ?_
            refine lv_topi (fun x_12 ex_12 => ?_)
            refine lv_icmp_eq (tgt := 59) hf.1 hf.2.1 dX3_isSame_54 (by decide) (fun c_13 => ?_) (fun c_13 => ?_)
            · obtain ⟨x_14, ex_14⟩ : ∃ y : Int32, y = (nI j) + 1 := ⟨_, rfl⟩
              refine lv_iinc (v := x_14) (lv' := [(6, .int x_14), (0, .ref h0), (1, .int (nI k)), (2, .int n), (3, .ref pr), (4, .int fr), (5, .int gi)]) hf.1 hf.2.1 dX3_isSame_59 hl (k := 0) rfl (by rw [ex_14]; rfl) (by decide) rfl (fun ls hl => ?_)
              obtain rfl : x_14 = nI (j + 1) := by rw [ex_14, nI_1]
              refine lv_goto (tgt := 30) hf.1 hf.2.1 dX3_isSame_62 (by decide) ?_
              exact ih (j + 1) _ _ _ (by omega) (by omega) hw (lv_sub hl [0, 1, 2, 3, 4, 5, 6] rfl)
            · refine lv_iconst (v := 0) hf.1 hf.2.1 dX3_isSame_57 (by decide) ?_
              exact mret_z (v := 0) hf hr hlk (by decide) hw () (Or.inl rfl) [0, 1, 2, 3] [0, 1, 2] rfl rfl rfl (Nat.le_of_ble_eq_true rfl) (Nat.le_of_ble_eq_true rfl) dX3_isSame_58
      exact loop 6 0 _ _ _ (by omega) (by omega) hw (lv_sub hl [0, 1, 2, 3, 4, 5, 6] rfl)
    · refine lv_iconst (v := 0) hf.1 hf.2.1 dX3_isSame_25 (by decide) ?_
      exact mret_z (v := 0) hf hr hlk (by decide) hw () (Or.inl rfl) [0, 1, 2, 3] [0, 1, 2] rfl rfl rfl (Nat.le_of_ble_eq_true rfl) (Nat.le_of_ble_eq_true rfl) dX3_isSame_26

set_option maxHeartbeats 4000000 in
set_option maxRecDepth 100000 in
theorem c_isSame0 (l : Launch) (dC : Nat → ClassId) (dI : Nat → Nat → Nat) (h0 q1 q2 q3 q4 q5 q6 q7 : Nat) (c2 c3 : ClassId) (f2 f3 : Nat → Int32) (cnt k : Nat) (n fr gi : Int32) (pr : Nat) (sz : Nat) (hk : k < 1549) (hn4 : n.toInt = 0) : Met l yX3_isSame (wsOf yX3_isSame cX3_isSame 7 (some .boolean)) ({ frames := 6, cells := 0, slots := 0, locals := 90 } : Room) (va_Pc [.ref h0, .int (nI k), .int n, .ref pr, .int fr, .int gi] (PB dC dI sz [(h0, .inr (3, [.int (nI cnt), .ref q1, .ref q2, .ref q3, .ref q4, .ref q5, .ref q6, .ref q7])), (q2, .inl (c2, 1549, .inl f2)), (q3, .inl (c3, 7745, .inl f3))] [(c2, .int), (c3, .int)])) (va_Qi (S := Unit) (fun r _ => r = 0 ∨ r = 1) (fun x t => PW dC dI (va_A [(h0, .inr (3, [.int (nI cnt), .ref q1, .ref q2, .ref q3, .ref q4, .ref q5, .ref q6, .ref q7])), (q2, .inl (c2, 1549, .inl f2)), (q3, .inl (c3, 7745, .inl f3))] sz) ([(h0, .inr (3, [.int (nI cnt), .ref q1, .ref q2, .ref q3, .ref q4, .ref q5, .ref q6, .ref q7])), (q2, .inl (c2, 1549, .inl f2)), (q3, .inl (c3, 7745, .inl f3))]) ([(c2, .int), (c3, .int)]) t) (va_A [(h0, .inr (3, [.int (nI cnt), .ref q1, .ref q2, .ref q3, .ref q4, .ref q5, .ref q6, .ref q7])), (q2, .inl (c2, 1549, .inl f2)), (q3, .inl (c3, 7745, .inl f3))] sz)) 0 0 (va_A [(h0, .inr (3, [.int (nI cnt), .ref q1, .ref q2, .ref q3, .ref q4, .ref q5, .ref q6, .ref q7])), (q2, .inl (c2, 1549, .inl f2)), (q3, .inl (c3, 7745, .inl f3))] sz) := by
  refine mbody (b := cX3_isSame) (n := 7) (ret := (some .boolean)) (Qc := fun A => (va_Qi (S := Unit) (fun r _ => r = 0 ∨ r = 1) (fun x t => PW dC dI A ([(h0, .inr (3, [.int (nI cnt), .ref q1, .ref q2, .ref q3, .ref q4, .ref q5, .ref q6, .ref q7])), (q2, .inl (c2, 1549, .inl f2)), (q3, .inl (c3, 7745, .inl f3))]) ([(c2, .int), (c3, .int)]) t) A)) (by decide) (Nat.le_of_ble_eq_true rfl) ?_
  intro p e s m below meth c ls A H hf hr hin hlk hw hl
  have hl : lv_has ls 7 [(0, .ref h0), (1, .int (nI k)), (2, .int n), (3, .ref pr), (4, .int fr), (5, .int gi)] := hl
  refine lv_aload_n hf.1 hf.2.1 dX3_isSame_0 rfl (lv_at hl 0 rfl) ?_
  refine mget hf hw iX3 0 rfl rfl 2 (by decide) k251 rfl dX3_isSame_1 ?_
  refine lv_iload_n hf.1 hf.2.1 dX3_isSame_4 rfl (lv_at hl 1 rfl) ?_
  refine miald hf hw 1 0 rfl rfl (vp_in_nI hk (by decide)) dX3_isSame_5 ?_
  refine lv_topi (fun x_1 ex_1 => ?_)
  refine lv_iload_n hf.1 hf.2.1 dX3_isSame_6 rfl (lv_at hl 2 rfl) ?_
  refine lv_icmp_ne (tgt := 25) hf.1 hf.2.1 dX3_isSame_7 (by decide) (fun c_2 => ?_) (fun c_2 => ?_)
  · refine lv_iconst (v := 0) hf.1 hf.2.1 dX3_isSame_25 (by decide) ?_
    exact mret_z (v := 0) hf hr hlk (by decide) hw () (Or.inl rfl) [0, 1, 2] [0, 1] rfl rfl rfl (Nat.le_of_ble_eq_true rfl) (Nat.le_of_ble_eq_true rfl) dX3_isSame_26
  · refine lv_aload_n hf.1 hf.2.1 dX3_isSame_10 rfl (lv_at hl 0 rfl) ?_
    refine mget hf hw iX3 0 rfl rfl 3 (by decide) k252 rfl dX3_isSame_11 ?_
    refine lv_iload_n hf.1 hf.2.1 dX3_isSame_14 rfl (lv_at hl 1 rfl) ?_
    refine lv_iconst (v := 5) hf.1 hf.2.1 dX3_isSame_15 (by decide) ?_
    refine lv_imul hf.1 hf.2.1 dX3_isSame_16 ?_
    refine lv_topi (fun x_3 ex_3 => ?_)
    obtain rfl : x_3 = nI (k * 5) := by rw [ex_3]; exact nI_mul k 5
    refine lv_iconst (v := 4) hf.1 hf.2.1 dX3_isSame_17 (by decide) ?_
    refine lv_iadd hf.1 hf.2.1 dX3_isSame_18 ?_
    refine lv_topi (fun x_4 ex_4 => ?_)
    obtain rfl : x_4 = nI (k * 5 + 4) := by rw [ex_4]; exact nI_add _ 4
    refine miald hf hw 2 1 rfl rfl (vp_in_nI (by omega) (by decide)) dX3_isSame_19 ?_
    refine lv_topi (fun x_5 ex_5 => ?_)
    refine lv_iload hf.1 hf.2.1 dX3_isSame_20 (lv_at hl 5 rfl) ?_
    refine lv_icmp_eq (tgt := 27) hf.1 hf.2.1 dX3_isSame_22 (by decide) (fun c_6 => ?_) (fun c_6 => ?_)
    · refine lv_iconst (v := 0) hf.1 hf.2.1 dX3_isSame_27 (by decide) ?_
      refine lv_istore (lv' := [(6, .int 0), (0, .ref h0), (1, .int (nI k)), (2, .int n), (3, .ref pr), (4, .int fr), (5, .int gi)]) hf.1 hf.2.1 dX3_isSame_28 hl (by decide) rfl (fun ls hl => ?_)
      have loop : ∀ (N : Nat) (j : Nat) (H : Heap) (locs : List Loc) (ls : Array Slot), 5 - j < N → (j : Int) ≤ 4 → Wd dC dI A [(h0, .inr (3, [.int (nI cnt), .ref q1, .ref q2, .ref q3, .ref q4, .ref q5, .ref q6, .ref q7])), (q2, .inl (c2, 1549, .inl f2)), (q3, .inl (c3, 7745, .inl f3))] [(c2, .int), (c3, .int)] s H locs → lv_has ls 7 [(6, .int (nI j)), (0, .ref h0), (1, .int (nI k)), (2, .int n), (3, .ref pr), (4, .int fr), (5, .int gi)] → W p l e ({ frames := 6, cells := 0, slots := 0, locals := 90 } : Room) s m [.ref h0, .int (nI k), .int n, .ref pr, .int fr, .int gi].toArray below meth c H locs 0 0 (MQ below (va_Qi (S := Unit) (fun r _ => r = 0 ∨ r = 1) (fun x t => PW dC dI A ([(h0, .inr (3, [.int (nI cnt), .ref q1, .ref q2, .ref q3, .ref q4, .ref q5, .ref q6, .ref q7])), (q2, .inl (c2, 1549, .inl f2)), (q3, .inl (c3, 7745, .inl f3))]) ([(c2, .int), (c3, .int)]) t) A) [.ref h0, .int (nI k), .int n, .ref pr, .int fr, .int gi].toArray s 0 0 A) (F0 m 30 ls []) := by
        intro N
        induction N with
        | zero => intro j H locs ls hm; exact absurd hm (Nat.not_lt_zero _)
        | succ N ih =>
          intro j H locs ls hm hj4 hw hl
          refine lv_iload hf.1 hf.2.1 dX3_isSame_30 (lv_at hl 0 rfl) ?_
          refine lv_iload_n hf.1 hf.2.1 dX3_isSame_32 rfl (lv_at hl 3 rfl) ?_
          refine lv_icmp_ge (tgt := 65) hf.1 hf.2.1 dX3_isSame_33 (by decide) (fun c_7 => ?_) (fun c_7 => ?_)
          · refine lv_iconst (v := 1) hf.1 hf.2.1 dX3_isSame_65 (by decide) ?_
            exact mret_z (v := 1) hf hr hlk (by decide) hw () (Or.inr rfl) [0, 1, 2] [0, 1] rfl rfl rfl (Nat.le_of_ble_eq_true rfl) (Nat.le_of_ble_eq_true rfl) dX3_isSame_66
          · have hj : (j : Int) < n.toInt := nI_ge_lit (by omega) c_7
            exfalso; omega
      exact loop 6 0 _ _ _ (by omega) (by omega) hw (lv_sub hl [0, 1, 2, 3, 4, 5, 6] rfl)
    · refine lv_iconst (v := 0) hf.1 hf.2.1 dX3_isSame_25 (by decide) ?_
      exact mret_z (v := 0) hf hr hlk (by decide) hw () (Or.inl rfl) [0, 1, 2] [0, 1] rfl rfl rfl (Nat.le_of_ble_eq_true rfl) (Nat.le_of_ble_eq_true rfl) dX3_isSame_26
end
section
theorem dX3_findOrAdd_0 : decode cX3_findOrAdd 0 = .ok (.iload 6, 2) := by decide +kernel
theorem dX3_findOrAdd_2 : decode cX3_findOrAdd 2 = .ok (.invokestatic 60, 3) := by decide +kernel
theorem dX3_findOrAdd_5 : decode cX3_findOrAdd 5 = .ok (.istore 7, 2) := by decide +kernel
theorem dX3_findOrAdd_7 : decode cX3_findOrAdd 7 = .ok (.aload_n 0, 1) := by decide +kernel
theorem dX3_findOrAdd_8 : decode cX3_findOrAdd 8 = .ok (.getfield 28, 3) := by decide +kernel
theorem dX3_findOrAdd_11 : decode cX3_findOrAdd 11 = .ok (.iload 7, 2) := by decide +kernel
theorem dX3_findOrAdd_13 : decode cX3_findOrAdd 13 = .ok (.iaload, 1) := by decide +kernel
theorem dX3_findOrAdd_14 : decode cX3_findOrAdd 14 = .ok (.istore 8, 2) := by decide +kernel
theorem dX3_findOrAdd_16 : decode cX3_findOrAdd 16 = .ok (.iconst 0, 1) := by decide +kernel
theorem dX3_findOrAdd_17 : decode cX3_findOrAdd 17 = .ok (.istore 9, 2) := by decide +kernel
theorem dX3_findOrAdd_19 : decode cX3_findOrAdd 19 = .ok (.iload 9, 2) := by decide +kernel
theorem dX3_findOrAdd_21 : decode cX3_findOrAdd 21 = .ok (.sipush 1549, 3) := by decide +kernel
theorem dX3_findOrAdd_24 : decode cX3_findOrAdd 24 = .ok (.if_icmp .ge 53, 3) := by decide +kernel
theorem dX3_findOrAdd_27 : decode cX3_findOrAdd 27 = .ok (.iload 8, 2) := by decide +kernel
theorem dX3_findOrAdd_29 : decode cX3_findOrAdd 29 = .ok (.iconst (-1), 1) := by decide +kernel
theorem dX3_findOrAdd_30 : decode cX3_findOrAdd 30 = .ok (.if_icmp .eq 47, 3) := by decide +kernel
theorem dX3_findOrAdd_33 : decode cX3_findOrAdd 33 = .ok (.aload_n 0, 1) := by decide +kernel
theorem dX3_findOrAdd_34 : decode cX3_findOrAdd 34 = .ok (.getfield 11, 3) := by decide +kernel
theorem dX3_findOrAdd_37 : decode cX3_findOrAdd 37 = .ok (.iload 8, 2) := by decide +kernel
theorem dX3_findOrAdd_39 : decode cX3_findOrAdd 39 = .ok (.iaload, 1) := by decide +kernel
theorem dX3_findOrAdd_40 : decode cX3_findOrAdd 40 = .ok (.iload_n 1, 1) := by decide +kernel
theorem dX3_findOrAdd_41 : decode cX3_findOrAdd 41 = .ok (.if_icmp .ne 21, 3) := by decide +kernel
theorem dX3_findOrAdd_44 : decode cX3_findOrAdd 44 = .ok (.aload_n 0, 1) := by decide +kernel
theorem dX3_findOrAdd_45 : decode cX3_findOrAdd 45 = .ok (.iload 8, 2) := by decide +kernel
theorem dX3_findOrAdd_47 : decode cX3_findOrAdd 47 = .ok (.iload_n 2, 1) := by decide +kernel
theorem dX3_findOrAdd_48 : decode cX3_findOrAdd 48 = .ok (.aload_n 3, 1) := by decide +kernel
theorem dX3_findOrAdd_49 : decode cX3_findOrAdd 49 = .ok (.iload 4, 2) := by decide +kernel
theorem dX3_findOrAdd_51 : decode cX3_findOrAdd 51 = .ok (.iload 5, 2) := by decide +kernel
theorem dX3_findOrAdd_53 : decode cX3_findOrAdd 53 = .ok (.invokevirtual 66, 3) := by decide +kernel
theorem dX3_findOrAdd_56 : decode cX3_findOrAdd 56 = .ok (.ifCond .eq 6, 3) := by decide +kernel
theorem dX3_findOrAdd_59 : decode cX3_findOrAdd 59 = .ok (.iload 8, 2) := by decide +kernel
theorem dX3_findOrAdd_61 : decode cX3_findOrAdd 61 = .ok (.ireturn, 1) := by decide +kernel
theorem dX3_findOrAdd_62 : decode cX3_findOrAdd 62 = .ok (.aload_n 0, 1) := by decide +kernel
theorem dX3_findOrAdd_63 : decode cX3_findOrAdd 63 = .ok (.getfield 31, 3) := by decide +kernel
theorem dX3_findOrAdd_66 : decode cX3_findOrAdd 66 = .ok (.iload 8, 2) := by decide +kernel
theorem dX3_findOrAdd_68 : decode cX3_findOrAdd 68 = .ok (.iaload, 1) := by decide +kernel
theorem dX3_findOrAdd_69 : decode cX3_findOrAdd 69 = .ok (.istore 8, 2) := by decide +kernel
theorem dX3_findOrAdd_71 : decode cX3_findOrAdd 71 = .ok (.iinc 9 1, 3) := by decide +kernel
theorem dX3_findOrAdd_74 : decode cX3_findOrAdd 74 = .ok (.goto (-55), 3) := by decide +kernel
theorem dX3_findOrAdd_77 : decode cX3_findOrAdd 77 = .ok (.aload_n 0, 1) := by decide +kernel
theorem dX3_findOrAdd_78 : decode cX3_findOrAdd 78 = .ok (.getfield 34, 3) := by decide +kernel
theorem dX3_findOrAdd_81 : decode cX3_findOrAdd 81 = .ok (.sipush 1549, 3) := by decide +kernel
theorem dX3_findOrAdd_84 : decode cX3_findOrAdd 84 = .ok (.if_icmp .lt 5, 3) := by decide +kernel
theorem dX3_findOrAdd_87 : decode cX3_findOrAdd 87 = .ok (.iconst 2, 1) := by decide +kernel
theorem dX3_findOrAdd_88 : decode cX3_findOrAdd 88 = .ok (.ireturn, 1) := by decide +kernel
theorem dX3_findOrAdd_89 : decode cX3_findOrAdd 89 = .ok (.aload_n 0, 1) := by decide +kernel
theorem dX3_findOrAdd_90 : decode cX3_findOrAdd 90 = .ok (.getfield 34, 3) := by decide +kernel
theorem dX3_findOrAdd_93 : decode cX3_findOrAdd 93 = .ok (.istore 8, 2) := by decide +kernel
theorem dX3_findOrAdd_95 : decode cX3_findOrAdd 95 = .ok (.aload_n 0, 1) := by decide +kernel
theorem dX3_findOrAdd_96 : decode cX3_findOrAdd 96 = .ok (.dup, 1) := by decide +kernel
theorem dX3_findOrAdd_97 : decode cX3_findOrAdd 97 = .ok (.getfield 34, 3) := by decide +kernel
theorem dX3_findOrAdd_100 : decode cX3_findOrAdd 100 = .ok (.iconst 1, 1) := by decide +kernel
theorem dX3_findOrAdd_101 : decode cX3_findOrAdd 101 = .ok (.iadd, 1) := by decide +kernel
theorem dX3_findOrAdd_102 : decode cX3_findOrAdd 102 = .ok (.putfield 34, 3) := by decide +kernel
theorem dX3_findOrAdd_105 : decode cX3_findOrAdd 105 = .ok (.aload_n 0, 1) := by decide +kernel
theorem dX3_findOrAdd_106 : decode cX3_findOrAdd 106 = .ok (.getfield 11, 3) := by decide +kernel
theorem dX3_findOrAdd_109 : decode cX3_findOrAdd 109 = .ok (.iload 8, 2) := by decide +kernel
theorem dX3_findOrAdd_111 : decode cX3_findOrAdd 111 = .ok (.iload_n 1, 1) := by decide +kernel
theorem dX3_findOrAdd_112 : decode cX3_findOrAdd 112 = .ok (.iastore, 1) := by decide +kernel
theorem dX3_findOrAdd_113 : decode cX3_findOrAdd 113 = .ok (.aload_n 0, 1) := by decide +kernel
theorem dX3_findOrAdd_114 : decode cX3_findOrAdd 114 = .ok (.getfield 15, 3) := by decide +kernel
theorem dX3_findOrAdd_117 : decode cX3_findOrAdd 117 = .ok (.iload 8, 2) := by decide +kernel
theorem dX3_findOrAdd_119 : decode cX3_findOrAdd 119 = .ok (.iload_n 2, 1) := by decide +kernel
theorem dX3_findOrAdd_120 : decode cX3_findOrAdd 120 = .ok (.iastore, 1) := by decide +kernel
theorem dX3_findOrAdd_121 : decode cX3_findOrAdd 121 = .ok (.aload_n 0, 1) := by decide +kernel
theorem dX3_findOrAdd_122 : decode cX3_findOrAdd 122 = .ok (.getfield 21, 3) := by decide +kernel
theorem dX3_findOrAdd_125 : decode cX3_findOrAdd 125 = .ok (.iload 8, 2) := by decide +kernel
theorem dX3_findOrAdd_127 : decode cX3_findOrAdd 127 = .ok (.iload 6, 2) := by decide +kernel
theorem dX3_findOrAdd_129 : decode cX3_findOrAdd 129 = .ok (.iastore, 1) := by decide +kernel
theorem dX3_findOrAdd_130 : decode cX3_findOrAdd 130 = .ok (.aload_n 0, 1) := by decide +kernel
theorem dX3_findOrAdd_131 : decode cX3_findOrAdd 131 = .ok (.getfield 18, 3) := by decide +kernel
theorem dX3_findOrAdd_134 : decode cX3_findOrAdd 134 = .ok (.iload 8, 2) := by decide +kernel
theorem dX3_findOrAdd_136 : decode cX3_findOrAdd 136 = .ok (.iconst 5, 1) := by decide +kernel
theorem dX3_findOrAdd_137 : decode cX3_findOrAdd 137 = .ok (.imul, 1) := by decide +kernel
theorem dX3_findOrAdd_138 : decode cX3_findOrAdd 138 = .ok (.iconst 4, 1) := by decide +kernel
theorem dX3_findOrAdd_139 : decode cX3_findOrAdd 139 = .ok (.iadd, 1) := by decide +kernel
theorem dX3_findOrAdd_140 : decode cX3_findOrAdd 140 = .ok (.iload 5, 2) := by decide +kernel
theorem dX3_findOrAdd_142 : decode cX3_findOrAdd 142 = .ok (.iastore, 1) := by decide +kernel
theorem dX3_findOrAdd_143 : decode cX3_findOrAdd 143 = .ok (.iload_n 1, 1) := by decide +kernel
theorem dX3_findOrAdd_144 : decode cX3_findOrAdd 144 = .ok (.iconst 2, 1) := by decide +kernel
theorem dX3_findOrAdd_145 : decode cX3_findOrAdd 145 = .ok (.if_icmp .eq 17, 3) := by decide +kernel
theorem dX3_findOrAdd_148 : decode cX3_findOrAdd 148 = .ok (.iload_n 1, 1) := by decide +kernel
theorem dX3_findOrAdd_149 : decode cX3_findOrAdd 149 = .ok (.iconst 3, 1) := by decide +kernel
theorem dX3_findOrAdd_150 : decode cX3_findOrAdd 150 = .ok (.if_icmp .lt 16, 3) := by decide +kernel
theorem dX3_findOrAdd_153 : decode cX3_findOrAdd 153 = .ok (.aload_n 0, 1) := by decide +kernel
theorem dX3_findOrAdd_154 : decode cX3_findOrAdd 154 = .ok (.iload 5, 2) := by decide +kernel
theorem dX3_findOrAdd_156 : decode cX3_findOrAdd 156 = .ok (.invokevirtual 70, 3) := by decide +kernel
theorem dX3_findOrAdd_159 : decode cX3_findOrAdd 159 = .ok (.ifCond .eq 7, 3) := by decide +kernel
theorem dX3_findOrAdd_162 : decode cX3_findOrAdd 162 = .ok (.iconst 1, 1) := by decide +kernel
theorem dX3_findOrAdd_163 : decode cX3_findOrAdd 163 = .ok (.goto 4, 3) := by decide +kernel
theorem dX3_findOrAdd_166 : decode cX3_findOrAdd 166 = .ok (.iconst 0, 1) := by decide +kernel
theorem dX3_findOrAdd_167 : decode cX3_findOrAdd 167 = .ok (.istore 9, 2) := by decide +kernel
theorem dX3_findOrAdd_169 : decode cX3_findOrAdd 169 = .ok (.iconst 0, 1) := by decide +kernel
theorem dX3_findOrAdd_170 : decode cX3_findOrAdd 170 = .ok (.istore 10, 2) := by decide +kernel
theorem dX3_findOrAdd_172 : decode cX3_findOrAdd 172 = .ok (.iload 10, 2) := by decide +kernel
theorem dX3_findOrAdd_174 : decode cX3_findOrAdd 174 = .ok (.iload_n 2, 1) := by decide +kernel
theorem dX3_findOrAdd_175 : decode cX3_findOrAdd 175 = .ok (.if_icmp .ge 54, 3) := by decide +kernel
theorem dX3_findOrAdd_178 : decode cX3_findOrAdd 178 = .ok (.aload_n 0, 1) := by decide +kernel
theorem dX3_findOrAdd_179 : decode cX3_findOrAdd 179 = .ok (.getfield 18, 3) := by decide +kernel
theorem dX3_findOrAdd_182 : decode cX3_findOrAdd 182 = .ok (.iload 8, 2) := by decide +kernel
theorem dX3_findOrAdd_184 : decode cX3_findOrAdd 184 = .ok (.iconst 5, 1) := by decide +kernel
theorem dX3_findOrAdd_185 : decode cX3_findOrAdd 185 = .ok (.imul, 1) := by decide +kernel
theorem dX3_findOrAdd_186 : decode cX3_findOrAdd 186 = .ok (.iload 10, 2) := by decide +kernel
theorem dX3_findOrAdd_188 : decode cX3_findOrAdd 188 = .ok (.iadd, 1) := by decide +kernel
theorem dX3_findOrAdd_189 : decode cX3_findOrAdd 189 = .ok (.aload_n 3, 1) := by decide +kernel
theorem dX3_findOrAdd_190 : decode cX3_findOrAdd 190 = .ok (.iload 4, 2) := by decide +kernel
theorem dX3_findOrAdd_192 : decode cX3_findOrAdd 192 = .ok (.iload 10, 2) := by decide +kernel
theorem dX3_findOrAdd_194 : decode cX3_findOrAdd 194 = .ok (.iadd, 1) := by decide +kernel
theorem dX3_findOrAdd_195 : decode cX3_findOrAdd 195 = .ok (.iaload, 1) := by decide +kernel
theorem dX3_findOrAdd_196 : decode cX3_findOrAdd 196 = .ok (.iastore, 1) := by decide +kernel
theorem dX3_findOrAdd_197 : decode cX3_findOrAdd 197 = .ok (.iload 9, 2) := by decide +kernel
theorem dX3_findOrAdd_199 : decode cX3_findOrAdd 199 = .ok (.ifCond .ne 17, 3) := by decide +kernel
theorem dX3_findOrAdd_202 : decode cX3_findOrAdd 202 = .ok (.aload_n 0, 1) := by decide +kernel
theorem dX3_findOrAdd_203 : decode cX3_findOrAdd 203 = .ok (.aload_n 3, 1) := by decide +kernel
theorem dX3_findOrAdd_204 : decode cX3_findOrAdd 204 = .ok (.iload 4, 2) := by decide +kernel
theorem dX3_findOrAdd_206 : decode cX3_findOrAdd 206 = .ok (.iload 10, 2) := by decide +kernel
theorem dX3_findOrAdd_208 : decode cX3_findOrAdd 208 = .ok (.iadd, 1) := by decide +kernel
theorem dX3_findOrAdd_209 : decode cX3_findOrAdd 209 = .ok (.iaload, 1) := by decide +kernel
theorem dX3_findOrAdd_210 : decode cX3_findOrAdd 210 = .ok (.invokevirtual 70, 3) := by decide +kernel
theorem dX3_findOrAdd_213 : decode cX3_findOrAdd 213 = .ok (.ifCond .eq 7, 3) := by decide +kernel
theorem dX3_findOrAdd_216 : decode cX3_findOrAdd 216 = .ok (.iconst 1, 1) := by decide +kernel
theorem dX3_findOrAdd_217 : decode cX3_findOrAdd 217 = .ok (.goto 4, 3) := by decide +kernel
theorem dX3_findOrAdd_220 : decode cX3_findOrAdd 220 = .ok (.iconst 0, 1) := by decide +kernel
theorem dX3_findOrAdd_221 : decode cX3_findOrAdd 221 = .ok (.istore 9, 2) := by decide +kernel
theorem dX3_findOrAdd_223 : decode cX3_findOrAdd 223 = .ok (.iinc 10 1, 3) := by decide +kernel
theorem dX3_findOrAdd_226 : decode cX3_findOrAdd 226 = .ok (.goto (-54), 3) := by decide +kernel
theorem dX3_findOrAdd_229 : decode cX3_findOrAdd 229 = .ok (.aload_n 0, 1) := by decide +kernel
theorem dX3_findOrAdd_230 : decode cX3_findOrAdd 230 = .ok (.getfield 24, 3) := by decide +kernel
theorem dX3_findOrAdd_233 : decode cX3_findOrAdd 233 = .ok (.iload 8, 2) := by decide +kernel
theorem dX3_findOrAdd_235 : decode cX3_findOrAdd 235 = .ok (.iload 9, 2) := by decide +kernel
theorem dX3_findOrAdd_237 : decode cX3_findOrAdd 237 = .ok (.bastore, 1) := by decide +kernel
theorem dX3_findOrAdd_238 : decode cX3_findOrAdd 238 = .ok (.aload_n 0, 1) := by decide +kernel
theorem dX3_findOrAdd_239 : decode cX3_findOrAdd 239 = .ok (.getfield 31, 3) := by decide +kernel
theorem dX3_findOrAdd_242 : decode cX3_findOrAdd 242 = .ok (.iload 8, 2) := by decide +kernel
theorem dX3_findOrAdd_244 : decode cX3_findOrAdd 244 = .ok (.aload_n 0, 1) := by decide +kernel
theorem dX3_findOrAdd_245 : decode cX3_findOrAdd 245 = .ok (.getfield 28, 3) := by decide +kernel
theorem dX3_findOrAdd_248 : decode cX3_findOrAdd 248 = .ok (.iload 7, 2) := by decide +kernel
theorem dX3_findOrAdd_250 : decode cX3_findOrAdd 250 = .ok (.iaload, 1) := by decide +kernel
theorem dX3_findOrAdd_251 : decode cX3_findOrAdd 251 = .ok (.iastore, 1) := by decide +kernel
theorem dX3_findOrAdd_252 : decode cX3_findOrAdd 252 = .ok (.aload_n 0, 1) := by decide +kernel
theorem dX3_findOrAdd_253 : decode cX3_findOrAdd 253 = .ok (.getfield 28, 3) := by decide +kernel
theorem dX3_findOrAdd_256 : decode cX3_findOrAdd 256 = .ok (.iload 7, 2) := by decide +kernel
theorem dX3_findOrAdd_258 : decode cX3_findOrAdd 258 = .ok (.iload 8, 2) := by decide +kernel
theorem dX3_findOrAdd_260 : decode cX3_findOrAdd 260 = .ok (.iastore, 1) := by decide +kernel
theorem dX3_findOrAdd_261 : decode cX3_findOrAdd 261 = .ok (.iload 8, 2) := by decide +kernel
theorem dX3_findOrAdd_263 : decode cX3_findOrAdd 263 = .ok (.ireturn, 1) := by decide +kernel
theorem k227 : Cond.methodLink "BlameCourt$Kinds" 60 yX3_bucketOf ∈ gtb := gtm (in_tables_1_1 (List.mem_of_getElem? (i := 41) rfl)) rfl
theorem k228 : Cond.static yX3_bucketOf ∈ gtb := gtm (in_tables_1_1 (List.mem_of_getElem? (i := 42) rfl)) rfl
theorem k230 : Cond.methodLink "BlameCourt$Kinds" 66 yX3_isSame ∈ gtb := gtm (in_tables_1_1 (List.mem_of_getElem? (i := 44) rfl)) rfl
theorem k234 : Cond.methodLink "BlameCourt$Kinds" 70 yX3_hasAny ∈ gtb := gtm (in_tables_1_1 (List.mem_of_getElem? (i := 48) rfl)) rfl
theorem k250 : Cond.fieldLink "BlameCourt$Kinds" 11 "BlameCourt$Kinds" "sort" "[I" ∈ gtb := gtm (in_tables_1_1 (List.mem_of_getElem? (i := 64) rfl)) rfl
theorem k255 : Cond.fieldLink "BlameCourt$Kinds" 28 "BlameCourt$Kinds" "bucket" "[I" ∈ gtb := gtm (in_tables_1_1 (List.mem_of_getElem? (i := 69) rfl)) rfl
theorem k256 : Cond.fieldLink "BlameCourt$Kinds" 31 "BlameCourt$Kinds" "nextInBucket" "[I" ∈ gtb := gtm (in_tables_1_1 (List.mem_of_getElem? (i := 70) rfl)) rfl
theorem k226 : Cond.code yX3_findOrAdd cX3_findOrAdd 11 (some .int) ∈ gtb := gtm (in_tables_1_1 (List.mem_of_getElem? (i := 40) rfl)) rfl
theorem ka_X3_findOrAdd : KA yX3_findOrAdd cX3_findOrAdd 11 (some .int) 6 := ⟨k226, k189, by decide, by decide, by decide +kernel⟩
theorem k225 : Cond.instanceMethod yX3_findOrAdd ∈ gtb := gtm (in_tables_1_1 (List.mem_of_getElem? (i := 39) rfl)) rfl
theorem k0 : Cond.selects "BlameCourt$Kinds" yX3_findOrAdd yX3_findOrAdd ∈ gtb := gtm (in_lw_privs_1 (q := (yX3_findOrAdd, 8)) (List.mem_of_getElem? (i := 0) rfl)) rfl
theorem kv_X3_findOrAdd : KV yX3_findOrAdd := ⟨k225, k0⟩
set_option maxHeartbeats 4000000 in
set_option maxRecDepth 100000 in
theorem c_findOrAdd (l : Launch) (dC : Nat → ClassId) (dI : Nat → Nat → Nat) (h0 q1 q2 q3 q4 q5 q6 q7 : Nat) (c1 c2 c3 c4 c5 c6 c7 : ClassId) (f1 f2 f3 f4 f5 f6 f7 : Nat → Int32) (cnt : Nat) (so n fr gi co : Int32) (pr : Nat) (cp : ClassId) (NP : Nat) (fp : Nat → Int32) (sz : Nat) (hc : cnt ≤ 1549) (hK : KI cnt f6 f7) (hn4 : n.toInt ≤ 4) (hfr : 0 ≤ fr.toInt) (hfp : fr.toInt + n.toInt ≤ NP) (hNP : NP < 2147483648) : Met l yX3_findOrAdd (wsOf yX3_findOrAdd cX3_findOrAdd 11 (some .int)) ({ frames := 10, cells := 0, slots := 0, locals := 150 } : Room) (va_Pc [.ref h0, .int so, .int n, .ref pr, .int fr, .int gi, .int co] (PB dC dI sz [(h0, .inr (3, [.int (nI cnt), .ref q1, .ref q2, .ref q3, .ref q4, .ref q5, .ref q6, .ref q7])), (q1, .inl (c1, 1549, .inl f1)), (q2, .inl (c2, 1549, .inl f2)), (q3, .inl (c3, 7745, .inl f3)), (q4, .inl (c4, 1549, .inl f4)), (q5, .inl (c5, 1549, .inl f5)), (q6, .inl (c6, 512, .inl f6)), (q7, .inl (c7, 1549, .inl f7)), (pr, .inl (cp, NP, .inl fp))] [(c1, .int), (c2, .int), (c3, .int), (c4, .int), (c5, .boolean), (c6, .int), (c7, .int), (cp, .int)])) (va_Qi (S := Nat × (Nat → Int32) × (Nat → Int32) × (Nat → Int32) × (Nat → Int32) × (Nat → Int32) × (Nat → Int32) × (Nat → Int32)) (fun r x => (∃ k : Nat, k < 1549 ∧ r = nI k) ∧ cnt ≤ x.1 ∧ x.1 ≤ cnt + 1 ∧ x.1 ≤ 1549 ∧ KI x.1 x.2.2.2.2.2.2.1 x.2.2.2.2.2.2.2) (fun x t => PW dC dI (va_A [(h0, .inr (3, [.int (nI cnt), .ref q1, .ref q2, .ref q3, .ref q4, .ref q5, .ref q6, .ref q7])), (q1, .inl (c1, 1549, .inl f1)), (q2, .inl (c2, 1549, .inl f2)), (q3, .inl (c3, 7745, .inl f3)), (q4, .inl (c4, 1549, .inl f4)), (q5, .inl (c5, 1549, .inl f5)), (q6, .inl (c6, 512, .inl f6)), (q7, .inl (c7, 1549, .inl f7)), (pr, .inl (cp, NP, .inl fp))] sz) ([(h0, .inr (3, [.int (nI x.1), .ref q1, .ref q2, .ref q3, .ref q4, .ref q5, .ref q6, .ref q7])), (q1, .inl (c1, 1549, .inl x.2.1)), (q2, .inl (c2, 1549, .inl x.2.2.1)), (q3, .inl (c3, 7745, .inl x.2.2.2.1)), (q4, .inl (c4, 1549, .inl x.2.2.2.2.1)), (q5, .inl (c5, 1549, .inl x.2.2.2.2.2.1)), (q6, .inl (c6, 512, .inl x.2.2.2.2.2.2.1)), (q7, .inl (c7, 1549, .inl x.2.2.2.2.2.2.2)), (pr, .inl (cp, NP, .inl fp))]) ([(c1, .int), (c2, .int), (c3, .int), (c4, .int), (c5, .boolean), (c6, .int), (c7, .int), (cp, .int)]) t) (va_A [(h0, .inr (3, [.int (nI cnt), .ref q1, .ref q2, .ref q3, .ref q4, .ref q5, .ref q6, .ref q7])), (q1, .inl (c1, 1549, .inl f1)), (q2, .inl (c2, 1549, .inl f2)), (q3, .inl (c3, 7745, .inl f3)), (q4, .inl (c4, 1549, .inl f4)), (q5, .inl (c5, 1549, .inl f5)), (q6, .inl (c6, 512, .inl f6)), (q7, .inl (c7, 1549, .inl f7)), (pr, .inl (cp, NP, .inl fp))] sz)) 0 0 (va_A [(h0, .inr (3, [.int (nI cnt), .ref q1, .ref q2, .ref q3, .ref q4, .ref q5, .ref q6, .ref q7])), (q1, .inl (c1, 1549, .inl f1)), (q2, .inl (c2, 1549, .inl f2)), (q3, .inl (c3, 7745, .inl f3)), (q4, .inl (c4, 1549, .inl f4)), (q5, .inl (c5, 1549, .inl f5)), (q6, .inl (c6, 512, .inl f6)), (q7, .inl (c7, 1549, .inl f7)), (pr, .inl (cp, NP, .inl fp))] sz) := by
  refine mbody (b := cX3_findOrAdd) (n := 11) (ret := (some .int)) (Qc := fun A => (va_Qi (S := Nat × (Nat → Int32) × (Nat → Int32) × (Nat → Int32) × (Nat → Int32) × (Nat → Int32) × (Nat → Int32) × (Nat → Int32)) (fun r x => (∃ k : Nat, k < 1549 ∧ r = nI k) ∧ cnt ≤ x.1 ∧ x.1 ≤ cnt + 1 ∧ x.1 ≤ 1549 ∧ KI x.1 x.2.2.2.2.2.2.1 x.2.2.2.2.2.2.2) (fun x t => PW dC dI A ([(h0, .inr (3, [.int (nI x.1), .ref q1, .ref q2, .ref q3, .ref q4, .ref q5, .ref q6, .ref q7])), (q1, .inl (c1, 1549, .inl x.2.1)), (q2, .inl (c2, 1549, .inl x.2.2.1)), (q3, .inl (c3, 7745, .inl x.2.2.2.1)), (q4, .inl (c4, 1549, .inl x.2.2.2.2.1)), (q5, .inl (c5, 1549, .inl x.2.2.2.2.2.1)), (q6, .inl (c6, 512, .inl x.2.2.2.2.2.2.1)), (q7, .inl (c7, 1549, .inl x.2.2.2.2.2.2.2)), (pr, .inl (cp, NP, .inl fp))]) ([(c1, .int), (c2, .int), (c3, .int), (c4, .int), (c5, .boolean), (c6, .int), (c7, .int), (cp, .int)]) t) A)) (by decide) (Nat.le_of_ble_eq_true rfl) ?_
  intro p e s m below meth c ls A H hf hr hin hlk hw hl
  have hl : lv_has ls 11 [(0, .ref h0), (1, .int so), (2, .int n), (3, .ref pr), (4, .int fr), (5, .int gi), (6, .int co)] := hl
  refine lv_iload hf.1 hf.2.1 dX3_findOrAdd_0 (lv_at hl 6 rfl) ?_
  refine mS_i (As := [.int co]) (rest := []) (wr := [(h0, .inr (3, [.int (nI cnt), .ref q1, .ref q2, .ref q3, .ref q4, .ref q5, .ref q6, .ref q7])), (q1, .inl (c1, 1549, .inl f1)), (q2, .inl (c2, 1549, .inl f2)), (q3, .inl (c3, 7745, .inl f3)), (q4, .inl (c4, 1549, .inl f4)), (q5, .inl (c5, 1549, .inl f5)), (q6, .inl (c6, 512, .inl f6)), (q7, .inl (c7, 1549, .inl f7)), (pr, .inl (cp, NP, .inl fp))]) (tr := [(c1, .int), (c2, .int), (c3, .int), (c4, .int), (c5, .boolean), (c6, .int), (c7, .int), (cp, .int)]) hf hw (c_bucketOf l dC dI co H.size) ka_X3_bucketOf k228 k227 [] [] [0, 1, 2, 3, 4, 5, 6, 7, 8] [0, 1, 2, 3, 4, 5, 6, 7] rfl rfl rfl rfl rfl (by decide) rfl rfl rfl hl.1 rfl rfl ⟨Nat.le_of_ble_eq_true rfl, Nat.le_of_ble_eq_true rfl⟩ (Nat.le_of_ble_eq_true rfl) (ce := 0) (sl := 0) rfl rfl ⟨Nat.le_of_ble_eq_true rfl, Nat.le_of_ble_eq_true rfl⟩ dX3_findOrAdd_2 (fun r_1 u_2 hu_2 H locs hw => ?_)
  have hw : Wd dC dI A [(h0, .inr (3, [.int (nI cnt), .ref q1, .ref q2, .ref q3, .ref q4, .ref q5, .ref q6, .ref q7])), (q1, .inl (c1, 1549, .inl f1)), (q2, .inl (c2, 1549, .inl f2)), (q3, .inl (c3, 7745, .inl f3)), (q4, .inl (c4, 1549, .inl f4)), (q5, .inl (c5, 1549, .inl f5)), (q6, .inl (c6, 512, .inl f6)), (q7, .inl (c7, 1549, .inl f7)), (pr, .inl (cp, NP, .inl fp))] [(c1, .int), (c2, .int), (c3, .int), (c4, .int), (c5, .boolean), (c6, .int), (c7, .int), (cp, .int)] s H locs := hw
  obtain ⟨b, hb, rfl⟩ := hu_2
  have hw := hw.pick (ws' := [(h0, .inr (3, [.int (nI cnt), .ref q1, .ref q2, .ref q3, .ref q4, .ref q5, .ref q6, .ref q7])), (q1, .inl (c1, 1549, .inl f1)), (q2, .inl (c2, 1549, .inl f2)), (q3, .inl (c3, 7745, .inl f3)), (q4, .inl (c4, 1549, .inl f4)), (q5, .inl (c5, 1549, .inl f5)), (q6, .inl (c6, 512, .inl f6)), (q7, .inl (c7, 1549, .inl f7)), (pr, .inl (cp, NP, .inl fp))]) (tys' := [(c1, .int), (c2, .int), (c3, .int), (c4, .int), (c5, .boolean), (c6, .int), (c7, .int), (cp, .int)]) [0, 1, 2, 3, 4, 5, 6, 7, 8] [0, 1, 2, 3, 4, 5, 6, 7] rfl rfl rfl
  refine lv_istore (lv' := [(7, .int (nI b)), (0, .ref h0), (1, .int so), (2, .int n), (3, .ref pr), (4, .int fr), (5, .int gi), (6, .int co)]) hf.1 hf.2.1 dX3_findOrAdd_5 hl (by decide) rfl (fun ls hl => ?_)
  refine lv_aload_n hf.1 hf.2.1 dX3_findOrAdd_7 rfl (lv_at hl 1 rfl) ?_
  refine mget hf hw iX3 0 rfl rfl 6 (by decide) k255 rfl dX3_findOrAdd_8 ?_
  refine lv_iload hf.1 hf.2.1 dX3_findOrAdd_11 (lv_at hl 0 rfl) ?_
  refine miald hf hw 6 5 rfl rfl (vp_in_nI hb (by decide)) dX3_findOrAdd_13 ?_
  refine lv_topi (fun x_3 ex_3 => ?_)
  have hkd : kiv cnt x_3 := by rw [ex_3, nI_tc (by omega)]; exact hK.1 b hb
  refine lv_istore (lv' := [(8, .int x_3), (7, .int (nI b)), (0, .ref h0), (1, .int so), (2, .int n), (3, .ref pr), (4, .int fr), (5, .int gi), (6, .int co)]) hf.1 hf.2.1 dX3_findOrAdd_14 hl (by decide) rfl (fun ls hl => ?_)
  refine lv_iconst (v := 0) hf.1 hf.2.1 dX3_findOrAdd_16 (by decide) ?_
  refine lv_istore (lv' := [(9, .int 0), (8, .int x_3), (7, .int (nI b)), (0, .ref h0), (1, .int so), (2, .int n), (3, .ref pr), (4, .int fr), (5, .int gi), (6, .int co)]) hf.1 hf.2.1 dX3_findOrAdd_17 hl (by decide) rfl (fun ls hl => ?_)
  have J77 : ∀ (xi kd : Int32) (H : Heap) (locs : List Loc) (ls : Array Slot), Wd dC dI A [(h0, .inr (3, [.int (nI cnt), .ref q1, .ref q2, .ref q3, .ref q4, .ref q5, .ref q6, .ref q7])), (q1, .inl (c1, 1549, .inl f1)), (q2, .inl (c2, 1549, .inl f2)), (q3, .inl (c3, 7745, .inl f3)), (q4, .inl (c4, 1549, .inl f4)), (q5, .inl (c5, 1549, .inl f5)), (q6, .inl (c6, 512, .inl f6)), (q7, .inl (c7, 1549, .inl f7)), (pr, .inl (cp, NP, .inl fp))] [(c1, .int), (c2, .int), (c3, .int), (c4, .int), (c5, .boolean), (c6, .int), (c7, .int), (cp, .int)] s H locs → lv_has ls 11 [(9, .int xi), (8, .int kd), (7, .int (nI b)), (0, .ref h0), (1, .int so), (2, .int n), (3, .ref pr), (4, .int fr), (5, .int gi), (6, .int co)] → W p l e ({ frames := 10, cells := 0, slots := 0, locals := 150 } : Room) s m [.ref h0, .int so, .int n, .ref pr, .int fr, .int gi, .int co].toArray below meth c H locs 0 0 (MQ below (va_Qi (S := Nat × (Nat → Int32) × (Nat → Int32) × (Nat → Int32) × (Nat → Int32) × (Nat → Int32) × (Nat → Int32) × (Nat → Int32)) (fun r x => (∃ k : Nat, k < 1549 ∧ r = nI k) ∧ cnt ≤ x.1 ∧ x.1 ≤ cnt + 1 ∧ x.1 ≤ 1549 ∧ KI x.1 x.2.2.2.2.2.2.1 x.2.2.2.2.2.2.2) (fun x t => PW dC dI A ([(h0, .inr (3, [.int (nI x.1), .ref q1, .ref q2, .ref q3, .ref q4, .ref q5, .ref q6, .ref q7])), (q1, .inl (c1, 1549, .inl x.2.1)), (q2, .inl (c2, 1549, .inl x.2.2.1)), (q3, .inl (c3, 7745, .inl x.2.2.2.1)), (q4, .inl (c4, 1549, .inl x.2.2.2.2.1)), (q5, .inl (c5, 1549, .inl x.2.2.2.2.2.1)), (q6, .inl (c6, 512, .inl x.2.2.2.2.2.2.1)), (q7, .inl (c7, 1549, .inl x.2.2.2.2.2.2.2)), (pr, .inl (cp, NP, .inl fp))]) ([(c1, .int), (c2, .int), (c3, .int), (c4, .int), (c5, .boolean), (c6, .int), (c7, .int), (cp, .int)]) t) A) [.ref h0, .int so, .int n, .ref pr, .int fr, .int gi, .int co].toArray s 0 0 A) (F0 m 77 ls []) := by
    intro xi kd H locs ls  hw hl
    refine lv_aload_n hf.1 hf.2.1 dX3_findOrAdd_77 rfl (lv_at hl 3 rfl) ?_
    refine mget hf hw iX3 0 rfl rfl 0 (by decide) k257 rfl dX3_findOrAdd_78 ?_
    refine lv_sipush (v := 1549) hf.1 hf.2.1 dX3_findOrAdd_81 (by decide) ?_
    refine lv_icmp_lt (tgt := 89) hf.1 hf.2.1 dX3_findOrAdd_84 (by decide) (fun c_4 => ?_) (fun c_4 => ?_)
    · have hlt : cnt < 1549 := (nI_ltI (by omega) (by decide)).mp c_4
      refine lv_aload_n hf.1 hf.2.1 dX3_findOrAdd_89 rfl (lv_at hl 3 rfl) ?_
      refine mget hf hw iX3 0 rfl rfl 0 (by decide) k257 rfl dX3_findOrAdd_90 ?_
      refine lv_istore (lv' := [(8, .int (nI cnt)), (9, .int xi), (7, .int (nI b)), (0, .ref h0), (1, .int so), (2, .int n), (3, .ref pr), (4, .int fr), (5, .int gi), (6, .int co)]) hf.1 hf.2.1 dX3_findOrAdd_93 hl (by decide) rfl (fun ls hl => ?_)
      refine lv_aload_n hf.1 hf.2.1 dX3_findOrAdd_95 rfl (lv_at hl 3 rfl) ?_
      refine lv_dup hf.1 hf.2.1 dX3_findOrAdd_96 rfl ?_
      refine mget hf hw iX3 0 rfl rfl 0 (by decide) k257 rfl dX3_findOrAdd_97 ?_
      refine lv_iconst (v := 1) hf.1 hf.2.1 dX3_findOrAdd_100 (by decide) ?_
      refine lv_iadd hf.1 hf.2.1 dX3_findOrAdd_101 ?_
      refine lv_topi (fun x_5 ex_5 => ?_)
      obtain rfl : x_5 = nI (cnt + 1) := by rw [ex_5, nI_1]
      refine mput hf hw iX3 tyX3 tyX3_ok nmX3 0 rfl rfl 0 (by decide) k257 rfl rfl rfl (Nat.le_of_ble_eq_true rfl) (ws' := [(h0, .inr (3, [.int (nI (cnt + 1)), .ref q1, .ref q2, .ref q3, .ref q4, .ref q5, .ref q6, .ref q7])), (q1, .inl (c1, 1549, .inl f1)), (q2, .inl (c2, 1549, .inl f2)), (q3, .inl (c3, 7745, .inl f3)), (q4, .inl (c4, 1549, .inl f4)), (q5, .inl (c5, 1549, .inl f5)), (q6, .inl (c6, 512, .inl f6)), (q7, .inl (c7, 1549, .inl f7)), (pr, .inl (cp, NP, .inl fp))]) rfl dX3_findOrAdd_102 (fun H locs hw => ?_)
      refine lv_aload_n hf.1 hf.2.1 dX3_findOrAdd_105 rfl (lv_at hl 3 rfl) ?_
      refine mget hf hw iX3 0 rfl rfl 1 (by decide) k250 rfl dX3_findOrAdd_106 ?_
      refine lv_iload hf.1 hf.2.1 dX3_findOrAdd_109 (lv_at hl 0 rfl) ?_
      refine lv_iload_n hf.1 hf.2.1 dX3_findOrAdd_111 rfl (lv_at hl 4 rfl) ?_
      refine miast hf hw 1 0 rfl rfl (vp_in_nI hlt (by decide)) dX3_findOrAdd_112 (fun f_6 ef_6 H locs hw => ?_)
      have hw : Wd dC dI A [(h0, .inr (3, [.int (nI (cnt + 1)), .ref q1, .ref q2, .ref q3, .ref q4, .ref q5, .ref q6, .ref q7])), (q1, .inl (c1, 1549, .inl f_6)), (q2, .inl (c2, 1549, .inl f2)), (q3, .inl (c3, 7745, .inl f3)), (q4, .inl (c4, 1549, .inl f4)), (q5, .inl (c5, 1549, .inl f5)), (q6, .inl (c6, 512, .inl f6)), (q7, .inl (c7, 1549, .inl f7)), (pr, .inl (cp, NP, .inl fp))] [(c1, .int), (c2, .int), (c3, .int), (c4, .int), (c5, .boolean), (c6, .int), (c7, .int), (cp, .int)] s H locs := hw
      refine lv_aload_n hf.1 hf.2.1 dX3_findOrAdd_113 rfl (lv_at hl 3 rfl) ?_
      refine mget hf hw iX3 0 rfl rfl 2 (by decide) k251 rfl dX3_findOrAdd_114 ?_
      refine lv_iload hf.1 hf.2.1 dX3_findOrAdd_117 (lv_at hl 0 rfl) ?_
      refine lv_iload_n hf.1 hf.2.1 dX3_findOrAdd_119 rfl (lv_at hl 5 rfl) ?_
      refine miast hf hw 2 1 rfl rfl (vp_in_nI hlt (by decide)) dX3_findOrAdd_120 (fun f_7 ef_7 H locs hw => ?_)
      have hw : Wd dC dI A [(h0, .inr (3, [.int (nI (cnt + 1)), .ref q1, .ref q2, .ref q3, .ref q4, .ref q5, .ref q6, .ref q7])), (q1, .inl (c1, 1549, .inl f_6)), (q2, .inl (c2, 1549, .inl f_7)), (q3, .inl (c3, 7745, .inl f3)), (q4, .inl (c4, 1549, .inl f4)), (q5, .inl (c5, 1549, .inl f5)), (q6, .inl (c6, 512, .inl f6)), (q7, .inl (c7, 1549, .inl f7)), (pr, .inl (cp, NP, .inl fp))] [(c1, .int), (c2, .int), (c3, .int), (c4, .int), (c5, .boolean), (c6, .int), (c7, .int), (cp, .int)] s H locs := hw
      refine lv_aload_n hf.1 hf.2.1 dX3_findOrAdd_121 rfl (lv_at hl 3 rfl) ?_
      refine mget hf hw iX3 0 rfl rfl 4 (by decide) k253 rfl dX3_findOrAdd_122 ?_
      refine lv_iload hf.1 hf.2.1 dX3_findOrAdd_125 (lv_at hl 0 rfl) ?_
      refine lv_iload hf.1 hf.2.1 dX3_findOrAdd_127 (lv_at hl 9 rfl) ?_
      refine miast hf hw 4 3 rfl rfl (vp_in_nI hlt (by decide)) dX3_findOrAdd_129 (fun f_8 ef_8 H locs hw => ?_)
      have hw : Wd dC dI A [(h0, .inr (3, [.int (nI (cnt + 1)), .ref q1, .ref q2, .ref q3, .ref q4, .ref q5, .ref q6, .ref q7])), (q1, .inl (c1, 1549, .inl f_6)), (q2, .inl (c2, 1549, .inl f_7)), (q3, .inl (c3, 7745, .inl f3)), (q4, .inl (c4, 1549, .inl f_8)), (q5, .inl (c5, 1549, .inl f5)), (q6, .inl (c6, 512, .inl f6)), (q7, .inl (c7, 1549, .inl f7)), (pr, .inl (cp, NP, .inl fp))] [(c1, .int), (c2, .int), (c3, .int), (c4, .int), (c5, .boolean), (c6, .int), (c7, .int), (cp, .int)] s H locs := hw
      refine lv_aload_n hf.1 hf.2.1 dX3_findOrAdd_130 rfl (lv_at hl 3 rfl) ?_
      refine mget hf hw iX3 0 rfl rfl 3 (by decide) k252 rfl dX3_findOrAdd_131 ?_
      refine lv_iload hf.1 hf.2.1 dX3_findOrAdd_134 (lv_at hl 0 rfl) ?_
      refine lv_iconst (v := 5) hf.1 hf.2.1 dX3_findOrAdd_136 (by decide) ?_
      refine lv_imul hf.1 hf.2.1 dX3_findOrAdd_137 ?_
      refine lv_topi (fun x_9 ex_9 => ?_)
      obtain rfl : x_9 = nI (cnt * 5) := by rw [ex_9]; exact nI_mul cnt 5
      refine lv_iconst (v := 4) hf.1 hf.2.1 dX3_findOrAdd_138 (by decide) ?_
      refine lv_iadd hf.1 hf.2.1 dX3_findOrAdd_139 ?_
      refine lv_topi (fun x_10 ex_10 => ?_)
      obtain rfl : x_10 = nI (cnt * 5 + 4) := by rw [ex_10]; exact nI_add _ 4
      refine lv_iload hf.1 hf.2.1 dX3_findOrAdd_140 (lv_at hl 8 rfl) ?_
      refine miast hf hw 3 2 rfl rfl (vp_in_nI (by omega) (by decide)) dX3_findOrAdd_142 (fun f_11 ef_11 H locs hw => ?_)
      have hw : Wd dC dI A [(h0, .inr (3, [.int (nI (cnt + 1)), .ref q1, .ref q2, .ref q3, .ref q4, .ref q5, .ref q6, .ref q7])), (q1, .inl (c1, 1549, .inl f_6)), (q2, .inl (c2, 1549, .inl f_7)), (q3, .inl (c3, 7745, .inl f_11)), (q4, .inl (c4, 1549, .inl f_8)), (q5, .inl (c5, 1549, .inl f5)), (q6, .inl (c6, 512, .inl f6)), (q7, .inl (c7, 1549, .inl f7)), (pr, .inl (cp, NP, .inl fp))] [(c1, .int), (c2, .int), (c3, .int), (c4, .int), (c5, .boolean), (c6, .int), (c7, .int), (cp, .int)] s H locs := hw
      refine lv_iload_n hf.1 hf.2.1 dX3_findOrAdd_143 rfl (lv_at hl 4 rfl) ?_
      refine lv_iconst (v := 2) hf.1 hf.2.1 dX3_findOrAdd_144 (by decide) ?_
      have J229 : ∀ (xa any : Int32) (g3 : Nat → Int32) (H : Heap) (locs : List Loc) (ls : Array Slot), Wd dC dI A [(h0, .inr (3, [.int (nI (cnt + 1)), .ref q1, .ref q2, .ref q3, .ref q4, .ref q5, .ref q6, .ref q7])), (q1, .inl (c1, 1549, .inl f_6)), (q2, .inl (c2, 1549, .inl f_7)), (q3, .inl (c3, 7745, .inl g3)), (q4, .inl (c4, 1549, .inl f_8)), (q5, .inl (c5, 1549, .inl f5)), (q6, .inl (c6, 512, .inl f6)), (q7, .inl (c7, 1549, .inl f7)), (pr, .inl (cp, NP, .inl fp))] [(c1, .int), (c2, .int), (c3, .int), (c4, .int), (c5, .boolean), (c6, .int), (c7, .int), (cp, .int)] s H locs → lv_has ls 11 [(10, .int xa), (9, .int any), (7, .int (nI b)), (8, .int (nI cnt)), (0, .ref h0), (1, .int so), (2, .int n), (3, .ref pr), (4, .int fr), (5, .int gi), (6, .int co)] → W p l e ({ frames := 10, cells := 0, slots := 0, locals := 150 } : Room) s m [.ref h0, .int so, .int n, .ref pr, .int fr, .int gi, .int co].toArray below meth c H locs 0 0 (MQ below (va_Qi (S := Nat × (Nat → Int32) × (Nat → Int32) × (Nat → Int32) × (Nat → Int32) × (Nat → Int32) × (Nat → Int32) × (Nat → Int32)) (fun r x => (∃ k : Nat, k < 1549 ∧ r = nI k) ∧ cnt ≤ x.1 ∧ x.1 ≤ cnt + 1 ∧ x.1 ≤ 1549 ∧ KI x.1 x.2.2.2.2.2.2.1 x.2.2.2.2.2.2.2) (fun x t => PW dC dI A ([(h0, .inr (3, [.int (nI x.1), .ref q1, .ref q2, .ref q3, .ref q4, .ref q5, .ref q6, .ref q7])), (q1, .inl (c1, 1549, .inl x.2.1)), (q2, .inl (c2, 1549, .inl x.2.2.1)), (q3, .inl (c3, 7745, .inl x.2.2.2.1)), (q4, .inl (c4, 1549, .inl x.2.2.2.2.1)), (q5, .inl (c5, 1549, .inl x.2.2.2.2.2.1)), (q6, .inl (c6, 512, .inl x.2.2.2.2.2.2.1)), (q7, .inl (c7, 1549, .inl x.2.2.2.2.2.2.2)), (pr, .inl (cp, NP, .inl fp))]) ([(c1, .int), (c2, .int), (c3, .int), (c4, .int), (c5, .boolean), (c6, .int), (c7, .int), (cp, .int)]) t) A) [.ref h0, .int so, .int n, .ref pr, .int fr, .int gi, .int co].toArray s 0 0 A) (F0 m 229 ls []) := by
        intro xa any g3 H locs ls  hw hl
        refine lv_aload_n hf.1 hf.2.1 dX3_findOrAdd_229 rfl (lv_at hl 4 rfl) ?_
        refine mget hf hw iX3 0 rfl rfl 5 (by decide) k254 rfl dX3_findOrAdd_230 ?_
        refine lv_iload hf.1 hf.2.1 dX3_findOrAdd_233 (lv_at hl 3 rfl) ?_
        refine lv_iload hf.1 hf.2.1 dX3_findOrAdd_235 (lv_at hl 1 rfl) ?_
        refine mzast hf hw 5 4 rfl rfl (vp_in_nI hlt (by decide)) dX3_findOrAdd_237 (fun f_12 ef_12 H locs hw => ?_)
        have hw : Wd dC dI A [(h0, .inr (3, [.int (nI (cnt + 1)), .ref q1, .ref q2, .ref q3, .ref q4, .ref q5, .ref q6, .ref q7])), (q1, .inl (c1, 1549, .inl f_6)), (q2, .inl (c2, 1549, .inl f_7)), (q3, .inl (c3, 7745, .inl g3)), (q4, .inl (c4, 1549, .inl f_8)), (q5, .inl (c5, 1549, .inl f_12)), (q6, .inl (c6, 512, .inl f6)), (q7, .inl (c7, 1549, .inl f7)), (pr, .inl (cp, NP, .inl fp))] [(c1, .int), (c2, .int), (c3, .int), (c4, .int), (c5, .boolean), (c6, .int), (c7, .int), (cp, .int)] s H locs := hw
        refine lv_aload_n hf.1 hf.2.1 dX3_findOrAdd_238 rfl (lv_at hl 4 rfl) ?_
        refine mget hf hw iX3 0 rfl rfl 7 (by decide) k256 rfl dX3_findOrAdd_239 ?_
        refine lv_iload hf.1 hf.2.1 dX3_findOrAdd_242 (lv_at hl 3 rfl) ?_
        refine lv_aload_n hf.1 hf.2.1 dX3_findOrAdd_244 rfl (lv_at hl 4 rfl) ?_
        refine mget hf hw iX3 0 rfl rfl 6 (by decide) k255 rfl dX3_findOrAdd_245 ?_
        refine lv_iload hf.1 hf.2.1 dX3_findOrAdd_248 (lv_at hl 2 rfl) ?_
        refine miald hf hw 6 5 rfl rfl (vp_in_nI hb (by decide)) dX3_findOrAdd_250 ?_
        refine lv_topi (fun x_13 ex_13 => ?_)
        refine miast hf hw 7 6 rfl rfl (vp_in_nI hlt (by decide)) dX3_findOrAdd_251 (fun f_14 ef_14 H locs hw => ?_)
        have hw : Wd dC dI A [(h0, .inr (3, [.int (nI (cnt + 1)), .ref q1, .ref q2, .ref q3, .ref q4, .ref q5, .ref q6, .ref q7])), (q1, .inl (c1, 1549, .inl f_6)), (q2, .inl (c2, 1549, .inl f_7)), (q3, .inl (c3, 7745, .inl g3)), (q4, .inl (c4, 1549, .inl f_8)), (q5, .inl (c5, 1549, .inl f_12)), (q6, .inl (c6, 512, .inl f6)), (q7, .inl (c7, 1549, .inl f_14)), (pr, .inl (cp, NP, .inl fp))] [(c1, .int), (c2, .int), (c3, .int), (c4, .int), (c5, .boolean), (c6, .int), (c7, .int), (cp, .int)] s H locs := hw
        refine lv_aload_n hf.1 hf.2.1 dX3_findOrAdd_252 rfl (lv_at hl 4 rfl) ?_
        refine mget hf hw iX3 0 rfl rfl 6 (by decide) k255 rfl dX3_findOrAdd_253 ?_
        refine lv_iload hf.1 hf.2.1 dX3_findOrAdd_256 (lv_at hl 2 rfl) ?_
        refine lv_iload hf.1 hf.2.1 dX3_findOrAdd_258 (lv_at hl 3 rfl) ?_
        refine miast hf hw 6 5 rfl rfl (vp_in_nI hb (by decide)) dX3_findOrAdd_260 (fun f_15 ef_15 H locs hw => ?_)
        have hw : Wd dC dI A [(h0, .inr (3, [.int (nI (cnt + 1)), .ref q1, .ref q2, .ref q3, .ref q4, .ref q5, .ref q6, .ref q7])), (q1, .inl (c1, 1549, .inl f_6)), (q2, .inl (c2, 1549, .inl f_7)), (q3, .inl (c3, 7745, .inl g3)), (q4, .inl (c4, 1549, .inl f_8)), (q5, .inl (c5, 1549, .inl f_12)), (q6, .inl (c6, 512, .inl f_15)), (q7, .inl (c7, 1549, .inl f_14)), (pr, .inl (cp, NP, .inl fp))] [(c1, .int), (c2, .int), (c3, .int), (c4, .int), (c5, .boolean), (c6, .int), (c7, .int), (cp, .int)] s H locs := hw
        refine lv_iload hf.1 hf.2.1 dX3_findOrAdd_261 (lv_at hl 3 rfl) ?_
        have hK2 : KI (cnt + 1) f_15 f_14 := by
          rw [ef_15, ef_14, ex_13, nI_tc (by omega), nI_tc (by omega)]
          exact hK.ins hb
        exact mret_i (v := (nI cnt)) hf hr hlk hw (cnt + 1, f_6, f_7, g3, f_8, f_12, f_15, f_14) ⟨⟨cnt, hlt, rfl⟩, Nat.le_succ _, Nat.le_refl _, hlt, hK2⟩ [0, 1, 2, 3, 4, 5, 6, 7, 8] [0, 1, 2, 3, 4, 5, 6, 7] rfl rfl rfl (Nat.le_of_ble_eq_true rfl) (Nat.le_of_ble_eq_true rfl) dX3_findOrAdd_263
      have loop2 : ∀ (N : Nat) (j : Nat) (any : Int32) (g3 : Nat → Int32) (H : Heap) (locs : List Loc) (ls : Array Slot), 5 - j < N → (j : Int) ≤ 4 → Wd dC dI A [(h0, .inr (3, [.int (nI (cnt + 1)), .ref q1, .ref q2, .ref q3, .ref q4, .ref q5, .ref q6, .ref q7])), (q1, .inl (c1, 1549, .inl f_6)), (q2, .inl (c2, 1549, .inl f_7)), (q3, .inl (c3, 7745, .inl g3)), (q4, .inl (c4, 1549, .inl f_8)), (q5, .inl (c5, 1549, .inl f5)), (q6, .inl (c6, 512, .inl f6)), (q7, .inl (c7, 1549, .inl f7)), (pr, .inl (cp, NP, .inl fp))] [(c1, .int), (c2, .int), (c3, .int), (c4, .int), (c5, .boolean), (c6, .int), (c7, .int), (cp, .int)] s H locs → lv_has ls 11 [(10, .int (nI j)), (9, .int any), (7, .int (nI b)), (8, .int (nI cnt)), (0, .ref h0), (1, .int so), (2, .int n), (3, .ref pr), (4, .int fr), (5, .int gi), (6, .int co)] → W p l e ({ frames := 10, cells := 0, slots := 0, locals := 150 } : Room) s m [.ref h0, .int so, .int n, .ref pr, .int fr, .int gi, .int co].toArray below meth c H locs 0 0 (MQ below (va_Qi (S := Nat × (Nat → Int32) × (Nat → Int32) × (Nat → Int32) × (Nat → Int32) × (Nat → Int32) × (Nat → Int32) × (Nat → Int32)) (fun r x => (∃ k : Nat, k < 1549 ∧ r = nI k) ∧ cnt ≤ x.1 ∧ x.1 ≤ cnt + 1 ∧ x.1 ≤ 1549 ∧ KI x.1 x.2.2.2.2.2.2.1 x.2.2.2.2.2.2.2) (fun x t => PW dC dI A ([(h0, .inr (3, [.int (nI x.1), .ref q1, .ref q2, .ref q3, .ref q4, .ref q5, .ref q6, .ref q7])), (q1, .inl (c1, 1549, .inl x.2.1)), (q2, .inl (c2, 1549, .inl x.2.2.1)), (q3, .inl (c3, 7745, .inl x.2.2.2.1)), (q4, .inl (c4, 1549, .inl x.2.2.2.2.1)), (q5, .inl (c5, 1549, .inl x.2.2.2.2.2.1)), (q6, .inl (c6, 512, .inl x.2.2.2.2.2.2.1)), (q7, .inl (c7, 1549, .inl x.2.2.2.2.2.2.2)), (pr, .inl (cp, NP, .inl fp))]) ([(c1, .int), (c2, .int), (c3, .int), (c4, .int), (c5, .boolean), (c6, .int), (c7, .int), (cp, .int)]) t) A) [.ref h0, .int so, .int n, .ref pr, .int fr, .int gi, .int co].toArray s 0 0 A) (F0 m 172 ls []) := by
        intro N
        induction N with
        | zero => intro j any g3 H locs ls hm; exact absurd hm (Nat.not_lt_zero _)
        | succ N ih =>
          intro j any g3 H locs ls hm hj4 hw hl
          refine lv_iload hf.1 hf.2.1 dX3_findOrAdd_172 (lv_at hl 0 rfl) ?_
          refine lv_iload_n hf.1 hf.2.1 dX3_findOrAdd_174 rfl (lv_at hl 6 rfl) ?_
          refine lv_icmp_ge (tgt := 229) hf.1 hf.2.1 dX3_findOrAdd_175 (by decide) (fun c_16 => ?_) (fun c_16 => ?_)
          · exact J229 (nI j) any g3 _ _ _  hw (lv_sub hl [0, 1, 2, 3, 4, 5, 6, 7, 8, 9, 10] rfl)
          · have hj : (j : Int) < n.toInt := nI_lt_lit (by omega) (Int32.not_le.mp c_16)
            refine lv_aload_n hf.1 hf.2.1 dX3_findOrAdd_178 rfl (lv_at hl 4 rfl) ?_
            refine mget hf hw iX3 0 rfl rfl 3 (by decide) k252 rfl dX3_findOrAdd_179 ?_
            refine lv_iload hf.1 hf.2.1 dX3_findOrAdd_182 (lv_at hl 3 rfl) ?_
            refine lv_iconst (v := 5) hf.1 hf.2.1 dX3_findOrAdd_184 (by decide) ?_
            refine lv_imul hf.1 hf.2.1 dX3_findOrAdd_185 ?_
            refine lv_topi (fun x_17 ex_17 => ?_)
            obtain rfl : x_17 = nI (cnt * 5) := by rw [ex_17]; exact nI_mul cnt 5
            refine lv_iload hf.1 hf.2.1 dX3_findOrAdd_186 (lv_at hl 0 rfl) ?_
            refine lv_iadd hf.1 hf.2.1 dX3_findOrAdd_188 ?_
            refine lv_topi (fun x_18 ex_18 => ?_)
            obtain rfl : x_18 = nI (cnt * 5 + j) := by rw [ex_18]; exact nI_add _ j
            refine lv_aload_n hf.1 hf.2.1 dX3_findOrAdd_189 rfl (lv_at hl 7 rfl) ?_
            refine lv_iload hf.1 hf.2.1 dX3_findOrAdd_190 (lv_at hl 8 rfl) ?_
            refine lv_iload hf.1 hf.2.1 dX3_findOrAdd_192 (lv_at hl 0 rfl) ?_
            refine lv_iadd hf.1 hf.2.1 dX3_findOrAdd_194 ?_
            refine lv_topi (fun x_19 ex_19 => ?_)
            refine miald hf hw 8 7 rfl rfl (by rw [ex_19]; exact vp_in_add hfr (by omega) hNP) dX3_findOrAdd_195 ?_
            refine lv_topi (fun x_20 ex_20 => ?_)
            refine miast hf hw 3 2 rfl rfl (vp_in_nI (by omega) (by decide)) dX3_findOrAdd_196 (fun f_21 ef_21 H locs hw => ?_)
            have hw : Wd dC dI A [(h0, .inr (3, [.int (nI (cnt + 1)), .ref q1, .ref q2, .ref q3, .ref q4, .ref q5, .ref q6, .ref q7])), (q1, .inl (c1, 1549, .inl f_6)), (q2, .inl (c2, 1549, .inl f_7)), (q3, .inl (c3, 7745, .inl f_21)), (q4, .inl (c4, 1549, .inl f_8)), (q5, .inl (c5, 1549, .inl f5)), (q6, .inl (c6, 512, .inl f6)), (q7, .inl (c7, 1549, .inl f7)), (pr, .inl (cp, NP, .inl fp))] [(c1, .int), (c2, .int), (c3, .int), (c4, .int), (c5, .boolean), (c6, .int), (c7, .int), (cp, .int)] s H locs := hw
            refine lv_iload hf.1 hf.2.1 dX3_findOrAdd_197 (lv_at hl 1 rfl) ?_
            have J221 : ∀ (av : Int32) (H : Heap) (locs : List Loc) (ls : Array Slot), Wd dC dI A [(h0, .inr (3, [.int (nI (cnt + 1)), .ref q1, .ref q2, .ref q3, .ref q4, .ref q5, .ref q6, .ref q7])), (q1, .inl (c1, 1549, .inl f_6)), (q2, .inl (c2, 1549, .inl f_7)), (q3, .inl (c3, 7745, .inl f_21)), (q4, .inl (c4, 1549, .inl f_8)), (q5, .inl (c5, 1549, .inl f5)), (q6, .inl (c6, 512, .inl f6)), (q7, .inl (c7, 1549, .inl f7)), (pr, .inl (cp, NP, .inl fp))] [(c1, .int), (c2, .int), (c3, .int), (c4, .int), (c5, .boolean), (c6, .int), (c7, .int), (cp, .int)] s H locs → lv_has ls 11 [(10, .int (nI j)), (9, .int any), (7, .int (nI b)), (8, .int (nI cnt)), (0, .ref h0), (1, .int so), (2, .int n), (3, .ref pr), (4, .int fr), (5, .int gi), (6, .int co)] → W p l e ({ frames := 10, cells := 0, slots := 0, locals := 150 } : Room) s m [.ref h0, .int so, .int n, .ref pr, .int fr, .int gi, .int co].toArray below meth c H locs 0 0 (MQ below (va_Qi (S := Nat × (Nat → Int32) × (Nat → Int32) × (Nat → Int32) × (Nat → Int32) × (Nat → Int32) × (Nat → Int32) × (Nat → Int32)) (fun r x => (∃ k : Nat, k < 1549 ∧ r = nI k) ∧ cnt ≤ x.1 ∧ x.1 ≤ cnt + 1 ∧ x.1 ≤ 1549 ∧ KI x.1 x.2.2.2.2.2.2.1 x.2.2.2.2.2.2.2) (fun x t => PW dC dI A ([(h0, .inr (3, [.int (nI x.1), .ref q1, .ref q2, .ref q3, .ref q4, .ref q5, .ref q6, .ref q7])), (q1, .inl (c1, 1549, .inl x.2.1)), (q2, .inl (c2, 1549, .inl x.2.2.1)), (q3, .inl (c3, 7745, .inl x.2.2.2.1)), (q4, .inl (c4, 1549, .inl x.2.2.2.2.1)), (q5, .inl (c5, 1549, .inl x.2.2.2.2.2.1)), (q6, .inl (c6, 512, .inl x.2.2.2.2.2.2.1)), (q7, .inl (c7, 1549, .inl x.2.2.2.2.2.2.2)), (pr, .inl (cp, NP, .inl fp))]) ([(c1, .int), (c2, .int), (c3, .int), (c4, .int), (c5, .boolean), (c6, .int), (c7, .int), (cp, .int)]) t) A) [.ref h0, .int so, .int n, .ref pr, .int fr, .int gi, .int co].toArray s 0 0 A) (F0 m 221 ls [.int av]) := by
              intro av H locs ls  hw hl
              refine lv_istore (lv' := [(9, .int av), (10, .int (nI j)), (7, .int (nI b)), (8, .int (nI cnt)), (0, .ref h0), (1, .int so), (2, .int n), (3, .ref pr), (4, .int fr), (5, .int gi), (6, .int co)]) hf.1 hf.2.1 dX3_findOrAdd_221 hl (by decide) rfl (fun ls hl => ?_)
              obtain ⟨x_22, ex_22⟩ : ∃ y : Int32, y = (nI j) + 1 := ⟨_, rfl⟩
              refine lv_iinc (v := x_22) (lv' := [(10, .int x_22), (9, .int av), (7, .int (nI b)), (8, .int (nI cnt)), (0, .ref h0), (1, .int so), (2, .int n), (3, .ref pr), (4, .int fr), (5, .int gi), (6, .int co)]) hf.1 hf.2.1 dX3_findOrAdd_223 hl (k := 1) rfl (by rw [ex_22]; rfl) (by decide) rfl (fun ls hl => ?_)
              obtain rfl : x_22 = nI (j + 1) := by rw [ex_22, nI_1]
              refine lv_goto (tgt := 172) hf.1 hf.2.1 dX3_findOrAdd_226 (by decide) ?_
              exact ih (j + 1) av f_21 _ _ _ (by omega) (by omega) hw (lv_sub hl [0, 1, 2, 3, 4, 5, 6, 7, 8, 9, 10] rfl)
            refine lv_if_ne (tgt := 216) hf.1 hf.2.1 dX3_findOrAdd_199 (by decide) (fun c_23 => ?_) (fun c_23 => ?_)
            · refine lv_iconst (v := 1) hf.1 hf.2.1 dX3_findOrAdd_216 (by decide) ?_
              refine lv_goto (tgt := 221) hf.1 hf.2.1 dX3_findOrAdd_217 (by decide) ?_
              exact J221 _ _ _ _ hw (lv_sub hl [0, 1, 2, 3, 4, 5, 6, 7, 8, 9, 10] rfl)
            · refine lv_aload_n hf.1 hf.2.1 dX3_findOrAdd_202 rfl (lv_at hl 4 rfl) ?_
              refine lv_aload_n hf.1 hf.2.1 dX3_findOrAdd_203 rfl (lv_at hl 7 rfl) ?_
              refine lv_iload hf.1 hf.2.1 dX3_findOrAdd_204 (lv_at hl 8 rfl) ?_
              refine lv_iload hf.1 hf.2.1 dX3_findOrAdd_206 (lv_at hl 0 rfl) ?_
              refine lv_iadd hf.1 hf.2.1 dX3_findOrAdd_208 ?_
              refine lv_topi (fun x_24 ex_24 => ?_)
              refine miald hf hw 8 7 rfl rfl (by rw [ex_24]; exact vp_in_add hfr (by omega) hNP) dX3_findOrAdd_209 ?_
              refine lv_topi (fun x_25 ex_25 => ?_)
              refine mV_i (As := [.int x_25]) (rest := []) (wr := [(q1, .inl (c1, 1549, .inl f_6)), (q2, .inl (c2, 1549, .inl f_7)), (q3, .inl (c3, 7745, .inl f_21)), (q4, .inl (c4, 1549, .inl f_8)), (q6, .inl (c6, 512, .inl f6)), (q7, .inl (c7, 1549, .inl f7)), (pr, .inl (cp, NP, .inl fp))]) (tr := [(c1, .int), (c2, .int), (c3, .int), (c4, .int), (c6, .int), (c7, .int), (cp, .int)]) hf hw (c_hasAny l dC dI h0 q1 q2 q3 q4 q5 q6 q7 c5 f5 (cnt + 1) x_25 H.size hlt) ka_X3_hasAny kv_X3_hasAny 0 rfl rfl k234 [0, 5] [4] [1, 2, 3, 4, 6, 7, 8] [0, 1, 2, 3, 5, 6, 7] rfl rfl rfl rfl rfl (by decide) rfl rfl rfl hl.1 rfl rfl ⟨Nat.le_of_ble_eq_true rfl, Nat.le_of_ble_eq_true rfl⟩ (Nat.le_of_ble_eq_true rfl) (ce := 0) (sl := 0) rfl rfl ⟨Nat.le_of_ble_eq_true rfl, Nat.le_of_ble_eq_true rfl⟩ dX3_findOrAdd_210 (fun r_26 u_27 hu_27 H locs hw => ?_)
              have hw : Wd dC dI A [(q1, .inl (c1, 1549, .inl f_6)), (q2, .inl (c2, 1549, .inl f_7)), (q3, .inl (c3, 7745, .inl f_21)), (q4, .inl (c4, 1549, .inl f_8)), (q6, .inl (c6, 512, .inl f6)), (q7, .inl (c7, 1549, .inl f7)), (pr, .inl (cp, NP, .inl fp)), (h0, .inr (3, [.int (nI (cnt + 1)), .ref q1, .ref q2, .ref q3, .ref q4, .ref q5, .ref q6, .ref q7])), (q5, .inl (c5, 1549, .inl f5))] [(c1, .int), (c2, .int), (c3, .int), (c4, .int), (c6, .int), (c7, .int), (cp, .int), (c5, .boolean)] s H locs := hw
              have hw := hw.pick (ws' := [(h0, .inr (3, [.int (nI (cnt + 1)), .ref q1, .ref q2, .ref q3, .ref q4, .ref q5, .ref q6, .ref q7])), (q1, .inl (c1, 1549, .inl f_6)), (q2, .inl (c2, 1549, .inl f_7)), (q3, .inl (c3, 7745, .inl f_21)), (q4, .inl (c4, 1549, .inl f_8)), (q5, .inl (c5, 1549, .inl f5)), (q6, .inl (c6, 512, .inl f6)), (q7, .inl (c7, 1549, .inl f7)), (pr, .inl (cp, NP, .inl fp))]) (tys' := [(c1, .int), (c2, .int), (c3, .int), (c4, .int), (c5, .boolean), (c6, .int), (c7, .int), (cp, .int)]) [7, 0, 1, 2, 3, 8, 4, 5, 6] [0, 1, 2, 3, 7, 4, 5, 6] rfl rfl rfl
              refine lv_if_eq (tgt := 220) hf.1 hf.2.1 dX3_findOrAdd_213 (by decide) (fun c_28 => ?_) (fun c_28 => ?_)
              · refine lv_iconst (v := 0) hf.1 hf.2.1 dX3_findOrAdd_220 (by decide) ?_
                exact J221 _ _ _ _ hw (lv_sub hl [0, 1, 2, 3, 4, 5, 6, 7, 8, 9, 10] rfl)
              · refine lv_iconst (v := 1) hf.1 hf.2.1 dX3_findOrAdd_216 (by decide) ?_
                refine lv_goto (tgt := 221) hf.1 hf.2.1 dX3_findOrAdd_217 (by decide) ?_
                exact J221 _ _ _ _ hw (lv_sub hl [0, 1, 2, 3, 4, 5, 6, 7, 8, 9, 10] rfl)
      have J167 : ∀ (v : Int32) (H : Heap) (locs : List Loc) (ls : Array Slot), Wd dC dI A [(h0, .inr (3, [.int (nI (cnt + 1)), .ref q1, .ref q2, .ref q3, .ref q4, .ref q5, .ref q6, .ref q7])), (q1, .inl (c1, 1549, .inl f_6)), (q2, .inl (c2, 1549, .inl f_7)), (q3, .inl (c3, 7745, .inl f_11)), (q4, .inl (c4, 1549, .inl f_8)), (q5, .inl (c5, 1549, .inl f5)), (q6, .inl (c6, 512, .inl f6)), (q7, .inl (c7, 1549, .inl f7)), (pr, .inl (cp, NP, .inl fp))] [(c1, .int), (c2, .int), (c3, .int), (c4, .int), (c5, .boolean), (c6, .int), (c7, .int), (cp, .int)] s H locs → lv_has ls 11 [(8, .int (nI cnt)), (9, .int xi), (7, .int (nI b)), (0, .ref h0), (1, .int so), (2, .int n), (3, .ref pr), (4, .int fr), (5, .int gi), (6, .int co)] → W p l e ({ frames := 10, cells := 0, slots := 0, locals := 150 } : Room) s m [.ref h0, .int so, .int n, .ref pr, .int fr, .int gi, .int co].toArray below meth c H locs 0 0 (MQ below (va_Qi (S := Nat × (Nat → Int32) × (Nat → Int32) × (Nat → Int32) × (Nat → Int32) × (Nat → Int32) × (Nat → Int32) × (Nat → Int32)) (fun r x => (∃ k : Nat, k < 1549 ∧ r = nI k) ∧ cnt ≤ x.1 ∧ x.1 ≤ cnt + 1 ∧ x.1 ≤ 1549 ∧ KI x.1 x.2.2.2.2.2.2.1 x.2.2.2.2.2.2.2) (fun x t => PW dC dI A ([(h0, .inr (3, [.int (nI x.1), .ref q1, .ref q2, .ref q3, .ref q4, .ref q5, .ref q6, .ref q7])), (q1, .inl (c1, 1549, .inl x.2.1)), (q2, .inl (c2, 1549, .inl x.2.2.1)), (q3, .inl (c3, 7745, .inl x.2.2.2.1)), (q4, .inl (c4, 1549, .inl x.2.2.2.2.1)), (q5, .inl (c5, 1549, .inl x.2.2.2.2.2.1)), (q6, .inl (c6, 512, .inl x.2.2.2.2.2.2.1)), (q7, .inl (c7, 1549, .inl x.2.2.2.2.2.2.2)), (pr, .inl (cp, NP, .inl fp))]) ([(c1, .int), (c2, .int), (c3, .int), (c4, .int), (c5, .boolean), (c6, .int), (c7, .int), (cp, .int)]) t) A) [.ref h0, .int so, .int n, .ref pr, .int fr, .int gi, .int co].toArray s 0 0 A) (F0 m 167 ls [.int v]) := by
        intro v H locs ls  hw hl
        refine lv_istore (lv' := [(9, .int v), (8, .int (nI cnt)), (7, .int (nI b)), (0, .ref h0), (1, .int so), (2, .int n), (3, .ref pr), (4, .int fr), (5, .int gi), (6, .int co)]) hf.1 hf.2.1 dX3_findOrAdd_167 hl (by decide) rfl (fun ls hl => ?_)
        refine lv_iconst (v := 0) hf.1 hf.2.1 dX3_findOrAdd_169 (by decide) ?_
        refine lv_istore (lv' := [(10, .int 0), (9, .int v), (8, .int (nI cnt)), (7, .int (nI b)), (0, .ref h0), (1, .int so), (2, .int n), (3, .ref pr), (4, .int fr), (5, .int gi), (6, .int co)]) hf.1 hf.2.1 dX3_findOrAdd_170 hl (by decide) rfl (fun ls hl => ?_)
        exact loop2 6 0 v _ _ _ _ (by omega) (by omega) hw (lv_sub hl [0, 1, 3, 2, 4, 5, 6, 7, 8, 9, 10] rfl)
      refine lv_icmp_eq (tgt := 162) hf.1 hf.2.1 dX3_findOrAdd_145 (by decide) (fun c_29 => ?_) (fun c_29 => ?_)
      · refine lv_iconst (v := 1) hf.1 hf.2.1 dX3_findOrAdd_162 (by decide) ?_
        refine lv_goto (tgt := 167) hf.1 hf.2.1 dX3_findOrAdd_163 (by decide) ?_
        exact J167 _ _ _ _ hw (lv_sub hl [0, 1, 2, 3, 4, 5, 6, 7, 8, 9] rfl)
      · refine lv_iload_n hf.1 hf.2.1 dX3_findOrAdd_148 rfl (lv_at hl 4 rfl) ?_
        refine lv_iconst (v := 3) hf.1 hf.2.1 dX3_findOrAdd_149 (by decide) ?_
        refine lv_icmp_lt (tgt := 166) hf.1 hf.2.1 dX3_findOrAdd_150 (by decide) (fun c_30 => ?_) (fun c_30 => ?_)
        · refine lv_iconst (v := 0) hf.1 hf.2.1 dX3_findOrAdd_166 (by decide) ?_
          exact J167 _ _ _ _ hw (lv_sub hl [0, 1, 2, 3, 4, 5, 6, 7, 8, 9] rfl)
        · refine lv_aload_n hf.1 hf.2.1 dX3_findOrAdd_153 rfl (lv_at hl 3 rfl) ?_
          refine lv_iload hf.1 hf.2.1 dX3_findOrAdd_154 (lv_at hl 8 rfl) ?_
          refine mV_i (As := [.int gi]) (rest := []) (wr := [(q1, .inl (c1, 1549, .inl f_6)), (q2, .inl (c2, 1549, .inl f_7)), (q3, .inl (c3, 7745, .inl f_11)), (q4, .inl (c4, 1549, .inl f_8)), (q6, .inl (c6, 512, .inl f6)), (q7, .inl (c7, 1549, .inl f7)), (pr, .inl (cp, NP, .inl fp))]) (tr := [(c1, .int), (c2, .int), (c3, .int), (c4, .int), (c6, .int), (c7, .int), (cp, .int)]) hf hw (c_hasAny l dC dI h0 q1 q2 q3 q4 q5 q6 q7 c5 f5 (cnt + 1) gi H.size hlt) ka_X3_hasAny kv_X3_hasAny 0 rfl rfl k234 [0, 5] [4] [1, 2, 3, 4, 6, 7, 8] [0, 1, 2, 3, 5, 6, 7] rfl rfl rfl rfl rfl (by decide) rfl rfl rfl hl.1 rfl rfl ⟨Nat.le_of_ble_eq_true rfl, Nat.le_of_ble_eq_true rfl⟩ (Nat.le_of_ble_eq_true rfl) (ce := 0) (sl := 0) rfl rfl ⟨Nat.le_of_ble_eq_true rfl, Nat.le_of_ble_eq_true rfl⟩ dX3_findOrAdd_156 (fun r_31 u_32 hu_32 H locs hw => ?_)
          have hw : Wd dC dI A [(q1, .inl (c1, 1549, .inl f_6)), (q2, .inl (c2, 1549, .inl f_7)), (q3, .inl (c3, 7745, .inl f_11)), (q4, .inl (c4, 1549, .inl f_8)), (q6, .inl (c6, 512, .inl f6)), (q7, .inl (c7, 1549, .inl f7)), (pr, .inl (cp, NP, .inl fp)), (h0, .inr (3, [.int (nI (cnt + 1)), .ref q1, .ref q2, .ref q3, .ref q4, .ref q5, .ref q6, .ref q7])), (q5, .inl (c5, 1549, .inl f5))] [(c1, .int), (c2, .int), (c3, .int), (c4, .int), (c6, .int), (c7, .int), (cp, .int), (c5, .boolean)] s H locs := hw
          have hw := hw.pick (ws' := [(h0, .inr (3, [.int (nI (cnt + 1)), .ref q1, .ref q2, .ref q3, .ref q4, .ref q5, .ref q6, .ref q7])), (q1, .inl (c1, 1549, .inl f_6)), (q2, .inl (c2, 1549, .inl f_7)), (q3, .inl (c3, 7745, .inl f_11)), (q4, .inl (c4, 1549, .inl f_8)), (q5, .inl (c5, 1549, .inl f5)), (q6, .inl (c6, 512, .inl f6)), (q7, .inl (c7, 1549, .inl f7)), (pr, .inl (cp, NP, .inl fp))]) (tys' := [(c1, .int), (c2, .int), (c3, .int), (c4, .int), (c5, .boolean), (c6, .int), (c7, .int), (cp, .int)]) [7, 0, 1, 2, 3, 8, 4, 5, 6] [0, 1, 2, 3, 7, 4, 5, 6] rfl rfl rfl
          refine lv_if_eq (tgt := 166) hf.1 hf.2.1 dX3_findOrAdd_159 (by decide) (fun c_33 => ?_) (fun c_33 => ?_)
          · refine lv_iconst (v := 0) hf.1 hf.2.1 dX3_findOrAdd_166 (by decide) ?_
            exact J167 _ _ _ _ hw (lv_sub hl [0, 1, 2, 3, 4, 5, 6, 7, 8, 9] rfl)
          · refine lv_iconst (v := 1) hf.1 hf.2.1 dX3_findOrAdd_162 (by decide) ?_
            refine lv_goto (tgt := 167) hf.1 hf.2.1 dX3_findOrAdd_163 (by decide) ?_
            exact J167 _ _ _ _ hw (lv_sub hl [0, 1, 2, 3, 4, 5, 6, 7, 8, 9] rfl)
    · refine lv_iconst (v := 2) hf.1 hf.2.1 dX3_findOrAdd_87 (by decide) ?_
      exact mret_i (v := 2) hf hr hlk hw (cnt, f1, f2, f3, f4, f5, f6, f7) ⟨⟨2, by decide, rfl⟩, Nat.le_refl _, Nat.le_succ _, hc, hK⟩ [0, 1, 2, 3, 4, 5, 6, 7, 8] [0, 1, 2, 3, 4, 5, 6, 7] rfl rfl rfl (Nat.le_of_ble_eq_true rfl) (Nat.le_of_ble_eq_true rfl) dX3_findOrAdd_88
  have loop1 : ∀ (N : Nat) (i : Nat) (kd : Int32) (H : Heap) (locs : List Loc) (ls : Array Slot), 1549 - i < N → kiv cnt kd → i ≤ 1549 → Wd dC dI A [(h0, .inr (3, [.int (nI cnt), .ref q1, .ref q2, .ref q3, .ref q4, .ref q5, .ref q6, .ref q7])), (q1, .inl (c1, 1549, .inl f1)), (q2, .inl (c2, 1549, .inl f2)), (q3, .inl (c3, 7745, .inl f3)), (q4, .inl (c4, 1549, .inl f4)), (q5, .inl (c5, 1549, .inl f5)), (q6, .inl (c6, 512, .inl f6)), (q7, .inl (c7, 1549, .inl f7)), (pr, .inl (cp, NP, .inl fp))] [(c1, .int), (c2, .int), (c3, .int), (c4, .int), (c5, .boolean), (c6, .int), (c7, .int), (cp, .int)] s H locs → lv_has ls 11 [(9, .int (nI i)), (8, .int kd), (7, .int (nI b)), (0, .ref h0), (1, .int so), (2, .int n), (3, .ref pr), (4, .int fr), (5, .int gi), (6, .int co)] → W p l e ({ frames := 10, cells := 0, slots := 0, locals := 150 } : Room) s m [.ref h0, .int so, .int n, .ref pr, .int fr, .int gi, .int co].toArray below meth c H locs 0 0 (MQ below (va_Qi (S := Nat × (Nat → Int32) × (Nat → Int32) × (Nat → Int32) × (Nat → Int32) × (Nat → Int32) × (Nat → Int32) × (Nat → Int32)) (fun r x => (∃ k : Nat, k < 1549 ∧ r = nI k) ∧ cnt ≤ x.1 ∧ x.1 ≤ cnt + 1 ∧ x.1 ≤ 1549 ∧ KI x.1 x.2.2.2.2.2.2.1 x.2.2.2.2.2.2.2) (fun x t => PW dC dI A ([(h0, .inr (3, [.int (nI x.1), .ref q1, .ref q2, .ref q3, .ref q4, .ref q5, .ref q6, .ref q7])), (q1, .inl (c1, 1549, .inl x.2.1)), (q2, .inl (c2, 1549, .inl x.2.2.1)), (q3, .inl (c3, 7745, .inl x.2.2.2.1)), (q4, .inl (c4, 1549, .inl x.2.2.2.2.1)), (q5, .inl (c5, 1549, .inl x.2.2.2.2.2.1)), (q6, .inl (c6, 512, .inl x.2.2.2.2.2.2.1)), (q7, .inl (c7, 1549, .inl x.2.2.2.2.2.2.2)), (pr, .inl (cp, NP, .inl fp))]) ([(c1, .int), (c2, .int), (c3, .int), (c4, .int), (c5, .boolean), (c6, .int), (c7, .int), (cp, .int)]) t) A) [.ref h0, .int so, .int n, .ref pr, .int fr, .int gi, .int co].toArray s 0 0 A) (F0 m 19 ls []) := by
    intro N
    induction N with
    | zero => intro i kd H locs ls hm; exact absurd hm (Nat.not_lt_zero _)
    | succ N ih =>
      intro i kd H locs ls hm hv hi4 hw hl
      refine lv_iload hf.1 hf.2.1 dX3_findOrAdd_19 (lv_at hl 0 rfl) ?_
      refine lv_sipush (v := 1549) hf.1 hf.2.1 dX3_findOrAdd_21 (by decide) ?_
      refine lv_icmp_ge (tgt := 77) hf.1 hf.2.1 dX3_findOrAdd_24 (by decide) (fun c_34 => ?_) (fun c_34 => ?_)
      · exact J77 (nI i) kd _ _ _  hw (lv_sub hl [0, 1, 2, 3, 4, 5, 6, 7, 8, 9] rfl)
      · have hi : i < 1549 := (nI_ltI (by omega) (by decide)).mp (Int32.not_le.mp c_34)
        refine lv_iload hf.1 hf.2.1 dX3_findOrAdd_27 (lv_at hl 1 rfl) ?_
        refine lv_iconst (v := (-1)) hf.1 hf.2.1 dX3_findOrAdd_29 (by decide) ?_
        refine lv_icmp_eq (tgt := 77) hf.1 hf.2.1 dX3_findOrAdd_30 (by decide) (fun c_35 => ?_) (fun c_35 => ?_)
        · exact J77 (nI i) kd _ _ _  hw (lv_sub hl [0, 1, 2, 3, 4, 5, 6, 7, 8, 9] rfl)
        · obtain ⟨k, hk, rfl⟩ : ∃ k : Nat, k < cnt ∧ kd = nI k := hv.resolve_left c_35
          have J62 : ∀ (H : Heap) (locs : List Loc) (ls : Array Slot), Wd dC dI A [(h0, .inr (3, [.int (nI cnt), .ref q1, .ref q2, .ref q3, .ref q4, .ref q5, .ref q6, .ref q7])), (q1, .inl (c1, 1549, .inl f1)), (q2, .inl (c2, 1549, .inl f2)), (q3, .inl (c3, 7745, .inl f3)), (q4, .inl (c4, 1549, .inl f4)), (q5, .inl (c5, 1549, .inl f5)), (q6, .inl (c6, 512, .inl f6)), (q7, .inl (c7, 1549, .inl f7)), (pr, .inl (cp, NP, .inl fp))] [(c1, .int), (c2, .int), (c3, .int), (c4, .int), (c5, .boolean), (c6, .int), (c7, .int), (cp, .int)] s H locs → lv_has ls 11 [(9, .int (nI i)), (8, .int (nI k)), (7, .int (nI b)), (0, .ref h0), (1, .int so), (2, .int n), (3, .ref pr), (4, .int fr), (5, .int gi), (6, .int co)] → W p l e ({ frames := 10, cells := 0, slots := 0, locals := 150 } : Room) s m [.ref h0, .int so, .int n, .ref pr, .int fr, .int gi, .int co].toArray below meth c H locs 0 0 (MQ below (va_Qi (S := Nat × (Nat → Int32) × (Nat → Int32) × (Nat → Int32) × (Nat → Int32) × (Nat → Int32) × (Nat → Int32) × (Nat → Int32)) (fun r x => (∃ k : Nat, k < 1549 ∧ r = nI k) ∧ cnt ≤ x.1 ∧ x.1 ≤ cnt + 1 ∧ x.1 ≤ 1549 ∧ KI x.1 x.2.2.2.2.2.2.1 x.2.2.2.2.2.2.2) (fun x t => PW dC dI A ([(h0, .inr (3, [.int (nI x.1), .ref q1, .ref q2, .ref q3, .ref q4, .ref q5, .ref q6, .ref q7])), (q1, .inl (c1, 1549, .inl x.2.1)), (q2, .inl (c2, 1549, .inl x.2.2.1)), (q3, .inl (c3, 7745, .inl x.2.2.2.1)), (q4, .inl (c4, 1549, .inl x.2.2.2.2.1)), (q5, .inl (c5, 1549, .inl x.2.2.2.2.2.1)), (q6, .inl (c6, 512, .inl x.2.2.2.2.2.2.1)), (q7, .inl (c7, 1549, .inl x.2.2.2.2.2.2.2)), (pr, .inl (cp, NP, .inl fp))]) ([(c1, .int), (c2, .int), (c3, .int), (c4, .int), (c5, .boolean), (c6, .int), (c7, .int), (cp, .int)]) t) A) [.ref h0, .int so, .int n, .ref pr, .int fr, .int gi, .int co].toArray s 0 0 A) (F0 m 62 ls []) := by
            intro  H locs ls  hw hl
            refine lv_aload_n hf.1 hf.2.1 dX3_findOrAdd_62 rfl (lv_at hl 3 rfl) ?_
            refine mget hf hw iX3 0 rfl rfl 7 (by decide) k256 rfl dX3_findOrAdd_63 ?_
            refine lv_iload hf.1 hf.2.1 dX3_findOrAdd_66 (lv_at hl 1 rfl) ?_
            refine miald hf hw 7 6 rfl rfl (vp_in_nI (by omega) (by decide)) dX3_findOrAdd_68 ?_
            refine lv_topi (fun x_36 ex_36 => ?_)
            have hz : kiv cnt x_36 := by rw [ex_36, nI_tc (by omega)]; exact hK.2 k hk
            refine lv_istore (lv' := [(8, .int x_36), (9, .int (nI i)), (7, .int (nI b)), (0, .ref h0), (1, .int so), (2, .int n), (3, .ref pr), (4, .int fr), (5, .int gi), (6, .int co)]) hf.1 hf.2.1 dX3_findOrAdd_69 hl (by decide) rfl (fun ls hl => ?_)
            obtain ⟨x_37, ex_37⟩ : ∃ y : Int32, y = (nI i) + 1 := ⟨_, rfl⟩
            refine lv_iinc (v := x_37) (lv' := [(9, .int x_37), (8, .int x_36), (7, .int (nI b)), (0, .ref h0), (1, .int so), (2, .int n), (3, .ref pr), (4, .int fr), (5, .int gi), (6, .int co)]) hf.1 hf.2.1 dX3_findOrAdd_71 hl (k := 1) rfl (by rw [ex_37]; rfl) (by decide) rfl (fun ls hl => ?_)
            obtain rfl : x_37 = nI (i + 1) := by rw [ex_37, nI_1]
            refine lv_goto (tgt := 19) hf.1 hf.2.1 dX3_findOrAdd_74 (by decide) ?_
            exact ih (i + 1) x_36 _ _ _ (by omega) hz (by omega) hw (lv_sub hl [0, 1, 2, 3, 4, 5, 6, 7, 8, 9] rfl)
          refine lv_aload_n hf.1 hf.2.1 dX3_findOrAdd_33 rfl (lv_at hl 3 rfl) ?_
          refine mget hf hw iX3 0 rfl rfl 1 (by decide) k250 rfl dX3_findOrAdd_34 ?_
          refine lv_iload hf.1 hf.2.1 dX3_findOrAdd_37 (lv_at hl 1 rfl) ?_
          refine miald hf hw 1 0 rfl rfl (vp_in_nI (by omega) (by decide)) dX3_findOrAdd_39 ?_
          refine lv_topi (fun x_38 ex_38 => ?_)
          refine lv_iload_n hf.1 hf.2.1 dX3_findOrAdd_40 rfl (lv_at hl 4 rfl) ?_
          refine lv_icmp_ne (tgt := 62) hf.1 hf.2.1 dX3_findOrAdd_41 (by decide) (fun c_39 => ?_) (fun c_39 => ?_)
          · exact J62 _ _ _ hw (lv_sub hl [0, 1, 2, 3, 4, 5, 6, 7, 8, 9] rfl)
          · refine lv_aload_n hf.1 hf.2.1 dX3_findOrAdd_44 rfl (lv_at hl 3 rfl) ?_
            refine lv_iload hf.1 hf.2.1 dX3_findOrAdd_45 (lv_at hl 1 rfl) ?_
            refine lv_iload_n hf.1 hf.2.1 dX3_findOrAdd_47 rfl (lv_at hl 5 rfl) ?_
            refine lv_aload_n hf.1 hf.2.1 dX3_findOrAdd_48 rfl (lv_at hl 6 rfl) ?_
            refine lv_iload hf.1 hf.2.1 dX3_findOrAdd_49 (lv_at hl 7 rfl) ?_
            refine lv_iload hf.1 hf.2.1 dX3_findOrAdd_51 (lv_at hl 8 rfl) ?_
            refine mV_i (As := [.int (nI k), .int n, .ref pr, .int fr, .int gi]) (rest := []) (wr := [(q1, .inl (c1, 1549, .inl f1)), (q4, .inl (c4, 1549, .inl f4)), (q5, .inl (c5, 1549, .inl f5)), (q6, .inl (c6, 512, .inl f6)), (q7, .inl (c7, 1549, .inl f7))]) (tr := [(c1, .int), (c4, .int), (c5, .boolean), (c6, .int), (c7, .int)]) hf hw (c_isSame l dC dI h0 q1 q2 q3 q4 q5 q6 q7 c2 c3 f2 f3 cnt k n fr gi pr cp NP fp H.size (by omega) hn4 hfr hfp hNP) ka_X3_isSame kv_X3_isSame 0 rfl rfl k230 [0, 2, 3, 8] [1, 2, 7] [1, 4, 5, 6, 7] [0, 3, 4, 5, 6] rfl rfl rfl rfl rfl (by decide) rfl rfl rfl hl.1 rfl rfl ⟨Nat.le_of_ble_eq_true rfl, Nat.le_of_ble_eq_true rfl⟩ (Nat.le_of_ble_eq_true rfl) (ce := 0) (sl := 0) rfl rfl ⟨Nat.le_of_ble_eq_true rfl, Nat.le_of_ble_eq_true rfl⟩ dX3_findOrAdd_53 (fun r_40 u_41 hu_41 H locs hw => ?_)
            have hw : Wd dC dI A [(q1, .inl (c1, 1549, .inl f1)), (q4, .inl (c4, 1549, .inl f4)), (q5, .inl (c5, 1549, .inl f5)), (q6, .inl (c6, 512, .inl f6)), (q7, .inl (c7, 1549, .inl f7)), (h0, .inr (3, [.int (nI cnt), .ref q1, .ref q2, .ref q3, .ref q4, .ref q5, .ref q6, .ref q7])), (q2, .inl (c2, 1549, .inl f2)), (q3, .inl (c3, 7745, .inl f3)), (pr, .inl (cp, NP, .inl fp))] [(c1, .int), (c4, .int), (c5, .boolean), (c6, .int), (c7, .int), (c2, .int), (c3, .int), (cp, .int)] s H locs := hw
            have hw := hw.pick (ws' := [(h0, .inr (3, [.int (nI cnt), .ref q1, .ref q2, .ref q3, .ref q4, .ref q5, .ref q6, .ref q7])), (q1, .inl (c1, 1549, .inl f1)), (q2, .inl (c2, 1549, .inl f2)), (q3, .inl (c3, 7745, .inl f3)), (q4, .inl (c4, 1549, .inl f4)), (q5, .inl (c5, 1549, .inl f5)), (q6, .inl (c6, 512, .inl f6)), (q7, .inl (c7, 1549, .inl f7)), (pr, .inl (cp, NP, .inl fp))]) (tys' := [(c1, .int), (c2, .int), (c3, .int), (c4, .int), (c5, .boolean), (c6, .int), (c7, .int), (cp, .int)]) [5, 0, 6, 7, 1, 2, 3, 4, 8] [0, 5, 6, 1, 2, 3, 4, 7] rfl rfl rfl
            refine lv_if_eq (tgt := 62) hf.1 hf.2.1 dX3_findOrAdd_56 (by decide) (fun c_42 => ?_) (fun c_42 => ?_)
            · exact J62 _ _ _ hw (lv_sub hl [0, 1, 2, 3, 4, 5, 6, 7, 8, 9] rfl)
            · refine lv_iload hf.1 hf.2.1 dX3_findOrAdd_59 (lv_at hl 1 rfl) ?_
              exact mret_i (v := (nI k)) hf hr hlk hw (cnt, f1, f2, f3, f4, f5, f6, f7) ⟨⟨k, by omega, rfl⟩, Nat.le_refl _, Nat.le_succ _, hc, hK⟩ [0, 1, 2, 3, 4, 5, 6, 7, 8] [0, 1, 2, 3, 4, 5, 6, 7] rfl rfl rfl (Nat.le_of_ble_eq_true rfl) (Nat.le_of_ble_eq_true rfl) dX3_findOrAdd_61
  exact loop1 1550 0 _ _ _ _ (by omega) hkd (by omega) hw (lv_sub hl [0, 1, 2, 3, 4, 5, 6, 7, 8, 9] rfl)

set_option maxHeartbeats 4000000 in
set_option maxRecDepth 100000 in
theorem c_findOrAdd0 (l : Launch) (dC : Nat → ClassId) (dI : Nat → Nat → Nat) (h0 q1 q2 q3 q4 q5 q6 q7 : Nat) (c1 c2 c3 c4 c5 c6 c7 : ClassId) (f1 f2 f3 f4 f5 f6 f7 : Nat → Int32) (cnt : Nat) (so n fr gi co : Int32) (pr : Nat) (sz : Nat) (hc : cnt ≤ 1549) (hK : KI cnt f6 f7) (hn4 : n.toInt = 0) : Met l yX3_findOrAdd (wsOf yX3_findOrAdd cX3_findOrAdd 11 (some .int)) ({ frames := 10, cells := 0, slots := 0, locals := 150 } : Room) (va_Pc [.ref h0, .int so, .int n, .ref pr, .int fr, .int gi, .int co] (PB dC dI sz [(h0, .inr (3, [.int (nI cnt), .ref q1, .ref q2, .ref q3, .ref q4, .ref q5, .ref q6, .ref q7])), (q1, .inl (c1, 1549, .inl f1)), (q2, .inl (c2, 1549, .inl f2)), (q3, .inl (c3, 7745, .inl f3)), (q4, .inl (c4, 1549, .inl f4)), (q5, .inl (c5, 1549, .inl f5)), (q6, .inl (c6, 512, .inl f6)), (q7, .inl (c7, 1549, .inl f7))] [(c1, .int), (c2, .int), (c3, .int), (c4, .int), (c5, .boolean), (c6, .int), (c7, .int)])) (va_Qi (S := Nat × (Nat → Int32) × (Nat → Int32) × (Nat → Int32) × (Nat → Int32) × (Nat → Int32) × (Nat → Int32) × (Nat → Int32)) (fun r x => (∃ k : Nat, k < 1549 ∧ r = nI k) ∧ cnt ≤ x.1 ∧ x.1 ≤ cnt + 1 ∧ x.1 ≤ 1549 ∧ KI x.1 x.2.2.2.2.2.2.1 x.2.2.2.2.2.2.2) (fun x t => PW dC dI (va_A [(h0, .inr (3, [.int (nI cnt), .ref q1, .ref q2, .ref q3, .ref q4, .ref q5, .ref q6, .ref q7])), (q1, .inl (c1, 1549, .inl f1)), (q2, .inl (c2, 1549, .inl f2)), (q3, .inl (c3, 7745, .inl f3)), (q4, .inl (c4, 1549, .inl f4)), (q5, .inl (c5, 1549, .inl f5)), (q6, .inl (c6, 512, .inl f6)), (q7, .inl (c7, 1549, .inl f7))] sz) ([(h0, .inr (3, [.int (nI x.1), .ref q1, .ref q2, .ref q3, .ref q4, .ref q5, .ref q6, .ref q7])), (q1, .inl (c1, 1549, .inl x.2.1)), (q2, .inl (c2, 1549, .inl x.2.2.1)), (q3, .inl (c3, 7745, .inl x.2.2.2.1)), (q4, .inl (c4, 1549, .inl x.2.2.2.2.1)), (q5, .inl (c5, 1549, .inl x.2.2.2.2.2.1)), (q6, .inl (c6, 512, .inl x.2.2.2.2.2.2.1)), (q7, .inl (c7, 1549, .inl x.2.2.2.2.2.2.2))]) ([(c1, .int), (c2, .int), (c3, .int), (c4, .int), (c5, .boolean), (c6, .int), (c7, .int)]) t) (va_A [(h0, .inr (3, [.int (nI cnt), .ref q1, .ref q2, .ref q3, .ref q4, .ref q5, .ref q6, .ref q7])), (q1, .inl (c1, 1549, .inl f1)), (q2, .inl (c2, 1549, .inl f2)), (q3, .inl (c3, 7745, .inl f3)), (q4, .inl (c4, 1549, .inl f4)), (q5, .inl (c5, 1549, .inl f5)), (q6, .inl (c6, 512, .inl f6)), (q7, .inl (c7, 1549, .inl f7))] sz)) 0 0 (va_A [(h0, .inr (3, [.int (nI cnt), .ref q1, .ref q2, .ref q3, .ref q4, .ref q5, .ref q6, .ref q7])), (q1, .inl (c1, 1549, .inl f1)), (q2, .inl (c2, 1549, .inl f2)), (q3, .inl (c3, 7745, .inl f3)), (q4, .inl (c4, 1549, .inl f4)), (q5, .inl (c5, 1549, .inl f5)), (q6, .inl (c6, 512, .inl f6)), (q7, .inl (c7, 1549, .inl f7))] sz) := by
  refine mbody (b := cX3_findOrAdd) (n := 11) (ret := (some .int)) (Qc := fun A => (va_Qi (S := Nat × (Nat → Int32) × (Nat → Int32) × (Nat → Int32) × (Nat → Int32) × (Nat → Int32) × (Nat → Int32) × (Nat → Int32)) (fun r x => (∃ k : Nat, k < 1549 ∧ r = nI k) ∧ cnt ≤ x.1 ∧ x.1 ≤ cnt + 1 ∧ x.1 ≤ 1549 ∧ KI x.1 x.2.2.2.2.2.2.1 x.2.2.2.2.2.2.2) (fun x t => PW dC dI A ([(h0, .inr (3, [.int (nI x.1), .ref q1, .ref q2, .ref q3, .ref q4, .ref q5, .ref q6, .ref q7])), (q1, .inl (c1, 1549, .inl x.2.1)), (q2, .inl (c2, 1549, .inl x.2.2.1)), (q3, .inl (c3, 7745, .inl x.2.2.2.1)), (q4, .inl (c4, 1549, .inl x.2.2.2.2.1)), (q5, .inl (c5, 1549, .inl x.2.2.2.2.2.1)), (q6, .inl (c6, 512, .inl x.2.2.2.2.2.2.1)), (q7, .inl (c7, 1549, .inl x.2.2.2.2.2.2.2))]) ([(c1, .int), (c2, .int), (c3, .int), (c4, .int), (c5, .boolean), (c6, .int), (c7, .int)]) t) A)) (by decide) (Nat.le_of_ble_eq_true rfl) ?_
  intro p e s m below meth c ls A H hf hr hin hlk hw hl
  have hl : lv_has ls 11 [(0, .ref h0), (1, .int so), (2, .int n), (3, .ref pr), (4, .int fr), (5, .int gi), (6, .int co)] := hl
  refine lv_iload hf.1 hf.2.1 dX3_findOrAdd_0 (lv_at hl 6 rfl) ?_
  refine mS_i (As := [.int co]) (rest := []) (wr := [(h0, .inr (3, [.int (nI cnt), .ref q1, .ref q2, .ref q3, .ref q4, .ref q5, .ref q6, .ref q7])), (q1, .inl (c1, 1549, .inl f1)), (q2, .inl (c2, 1549, .inl f2)), (q3, .inl (c3, 7745, .inl f3)), (q4, .inl (c4, 1549, .inl f4)), (q5, .inl (c5, 1549, .inl f5)), (q6, .inl (c6, 512, .inl f6)), (q7, .inl (c7, 1549, .inl f7))]) (tr := [(c1, .int), (c2, .int), (c3, .int), (c4, .int), (c5, .boolean), (c6, .int), (c7, .int)]) hf hw (c_bucketOf l dC dI co H.size) ka_X3_bucketOf k228 k227 [] [] [0, 1, 2, 3, 4, 5, 6, 7] [0, 1, 2, 3, 4, 5, 6] rfl rfl rfl rfl rfl (by decide) rfl rfl rfl hl.1 rfl rfl ⟨Nat.le_of_ble_eq_true rfl, Nat.le_of_ble_eq_true rfl⟩ (Nat.le_of_ble_eq_true rfl) (ce := 0) (sl := 0) rfl rfl ⟨Nat.le_of_ble_eq_true rfl, Nat.le_of_ble_eq_true rfl⟩ dX3_findOrAdd_2 (fun r_1 u_2 hu_2 H locs hw => ?_)
  have hw : Wd dC dI A [(h0, .inr (3, [.int (nI cnt), .ref q1, .ref q2, .ref q3, .ref q4, .ref q5, .ref q6, .ref q7])), (q1, .inl (c1, 1549, .inl f1)), (q2, .inl (c2, 1549, .inl f2)), (q3, .inl (c3, 7745, .inl f3)), (q4, .inl (c4, 1549, .inl f4)), (q5, .inl (c5, 1549, .inl f5)), (q6, .inl (c6, 512, .inl f6)), (q7, .inl (c7, 1549, .inl f7))] [(c1, .int), (c2, .int), (c3, .int), (c4, .int), (c5, .boolean), (c6, .int), (c7, .int)] s H locs := hw
  obtain ⟨b, hb, rfl⟩ := hu_2
  have hw := hw.pick (ws' := [(h0, .inr (3, [.int (nI cnt), .ref q1, .ref q2, .ref q3, .ref q4, .ref q5, .ref q6, .ref q7])), (q1, .inl (c1, 1549, .inl f1)), (q2, .inl (c2, 1549, .inl f2)), (q3, .inl (c3, 7745, .inl f3)), (q4, .inl (c4, 1549, .inl f4)), (q5, .inl (c5, 1549, .inl f5)), (q6, .inl (c6, 512, .inl f6)), (q7, .inl (c7, 1549, .inl f7))]) (tys' := [(c1, .int), (c2, .int), (c3, .int), (c4, .int), (c5, .boolean), (c6, .int), (c7, .int)]) [0, 1, 2, 3, 4, 5, 6, 7] [0, 1, 2, 3, 4, 5, 6] rfl rfl rfl
  refine lv_istore (lv' := [(7, .int (nI b)), (0, .ref h0), (1, .int so), (2, .int n), (3, .ref pr), (4, .int fr), (5, .int gi), (6, .int co)]) hf.1 hf.2.1 dX3_findOrAdd_5 hl (by decide) rfl (fun ls hl => ?_)
  refine lv_aload_n hf.1 hf.2.1 dX3_findOrAdd_7 rfl (lv_at hl 1 rfl) ?_
  refine mget hf hw iX3 0 rfl rfl 6 (by decide) k255 rfl dX3_findOrAdd_8 ?_
  refine lv_iload hf.1 hf.2.1 dX3_findOrAdd_11 (lv_at hl 0 rfl) ?_
  refine miald hf hw 6 5 rfl rfl (vp_in_nI hb (by decide)) dX3_findOrAdd_13 ?_
  refine lv_topi (fun x_3 ex_3 => ?_)
  have hkd : kiv cnt x_3 := by rw [ex_3, nI_tc (by omega)]; exact hK.1 b hb
  refine lv_istore (lv' := [(8, .int x_3), (7, .int (nI b)), (0, .ref h0), (1, .int so), (2, .int n), (3, .ref pr), (4, .int fr), (5, .int gi), (6, .int co)]) hf.1 hf.2.1 dX3_findOrAdd_14 hl (by decide) rfl (fun ls hl => ?_)
  refine lv_iconst (v := 0) hf.1 hf.2.1 dX3_findOrAdd_16 (by decide) ?_
  refine lv_istore (lv' := [(9, .int 0), (8, .int x_3), (7, .int (nI b)), (0, .ref h0), (1, .int so), (2, .int n), (3, .ref pr), (4, .int fr), (5, .int gi), (6, .int co)]) hf.1 hf.2.1 dX3_findOrAdd_17 hl (by decide) rfl (fun ls hl => ?_)
  have J77 : ∀ (xi kd : Int32) (H : Heap) (locs : List Loc) (ls : Array Slot), Wd dC dI A [(h0, .inr (3, [.int (nI cnt), .ref q1, .ref q2, .ref q3, .ref q4, .ref q5, .ref q6, .ref q7])), (q1, .inl (c1, 1549, .inl f1)), (q2, .inl (c2, 1549, .inl f2)), (q3, .inl (c3, 7745, .inl f3)), (q4, .inl (c4, 1549, .inl f4)), (q5, .inl (c5, 1549, .inl f5)), (q6, .inl (c6, 512, .inl f6)), (q7, .inl (c7, 1549, .inl f7))] [(c1, .int), (c2, .int), (c3, .int), (c4, .int), (c5, .boolean), (c6, .int), (c7, .int)] s H locs → lv_has ls 11 [(9, .int xi), (8, .int kd), (7, .int (nI b)), (0, .ref h0), (1, .int so), (2, .int n), (3, .ref pr), (4, .int fr), (5, .int gi), (6, .int co)] → W p l e ({ frames := 10, cells := 0, slots := 0, locals := 150 } : Room) s m [.ref h0, .int so, .int n, .ref pr, .int fr, .int gi, .int co].toArray below meth c H locs 0 0 (MQ below (va_Qi (S := Nat × (Nat → Int32) × (Nat → Int32) × (Nat → Int32) × (Nat → Int32) × (Nat → Int32) × (Nat → Int32) × (Nat → Int32)) (fun r x => (∃ k : Nat, k < 1549 ∧ r = nI k) ∧ cnt ≤ x.1 ∧ x.1 ≤ cnt + 1 ∧ x.1 ≤ 1549 ∧ KI x.1 x.2.2.2.2.2.2.1 x.2.2.2.2.2.2.2) (fun x t => PW dC dI A ([(h0, .inr (3, [.int (nI x.1), .ref q1, .ref q2, .ref q3, .ref q4, .ref q5, .ref q6, .ref q7])), (q1, .inl (c1, 1549, .inl x.2.1)), (q2, .inl (c2, 1549, .inl x.2.2.1)), (q3, .inl (c3, 7745, .inl x.2.2.2.1)), (q4, .inl (c4, 1549, .inl x.2.2.2.2.1)), (q5, .inl (c5, 1549, .inl x.2.2.2.2.2.1)), (q6, .inl (c6, 512, .inl x.2.2.2.2.2.2.1)), (q7, .inl (c7, 1549, .inl x.2.2.2.2.2.2.2))]) ([(c1, .int), (c2, .int), (c3, .int), (c4, .int), (c5, .boolean), (c6, .int), (c7, .int)]) t) A) [.ref h0, .int so, .int n, .ref pr, .int fr, .int gi, .int co].toArray s 0 0 A) (F0 m 77 ls []) := by
    intro xi kd H locs ls  hw hl
    refine lv_aload_n hf.1 hf.2.1 dX3_findOrAdd_77 rfl (lv_at hl 3 rfl) ?_
    refine mget hf hw iX3 0 rfl rfl 0 (by decide) k257 rfl dX3_findOrAdd_78 ?_
    refine lv_sipush (v := 1549) hf.1 hf.2.1 dX3_findOrAdd_81 (by decide) ?_
    refine lv_icmp_lt (tgt := 89) hf.1 hf.2.1 dX3_findOrAdd_84 (by decide) (fun c_4 => ?_) (fun c_4 => ?_)
    · have hlt : cnt < 1549 := (nI_ltI (by omega) (by decide)).mp c_4
      refine lv_aload_n hf.1 hf.2.1 dX3_findOrAdd_89 rfl (lv_at hl 3 rfl) ?_
      refine mget hf hw iX3 0 rfl rfl 0 (by decide) k257 rfl dX3_findOrAdd_90 ?_
      refine lv_istore (lv' := [(8, .int (nI cnt)), (9, .int xi), (7, .int (nI b)), (0, .ref h0), (1, .int so), (2, .int n), (3, .ref pr), (4, .int fr), (5, .int gi), (6, .int co)]) hf.1 hf.2.1 dX3_findOrAdd_93 hl (by decide) rfl (fun ls hl => ?_)
      refine lv_aload_n hf.1 hf.2.1 dX3_findOrAdd_95 rfl (lv_at hl 3 rfl) ?_
      refine lv_dup hf.1 hf.2.1 dX3_findOrAdd_96 rfl ?_
      refine mget hf hw iX3 0 rfl rfl 0 (by decide) k257 rfl dX3_findOrAdd_97 ?_
      refine lv_iconst (v := 1) hf.1 hf.2.1 dX3_findOrAdd_100 (by decide) ?_
      refine lv_iadd hf.1 hf.2.1 dX3_findOrAdd_101 ?_
      refine lv_topi (fun x_5 ex_5 => ?_)
      obtain rfl : x_5 = nI (cnt + 1) := by rw [ex_5, nI_1]
      refine mput hf hw iX3 tyX3 tyX3_ok nmX3 0 rfl rfl 0 (by decide) k257 rfl rfl rfl (Nat.le_of_ble_eq_true rfl) (ws' := [(h0, .inr (3, [.int (nI (cnt + 1)), .ref q1, .ref q2, .ref q3, .ref q4, .ref q5, .ref q6, .ref q7])), (q1, .inl (c1, 1549, .inl f1)), (q2, .inl (c2, 1549, .inl f2)), (q3, .inl (c3, 7745, .inl f3)), (q4, .inl (c4, 1549, .inl f4)), (q5, .inl (c5, 1549, .inl f5)), (q6, .inl (c6, 512, .inl f6)), (q7, .inl (c7, 1549, .inl f7))]) rfl dX3_findOrAdd_102 (fun H locs hw => ?_)
      refine lv_aload_n hf.1 hf.2.1 dX3_findOrAdd_105 rfl (lv_at hl 3 rfl) ?_
      refine mget hf hw iX3 0 rfl rfl 1 (by decide) k250 rfl dX3_findOrAdd_106 ?_
      refine lv_iload hf.1 hf.2.1 dX3_findOrAdd_109 (lv_at hl 0 rfl) ?_
      refine lv_iload_n hf.1 hf.2.1 dX3_findOrAdd_111 rfl (lv_at hl 4 rfl) ?_
      refine miast hf hw 1 0 rfl rfl (vp_in_nI hlt (by decide)) dX3_findOrAdd_112 (fun f_6 ef_6 H locs hw => ?_)
      have hw : Wd dC dI A [(h0, .inr (3, [.int (nI (cnt + 1)), .ref q1, .ref q2, .ref q3, .ref q4, .ref q5, .ref q6, .ref q7])), (q1, .inl (c1, 1549, .inl f_6)), (q2, .inl (c2, 1549, .inl f2)), (q3, .inl (c3, 7745, .inl f3)), (q4, .inl (c4, 1549, .inl f4)), (q5, .inl (c5, 1549, .inl f5)), (q6, .inl (c6, 512, .inl f6)), (q7, .inl (c7, 1549, .inl f7))] [(c1, .int), (c2, .int), (c3, .int), (c4, .int), (c5, .boolean), (c6, .int), (c7, .int)] s H locs := hw
      refine lv_aload_n hf.1 hf.2.1 dX3_findOrAdd_113 rfl (lv_at hl 3 rfl) ?_
      refine mget hf hw iX3 0 rfl rfl 2 (by decide) k251 rfl dX3_findOrAdd_114 ?_
      refine lv_iload hf.1 hf.2.1 dX3_findOrAdd_117 (lv_at hl 0 rfl) ?_
      refine lv_iload_n hf.1 hf.2.1 dX3_findOrAdd_119 rfl (lv_at hl 5 rfl) ?_
      refine miast hf hw 2 1 rfl rfl (vp_in_nI hlt (by decide)) dX3_findOrAdd_120 (fun f_7 ef_7 H locs hw => ?_)
      have hw : Wd dC dI A [(h0, .inr (3, [.int (nI (cnt + 1)), .ref q1, .ref q2, .ref q3, .ref q4, .ref q5, .ref q6, .ref q7])), (q1, .inl (c1, 1549, .inl f_6)), (q2, .inl (c2, 1549, .inl f_7)), (q3, .inl (c3, 7745, .inl f3)), (q4, .inl (c4, 1549, .inl f4)), (q5, .inl (c5, 1549, .inl f5)), (q6, .inl (c6, 512, .inl f6)), (q7, .inl (c7, 1549, .inl f7))] [(c1, .int), (c2, .int), (c3, .int), (c4, .int), (c5, .boolean), (c6, .int), (c7, .int)] s H locs := hw
      refine lv_aload_n hf.1 hf.2.1 dX3_findOrAdd_121 rfl (lv_at hl 3 rfl) ?_
      refine mget hf hw iX3 0 rfl rfl 4 (by decide) k253 rfl dX3_findOrAdd_122 ?_
      refine lv_iload hf.1 hf.2.1 dX3_findOrAdd_125 (lv_at hl 0 rfl) ?_
      refine lv_iload hf.1 hf.2.1 dX3_findOrAdd_127 (lv_at hl 9 rfl) ?_
      refine miast hf hw 4 3 rfl rfl (vp_in_nI hlt (by decide)) dX3_findOrAdd_129 (fun f_8 ef_8 H locs hw => ?_)
      have hw : Wd dC dI A [(h0, .inr (3, [.int (nI (cnt + 1)), .ref q1, .ref q2, .ref q3, .ref q4, .ref q5, .ref q6, .ref q7])), (q1, .inl (c1, 1549, .inl f_6)), (q2, .inl (c2, 1549, .inl f_7)), (q3, .inl (c3, 7745, .inl f3)), (q4, .inl (c4, 1549, .inl f_8)), (q5, .inl (c5, 1549, .inl f5)), (q6, .inl (c6, 512, .inl f6)), (q7, .inl (c7, 1549, .inl f7))] [(c1, .int), (c2, .int), (c3, .int), (c4, .int), (c5, .boolean), (c6, .int), (c7, .int)] s H locs := hw
      refine lv_aload_n hf.1 hf.2.1 dX3_findOrAdd_130 rfl (lv_at hl 3 rfl) ?_
      refine mget hf hw iX3 0 rfl rfl 3 (by decide) k252 rfl dX3_findOrAdd_131 ?_
      refine lv_iload hf.1 hf.2.1 dX3_findOrAdd_134 (lv_at hl 0 rfl) ?_
      refine lv_iconst (v := 5) hf.1 hf.2.1 dX3_findOrAdd_136 (by decide) ?_
      refine lv_imul hf.1 hf.2.1 dX3_findOrAdd_137 ?_
      refine lv_topi (fun x_9 ex_9 => ?_)
      obtain rfl : x_9 = nI (cnt * 5) := by rw [ex_9]; exact nI_mul cnt 5
      refine lv_iconst (v := 4) hf.1 hf.2.1 dX3_findOrAdd_138 (by decide) ?_
      refine lv_iadd hf.1 hf.2.1 dX3_findOrAdd_139 ?_
      refine lv_topi (fun x_10 ex_10 => ?_)
      obtain rfl : x_10 = nI (cnt * 5 + 4) := by rw [ex_10]; exact nI_add _ 4
      refine lv_iload hf.1 hf.2.1 dX3_findOrAdd_140 (lv_at hl 8 rfl) ?_
      refine miast hf hw 3 2 rfl rfl (vp_in_nI (by omega) (by decide)) dX3_findOrAdd_142 (fun f_11 ef_11 H locs hw => ?_)
      have hw : Wd dC dI A [(h0, .inr (3, [.int (nI (cnt + 1)), .ref q1, .ref q2, .ref q3, .ref q4, .ref q5, .ref q6, .ref q7])), (q1, .inl (c1, 1549, .inl f_6)), (q2, .inl (c2, 1549, .inl f_7)), (q3, .inl (c3, 7745, .inl f_11)), (q4, .inl (c4, 1549, .inl f_8)), (q5, .inl (c5, 1549, .inl f5)), (q6, .inl (c6, 512, .inl f6)), (q7, .inl (c7, 1549, .inl f7))] [(c1, .int), (c2, .int), (c3, .int), (c4, .int), (c5, .boolean), (c6, .int), (c7, .int)] s H locs := hw
      refine lv_iload_n hf.1 hf.2.1 dX3_findOrAdd_143 rfl (lv_at hl 4 rfl) ?_
      refine lv_iconst (v := 2) hf.1 hf.2.1 dX3_findOrAdd_144 (by decide) ?_
      have J229 : ∀ (xa any : Int32) (g3 : Nat → Int32) (H : Heap) (locs : List Loc) (ls : Array Slot), Wd dC dI A [(h0, .inr (3, [.int (nI (cnt + 1)), .ref q1, .ref q2, .ref q3, .ref q4, .ref q5, .ref q6, .ref q7])), (q1, .inl (c1, 1549, .inl f_6)), (q2, .inl (c2, 1549, .inl f_7)), (q3, .inl (c3, 7745, .inl g3)), (q4, .inl (c4, 1549, .inl f_8)), (q5, .inl (c5, 1549, .inl f5)), (q6, .inl (c6, 512, .inl f6)), (q7, .inl (c7, 1549, .inl f7))] [(c1, .int), (c2, .int), (c3, .int), (c4, .int), (c5, .boolean), (c6, .int), (c7, .int)] s H locs → lv_has ls 11 [(10, .int xa), (9, .int any), (7, .int (nI b)), (8, .int (nI cnt)), (0, .ref h0), (1, .int so), (2, .int n), (3, .ref pr), (4, .int fr), (5, .int gi), (6, .int co)] → W p l e ({ frames := 10, cells := 0, slots := 0, locals := 150 } : Room) s m [.ref h0, .int so, .int n, .ref pr, .int fr, .int gi, .int co].toArray below meth c H locs 0 0 (MQ below (va_Qi (S := Nat × (Nat → Int32) × (Nat → Int32) × (Nat → Int32) × (Nat → Int32) × (Nat → Int32) × (Nat → Int32) × (Nat → Int32)) (fun r x => (∃ k : Nat, k < 1549 ∧ r = nI k) ∧ cnt ≤ x.1 ∧ x.1 ≤ cnt + 1 ∧ x.1 ≤ 1549 ∧ KI x.1 x.2.2.2.2.2.2.1 x.2.2.2.2.2.2.2) (fun x t => PW dC dI A ([(h0, .inr (3, [.int (nI x.1), .ref q1, .ref q2, .ref q3, .ref q4, .ref q5, .ref q6, .ref q7])), (q1, .inl (c1, 1549, .inl x.2.1)), (q2, .inl (c2, 1549, .inl x.2.2.1)), (q3, .inl (c3, 7745, .inl x.2.2.2.1)), (q4, .inl (c4, 1549, .inl x.2.2.2.2.1)), (q5, .inl (c5, 1549, .inl x.2.2.2.2.2.1)), (q6, .inl (c6, 512, .inl x.2.2.2.2.2.2.1)), (q7, .inl (c7, 1549, .inl x.2.2.2.2.2.2.2))]) ([(c1, .int), (c2, .int), (c3, .int), (c4, .int), (c5, .boolean), (c6, .int), (c7, .int)]) t) A) [.ref h0, .int so, .int n, .ref pr, .int fr, .int gi, .int co].toArray s 0 0 A) (F0 m 229 ls []) := by
        intro xa any g3 H locs ls  hw hl
        refine lv_aload_n hf.1 hf.2.1 dX3_findOrAdd_229 rfl (lv_at hl 4 rfl) ?_
        refine mget hf hw iX3 0 rfl rfl 5 (by decide) k254 rfl dX3_findOrAdd_230 ?_
        refine lv_iload hf.1 hf.2.1 dX3_findOrAdd_233 (lv_at hl 3 rfl) ?_
        refine lv_iload hf.1 hf.2.1 dX3_findOrAdd_235 (lv_at hl 1 rfl) ?_
        refine mzast hf hw 5 4 rfl rfl (vp_in_nI hlt (by decide)) dX3_findOrAdd_237 (fun f_12 ef_12 H locs hw => ?_)
        have hw : Wd dC dI A [(h0, .inr (3, [.int (nI (cnt + 1)), .ref q1, .ref q2, .ref q3, .ref q4, .ref q5, .ref q6, .ref q7])), (q1, .inl (c1, 1549, .inl f_6)), (q2, .inl (c2, 1549, .inl f_7)), (q3, .inl (c3, 7745, .inl g3)), (q4, .inl (c4, 1549, .inl f_8)), (q5, .inl (c5, 1549, .inl f_12)), (q6, .inl (c6, 512, .inl f6)), (q7, .inl (c7, 1549, .inl f7))] [(c1, .int), (c2, .int), (c3, .int), (c4, .int), (c5, .boolean), (c6, .int), (c7, .int)] s H locs := hw
        refine lv_aload_n hf.1 hf.2.1 dX3_findOrAdd_238 rfl (lv_at hl 4 rfl) ?_
        refine mget hf hw iX3 0 rfl rfl 7 (by decide) k256 rfl dX3_findOrAdd_239 ?_
        refine lv_iload hf.1 hf.2.1 dX3_findOrAdd_242 (lv_at hl 3 rfl) ?_
        refine lv_aload_n hf.1 hf.2.1 dX3_findOrAdd_244 rfl (lv_at hl 4 rfl) ?_
        refine mget hf hw iX3 0 rfl rfl 6 (by decide) k255 rfl dX3_findOrAdd_245 ?_
        refine lv_iload hf.1 hf.2.1 dX3_findOrAdd_248 (lv_at hl 2 rfl) ?_
        refine miald hf hw 6 5 rfl rfl (vp_in_nI hb (by decide)) dX3_findOrAdd_250 ?_
        refine lv_topi (fun x_13 ex_13 => ?_)
        refine miast hf hw 7 6 rfl rfl (vp_in_nI hlt (by decide)) dX3_findOrAdd_251 (fun f_14 ef_14 H locs hw => ?_)
        have hw : Wd dC dI A [(h0, .inr (3, [.int (nI (cnt + 1)), .ref q1, .ref q2, .ref q3, .ref q4, .ref q5, .ref q6, .ref q7])), (q1, .inl (c1, 1549, .inl f_6)), (q2, .inl (c2, 1549, .inl f_7)), (q3, .inl (c3, 7745, .inl g3)), (q4, .inl (c4, 1549, .inl f_8)), (q5, .inl (c5, 1549, .inl f_12)), (q6, .inl (c6, 512, .inl f6)), (q7, .inl (c7, 1549, .inl f_14))] [(c1, .int), (c2, .int), (c3, .int), (c4, .int), (c5, .boolean), (c6, .int), (c7, .int)] s H locs := hw
        refine lv_aload_n hf.1 hf.2.1 dX3_findOrAdd_252 rfl (lv_at hl 4 rfl) ?_
        refine mget hf hw iX3 0 rfl rfl 6 (by decide) k255 rfl dX3_findOrAdd_253 ?_
        refine lv_iload hf.1 hf.2.1 dX3_findOrAdd_256 (lv_at hl 2 rfl) ?_
        refine lv_iload hf.1 hf.2.1 dX3_findOrAdd_258 (lv_at hl 3 rfl) ?_
        refine miast hf hw 6 5 rfl rfl (vp_in_nI hb (by decide)) dX3_findOrAdd_260 (fun f_15 ef_15 H locs hw => ?_)
        have hw : Wd dC dI A [(h0, .inr (3, [.int (nI (cnt + 1)), .ref q1, .ref q2, .ref q3, .ref q4, .ref q5, .ref q6, .ref q7])), (q1, .inl (c1, 1549, .inl f_6)), (q2, .inl (c2, 1549, .inl f_7)), (q3, .inl (c3, 7745, .inl g3)), (q4, .inl (c4, 1549, .inl f_8)), (q5, .inl (c5, 1549, .inl f_12)), (q6, .inl (c6, 512, .inl f_15)), (q7, .inl (c7, 1549, .inl f_14))] [(c1, .int), (c2, .int), (c3, .int), (c4, .int), (c5, .boolean), (c6, .int), (c7, .int)] s H locs := hw
        refine lv_iload hf.1 hf.2.1 dX3_findOrAdd_261 (lv_at hl 3 rfl) ?_
        have hK2 : KI (cnt + 1) f_15 f_14 := by
          rw [ef_15, ef_14, ex_13, nI_tc (by omega), nI_tc (by omega)]
          exact hK.ins hb
        exact mret_i (v := (nI cnt)) hf hr hlk hw (cnt + 1, f_6, f_7, g3, f_8, f_12, f_15, f_14) ⟨⟨cnt, hlt, rfl⟩, Nat.le_succ _, Nat.le_refl _, hlt, hK2⟩ [0, 1, 2, 3, 4, 5, 6, 7] [0, 1, 2, 3, 4, 5, 6] rfl rfl rfl (Nat.le_of_ble_eq_true rfl) (Nat.le_of_ble_eq_true rfl) dX3_findOrAdd_263
      have loop2 : ∀ (N : Nat) (j : Nat) (any : Int32) (g3 : Nat → Int32) (H : Heap) (locs : List Loc) (ls : Array Slot), 5 - j < N → (j : Int) ≤ 4 → Wd dC dI A [(h0, .inr (3, [.int (nI (cnt + 1)), .ref q1, .ref q2, .ref q3, .ref q4, .ref q5, .ref q6, .ref q7])), (q1, .inl (c1, 1549, .inl f_6)), (q2, .inl (c2, 1549, .inl f_7)), (q3, .inl (c3, 7745, .inl g3)), (q4, .inl (c4, 1549, .inl f_8)), (q5, .inl (c5, 1549, .inl f5)), (q6, .inl (c6, 512, .inl f6)), (q7, .inl (c7, 1549, .inl f7))] [(c1, .int), (c2, .int), (c3, .int), (c4, .int), (c5, .boolean), (c6, .int), (c7, .int)] s H locs → lv_has ls 11 [(10, .int (nI j)), (9, .int any), (7, .int (nI b)), (8, .int (nI cnt)), (0, .ref h0), (1, .int so), (2, .int n), (3, .ref pr), (4, .int fr), (5, .int gi), (6, .int co)] → W p l e ({ frames := 10, cells := 0, slots := 0, locals := 150 } : Room) s m [.ref h0, .int so, .int n, .ref pr, .int fr, .int gi, .int co].toArray below meth c H locs 0 0 (MQ below (va_Qi (S := Nat × (Nat → Int32) × (Nat → Int32) × (Nat → Int32) × (Nat → Int32) × (Nat → Int32) × (Nat → Int32) × (Nat → Int32)) (fun r x => (∃ k : Nat, k < 1549 ∧ r = nI k) ∧ cnt ≤ x.1 ∧ x.1 ≤ cnt + 1 ∧ x.1 ≤ 1549 ∧ KI x.1 x.2.2.2.2.2.2.1 x.2.2.2.2.2.2.2) (fun x t => PW dC dI A ([(h0, .inr (3, [.int (nI x.1), .ref q1, .ref q2, .ref q3, .ref q4, .ref q5, .ref q6, .ref q7])), (q1, .inl (c1, 1549, .inl x.2.1)), (q2, .inl (c2, 1549, .inl x.2.2.1)), (q3, .inl (c3, 7745, .inl x.2.2.2.1)), (q4, .inl (c4, 1549, .inl x.2.2.2.2.1)), (q5, .inl (c5, 1549, .inl x.2.2.2.2.2.1)), (q6, .inl (c6, 512, .inl x.2.2.2.2.2.2.1)), (q7, .inl (c7, 1549, .inl x.2.2.2.2.2.2.2))]) ([(c1, .int), (c2, .int), (c3, .int), (c4, .int), (c5, .boolean), (c6, .int), (c7, .int)]) t) A) [.ref h0, .int so, .int n, .ref pr, .int fr, .int gi, .int co].toArray s 0 0 A) (F0 m 172 ls []) := by
        intro N
        induction N with
        | zero => intro j any g3 H locs ls hm; exact absurd hm (Nat.not_lt_zero _)
        | succ N ih =>
          intro j any g3 H locs ls hm hj4 hw hl
          refine lv_iload hf.1 hf.2.1 dX3_findOrAdd_172 (lv_at hl 0 rfl) ?_
          refine lv_iload_n hf.1 hf.2.1 dX3_findOrAdd_174 rfl (lv_at hl 6 rfl) ?_
          refine lv_icmp_ge (tgt := 229) hf.1 hf.2.1 dX3_findOrAdd_175 (by decide) (fun c_16 => ?_) (fun c_16 => ?_)
          · exact J229 (nI j) any g3 _ _ _  hw (lv_sub hl [0, 1, 2, 3, 4, 5, 6, 7, 8, 9, 10] rfl)
          · have hj : (j : Int) < n.toInt := nI_lt_lit (by omega) (Int32.not_le.mp c_16)
            exfalso; omega
      have J167 : ∀ (v : Int32) (H : Heap) (locs : List Loc) (ls : Array Slot), Wd dC dI A [(h0, .inr (3, [.int (nI (cnt + 1)), .ref q1, .ref q2, .ref q3, .ref q4, .ref q5, .ref q6, .ref q7])), (q1, .inl (c1, 1549, .inl f_6)), (q2, .inl (c2, 1549, .inl f_7)), (q3, .inl (c3, 7745, .inl f_11)), (q4, .inl (c4, 1549, .inl f_8)), (q5, .inl (c5, 1549, .inl f5)), (q6, .inl (c6, 512, .inl f6)), (q7, .inl (c7, 1549, .inl f7))] [(c1, .int), (c2, .int), (c3, .int), (c4, .int), (c5, .boolean), (c6, .int), (c7, .int)] s H locs → lv_has ls 11 [(8, .int (nI cnt)), (9, .int xi), (7, .int (nI b)), (0, .ref h0), (1, .int so), (2, .int n), (3, .ref pr), (4, .int fr), (5, .int gi), (6, .int co)] → W p l e ({ frames := 10, cells := 0, slots := 0, locals := 150 } : Room) s m [.ref h0, .int so, .int n, .ref pr, .int fr, .int gi, .int co].toArray below meth c H locs 0 0 (MQ below (va_Qi (S := Nat × (Nat → Int32) × (Nat → Int32) × (Nat → Int32) × (Nat → Int32) × (Nat → Int32) × (Nat → Int32) × (Nat → Int32)) (fun r x => (∃ k : Nat, k < 1549 ∧ r = nI k) ∧ cnt ≤ x.1 ∧ x.1 ≤ cnt + 1 ∧ x.1 ≤ 1549 ∧ KI x.1 x.2.2.2.2.2.2.1 x.2.2.2.2.2.2.2) (fun x t => PW dC dI A ([(h0, .inr (3, [.int (nI x.1), .ref q1, .ref q2, .ref q3, .ref q4, .ref q5, .ref q6, .ref q7])), (q1, .inl (c1, 1549, .inl x.2.1)), (q2, .inl (c2, 1549, .inl x.2.2.1)), (q3, .inl (c3, 7745, .inl x.2.2.2.1)), (q4, .inl (c4, 1549, .inl x.2.2.2.2.1)), (q5, .inl (c5, 1549, .inl x.2.2.2.2.2.1)), (q6, .inl (c6, 512, .inl x.2.2.2.2.2.2.1)), (q7, .inl (c7, 1549, .inl x.2.2.2.2.2.2.2))]) ([(c1, .int), (c2, .int), (c3, .int), (c4, .int), (c5, .boolean), (c6, .int), (c7, .int)]) t) A) [.ref h0, .int so, .int n, .ref pr, .int fr, .int gi, .int co].toArray s 0 0 A) (F0 m 167 ls [.int v]) := by
        intro v H locs ls  hw hl
        refine lv_istore (lv' := [(9, .int v), (8, .int (nI cnt)), (7, .int (nI b)), (0, .ref h0), (1, .int so), (2, .int n), (3, .ref pr), (4, .int fr), (5, .int gi), (6, .int co)]) hf.1 hf.2.1 dX3_findOrAdd_167 hl (by decide) rfl (fun ls hl => ?_)
        refine lv_iconst (v := 0) hf.1 hf.2.1 dX3_findOrAdd_169 (by decide) ?_
        refine lv_istore (lv' := [(10, .int 0), (9, .int v), (8, .int (nI cnt)), (7, .int (nI b)), (0, .ref h0), (1, .int so), (2, .int n), (3, .ref pr), (4, .int fr), (5, .int gi), (6, .int co)]) hf.1 hf.2.1 dX3_findOrAdd_170 hl (by decide) rfl (fun ls hl => ?_)
        exact loop2 6 0 v _ _ _ _ (by omega) (by omega) hw (lv_sub hl [0, 1, 3, 2, 4, 5, 6, 7, 8, 9, 10] rfl)
      refine lv_icmp_eq (tgt := 162) hf.1 hf.2.1 dX3_findOrAdd_145 (by decide) (fun c_17 => ?_) (fun c_17 => ?_)
      · refine lv_iconst (v := 1) hf.1 hf.2.1 dX3_findOrAdd_162 (by decide) ?_
        refine lv_goto (tgt := 167) hf.1 hf.2.1 dX3_findOrAdd_163 (by decide) ?_
        exact J167 _ _ _ _ hw (lv_sub hl [0, 1, 2, 3, 4, 5, 6, 7, 8, 9] rfl)
      · refine lv_iload_n hf.1 hf.2.1 dX3_findOrAdd_148 rfl (lv_at hl 4 rfl) ?_
        refine lv_iconst (v := 3) hf.1 hf.2.1 dX3_findOrAdd_149 (by decide) ?_
        refine lv_icmp_lt (tgt := 166) hf.1 hf.2.1 dX3_findOrAdd_150 (by decide) (fun c_18 => ?_) (fun c_18 => ?_)
        · refine lv_iconst (v := 0) hf.1 hf.2.1 dX3_findOrAdd_166 (by decide) ?_
          exact J167 _ _ _ _ hw (lv_sub hl [0, 1, 2, 3, 4, 5, 6, 7, 8, 9] rfl)
        · refine lv_aload_n hf.1 hf.2.1 dX3_findOrAdd_153 rfl (lv_at hl 3 rfl) ?_
          refine lv_iload hf.1 hf.2.1 dX3_findOrAdd_154 (lv_at hl 8 rfl) ?_
          refine mV_i (As := [.int gi]) (rest := []) (wr := [(q1, .inl (c1, 1549, .inl f_6)), (q2, .inl (c2, 1549, .inl f_7)), (q3, .inl (c3, 7745, .inl f_11)), (q4, .inl (c4, 1549, .inl f_8)), (q6, .inl (c6, 512, .inl f6)), (q7, .inl (c7, 1549, .inl f7))]) (tr := [(c1, .int), (c2, .int), (c3, .int), (c4, .int), (c6, .int), (c7, .int)]) hf hw (c_hasAny l dC dI h0 q1 q2 q3 q4 q5 q6 q7 c5 f5 (cnt + 1) gi H.size hlt) ka_X3_hasAny kv_X3_hasAny 0 rfl rfl k234 [0, 5] [4] [1, 2, 3, 4, 6, 7] [0, 1, 2, 3, 5, 6] rfl rfl rfl rfl rfl (by decide) rfl rfl rfl hl.1 rfl rfl ⟨Nat.le_of_ble_eq_true rfl, Nat.le_of_ble_eq_true rfl⟩ (Nat.le_of_ble_eq_true rfl) (ce := 0) (sl := 0) rfl rfl ⟨Nat.le_of_ble_eq_true rfl, Nat.le_of_ble_eq_true rfl⟩ dX3_findOrAdd_156 (fun r_19 u_20 hu_20 H locs hw => ?_)
          have hw : Wd dC dI A [(q1, .inl (c1, 1549, .inl f_6)), (q2, .inl (c2, 1549, .inl f_7)), (q3, .inl (c3, 7745, .inl f_11)), (q4, .inl (c4, 1549, .inl f_8)), (q6, .inl (c6, 512, .inl f6)), (q7, .inl (c7, 1549, .inl f7)), (h0, .inr (3, [.int (nI (cnt + 1)), .ref q1, .ref q2, .ref q3, .ref q4, .ref q5, .ref q6, .ref q7])), (q5, .inl (c5, 1549, .inl f5))] [(c1, .int), (c2, .int), (c3, .int), (c4, .int), (c6, .int), (c7, .int), (c5, .boolean)] s H locs := hw
          have hw := hw.pick (ws' := [(h0, .inr (3, [.int (nI (cnt + 1)), .ref q1, .ref q2, .ref q3, .ref q4, .ref q5, .ref q6, .ref q7])), (q1, .inl (c1, 1549, .inl f_6)), (q2, .inl (c2, 1549, .inl f_7)), (q3, .inl (c3, 7745, .inl f_11)), (q4, .inl (c4, 1549, .inl f_8)), (q5, .inl (c5, 1549, .inl f5)), (q6, .inl (c6, 512, .inl f6)), (q7, .inl (c7, 1549, .inl f7))]) (tys' := [(c1, .int), (c2, .int), (c3, .int), (c4, .int), (c5, .boolean), (c6, .int), (c7, .int)]) [6, 0, 1, 2, 3, 7, 4, 5] [0, 1, 2, 3, 6, 4, 5] rfl rfl rfl
          refine lv_if_eq (tgt := 166) hf.1 hf.2.1 dX3_findOrAdd_159 (by decide) (fun c_21 => ?_) (fun c_21 => ?_)
          · refine lv_iconst (v := 0) hf.1 hf.2.1 dX3_findOrAdd_166 (by decide) ?_
            exact J167 _ _ _ _ hw (lv_sub hl [0, 1, 2, 3, 4, 5, 6, 7, 8, 9] rfl)
          · refine lv_iconst (v := 1) hf.1 hf.2.1 dX3_findOrAdd_162 (by decide) ?_
            refine lv_goto (tgt := 167) hf.1 hf.2.1 dX3_findOrAdd_163 (by decide) ?_
            exact J167 _ _ _ _ hw (lv_sub hl [0, 1, 2, 3, 4, 5, 6, 7, 8, 9] rfl)
    · refine lv_iconst (v := 2) hf.1 hf.2.1 dX3_findOrAdd_87 (by decide) ?_
      exact mret_i (v := 2) hf hr hlk hw (cnt, f1, f2, f3, f4, f5, f6, f7) ⟨⟨2, by decide, rfl⟩, Nat.le_refl _, Nat.le_succ _, hc, hK⟩ [0, 1, 2, 3, 4, 5, 6, 7] [0, 1, 2, 3, 4, 5, 6] rfl rfl rfl (Nat.le_of_ble_eq_true rfl) (Nat.le_of_ble_eq_true rfl) dX3_findOrAdd_88
  have loop1 : ∀ (N : Nat) (i : Nat) (kd : Int32) (H : Heap) (locs : List Loc) (ls : Array Slot), 1549 - i < N → kiv cnt kd → i ≤ 1549 → Wd dC dI A [(h0, .inr (3, [.int (nI cnt), .ref q1, .ref q2, .ref q3, .ref q4, .ref q5, .ref q6, .ref q7])), (q1, .inl (c1, 1549, .inl f1)), (q2, .inl (c2, 1549, .inl f2)), (q3, .inl (c3, 7745, .inl f3)), (q4, .inl (c4, 1549, .inl f4)), (q5, .inl (c5, 1549, .inl f5)), (q6, .inl (c6, 512, .inl f6)), (q7, .inl (c7, 1549, .inl f7))] [(c1, .int), (c2, .int), (c3, .int), (c4, .int), (c5, .boolean), (c6, .int), (c7, .int)] s H locs → lv_has ls 11 [(9, .int (nI i)), (8, .int kd), (7, .int (nI b)), (0, .ref h0), (1, .int so), (2, .int n), (3, .ref pr), (4, .int fr), (5, .int gi), (6, .int co)] → W p l e ({ frames := 10, cells := 0, slots := 0, locals := 150 } : Room) s m [.ref h0, .int so, .int n, .ref pr, .int fr, .int gi, .int co].toArray below meth c H locs 0 0 (MQ below (va_Qi (S := Nat × (Nat → Int32) × (Nat → Int32) × (Nat → Int32) × (Nat → Int32) × (Nat → Int32) × (Nat → Int32) × (Nat → Int32)) (fun r x => (∃ k : Nat, k < 1549 ∧ r = nI k) ∧ cnt ≤ x.1 ∧ x.1 ≤ cnt + 1 ∧ x.1 ≤ 1549 ∧ KI x.1 x.2.2.2.2.2.2.1 x.2.2.2.2.2.2.2) (fun x t => PW dC dI A ([(h0, .inr (3, [.int (nI x.1), .ref q1, .ref q2, .ref q3, .ref q4, .ref q5, .ref q6, .ref q7])), (q1, .inl (c1, 1549, .inl x.2.1)), (q2, .inl (c2, 1549, .inl x.2.2.1)), (q3, .inl (c3, 7745, .inl x.2.2.2.1)), (q4, .inl (c4, 1549, .inl x.2.2.2.2.1)), (q5, .inl (c5, 1549, .inl x.2.2.2.2.2.1)), (q6, .inl (c6, 512, .inl x.2.2.2.2.2.2.1)), (q7, .inl (c7, 1549, .inl x.2.2.2.2.2.2.2))]) ([(c1, .int), (c2, .int), (c3, .int), (c4, .int), (c5, .boolean), (c6, .int), (c7, .int)]) t) A) [.ref h0, .int so, .int n, .ref pr, .int fr, .int gi, .int co].toArray s 0 0 A) (F0 m 19 ls []) := by
    intro N
    induction N with
    | zero => intro i kd H locs ls hm; exact absurd hm (Nat.not_lt_zero _)
    | succ N ih =>
      intro i kd H locs ls hm hv hi4 hw hl
      refine lv_iload hf.1 hf.2.1 dX3_findOrAdd_19 (lv_at hl 0 rfl) ?_
      refine lv_sipush (v := 1549) hf.1 hf.2.1 dX3_findOrAdd_21 (by decide) ?_
      refine lv_icmp_ge (tgt := 77) hf.1 hf.2.1 dX3_findOrAdd_24 (by decide) (fun c_22 => ?_) (fun c_22 => ?_)
      · exact J77 (nI i) kd _ _ _  hw (lv_sub hl [0, 1, 2, 3, 4, 5, 6, 7, 8, 9] rfl)
      · have hi : i < 1549 := (nI_ltI (by omega) (by decide)).mp (Int32.not_le.mp c_22)
        refine lv_iload hf.1 hf.2.1 dX3_findOrAdd_27 (lv_at hl 1 rfl) ?_
        refine lv_iconst (v := (-1)) hf.1 hf.2.1 dX3_findOrAdd_29 (by decide) ?_
        refine lv_icmp_eq (tgt := 77) hf.1 hf.2.1 dX3_findOrAdd_30 (by decide) (fun c_23 => ?_) (fun c_23 => ?_)
        · exact J77 (nI i) kd _ _ _  hw (lv_sub hl [0, 1, 2, 3, 4, 5, 6, 7, 8, 9] rfl)
        · obtain ⟨k, hk, rfl⟩ : ∃ k : Nat, k < cnt ∧ kd = nI k := hv.resolve_left c_23
          have J62 : ∀ (H : Heap) (locs : List Loc) (ls : Array Slot), Wd dC dI A [(h0, .inr (3, [.int (nI cnt), .ref q1, .ref q2, .ref q3, .ref q4, .ref q5, .ref q6, .ref q7])), (q1, .inl (c1, 1549, .inl f1)), (q2, .inl (c2, 1549, .inl f2)), (q3, .inl (c3, 7745, .inl f3)), (q4, .inl (c4, 1549, .inl f4)), (q5, .inl (c5, 1549, .inl f5)), (q6, .inl (c6, 512, .inl f6)), (q7, .inl (c7, 1549, .inl f7))] [(c1, .int), (c2, .int), (c3, .int), (c4, .int), (c5, .boolean), (c6, .int), (c7, .int)] s H locs → lv_has ls 11 [(9, .int (nI i)), (8, .int (nI k)), (7, .int (nI b)), (0, .ref h0), (1, .int so), (2, .int n), (3, .ref pr), (4, .int fr), (5, .int gi), (6, .int co)] → W p l e ({ frames := 10, cells := 0, slots := 0, locals := 150 } : Room) s m [.ref h0, .int so, .int n, .ref pr, .int fr, .int gi, .int co].toArray below meth c H locs 0 0 (MQ below (va_Qi (S := Nat × (Nat → Int32) × (Nat → Int32) × (Nat → Int32) × (Nat → Int32) × (Nat → Int32) × (Nat → Int32) × (Nat → Int32)) (fun r x => (∃ k : Nat, k < 1549 ∧ r = nI k) ∧ cnt ≤ x.1 ∧ x.1 ≤ cnt + 1 ∧ x.1 ≤ 1549 ∧ KI x.1 x.2.2.2.2.2.2.1 x.2.2.2.2.2.2.2) (fun x t => PW dC dI A ([(h0, .inr (3, [.int (nI x.1), .ref q1, .ref q2, .ref q3, .ref q4, .ref q5, .ref q6, .ref q7])), (q1, .inl (c1, 1549, .inl x.2.1)), (q2, .inl (c2, 1549, .inl x.2.2.1)), (q3, .inl (c3, 7745, .inl x.2.2.2.1)), (q4, .inl (c4, 1549, .inl x.2.2.2.2.1)), (q5, .inl (c5, 1549, .inl x.2.2.2.2.2.1)), (q6, .inl (c6, 512, .inl x.2.2.2.2.2.2.1)), (q7, .inl (c7, 1549, .inl x.2.2.2.2.2.2.2))]) ([(c1, .int), (c2, .int), (c3, .int), (c4, .int), (c5, .boolean), (c6, .int), (c7, .int)]) t) A) [.ref h0, .int so, .int n, .ref pr, .int fr, .int gi, .int co].toArray s 0 0 A) (F0 m 62 ls []) := by
            intro  H locs ls  hw hl
            refine lv_aload_n hf.1 hf.2.1 dX3_findOrAdd_62 rfl (lv_at hl 3 rfl) ?_
            refine mget hf hw iX3 0 rfl rfl 7 (by decide) k256 rfl dX3_findOrAdd_63 ?_
            refine lv_iload hf.1 hf.2.1 dX3_findOrAdd_66 (lv_at hl 1 rfl) ?_
            refine miald hf hw 7 6 rfl rfl (vp_in_nI (by omega) (by decide)) dX3_findOrAdd_68 ?_
            refine lv_topi (fun x_24 ex_24 => ?_)
            have hz : kiv cnt x_24 := by rw [ex_24, nI_tc (by omega)]; exact hK.2 k hk
            refine lv_istore (lv' := [(8, .int x_24), (9, .int (nI i)), (7, .int (nI b)), (0, .ref h0), (1, .int so), (2, .int n), (3, .ref pr), (4, .int fr), (5, .int gi), (6, .int co)]) hf.1 hf.2.1 dX3_findOrAdd_69 hl (by decide) rfl (fun ls hl => ?_)
            obtain ⟨x_25, ex_25⟩ : ∃ y : Int32, y = (nI i) + 1 := ⟨_, rfl⟩
            refine lv_iinc (v := x_25) (lv' := [(9, .int x_25), (8, .int x_24), (7, .int (nI b)), (0, .ref h0), (1, .int so), (2, .int n), (3, .ref pr), (4, .int fr), (5, .int gi), (6, .int co)]) hf.1 hf.2.1 dX3_findOrAdd_71 hl (k := 1) rfl (by rw [ex_25]; rfl) (by decide) rfl (fun ls hl => ?_)
            obtain rfl : x_25 = nI (i + 1) := by rw [ex_25, nI_1]
            refine lv_goto (tgt := 19) hf.1 hf.2.1 dX3_findOrAdd_74 (by decide) ?_
            exact ih (i + 1) x_24 _ _ _ (by omega) hz (by omega) hw (lv_sub hl [0, 1, 2, 3, 4, 5, 6, 7, 8, 9] rfl)
          refine lv_aload_n hf.1 hf.2.1 dX3_findOrAdd_33 rfl (lv_at hl 3 rfl) ?_
          refine mget hf hw iX3 0 rfl rfl 1 (by decide) k250 rfl dX3_findOrAdd_34 ?_
          refine lv_iload hf.1 hf.2.1 dX3_findOrAdd_37 (lv_at hl 1 rfl) ?_
          refine miald hf hw 1 0 rfl rfl (vp_in_nI (by omega) (by decide)) dX3_findOrAdd_39 ?_
          refine lv_topi (fun x_26 ex_26 => ?_)
          refine lv_iload_n hf.1 hf.2.1 dX3_findOrAdd_40 rfl (lv_at hl 4 rfl) ?_
          refine lv_icmp_ne (tgt := 62) hf.1 hf.2.1 dX3_findOrAdd_41 (by decide) (fun c_27 => ?_) (fun c_27 => ?_)
          · exact J62 _ _ _ hw (lv_sub hl [0, 1, 2, 3, 4, 5, 6, 7, 8, 9] rfl)
          · refine lv_aload_n hf.1 hf.2.1 dX3_findOrAdd_44 rfl (lv_at hl 3 rfl) ?_
            refine lv_iload hf.1 hf.2.1 dX3_findOrAdd_45 (lv_at hl 1 rfl) ?_
            refine lv_iload_n hf.1 hf.2.1 dX3_findOrAdd_47 rfl (lv_at hl 5 rfl) ?_
            refine lv_aload_n hf.1 hf.2.1 dX3_findOrAdd_48 rfl (lv_at hl 6 rfl) ?_
            refine lv_iload hf.1 hf.2.1 dX3_findOrAdd_49 (lv_at hl 7 rfl) ?_
            refine lv_iload hf.1 hf.2.1 dX3_findOrAdd_51 (lv_at hl 8 rfl) ?_
            refine mV_i (As := [.int (nI k), .int n, .ref pr, .int fr, .int gi]) (rest := []) (wr := [(q1, .inl (c1, 1549, .inl f1)), (q4, .inl (c4, 1549, .inl f4)), (q5, .inl (c5, 1549, .inl f5)), (q6, .inl (c6, 512, .inl f6)), (q7, .inl (c7, 1549, .inl f7))]) (tr := [(c1, .int), (c4, .int), (c5, .boolean), (c6, .int), (c7, .int)]) hf hw (c_isSame0 l dC dI h0 q1 q2 q3 q4 q5 q6 q7 c2 c3 f2 f3 cnt k n fr gi pr H.size (by omega) hn4) ka_X3_isSame kv_X3_isSame 0 rfl rfl k230 [0, 2, 3] [1, 2] [1, 4, 5, 6, 7] [0, 3, 4, 5, 6] rfl rfl rfl rfl rfl (by decide) rfl rfl rfl hl.1 rfl rfl ⟨Nat.le_of_ble_eq_true rfl, Nat.le_of_ble_eq_true rfl⟩ (Nat.le_of_ble_eq_true rfl) (ce := 0) (sl := 0) rfl rfl ⟨Nat.le_of_ble_eq_true rfl, Nat.le_of_ble_eq_true rfl⟩ dX3_findOrAdd_53 (fun r_28 u_29 hu_29 H locs hw => ?_)
            have hw : Wd dC dI A [(q1, .inl (c1, 1549, .inl f1)), (q4, .inl (c4, 1549, .inl f4)), (q5, .inl (c5, 1549, .inl f5)), (q6, .inl (c6, 512, .inl f6)), (q7, .inl (c7, 1549, .inl f7)), (h0, .inr (3, [.int (nI cnt), .ref q1, .ref q2, .ref q3, .ref q4, .ref q5, .ref q6, .ref q7])), (q2, .inl (c2, 1549, .inl f2)), (q3, .inl (c3, 7745, .inl f3))] [(c1, .int), (c4, .int), (c5, .boolean), (c6, .int), (c7, .int), (c2, .int), (c3, .int)] s H locs := hw
            have hw := hw.pick (ws' := [(h0, .inr (3, [.int (nI cnt), .ref q1, .ref q2, .ref q3, .ref q4, .ref q5, .ref q6, .ref q7])), (q1, .inl (c1, 1549, .inl f1)), (q2, .inl (c2, 1549, .inl f2)), (q3, .inl (c3, 7745, .inl f3)), (q4, .inl (c4, 1549, .inl f4)), (q5, .inl (c5, 1549, .inl f5)), (q6, .inl (c6, 512, .inl f6)), (q7, .inl (c7, 1549, .inl f7))]) (tys' := [(c1, .int), (c2, .int), (c3, .int), (c4, .int), (c5, .boolean), (c6, .int), (c7, .int)]) [5, 0, 6, 7, 1, 2, 3, 4] [0, 5, 6, 1, 2, 3, 4] rfl rfl rfl
            refine lv_if_eq (tgt := 62) hf.1 hf.2.1 dX3_findOrAdd_56 (by decide) (fun c_30 => ?_) (fun c_30 => ?_)
            · exact J62 _ _ _ hw (lv_sub hl [0, 1, 2, 3, 4, 5, 6, 7, 8, 9] rfl)
            · refine lv_iload hf.1 hf.2.1 dX3_findOrAdd_59 (lv_at hl 1 rfl) ?_
              exact mret_i (v := (nI k)) hf hr hlk hw (cnt, f1, f2, f3, f4, f5, f6, f7) ⟨⟨k, by omega, rfl⟩, Nat.le_refl _, Nat.le_succ _, hc, hK⟩ [0, 1, 2, 3, 4, 5, 6, 7] [0, 1, 2, 3, 4, 5, 6] rfl rfl rfl (Nat.le_of_ble_eq_true rfl) (Nat.le_of_ble_eq_true rfl) dX3_findOrAdd_61
  exact loop1 1550 0 _ _ _ _ (by omega) hkd (by omega) hw (lv_sub hl [0, 1, 2, 3, 4, 5, 6, 7, 8, 9] rfl)
end
