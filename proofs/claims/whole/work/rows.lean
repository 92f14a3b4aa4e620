section
-- ===== PART A: goes FIRST, ahead of the names: the tables' words, and 'selects' of the private methods out of them =====
/-- a private method of a class that the tables say can be made, by its rows of tables_1 -/
def lw_okq (q : MethodName × Nat) : Prop := (q.1.cls ≠ "java/lang/invoke/MethodHandle" ∧ q.1.cls ≠ "java/lang/invoke/VarHandle") ∧ Cond.instantiable q.1.cls q.2 ∈ tables_1 ∧ Cond.privateMethod q.1 ∈ tables_1 ∧ Cond.instanceMethod q.1 ∈ tables_1
theorem lw_p0 : lw_okq (⟨"SoleArrays$Store", "indexOf", "(IJJ)I"⟩, 7) := ⟨⟨by decide +kernel, by decide +kernel⟩, List.mem_of_getElem? (i := 53) (by decide +kernel), List.mem_of_getElem? (i := 186) (by decide +kernel), List.mem_of_getElem? (i := 187) (by decide +kernel)⟩
theorem lw_p1 : lw_okq (⟨"java/lang/Throwable", "fillInStackTrace", "(I)Ljava/lang/Throwable;"⟩, 6) := ⟨⟨by decide +kernel, by decide +kernel⟩, List.mem_of_getElem? (i := 231) (by decide +kernel), List.mem_of_getElem? (i := 229) (by decide +kernel), List.mem_of_getElem? (i := 230) (by decide +kernel)⟩
theorem lw_p2 : lw_okq (⟨"SoleArrays$Reader", "takeOneOf", "(CC)I"⟩, 4) := ⟨⟨by decide +kernel, by decide +kernel⟩, List.mem_of_getElem? (i := 274) (by decide +kernel), List.mem_of_getElem? (i := 299) (by decide +kernel), List.mem_of_getElem? (i := 300) (by decide +kernel)⟩
theorem lw_p3 : lw_okq (⟨"SoleArrays$Reader", "next", "()C"⟩, 4) := ⟨⟨by decide +kernel, by decide +kernel⟩, List.mem_of_getElem? (i := 274) (by decide +kernel), List.mem_of_getElem? (i := 303) (by decide +kernel), List.mem_of_getElem? (i := 304) (by decide +kernel)⟩
theorem lw_p4 : lw_okq (⟨"SoleArrays$Reader", "take", "(C)V"⟩, 4) := ⟨⟨by decide +kernel, by decide +kernel⟩, List.mem_of_getElem? (i := 274) (by decide +kernel), List.mem_of_getElem? (i := 367) (by decide +kernel), List.mem_of_getElem? (i := 368) (by decide +kernel)⟩
theorem lw_p5 : lw_okq (⟨"SoleArrays$Reader", "takeCommaBefore", "(I)V"⟩, 4) := ⟨⟨by decide +kernel, by decide +kernel⟩, List.mem_of_getElem? (i := 274) (by decide +kernel), List.mem_of_getElem? (i := 371) (by decide +kernel), List.mem_of_getElem? (i := 372) (by decide +kernel)⟩
theorem lw_p6 : lw_okq (⟨"SoleArrays$Reader", "readParameter", "(LSoleArrays$Function;)V"⟩, 4) := ⟨⟨by decide +kernel, by decide +kernel⟩, List.mem_of_getElem? (i := 274) (by decide +kernel), List.mem_of_getElem? (i := 375) (by decide +kernel), List.mem_of_getElem? (i := 376) (by decide +kernel)⟩
theorem lw_p7 : lw_okq (⟨"SoleArrays$Reader", "readExpression", "(I)LSoleArrays$Expression;"⟩, 4) := ⟨⟨by decide +kernel, by decide +kernel⟩, List.mem_of_getElem? (i := 274) (by decide +kernel), List.mem_of_getElem? (i := 383) (by decide +kernel), List.mem_of_getElem? (i := 384) (by decide +kernel)⟩
theorem lw_p8 : lw_okq (⟨"SoleArrays$Reader", "refuse", "()LSoleArrays$Expression;"⟩, 4) := ⟨⟨by decide +kernel, by decide +kernel⟩, List.mem_of_getElem? (i := 274) (by decide +kernel), List.mem_of_getElem? (i := 387) (by decide +kernel), List.mem_of_getElem? (i := 388) (by decide +kernel)⟩
theorem lw_p9 : lw_okq (⟨"SoleArrays$Reader", "nextIsOneOf", "(CC)Z"⟩, 4) := ⟨⟨by decide +kernel, by decide +kernel⟩, List.mem_of_getElem? (i := 274) (by decide +kernel), List.mem_of_getElem? (i := 391) (by decide +kernel), List.mem_of_getElem? (i := 392) (by decide +kernel)⟩
theorem lw_p10 : lw_okq (⟨"SoleArrays$Reader", "readDigits", "()LSoleArrays$Expression;"⟩, 4) := ⟨⟨by decide +kernel, by decide +kernel⟩, List.mem_of_getElem? (i := 274) (by decide +kernel), List.mem_of_getElem? (i := 395) (by decide +kernel), List.mem_of_getElem? (i := 396) (by decide +kernel)⟩
theorem lw_p11 : lw_okq (⟨"SoleArrays$Reader", "readFromVariable", "(I)LSoleArrays$Expression;"⟩, 4) := ⟨⟨by decide +kernel, by decide +kernel⟩, List.mem_of_getElem? (i := 274) (by decide +kernel), List.mem_of_getElem? (i := 461) (by decide +kernel), List.mem_of_getElem? (i := 462) (by decide +kernel)⟩
theorem lw_p12 : lw_okq (⟨"SoleArrays$Reader", "readReading", "(II)LSoleArrays$Expression;"⟩, 4) := ⟨⟨by decide +kernel, by decide +kernel⟩, List.mem_of_getElem? (i := 274) (by decide +kernel), List.mem_of_getElem? (i := 465) (by decide +kernel), List.mem_of_getElem? (i := 466) (by decide +kernel)⟩
theorem lw_p13 : lw_okq (⟨"SoleArrays$Reader", "readUpdate", "(II)LSoleArrays$Expression;"⟩, 4) := ⟨⟨by decide +kernel, by decide +kernel⟩, List.mem_of_getElem? (i := 274) (by decide +kernel), List.mem_of_getElem? (i := 475) (by decide +kernel), List.mem_of_getElem? (i := 476) (by decide +kernel)⟩
theorem lw_p14 : lw_okq (⟨"SoleArrays$Reader", "readCall", "(I)LSoleArrays$Expression;"⟩, 4) := ⟨⟨by decide +kernel, by decide +kernel⟩, List.mem_of_getElem? (i := 274) (by decide +kernel), List.mem_of_getElem? (i := 483) (by decide +kernel), List.mem_of_getElem? (i := 484) (by decide +kernel)⟩
theorem lw_p15 : lw_okq (⟨"SoleArrays$Reader", "readOperation", "(I)LSoleArrays$Expression;"⟩, 4) := ⟨⟨by decide +kernel, by decide +kernel⟩, List.mem_of_getElem? (i := 274) (by decide +kernel), List.mem_of_getElem? (i := 489) (by decide +kernel), List.mem_of_getElem? (i := 490) (by decide +kernel)⟩
def lw_privs_1 : List (MethodName × Nat) := [(⟨"SoleArrays$Store", "indexOf", "(IJJ)I"⟩, 7), (⟨"java/lang/Throwable", "fillInStackTrace", "(I)Ljava/lang/Throwable;"⟩, 6), (⟨"SoleArrays$Reader", "takeOneOf", "(CC)I"⟩, 4), (⟨"SoleArrays$Reader", "next", "()C"⟩, 4), (⟨"SoleArrays$Reader", "take", "(C)V"⟩, 4), (⟨"SoleArrays$Reader", "takeCommaBefore", "(I)V"⟩, 4), (⟨"SoleArrays$Reader", "readParameter", "(LSoleArrays$Function;)V"⟩, 4), (⟨"SoleArrays$Reader", "readExpression", "(I)LSoleArrays$Expression;"⟩, 4), (⟨"SoleArrays$Reader", "refuse", "()LSoleArrays$Expression;"⟩, 4), (⟨"SoleArrays$Reader", "nextIsOneOf", "(CC)Z"⟩, 4), (⟨"SoleArrays$Reader", "readDigits", "()LSoleArrays$Expression;"⟩, 4), (⟨"SoleArrays$Reader", "readFromVariable", "(I)LSoleArrays$Expression;"⟩, 4), (⟨"SoleArrays$Reader", "readReading", "(II)LSoleArrays$Expression;"⟩, 4), (⟨"SoleArrays$Reader", "readUpdate", "(II)LSoleArrays$Expression;"⟩, 4), (⟨"SoleArrays$Reader", "readCall", "(I)LSoleArrays$Expression;"⟩, 4), (⟨"SoleArrays$Reader", "readOperation", "(I)LSoleArrays$Expression;"⟩, 4)]
theorem lw_r1 : ∀ q ∈ lw_privs_1, lw_okq q := List.forall_mem_cons.mpr ⟨lw_p0, List.forall_mem_cons.mpr ⟨lw_p1, List.forall_mem_cons.mpr ⟨lw_p2, List.forall_mem_cons.mpr ⟨lw_p3, List.forall_mem_cons.mpr ⟨lw_p4, List.forall_mem_cons.mpr ⟨lw_p5, List.forall_mem_cons.mpr ⟨lw_p6, List.forall_mem_cons.mpr ⟨lw_p7, List.forall_mem_cons.mpr ⟨lw_p8, List.forall_mem_cons.mpr ⟨lw_p9, List.forall_mem_cons.mpr ⟨lw_p10, List.forall_mem_cons.mpr ⟨lw_p11, List.forall_mem_cons.mpr ⟨lw_p12, List.forall_mem_cons.mpr ⟨lw_p13, List.forall_mem_cons.mpr ⟨lw_p14, List.forall_mem_cons.mpr ⟨lw_p15, fun _ h => absurd h List.not_mem_nil⟩⟩⟩⟩⟩⟩⟩⟩⟩⟩⟩⟩⟩⟩⟩⟩
theorem lw_p16 : lw_okq (⟨"SoleArrays$Reader", "takeOperation", "()C"⟩, 4) := ⟨⟨by decide +kernel, by decide +kernel⟩, List.mem_of_getElem? (i := 274) (by decide +kernel), List.mem_of_getElem? (i := 495) (by decide +kernel), List.mem_of_getElem? (i := 496) (by decide +kernel)⟩
theorem lw_p17 : lw_okq (⟨"SoleArrays$Reader", "readChoice", "(I)LSoleArrays$Expression;"⟩, 4) := ⟨⟨by decide +kernel, by decide +kernel⟩, List.mem_of_getElem? (i := 274) (by decide +kernel), List.mem_of_getElem? (i := 499) (by decide +kernel), List.mem_of_getElem? (i := 500) (by decide +kernel)⟩
theorem lw_p18 : lw_okq (⟨"SoleArrays$Reader", "readBinding", "(I)LSoleArrays$Expression;"⟩, 4) := ⟨⟨by decide +kernel, by decide +kernel⟩, List.mem_of_getElem? (i := 274) (by decide +kernel), List.mem_of_getElem? (i := 505) (by decide +kernel), List.mem_of_getElem? (i := 506) (by decide +kernel)⟩
theorem lw_p19 : lw_okq (⟨"SoleArrays$Reader", "readSignAndVariable", "(LSoleArrays$Form;)LSoleArrays$Expression;"⟩, 4) := ⟨⟨by decide +kernel, by decide +kernel⟩, List.mem_of_getElem? (i := 274) (by decide +kernel), List.mem_of_getElem? (i := 511) (by decide +kernel), List.mem_of_getElem? (i := 512) (by decide +kernel)⟩
theorem lw_p20 : lw_okq (⟨"SoleArrays$Reader", "readNewRow", "(I)LSoleArrays$Expression;"⟩, 4) := ⟨⟨by decide +kernel, by decide +kernel⟩, List.mem_of_getElem? (i := 274) (by decide +kernel), List.mem_of_getElem? (i := 515) (by decide +kernel), List.mem_of_getElem? (i := 516) (by decide +kernel)⟩
theorem lw_p21 : lw_okq (⟨"SoleArrays$Reader", "readNewTable", "(I)LSoleArrays$Expression;"⟩, 4) := ⟨⟨by decide +kernel, by decide +kernel⟩, List.mem_of_getElem? (i := 274) (by decide +kernel), List.mem_of_getElem? (i := 521) (by decide +kernel), List.mem_of_getElem? (i := 522) (by decide +kernel)⟩
theorem lw_p22 : lw_okq (⟨"SoleArrays$Reader", "readGivingUp", "(I)LSoleArrays$Expression;"⟩, 4) := ⟨⟨by decide +kernel, by decide +kernel⟩, List.mem_of_getElem? (i := 274) (by decide +kernel), List.mem_of_getElem? (i := 533) (by decide +kernel), List.mem_of_getElem? (i := 534) (by decide +kernel)⟩
theorem lw_p23 : lw_okq (⟨"SoleArrays$Checker", "refuseIfBound", "(II)V"⟩, 5) := ⟨⟨by decide +kernel, by decide +kernel⟩, List.mem_of_getElem? (i := 539) (by decide +kernel), List.mem_of_getElem? (i := 588) (by decide +kernel), List.mem_of_getElem? (i := 589) (by decide +kernel)⟩
theorem lw_p24 : lw_okq (⟨"SoleArrays$Checker", "bind", "(II)V"⟩, 5) := ⟨⟨by decide +kernel, by decide +kernel⟩, List.mem_of_getElem? (i := 539) (by decide +kernel), List.mem_of_getElem? (i := 592) (by decide +kernel), List.mem_of_getElem? (i := 593) (by decide +kernel)⟩
theorem lw_p25 : lw_okq (⟨"SoleArrays$Checker", "look", "(LSoleArrays$Expression;)I"⟩, 5) := ⟨⟨by decide +kernel, by decide +kernel⟩, List.mem_of_getElem? (i := 539) (by decide +kernel), List.mem_of_getElem? (i := 597) (by decide +kernel), List.mem_of_getElem? (i := 598) (by decide +kernel)⟩
theorem lw_p26 : lw_okq (⟨"SoleArrays$Checker", "useUp", "(LSoleArrays$Expression;II)I"⟩, 5) := ⟨⟨by decide +kernel, by decide +kernel⟩, List.mem_of_getElem? (i := 539) (by decide +kernel), List.mem_of_getElem? (i := 609) (by decide +kernel), List.mem_of_getElem? (i := 610) (by decide +kernel)⟩
theorem lw_p27 : lw_okq (⟨"SoleArrays$Checker", "lookAtVariable", "(LSoleArrays$Expression;II)I"⟩, 5) := ⟨⟨by decide +kernel, by decide +kernel⟩, List.mem_of_getElem? (i := 539) (by decide +kernel), List.mem_of_getElem? (i := 613) (by decide +kernel), List.mem_of_getElem? (i := 614) (by decide +kernel)⟩
theorem lw_p28 : lw_okq (⟨"SoleArrays$Checker", "isOwned", "(I)Z"⟩, 5) := ⟨⟨by decide +kernel, by decide +kernel⟩, List.mem_of_getElem? (i := 539) (by decide +kernel), List.mem_of_getElem? (i := 617) (by decide +kernel), List.mem_of_getElem? (i := 618) (by decide +kernel)⟩
theorem lw_p29 : lw_okq (⟨"SoleArrays$Checker", "lookAtChoice", "(LSoleArrays$Expression;)I"⟩, 5) := ⟨⟨by decide +kernel, by decide +kernel⟩, List.mem_of_getElem? (i := 539) (by decide +kernel), List.mem_of_getElem? (i := 621) (by decide +kernel), List.mem_of_getElem? (i := 622) (by decide +kernel)⟩
theorem lw_p30 : lw_okq (⟨"SoleArrays$Checker", "lookAtPart", "(LSoleArrays$Expression;I)V"⟩, 5) := ⟨⟨by decide +kernel, by decide +kernel⟩, List.mem_of_getElem? (i := 539) (by decide +kernel), List.mem_of_getElem? (i := 625) (by decide +kernel), List.mem_of_getElem? (i := 626) (by decide +kernel)⟩
theorem lw_p31 : lw_okq (⟨"SoleArrays$Checker", "lookAtBinding", "(LSoleArrays$Expression;)I"⟩, 5) := ⟨⟨by decide +kernel, by decide +kernel⟩, List.mem_of_getElem? (i := 539) (by decide +kernel), List.mem_of_getElem? (i := 629) (by decide +kernel), List.mem_of_getElem? (i := 630) (by decide +kernel)⟩
def lw_privs_2 : List (MethodName × Nat) := [(⟨"SoleArrays$Reader", "takeOperation", "()C"⟩, 4), (⟨"SoleArrays$Reader", "readChoice", "(I)LSoleArrays$Expression;"⟩, 4), (⟨"SoleArrays$Reader", "readBinding", "(I)LSoleArrays$Expression;"⟩, 4), (⟨"SoleArrays$Reader", "readSignAndVariable", "(LSoleArrays$Form;)LSoleArrays$Expression;"⟩, 4), (⟨"SoleArrays$Reader", "readNewRow", "(I)LSoleArrays$Expression;"⟩, 4), (⟨"SoleArrays$Reader", "readNewTable", "(I)LSoleArrays$Expression;"⟩, 4), (⟨"SoleArrays$Reader", "readGivingUp", "(I)LSoleArrays$Expression;"⟩, 4), (⟨"SoleArrays$Checker", "refuseIfBound", "(II)V"⟩, 5), (⟨"SoleArrays$Checker", "bind", "(II)V"⟩, 5), (⟨"SoleArrays$Checker", "look", "(LSoleArrays$Expression;)I"⟩, 5), (⟨"SoleArrays$Checker", "useUp", "(LSoleArrays$Expression;II)I"⟩, 5), (⟨"SoleArrays$Checker", "lookAtVariable", "(LSoleArrays$Expression;II)I"⟩, 5), (⟨"SoleArrays$Checker", "isOwned", "(I)Z"⟩, 5), (⟨"SoleArrays$Checker", "lookAtChoice", "(LSoleArrays$Expression;)I"⟩, 5), (⟨"SoleArrays$Checker", "lookAtPart", "(LSoleArrays$Expression;I)V"⟩, 5), (⟨"SoleArrays$Checker", "lookAtBinding", "(LSoleArrays$Expression;)I"⟩, 5)]
theorem lw_r2 : ∀ q ∈ lw_privs_2, lw_okq q := List.forall_mem_cons.mpr ⟨lw_p16, List.forall_mem_cons.mpr ⟨lw_p17, List.forall_mem_cons.mpr ⟨lw_p18, List.forall_mem_cons.mpr ⟨lw_p19, List.forall_mem_cons.mpr ⟨lw_p20, List.forall_mem_cons.mpr ⟨lw_p21, List.forall_mem_cons.mpr ⟨lw_p22, List.forall_mem_cons.mpr ⟨lw_p23, List.forall_mem_cons.mpr ⟨lw_p24, List.forall_mem_cons.mpr ⟨lw_p25, List.forall_mem_cons.mpr ⟨lw_p26, List.forall_mem_cons.mpr ⟨lw_p27, List.forall_mem_cons.mpr ⟨lw_p28, List.forall_mem_cons.mpr ⟨lw_p29, List.forall_mem_cons.mpr ⟨lw_p30, List.forall_mem_cons.mpr ⟨lw_p31, fun _ h => absurd h List.not_mem_nil⟩⟩⟩⟩⟩⟩⟩⟩⟩⟩⟩⟩⟩⟩⟩⟩
theorem lw_p32 : lw_okq (⟨"SoleArrays$Checker", "refuseIfOwned", "(II)V"⟩, 5) := ⟨⟨by decide +kernel, by decide +kernel⟩, List.mem_of_getElem? (i := 539) (by decide +kernel), List.mem_of_getElem? (i := 633) (by decide +kernel), List.mem_of_getElem? (i := 634) (by decide +kernel)⟩
theorem lw_p33 : lw_okq (⟨"SoleArrays$Checker", "lookAtNumbers", "(LSoleArrays$Expression;)V"⟩, 5) := ⟨⟨by decide +kernel, by decide +kernel⟩, List.mem_of_getElem? (i := 539) (by decide +kernel), List.mem_of_getElem? (i := 637) (by decide +kernel), List.mem_of_getElem? (i := 638) (by decide +kernel)⟩
theorem lw_p34 : lw_okq (⟨"SoleArrays$Checker", "lookAtCall", "(LSoleArrays$Expression;)I"⟩, 5) := ⟨⟨by decide +kernel, by decide +kernel⟩, List.mem_of_getElem? (i := 539) (by decide +kernel), List.mem_of_getElem? (i := 641) (by decide +kernel), List.mem_of_getElem? (i := 642) (by decide +kernel)⟩
theorem lw_p35 : lw_okq (⟨"SoleArrays", "functionNamed", "(C)LSoleArrays$Function;"⟩, 10) := ⟨⟨by decide +kernel, by decide +kernel⟩, List.mem_of_getElem? (i := 25) (by decide +kernel), List.mem_of_getElem? (i := 655) (by decide +kernel), List.mem_of_getElem? (i := 656) (by decide +kernel)⟩
theorem lw_p36 : lw_okq (⟨"SoleArrays$Runner", "work", "(LSoleArrays$Expression;II)J"⟩, 5) := ⟨⟨by decide +kernel, by decide +kernel⟩, List.mem_of_getElem? (i := 47) (by decide +kernel), List.mem_of_getElem? (i := 674) (by decide +kernel), List.mem_of_getElem? (i := 675) (by decide +kernel)⟩
theorem lw_p37 : lw_okq (⟨"SoleArrays$Store", "firstFree", "()I"⟩, 7) := ⟨⟨by decide +kernel, by decide +kernel⟩, List.mem_of_getElem? (i := 53) (by decide +kernel), List.mem_of_getElem? (i := 729) (by decide +kernel), List.mem_of_getElem? (i := 730) (by decide +kernel)⟩
theorem lw_p38 : lw_okq (⟨"SoleArrays$Runner", "readNumber", "(LSoleArrays$Expression;II)J"⟩, 5) := ⟨⟨by decide +kernel, by decide +kernel⟩, List.mem_of_getElem? (i := 47) (by decide +kernel), List.mem_of_getElem? (i := 740) (by decide +kernel), List.mem_of_getElem? (i := 741) (by decide +kernel)⟩
theorem lw_p39 : lw_okq (⟨"SoleArrays$Runner", "arrayOf", "(LSoleArrays$Expression;I)I"⟩, 5) := ⟨⟨by decide +kernel, by decide +kernel⟩, List.mem_of_getElem? (i := 47) (by decide +kernel), List.mem_of_getElem? (i := 744) (by decide +kernel), List.mem_of_getElem? (i := 745) (by decide +kernel)⟩
theorem lw_p40 : lw_okq (⟨"SoleArrays$Runner", "update", "(LSoleArrays$Expression;II)J"⟩, 5) := ⟨⟨by decide +kernel, by decide +kernel⟩, List.mem_of_getElem? (i := 47) (by decide +kernel), List.mem_of_getElem? (i := 749) (by decide +kernel), List.mem_of_getElem? (i := 750) (by decide +kernel)⟩
theorem lw_p41 : lw_okq (⟨"SoleArrays$Runner", "call", "(LSoleArrays$Expression;II)J"⟩, 5) := ⟨⟨by decide +kernel, by decide +kernel⟩, List.mem_of_getElem? (i := 47) (by decide +kernel), List.mem_of_getElem? (i := 769) (by decide +kernel), List.mem_of_getElem? (i := 770) (by decide +kernel)⟩
theorem lw_p42 : lw_okq (⟨"SoleArraysModel", "readFunction", "()I"⟩, 51) := ⟨⟨by decide +kernel, by decide +kernel⟩, List.mem_of_getElem? (i := 774) (by decide +kernel), List.mem_of_getElem? (i := 946) (by decide +kernel), List.mem_of_getElem? (i := 947) (by decide +kernel)⟩
theorem lw_p43 : lw_okq (⟨"SoleArraysModel", "letter", "(CC)I"⟩, 51) := ⟨⟨by decide +kernel, by decide +kernel⟩, List.mem_of_getElem? (i := 774) (by decide +kernel), List.mem_of_getElem? (i := 950) (by decide +kernel), List.mem_of_getElem? (i := 951) (by decide +kernel)⟩
theorem lw_p44 : lw_okq (⟨"SoleArraysModel", "among", "(CC)Z"⟩, 51) := ⟨⟨by decide +kernel, by decide +kernel⟩, List.mem_of_getElem? (i := 774) (by decide +kernel), List.mem_of_getElem? (i := 954) (by decide +kernel), List.mem_of_getElem? (i := 955) (by decide +kernel)⟩
theorem lw_p45 : lw_okq (⟨"SoleArraysModel", "look", "()C"⟩, 51) := ⟨⟨by decide +kernel, by decide +kernel⟩, List.mem_of_getElem? (i := 774) (by decide +kernel), List.mem_of_getElem? (i := 958) (by decide +kernel), List.mem_of_getElem? (i := 959) (by decide +kernel)⟩
theorem lw_p46 : lw_okq (⟨"SoleArraysModel", "want", "(Z)V"⟩, 51) := ⟨⟨by decide +kernel, by decide +kernel⟩, List.mem_of_getElem? (i := 774) (by decide +kernel), List.mem_of_getElem? (i := 962) (by decide +kernel), List.mem_of_getElem? (i := 963) (by decide +kernel)⟩
theorem lw_p47 : lw_okq (⟨"SoleArraysModel", "takes", "(C)Z"⟩, 51) := ⟨⟨by decide +kernel, by decide +kernel⟩, List.mem_of_getElem? (i := 774) (by decide +kernel), List.mem_of_getElem? (i := 966) (by decide +kernel), List.mem_of_getElem? (i := 967) (by decide +kernel)⟩
def lw_privs_3 : List (MethodName × Nat) := [(⟨"SoleArrays$Checker", "refuseIfOwned", "(II)V"⟩, 5), (⟨"SoleArrays$Checker", "lookAtNumbers", "(LSoleArrays$Expression;)V"⟩, 5), (⟨"SoleArrays$Checker", "lookAtCall", "(LSoleArrays$Expression;)I"⟩, 5), (⟨"SoleArrays", "functionNamed", "(C)LSoleArrays$Function;"⟩, 10), (⟨"SoleArrays$Runner", "work", "(LSoleArrays$Expression;II)J"⟩, 5), (⟨"SoleArrays$Store", "firstFree", "()I"⟩, 7), (⟨"SoleArrays$Runner", "readNumber", "(LSoleArrays$Expression;II)J"⟩, 5), (⟨"SoleArrays$Runner", "arrayOf", "(LSoleArrays$Expression;I)I"⟩, 5), (⟨"SoleArrays$Runner", "update", "(LSoleArrays$Expression;II)J"⟩, 5), (⟨"SoleArrays$Runner", "call", "(LSoleArrays$Expression;II)J"⟩, 5), (⟨"SoleArraysModel", "readFunction", "()I"⟩, 51), (⟨"SoleArraysModel", "letter", "(CC)I"⟩, 51), (⟨"SoleArraysModel", "among", "(CC)Z"⟩, 51), (⟨"SoleArraysModel", "look", "()C"⟩, 51), (⟨"SoleArraysModel", "want", "(Z)V"⟩, 51), (⟨"SoleArraysModel", "takes", "(C)Z"⟩, 51)]
theorem lw_r3 : ∀ q ∈ lw_privs_3, lw_okq q := List.forall_mem_cons.mpr ⟨lw_p32, List.forall_mem_cons.mpr ⟨lw_p33, List.forall_mem_cons.mpr ⟨lw_p34, List.forall_mem_cons.mpr ⟨lw_p35, List.forall_mem_cons.mpr ⟨lw_p36, List.forall_mem_cons.mpr ⟨lw_p37, List.forall_mem_cons.mpr ⟨lw_p38, List.forall_mem_cons.mpr ⟨lw_p39, List.forall_mem_cons.mpr ⟨lw_p40, List.forall_mem_cons.mpr ⟨lw_p41, List.forall_mem_cons.mpr ⟨lw_p42, List.forall_mem_cons.mpr ⟨lw_p43, List.forall_mem_cons.mpr ⟨lw_p44, List.forall_mem_cons.mpr ⟨lw_p45, List.forall_mem_cons.mpr ⟨lw_p46, List.forall_mem_cons.mpr ⟨lw_p47, fun _ h => absurd h List.not_mem_nil⟩⟩⟩⟩⟩⟩⟩⟩⟩⟩⟩⟩⟩⟩⟩⟩
theorem lw_p48 : lw_okq (⟨"SoleArraysModel", "readExpression", "()V"⟩, 51) := ⟨⟨by decide +kernel, by decide +kernel⟩, List.mem_of_getElem? (i := 774) (by decide +kernel), List.mem_of_getElem? (i := 970) (by decide +kernel), List.mem_of_getElem? (i := 971) (by decide +kernel)⟩
theorem lw_p49 : lw_okq (⟨"SoleArraysModel", "beginExpression", "()Z"⟩, 51) := ⟨⟨by decide +kernel, by decide +kernel⟩, List.mem_of_getElem? (i := 774) (by decide +kernel), List.mem_of_getElem? (i := 974) (by decide +kernel), List.mem_of_getElem? (i := 975) (by decide +kernel)⟩
theorem lw_p50 : lw_okq (⟨"SoleArraysModel", "node", "(III)I"⟩, 51) := ⟨⟨by decide +kernel, by decide +kernel⟩, List.mem_of_getElem? (i := 774) (by decide +kernel), List.mem_of_getElem? (i := 978) (by decide +kernel), List.mem_of_getElem? (i := 979) (by decide +kernel)⟩
theorem lw_p51 : lw_okq (⟨"SoleArraysModel", "push", "(I)V"⟩, 51) := ⟨⟨by decide +kernel, by decide +kernel⟩, List.mem_of_getElem? (i := 774) (by decide +kernel), List.mem_of_getElem? (i := 982) (by decide +kernel), List.mem_of_getElem? (i := 983) (by decide +kernel)⟩
theorem lw_p52 : lw_okq (⟨"SoleArraysModel", "beginOther", "(CI)Z"⟩, 51) := ⟨⟨by decide +kernel, by decide +kernel⟩, List.mem_of_getElem? (i := 774) (by decide +kernel), List.mem_of_getElem? (i := 986) (by decide +kernel), List.mem_of_getElem? (i := 987) (by decide +kernel)⟩
theorem lw_p53 : lw_okq (⟨"SoleArraysModel", "behindPart", "()Z"⟩, 51) := ⟨⟨by decide +kernel, by decide +kernel⟩, List.mem_of_getElem? (i := 774) (by decide +kernel), List.mem_of_getElem? (i := 990) (by decide +kernel), List.mem_of_getElem? (i := 991) (by decide +kernel)⟩
theorem lw_p54 : lw_okq (⟨"SoleArraysModel", "check", "(I)V"⟩, 51) := ⟨⟨by decide +kernel, by decide +kernel⟩, List.mem_of_getElem? (i := 774) (by decide +kernel), List.mem_of_getElem? (i := 994) (by decide +kernel), List.mem_of_getElem? (i := 995) (by decide +kernel)⟩
theorem lw_p55 : lw_okq (⟨"SoleArraysModel", "mistake", "(I)V"⟩, 51) := ⟨⟨by decide +kernel, by decide +kernel⟩, List.mem_of_getElem? (i := 774) (by decide +kernel), List.mem_of_getElem? (i := 998) (by decide +kernel), List.mem_of_getElem? (i := 999) (by decide +kernel)⟩
theorem lw_p56 : lw_okq (⟨"SoleArraysModel", "bind", "(II)V"⟩, 51) := ⟨⟨by decide +kernel, by decide +kernel⟩, List.mem_of_getElem? (i := 774) (by decide +kernel), List.mem_of_getElem? (i := 1002) (by decide +kernel), List.mem_of_getElem? (i := 1003) (by decide +kernel)⟩
theorem lw_p57 : lw_okq (⟨"SoleArraysModel", "lookAll", "()I"⟩, 51) := ⟨⟨by decide +kernel, by decide +kernel⟩, List.mem_of_getElem? (i := 774) (by decide +kernel), List.mem_of_getElem? (i := 1006) (by decide +kernel), List.mem_of_getElem? (i := 1007) (by decide +kernel)⟩
theorem lw_p58 : lw_okq (⟨"SoleArraysModel", "lookBefore", "(I)V"⟩, 51) := ⟨⟨by decide +kernel, by decide +kernel⟩, List.mem_of_getElem? (i := 774) (by decide +kernel), List.mem_of_getElem? (i := 1010) (by decide +kernel), List.mem_of_getElem? (i := 1011) (by decide +kernel)⟩
theorem lw_p59 : lw_okq (⟨"SoleArraysModel", "use", "(III)I"⟩, 51) := ⟨⟨by decide +kernel, by decide +kernel⟩, List.mem_of_getElem? (i := 774) (by decide +kernel), List.mem_of_getElem? (i := 1014) (by decide +kernel), List.mem_of_getElem? (i := 1015) (by decide +kernel)⟩
theorem lw_p60 : lw_okq (⟨"SoleArraysModel", "isOwned", "(I)Z"⟩, 51) := ⟨⟨by decide +kernel, by decide +kernel⟩, List.mem_of_getElem? (i := 774) (by decide +kernel), List.mem_of_getElem? (i := 1018) (by decide +kernel), List.mem_of_getElem? (i := 1019) (by decide +kernel)⟩
theorem lw_p61 : lw_okq (⟨"SoleArraysModel", "useUp", "(I)V"⟩, 51) := ⟨⟨by decide +kernel, by decide +kernel⟩, List.mem_of_getElem? (i := 774) (by decide +kernel), List.mem_of_getElem? (i := 1022) (by decide +kernel), List.mem_of_getElem? (i := 1023) (by decide +kernel)⟩
theorem lw_p62 : lw_okq (⟨"SoleArraysModel", "called", "(I)I"⟩, 51) := ⟨⟨by decide +kernel, by decide +kernel⟩, List.mem_of_getElem? (i := 774) (by decide +kernel), List.mem_of_getElem? (i := 1026) (by decide +kernel), List.mem_of_getElem? (i := 1027) (by decide +kernel)⟩
theorem lw_p63 : lw_okq (⟨"SoleArraysModel", "typeOf", "(II)I"⟩, 51) := ⟨⟨by decide +kernel, by decide +kernel⟩, List.mem_of_getElem? (i := 774) (by decide +kernel), List.mem_of_getElem? (i := 1030) (by decide +kernel), List.mem_of_getElem? (i := 1031) (by decide +kernel)⟩
def lw_privs_4 : List (MethodName × Nat) := [(⟨"SoleArraysModel", "readExpression", "()V"⟩, 51), (⟨"SoleArraysModel", "beginExpression", "()Z"⟩, 51), (⟨"SoleArraysModel", "node", "(III)I"⟩, 51), (⟨"SoleArraysModel", "push", "(I)V"⟩, 51), (⟨"SoleArraysModel", "beginOther", "(CI)Z"⟩, 51), (⟨"SoleArraysModel", "behindPart", "()Z"⟩, 51), (⟨"SoleArraysModel", "check", "(I)V"⟩, 51), (⟨"SoleArraysModel", "mistake", "(I)V"⟩, 51), (⟨"SoleArraysModel", "bind", "(II)V"⟩, 51), (⟨"SoleArraysModel", "lookAll", "()I"⟩, 51), (⟨"SoleArraysModel", "lookBefore", "(I)V"⟩, 51), (⟨"SoleArraysModel", "use", "(III)I"⟩, 51), (⟨"SoleArraysModel", "isOwned", "(I)Z"⟩, 51), (⟨"SoleArraysModel", "useUp", "(I)V"⟩, 51), (⟨"SoleArraysModel", "called", "(I)I"⟩, 51), (⟨"SoleArraysModel", "typeOf", "(II)I"⟩, 51)]
theorem lw_r4 : ∀ q ∈ lw_privs_4, lw_okq q := List.forall_mem_cons.mpr ⟨lw_p48, List.forall_mem_cons.mpr ⟨lw_p49, List.forall_mem_cons.mpr ⟨lw_p50, List.forall_mem_cons.mpr ⟨lw_p51, List.forall_mem_cons.mpr ⟨lw_p52, List.forall_mem_cons.mpr ⟨lw_p53, List.forall_mem_cons.mpr ⟨lw_p54, List.forall_mem_cons.mpr ⟨lw_p55, List.forall_mem_cons.mpr ⟨lw_p56, List.forall_mem_cons.mpr ⟨lw_p57, List.forall_mem_cons.mpr ⟨lw_p58, List.forall_mem_cons.mpr ⟨lw_p59, List.forall_mem_cons.mpr ⟨lw_p60, List.forall_mem_cons.mpr ⟨lw_p61, List.forall_mem_cons.mpr ⟨lw_p62, List.forall_mem_cons.mpr ⟨lw_p63, fun _ h => absurd h List.not_mem_nil⟩⟩⟩⟩⟩⟩⟩⟩⟩⟩⟩⟩⟩⟩⟩⟩
theorem lw_p64 : lw_okq (⟨"SoleArraysModel", "lookBehind", "(IIII)V"⟩, 51) := ⟨⟨by decide +kernel, by decide +kernel⟩, List.mem_of_getElem? (i := 774) (by decide +kernel), List.mem_of_getElem? (i := 1034) (by decide +kernel), List.mem_of_getElem? (i := 1035) (by decide +kernel)⟩
theorem lw_p65 : lw_okq (⟨"SoleArraysModel", "count", "()I"⟩, 51) := ⟨⟨by decide +kernel, by decide +kernel⟩, List.mem_of_getElem? (i := 774) (by decide +kernel), List.mem_of_getElem? (i := 1038) (by decide +kernel), List.mem_of_getElem? (i := 1039) (by decide +kernel)⟩
theorem lw_p66 : lw_okq (⟨"SoleArraysModel", "isRun", "(I)Z"⟩, 51) := ⟨⟨by decide +kernel, by decide +kernel⟩, List.mem_of_getElem? (i := 774) (by decide +kernel), List.mem_of_getElem? (i := 1058) (by decide +kernel), List.mem_of_getElem? (i := 1059) (by decide +kernel)⟩
theorem lw_p67 : lw_okq (⟨"SoleArraysModel", "start", "(I)V"⟩, 51) := ⟨⟨by decide +kernel, by decide +kernel⟩, List.mem_of_getElem? (i := 774) (by decide +kernel), List.mem_of_getElem? (i := 1062) (by decide +kernel), List.mem_of_getElem? (i := 1063) (by decide +kernel)⟩
theorem lw_p68 : lw_okq (⟨"SoleArraysModel", "goOn", "()V"⟩, 51) := ⟨⟨by decide +kernel, by decide +kernel⟩, List.mem_of_getElem? (i := 774) (by decide +kernel), List.mem_of_getElem? (i := 1066) (by decide +kernel), List.mem_of_getElem? (i := 1067) (by decide +kernel)⟩
theorem lw_p69 : lw_okq (⟨"SoleArraysModel", "give", "(JI)V"⟩, 51) := ⟨⟨by decide +kernel, by decide +kernel⟩, List.mem_of_getElem? (i := 774) (by decide +kernel), List.mem_of_getElem? (i := 1070) (by decide +kernel), List.mem_of_getElem? (i := 1071) (by decide +kernel)⟩
theorem lw_p70 : lw_okq (⟨"SoleArraysModel", "makeOne", "(JJI)V"⟩, 51) := ⟨⟨by decide +kernel, by decide +kernel⟩, List.mem_of_getElem? (i := 774) (by decide +kernel), List.mem_of_getElem? (i := 1074) (by decide +kernel), List.mem_of_getElem? (i := 1075) (by decide +kernel)⟩
theorem lw_p71 : lw_okq (⟨"SoleArraysModel", "make", "(JJI)I"⟩, 51) := ⟨⟨by decide +kernel, by decide +kernel⟩, List.mem_of_getElem? (i := 774) (by decide +kernel), List.mem_of_getElem? (i := 1079) (by decide +kernel), List.mem_of_getElem? (i := 1080) (by decide +kernel)⟩
theorem lw_p72 : lw_okq (⟨"SoleArraysModel", "pass", "()V"⟩, 51) := ⟨⟨by decide +kernel, by decide +kernel⟩, List.mem_of_getElem? (i := 774) (by decide +kernel), List.mem_of_getElem? (i := 1083) (by decide +kernel), List.mem_of_getElem? (i := 1084) (by decide +kernel)⟩
theorem lw_p73 : lw_okq (⟨"SoleArraysModel", "hold", "(II)V"⟩, 51) := ⟨⟨by decide +kernel, by decide +kernel⟩, List.mem_of_getElem? (i := 774) (by decide +kernel), List.mem_of_getElem? (i := 1087) (by decide +kernel), List.mem_of_getElem? (i := 1088) (by decide +kernel)⟩
theorem lw_p74 : lw_okq (⟨"SoleArraysModel", "enter", "(I)V"⟩, 51) := ⟨⟨by decide +kernel, by decide +kernel⟩, List.mem_of_getElem? (i := 774) (by decide +kernel), List.mem_of_getElem? (i := 1091) (by decide +kernel), List.mem_of_getElem? (i := 1092) (by decide +kernel)⟩
theorem lw_p75 : lw_okq (⟨"SoleArraysModel", "finish", "(I)V"⟩, 51) := ⟨⟨by decide +kernel, by decide +kernel⟩, List.mem_of_getElem? (i := 774) (by decide +kernel), List.mem_of_getElem? (i := 1095) (by decide +kernel), List.mem_of_getElem? (i := 1096) (by decide +kernel)⟩
theorem lw_p76 : lw_okq (⟨"SoleArraysModel", "join", "(I)V"⟩, 51) := ⟨⟨by decide +kernel, by decide +kernel⟩, List.mem_of_getElem? (i := 774) (by decide +kernel), List.mem_of_getElem? (i := 1099) (by decide +kernel), List.mem_of_getElem? (i := 1100) (by decide +kernel)⟩
theorem lw_p77 : lw_okq (⟨"SoleArraysModel", "cellOf", "(I)V"⟩, 51) := ⟨⟨by decide +kernel, by decide +kernel⟩, List.mem_of_getElem? (i := 774) (by decide +kernel), List.mem_of_getElem? (i := 1103) (by decide +kernel), List.mem_of_getElem? (i := 1104) (by decide +kernel)⟩
def lw_privs_5 : List (MethodName × Nat) := [(⟨"SoleArraysModel", "lookBehind", "(IIII)V"⟩, 51), (⟨"SoleArraysModel", "count", "()I"⟩, 51), (⟨"SoleArraysModel", "isRun", "(I)Z"⟩, 51), (⟨"SoleArraysModel", "start", "(I)V"⟩, 51), (⟨"SoleArraysModel", "goOn", "()V"⟩, 51), (⟨"SoleArraysModel", "give", "(JI)V"⟩, 51), (⟨"SoleArraysModel", "makeOne", "(JJI)V"⟩, 51), (⟨"SoleArraysModel", "make", "(JJI)I"⟩, 51), (⟨"SoleArraysModel", "pass", "()V"⟩, 51), (⟨"SoleArraysModel", "hold", "(II)V"⟩, 51), (⟨"SoleArraysModel", "enter", "(I)V"⟩, 51), (⟨"SoleArraysModel", "finish", "(I)V"⟩, 51), (⟨"SoleArraysModel", "join", "(I)V"⟩, 51), (⟨"SoleArraysModel", "cellOf", "(I)V"⟩, 51)]
theorem lw_r5 : ∀ q ∈ lw_privs_5, lw_okq q := List.forall_mem_cons.mpr ⟨lw_p64, List.forall_mem_cons.mpr ⟨lw_p65, List.forall_mem_cons.mpr ⟨lw_p66, List.forall_mem_cons.mpr ⟨lw_p67, List.forall_mem_cons.mpr ⟨lw_p68, List.forall_mem_cons.mpr ⟨lw_p69, List.forall_mem_cons.mpr ⟨lw_p70, List.forall_mem_cons.mpr ⟨lw_p71, List.forall_mem_cons.mpr ⟨lw_p72, List.forall_mem_cons.mpr ⟨lw_p73, List.forall_mem_cons.mpr ⟨lw_p74, List.forall_mem_cons.mpr ⟨lw_p75, List.forall_mem_cons.mpr ⟨lw_p76, List.forall_mem_cons.mpr ⟨lw_p77, fun _ h => absurd h List.not_mem_nil⟩⟩⟩⟩⟩⟩⟩⟩⟩⟩⟩⟩⟩⟩
def lw_privs : List (MethodName × Nat) := lw_privs_1 ++ (lw_privs_2 ++ (lw_privs_3 ++ (lw_privs_4 ++ (lw_privs_5))))
def lw_tbl : List Cond := k2_sels lw_privs ++ tables_1
theorem lw_privs_ok : ∀ q ∈ lw_privs, lw_okq q := by
  show ∀ q ∈ lw_privs_1 ++ (lw_privs_2 ++ (lw_privs_3 ++ (lw_privs_4 ++ (lw_privs_5)))), lw_okq q
  exact List.forall_mem_append.mpr ⟨lw_r1, List.forall_mem_append.mpr ⟨lw_r2, List.forall_mem_append.mpr ⟨lw_r3, List.forall_mem_append.mpr ⟨lw_r4, lw_r5⟩⟩⟩⟩
end
section
/-! words that stay true under warmer tables -/
def zOk (w : Cond) : Bool := match w with
  | .declares _ => true
  | .castable _ _ => true
  | .methodLinkNest _ _ _ _ => true
  | .arrayOver (.object _) => true
  | .arrayOver (.array _) => true
  | w => goodWord w
theorem zok_arr {t : FieldType} {a a' : Array Value} {u U : State} (hvm : u.vm.Alike U.vm) (h : (Cond.arrayOver (.array t)).before a u = true) : (Cond.arrayOver (.array t)).before a' U = true := by
  obtain ⟨comp, c, k, h1, h2, h3, h4, h5⟩ := arrayOverA_spec h
  obtain ⟨k', hk', he⟩ := hvm.2.2 _ _ h3
  have hi : (U.vm.classes.findIdx? fun (x : Class) => match x.kind with | .array component _ => component == comp | _ => false) = some c := by
    have e1 := va_idx_bare U.vm comp
    have e2 := va_idx_bare u.vm comp
    first | rw [hvm.bare_eq] at e1 | rw [← hvm.bare_eq] at e1
    exact e1.symm.trans (e2.trans h2)
  have hkind : k'.kind = .array comp (.array t) := by rw [he]; exact h4
  have f1 : U.vm.findClass (FieldType.array t).toString = some comp := by rw [hvm.findClass]; exact h1
  have f2 : U.vm.findClass ("[" ++ (FieldType.array t).toString) = some c := by rw [hvm.findClass]; exact h5
  unfold Cond.before Cond.holds
  simp only [Cond.value]
  rw [f1, Option.bind_some]
  refine (congrArg (fun o : Option Nat => (o.bind (fun c => (U.vm.classes[c]?).map fun (k : Class) => match k.kind with | .array _ ty => decide (ty = FieldType.array t) && decide (U.vm.findClass ("[" ++ (FieldType.array t).toString) = some c) | _ => false) == some true)) hi).trans ?_
  simp [hk', hkind, f2]
theorem zok_at {a a' : Array Value} {s U : State} (hW : s.WarmedH U.vm) {w : Cond} (hw : zOk w = true) (h : w.before a s = true) : w.before a' U = true := by
  unfold zOk at hw
  split at hw
  · exact va_Nw.use rfl (va_Nw.warmD hW (va_Nw.of rfl h))
  · exact va_Nw.use rfl (va_Nw.warmC hW (va_Nw.of rfl h))
  · exact va_Nw.use rfl (va_Nw.warmM hW (va_Nw.of rfl h))
  · exact va_AO.use (va_AO.moved hW.alike (va_AO.of h))
  · exact zok_arr hW.alike h
  · exact word_at hW (good_of_word hw) h
end
section
def zTb : List Cond := lw_tbl.filter zOk
theorem zt0 {w : Cond} (h : w ∈ tables_1) (g : zOk w = true) : w ∈ zTb := List.mem_filter.mpr ⟨List.mem_append_right _ h, g⟩
theorem zt1 (i : Nat) {w : Cond} (h : tables_1_1[i]? = some w) (g : zOk w = true) : w ∈ zTb := zt0 (show w ∈ tables_1 from (List.mem_append_left _ (List.mem_of_getElem? h))) g
theorem zt2 (i : Nat) {w : Cond} (h : tables_1_2[i]? = some w) (g : zOk w = true) : w ∈ zTb := zt0 (show w ∈ tables_1 from (List.mem_append_right _ (List.mem_append_left _ (List.mem_of_getElem? h)))) g
theorem zt3 (i : Nat) {w : Cond} (h : tables_1_3[i]? = some w) (g : zOk w = true) : w ∈ zTb := zt0 (show w ∈ tables_1 from (List.mem_append_right _ (List.mem_append_right _ (List.mem_append_left _ (List.mem_of_getElem? h))))) g
theorem zt4 (i : Nat) {w : Cond} (h : tables_1_4[i]? = some w) (g : zOk w = true) : w ∈ zTb := zt0 (show w ∈ tables_1 from (List.mem_append_right _ (List.mem_append_right _ (List.mem_append_right _ (List.mem_append_left _ (List.mem_of_getElem? h)))))) g
theorem zt5 (i : Nat) {w : Cond} (h : tables_1_5[i]? = some w) (g : zOk w = true) : w ∈ zTb := zt0 (show w ∈ tables_1 from (List.mem_append_right _ (List.mem_append_right _ (List.mem_append_right _ (List.mem_append_right _ (List.mem_of_getElem? h)))))) g
theorem ztp (i : Nat) {w : Cond} (h : (k2_sels lw_privs)[i]? = some w) (g : zOk w = true) : w ∈ zTb := List.mem_filter.mpr ⟨List.mem_append_left _ (List.mem_of_getElem? h), g⟩
theorem zt_ok : ∀ w ∈ zTb, zOk w = true := fun w h => (List.mem_filter.mp h).2
theorem zt_in : ∀ w ∈ zTb, w ∈ lw_tbl := fun w h => (List.mem_filter.mp h).1
theorem zins (ws : List Cond) (ps : List Nat) (h : ws = ps.filterMap (fun i => tables_1[i]?)) (g : ws.all zOk = true) : ∀ w ∈ ws, w ∈ zTb := by
  intro w hw
  have h1 := List.all_eq_true.mp g w hw
  rw [h] at hw
  obtain ⟨i, -, hi⟩ := List.mem_filterMap.mp hw
  exact zt0 (List.mem_of_getElem? hi) h1
def F_S : u_T := fun k => match k with
  | 0 => ("SoleArrays", "text", "[C", true)
  | 1 => ("SoleArrays", "fault", "LSoleArrays$Fault;", true)
  | 2 => ("SoleArrays", "functions", "[LSoleArrays$Function;", true)
  | 3 => ("SoleArrays", "arguments", "[J", true)
  | 4 => ("SoleArrays", "runner", "LSoleArrays$Runner;", true)
  | 5 => ("SoleArrays", "typed", "I", false)
  | 6 => ("SoleArrays", "length", "I", false)
  | 7 => ("SoleArrays", "defined", "I", false)
  | 8 => ("SoleArrays", "resultType", "I", false)
  | _ => ("SoleArrays", "result", "J", false)
def ft_S : Nat → FieldType := fun k => match k with
  | 0 => .array .char
  | 1 => .object "SoleArrays$Fault"
  | 2 => .array (.object "SoleArrays$Function")
  | 3 => .array .long
  | 4 => .object "SoleArrays$Runner"
  | 5 => .int
  | 6 => .int
  | 7 => .int
  | 8 => .int
  | _ => .long
set_option maxRecDepth 20000 in
theorem in_S : ∀ w ∈ u_ws "SoleArrays" F_S 10, w ∈ zTb := zins _ [121, 123, 125, 127, 129, 131, 133, 135, 137, 139] (by decide +kernel) (by decide +kernel)
theorem ty_S : ∀ k, k < 10 → parseFieldDescriptor (F_S k).2.2.1 = some (ft_S k) := by decide +kernel
theorem nm_S : ∀ a, a < 10 → ∀ b, b < 10 → a ≠ b → (F_S a).2.1 ≠ (F_S b).2.1 := by decide +kernel
def F_T : u_T := fun k => match k with
  | _ => ("SoleArrays$Fault", "place", "I", false)
def ft_T : Nat → FieldType := fun k => match k with
  | _ => .int
set_option maxRecDepth 20000 in
theorem in_T : ∀ w ∈ u_ws "SoleArrays$Fault" F_T 1, w ∈ zTb := zins _ [40] (by decide +kernel) (by decide +kernel)
theorem ty_T : ∀ k, k < 1 → parseFieldDescriptor (F_T k).2.2.1 = some (ft_T k) := by decide +kernel
theorem nm_T : ∀ a, a < 1 → ∀ b, b < 1 → a ≠ b → (F_T a).2.1 ≠ (F_T b).2.1 := by decide +kernel
def F_F : u_T := fun k => match k with
  | 0 => ("SoleArrays$Function", "name", "I", true)
  | 1 => ("SoleArrays$Function", "variables", "[I", true)
  | 2 => ("SoleArrays$Function", "variablePlaces", "[I", true)
  | 3 => ("SoleArrays$Function", "types", "[I", true)
  | 4 => ("SoleArrays$Function", "parameterCount", "I", false)
  | 5 => ("SoleArrays$Function", "resultType", "I", false)
  | _ => ("SoleArrays$Function", "body", "LSoleArrays$Expression;", false)
def ft_F : Nat → FieldType := fun k => match k with
  | 0 => .int
  | 1 => .array .int
  | 2 => .array .int
  | 3 => .array .int
  | 4 => .int
  | 5 => .int
  | _ => .object "SoleArrays$Expression"
set_option maxRecDepth 20000 in
theorem in_F : ∀ w ∈ u_ws "SoleArrays$Function" F_F 7, w ∈ zTb := zins _ [351, 353, 355, 357, 359, 361, 363] (by decide +kernel) (by decide +kernel)
theorem ty_F : ∀ k, k < 7 → parseFieldDescriptor (F_F k).2.2.1 = some (ft_F k) := by decide +kernel
theorem nm_F : ∀ a, a < 7 → ∀ b, b < 7 → a ≠ b → (F_F a).2.1 ≠ (F_F b).2.1 := by decide +kernel
def F_E : u_T := fun k => match k with
  | 0 => ("SoleArrays$Expression", "form", "LSoleArrays$Form;", true)
  | 1 => ("SoleArrays$Expression", "place", "I", true)
  | 2 => ("SoleArrays$Expression", "parts", "[LSoleArrays$Expression;", true)
  | 3 => ("SoleArrays$Expression", "partCount", "I", false)
  | 4 => ("SoleArrays$Expression", "number", "J", false)
  | 5 => ("SoleArrays$Expression", "operation", "C", false)
  | 6 => ("SoleArrays$Expression", "variable", "I", false)
  | 7 => ("SoleArrays$Expression", "variablePlace", "I", false)
  | 8 => ("SoleArrays$Expression", "calleeName", "I", false)
  | _ => ("SoleArrays$Expression", "callee", "LSoleArrays$Function;", false)
def ft_E : Nat → FieldType := fun k => match k with
  | 0 => .object "SoleArrays$Form"
  | 1 => .int
  | 2 => .array (.object "SoleArrays$Expression")
  | 3 => .int
  | 4 => .long
  | 5 => .char
  | 6 => .int
  | 7 => .int
  | 8 => .int
  | _ => .object "SoleArrays$Function"
set_option maxRecDepth 20000 in
theorem in_E : ∀ w ∈ u_ws "SoleArrays$Expression" F_E 10, w ∈ zTb := zins _ [438, 440, 442, 444, 446, 448, 450, 452, 454, 456] (by decide +kernel) (by decide +kernel)
theorem ty_E : ∀ k, k < 10 → parseFieldDescriptor (F_E k).2.2.1 = some (ft_E k) := by decide +kernel
theorem nm_E : ∀ a, a < 10 → ∀ b, b < 10 → a ≠ b → (F_E a).2.1 ≠ (F_E b).2.1 := by decide +kernel
def F_R : u_T := fun k => match k with
  | 0 => ("SoleArrays$Reader", "text", "[C", true)
  | 1 => ("SoleArrays$Reader", "length", "I", true)
  | 2 => ("SoleArrays$Reader", "fault", "LSoleArrays$Fault;", true)
  | _ => ("SoleArrays$Reader", "at", "I", false)
def ft_R : Nat → FieldType := fun k => match k with
  | 0 => .array .char
  | 1 => .int
  | 2 => .object "SoleArrays$Fault"
  | _ => .int
set_option maxRecDepth 20000 in
theorem in_R : ∀ w ∈ u_ws "SoleArrays$Reader" F_R 4, w ∈ zTb := zins _ [283, 285, 287, 289] (by decide +kernel) (by decide +kernel)
theorem ty_R : ∀ k, k < 4 → parseFieldDescriptor (F_R k).2.2.1 = some (ft_R k) := by decide +kernel
theorem nm_R : ∀ a, a < 4 → ∀ b, b < 4 → a ≠ b → (F_R a).2.1 ≠ (F_R b).2.1 := by decide +kernel
def F_C : u_T := fun k => match k with
  | 0 => ("SoleArrays$Checker", "subject", "LSoleArrays$Function;", true)
  | 1 => ("SoleArrays$Checker", "functions", "[LSoleArrays$Function;", true)
  | 2 => ("SoleArrays$Checker", "fault", "LSoleArrays$Fault;", true)
  | 3 => ("SoleArrays$Checker", "types", "[I", true)
  | _ => ("SoleArrays$Checker", "owned", "I", false)
def ft_C : Nat → FieldType := fun k => match k with
  | 0 => .object "SoleArrays$Function"
  | 1 => .array (.object "SoleArrays$Function")
  | 2 => .object "SoleArrays$Fault"
  | 3 => .array .int
  | _ => .int
set_option maxRecDepth 20000 in
theorem in_C : ∀ w ∈ u_ws "SoleArrays$Checker" F_C 5, w ∈ zTb := zins _ [549, 551, 553, 555, 557] (by decide +kernel) (by decide +kernel)
theorem ty_C : ∀ k, k < 5 → parseFieldDescriptor (F_C k).2.2.1 = some (ft_C k) := by decide +kernel
theorem nm_C : ∀ a, a < 5 → ∀ b, b < 5 → a ≠ b → (F_C a).2.1 ≠ (F_C b).2.1 := by decide +kernel
def F_O : u_T := fun k => match k with
  | 0 => ("SoleArrays$Store", "heights", "[I", true)
  | 1 => ("SoleArrays$Store", "widths", "[I", true)
  | 2 => ("SoleArrays$Store", "made", "I", false)
  | 3 => ("SoleArrays$Store", "most", "I", false)
  | 4 => ("SoleArrays$Store", "numbers", "[[J", true)
  | 5 => ("SoleArrays$Store", "taken", "[Z", true)
  | _ => ("SoleArrays$Store", "there", "I", false)
def ft_O : Nat → FieldType := fun k => match k with
  | 0 => .array .int
  | 1 => .array .int
  | 2 => .int
  | 3 => .int
  | 4 => .array (.array .long)
  | 5 => .array .boolean
  | _ => .int
set_option maxRecDepth 20000 in
theorem in_O : ∀ w ∈ u_ws "SoleArrays$Store" F_O 7, w ∈ zTb := zins _ [73, 75, 77, 79, 81, 83, 85] (by decide +kernel) (by decide +kernel)
theorem ty_O : ∀ k, k < 7 → parseFieldDescriptor (F_O k).2.2.1 = some (ft_O k) := by decide +kernel
theorem nm_O : ∀ a, a < 7 → ∀ b, b < 7 → a ≠ b → (F_O a).2.1 ≠ (F_O b).2.1 := by decide +kernel
def F_U : u_T := fun k => match k with
  | 0 => ("SoleArrays$Runner", "store", "LSoleArrays$Store;", true)
  | 1 => ("SoleArrays$Runner", "begun", "I", false)
  | 2 => ("SoleArrays$Runner", "updates", "I", false)
  | 3 => ("SoleArrays$Runner", "frames", "[[J", true)
  | _ => ("SoleArrays$Runner", "framesTaken", "I", false)
def ft_U : Nat → FieldType := fun k => match k with
  | 0 => .object "SoleArrays$Store"
  | 1 => .int
  | 2 => .int
  | 3 => .array (.array .long)
  | _ => .int
set_option maxRecDepth 20000 in
theorem in_U : ∀ w ∈ u_ws "SoleArrays$Runner" F_U 5, w ∈ zTb := zins _ [100, 102, 104, 106, 108] (by decide +kernel) (by decide +kernel)
theorem ty_U : ∀ k, k < 5 → parseFieldDescriptor (F_U k).2.2.1 = some (ft_U k) := by decide +kernel
theorem nm_U : ∀ a, a < 5 → ∀ b, b < 5 → a ≠ b → (F_U a).2.1 ≠ (F_U b).2.1 := by decide +kernel
def F_M : u_T := fun k => match k with
  | 0 => ("SoleArraysModel", "code", "I", false)
  | 1 => ("SoleArraysModel", "typed", "I", false)
  | 2 => ("SoleArraysModel", "size", "I", false)
  | 3 => ("SoleArraysModel", "text", "[C", true)
  | 4 => ("SoleArraysModel", "at", "I", false)
  | 5 => ("SoleArraysModel", "ill", "Z", false)
  | 6 => ("SoleArraysModel", "illAt", "I", false)
  | 7 => ("SoleArraysModel", "kind", "[I", true)
  | 8 => ("SoleArraysModel", "arg", "[I", true)
  | 9 => ("SoleArraysModel", "where", "[I", true)
  | 10 => ("SoleArraysModel", "parts", "[I", true)
  | 11 => ("SoleArraysModel", "end", "[I", true)
  | 12 => ("SoleArraysModel", "nodes", "I", false)
  | 13 => ("SoleArraysModel", "defined", "[Z", true)
  | 14 => ("SoleArraysModel", "counts", "[I", true)
  | 15 => ("SoleArraysModel", "results", "[I", true)
  | 16 => ("SoleArraysModel", "parameters", "[I", true)
  | 17 => ("SoleArraysModel", "types", "[I", true)
  | 18 => ("SoleArraysModel", "parameterPlaces", "[I", true)
  | 19 => ("SoleArraysModel", "open", "I", false)
  | 20 => ("SoleArraysModel", "pile", "[I", true)
  | 21 => ("SoleArraysModel", "done", "[I", true)
  | 22 => ("SoleArraysModel", "before", "[I", true)
  | 23 => ("SoleArraysModel", "behind", "[I", true)
  | 24 => ("SoleArraysModel", "first", "[I", true)
  | 25 => ("SoleArraysModel", "bound", "[I", true)
  | 26 => ("SoleArraysModel", "owned", "I", false)
  | 27 => ("SoleArraysModel", "wrong", "I", false)
  | 28 => ("SoleArraysModel", "self", "I", false)
  | 29 => ("SoleArraysModel", "cells", "[J", true)
  | 30 => ("SoleArraysModel", "rows", "[I", true)
  | 31 => ("SoleArraysModel", "columns", "[I", true)
  | 32 => ("SoleArraysModel", "arrays", "I", false)
  | 33 => ("SoleArraysModel", "depth", "I", false)
  | 34 => ("SoleArraysModel", "numbers", "[J", true)
  | 35 => ("SoleArraysModel", "held", "[I", true)
  | 36 => ("SoleArraysModel", "values", "I", false)
  | 37 => ("SoleArraysModel", "number", "[J", true)
  | 38 => ("SoleArraysModel", "array", "[I", true)
  | 39 => ("SoleArraysModel", "steps", "I", false)
  | 40 => ("SoleArraysModel", "made", "I", false)
  | 41 => ("SoleArraysModel", "there", "I", false)
  | 42 => ("SoleArraysModel", "most", "I", false)
  | 43 => ("SoleArraysModel", "updates", "I", false)
  | 44 => ("SoleArraysModel", "fault", "I", false)
  | 45 => ("SoleArraysModel", "arguments", "[J", true)
  | 46 => ("SoleArraysModel", "result", "I", false)
  | 47 => ("SoleArraysModel", "resultNumber", "J", false)
  | 48 => ("SoleArraysModel", "resultRows", "I", false)
  | 49 => ("SoleArraysModel", "resultColumns", "I", false)
  | _ => ("SoleArraysModel", "resultCells", "[J", true)
def ft_M : Nat → FieldType := fun k => match k with
  | 0 => .int
  | 1 => .int
  | 2 => .int
  | 3 => .array .char
  | 4 => .int
  | 5 => .boolean
  | 6 => .int
  | 7 => .array .int
  | 8 => .array .int
  | 9 => .array .int
  | 10 => .array .int
  | 11 => .array .int
  | 12 => .int
  | 13 => .array .boolean
  | 14 => .array .int
  | 15 => .array .int
  | 16 => .array .int
  | 17 => .array .int
  | 18 => .array .int
  | 19 => .int
  | 20 => .array .int
  | 21 => .array .int
  | 22 => .array .int
  | 23 => .array .int
  | 24 => .array .int
  | 25 => .array .int
  | 26 => .int
  | 27 => .int
  | 28 => .int
  | 29 => .array .long
  | 30 => .array .int
  | 31 => .array .int
  | 32 => .int
  | 33 => .int
  | 34 => .array .long
  | 35 => .array .int
  | 36 => .int
  | 37 => .array .long
  | 38 => .array .int
  | 39 => .int
  | 40 => .int
  | 41 => .int
  | 42 => .int
  | 43 => .int
  | 44 => .int
  | 45 => .array .long
  | 46 => .int
  | 47 => .long
  | 48 => .int
  | 49 => .int
  | _ => .array .long
set_option maxRecDepth 20000 in
theorem in_M : ∀ w ∈ u_ws "SoleArraysModel" F_M 51, w ∈ zTb := zins _ [830, 832, 834, 836, 838, 840, 842, 844, 846, 848, 850, 852, 854, 856, 858, 860, 862, 864, 866, 868, 870, 872, 874, 876, 878, 880, 882, 884, 886, 888, 890, 892, 894, 896, 898, 900, 902, 904, 906, 908, 910, 912, 914, 916, 918, 920, 922, 924, 926, 928, 930] (by decide +kernel) (by decide +kernel)
theorem ty_M : ∀ k, k < 51 → parseFieldDescriptor (F_M k).2.2.1 = some (ft_M k) := by decide +kernel
theorem nm_M : ∀ a, a < 51 → ∀ b, b < 51 → a ≠ b → (F_M a).2.1 ≠ (F_M b).2.1 := by decide +kernel
def F_X : u_T := fun _ => ("", "", "", false)
def zCl : List vw_C := [("SoleArrays", F_S, 10), ("SoleArrays$Fault", F_T, 1), ("SoleArrays$Function", F_F, 7), ("SoleArrays$Expression", F_E, 10), ("SoleArrays$Reader", F_R, 4), ("SoleArrays$Checker", F_C, 5), ("SoleArrays$Store", F_O, 7), ("SoleArrays$Runner", F_U, 5), ("SoleArraysModel", F_M, 51), ("java/lang/IllegalArgumentException", F_X, 0), ("java/lang/IllegalStateException", F_X, 0), ("java/lang/IndexOutOfBoundsException", F_X, 0), ("java/lang/ArithmeticException", F_X, 0), ("java/lang/UnsupportedOperationException", F_X, 0)]
def zTy : List FieldType := [.int, .long, .char, .boolean, .object "SoleArrays$Function", .object "SoleArrays$Expression", .array .long]
abbrev b_S_init : ByteArray := prog_1_method_1_code
abbrev y_S_init : MethodName := ⟨"SoleArrays", "<init>", "()V"⟩
abbrev b_S_type : ByteArray := prog_1_method_2_code
abbrev y_S_type : MethodName := ⟨"SoleArrays", "type", "(C)Z"⟩
abbrev b_S_define : ByteArray := prog_1_method_3_code
abbrev y_S_define : MethodName := ⟨"SoleArrays", "define", "()I"⟩
abbrev b_S_place : ByteArray := prog_1_method_4_code
abbrev y_S_place : MethodName := ⟨"SoleArrays", "place", "()I"⟩
abbrev b_S_clear : ByteArray := prog_1_method_5_code
abbrev y_S_clear : MethodName := ⟨"SoleArrays", "clear", "()I"⟩
abbrev b_S_argument : ByteArray := prog_1_method_6_code
abbrev y_S_argument : MethodName := ⟨"SoleArrays", "argument", "(IJ)Z"⟩
abbrev b_S_run : ByteArray := prog_1_method_7_code
abbrev y_S_run : MethodName := ⟨"SoleArrays", "run", "(C)I"⟩
abbrev b_S_kind : ByteArray := prog_1_method_8_code
abbrev y_S_kind : MethodName := ⟨"SoleArrays", "kind", "()I"⟩
abbrev b_S_value : ByteArray := prog_1_method_9_code
abbrev y_S_value : MethodName := ⟨"SoleArrays", "value", "()J"⟩
abbrev b_S_size : ByteArray := prog_1_method_10_code
abbrev y_S_size : MethodName := ⟨"SoleArrays", "size", "(I)I"⟩
abbrev b_S_cell : ByteArray := prog_1_method_11_code
abbrev y_S_cell : MethodName := ⟨"SoleArrays", "cell", "(II)J"⟩
abbrev b_S_counted : ByteArray := prog_1_method_12_code
abbrev y_S_counted : MethodName := ⟨"SoleArrays", "counted", "(I)I"⟩
abbrev b_S_functionNamed : ByteArray := prog_1_method_13_code
abbrev y_S_functionNamed : MethodName := ⟨"SoleArrays", "functionNamed", "(C)LSoleArrays$Function;"⟩
abbrev b_S_isArray : ByteArray := prog_1_method_14_code
abbrev y_S_isArray : MethodName := ⟨"SoleArrays", "isArray", "(I)Z"⟩
abbrev b_T_init : ByteArray := prog_5_method_1_code
abbrev y_T_init : MethodName := ⟨"SoleArrays$Fault", "<init>", "()V"⟩
abbrev b_T_ill : ByteArray := prog_5_method_2_code
abbrev y_T_ill : MethodName := ⟨"SoleArrays$Fault", "ill", "(I)V"⟩
abbrev b_T_wrong : ByteArray := prog_5_method_3_code
abbrev y_T_wrong : MethodName := ⟨"SoleArrays$Fault", "wrong", "(I)V"⟩
abbrev b_F_init : ByteArray := prog_7_method_1_code
abbrev y_F_init : MethodName := ⟨"SoleArrays$Function", "<init>", "(I)V"⟩
abbrev b_F_addParameter : ByteArray := prog_7_method_2_code
abbrev y_F_addParameter : MethodName := ⟨"SoleArrays$Function", "addParameter", "(III)V"⟩
abbrev b_F_takesNumbersOnly : ByteArray := prog_7_method_3_code
abbrev y_F_takesNumbersOnly : MethodName := ⟨"SoleArrays$Function", "takesNumbersOnly", "()Z"⟩
abbrev b_E_init : ByteArray := prog_4_method_1_code
abbrev y_E_init : MethodName := ⟨"SoleArrays$Expression", "<init>", "(LSoleArrays$Form;I)V"⟩
abbrev b_E_add : ByteArray := prog_4_method_2_code
abbrev y_E_add : MethodName := ⟨"SoleArrays$Expression", "add", "(LSoleArrays$Expression;)V"⟩
abbrev b_R_init : ByteArray := prog_8_method_1_code
abbrev y_R_init : MethodName := ⟨"SoleArrays$Reader", "<init>", "([CILSoleArrays$Fault;)V"⟩
abbrev b_R_readFunction : ByteArray := prog_8_method_2_code
abbrev y_R_readFunction : MethodName := ⟨"SoleArrays$Reader", "readFunction", "()LSoleArrays$Function;"⟩
abbrev b_R_readParameter : ByteArray := prog_8_method_3_code
abbrev y_R_readParameter : MethodName := ⟨"SoleArrays$Reader", "readParameter", "(LSoleArrays$Function;)V"⟩
abbrev b_R_readExpression : ByteArray := prog_8_method_4_code
abbrev y_R_readExpression : MethodName := ⟨"SoleArrays$Reader", "readExpression", "(I)LSoleArrays$Expression;"⟩
abbrev b_R_refuse : ByteArray := prog_8_method_5_code
abbrev y_R_refuse : MethodName := ⟨"SoleArrays$Reader", "refuse", "()LSoleArrays$Expression;"⟩
abbrev b_R_readDigits : ByteArray := prog_8_method_6_code
abbrev y_R_readDigits : MethodName := ⟨"SoleArrays$Reader", "readDigits", "()LSoleArrays$Expression;"⟩
abbrev b_R_readFromVariable : ByteArray := prog_8_method_7_code
abbrev y_R_readFromVariable : MethodName := ⟨"SoleArrays$Reader", "readFromVariable", "(I)LSoleArrays$Expression;"⟩
abbrev b_R_readReading : ByteArray := prog_8_method_8_code
abbrev y_R_readReading : MethodName := ⟨"SoleArrays$Reader", "readReading", "(II)LSoleArrays$Expression;"⟩
abbrev b_R_readUpdate : ByteArray := prog_8_method_9_code
abbrev y_R_readUpdate : MethodName := ⟨"SoleArrays$Reader", "readUpdate", "(II)LSoleArrays$Expression;"⟩
abbrev b_R_readCall : ByteArray := prog_8_method_10_code
abbrev y_R_readCall : MethodName := ⟨"SoleArrays$Reader", "readCall", "(I)LSoleArrays$Expression;"⟩
abbrev b_R_readOperation : ByteArray := prog_8_method_11_code
abbrev y_R_readOperation : MethodName := ⟨"SoleArrays$Reader", "readOperation", "(I)LSoleArrays$Expression;"⟩
abbrev b_R_takeOperation : ByteArray := prog_8_method_12_code
abbrev y_R_takeOperation : MethodName := ⟨"SoleArrays$Reader", "takeOperation", "()C"⟩
abbrev b_R_readChoice : ByteArray := prog_8_method_13_code
abbrev y_R_readChoice : MethodName := ⟨"SoleArrays$Reader", "readChoice", "(I)LSoleArrays$Expression;"⟩
abbrev b_R_readBinding : ByteArray := prog_8_method_14_code
abbrev y_R_readBinding : MethodName := ⟨"SoleArrays$Reader", "readBinding", "(I)LSoleArrays$Expression;"⟩
abbrev b_R_readGivingUp : ByteArray := prog_8_method_15_code
abbrev y_R_readGivingUp : MethodName := ⟨"SoleArrays$Reader", "readGivingUp", "(I)LSoleArrays$Expression;"⟩
abbrev b_R_readNewRow : ByteArray := prog_8_method_16_code
abbrev y_R_readNewRow : MethodName := ⟨"SoleArrays$Reader", "readNewRow", "(I)LSoleArrays$Expression;"⟩
abbrev b_R_readNewTable : ByteArray := prog_8_method_17_code
abbrev y_R_readNewTable : MethodName := ⟨"SoleArrays$Reader", "readNewTable", "(I)LSoleArrays$Expression;"⟩
abbrev b_R_readSignAndVariable : ByteArray := prog_8_method_18_code
abbrev y_R_readSignAndVariable : MethodName := ⟨"SoleArrays$Reader", "readSignAndVariable", "(LSoleArrays$Form;)LSoleArrays$Expression;"⟩
abbrev b_R_next : ByteArray := prog_8_method_19_code
abbrev y_R_next : MethodName := ⟨"SoleArrays$Reader", "next", "()C"⟩
abbrev b_R_nextIsOneOf : ByteArray := prog_8_method_20_code
abbrev y_R_nextIsOneOf : MethodName := ⟨"SoleArrays$Reader", "nextIsOneOf", "(CC)Z"⟩
abbrev b_R_take : ByteArray := prog_8_method_21_code
abbrev y_R_take : MethodName := ⟨"SoleArrays$Reader", "take", "(C)V"⟩
abbrev b_R_takeOneOf : ByteArray := prog_8_method_22_code
abbrev y_R_takeOneOf : MethodName := ⟨"SoleArrays$Reader", "takeOneOf", "(CC)I"⟩
abbrev b_R_takeCommaBefore : ByteArray := prog_8_method_23_code
abbrev y_R_takeCommaBefore : MethodName := ⟨"SoleArrays$Reader", "takeCommaBefore", "(I)V"⟩
abbrev b_C_init : ByteArray := prog_3_method_1_code
abbrev y_C_init : MethodName := ⟨"SoleArrays$Checker", "<init>", "(LSoleArrays$Function;[LSoleArrays$Function;LSoleArrays$Fault;)V"⟩
abbrev b_C_check : ByteArray := prog_3_method_2_code
abbrev y_C_check : MethodName := ⟨"SoleArrays$Checker", "check", "()V"⟩
abbrev b_C_look : ByteArray := prog_3_method_3_code
abbrev y_C_look : MethodName := ⟨"SoleArrays$Checker", "look", "(LSoleArrays$Expression;)I"⟩
abbrev b_C_lookAtNumbers : ByteArray := prog_3_method_4_code
abbrev y_C_lookAtNumbers : MethodName := ⟨"SoleArrays$Checker", "lookAtNumbers", "(LSoleArrays$Expression;)V"⟩
abbrev b_C_lookAtPart : ByteArray := prog_3_method_5_code
abbrev y_C_lookAtPart : MethodName := ⟨"SoleArrays$Checker", "lookAtPart", "(LSoleArrays$Expression;I)V"⟩
abbrev b_C_lookAtChoice : ByteArray := prog_3_method_6_code
abbrev y_C_lookAtChoice : MethodName := ⟨"SoleArrays$Checker", "lookAtChoice", "(LSoleArrays$Expression;)I"⟩
abbrev b_C_lookAtBinding : ByteArray := prog_3_method_7_code
abbrev y_C_lookAtBinding : MethodName := ⟨"SoleArrays$Checker", "lookAtBinding", "(LSoleArrays$Expression;)I"⟩
abbrev b_C_lookAtCall : ByteArray := prog_3_method_8_code
abbrev y_C_lookAtCall : MethodName := ⟨"SoleArrays$Checker", "lookAtCall", "(LSoleArrays$Expression;)I"⟩
abbrev b_C_lookAtVariable : ByteArray := prog_3_method_9_code
abbrev y_C_lookAtVariable : MethodName := ⟨"SoleArrays$Checker", "lookAtVariable", "(LSoleArrays$Expression;II)I"⟩
abbrev b_C_useUp : ByteArray := prog_3_method_10_code
abbrev y_C_useUp : MethodName := ⟨"SoleArrays$Checker", "useUp", "(LSoleArrays$Expression;II)I"⟩
abbrev b_C_bind : ByteArray := prog_3_method_11_code
abbrev y_C_bind : MethodName := ⟨"SoleArrays$Checker", "bind", "(II)V"⟩
abbrev b_C_refuseIfBound : ByteArray := prog_3_method_12_code
abbrev y_C_refuseIfBound : MethodName := ⟨"SoleArrays$Checker", "refuseIfBound", "(II)V"⟩
abbrev b_C_refuseIfOwned : ByteArray := prog_3_method_13_code
abbrev y_C_refuseIfOwned : MethodName := ⟨"SoleArrays$Checker", "refuseIfOwned", "(II)V"⟩
abbrev b_C_isOwned : ByteArray := prog_3_method_14_code
abbrev y_C_isOwned : MethodName := ⟨"SoleArrays$Checker", "isOwned", "(I)Z"⟩
abbrev b_O_init : ByteArray := prog_10_method_1_code
abbrev y_O_init : MethodName := ⟨"SoleArrays$Store", "<init>", "()V"⟩
abbrev b_O_empty : ByteArray := prog_10_method_2_code
abbrev y_O_empty : MethodName := ⟨"SoleArrays$Store", "empty", "()V"⟩
abbrev b_O_make : ByteArray := prog_10_method_3_code
abbrev y_O_make : MethodName := ⟨"SoleArrays$Store", "make", "(JJ)I"⟩
abbrev b_O_copy : ByteArray := prog_10_method_4_code
abbrev y_O_copy : MethodName := ⟨"SoleArrays$Store", "copy", "(I)I"⟩
abbrev b_O_giveUp : ByteArray := prog_10_method_5_code
abbrev y_O_giveUp : MethodName := ⟨"SoleArrays$Store", "giveUp", "(I)V"⟩
abbrev b_O_has : ByteArray := prog_10_method_6_code
abbrev y_O_has : MethodName := ⟨"SoleArrays$Store", "has", "(IJJ)Z"⟩
abbrev b_O_numberAt : ByteArray := prog_10_method_7_code
abbrev y_O_numberAt : MethodName := ⟨"SoleArrays$Store", "numberAt", "(IJJ)J"⟩
abbrev b_O_put : ByteArray := prog_10_method_8_code
abbrev y_O_put : MethodName := ⟨"SoleArrays$Store", "put", "(IJJJ)V"⟩
abbrev b_O_indexOf : ByteArray := prog_10_method_9_code
abbrev y_O_indexOf : MethodName := ⟨"SoleArrays$Store", "indexOf", "(IJJ)I"⟩
abbrev b_O_firstFree : ByteArray := prog_10_method_10_code
abbrev y_O_firstFree : MethodName := ⟨"SoleArrays$Store", "firstFree", "()I"⟩
abbrev b_U_init : ByteArray := prog_9_method_1_code
abbrev y_U_init : MethodName := ⟨"SoleArrays$Runner", "<init>", "()V"⟩
abbrev b_U_start : ByteArray := prog_9_method_2_code
abbrev y_U_start : MethodName := ⟨"SoleArrays$Runner", "start", "(LSoleArrays$Function;[J)J"⟩
abbrev b_U_work : ByteArray := prog_9_method_3_code
abbrev y_U_work : MethodName := ⟨"SoleArrays$Runner", "work", "(LSoleArrays$Expression;II)J"⟩
abbrev b_U_arrayOf : ByteArray := prog_9_method_4_code
abbrev y_U_arrayOf : MethodName := ⟨"SoleArrays$Runner", "arrayOf", "(LSoleArrays$Expression;I)I"⟩
abbrev b_U_operate : ByteArray := prog_9_method_5_code
abbrev y_U_operate : MethodName := ⟨"SoleArrays$Runner", "operate", "(CJJ)J"⟩
abbrev b_U_divide : ByteArray := prog_9_method_6_code
abbrev y_U_divide : MethodName := ⟨"SoleArrays$Runner", "divide", "(JJ)J"⟩
abbrev b_U_readNumber : ByteArray := prog_9_method_7_code
abbrev y_U_readNumber : MethodName := ⟨"SoleArrays$Runner", "readNumber", "(LSoleArrays$Expression;II)J"⟩
abbrev b_U_update : ByteArray := prog_9_method_8_code
abbrev y_U_update : MethodName := ⟨"SoleArrays$Runner", "update", "(LSoleArrays$Expression;II)J"⟩
abbrev b_U_call : ByteArray := prog_9_method_9_code
abbrev y_U_call : MethodName := ⟨"SoleArrays$Runner", "call", "(LSoleArrays$Expression;II)J"⟩
abbrev b_M_init : ByteArray := prog_12_method_1_code
abbrev y_M_init : MethodName := ⟨"SoleArraysModel", "<init>", "()V"⟩
abbrev b_M_thrown : ByteArray := prog_12_method_2_code
abbrev y_M_thrown : MethodName := ⟨"SoleArraysModel", "thrown", "()I"⟩
abbrev b_M_look : ByteArray := prog_12_method_3_code
abbrev y_M_look : MethodName := ⟨"SoleArraysModel", "look", "()C"⟩
abbrev b_M_takes : ByteArray := prog_12_method_4_code
abbrev y_M_takes : MethodName := ⟨"SoleArraysModel", "takes", "(C)Z"⟩
abbrev b_M_want : ByteArray := prog_12_method_5_code
abbrev y_M_want : MethodName := ⟨"SoleArraysModel", "want", "(Z)V"⟩
abbrev b_M_among : ByteArray := prog_12_method_6_code
abbrev y_M_among : MethodName := ⟨"SoleArraysModel", "among", "(CC)Z"⟩
abbrev b_M_letter : ByteArray := prog_12_method_7_code
abbrev y_M_letter : MethodName := ⟨"SoleArraysModel", "letter", "(CC)I"⟩
abbrev b_M_node : ByteArray := prog_12_method_8_code
abbrev y_M_node : MethodName := ⟨"SoleArraysModel", "node", "(III)I"⟩
abbrev b_M_push : ByteArray := prog_12_method_9_code
abbrev y_M_push : MethodName := ⟨"SoleArraysModel", "push", "(I)V"⟩
abbrev b_M_beginExpression : ByteArray := prog_12_method_10_code
abbrev y_M_beginExpression : MethodName := ⟨"SoleArraysModel", "beginExpression", "()Z"⟩
abbrev b_M_beginOther : ByteArray := prog_12_method_11_code
abbrev y_M_beginOther : MethodName := ⟨"SoleArraysModel", "beginOther", "(CI)Z"⟩
abbrev b_M_behindPart : ByteArray := prog_12_method_12_code
abbrev y_M_behindPart : MethodName := ⟨"SoleArraysModel", "behindPart", "()Z"⟩
abbrev b_M_readExpression : ByteArray := prog_12_method_13_code
abbrev y_M_readExpression : MethodName := ⟨"SoleArraysModel", "readExpression", "()V"⟩
abbrev b_M_readFunction : ByteArray := prog_12_method_14_code
abbrev y_M_readFunction : MethodName := ⟨"SoleArraysModel", "readFunction", "()I"⟩
abbrev b_M_mistake : ByteArray := prog_12_method_15_code
abbrev y_M_mistake : MethodName := ⟨"SoleArraysModel", "mistake", "(I)V"⟩
abbrev b_M_isOwned : ByteArray := prog_12_method_16_code
abbrev y_M_isOwned : MethodName := ⟨"SoleArraysModel", "isOwned", "(I)Z"⟩
abbrev b_M_bind : ByteArray := prog_12_method_17_code
abbrev y_M_bind : MethodName := ⟨"SoleArraysModel", "bind", "(II)V"⟩
abbrev b_M_use : ByteArray := prog_12_method_18_code
abbrev y_M_use : MethodName := ⟨"SoleArraysModel", "use", "(III)I"⟩
abbrev b_M_useUp : ByteArray := prog_12_method_19_code
abbrev y_M_useUp : MethodName := ⟨"SoleArraysModel", "useUp", "(I)V"⟩
abbrev b_M_called : ByteArray := prog_12_method_20_code
abbrev y_M_called : MethodName := ⟨"SoleArraysModel", "called", "(I)I"⟩
abbrev b_M_lookBefore : ByteArray := prog_12_method_21_code
abbrev y_M_lookBefore : MethodName := ⟨"SoleArraysModel", "lookBefore", "(I)V"⟩
abbrev b_M_lookBehind : ByteArray := prog_12_method_22_code
abbrev y_M_lookBehind : MethodName := ⟨"SoleArraysModel", "lookBehind", "(IIII)V"⟩
abbrev b_M_typeOf : ByteArray := prog_12_method_23_code
abbrev y_M_typeOf : MethodName := ⟨"SoleArraysModel", "typeOf", "(II)I"⟩
abbrev b_M_lookAll : ByteArray := prog_12_method_24_code
abbrev y_M_lookAll : MethodName := ⟨"SoleArraysModel", "lookAll", "()I"⟩
abbrev b_M_check : ByteArray := prog_12_method_25_code
abbrev y_M_check : MethodName := ⟨"SoleArraysModel", "check", "(I)V"⟩
abbrev b_M_type : ByteArray := prog_12_method_26_code
abbrev y_M_type : MethodName := ⟨"SoleArraysModel", "type", "(C)Z"⟩
abbrev b_M_count : ByteArray := prog_12_method_27_code
abbrev y_M_count : MethodName := ⟨"SoleArraysModel", "count", "()I"⟩
abbrev b_M_define : ByteArray := prog_12_method_28_code
abbrev y_M_define : MethodName := ⟨"SoleArraysModel", "define", "()I"⟩
abbrev b_M_place : ByteArray := prog_12_method_29_code
abbrev y_M_place : MethodName := ⟨"SoleArraysModel", "place", "()I"⟩
abbrev b_M_clear : ByteArray := prog_12_method_30_code
abbrev y_M_clear : MethodName := ⟨"SoleArraysModel", "clear", "()I"⟩
abbrev b_M_argument : ByteArray := prog_12_method_31_code
abbrev y_M_argument : MethodName := ⟨"SoleArraysModel", "argument", "(IJ)Z"⟩
abbrev b_M_start : ByteArray := prog_12_method_32_code
abbrev y_M_start : MethodName := ⟨"SoleArraysModel", "start", "(I)V"⟩
abbrev b_M_give : ByteArray := prog_12_method_33_code
abbrev y_M_give : MethodName := ⟨"SoleArraysModel", "give", "(JI)V"⟩
abbrev b_M_make : ByteArray := prog_12_method_34_code
abbrev y_M_make : MethodName := ⟨"SoleArraysModel", "make", "(JJI)I"⟩
abbrev b_M_makeOne : ByteArray := prog_12_method_35_code
abbrev y_M_makeOne : MethodName := ⟨"SoleArraysModel", "makeOne", "(JJI)V"⟩
abbrev b_M_join : ByteArray := prog_12_method_36_code
abbrev y_M_join : MethodName := ⟨"SoleArraysModel", "join", "(I)V"⟩
abbrev b_M_cellOf : ByteArray := prog_12_method_37_code
abbrev y_M_cellOf : MethodName := ⟨"SoleArraysModel", "cellOf", "(I)V"⟩
abbrev b_M_enter : ByteArray := prog_12_method_38_code
abbrev y_M_enter : MethodName := ⟨"SoleArraysModel", "enter", "(I)V"⟩
abbrev b_M_hold : ByteArray := prog_12_method_39_code
abbrev y_M_hold : MethodName := ⟨"SoleArraysModel", "hold", "(II)V"⟩
abbrev b_M_pass : ByteArray := prog_12_method_40_code
abbrev y_M_pass : MethodName := ⟨"SoleArraysModel", "pass", "()V"⟩
abbrev b_M_goOn : ByteArray := prog_12_method_41_code
abbrev y_M_goOn : MethodName := ⟨"SoleArraysModel", "goOn", "()V"⟩
abbrev b_M_finish : ByteArray := prog_12_method_42_code
abbrev y_M_finish : MethodName := ⟨"SoleArraysModel", "finish", "(I)V"⟩
abbrev b_M_isRun : ByteArray := prog_12_method_43_code
abbrev y_M_isRun : MethodName := ⟨"SoleArraysModel", "isRun", "(I)Z"⟩
abbrev b_M_run : ByteArray := prog_12_method_44_code
abbrev y_M_run : MethodName := ⟨"SoleArraysModel", "run", "(C)I"⟩
abbrev b_M_kind : ByteArray := prog_12_method_45_code
abbrev y_M_kind : MethodName := ⟨"SoleArraysModel", "kind", "()I"⟩
abbrev b_M_value : ByteArray := prog_12_method_46_code
abbrev y_M_value : MethodName := ⟨"SoleArraysModel", "value", "()J"⟩
abbrev b_M_size : ByteArray := prog_12_method_47_code
abbrev y_M_size : MethodName := ⟨"SoleArraysModel", "size", "(I)I"⟩
abbrev b_M_cell : ByteArray := prog_12_method_48_code
abbrev y_M_cell : MethodName := ⟨"SoleArraysModel", "cell", "(II)J"⟩
abbrev b_M_counted : ByteArray := prog_12_method_49_code
abbrev y_M_counted : MethodName := ⟨"SoleArraysModel", "counted", "(I)I"⟩
abbrev b_L_define : ByteArray := method_3_code
abbrev y_L_define : MethodName := ⟨"SoleArraysLaw", "define", "(LSoleArrays;[J)I"⟩
abbrev b_L_run : ByteArray := method_4_code
abbrev y_L_run : MethodName := ⟨"SoleArraysLaw", "run", "(LSoleArrays;C[J)I"⟩
abbrev b_L_law : ByteArray := code
abbrev y_L_law : MethodName := ⟨"SoleArraysLaw", "law", "([I)Z"⟩
end
section
section ZVX
variable {p : Program} {l : Launch} {e : Env} {R : Room} {s : State} {m : MethodId} {args : Array Value} {below : List Frame} {meth : Method} {c : Code} {H : Heap} {locs : List Loc} {cells slots : Nat} {Q : State → Prop}
theorem vx_frame {U : State} {k n : Nat} (h : s.sameButNew ({ U with vm := s.vm } : State) locs k n) : s.heap.size ≤ U.heap.size ∧ ∀ q : Nat, q < s.heap.size → (∀ z ∈ locs, z.base ≠ q) → U.heap[q]? = s.heap[q]? := by
  obtain ⟨-, h2, -, -, -, h6⟩ := h
  refine ⟨h2, fun q hq hz => ?_⟩
  obtain ⟨c9, e1, e2, e3, e4⟩ := h6 q _ (Array.getElem?_eq_getElem hq)
  have hs : c9.slots = (s.heap[q]).slots := Array.ext_getElem? fun i => e4 i fun hm => hz _ hm rfl
  have h9 : c9 = s.heap[q] := by
    rw [hs] at e2
    exact e2
  have e5 : U.heap[q]? = some c9 := e1
  rw [e5, h9, Array.getElem?_eq_getElem hq]
def vx_no (w : Cond) : Bool := decide (w ≠ .isRef (.static Bundle.tN "UNASSIGNED_STACK" Bundle.steD)) && decide (w ≠ .isRef (.static Bundle.tN "SUPPRESSED_SENTINEL" Bundle.listD)) && decide (w ≠ .laysStatic Bundle.tN "UNASSIGNED_STACK" Bundle.steD) && decide (w ≠ .laysStatic Bundle.tN "SUPPRESSED_SENTINEL" Bundle.listD)
def vx_atS (own : String) (ic : Nat) (X : String) (names : List String) : List Cond := (Bundle.ownAtoms own ic X names).filter vx_no
def vx_ot (w : Cond) : Bool := w.onTables || goodWord w
theorem vx_ot_at {args a' : Array Value} {s U : State} {w : Cond} (hW : s.WarmedH U.vm) (hvm : s.vm = U.vm) (hg : vx_ot w = true) (h : w.before args s = true) : w.before a' U = true := by
  simp only [vx_ot, Bool.or_eq_true] at hg
  rcases hg with hg | hg
  · exact va_tabs hg hvm h
  · exact word_at hW (good_of_word hg) h
theorem vx_own {args : Array Value} {s : State} {L : List Cond} (h1 : ∀ w ∈ L.filter vx_no, w.before args s = true)
    (hU : (Cond.isRef (.static Bundle.tN "UNASSIGNED_STACK" Bundle.steD)).before args s = true) (hN : (Cond.isRef (.static Bundle.tN "SUPPRESSED_SENTINEL" Bundle.listD)).before args s = true)
    (lU : (Cond.laysStatic Bundle.tN "UNASSIGNED_STACK" Bundle.steD).before args s = true) (lN : (Cond.laysStatic Bundle.tN "SUPPRESSED_SENTINEL" Bundle.listD).before args s = true) : ∀ w ∈ L, w.before args s = true := by
  intro w hw
  by_cases e1 : w = .isRef (.static Bundle.tN "UNASSIGNED_STACK" Bundle.steD)
  · rw [e1]; exact hU
  · by_cases e2 : w = .isRef (.static Bundle.tN "SUPPRESSED_SENTINEL" Bundle.listD)
    · rw [e2]; exact hN
    · by_cases e3 : w = .laysStatic Bundle.tN "UNASSIGNED_STACK" Bundle.steD
      · rw [e3]; exact lU
      · by_cases e4 : w = .laysStatic Bundle.tN "SUPPRESSED_SENTINEL" Bundle.listD
        · rw [e4]; exact lN
        · exact h1 w (List.mem_filter.mpr ⟨hw, by unfold vx_no; rw [decide_eq_true e1, decide_eq_true e2, decide_eq_true e3, decide_eq_true e4]; rfl⟩)
def vx_L (C n d : String) (A : Nat → Prop) (U : State) (H : Heap) : Prop := ∃ (c : ClassId) (k : Class) (i : Nat) (f : Field) (a : Nat) (cell : Cell), U.vm.findClass C = some c ∧ U.fieldFound? C n d = some (c, k, i, f) ∧ f.isStatic = true ∧ k.statics = some a ∧ H[a]? = some cell ∧ cell.vm.isStatics = true ∧ cell.cls = c ∧ f.slot < cell.slots.size ∧ k.staticTypes[f.slot]? = some f.type ∧ ¬ A a
theorem vx_L.moved {C n d : String} {A : Nat → Prop} {u U : State} {H : Heap} (hvm : u.vm.Alike U.vm) (h : vx_L C n d A u H) : vx_L C n d A U H := by
  obtain ⟨c, k, i, f, a, cell, h1, h2, h3, h4, h5, h6, h7, h8, h9, h10⟩ := h
  obtain ⟨k', hi', he⟩ := State.fieldFound?_setVm hvm h2
  exact ⟨c, k', i, f, a, cell, by rw [hvm.findClass]; exact h1, hi', h3, by rw [he]; exact h4, h5, h6, h7, h8, by rw [he]; exact h9, h10⟩
theorem vx_L.kept {C n d : String} {A : Nat → Prop} {U : State} {H H1 : Heap} (h : vx_L C n d A U H) (hq : ∀ a : Nat, a < H.size → ¬ A a → H1[a]? = H[a]?) : vx_L C n d A U H1 := by
  obtain ⟨c, k, i, f, a, cell, h1, h2, h3, h4, h5, h6, h7, h8, h9, h10⟩ := h
  exact ⟨c, k, i, f, a, cell, h1, h2, h3, h4, by rw [hq a (Array.getElem?_eq_some_iff.mp h5).1 h10]; exact h5, h6, h7, h8, h9, h10⟩
theorem vx_L.narrow {C n d : String} {A B : Nat → Prop} {U : State} {H : Heap} (h : vx_L C n d A U H) (hAB : ∀ q, B q → A q) : vx_L C n d B U H := by
  obtain ⟨c, k, i, f, a, cell, h1, h2, h3, h4, h5, h6, h7, h8, h9, h10⟩ := h
  exact ⟨c, k, i, f, a, cell, h1, h2, h3, h4, h5, h6, h7, h8, h9, fun z => h10 (hAB _ z)⟩
theorem vx_L.word {C n d : String} {A : Nat → Prop} {s : State} {args : Array Value} (h : vx_L C n d A s s.heap) : (Cond.laysStatic C n d).before args s = true := by
  obtain ⟨c, k, i, f, a, cell, h1, h2, h3, h4, h5, h6, h7, h8, h9, -⟩ := h
  show (Cond.laysStatic C n d).holds args s none s [] = true
  exact Cond.laysStatic_of h1 h2 h3 h4 h5 h6 h7 h8 h9
def vx_Zq (C n d : String) (A : Nat → Prop) (U : State) (H : Heap) : Prop := va_Zq C n d A U H ∧ vx_L C n d A U H
theorem vx_Zq.moved {C n d : String} {A : Nat → Prop} {u U : State} {H : Heap} (hvm : u.vm.Alike U.vm) (h : vx_Zq C n d A u H) : vx_Zq C n d A U H := ⟨va_Zq.moved hvm h.1, vx_L.moved hvm h.2⟩
theorem vx_Zq.kept {C n d : String} {A : Nat → Prop} {U : State} {H H1 : Heap} (h : vx_Zq C n d A U H) (hq : ∀ a : Nat, a < H.size → ¬ A a → H1[a]? = H[a]?) : vx_Zq C n d A U H1 := ⟨va_Zq.kept h.1 hq, vx_L.kept h.2 hq⟩
theorem vx_Zq.narrow {C n d : String} {A B : Nat → Prop} {U : State} {H : Heap} (h : vx_Zq C n d A U H) (hAB : ∀ q, B q → A q) : vx_Zq C n d B U H := ⟨va_Zq.narrow h.1 hAB, vx_L.narrow h.2 hAB⟩
theorem vx_Zqof {args : Array Value} {s : State} {C n d : String} {A : Nat → Prop} (hl : (Cond.laysStatic C n d).before args s = true) (hini : (Cond.initialized C).before args s = true) (h : (Cond.isRef (.static C n d)).before args s = true) (hA : ∀ a : Nat, a < s.heap.size → ¬ A a) : vx_Zq C n d A s s.heap := by
  refine ⟨va_Zqof hl hini h hA, ?_⟩
  obtain ⟨c, k, i, f, a, cell, h1, h2, h3, h4, h5, h6, h7, h8, h9⟩ := Cond.laysStatic_spec hl
  exact ⟨c, k, i, f, a, cell, h1, h2, h3, h4, h5, h6, h7, h8, h9, hA a (Array.getElem?_eq_some_iff.mp h5).1⟩
theorem vx_isRef {C n d : String} {v : Value} {A : Nat → Prop} {s : State} {args : Array Value} (h : va_Z C n d v A s s.heap) (hv : v.isRef = true) : (Cond.isRef (.static C n d)).before args s = true := by
  obtain ⟨cf, kf, fi, f, a, cell, h1, h2, h3, h4, h5, h6, h7, -⟩ := h
  have he : (Term.static C n d).eval args s none [] s = some v := by
    simp [Term.eval, State.fieldNamed?, h1, h2, h4, h5, h6, h7]
  simp only [Cond.before, Cond.holds, Cond.value, he]
  cases v <;> simp_all [Value.isRef]
theorem vx_isRefq {C n d : String} {A : Nat → Prop} {s : State} {args : Array Value} (h : va_Zq C n d A s s.heap) : (Cond.isRef (.static C n d)).before args s = true := by
  rcases h with h | ⟨t, h⟩
  · exact vx_isRef h rfl
  · exact vx_isRef h rfl
theorem vx_rebase {T : State} (X : Stand p l e R s m args below meth c T locs cells slots) {R' : Room} (hf : R'.frames ≤ R.frames) (hl : R'.locals ≤ R.locals) (hc : cells + R'.cells ≤ R.cells) (hs : slots + R'.slots ≤ R.slots) :
    Stand p l e R' ((T.setVm s.vm).setFrames (.invoking m args :: below)) m args below meth c T [] 0 0 := by
  have htop : (T.setVm s.vm).topJava?.isSome := X.here.top
  have hF : ((T.setVm s.vm).setFrames (.invoking m args :: below)).frames = .invoking m args :: below := State.frames_setFrames _ (State.cur_lt_of_top htop)
  obtain ⟨g₀, hg0⟩ := Option.isSome_iff_exists.mp htop
  obtain ⟨r, hr⟩ := State.topJava?_eq_some.mp hg0
  have hl9 : e.platform.stackLimits (T.setVm s.vm).me = e.platform.stackLimits s.me := X.limits
  have hb9 : (T.setVm s.vm).me.stackBytes = s.me.stackBytes := X.bytes
  refine ⟨X.admits, X.cas, X.clock, hF, ?_, X.hears, X.method, X.code, X.here, X.tail, X.warmed, ?_, ?_, ?_⟩
  · have h := X.room
    have hU : ((T.setVm s.vm).setFrames (.invoking m args :: below)).localsInUse = s.localsInUse := by
      rw [State.localsInUse_invoking hF (meth := meth) (c := c) X.method X.code, State.localsInUse_invoking X.frames X.method X.code]
    simp only [State.hasRoom, Bool.and_eq_true, decide_eq_true_eq] at h ⊢
    obtain ⟨⟨⟨⟨h1, h2, h3, h4, h5, h6⟩, h7⟩, h8⟩, h9⟩ := h
    rw [X.frames, List.length_cons] at h2 h3
    have q1 := X.heapSize
    have q2 := X.used
    simp only [hF, hU, List.length_cons, State.stackLimits_setFrames, State.stackBytes_setFrames, hl9, hb9]
    refine ⟨⟨⟨⟨by omega, by omega, by omega, by omega, by omega, h6⟩, ?_⟩, ?_⟩, X.book⟩
    · show T.heap.size + R'.cells ≤ e.platform.maxCells
      omega
    · show T.slotsUsed + R'.slots ≤ e.platform.maxSlots
      omega
  · rw [State.stackLimits_setFrames]; rfl
  · rw [State.stackBytes_setFrames]; rfl
  · refine ⟨?_, Nat.le_refl _, Nat.le_refl _, ?_, ?_, fun a c9 h9 => ⟨c9, h9, rfl, rfl, fun _ _ => rfl⟩⟩
    · obtain ⟨t, ht, -⟩ := State.frames_cons hr
      show T.setVm s.vm = { ((T.setVm s.vm).setFrames (.invoking m args :: below)).setFrames (T.setVm s.vm).frames with heap := T.heap, slotsUsed := T.slotsUsed }
      rw [State.setFrames_setFrames, State.setFrames_self ht]
      rfl
    · show T.slotsUsed = T.slotsUsed + ((T.heap.toList.drop T.heap.size).map (·.slots.size)).sum
      rw [List.drop_eq_nil_of_le (Nat.le_of_eq Array.length_toList)]
      rfl
    · show ((T.heap.toList.drop T.heap.size).map (·.slots.size)).sum ≤ 0
      rw [List.drop_eq_nil_of_le (Nat.le_of_eq Array.length_toList)]
      exact Nat.le_refl _
end ZVX
end
section
/-! xt: contracts of methods that return or throw -/
def xt_F (st t : State) (L : List Loc) (k n : Nat) : Prop := st.WarmedH t.vm ∧ st.sameButNew ({ t with vm := st.vm } : State) L k n
def xt_P (Qc : Array Value → State → Outcome → State → Prop) (mc ms : Nat) (free : Addr → Prop) : Array Value → State → Outcome → State → Prop :=
  fun a st o t => Qc a st o t ∧ ∃ L, xt_F st t L mc ms ∧ ∀ q ∈ L, free q.base
def xt_Met (l : Launch) (y : MethodName) (ws : List Cond) (rm : Room) (Pc : Array Value → State → Prop) (Qc : Array Value → State → Outcome → State → Prop) (mc ms : Nat) (free : Addr → Prop) : Prop :=
  MetFree l y (headSpec ws rm) Pc (fun _ _ _ _ _ => True) (xt_P Qc mc ms free)
def xt_Q (below : List Frame) (Qc : Array Value → State → Outcome → State → Prop) (a : Array Value) (s : State) (mc ms : Nat) (free : Addr → Prop) : State → Prop := fun t =>
  ∃ o, t.status = .running ∧ Ended t below o ∧ xt_P Qc mc ms free a s o t
section XT
variable {p : Program} {l : Launch} {e : Env} {R : Room} {s : State} {m : MethodId} {args : Array Value} {below : List Frame} {meth : Method} {c : Code} {H : Heap} {locs : List Loc} {cells slots : Nat} {Q : State → Prop}
theorem xt_post {Q' : State → Prop} {g : JFrame} (h : ∀ t, Q t → Q' t) (k : W p l e R s m args below meth c H locs cells slots Q g) : W p l e R s m args below meth c H locs cells slots Q' g := fun T hT X => by
  obtain ⟨t, a, b⟩ := k T hT X
  exact ⟨t, a, h t b⟩
theorem xt_ret {Qc : Array Value → State → Outcome → State → Prop} {mc ms : Nat} {free : Addr → Prop} {g : JFrame} (k : W p l e R s m args below meth c H locs cells slots (MQ below Qc args s mc ms free) g) :
    W p l e R s m args below meth c H locs cells slots (xt_Q below Qc args s mc ms free) g :=
  xt_post (fun t ht => by
    obtain ⟨o, h1, h2, h3, L, h4, h5⟩ := ht
    exact ⟨o, h1, h2, h3, L, ⟨h4.2.1, h4.2.2⟩, h5⟩) k
/-- a body gives the contract: 'his' says what the method's word gives -/
theorem xt_ofW {y : MethodName} {ws : List Cond} {rm : Room} {Pc : Array Value → State → Prop} {Qc : Array Value → State → Outcome → State → Prop} {mc ms : Nat} {free : Addr → Prop} {cc : ByteArray} {maxL : Nat} {ret : Option FieldType}
    (hy : plainName y.cls = true)
    (his : ∀ (a : Array Value) (u : State) mk, (∀ w ∈ ws, w.before a u = true) → u.methodNamed? y = some mk → ∃ meth c, u.vm.method? mk = some meth ∧ meth.code = some c ∧ c.code = cc ∧ c.maxLocals = maxL ∧ meth.sig.returnType = ret ∧ meth.locks = false)
    (body : ∀ p e s m args below meth c s₁, BodyLoose p l y (headSpec ws rm) cc maxL ret e s m args below meth c s₁ → c.maxLocals = maxL → Pc args s →
      W p l e rm s m args below meth c s.heap [] 0 0 (xt_Q below Qc args s mc ms free) (entryFrame m args maxL)) : xt_Met l y ws rm Pc Qc mc ms free := by
  refine MetFree.of_bodyS (code := cc) (maxLocals := maxL) (ret := ret) hy ?_ ?_
  · intro args s m h hn
    exact his args s m (atoms_spec (ws := ws) h) hn
  · intro p e s m args below meth c s₁ B hml hP _
    have hh0 : s₁.heap = s.heap := by rw [B.state]; rfl
    obtain ⟨t, a1, o, b1, b2, b3⟩ := body p e s m args below meth c s₁ B hml hP s₁ hh0 (Stand.of_body B)
    exact ⟨t, o, a1, b1, b2, b3⟩
/-- a call by such a contract: where it came back, or what it threw -/
theorem xt_call {y : MethodName} {ws : List Cond} {rm : Room} {Pc : Array Value → State → Prop} {Qc : Array Value → State → Outcome → State → Prop} {mc ms : Nat} {free : Addr → Prop}
    (hM : xt_Met l y ws rm Pc Qc mc ms free) {U : State} (X : Stand p l e R s m args below meth c U locs cells slots)
    {g : JFrame} (hg : g.method = m) (hsize : g.locals.size = c.maxLocals) {ig : Instr} {len : Nat} (hdg : decode c.code g.pc = .ok (ig, len)) {W9 maxL : Nat} (hW : 2 * g.monitorRoom + (g.stack.map fun v => v.category).sum ≤ W9)
    {mk : MethodId} (hn : U.methodNamed? y = some mk) (a : Array Value) (hrc : rm.cells = mc) (hrs : rm.slots = ms) (hframes : rm.frames + 1 ≤ R.frames) (hlocals : W9 + (maxL + 11) + rm.locals ≤ R.locals)
    (hws : ∀ w ∈ ws, w.before a U = true) {methY : Method} {cY : Code} (hmY : U.vm.method? mk = some methY) (hcY : methY.code = some cY) (hlY : cY.maxLocals = maxL) (hini : (Cond.initialized y.cls).before a U = true)
    (hcells : cells + mc ≤ R.cells) (hslots : slots + ms ≤ R.slots) (hP : Pc a (U.calling g mk a)) :
    ∃ (o : Outcome) (t T' : State) (L : List Loc), Qc a (U.calling g mk a) o t ∧ (∀ q ∈ L, free q.base) ∧ T'.heap = t.heap ∧ T'.vm = t.vm ∧ U.WarmedH t.vm ∧
      Stand p l e R s m args below meth c T' (locs ++ L) (cells + mc) (slots + ms) ∧
      (∀ v, o = .returned v → Steps p.tables e below (doInvoke e (U.setTop g) [] mk a).1 (T'.setTop { g with pc := g.pc + len, stack := v.toList ++ g.stack })) ∧
      (∀ x, o = .threw x → Steps p.tables e below (doInvoke e (U.setTop g) [] mk a).1 ((T'.setTop g).pushFrame (.throwing x))) := by
  obtain ⟨kY, hkY, -⟩ := className_of_methodNamed hn
  have hinitY : kY.init = .initialized := Cond.initialized_spec (findClass_of_methodNamed hn) hkY hini
  have h : At U g.method c below := by rw [hg]; exact X.here
  have hlocals9 : W9 + (maxL + 11) + (headSpec ws rm).room.locals ≤ R.locals := hlocals
  have h4 : cells + (headSpec ws rm).room.cells ≤ R.cells := by rw [show (headSpec ws rm).room.cells = mc from hrc]; exact hcells
  have h5 : slots + (headSpec ws rm).room.slots ≤ R.slots := by rw [show (headSpec ws rm).room.slots = ms from hrs]; exact hslots
  have happ : (headSpec ws rm).appliesLoose y e.platform (U.calling g mk a) = true :=
    Spec.appliesLoose_calling (g := g) h hdg hn hkY hinitY
      (X.room_calling (g := g) (R' := (headSpec ws rm).room) hsize hmY hcY hframes (by rw [hlY]; omega) h4 h5) (atoms_intro hws)
  obtain ⟨mid, hmid⟩ := h.above
  have hfr : (U.setTop g).frames = (.java g :: mid) ++ below := by rw [State.frames_setTop' g h.top, hmid]; rfl
  obtain ⟨o, s₂, hsteps, -, hend, hq, L, ⟨hW₂, hsb⟩, hL⟩ := Steps.callFree hM p X.admits X.cas X.clock (acts := []) hfr happ hP trivial
  rw [State.frames_setTop' g h.top] at hend
  have hsb : (U.calling g mk a).sameButNew ({ s₂ with vm := (U.calling g mk a).vm } : State) L mc ms := hsb
  obtain ⟨e2, q2, q3, q4, q5, q6⟩ := id hsb
  have e3 : s₂ = ({ (U.calling g mk a).setFrames s₂.frames with heap := s₂.heap, slotsUsed := s₂.slotsUsed } : State).setVm s₂.vm := by
    have : s₂ = ({ s₂ with vm := (U.calling g mk a).vm } : State).setVm s₂.vm := rfl
    rw [e2] at this
    exact this
  have hW' : U.WarmedH s₂.vm := hW₂
  obtain ⟨g₀, hg0⟩ := Option.isSome_iff_exists.mp h.top
  obtain ⟨r, hr⟩ := State.topJava?_eq_some.mp hg0
  have hr' : (({ U with heap := s₂.heap, slotsUsed := s₂.slotsUsed } : State).setVm s₂.vm).frames = .java g₀ :: r := hr
  have hsame : U.sameButNew ({ U with heap := s₂.heap, slotsUsed := s₂.slotsUsed } : State) L mc ms := by
    refine ⟨?_, q2, q3, q4, q5, q6⟩
    obtain ⟨t, ht, -⟩ := State.frames_cons hr
    show ({ U with heap := s₂.heap, slotsUsed := s₂.slotsUsed } : State) = { U.setFrames U.frames with heap := s₂.heap, slotsUsed := s₂.slotsUsed }
    rw [State.setFrames_self ht]
  subst hg
  refine ⟨o, s₂, (({ U with heap := s₂.heap, slotsUsed := s₂.slotsUsed } : State).setVm s₂.vm), L, hq, hL, rfl, rfl, hW',
    ⟨X.admits, X.cas, X.clock, X.frames, X.room, X.hears, X.method, X.code, (X.here.setHeapUsed s₂.heap s₂.slotsUsed).setVm hW'.alike, X.tail, State.WarmedH.trans X.warmed hW', X.limits, X.bytes, X.same.trans (hsame.setVm s.vm)⟩, ?_, ?_⟩
  · intro v hv
    subst hv
    obtain ⟨c₂, i₂, len₂, hc₂, hd₂, hf₂⟩ := hend
    have hcc : c₂ = c := by
      have h1 : s₂.code? g.method = U.code? g.method := by
        rw [State.code?_eq, State.code?_eq, hW'.alike.method?]
      exact Option.some.inj (hc₂.symm.trans (h1.trans h.code))
    subst hcc
    have hlen : len₂ = len := by rw [hdg] at hd₂; cases hd₂; rfl
    subst hlen
    have hs₂ : s₂ = (({ U with heap := s₂.heap, slotsUsed := s₂.slotsUsed } : State).setVm s₂.vm).setTop { g with pc := g.pc + len₂, stack := v.toList ++ g.stack } := by
      refine e3.trans ?_
      rw [hf₂, State.calling_eq h.top, State.setFrames_setFrames, State.setTop_of_frames _ hr', hr]
      rfl
    rw [← hs₂]
    exact hsteps
  · intro x hx
    subst hx
    have hf₂ : s₂.frames = .throwing x :: .java g :: U.frames.tail := hend
    have hs₂ : s₂ = ((({ U with heap := s₂.heap, slotsUsed := s₂.slotsUsed } : State).setVm s₂.vm).setTop g).pushFrame (.throwing x) := by
      refine e3.trans ?_
      rw [hf₂, State.calling_eq h.top, State.setFrames_setFrames, State.pushFrame, State.frames_setTop _ hr', State.setTop_of_frames _ hr', State.setFrames_setFrames, hr]
      rfl
    rw [← hs₂]
    exact hsteps
end XT
end
section
/-! Z: the cells that the law has made go by numbers (0, 1, ..: in the order of their making); zCl and zTy are of the names part -/
/-- heap's size at the law's start; addresses of the elder things (names from 1000000 on); class numbers and slots; array classes; the heap at the law's start -/
abbrev zG : Type := Nat × (Nat → Nat) × va_G × (Nat → ClassId) × Heap
abbrev zS : Type := Nat → va_E
def zz (G : zG) : Nat := G.1
def zo (G : zG) : Nat → Nat := G.2.1
def zD (G : zG) : va_G := G.2.2.1
def zcA (G : zG) : Nat → ClassId := G.2.2.2.1
def zH0 (G : zG) : Heap := G.2.2.2.2
def zad (G : zG) (i : Nat) : Nat := if i < 1000000 then zz G + i else zo G i
def zV (G : zG) (v : Value) : Value := match v with
  | .ref a => .ref (zad G a)
  | .int x => .int x
  | .long x => .long x
  | .null => .null
  | w => w
def zA (G : zG) (a : vp_A) : vp_A := match a with
  | (n, .inr (.inr (.inr (.inr f)))) => (n, .inr (.inr (.inr (.inr (fun i => (f i).map (zad G))))))
  | (n, .inl f) => (n, .inl f)
  | (n, .inr (.inl f)) => (n, .inr (.inl f))
  | b => b
def zE (G : zG) (x : va_E) : va_E := match x with
  | .inl (t, a) => .inl (zcA G t, zA G a)
  | .inr (ci, fs) => .inr (ci, fs.map (zV G))
def zT (G : zG) : List (ClassId × FieldType) := zTy.zipIdx.map fun q => (zcA G q.2, q.1)
def zHW (G : zG) (n : Nat) (σ : zS) (H : Heap) : Prop :=
  H.size = zz G + n ∧ n ≤ 1000000 ∧ (∀ q, q < zz G → H[q]? = (zH0 G)[q]?) ∧ ∀ i, i < n → va_at (zD G) zCl (zz G + i, zE G (σ i)) H
theorem zad_lt {G : zG} {i : Nat} (h : i < 1000000) : zad G i = zz G + i := if_pos h
theorem zV_cat (G : zG) (v : Value) : (zV G v).category = v.category := by cases v <;> rfl
theorem zV_rf (G : zG) (r : Option Nat) : zV G (va_rf r) = va_rf (r.map (zad G)) := by cases r <;> rfl
theorem zHW.set {G : zG} {n i : Nat} {σ : zS} {H H1 : Heap} {e : va_E} (h : zHW G n σ H) (hz : H1.size = H.size) (ho : ∀ q, q ≠ zz G + i → H1[q]? = H[q]?)
    (he : va_at (zD G) zCl (zz G + i, zE G e) H1) : zHW G n (va_up σ i e) H1 := by
  obtain ⟨h1, h2, h3, h4⟩ := h
  refine ⟨hz.trans h1, h2, fun q hq => (ho q (by omega)).trans (h3 q hq), fun j hj => ?_⟩
  by_cases hji : j = i
  · subst hji
    rw [va_up_self]
    exact he
  · rw [va_up_ne _ _ hji]
    exact (h4 j hj).kept (ho _ (fun z => hji (by have z : zz G + j = zz G + i := z; omega)))
theorem zHW.push {G : zG} {n : Nat} {σ : zS} {H H1 : Heap} {e : va_E} (h : zHW G n σ H) (hn : n < 1000000) (hz : H1.size = H.size + 1) (ho : ∀ q, q < H.size → H1[q]? = H[q]?)
    (he : va_at (zD G) zCl (zz G + n, zE G e) H1) : zHW G (n + 1) (va_up σ n e) H1 := by
  obtain ⟨h1, h2, h3, h4⟩ := h
  refine ⟨by omega, by omega, fun q hq => (ho q (by omega)).trans (h3 q hq), fun j hj => ?_⟩
  by_cases hji : j = n
  · subst hji
    rw [va_up_self]
    exact he
  · rw [va_up_ne _ _ hji]
    exact (h4 j (by omega)).kept (ho _ (by show zz G + j < H.size; omega))
theorem zHW.same {G : zG} {n : Nat} {σ τ : zS} {H : Heap} (h : zHW G n σ H) (hs : ∀ i, i < n → τ i = σ i) : zHW G n τ H :=
  ⟨h.1, h.2.1, h.2.2.1, fun i hi => by rw [hs i hi]; exact h.2.2.2 i hi⟩
/-- what the law's start fixes of the statics, and of the elder cells -/
def zStr : List (String × Nat × String) := [("SoleArrays$Store", 89, "no number there"), ("SoleArrays$Fault", 17, "the text is ill"), ("SoleArrays$Fault", 24, "the function is wrong"), ("SoleArrays", 87, "no such function, or one that takes more than numbers"), ("SoleArrays$Runner", 55, "too many expressions"), ("SoleArrays$Runner", 133, "divided by 0"), ("SoleArrays$Store", 39, "a size below 0"), ("SoleArrays$Store", 48, "too many numbers, rows or columns"), ("SoleArrays$Store", 55, "too many arrays"), ("SoleArrays$Runner", 151, "too many calls in one another")]
def zNcs : List (String × String) := [("java/lang/IllegalStateException", "java/lang/IllegalArgumentException"), ("java/lang/IndexOutOfBoundsException", "java/lang/IllegalArgumentException"), ("java/lang/IndexOutOfBoundsException", "java/lang/IllegalStateException"), ("java/lang/ArithmeticException", "java/lang/IllegalArgumentException"), ("java/lang/ArithmeticException", "java/lang/IllegalStateException"), ("java/lang/ArithmeticException", "java/lang/IndexOutOfBoundsException"), ("java/lang/UnsupportedOperationException", "java/lang/IllegalArgumentException"), ("java/lang/UnsupportedOperationException", "java/lang/IllegalStateException"), ("java/lang/UnsupportedOperationException", "java/lang/IndexOutOfBoundsException"), ("java/lang/UnsupportedOperationException", "java/lang/ArithmeticException")]
def zFm (j : Nat) : String := (["DIGITS", "VARIABLE", "OPERATION", "CHOICE", "BINDING", "NEW_ROW", "NEW_TABLE", "READING", "UPDATE", "HEIGHT", "WIDTH", "COPY", "GIVING_UP", "CALL"] : List String).getD j ""
def zSw (j : Nat) : Int32 := ([13, 1, 14, 2, 3, 4, 5, 6, 7, 8, 9, 10, 11, 12] : List Int32).getD j 0
/-- the forms are the elder cells 1000001 .., each with its ordinal; the switches' map is 1000015 -/
def zForm (G : zG) (U : State) : Prop := (∀ j, j < 14 → va_Z "SoleArrays$Form" (zFm j) "LSoleArrays$Form;" (.ref (zo G (1000001 + j))) (fun q => zz G ≤ q) U U.heap ∧ zo G (1000001 + j) < zz G ∧ ∃ (cell : Cell) (cf i : Nat) (kf : Class) (fd : Field), U.heap[zo G (1000001 + j)]? = some cell ∧ cell.vm ≠ .unknown ∧ cell.vm.isStatics = false ∧ U.vm.findClass "SoleArrays$Form" = some cell.cls ∧ U.fieldFound? "java/lang/Enum" "ordinal" "I" = some (cf, kf, i, fd) ∧ fd.isStatic = false ∧ cell.slots[fd.slot]? = some (.int (nI j))) ∧
  va_Z "SoleArrays$1" "$SwitchMap$SoleArrays$Form" "[I" (.ref (zo G 1000015)) (fun q => zz G ≤ q) U U.heap ∧ va_T .int (zo G 1000015) 14 (fun j => .int (zSw j)) (fun q => zz G ≤ q) U U.heap
theorem zForm.moved {G : zG} {u U : State} (hvm : u.vm.Alike U.vm) (hh : ∀ q, q < zz G → U.heap[q]? = u.heap[q]?) (h : zForm G u) : zForm G U := by
  obtain ⟨h1, h2, h3⟩ := h
  have hq : ∀ a : Nat, a < u.heap.size → ¬ zz G ≤ a → U.heap[a]? = u.heap[a]? := fun a _ ha => hh a (Nat.lt_of_not_le ha)
  refine ⟨fun j hj => ?_, va_Z.moved hvm (h2.kept hq), va_T.moved hvm (h3.kept hq)⟩
  obtain ⟨g1, g2, cell, cf, i, kf, fd, g3, g4, g5, g6, g7, g8, g9⟩ := h1 j hj
  obtain ⟨k', hi', -⟩ := State.fieldFound?_setVm hvm g7
  exact ⟨va_Z.moved hvm (g1.kept hq), g2, cell, cf, i, k', fd, (hh _ g2).trans g3, g4, g5, by rw [hvm.findClass]; exact g6, hi', g8, g9⟩
def zStat (G : zG) (U : State) : Prop := (∀ q, q < zz G → U.heap[q]? = (zH0 G)[q]?) ∧ vx_Zq Bundle.tN "UNASSIGNED_STACK" Bundle.steD (fun q => zz G ≤ q) U U.heap ∧ vx_Zq Bundle.tN "SUPPRESSED_SENTINEL" Bundle.listD (fun q => zz G ≤ q) U U.heap ∧ (∀ q ∈ zStr, ∃ a, vk_R q.1 q.2.1 q.2.2 a U) ∧ (∀ q ∈ zNcs, va_Nc q.1 q.2 U) ∧ zForm G U
theorem zStat.moved {G : zG} {u U : State} (hW : u.WarmedH U.vm) (hh : ∀ q, q < zz G → U.heap[q]? = (zH0 G)[q]?) (h : zStat G u) : zStat G U := by
  obtain ⟨h0, h1, h2, h3, h4, h5⟩ := h
  have hq : ∀ a : Nat, a < u.heap.size → ¬ zz G ≤ a → U.heap[a]? = u.heap[a]? := fun a _ ha => (hh a (Nat.lt_of_not_le ha)).trans (h0 a (Nat.lt_of_not_le ha)).symm
  exact ⟨hh, vx_Zq.moved hW.alike (h1.kept hq), vx_Zq.moved hW.alike (h2.kept hq), fun q hm => (h3 q hm).elim fun a ha => ⟨a, vk_R.warm hW ha⟩, fun q hm => va_Nc.moved hW.alike (h4 q hm), h5.moved hW.alike (fun q hq => (hh q hq).trans (h0 q hq).symm)⟩
/-! contracts -/
def zO (G : zG) (o : Outcome) : Outcome := match o with
  | .returned v => .returned (v.map (zV G))
  | .threw a => .threw (zad G a)
abbrev zPost : Type := Outcome → Nat → zS → Prop
def zPc (G : zG) (av : List Value) (n : Nat) (σ : zS) : Array Value → State → Prop := fun v U => v = (av.map (zV G)).toArray ∧ zHW G n σ U.heap ∧ va_K (zD G) zCl (zT G) U ∧ zStat G U
def zQc (G : zG) (post : zPost) : Array Value → State → Outcome → State → Prop := fun _ _ o t => ∃ (o' : Outcome) (n' : Nat) (σ' : zS), o = zO G o' ∧ post o' n' σ' ∧ zHW G n' σ' t.heap
/-- what is fixed in a walk: program, launch, environment, room, start, method, arguments, frames below, its tables, its code; what is promised, and the room that it may take -/
abbrev zK : Type := Program × Launch × Env × Room × State × MethodId × Array Value × List Frame × Method × Code × zPost × Nat × Nat
def kp (K : zK) : Program := K.1
def kl (K : zK) : Launch := K.2.1
def ke (K : zK) : Env := K.2.2.1
def kR (K : zK) : Room := K.2.2.2.1
def ks (K : zK) : State := K.2.2.2.2.1
def km (K : zK) : MethodId := K.2.2.2.2.2.1
def ka (K : zK) : Array Value := K.2.2.2.2.2.2.1
def kb (K : zK) : List Frame := K.2.2.2.2.2.2.2.1
def kme (K : zK) : Method := K.2.2.2.2.2.2.2.2.1
def kc (K : zK) : Code := K.2.2.2.2.2.2.2.2.2.1
def kpo (K : zK) : zPost := K.2.2.2.2.2.2.2.2.2.2.1
def kmc (K : zK) : Nat := K.2.2.2.2.2.2.2.2.2.2.2.1
def kms (K : zK) : Nat := K.2.2.2.2.2.2.2.2.2.2.2.2
def zQ (G : zG) (K : zK) : State → Prop := xt_Q (kb K) (zQc G (kpo K)) (ka K) (ks K) (kmc K) (kms K) (fun q => zz G ≤ q)
def zW (G : zG) (K : zK) (H : Heap) (locs : List Loc) (k1 k2 : Nat) (g : JFrame) : Prop := W (kp K) (kl K) (ke K) (kR K) (ks K) (km K) (ka K) (kb K) (kme K) (kc K) H locs k1 k2 (zQ G K) g
def Z (G : zG) (K : zK) (n : Nat) (σ : zS) (k1 k2 pc : Nat) (lv : List (Nat × Value)) (st : List Value) : Prop :=
  ∀ (H : Heap) (locs : List Loc) (ls : Array Slot), zHW G n σ H → (∀ q ∈ locs, zz G ≤ q.base) → lv_has ls (kc K).maxLocals (lv.map fun q => (q.1, zV G q.2)) →
    W (kp K) (kl K) (ke K) (kR K) (ks K) (km K) (ka K) (kb K) (kme K) (kc K) H locs k1 k2 (zQ G K) (F0 (km K) pc ls (st.map (zV G)))
/-- what is known in a walk: machine, code, locals, return type, the class, the tables' words, classes; no lock; handlers; the method's name; no stack traces; the statics -/
def zC (G : zG) (K : zK) (y : MethodName) (cc : ByteArray) (nL : Nat) (ret : Option FieldType) (hs : List (Nat × Nat × Nat × Nat)) : Prop :=
  (kp K).tables.exec = Jvm.exec ∧ (kc K).code = cc ∧ (kc K).maxLocals = nL ∧ (kme K).sig.returnType = ret ∧ (ks K).vm.findClass y.cls = some (km K).cls ∧ (∀ w ∈ zTb, w.before (ka K) (ks K) = true) ∧
  va_K (zD G) zCl (zT G) (ks K) ∧ (kme K).locks = false ∧ (kc K).exceptionTable.toList.map (fun h => (h.startPc, h.endPc, h.handlerPc, h.catchType)) = hs ∧ (kme K).name = y.name ∧ (kl K).stackTraces = false ∧ zStat G (ks K)
section ZCA
variable {G : zG} {K : zK} {y : MethodName} {cc : ByteArray} {nL : Nat} {ret : Option FieldType} {hs : List (Nat × Nat × Nat × Nat)}
theorem zC.own (C : zC G K y cc nL ret hs) : (ks K).vm.findClass y.cls = some (km K).cls := C.2.2.2.2.1
theorem zC.ts (C : zC G K y cc nL ret hs) : ∀ w ∈ zTb, w.before (ka K) (ks K) = true := C.2.2.2.2.2.1
theorem zC.kk (C : zC G K y cc nL ret hs) : va_K (zD G) zCl (zT G) (ks K) := C.2.2.2.2.2.2.1
theorem zC.lk (C : zC G K y cc nL ret hs) : (kme K).locks = false := C.2.2.2.2.2.2.2.1
theorem zC.tab (C : zC G K y cc nL ret hs) : (kc K).exceptionTable.toList.map (fun h => (h.startPc, h.endPc, h.handlerPc, h.catchType)) = hs := C.2.2.2.2.2.2.2.2.1
theorem zC.nm (C : zC G K y cc nL ret hs) : (kme K).name = y.name := C.2.2.2.2.2.2.2.2.2.1
theorem zC.tr (C : zC G K y cc nL ret hs) : (kl K).stackTraces = false := C.2.2.2.2.2.2.2.2.2.2.1
theorem zC.stat (C : zC G K y cc nL ret hs) : zStat G (ks K) := C.2.2.2.2.2.2.2.2.2.2.2
end ZCA
def zl (lv : List (Nat × Value)) (i : Nat) : Option Value := (lv.find? (fun q => q.1 == i)).map (·.2)
def zs1 (lv : List (Nat × Value)) (i : Nat) (v : Value) : List (Nat × Value) := (i, v) :: lv.filter (fun q => !(q.1 == i) && !(q.1 + 1 == i && q.2.category == 2))
def zs2 (lv : List (Nat × Value)) (i : Nat) (v : Value) : List (Nat × Value) := (i, v) :: lv.filter (fun q => !(q.1 == i) && (!(q.1 == i + 1) && !(q.1 + 1 == i && q.2.category == 2)))
theorem zl_at {G : zG} {ls : Array Slot} {nL : Nat} {lv : List (Nat × Value)} {i : Nat} {v : Value} (h : lv_has ls nL (lv.map fun q => (q.1, zV G q.2))) (hl : zl lv i = some v) : ls[i]? = some (.val (zV G v)) := by
  unfold zl at hl
  cases hf : lv.find? (fun q => q.1 == i) with
  | none => rw [hf] at hl; cases hl
  | some q =>
    rw [hf] at hl
    have h1 : q.2 = v := Option.some.inj hl
    have h2 : (q.1 == i) = true := List.find?_some (p := fun q : Nat × Value => q.1 == i) hf
    have h3 := List.mem_of_find?_eq_some hf
    have h4 := h.2.2 _ (List.mem_map_of_mem (f := fun q : Nat × Value => (q.1, zV G q.2)) h3)
    rw [show q.1 = i from beq_iff_eq.mp h2, h1] at h4
    exact h4
theorem zs1_map (G : zG) (lv : List (Nat × Value)) (i : Nat) (v : Value) :
    (i, zV G v) :: (lv.map fun q => (q.1, zV G q.2)).filter (fun q => !(q.1 == i) && !(q.1 + 1 == i && q.2.category == 2)) = (zs1 lv i v).map fun q => (q.1, zV G q.2) := by
  unfold zs1
  rw [List.map_cons, List.filter_map]
  congr 2
  congr 1
  funext q
  simp only [Function.comp, zV_cat]
theorem zs2_map (G : zG) (lv : List (Nat × Value)) (i : Nat) (v : Value) :
    (i, zV G v) :: (lv.map fun q => (q.1, zV G q.2)).filter (fun q => !(q.1 == i) && (!(q.1 == i + 1) && !(q.1 + 1 == i && q.2.category == 2))) = (zs2 lv i v).map fun q => (q.1, zV G q.2) := by
  unfold zs2
  rw [List.map_cons, List.filter_map]
  congr 2
  congr 1
  funext q
  simp only [Function.comp, zV_cat]
end
section
section ZR
variable {G : zG} {K : zK} {y : MethodName} {cc : ByteArray} {nL : Nat} {ret : Option FieldType} {hs : List (Nat × Nat × Nat × Nat)} {n k1 k2 pc : Nat} {σ : zS} {lv : List (Nat × Value)} {st : List Value}
theorem z_iinc0 {H : Heap} {locs : List Loc} {ls : Array Slot} (C : zC G K y cc nL ret hs) {j : Nat} {a : Int} {x v : Int32} {sv : List Value} (hd : decode cc pc = .ok (.iinc j a, 3)) (h3 : lv_has ls (kc K).maxLocals (lv.map fun q => (q.1, zV G q.2))) (hl : zl lv j = some (.int x)) (hv : x + Int32.ofInt a = v) (hn : j < nL)
    (kk : ∀ ls' : Array Slot, lv_has ls' (kc K).maxLocals ((zs1 lv j (.int v)).map fun q => (q.1, zV G q.2)) → W (kp K) (kl K) (ke K) (kR K) (ks K) (km K) (ka K) (kb K) (kme K) (kc K) H locs k1 k2 (zQ G K) (F0 (km K) (pc + 3) ls' sv)) :
    W (kp K) (kl K) (ke K) (kR K) (ks K) (km K) (ka K) (kb K) (kme K) (kc K) H locs k1 k2 (zQ G K) (F0 (km K) pc ls sv) := by
  have h4 : lv_has ls (kc K).maxLocals ((j, .int x) :: lv.map fun q => (q.1, zV G q.2)) := ⟨h3.1, h3.2.1, fun q hq => by
    rcases List.mem_cons.mp hq with rfl | hq
    · exact zl_at h3 hl
    · exact h3.2.2 q hq⟩
  refine lv_iinc C.1 C.2.1 hd h4 (k := 0) rfl hv (by rw [C.2.2.1]; exact hn) rfl (fun ls' h => kk ls' ?_)
  rw [← zs1_map]
  have e : ((j, Value.int x) :: lv.map fun q => (q.1, zV G q.2)).filter (fun q => !(q.1 == j) && !(q.1 + 1 == j && q.2.category == 2)) = (lv.map fun q => (q.1, zV G q.2)).filter (fun q => !(q.1 == j) && !(q.1 + 1 == j && q.2.category == 2)) := by
    rw [List.filter_cons_of_neg]
    simp
  rw [e] at h
  exact h
theorem z_iconst (C : zC G K y cc nL ret hs) (pc' : Nat) {a : Int} (hd : decode cc pc = .ok (.iconst a, 1)) (hp : pc + 1 = pc') (v : Int32) (hv : Int32.ofInt a = v) (k : Z G K n σ k1 k2 pc' lv (.int v :: st)) : Z G K n σ k1 k2 pc lv (st) := by
  subst hp
  exact fun H locs ls h1 h2 h3 => lv_iconst C.1 C.2.1 hd hv (k H locs ls h1 h2 h3)
theorem z_bipush (C : zC G K y cc nL ret hs) (pc' : Nat) {a : Int} (hd : decode cc pc = .ok (.bipush a, 2)) (hp : pc + 2 = pc') (v : Int32) (hv : (Int8.ofInt a).toInt32 = v) (k : Z G K n σ k1 k2 pc' lv (.int v :: st)) : Z G K n σ k1 k2 pc lv (st) := by
  subst hp
  exact fun H locs ls h1 h2 h3 => lv_bipush C.1 C.2.1 hd hv (k H locs ls h1 h2 h3)
theorem z_sipush (C : zC G K y cc nL ret hs) (pc' : Nat) {a : Int} (hd : decode cc pc = .ok (.sipush a, 3)) (hp : pc + 3 = pc') (v : Int32) (hv : (Int16.ofInt a).toInt32 = v) (k : Z G K n σ k1 k2 pc' lv (.int v :: st)) : Z G K n σ k1 k2 pc lv (st) := by
  subst hp
  exact fun H locs ls h1 h2 h3 => lv_sipush C.1 C.2.1 hd hv (k H locs ls h1 h2 h3)
theorem z_lconst (C : zC G K y cc nL ret hs) (pc' : Nat) {a : Fin 2} (hd : decode cc pc = .ok (.lconst a, 1)) (hp : pc + 1 = pc') (v : Int64) (hv : Int64.ofNat (a : Nat) = v) (k : Z G K n σ k1 k2 pc' lv (.long v :: st)) : Z G K n σ k1 k2 pc lv (st) := by
  subst hp
  exact fun H locs ls h1 h2 h3 => lv_lconst C.1 C.2.1 hd hv (k H locs ls h1 h2 h3)
theorem z_null (C : zC G K y cc nL ret hs) (pc' : Nat)  (hd : decode cc pc = .ok (.aconst_null, 1)) (hp : pc + 1 = pc')  (k : Z G K n σ k1 k2 pc' lv (.null :: st)) : Z G K n σ k1 k2 pc lv (st) := by
  subst hp
  exact fun H locs ls h1 h2 h3 => lv_null C.1 C.2.1 hd (k H locs ls h1 h2 h3)
theorem z_iload_n (C : zC G K y cc nL ret hs) (pc' : Nat) {j : Fin 4} {x : Int32} (hd : decode cc pc = .ok (.iload_n j, 1)) (hp : pc + 1 = pc') (hl : zl lv (j : Nat) = some (.int x)) (k : Z G K n σ k1 k2 pc' lv (.int x :: st)) : Z G K n σ k1 k2 pc lv (st) := by
  subst hp
  exact fun H locs ls h1 h2 h3 => lv_iload_n C.1 C.2.1 hd rfl (zl_at h3 hl) (k H locs ls h1 h2 h3)
theorem z_iload (C : zC G K y cc nL ret hs) (pc' : Nat) {j : Nat} {x : Int32} (hd : decode cc pc = .ok (.iload j, 2)) (hp : pc + 2 = pc') (hl : zl lv j = some (.int x)) (k : Z G K n σ k1 k2 pc' lv (.int x :: st)) : Z G K n σ k1 k2 pc lv (st) := by
  subst hp
  exact fun H locs ls h1 h2 h3 => lv_iload C.1 C.2.1 hd (zl_at h3 hl) (k H locs ls h1 h2 h3)
theorem z_istore_n (C : zC G K y cc nL ret hs) (pc' : Nat) {j : Fin 4} {x : Int32} (hd : decode cc pc = .ok (.istore_n j, 1)) (hp : pc + 1 = pc') (hn : (j : Nat) < nL) (k : Z G K n σ k1 k2 pc' (zs1 lv (j : Nat) (.int x)) (st)) : Z G K n σ k1 k2 pc lv (.int x :: st) := by
  subst hp
  exact fun H locs ls h1 h2 h3 => lv_istore_n C.1 C.2.1 hd rfl h3 (by rw [C.2.2.1]; exact hn) (zs1_map G lv _ (.int x)) (fun ls' h => k H locs ls' h1 h2 h)
theorem z_istore (C : zC G K y cc nL ret hs) (pc' : Nat) {j : Nat} {x : Int32} (hd : decode cc pc = .ok (.istore j, 2)) (hp : pc + 2 = pc') (hn : j < nL) (k : Z G K n σ k1 k2 pc' (zs1 lv j (.int x)) (st)) : Z G K n σ k1 k2 pc lv (.int x :: st) := by
  subst hp
  exact fun H locs ls h1 h2 h3 => lv_istore C.1 C.2.1 hd h3 (by rw [C.2.2.1]; exact hn) (zs1_map G lv _ (.int x)) (fun ls' h => k H locs ls' h1 h2 h)
theorem z_lload_n (C : zC G K y cc nL ret hs) (pc' : Nat) {j : Fin 4} {x : Int64} (hd : decode cc pc = .ok (.lload_n j, 1)) (hp : pc + 1 = pc') (hl : zl lv (j : Nat) = some (.long x)) (k : Z G K n σ k1 k2 pc' lv (.long x :: st)) : Z G K n σ k1 k2 pc lv (st) := by
  subst hp
  exact fun H locs ls h1 h2 h3 => lv_lload_n C.1 C.2.1 hd rfl (zl_at h3 hl) (k H locs ls h1 h2 h3)
theorem z_lload (C : zC G K y cc nL ret hs) (pc' : Nat) {j : Nat} {x : Int64} (hd : decode cc pc = .ok (.lload j, 2)) (hp : pc + 2 = pc') (hl : zl lv j = some (.long x)) (k : Z G K n σ k1 k2 pc' lv (.long x :: st)) : Z G K n σ k1 k2 pc lv (st) := by
  subst hp
  exact fun H locs ls h1 h2 h3 => lv_lload C.1 C.2.1 hd (zl_at h3 hl) (k H locs ls h1 h2 h3)
theorem z_lstore_n (C : zC G K y cc nL ret hs) (pc' : Nat) {j : Fin 4} {x : Int64} (hd : decode cc pc = .ok (.lstore_n j, 1)) (hp : pc + 1 = pc') (hn : (j : Nat) + 1 < nL) (k : Z G K n σ k1 k2 pc' (zs2 lv (j : Nat) (.long x)) (st)) : Z G K n σ k1 k2 pc lv (.long x :: st) := by
  subst hp
  exact fun H locs ls h1 h2 h3 => lv_lstore_n C.1 C.2.1 hd rfl h3 (by rw [C.2.2.1]; exact hn) (zs2_map G lv _ (.long x)) (fun ls' h => k H locs ls' h1 h2 h)
theorem z_lstore (C : zC G K y cc nL ret hs) (pc' : Nat) {j : Nat} {x : Int64} (hd : decode cc pc = .ok (.lstore j, 2)) (hp : pc + 2 = pc') (hn : j + 1 < nL) (k : Z G K n σ k1 k2 pc' (zs2 lv j (.long x)) (st)) : Z G K n σ k1 k2 pc lv (.long x :: st) := by
  subst hp
  exact fun H locs ls h1 h2 h3 => lv_lstore C.1 C.2.1 hd h3 (by rw [C.2.2.1]; exact hn) (zs2_map G lv _ (.long x)) (fun ls' h => k H locs ls' h1 h2 h)
theorem z_aload_n (C : zC G K y cc nL ret hs) (pc' : Nat) {j : Fin 4} {x : Nat} (hd : decode cc pc = .ok (.aload_n j, 1)) (hp : pc + 1 = pc') (hl : zl lv (j : Nat) = some (.ref x)) (k : Z G K n σ k1 k2 pc' lv (.ref x :: st)) : Z G K n σ k1 k2 pc lv (st) := by
  subst hp
  exact fun H locs ls h1 h2 h3 => lv_aload_n C.1 C.2.1 hd rfl (zl_at h3 hl) (k H locs ls h1 h2 h3)
theorem z_aload (C : zC G K y cc nL ret hs) (pc' : Nat) {j : Nat} {x : Nat} (hd : decode cc pc = .ok (.aload j, 2)) (hp : pc + 2 = pc') (hl : zl lv j = some (.ref x)) (k : Z G K n σ k1 k2 pc' lv (.ref x :: st)) : Z G K n σ k1 k2 pc lv (st) := by
  subst hp
  exact fun H locs ls h1 h2 h3 => lv_aload C.1 C.2.1 hd (zl_at h3 hl) (k H locs ls h1 h2 h3)
theorem z_astore_n (C : zC G K y cc nL ret hs) (pc' : Nat) {j : Fin 4} {x : Nat} (hd : decode cc pc = .ok (.astore_n j, 1)) (hp : pc + 1 = pc') (hn : (j : Nat) < nL) (k : Z G K n σ k1 k2 pc' (zs1 lv (j : Nat) (.ref x)) (st)) : Z G K n σ k1 k2 pc lv (.ref x :: st) := by
  subst hp
  exact fun H locs ls h1 h2 h3 => lv_astore_n C.1 C.2.1 hd rfl h3 (by rw [C.2.2.1]; exact hn) (zs1_map G lv _ (.ref x)) (fun ls' h => k H locs ls' h1 h2 h)
theorem z_astore (C : zC G K y cc nL ret hs) (pc' : Nat) {j : Nat} {x : Nat} (hd : decode cc pc = .ok (.astore j, 2)) (hp : pc + 2 = pc') (hn : j < nL) (k : Z G K n σ k1 k2 pc' (zs1 lv j (.ref x)) (st)) : Z G K n σ k1 k2 pc lv (.ref x :: st) := by
  subst hp
  exact fun H locs ls h1 h2 h3 => lv_astore C.1 C.2.1 hd h3 (by rw [C.2.2.1]; exact hn) (zs1_map G lv _ (.ref x)) (fun ls' h => k H locs ls' h1 h2 h)
theorem z_aload_nN (C : zC G K y cc nL ret hs) (pc' : Nat) {j : Fin 4} (hd : decode cc pc = .ok (.aload_n j, 1)) (hp : pc + 1 = pc') (hl : zl lv (j : Nat) = some .null) (k : Z G K n σ k1 k2 pc' lv (.null :: st)) : Z G K n σ k1 k2 pc lv (st) := by
  subst hp
  exact fun H locs ls h1 h2 h3 => lv_aload_nN C.1 C.2.1 hd rfl (zl_at h3 hl) (k H locs ls h1 h2 h3)
theorem z_astore_nN (C : zC G K y cc nL ret hs) (pc' : Nat) {j : Fin 4} (hd : decode cc pc = .ok (.astore_n j, 1)) (hp : pc + 1 = pc') (hn : (j : Nat) < nL) (k : Z G K n σ k1 k2 pc' (zs1 lv (j : Nat) .null) (st)) : Z G K n σ k1 k2 pc lv (.null :: st) := by
  subst hp
  exact fun H locs ls h1 h2 h3 => lv_astore_nN C.1 C.2.1 hd rfl h3 (by rw [C.2.2.1]; exact hn) (zs1_map G lv _ .null) (fun ls' h => k H locs ls' h1 h2 h)
theorem z_iadd (C : zC G K y cc nL ret hs) (pc' : Nat) {x w : Int32} (hd : decode cc pc = .ok (.iadd, 1)) (hp : pc + 1 = pc')  (k : Z G K n σ k1 k2 pc' lv (.int (x + w) :: st)) : Z G K n σ k1 k2 pc lv (.int w :: .int x :: st) := by
  subst hp
  exact fun H locs ls h1 h2 h3 => lv_iadd C.1 C.2.1 hd (k H locs ls h1 h2 h3)
theorem z_isub (C : zC G K y cc nL ret hs) (pc' : Nat) {x w : Int32} (hd : decode cc pc = .ok (.isub, 1)) (hp : pc + 1 = pc')  (k : Z G K n σ k1 k2 pc' lv (.int (x - w) :: st)) : Z G K n σ k1 k2 pc lv (.int w :: .int x :: st) := by
  subst hp
  exact fun H locs ls h1 h2 h3 => lv_isub C.1 C.2.1 hd (k H locs ls h1 h2 h3)
theorem z_imul (C : zC G K y cc nL ret hs) (pc' : Nat) {x w : Int32} (hd : decode cc pc = .ok (.imul, 1)) (hp : pc + 1 = pc')  (k : Z G K n σ k1 k2 pc' lv (.int (x * w) :: st)) : Z G K n σ k1 k2 pc lv (.int w :: .int x :: st) := by
  subst hp
  exact fun H locs ls h1 h2 h3 => lv_imul C.1 C.2.1 hd (k H locs ls h1 h2 h3)
theorem z_iand (C : zC G K y cc nL ret hs) (pc' : Nat) {x w : Int32} (hd : decode cc pc = .ok (.iand, 1)) (hp : pc + 1 = pc')  (k : Z G K n σ k1 k2 pc' lv (.int (x &&& w) :: st)) : Z G K n σ k1 k2 pc lv (.int w :: .int x :: st) := by
  subst hp
  exact fun H locs ls h1 h2 h3 => lv_iand C.1 C.2.1 hd (k H locs ls h1 h2 h3)
theorem z_ior (C : zC G K y cc nL ret hs) (pc' : Nat) {x w : Int32} (hd : decode cc pc = .ok (.ior, 1)) (hp : pc + 1 = pc')  (k : Z G K n σ k1 k2 pc' lv (.int (x ||| w) :: st)) : Z G K n σ k1 k2 pc lv (.int w :: .int x :: st) := by
  subst hp
  exact fun H locs ls h1 h2 h3 => lv_ior C.1 C.2.1 hd (k H locs ls h1 h2 h3)
theorem z_ixor (C : zC G K y cc nL ret hs) (pc' : Nat) {x w : Int32} (hd : decode cc pc = .ok (.ixor, 1)) (hp : pc + 1 = pc')  (k : Z G K n σ k1 k2 pc' lv (.int (x ^^^ w) :: st)) : Z G K n σ k1 k2 pc lv (.int w :: .int x :: st) := by
  subst hp
  exact fun H locs ls h1 h2 h3 => lv_ixor C.1 C.2.1 hd (k H locs ls h1 h2 h3)
theorem z_ishl (C : zC G K y cc nL ret hs) (pc' : Nat) {x w : Int32} (hd : decode cc pc = .ok (.ishl, 1)) (hp : pc + 1 = pc')  (k : Z G K n σ k1 k2 pc' lv (.int (x <<< (w &&& 31)) :: st)) : Z G K n σ k1 k2 pc lv (.int w :: .int x :: st) := by
  subst hp
  exact fun H locs ls h1 h2 h3 => lv_ishl C.1 C.2.1 hd (k H locs ls h1 h2 h3)
theorem z_ishr (C : zC G K y cc nL ret hs) (pc' : Nat) {x w : Int32} (hd : decode cc pc = .ok (.ishr, 1)) (hp : pc + 1 = pc')  (k : Z G K n σ k1 k2 pc' lv (.int (x >>> (w &&& 31)) :: st)) : Z G K n σ k1 k2 pc lv (.int w :: .int x :: st) := by
  subst hp
  exact fun H locs ls h1 h2 h3 => lv_ishr C.1 C.2.1 hd (k H locs ls h1 h2 h3)
theorem z_ladd (C : zC G K y cc nL ret hs) (pc' : Nat) {x w : Int64} (hd : decode cc pc = .ok (.ladd, 1)) (hp : pc + 1 = pc')  (k : Z G K n σ k1 k2 pc' lv (.long (x + w) :: st)) : Z G K n σ k1 k2 pc lv (.long w :: .long x :: st) := by
  subst hp
  exact fun H locs ls h1 h2 h3 => lv_ladd C.1 C.2.1 hd (k H locs ls h1 h2 h3)
theorem z_lsub (C : zC G K y cc nL ret hs) (pc' : Nat) {x w : Int64} (hd : decode cc pc = .ok (.lsub, 1)) (hp : pc + 1 = pc')  (k : Z G K n σ k1 k2 pc' lv (.long (x - w) :: st)) : Z G K n σ k1 k2 pc lv (.long w :: .long x :: st) := by
  subst hp
  exact fun H locs ls h1 h2 h3 => lv_lsub C.1 C.2.1 hd (k H locs ls h1 h2 h3)
theorem z_lmul (C : zC G K y cc nL ret hs) (pc' : Nat) {x w : Int64} (hd : decode cc pc = .ok (.lmul, 1)) (hp : pc + 1 = pc')  (k : Z G K n σ k1 k2 pc' lv (.long (x * w) :: st)) : Z G K n σ k1 k2 pc lv (.long w :: .long x :: st) := by
  subst hp
  exact fun H locs ls h1 h2 h3 => lv_lmul C.1 C.2.1 hd (k H locs ls h1 h2 h3)
theorem z_land (C : zC G K y cc nL ret hs) (pc' : Nat) {x w : Int64} (hd : decode cc pc = .ok (.land, 1)) (hp : pc + 1 = pc')  (k : Z G K n σ k1 k2 pc' lv (.long (x &&& w) :: st)) : Z G K n σ k1 k2 pc lv (.long w :: .long x :: st) := by
  subst hp
  exact fun H locs ls h1 h2 h3 => lv_land C.1 C.2.1 hd (k H locs ls h1 h2 h3)
theorem z_lor (C : zC G K y cc nL ret hs) (pc' : Nat) {x w : Int64} (hd : decode cc pc = .ok (.lor, 1)) (hp : pc + 1 = pc')  (k : Z G K n σ k1 k2 pc' lv (.long (x ||| w) :: st)) : Z G K n σ k1 k2 pc lv (.long w :: .long x :: st) := by
  subst hp
  exact fun H locs ls h1 h2 h3 => lv_lor C.1 C.2.1 hd (k H locs ls h1 h2 h3)
theorem z_lxor (C : zC G K y cc nL ret hs) (pc' : Nat) {x w : Int64} (hd : decode cc pc = .ok (.lxor, 1)) (hp : pc + 1 = pc')  (k : Z G K n σ k1 k2 pc' lv (.long (x ^^^ w) :: st)) : Z G K n σ k1 k2 pc lv (.long w :: .long x :: st) := by
  subst hp
  exact fun H locs ls h1 h2 h3 => lv_lxor C.1 C.2.1 hd (k H locs ls h1 h2 h3)
theorem z_ldiv (C : zC G K y cc nL ret hs) (pc' : Nat) {x w : Int64} (hd : decode cc pc = .ok (.ldiv, 1)) (hp : pc + 1 = pc') (hne : ¬ w = 0) (k : Z G K n σ k1 k2 pc' lv (.long (x / w) :: st)) : Z G K n σ k1 k2 pc lv (.long w :: .long x :: st) := by
  subst hp
  exact fun H locs ls h1 h2 h3 => lv_ldiv C.1 C.2.1 hd hne (k H locs ls h1 h2 h3)
theorem z_lshl (C : zC G K y cc nL ret hs) (pc' : Nat) {x : Int64} {w : Int32} (hd : decode cc pc = .ok (.lshl, 1)) (hp : pc + 1 = pc')  (k : Z G K n σ k1 k2 pc' lv (.long (x <<< (w.toInt64 &&& 63)) :: st)) : Z G K n σ k1 k2 pc lv (.int w :: .long x :: st) := by
  subst hp
  exact fun H locs ls h1 h2 h3 => lv_lshl C.1 C.2.1 hd rfl (k H locs ls h1 h2 h3)
theorem z_i2l (C : zC G K y cc nL ret hs) (pc' : Nat) {x : Int32} (hd : decode cc pc = .ok (.i2l, 1)) (hp : pc + 1 = pc')  (k : Z G K n σ k1 k2 pc' lv (.long x.toInt64 :: st)) : Z G K n σ k1 k2 pc lv (.int x :: st) := by
  subst hp
  exact fun H locs ls h1 h2 h3 => lv_i2l C.1 C.2.1 hd rfl (k H locs ls h1 h2 h3)
theorem z_l2i (C : zC G K y cc nL ret hs) (pc' : Nat) {x : Int64} (hd : decode cc pc = .ok (.l2i, 1)) (hp : pc + 1 = pc')  (k : Z G K n σ k1 k2 pc' lv (.int x.toInt32 :: st)) : Z G K n σ k1 k2 pc lv (.long x :: st) := by
  subst hp
  exact fun H locs ls h1 h2 h3 => lv_l2i C.1 C.2.1 hd rfl (k H locs ls h1 h2 h3)
theorem z_i2c (C : zC G K y cc nL ret hs) (pc' : Nat) {x : Int32} (hd : decode cc pc = .ok (.i2c, 1)) (hp : pc + 1 = pc')  (k : Z G K n σ k1 k2 pc' lv (.int (x.toUInt32 % 65536).toInt32 :: st)) : Z G K n σ k1 k2 pc lv (.int x :: st) := by
  subst hp
  exact fun H locs ls h1 h2 h3 => lv_i2c C.1 C.2.1 hd rfl (k H locs ls h1 h2 h3)
theorem z_lcmp (C : zC G K y cc nL ret hs) (pc' : Nat) {x w : Int64} (hd : decode cc pc = .ok (.lcmp, 1)) (hp : pc + 1 = pc')  (k : Z G K n σ k1 k2 pc' lv (.int (lg_cmp x w) :: st)) : Z G K n σ k1 k2 pc lv (.long w :: .long x :: st) := by
  subst hp
  exact fun H locs ls h1 h2 h3 => W.lcmp C.1 C.2.1 hd (k H locs ls h1 h2 h3)
theorem z_dup (C : zC G K y cc nL ret hs) (pc' : Nat) {a : Value} (hd : decode cc pc = .ok (.dup, 1)) (hp : pc + 1 = pc') (ha : a.category = 1) (k : Z G K n σ k1 k2 pc' lv (a :: a :: st)) : Z G K n σ k1 k2 pc lv (a :: st) := by
  subst hp
  exact fun H locs ls h1 h2 h3 => lv_dup C.1 C.2.1 hd (by rw [zV_cat]; exact ha) (k H locs ls h1 h2 h3)
theorem z_pop (C : zC G K y cc nL ret hs) (pc' : Nat) {a : Value} (hd : decode cc pc = .ok (.pop, 1)) (hp : pc + 1 = pc') (ha : a.category = 1) (k : Z G K n σ k1 k2 pc' lv (st)) : Z G K n σ k1 k2 pc lv (a :: st) := by
  subst hp
  exact fun H locs ls h1 h2 h3 => lv_pop C.1 C.2.1 hd (by rw [zV_cat]; exact ha) (k H locs ls h1 h2 h3)
theorem z_dup2_11 (C : zC G K y cc nL ret hs) (pc' : Nat) {a b : Value} (hd : decode cc pc = .ok (.dup2, 1)) (hp : pc + 1 = pc') (ha : a.category = 1) (hb : b.category = 1) (k : Z G K n σ k1 k2 pc' lv (a :: b :: a :: b :: st)) : Z G K n σ k1 k2 pc lv (a :: b :: st) := by
  subst hp
  exact fun H locs ls h1 h2 h3 => lv_dup2_11 C.1 C.2.1 hd (by rw [zV_cat]; exact ha) (by rw [zV_cat]; exact hb) (k H locs ls h1 h2 h3)
theorem z_dup_x1 (C : zC G K y cc nL ret hs) (pc' : Nat) {a b : Value} (hd : decode cc pc = .ok (.dup_x1, 1)) (hp : pc + 1 = pc') (ha : a.category = 1) (hb : b.category = 1) (k : Z G K n σ k1 k2 pc' lv (a :: b :: a :: st)) : Z G K n σ k1 k2 pc lv (a :: b :: st) := by
  subst hp
  exact fun H locs ls h1 h2 h3 => lv_dup_x1 C.1 C.2.1 hd (by rw [zV_cat]; exact ha) (by rw [zV_cat]; exact hb) (k H locs ls h1 h2 h3)
theorem z_iinc (C : zC G K y cc nL ret hs) (pc' : Nat) {j : Nat} {a : Int} {x : Int32} (hd : decode cc pc = .ok (.iinc j a, 3)) (hp : pc + 3 = pc') (v : Int32) (hl : zl lv j = some (.int x)) (hv : x + Int32.ofInt a = v) (hn : j < nL) (k : Z G K n σ k1 k2 pc' (zs1 lv j (.int v)) (st)) : Z G K n σ k1 k2 pc lv (st) := by
  subst hp
  exact fun H locs ls h1 h2 h3 => z_iinc0 C hd h3 hl hv hn (fun ls' h => k H locs ls' h1 h2 h)
theorem z_if_eq (C : zC G K y cc nL ret hs) (pc' tgt : Nat) {x : Int32} {off : Int} (hd : decode cc pc = .ok (.ifCond .eq off, 3)) (hp : pc + 3 = pc') (ht : (pc : Int) + off = (tgt : Int)) (kt : x = 0 → Z G K n σ k1 k2 tgt lv st) (kf : ¬ x = 0 → Z G K n σ k1 k2 pc' lv st) : Z G K n σ k1 k2 pc lv (.int x :: st) := by
  subst hp
  exact fun H locs ls h1 h2 h3 => lv_if_eq C.1 C.2.1 hd ht (fun h => kt h H locs ls h1 h2 h3) (fun h => kf h H locs ls h1 h2 h3)
theorem z_if_ne (C : zC G K y cc nL ret hs) (pc' tgt : Nat) {x : Int32} {off : Int} (hd : decode cc pc = .ok (.ifCond .ne off, 3)) (hp : pc + 3 = pc') (ht : (pc : Int) + off = (tgt : Int)) (kt : ¬ x = 0 → Z G K n σ k1 k2 tgt lv st) (kf : x = 0 → Z G K n σ k1 k2 pc' lv st) : Z G K n σ k1 k2 pc lv (.int x :: st) := by
  subst hp
  exact fun H locs ls h1 h2 h3 => lv_if_ne C.1 C.2.1 hd ht (fun h => kt h H locs ls h1 h2 h3) (fun h => kf h H locs ls h1 h2 h3)
theorem z_if_lt (C : zC G K y cc nL ret hs) (pc' tgt : Nat) {x : Int32} {off : Int} (hd : decode cc pc = .ok (.ifCond .lt off, 3)) (hp : pc + 3 = pc') (ht : (pc : Int) + off = (tgt : Int)) (kt : x < 0 → Z G K n σ k1 k2 tgt lv st) (kf : ¬ x < 0 → Z G K n σ k1 k2 pc' lv st) : Z G K n σ k1 k2 pc lv (.int x :: st) := by
  subst hp
  exact fun H locs ls h1 h2 h3 => lv_if_lt C.1 C.2.1 hd ht (fun h => kt h H locs ls h1 h2 h3) (fun h => kf h H locs ls h1 h2 h3)
theorem z_if_ge (C : zC G K y cc nL ret hs) (pc' tgt : Nat) {x : Int32} {off : Int} (hd : decode cc pc = .ok (.ifCond .ge off, 3)) (hp : pc + 3 = pc') (ht : (pc : Int) + off = (tgt : Int)) (kt : 0 ≤ x → Z G K n σ k1 k2 tgt lv st) (kf : ¬ 0 ≤ x → Z G K n σ k1 k2 pc' lv st) : Z G K n σ k1 k2 pc lv (.int x :: st) := by
  subst hp
  exact fun H locs ls h1 h2 h3 => lv_if_ge C.1 C.2.1 hd ht (fun h => kt h H locs ls h1 h2 h3) (fun h => kf h H locs ls h1 h2 h3)
theorem z_if_gt (C : zC G K y cc nL ret hs) (pc' tgt : Nat) {x : Int32} {off : Int} (hd : decode cc pc = .ok (.ifCond .gt off, 3)) (hp : pc + 3 = pc') (ht : (pc : Int) + off = (tgt : Int)) (kt : 0 < x → Z G K n σ k1 k2 tgt lv st) (kf : ¬ 0 < x → Z G K n σ k1 k2 pc' lv st) : Z G K n σ k1 k2 pc lv (.int x :: st) := by
  subst hp
  exact fun H locs ls h1 h2 h3 => lv_if_gt C.1 C.2.1 hd ht (fun h => kt h H locs ls h1 h2 h3) (fun h => kf h H locs ls h1 h2 h3)
theorem z_if_le (C : zC G K y cc nL ret hs) (pc' tgt : Nat) {x : Int32} {off : Int} (hd : decode cc pc = .ok (.ifCond .le off, 3)) (hp : pc + 3 = pc') (ht : (pc : Int) + off = (tgt : Int)) (kt : x ≤ 0 → Z G K n σ k1 k2 tgt lv st) (kf : ¬ x ≤ 0 → Z G K n σ k1 k2 pc' lv st) : Z G K n σ k1 k2 pc lv (.int x :: st) := by
  subst hp
  exact fun H locs ls h1 h2 h3 => lv_if_le C.1 C.2.1 hd ht (fun h => kt h H locs ls h1 h2 h3) (fun h => kf h H locs ls h1 h2 h3)
theorem z_icmp_eq (C : zC G K y cc nL ret hs) (pc' tgt : Nat) {x w : Int32} {off : Int} (hd : decode cc pc = .ok (.if_icmp .eq off, 3)) (hp : pc + 3 = pc') (ht : (pc : Int) + off = (tgt : Int)) (kt : x = w → Z G K n σ k1 k2 tgt lv st) (kf : ¬ x = w → Z G K n σ k1 k2 pc' lv st) : Z G K n σ k1 k2 pc lv (.int w :: .int x :: st) := by
  subst hp
  exact fun H locs ls h1 h2 h3 => lv_icmp_eq C.1 C.2.1 hd ht (fun h => kt h H locs ls h1 h2 h3) (fun h => kf h H locs ls h1 h2 h3)
theorem z_icmp_ne (C : zC G K y cc nL ret hs) (pc' tgt : Nat) {x w : Int32} {off : Int} (hd : decode cc pc = .ok (.if_icmp .ne off, 3)) (hp : pc + 3 = pc') (ht : (pc : Int) + off = (tgt : Int)) (kt : ¬ x = w → Z G K n σ k1 k2 tgt lv st) (kf : x = w → Z G K n σ k1 k2 pc' lv st) : Z G K n σ k1 k2 pc lv (.int w :: .int x :: st) := by
  subst hp
  exact fun H locs ls h1 h2 h3 => lv_icmp_ne C.1 C.2.1 hd ht (fun h => kt h H locs ls h1 h2 h3) (fun h => kf h H locs ls h1 h2 h3)
theorem z_icmp_lt (C : zC G K y cc nL ret hs) (pc' tgt : Nat) {x w : Int32} {off : Int} (hd : decode cc pc = .ok (.if_icmp .lt off, 3)) (hp : pc + 3 = pc') (ht : (pc : Int) + off = (tgt : Int)) (kt : x < w → Z G K n σ k1 k2 tgt lv st) (kf : ¬ x < w → Z G K n σ k1 k2 pc' lv st) : Z G K n σ k1 k2 pc lv (.int w :: .int x :: st) := by
  subst hp
  exact fun H locs ls h1 h2 h3 => lv_icmp_lt C.1 C.2.1 hd ht (fun h => kt h H locs ls h1 h2 h3) (fun h => kf h H locs ls h1 h2 h3)
theorem z_icmp_ge (C : zC G K y cc nL ret hs) (pc' tgt : Nat) {x w : Int32} {off : Int} (hd : decode cc pc = .ok (.if_icmp .ge off, 3)) (hp : pc + 3 = pc') (ht : (pc : Int) + off = (tgt : Int)) (kt : w ≤ x → Z G K n σ k1 k2 tgt lv st) (kf : ¬ w ≤ x → Z G K n σ k1 k2 pc' lv st) : Z G K n σ k1 k2 pc lv (.int w :: .int x :: st) := by
  subst hp
  exact fun H locs ls h1 h2 h3 => lv_icmp_ge C.1 C.2.1 hd ht (fun h => kt h H locs ls h1 h2 h3) (fun h => kf h H locs ls h1 h2 h3)
theorem z_icmp_gt (C : zC G K y cc nL ret hs) (pc' tgt : Nat) {x w : Int32} {off : Int} (hd : decode cc pc = .ok (.if_icmp .gt off, 3)) (hp : pc + 3 = pc') (ht : (pc : Int) + off = (tgt : Int)) (kt : w < x → Z G K n σ k1 k2 tgt lv st) (kf : ¬ w < x → Z G K n σ k1 k2 pc' lv st) : Z G K n σ k1 k2 pc lv (.int w :: .int x :: st) := by
  subst hp
  exact fun H locs ls h1 h2 h3 => lv_icmp_gt C.1 C.2.1 hd ht (fun h => kt h H locs ls h1 h2 h3) (fun h => kf h H locs ls h1 h2 h3)
theorem z_icmp_le (C : zC G K y cc nL ret hs) (pc' tgt : Nat) {x w : Int32} {off : Int} (hd : decode cc pc = .ok (.if_icmp .le off, 3)) (hp : pc + 3 = pc') (ht : (pc : Int) + off = (tgt : Int)) (kt : x ≤ w → Z G K n σ k1 k2 tgt lv st) (kf : ¬ x ≤ w → Z G K n σ k1 k2 pc' lv st) : Z G K n σ k1 k2 pc lv (.int w :: .int x :: st) := by
  subst hp
  exact fun H locs ls h1 h2 h3 => lv_icmp_le C.1 C.2.1 hd ht (fun h => kt h H locs ls h1 h2 h3) (fun h => kf h H locs ls h1 h2 h3)
theorem z_goto (C : zC G K y cc nL ret hs) (tgt : Nat) {off : Int} (hd : decode cc pc = .ok (.goto off, 3)) (ht : (pc : Int) + off = (tgt : Int)) (k : Z G K n σ k1 k2 tgt lv st) : Z G K n σ k1 k2 pc lv st :=
  fun H locs ls h1 h2 h3 => lv_goto C.1 C.2.1 hd ht (k H locs ls h1 h2 h3)
theorem z_ifnull (C : zC G K y cc nL ret hs) (pc' : Nat) {x : Nat} {off : Int} (hd : decode cc pc = .ok (.ifnull off, 3)) (hp : pc + 3 = pc') (k : Z G K n σ k1 k2 pc' lv st) : Z G K n σ k1 k2 pc lv (.ref x :: st) := by
  subst hp
  exact fun H locs ls h1 h2 h3 => lv_ifnull C.1 C.2.1 hd (k H locs ls h1 h2 h3)
theorem z_ifnullN (C : zC G K y cc nL ret hs) (tgt : Nat) {off : Int} (hd : decode cc pc = .ok (.ifnull off, 3)) (ht : (pc : Int) + off = (tgt : Int)) (k : Z G K n σ k1 k2 tgt lv st) : Z G K n σ k1 k2 pc lv (.null :: st) :=
  fun H locs ls h1 h2 h3 => lv_ifnullN C.1 C.2.1 hd ht (k H locs ls h1 h2 h3)
theorem z_ifnonnull (C : zC G K y cc nL ret hs) (tgt : Nat) {x : Nat} {off : Int} (hd : decode cc pc = .ok (.ifnonnull off, 3)) (ht : (pc : Int) + off = (tgt : Int)) (k : Z G K n σ k1 k2 tgt lv st) : Z G K n σ k1 k2 pc lv (.ref x :: st) :=
  fun H locs ls h1 h2 h3 => lv_ifnonnull C.1 C.2.1 hd ht (k H locs ls h1 h2 h3)
theorem z_ifnonnullN (C : zC G K y cc nL ret hs) (pc' : Nat) {off : Int} (hd : decode cc pc = .ok (.ifnonnull off, 3)) (hp : pc + 3 = pc') (k : Z G K n σ k1 k2 pc' lv st) : Z G K n σ k1 k2 pc lv (.null :: st) := by
  subst hp
  exact fun H locs ls h1 h2 h3 => lv_ifnonnullN C.1 C.2.1 hd (k H locs ls h1 h2 h3)
theorem z_iald (C : zC G K y cc nL ret hs) (pc' : Nat) {i len : Nat} {j : Int32} {f : Nat → Int32} (jn : Nat) (hd : decode cc pc = .ok (.iaload, 1)) (hp : pc + 1 = pc') (hi : i < n) (hσ : σ i = .inl (0, len, .inl f)) (hj : j = nI jn) (hl : jn < len) (hs : len < 2 ^ 31)
    (k : Z G K n σ k1 k2 pc' lv (.int (f jn) :: st)) : Z G K n σ k1 k2 pc lv (.int j :: .ref i :: st) := by
  subst hp; subst hj
  intro H locs ls h1 h2 h3
  have hat := h1.2.2.2 i hi
  rw [hσ] at hat
  have hcl : (nI jn).toNatClampNeg = jn := nI_clamp (Nat.lt_trans hl hs)
  have kk := k H locs ls h1 h2 h3
  show W _ _ _ _ _ _ _ _ _ _ H locs k1 k2 _ (F0 _ pc ls (.int (nI jn) :: .ref (zad G i) :: st.map (zV G)))
  rw [zad_lt (Nat.lt_of_lt_of_le hi h1.2.1)]
  refine va_iald (D := zD G) (cl := zCl) (tys := zT G) (ws := [(zz G + i, zE G (.inl (0, len, .inl f)))]) C.1 C.2.1 C.kk (fun k q hq => ?_) 0 0 rfl rfl (vp_in_nI hl hs) hd ?_
  · cases k with
    | zero => cases hq; exact hat
    | succ k => cases hq
  · rw [hcl]
    exact kk
theorem z_lald (C : zC G K y cc nL ret hs) (pc' : Nat) {i len : Nat} {j : Int32} {f : Nat → Int64} (jn : Nat) (hd : decode cc pc = .ok (.laload, 1)) (hp : pc + 1 = pc') (hi : i < n) (hσ : σ i = .inl (1, len, .inr (.inl f))) (hj : j = nI jn) (hl : jn < len) (hs : len < 2 ^ 31)
    (k : Z G K n σ k1 k2 pc' lv (.long (f jn) :: st)) : Z G K n σ k1 k2 pc lv (.int j :: .ref i :: st) := by
  subst hp; subst hj
  intro H locs ls h1 h2 h3
  have hat := h1.2.2.2 i hi
  rw [hσ] at hat
  have hcl : (nI jn).toNatClampNeg = jn := nI_clamp (Nat.lt_trans hl hs)
  have kk := k H locs ls h1 h2 h3
  show W _ _ _ _ _ _ _ _ _ _ H locs k1 k2 _ (F0 _ pc ls (.int (nI jn) :: .ref (zad G i) :: st.map (zV G)))
  rw [zad_lt (Nat.lt_of_lt_of_le hi h1.2.1)]
  refine va_lald (D := zD G) (cl := zCl) (tys := zT G) (ws := [(zz G + i, zE G (.inl (1, len, .inr (.inl f))))]) C.1 C.2.1 C.kk (fun k q hq => ?_) 0 1 rfl rfl (vp_in_nI hl hs) hd ?_
  · cases k with
    | zero => cases hq; exact hat
    | succ k => cases hq
  · rw [hcl]
    exact kk
theorem z_cald (C : zC G K y cc nL ret hs) (pc' : Nat) {i len : Nat} {j : Int32} {f : Nat → Int32} (jn : Nat) (hd : decode cc pc = .ok (.caload, 1)) (hp : pc + 1 = pc') (hi : i < n) (hσ : σ i = .inl (2, len, .inl f)) (hj : j = nI jn) (hl : jn < len) (hs : len < 2 ^ 31)
    (k : Z G K n σ k1 k2 pc' lv (.int (f jn) :: st)) : Z G K n σ k1 k2 pc lv (.int j :: .ref i :: st) := by
  subst hp; subst hj
  intro H locs ls h1 h2 h3
  have hat := h1.2.2.2 i hi
  rw [hσ] at hat
  have hcl : (nI jn).toNatClampNeg = jn := nI_clamp (Nat.lt_trans hl hs)
  have kk := k H locs ls h1 h2 h3
  show W _ _ _ _ _ _ _ _ _ _ H locs k1 k2 _ (F0 _ pc ls (.int (nI jn) :: .ref (zad G i) :: st.map (zV G)))
  rw [zad_lt (Nat.lt_of_lt_of_le hi h1.2.1)]
  refine va_cald (D := zD G) (cl := zCl) (tys := zT G) (ws := [(zz G + i, zE G (.inl (2, len, .inl f)))]) C.1 C.2.1 C.kk (fun k q hq => ?_) 0 2 rfl rfl (vp_in_nI hl hs) hd ?_
  · cases k with
    | zero => cases hq; exact hat
    | succ k => cases hq
  · rw [hcl]
    exact kk
theorem z_zald (C : zC G K y cc nL ret hs) (pc' : Nat) {i len : Nat} {j : Int32} {f : Nat → Int32} (jn : Nat) (hd : decode cc pc = .ok (.baload, 1)) (hp : pc + 1 = pc') (hi : i < n) (hσ : σ i = .inl (3, len, .inl f)) (hj : j = nI jn) (hl : jn < len) (hs : len < 2 ^ 31)
    (k : Z G K n σ k1 k2 pc' lv (.int (f jn) :: st)) : Z G K n σ k1 k2 pc lv (.int j :: .ref i :: st) := by
  subst hp; subst hj
  intro H locs ls h1 h2 h3
  have hat := h1.2.2.2 i hi
  rw [hσ] at hat
  have hcl : (nI jn).toNatClampNeg = jn := nI_clamp (Nat.lt_trans hl hs)
  have kk := k H locs ls h1 h2 h3
  show W _ _ _ _ _ _ _ _ _ _ H locs k1 k2 _ (F0 _ pc ls (.int (nI jn) :: .ref (zad G i) :: st.map (zV G)))
  rw [zad_lt (Nat.lt_of_lt_of_le hi h1.2.1)]
  refine va_zald (D := zD G) (cl := zCl) (tys := zT G) (ws := [(zz G + i, zE G (.inl (3, len, .inl f)))]) C.1 C.2.1 C.kk (fun k q hq => ?_) 0 3 rfl rfl (vp_in_nI hl hs) hd ?_
  · cases k with
    | zero => cases hq; exact hat
    | succ k => cases hq
  · rw [hcl]
    exact kk
theorem z_iast (C : zC G K y cc nL ret hs) (pc' : Nat) {i len : Nat} {j : Int32} {x : Int32} {f : Nat → Int32} (jn : Nat) (hd : decode cc pc = .ok (.iastore, 1)) (hp : pc + 1 = pc') (hi : i < n) (hσ : σ i = .inl (0, len, .inl (f))) (hj : j = nI jn) (hl : jn < len) (hs : len < 2 ^ 31) 
    (k : Z G K n (va_up σ i (.inl (0, len, .inl (upd f jn x)))) k1 k2 pc' lv st) : Z G K n σ k1 k2 pc lv (.int (x) :: .int j :: .ref i :: st) := by
  subst hp; subst hj
  intro H locs ls h1 h2 h3
  have hat := h1.2.2.2 i hi
  rw [hσ] at hat
  have hcl : (nI jn).toNatClampNeg = jn := nI_clamp (Nat.lt_trans hl hs)
  show W _ _ _ _ _ _ _ _ _ _ H locs k1 k2 _ (F0 _ pc ls (.int (x) :: .int (nI jn) :: .ref (zad G i) :: st.map (zV G)))
  rw [zad_lt (Nat.lt_of_lt_of_le hi h1.2.1)]
  refine W.iast C.1 C.2.1 (show H[zz G + i]? = some (vp_cell (zcA G 0) (len, .inl (f))) from hat) ((C.kk.2 0 _ rfl).1 len (fun j => .int (f j))) (fun q => by cases q) (by show ¬ (nI jn < 0 ∨ (arrV _ _ _).slots.size ≤ _); rw [arrV_size]; exact vp_in_nI hl hs) rfl rfl hd fun H1 e z oq => ?_
  refine k H1 _ ls (h1.set z oq ?_) (fun q hq => ?_) h3
  · show H1[zz G + i]? = some (vp_cell _ _)
    rw [e, hcl]
    show some ((arrV (zcA G 0) len (fun j => .int (f j))).setSlot jn _) = some (arrV (zcA G 0) len (fun j => .int (upd f jn x j)))
    rw [arrV_store]
    congr 2
    funext q
    by_cases hq : q = jn
    · subst hq
      simp [updV, upd, vp_nar]
      try rfl
    · simp [updV, upd, hq]
  · rcases List.mem_append.mp hq with hq | hq
    · exact h2 q hq
    · rw [List.mem_singleton.mp hq]
      exact Nat.le_add_right _ _
theorem z_last (C : zC G K y cc nL ret hs) (pc' : Nat) {i len : Nat} {j : Int32} {x : Int64} {f : Nat → Int64} (jn : Nat) (hd : decode cc pc = .ok (.lastore, 1)) (hp : pc + 1 = pc') (hi : i < n) (hσ : σ i = .inl (1, len, .inr (.inl (f)))) (hj : j = nI jn) (hl : jn < len) (hs : len < 2 ^ 31) 
    (k : Z G K n (va_up σ i (.inl (1, len, .inr (.inl (vp_updL f jn x))))) k1 k2 pc' lv st) : Z G K n σ k1 k2 pc lv (.long (x) :: .int j :: .ref i :: st) := by
  subst hp; subst hj
  intro H locs ls h1 h2 h3
  have hat := h1.2.2.2 i hi
  rw [hσ] at hat
  have hcl : (nI jn).toNatClampNeg = jn := nI_clamp (Nat.lt_trans hl hs)
  show W _ _ _ _ _ _ _ _ _ _ H locs k1 k2 _ (F0 _ pc ls (.long (x) :: .int (nI jn) :: .ref (zad G i) :: st.map (zV G)))
  rw [zad_lt (Nat.lt_of_lt_of_le hi h1.2.1)]
  refine W.last C.1 C.2.1 (show H[zz G + i]? = some (vp_cell (zcA G 1) (len, .inr (.inl (f)))) from hat) ((C.kk.2 1 _ rfl).1 len (fun j => .long (f j))) (fun q => by cases q) (by show ¬ (nI jn < 0 ∨ (arrV _ _ _).slots.size ≤ _); rw [arrV_size]; exact vp_in_nI hl hs) rfl rfl hd fun H1 e z oq => ?_
  refine k H1 _ ls (h1.set z oq ?_) (fun q hq => ?_) h3
  · show H1[zz G + i]? = some (vp_cell _ _)
    rw [e, hcl]
    show some ((arrV (zcA G 1) len (fun j => .long (f j))).setSlot jn _) = some (arrV (zcA G 1) len (fun j => .long (vp_updL f jn x j)))
    rw [arrV_store]
    congr 2
    funext q
    by_cases hq : q = jn
    · subst hq
      simp [updV, vp_updL, vp_nar]
      try rfl
    · simp [updV, vp_updL, hq]
  · rcases List.mem_append.mp hq with hq | hq
    · exact h2 q hq
    · rw [List.mem_singleton.mp hq]
      exact Nat.le_add_right _ _
theorem z_cast (C : zC G K y cc nL ret hs) (pc' : Nat) {i len : Nat} {j : Int32} {x : Int32} {f : Nat → Int32} (jn : Nat) (hd : decode cc pc = .ok (.castore, 1)) (hp : pc + 1 = pc') (hi : i < n) (hσ : σ i = .inl (2, len, .inl (f))) (hj : j = nI jn) (hl : jn < len) (hs : len < 2 ^ 31) (x' : Int32) (hx : vp_nar .char x = x') 
    (k : Z G K n (va_up σ i (.inl (2, len, .inl (upd f jn x')))) k1 k2 pc' lv st) : Z G K n σ k1 k2 pc lv (.int (x) :: .int j :: .ref i :: st) := by
  subst hp; subst hj; subst hx
  intro H locs ls h1 h2 h3
  have hat := h1.2.2.2 i hi
  rw [hσ] at hat
  have hcl : (nI jn).toNatClampNeg = jn := nI_clamp (Nat.lt_trans hl hs)
  show W _ _ _ _ _ _ _ _ _ _ H locs k1 k2 _ (F0 _ pc ls (.int (x) :: .int (nI jn) :: .ref (zad G i) :: st.map (zV G)))
  rw [zad_lt (Nat.lt_of_lt_of_le hi h1.2.1)]
  refine W.cast C.1 C.2.1 (show H[zz G + i]? = some (vp_cell (zcA G 2) (len, .inl (f))) from hat) ((C.kk.2 2 _ rfl).1 len (fun j => .int (f j))) (fun q => by cases q) (by show ¬ (nI jn < 0 ∨ (arrV _ _ _).slots.size ≤ _); rw [arrV_size]; exact vp_in_nI hl hs) rfl rfl hd fun H1 e z oq => ?_
  refine k H1 _ ls (h1.set z oq ?_) (fun q hq => ?_) h3
  · show H1[zz G + i]? = some (vp_cell _ _)
    rw [e, hcl]
    show some ((arrV (zcA G 2) len (fun j => .int (f j))).setSlot jn _) = some (arrV (zcA G 2) len (fun j => .int (upd f jn (vp_nar .char x) j)))
    rw [arrV_store]
    congr 2
    funext q
    by_cases hq : q = jn
    · subst hq
      simp [updV, upd, vp_nar]
      try rfl
    · simp [updV, upd, hq]
  · rcases List.mem_append.mp hq with hq | hq
    · exact h2 q hq
    · rw [List.mem_singleton.mp hq]
      exact Nat.le_add_right _ _
theorem z_zast (C : zC G K y cc nL ret hs) (pc' : Nat) {i len : Nat} {j : Int32} {x : Int32} {f : Nat → Int32} (jn : Nat) (hd : decode cc pc = .ok (.bastore, 1)) (hp : pc + 1 = pc') (hi : i < n) (hσ : σ i = .inl (3, len, .inl (f))) (hj : j = nI jn) (hl : jn < len) (hs : len < 2 ^ 31) (x' : Int32) (hx : vp_nar .boolean x = x') 
    (k : Z G K n (va_up σ i (.inl (3, len, .inl (upd f jn x')))) k1 k2 pc' lv st) : Z G K n σ k1 k2 pc lv (.int (x) :: .int j :: .ref i :: st) := by
  subst hp; subst hj; subst hx
  intro H locs ls h1 h2 h3
  have hat := h1.2.2.2 i hi
  rw [hσ] at hat
  have hcl : (nI jn).toNatClampNeg = jn := nI_clamp (Nat.lt_trans hl hs)
  show W _ _ _ _ _ _ _ _ _ _ H locs k1 k2 _ (F0 _ pc ls (.int (x) :: .int (nI jn) :: .ref (zad G i) :: st.map (zV G)))
  rw [zad_lt (Nat.lt_of_lt_of_le hi h1.2.1)]
  refine W.zast C.1 C.2.1 (show H[zz G + i]? = some (vp_cell (zcA G 3) (len, .inl (f))) from hat) ((C.kk.2 3 _ rfl).1 len (fun j => .int (f j))) (fun q => by cases q) (by show ¬ (nI jn < 0 ∨ (arrV _ _ _).slots.size ≤ _); rw [arrV_size]; exact vp_in_nI hl hs) rfl rfl hd fun H1 e z oq => ?_
  refine k H1 _ ls (h1.set z oq ?_) (fun q hq => ?_) h3
  · show H1[zz G + i]? = some (vp_cell _ _)
    rw [e, hcl]
    show some ((arrV (zcA G 3) len (fun j => .int (f j))).setSlot jn _) = some (arrV (zcA G 3) len (fun j => .int (upd f jn (vp_nar .boolean x) j)))
    rw [arrV_store]
    congr 2
    funext q
    by_cases hq : q = jn
    · subst hq
      simp [updV, upd, vp_nar]
      try rfl
    · simp [updV, upd, hq]
  · rcases List.mem_append.mp hq with hq | hq
    · exact h2 q hq
    · rw [List.mem_singleton.mp hq]
      exact Nat.le_add_right _ _
end ZR
end
section
section ZM
variable {G : zG} {K : zK} {y : MethodName} {cc : ByteArray} {nL : Nat} {ret : Option FieldType} {hs : List (Nat × Nat × Nat × Nat)} {n k1 k2 pc : Nat} {σ : zS} {lv : List (Nat × Value)} {st : List Value}
theorem zV_narrow {G : zG} {ty : FieldType} {v : Value} (h : narrow ty v = v) : narrow ty (zV G v) = zV G v := by
  cases v <;> first | exact h | (cases ty <;> rfl)
theorem zV_fits {G : zG} {ty : FieldType} {v : Value} (h : fits ty v = true) : fits ty (zV G v) = true := by
  cases v <;> first | exact h | (cases ty <;> first | exact h | rfl)
theorem zV_vp (G : zG) (fs : List Value) (j : Nat) : vp_V (fs.map (zV G)) j = zV G (vp_V fs j) := by
  unfold vp_V
  rw [List.getD_eq_getElem?_getD, List.getD_eq_getElem?_getD, List.getElem?_map]
  cases fs[j]? <;> rfl
theorem zV_dflt (G : zG) (ty : FieldType) : zV G (defaultValue ty) = defaultValue ty := by cases ty <;> rfl
/-- a field by its link: class ci of zCl, its field k -/
def zF (own : String) (idx ci k : Nat) : Prop := ∃ (C : String) (T : u_T) (N : Nat), zCl[ci]? = some (C, T, N) ∧ k < N ∧ (∀ w ∈ u_ws C T N, w ∈ zTb) ∧ Cond.fieldLink own idx (T k).1 (T k).2.1 (T k).2.2.1 ∈ zTb
/-- a class's table as it must be for stores and makings -/
def zCk (ci : Nat) (C : String) (T : u_T) (N : Nat) (ty0 : Nat → FieldType) : Prop := zCl[ci]? = some (C, T, N) ∧ (∀ w ∈ u_ws C T N, w ∈ zTb) ∧ (∀ k, k < N → parseFieldDescriptor (T k).2.2.1 = some (ty0 k)) ∧ (∀ a, a < N → ∀ b, b < N → a ≠ b → (T a).2.1 ≠ (T b).2.1)
def zP (own : String) (idx ci k : Nat) (ty : FieldType) : Prop := ∃ (C : String) (T : u_T) (N : Nat) (ty0 : Nat → FieldType), zCk ci C T N ty0 ∧ k < N ∧ Cond.fieldLink own idx (T k).1 (T k).2.1 (T k).2.2.1 ∈ zTb ∧ (T k).2.2.2 = false ∧ ty0 k = ty
def zPF (own : String) (idx ci k : Nat) (ty : FieldType) : Prop := ∃ (C : String) (T : u_T) (N : Nat) (ty0 : Nat → FieldType), zCk ci C T N ty0 ∧ k < N ∧ Cond.fieldLink own idx (T k).1 (T k).2.1 (T k).2.2.1 ∈ zTb ∧ (T k).2.2.2 = true ∧ (T k).1 = own ∧ ty0 k = ty
theorem z_get (C : zC G K y cc nL ret hs) (pc' : Nat) {i ci idx fk : Nat} {fs : List Value} {v : Value} (hf : zF y.cls idx ci fk) (hd : decode cc pc = .ok (.getfield idx, 3)) (hp : pc + 3 = pc') (hi : i < n) (hσ : σ i = .inr (ci, fs)) (hv : fs[fk]? = some v)
    (k : Z G K n σ k1 k2 pc' lv (v :: st)) : Z G K n σ k1 k2 pc lv (.ref i :: st) := by
  subst hp
  intro H locs ls h1 h2 h3
  obtain ⟨Cn, T, N, c1, c2, c3, c4⟩ := hf
  have hat := h1.2.2.2 i hi
  rw [hσ] at hat
  have kk := k H locs ls h1 h2 h3
  show W _ _ _ _ _ _ _ _ _ _ H locs k1 k2 _ (F0 _ pc ls (.ref (zad G i) :: st.map (zV G)))
  rw [zad_lt (Nat.lt_of_lt_of_le hi h1.2.1)]
  refine va_get (D := zD G) (cl := zCl) (tys := zT G) (ws := [(zz G + i, .inr (ci, fs.map (zV G)))]) C.1 C.2.1 C.ts c3 C.own C.kk (fun k q hq => ?_) 0 rfl c1 fk c2 (C.ts _ c4) (fun x h => h) (v := zV G v) (by rw [List.getElem?_map, hv]; rfl) hd kk
  cases k with
  | zero => cases hq; exact hat
  | succ k => cases hq
theorem z_locs {G : zG} {locs : List Loc} (h : ∀ q ∈ locs, zz G ≤ q.base) (i j : Nat) : ∀ q ∈ locs ++ [(⟨zz G + i, j⟩ : Loc)], zz G ≤ q.base := fun q hq => by
  rcases List.mem_append.mp hq with hq | hq
  · exact h q hq
  · rw [List.mem_singleton.mp hq]
    exact Nat.le_add_right _ _
theorem z_put (C : zC G K y cc nL ret hs) (pc' : Nat) {i ci idx fk : Nat} {ty : FieldType} {fs : List Value} {v : Value} (hf : zP y.cls idx ci fk ty) (hd : decode cc pc = .ok (.putfield idx, 3)) (hp : pc + 3 = pc') (hi : i < n) (hσ : σ i = .inr (ci, fs)) (hl : fk < fs.length) (hn : narrow ty v = v) (hfit : fits ty v = true)
    (k : Z G K n (va_up σ i (.inr (ci, fs.set fk v))) k1 k2 pc' lv st) : Z G K n σ k1 k2 pc lv (v :: .ref i :: st) := by
  subst hp
  intro H locs ls h1 h2 h3
  obtain ⟨Cn, T, N, ty0, ⟨c1, c3, c5, c6⟩, c2, c4, c7, c8⟩ := hf
  subst c8
  have hat := h1.2.2.2 i hi
  rw [hσ] at hat
  have hap := va_apart (own := y.cls) C.ts c3 ty0 c5 c6 C.kk c1
  obtain ⟨r, r1, cell, q1, q2, q3, q4⟩ := hat
  have hr : r = (Cn, T, N) := Option.some.inj (r1.symm.trans c1)
  subst hr
  obtain ⟨hS, hfc, kC, hkC, hkind⟩ := C.kk.1 ci _ c1
  obtain ⟨cf, kf, fi, f, hif, hsl⟩ := hS fk c2
  have hlay := C.ts _ (c3 _ (u_in_lay c2))
  unfold u_lay at hlay
  rw [if_neg (by rw [c7]; decide)] at hlay
  have hst := (u_facts hfc hkC (u_lays C.ts c3 c2) hif).1
  have h6 := u_store hfc hkC hkind hlay hif (c5 fk c2) (zV_narrow (G := G) hn) (zV_fits (G := G) hfit)
  show W _ _ _ _ _ _ _ _ _ _ H locs k1 k2 _ (F0 _ pc ls (zV G v :: .ref (zad G i) :: st.map (zV G)))
  rw [zad_lt (Nat.lt_of_lt_of_le hi h1.2.1)]
  refine W.putK C.1 C.2.1 (f := f) ⟨C.own, C.ts _ c4, ⟨_, _, _, hif⟩, hst⟩ (by rw [q2]; exact h6) q1 q3 (by rw [hsl]; exact k2_hasslot (q4 fk c2)) rfl rfl hd fun H' e1 e2 e3 => ?_
  rw [hsl] at e1 ⊢
  refine k H' _ ls (h1.set e2 e3 ?_) (z_locs h2 _ _) h3
  refine ⟨_, c1, t_OB.to (V := updV (vp_V (fs.map (zV G))) fk (zV G v)) ⟨_, e1, q2, q3, t_set q4 hap c2 _⟩ (fun j _ => ?_)⟩
  rw [show ((fs.set fk v).map (zV G)) = (fs.map (zV G)).set fk (zV G v) from List.map_set ..]
  exact vp_updV_set (by rw [List.length_map]; exact hl) _ j
theorem z_putF (C : zC G K y cc nL ret hs) (pc' : Nat) {i ci idx fk : Nat} {ty : FieldType} {fs : List Value} {v : Value} (hf : zPF y.cls idx ci fk ty) (hin : y.name = "<init>") (hd : decode cc pc = .ok (.putfield idx, 3)) (hp : pc + 3 = pc') (hi : i < n) (hσ : σ i = .inr (ci, fs)) (hl : fk < fs.length) (hn : narrow ty v = v) (hfit : fits ty v = true)
    (k : Z G K n (va_up σ i (.inr (ci, fs.set fk v))) k1 k2 pc' lv st) : Z G K n σ k1 k2 pc lv (v :: .ref i :: st) := by
  subst hp
  intro H locs ls h1 h2 h3
  obtain ⟨Cn, T, N, ty0, ⟨c1, c3, c5, c6⟩, c2, c4, c7, c9, c8⟩ := hf
  subst c8
  have hat := h1.2.2.2 i hi
  rw [hσ] at hat
  have hap := va_apart (own := y.cls) C.ts c3 ty0 c5 c6 C.kk c1
  obtain ⟨r, r1, cell, q1, q2, q3, q4⟩ := hat
  have hr : r = (Cn, T, N) := Option.some.inj (r1.symm.trans c1)
  subst hr
  obtain ⟨hS, hfc, kC, hkC, hkind⟩ := C.kk.1 ci _ c1
  obtain ⟨cf, kf, fi, f, hif, hsl⟩ := hS fk c2
  have hlay := C.ts _ (c3 _ (u_in_lay c2))
  unfold u_lay at hlay
  rw [if_pos c7] at hlay
  have hst := (u_facts hfc hkC (u_lays C.ts c3 c2) hif).1
  have hcf : (km K).cls = cf := by
    obtain ⟨_, _, c', _, _, _, -, -, hf', -, -, -, hown2, -⟩ := Cond.laysFinal_spec hlay
    have e1 : c' = cf := by have := hif.symm.trans hf'; simp at this; exact this.1.symm
    rw [c9] at hown2
    rw [← e1]; exact Option.some.inj (C.own.symm.trans hown2)
  have h6 := u_fits hfc hkC hkind (Or.inr hlay) hif (c5 fk c2) (zV_narrow (G := G) hn) (zV_fits (G := G) hfit)
  show W _ _ _ _ _ _ _ _ _ _ H locs k1 k2 _ (F0 _ pc ls (zV G v :: .ref (zad G i) :: st.map (zV G)))
  rw [zad_lt (Nat.lt_of_lt_of_le hi h1.2.1)]
  refine W.putFinK C.1 C.2.1 C.own (C.ts _ c4) hif hst hcf (C.nm.trans hin) (by rw [q2]; exact h6) q1 q3 (by rw [hsl]; exact k2_hasslot (q4 fk c2)) rfl rfl hd fun H' e1 e2 e3 => ?_
  rw [hsl] at e1 ⊢
  refine k H' _ ls (h1.set e2 e3 ?_) (z_locs h2 _ _) h3
  refine ⟨_, c1, t_OB.to (V := updV (vp_V (fs.map (zV G))) fk (zV G v)) ⟨_, e1, q2, q3, t_set q4 hap c2 _⟩ (fun j _ => ?_)⟩
  rw [show ((fs.set fk v).map (zV G)) = (fs.map (zV G)).set fk (zV G v) from List.map_set ..]
  exact vp_updV_set (by rw [List.length_map]; exact hl) _ j
/-- making an object -/
def zNw (own : String) (idx ci N : Nat) (fs : List Value) : Prop := ∃ (C : String) (T : u_T) (M : Nat) (ty0 : Nat → FieldType), zCk ci C T M ty0 ∧ Cond.classLink own idx C ∈ zTb ∧ Cond.instantiable C N ∈ zTb ∧ Cond.initialized C ∈ zTb ∧ ∀ j, j < M → defaultValue (ty0 j) = vp_V fs j
theorem z_new (C : zC G K y cc nL ret hs) (pc' : Nat) {ci idx N : Nat} {fs : List Value} (hf : zNw y.cls idx ci N fs) (hd : decode cc pc = .ok (.new idx, 3)) (hp : pc + 3 = pc') (hn : n < 1000000) (hc : k1 + 1 ≤ (kR K).cells) (hl : k2 + N ≤ (kR K).slots)
    (k : Z G K (n + 1) (va_up σ n (.inr (ci, fs))) (k1 + 1) (k2 + N) pc' lv (.ref n :: st)) : Z G K n σ k1 k2 pc lv st := by
  subst hp
  intro H locs ls h1 h2 h3
  obtain ⟨Cn, T, M, ty0, ⟨c1, c3, c5, c6⟩, w1, w2, w3, w4⟩ := hf
  have hKn := C.kk.1 ci _ c1
  refine W.newcK C.1 C.2.1 C.own (C.ts _ w1) (C.ts _ w2) (C.ts _ w3) rfl hd hc hl hKn.2.1 h1.1 fun H1 kC hkC e1 z1 o1 => ?_
  have hat : va_at (zD G) zCl (zz G + n, zE G (.inr (ci, fs))) H1 := ⟨_, c1, (u_born ty0 C.ts c3 hKn hkC e1 c5).to (fun j hj => by rw [zV_vp, ← w4 j hj, zV_dflt])⟩
  have kk := k H1 locs ls (h1.push hn (by rw [z1, h1.1]) (fun q hq => o1 q (by rw [← h1.1]; exact hq)) hat) h2 h3
  have e : (.ref (zz G + n) : Value) = zV G (.ref n) := by show _ = Value.ref (zad G n); rw [zad_lt hn]
  show W _ _ _ _ _ _ _ _ _ _ H1 locs (k1 + 1) (k2 + N) _ (F0 _ (pc + 3) ls (.ref (zz G + n) :: st.map (zV G)))
  rw [e]
  exact kk
theorem z_arrT {G : zG} {U : State} (h : va_K (zD G) zCl (zT G) U) {t : Nat} {ty : FieldType} (ht : zTy[t]? = some ty) : ArrOfT U (zcA G t) ty ∧ va_RA U (zcA G t) ty := by
  refine h.2 t (zcA G t, ty) ?_
  unfold zT
  rw [List.getElem?_map, List.getElem?_zipIdx, ht]
  simp
theorem z_newa (C : zC G K y cc nL ret hs) (pc' : Nat) {atype : ArrayType} {j : Int32} (t len : Nat) {ty : FieldType} {a : vp_A} (ht : zTy[t]? = some ty) (hty : newarray.typeOf atype = ty) (hw : Cond.arrayClass ty ∈ zTb) (ha : ∀ cA : ClassId, vp_cell cA (zA G a) = arrV cA len (fun _ => defaultValue ty))
    (hra : va_RA (ks K) (zcA G t) ty → (ks K).vm.findClass ("[" ++ ty.toString) = some (zcA G t))
    (hd : decode cc pc = .ok (.newarray atype, 2)) (hp : pc + 2 = pc') (hj : j = nI len) (hs : len < 2 ^ 31) (hb : len * componentBytes ty ≤ 536870912) (hn : n < 1000000) (hc : k1 + 1 ≤ (kR K).cells) (hl : k2 + len ≤ (kR K).slots)
    (k : Z G K (n + 1) (va_up σ n (.inl (t, a))) (k1 + 1) (k2 + len) pc' lv (.ref n :: st)) : Z G K n σ k1 k2 pc lv (.int j :: st) := by
  subst hp; subst hj; subst hty
  intro H locs ls h1 h2 h3
  refine va_newaK C.1 C.2.1 (C.ts _ hw) rfl hd rfl (nI_pos hs) (nI_clamp hs) hb hc hl h1.1 fun H1 cA e1 z1 o1 hAr hNm => ?_
  have hcA : cA = zcA G t := Option.some.inj (hNm.symm.trans (hra (z_arrT C.kk ht).2))
  subst hcA
  have hat : va_at (zD G) zCl (zz G + n, zE G (.inl (t, a))) H1 := by
    show H1[zz G + n]? = some (vp_cell (zcA G t) (zA G a))
    rw [ha]; exact e1
  have kk := k H1 locs ls (h1.push hn (by rw [z1, h1.1]) (fun q hq => o1 q (by rw [← h1.1]; exact hq)) hat) h2 h3
  have e : (.ref (zz G + n) : Value) = zV G (.ref n) := by show _ = Value.ref (zad G n); rw [zad_lt hn]
  show W _ _ _ _ _ _ _ _ _ _ H1 locs (k1 + 1) (k2 + len) _ (F0 _ (pc + 2) ls (.ref (zz G + n) :: st.map (zV G)))
  rw [e]
  exact kk
/-- weakenings -/
theorem Z.same {τ : zS} (h : ∀ i, i < n → σ i = τ i) (k : Z G K n τ k1 k2 pc lv st) : Z G K n σ k1 k2 pc lv st := fun H locs ls h1 h2 h3 => k H locs ls (h1.same (fun i hi => (h i hi).symm)) h2 h3
theorem Z.lvs {lv' : List (Nat × Value)} (h : ∀ q ∈ lv', q ∈ lv) (k : Z G K n σ k1 k2 pc lv' st) : Z G K n σ k1 k2 pc lv st := fun H locs ls h1 h2 h3 => k H locs ls h1 h2 ⟨h3.1, h3.2.1, fun q hq => by
  obtain ⟨q', hq', rfl⟩ := List.mem_map.mp hq
  exact h3.2.2 _ (List.mem_map.mpr ⟨q', h q' hq', rfl⟩)⟩
theorem Z.widen {j1 j2 : Nat} (h1 : k1 ≤ j1) (h2 : k2 ≤ j2) (k : Z G K n σ j1 j2 pc lv st) : Z G K n σ k1 k2 pc lv st := fun H locs ls a b c => W.widen h1 h2 (k H locs ls a b c)
theorem Z.n0 (k : n ≤ 1000000 → Z G K n σ k1 k2 pc lv st) : Z G K n σ k1 k2 pc lv st := fun H locs ls a b c => k a.2.1 H locs ls a b c
/-- ends -/
theorem z_iret (C : zC G K y cc nL ret hs) {x : Int32} (hr : ret = some .int) (hd : decode cc pc = .ok (.ireturn, 1)) (hq : kpo K (.returned (some (.int x))) n σ) (hc : k1 ≤ kmc K) (hl : k2 ≤ kms K) : Z G K n σ k1 k2 pc lv [.int x] := fun H locs ls h1 h2 h3 =>
  W.widen hc hl (xt_ret (W.iret C.1 C.2.1 (C.2.2.2.1.trans hr) (fun t ht hW => ⟨.returned (some (.int x)), n, σ, rfl, hq, by rw [ht]; exact h1⟩) h2 hd C.lk))
theorem z_zret (C : zC G K y cc nL ret hs) {x : Int32} {ty : FieldType} (hr : ret = some ty) (hx : narrow ty (.int x) = .int x) (hd : decode cc pc = .ok (.ireturn, 1)) (hq : kpo K (.returned (some (.int x))) n σ) (hc : k1 ≤ kmc K) (hl : k2 ≤ kms K) : Z G K n σ k1 k2 pc lv [.int x] := fun H locs ls h1 h2 h3 =>
  W.widen hc hl (xt_ret (W.zret C.1 C.2.1 (C.2.2.2.1.trans hr) hx (fun t ht hW => ⟨.returned (some (.int x)), n, σ, rfl, hq, by rw [ht]; exact h1⟩) h2 hd C.lk))
theorem z_lret (C : zC G K y cc nL ret hs) {x : Int64} (hr : ret = some .long) (hd : decode cc pc = .ok (.lreturn, 1)) (hq : kpo K (.returned (some (.long x))) n σ) (hc : k1 ≤ kmc K) (hl : k2 ≤ kms K) : Z G K n σ k1 k2 pc lv [.long x] := fun H locs ls h1 h2 h3 =>
  W.widen hc hl (xt_ret (W.lret C.1 C.2.1 (C.2.2.2.1.trans hr) (fun t ht hW => ⟨.returned (some (.long x)), n, σ, rfl, hq, by rw [ht]; exact h1⟩) h2 hd C.lk))
theorem z_vret (C : zC G K y cc nL ret hs) (hr : ret = none) (hd : decode cc pc = .ok (.return_, 1)) (hq : kpo K (.returned none) n σ) (hc : k1 ≤ kmc K) (hl : k2 ≤ kms K) : Z G K n σ k1 k2 pc lv [] := fun H locs ls h1 h2 h3 =>
  W.widen hc hl (xt_ret (W.vret C.1 C.2.1 (C.2.2.2.1.trans hr) (fun t ht hW => ⟨.returned none, n, σ, rfl, hq, by rw [ht]; exact h1⟩) h2 hd C.lk))
theorem z_aret (C : zC G K y cc nL ret hs) {x : Nat} {D : String} (hr : ret = some (.object D)) (hd : decode cc pc = .ok (.areturn, 1)) (hq : kpo K (.returned (some (.ref x))) n σ) (hc : k1 ≤ kmc K) (hl : k2 ≤ kms K) : Z G K n σ k1 k2 pc lv [.ref x] := fun H locs ls h1 h2 h3 =>
  W.widen hc hl (xt_ret (W.aret C.1 C.2.1 (C.2.2.2.1.trans hr) (Or.inl ⟨_, rfl⟩) (Or.inr ⟨_, rfl⟩) (fun t ht hW => ⟨.returned (some (.ref x)), n, σ, rfl, hq, by rw [ht]; exact h1⟩) h2 hd C.lk))
end ZM
end
section
section ZL
variable {G : zG} {K : zK} {y : MethodName} {cc : ByteArray} {nL : Nat} {ret : Option FieldType} {hs : List (Nat × Nat × Nat × Nat)} {n k1 k2 pc : Nat} {σ : zS} {lv : List (Nat × Value)} {st : List Value}
def zRm (d mc ms : Nat) : Room := { frames := d, cells := mc, slots := ms, locals := 60 * d }
/-- a method's code word: without handlers, or with them -/
def zWd (y : MethodName) (cc : ByteArray) (nL : Nat) (ret : Option FieldType) (hs : List (Nat × Nat × Nat × Nat)) : Cond := match hs with
  | [] => .code y cc nL ret
  | h :: t => .codeWith y cc nL ret (h :: t)
theorem zWd_spec {a : Array Value} {u : State} {mk : MethodId} (h : (zWd y cc nL ret hs).before a u = true) (hn : u.methodNamed? y = some mk) :
    ∃ meth c, u.vm.method? mk = some meth ∧ meth.code = some c ∧ c.code = cc ∧ c.maxLocals = nL ∧ meth.sig.returnType = ret ∧ meth.locks = false ∧ c.exceptionTable.toList.map (fun h => (h.startPc, h.endPc, h.handlerPc, h.catchType)) = hs ∧ parseMethodDescriptor y.desc = some meth.sig := by
  cases hs with
  | nil =>
    obtain ⟨meth, c, h1, h2, h3, h4, h5, h6, h7, h8⟩ := Cond.code_spec hn h
    refine ⟨meth, c, h1, h2, h3, h4, h5, h6, ?_, h8⟩
    have h0 : c.exceptionTable.size = 0 := by simpa [Array.isEmpty] using h7
    have h9 : c.exceptionTable.toList = [] := List.eq_nil_of_length_eq_zero (by simpa using h0)
    rw [h9]; rfl
  | cons x t =>
    obtain ⟨m, meth, c, h0, h1, h2, h3, h4, h5, h6, h7, h8⟩ := Cond.codeWith_spec h
    cases h0.symm.trans hn
    exact ⟨meth, c, h1, h2, h3, h4, h6, h7, h5, h8⟩
def MetZ (G : zG) (l : Launch) (y : MethodName) (cc : ByteArray) (nL : Nat) (ret : Option FieldType) (hs : List (Nat × Nat × Nat × Nat)) (d mc ms : Nat) (av : List Value) (n : Nat) (σ : zS) (post : zPost) : Prop :=
  l.stackTraces = false → xt_Met l y (zWd y cc nL ret hs :: zTb) (zRm d mc ms) (zPc G av n σ) (zQc G post) mc ms (fun q => zz G ≤ q)
theorem zargs_map (G : zG) : ∀ (av : List Value) (i : Nat), lv_args i (av.map (zV G)) = (lv_args i av).map (fun q => (q.1, zV G q.2))
  | [], _ => rfl
  | v :: t, i => by
    rw [List.map_cons, lv_args, lv_args, List.map_cons, zV_cat, zargs_map G t]
theorem zargs_len (G : zG) : ∀ av : List Value, (lg_sl (av.map (zV G))).length = (lg_sl av).length
  | [] => rfl
  | v :: t => by
    have h := zargs_len G t
    simp only [lg_sl, List.map_cons, List.flatMap_cons, List.length_append, zV_cat] at h ⊢
    rw [h]
    congr 1
    split <;> rfl
theorem MetZ.of {l : Launch} {d mc ms : Nat} {av : List Value} {post : zPost} (hy : plainName y.cls = true) (hl : (lg_sl av).length ≤ nL)
    (body : ∀ K : zK, kl K = l → kR K = zRm d mc ms → kpo K = post → kmc K = mc → kms K = ms → zC G K y cc nL ret hs → Z G K n σ 0 0 0 (lv_args 0 av) []) : MetZ G l y cc nL ret hs d mc ms av n σ post := by
  intro htr
  refine xt_ofW (cc := cc) (maxL := nL) (ret := ret) hy (fun a u mk h hn => ?_) ?_
  · obtain ⟨meth, c, h1, h2, h3, h4, h5, h6, -, -⟩ := zWd_spec (h _ List.mem_cons_self) hn
    exact ⟨meth, c, h1, h2, h3, h4, h5, h6⟩
  · intro p e s m args below meth c s₁ B hml hv
    obtain ⟨rfl, hH, hK, hS⟩ := hv
    have hpre := atoms_spec (ws := zWd y cc nL ret hs :: zTb) B.pre
    obtain ⟨meth', c', m1, m2, -, -, -, -, m7, -⟩ := zWd_spec (hpre _ List.mem_cons_self) B.named
    cases B.method.symm.trans m1
    cases (Stand.of_body B).code.symm.trans m2
    have k := body (p, l, e, zRm d mc ms, s, m, (av.map (zV G)).toArray, below, meth, c, post, mc, ms) rfl rfl rfl rfl rfl
      ⟨B.exec, B.bytes, hml, B.returns, findClass_of_methodNamed B.named, fun w hw => hpre w (List.mem_cons_of_mem _ hw), hK, B.notSynchronized, m7, (name_of_methodNamed B.named B.method).1, htr, hS⟩
    have hle := lv_entry (av.map (zV G)) (n := nL) (by rw [zargs_len]; exact hl)
    rw [zargs_map] at hle
    rw [lg_entry_eq]
    refine k s.heap [] _ hH (fun q hq => nomatch hq) ?_
    show lv_has _ c.maxLocals _
    rw [hml]
    exact hle
/-- the way from an invoking instruction to the callee -/
def zGo (K : zK) (g g' : JFrame) (y : MethodName) (a : Array Value) (H : Heap) : Prop := ∀ (T : State) (locs : List Loc) (k1 k2 : Nat), T.heap = H → Stand (kp K) (kl K) (ke K) (kR K) (ks K) (km K) (ka K) (kb K) (kme K) (kc K) T locs k1 k2 →
  ∃ (vm₁ : Vm) (mk : MethodId), Stand (kp K) (kl K) (ke K) (kR K) (ks K) (km K) (ka K) (kb K) (kme K) (kc K) (T.setVm vm₁) locs k1 k2 ∧ (T.setVm vm₁).methodNamed? y = some mk ∧
    ∀ target, (∀ acts, Steps (kp K).tables (ke K) (kb K) (doInvoke (ke K) ((T.setVm vm₁).setTop g') acts mk a).1 target) → Steps (kp K).tables (ke K) (kb K) (T.setTop g) target
/-- an exception x on its way through the frame -/
def ZX (G : zG) (K : zK) (n : Nat) (σ : zS) (k1 k2 pc : Nat) (lv : List (Nat × Value)) (st : List Value) (x : Nat) : Prop :=
  ∀ (H : Heap) (locs : List Loc) (ls : Array Slot), zHW G n σ H → (∀ q ∈ locs, zz G ≤ q.base) → lv_has ls (kc K).maxLocals (lv.map fun q => (q.1, zV G q.2)) →
    ∀ T : State, T.heap = H → Stand (kp K) (kl K) (ke K) (kR K) (ks K) (km K) (ka K) (kb K) (kme K) (kc K) T locs k1 k2 →
      ∃ t, Steps (kp K).tables (ke K) (kb K) ((T.setTop (F0 (km K) pc ls (st.map (zV G)))).pushFrame (.throwing (zad G x))) t ∧ zQ G K t
theorem zx_out (C : zC G K y cc nL ret hs) {x : Nat} (hout : ∀ h ∈ hs, (decide (h.1 ≤ pc) && decide (pc < h.2.1)) = false) (hq : kpo K (.threw x) n σ) (hc : k1 ≤ kmc K) (hl : k2 ≤ kms K) : ZX G K n σ k1 k2 pc lv st x := by
  intro H locs ls h1 h2 h3 T hT X
  have ho : ∀ z ∈ (kc K).exceptionTable.toList, covers z pc = false := fun z hz => by
    have h9 : (z.startPc, z.endPc, z.handlerPc, z.catchType) ∈ hs := by rw [← C.tab]; exact List.mem_map.mpr ⟨z, hz, rfl⟩
    exact hout _ h9
  obtain ⟨s1, s2, s3, s4, s5⟩ := (stand_widen X hc hl).leaveThrown (zad G x) (g := F0 (km K) pc ls (st.map (zV G))) rfl rfl rfl ho C.lk
  exact ⟨_, s1, .threw (zad G x), s2, s3, ⟨.threw x, n, σ, rfl, hq, by show zHW G n σ T.heap; rw [hT]; exact h1⟩, locs, ⟨s4, s5⟩, h2⟩
theorem z_call (C : zC G K y cc nL ret hs) (pc' : Nat) {yc : MethodName} {ccc : ByteArray} {nLc d mc ms len : Nat} {retc : Option FieldType} {hsc : List (Nat × Nat × Nat × Nat)} {av st0 : List Value} {post : zPost} {ig : Instr}
    (hM : MetZ G (kl K) yc ccc nLc retc hsc d mc ms av n σ post) (hwd : zWd yc ccc nLc retc hsc ∈ zTb) (hini : Cond.initialized yc.cls ∈ zTb) (hd : decode cc pc = .ok (ig, len)) (hp : pc + len = pc')
    (hgo : ∀ (H : Heap) (ls : Array Slot), zHW G n σ H → ls.size = (kc K).maxLocals → zGo K (F0 (km K) pc ls (st0.map (zV G))) (F0 (km K) pc ls (st.map (zV G))) yc (av.map (zV G)).toArray H)
    (hwt : (st.map fun v => v.category).sum ≤ 8) (hfr : d + 1 ≤ (kR K).frames) (hlo : 8 + (nLc + 11) + 60 * d ≤ (kR K).locals) (hc : k1 + mc ≤ (kR K).cells) (hl : k2 + ms ≤ (kR K).slots)
    (kr : ∀ v n' σ', post (.returned v) n' σ' → Z G K n' σ' (k1 + mc) (k2 + ms) pc' lv (v.toList ++ st))
    (kx : ∀ x n' σ', post (.threw x) n' σ' → ZX G K n' σ' (k1 + mc) (k2 + ms) pc lv st x) : Z G K n σ k1 k2 pc lv st0 := by
  subst hp
  intro H locs ls h1 h2 h3 T hT X
  obtain ⟨vm₁, mk, X₁, hn, hstep⟩ := hgo H ls h1 h3.1 T locs k1 k2 hT X
  have hT1 : (T.setVm vm₁).heap = H := hT
  have hws : ∀ w ∈ zTb, ∀ a' : Array Value, w.before a' (T.setVm vm₁) = true := fun w hw a' => zok_at X₁.warmed (zt_ok w hw) (C.ts w hw)
  obtain ⟨methY, cY, m1, m2, -, m4, -, -, -, -⟩ := zWd_spec (hws _ hwd #[]) hn
  obtain ⟨o, t, T', L, hq, hL, e1, e2, hW', X', hret, hthr⟩ := xt_call (hM C.tr) X₁ (g := F0 (km K) pc ls (st.map (zV G))) rfl h3.1 (by rw [C.2.1]; exact hd) (W9 := 8) (maxL := nLc)
    (by
      have hcat : ((st.map (zV G)).map fun v => v.category) = st.map fun v => v.category := by rw [List.map_map]; exact List.map_congr_left (fun v _ => zV_cat G v)
      exact lv_room (by rw [hcat]; exact hwt)) hn (av.map (zV G)).toArray rfl rfl hfr hlo
    (fun w hw => by
      rcases List.mem_cons.mp hw with rfl | hw
      · exact hws _ hwd _
      · exact hws w hw _) m1 m2 m4 (hws _ hini _) hc hl
    ⟨rfl, by show zHW G n σ (T.setVm vm₁).heap; rw [hT1]; exact h1, va_K.moved X₁.warmed.alike C.kk, zStat.moved X₁.warmed (fun q hq => (by show (T.setVm vm₁).heap[q]? = _; rw [hT1]; exact (h1.2.2.1 q hq))) C.stat⟩
  obtain ⟨o', n', σ', rfl, hpo, hH'⟩ := hq
  have h2' : ∀ q ∈ locs ++ L, zz G ≤ q.base := fun q hq => (List.mem_append.mp hq).elim (h2 q) (hL q)
  cases o' with
  | returned v =>
    obtain ⟨t2, a1, b1⟩ := kr v n' σ' hpo T'.heap (locs ++ L) ls (by rw [e1]; exact hH') h2' h3 T' rfl X'
    refine ⟨t2, hstep _ (fun acts => ?_), b1⟩
    rw [doInvoke_state]
    refine (hret _ rfl).trans ?_
    have e : (v.toList ++ st).map (zV G) = (v.map (zV G)).toList ++ st.map (zV G) := by cases v <;> simp
    rw [e] at a1
    exact a1
  | threw x =>
    obtain ⟨t2, a1, b1⟩ := kx x n' σ' hpo T'.heap (locs ++ L) ls (by rw [e1]; exact hH') h2' h3 T' rfl X'
    refine ⟨t2, hstep _ (fun acts => ?_), b1⟩
    rw [doInvoke_state]
    exact (hthr _ rfl).trans a1
/-- words of a call: link, kind, selection -/
def zLV (own : String) (idx : Nat) (Cn : String) (y : MethodName) (k : Nat) : Prop := Cond.methodLink own idx y ∈ zTb ∧ Cond.instanceMethod y ∈ zTb ∧ Cond.selects Cn y y ∈ zTb ∧ (y.cls ≠ "java/lang/invoke/MethodHandle" ∧ y.cls ≠ "java/lang/invoke/VarHandle") ∧ (parseMethodDescriptor y.desc).map (fun q => q.parameters.length) = some k
theorem z_len {y : MethodName} {k : Nat} {sig : MethodDescriptor} (h : (parseMethodDescriptor y.desc).map (fun q => q.parameters.length) = some k) (hs : parseMethodDescriptor y.desc = some sig) : k = sig.parameters.length := by
  rw [hs] at h
  exact (Option.some.inj h).symm
theorem z_goV (C : zC G K y cc nL ret hs) {yc : MethodName} {ccc : ByteArray} {nLc idx ci i k : Nat} {retc : Option FieldType} {hsc : List (Nat × Nat × Nat × Nat)} {Cn : String} {T0 : u_T} {N : Nat} {fs As : List Value}
    (hL : zLV y.cls idx Cn yc k) (hwd : zWd yc ccc nLc retc hsc ∈ zTb) (hd : decode cc pc = .ok (.invokevirtual idx, 3)) (hi : i < n) (hσ : σ i = .inr (ci, fs)) (hcl : zCl[ci]? = some (Cn, T0, N)) (hk : As.length = k) :
    ∀ (H : Heap) (ls : Array Slot), zHW G n σ H → ls.size = (kc K).maxLocals → zGo K (F0 (km K) pc ls ((As.reverse ++ .ref i :: st).map (zV G))) (F0 (km K) pc ls (st.map (zV G))) yc ((.ref i :: As).map (zV G)).toArray H := by
  intro H ls h1 hsz T locs k1 k2 hT X
  obtain ⟨l1, l2, l3, l4, l5⟩ := hL
  obtain ⟨mk, methM, hnamed, hmethM, hstM, habM⟩ := Cond.instanceMethod_spec (C.ts _ l2)
  obtain ⟨methM', cM, hmethM', -, -, -, -, -, -, hsigM⟩ := zWd_spec (C.ts _ hwd) hnamed
  cases hmethM.symm.trans hmethM'
  obtain ⟨c2, r2, m2, q1, q2, q3, q4, kP, hkP, hkPi⟩ := Cond.selects_spec (C.ts _ l3)
  have hat := h1.2.2.2 i hi
  rw [hσ] at hat
  obtain ⟨r, r1, cell, z1, z2, z3, -⟩ := hat
  have hcls : (ks K).vm.findClass Cn = some cell.cls := by rw [z2]; exact (C.kk.1 ci _ hcl).2.1
  cases hcls.symm.trans q1
  cases (State.methodFound?_of_named hnamed l4).symm.trans q2
  cases hnamed.symm.trans q3
  have hselP : selectMethod (ke K).platform (ks K).vm cell.cls mk = .method mk := by rw [Launch.admits_selectMethod X.admits]; exact q4
  have hza : zad G i = zz G + i := zad_lt (Nat.lt_of_lt_of_le hi h1.2.1)
  obtain ⟨vm₁, X₁, hstep₁⟩ := X.invokevirtual C.1 C.own (C.ts _ l1) hnamed hmethM hstM hkP hkPi l4 (a := zad G i) (cell := cell) (by rw [hT, hza]; exact z1)
    (fun z h => by rw [z3] at h; cases h) hselP hmethM habM hkP hkPi (g := F0 (km K) pc ls ((As.reverse ++ .ref i :: st).map (zV G))) rfl (argsL := As.map (zV G)) (rest := st.map (zV G))
    (by rw [List.length_map, hk]; exact z_len l5 hsigM) (by simp [zV]) (by rw [C.2.1]; exact hd)
  exact ⟨vm₁, mk, X₁, X₁.named hnamed, hstep₁⟩
def zLS (own : String) (idx : Nat) (y : MethodName) (k : Nat) : Prop := Cond.methodLink own idx y ∈ zTb ∧ Cond.static y ∈ zTb ∧ Cond.initialized y.cls ∈ zTb ∧ (y.cls ≠ "java/lang/invoke/MethodHandle" ∧ y.cls ≠ "java/lang/invoke/VarHandle") ∧ (parseMethodDescriptor y.desc).map (fun q => q.parameters.length) = some k
theorem z_goS (C : zC G K y cc nL ret hs) {yc : MethodName} {ccc : ByteArray} {nLc idx k : Nat} {retc : Option FieldType} {hsc : List (Nat × Nat × Nat × Nat)} {As : List Value}
    (hL : zLS y.cls idx yc k) (hwd : zWd yc ccc nLc retc hsc ∈ zTb) (hnm : ∀ (a : Array Value) (u : State), (zWd yc ccc nLc retc hsc).before a u = true → ∃ mk, u.methodNamed? yc = some mk) (hd : decode cc pc = .ok (.invokestatic idx, 3)) (hk : As.length = k) :
    ∀ (H : Heap) (ls : Array Slot), zHW G n σ H → ls.size = (kc K).maxLocals → zGo K (F0 (km K) pc ls ((As.reverse ++ st).map (zV G))) (F0 (km K) pc ls (st.map (zV G))) yc (As.map (zV G)).toArray H := by
  intro H ls h1 hsz T locs k1 k2 hT X
  obtain ⟨l1, l2, l3, l4, l5⟩ := hL
  obtain ⟨mk, hnamed⟩ := hnm _ _ (C.ts _ hwd)
  obtain ⟨methM, cM, hmethM, -, -, -, -, -, -, hsigM⟩ := zWd_spec (C.ts _ hwd) hnamed
  have hstatic : methM.isStatic = true := Cond.static_spec hnamed hmethM (C.ts _ l2)
  obtain ⟨kP, hkP, -⟩ := className_of_methodNamed hnamed
  have hinitP : kP.init = .initialized := Cond.initialized_spec (findClass_of_methodNamed hnamed) hkP (C.ts _ l3)
  obtain ⟨vm₁, X₁, hstep₁⟩ := X.invokestatic C.1 C.own (C.ts _ l1) hnamed hmethM hstatic hkP hinitP l4 (g := F0 (km K) pc ls ((As.reverse ++ st).map (zV G))) rfl (argsL := As.map (zV G)) (rest := st.map (zV G))
    (by rw [List.length_map, hk]; exact z_len l5 hsigM) (by simp) (by rw [C.2.1]; exact hd)
  exact ⟨vm₁, mk, X₁, X₁.named hnamed, hstep₁⟩
def zLI (own : String) (idx : Nat) (y : MethodName) (k : Nat) : Prop := Cond.methodLink own idx y ∈ zTb ∧ Cond.instanceMethod y ∈ zTb ∧ y.name = "<init>" ∧ (y.cls ≠ "java/lang/invoke/MethodHandle" ∧ y.cls ≠ "java/lang/invoke/VarHandle") ∧ (parseMethodDescriptor y.desc).map (fun q => q.parameters.length) = some k
theorem z_goI (C : zC G K y cc nL ret hs) {yc : MethodName} {ccc : ByteArray} {nLc idx i k : Nat} {As : List Value}
    (hL : zLI y.cls idx yc k) (hwd : zWd yc ccc nLc none [] ∈ zTb) (hd : decode cc pc = .ok (.invokespecial idx, 3)) (hk : As.length = k) :
    ∀ (H : Heap) (ls : Array Slot), zHW G n σ H → ls.size = (kc K).maxLocals → zGo K (F0 (km K) pc ls ((As.reverse ++ .ref i :: st).map (zV G))) (F0 (km K) pc ls (st.map (zV G))) yc ((.ref i :: As).map (zV G)).toArray H := by
  intro H ls h1 hsz T locs k1 k2 hT X
  obtain ⟨l1, l2, l3, l4, l5⟩ := hL
  have hpl : (ke K).platform.magicAccessors = ({} : Platform).magicAccessors := by rw [X.admits.platform]
  obtain ⟨mk, methM, cM, kP, vm₁, hnamed, hmethM, hcodeM, -, hlocalsM, -, hkP, -, hW₁, hstep₁⟩ := Steps.initColdArgs (e := ke K) X.here C.1 X.warmed hpl C.own l3 l4 (C.ts _ l1) (C.ts _ l2) (C.ts _ hwd) (f := F0 (km K) pc ls ((As.reverse ++ .ref i :: st).map (zV G))) rfl (argsL := As.map (zV G)) (rest := st.map (zV G)) (a := zad G i)
    (fun sig hsig => by rw [List.length_map, hk]; exact z_len l5 hsig) (by simp [zV]) (by rw [C.2.1]; exact hd)
  have X₁ := X.noted hW₁
  exact ⟨vm₁, mk, X₁, X₁.named hnamed, hstep₁⟩
end ZL
end
section
section ZO
variable {G : zG} {K : zK} {y : MethodName} {cc : ByteArray} {nL : Nat} {ret : Option FieldType} {hs : List (Nat × Nat × Nat × Nat)} {n k1 k2 pc : Nat} {σ : zS} {lv : List (Nat × Value)} {st : List Value}
def zLIN (own : String) (idx : Nat) (y : MethodName) (k : Nat) : Prop := (∃ host, Cond.methodLinkNest own idx y host ∈ zTb) ∧ Cond.instanceMethod y ∈ zTb ∧ y.name = "<init>" ∧ (y.cls ≠ "java/lang/invoke/MethodHandle" ∧ y.cls ≠ "java/lang/invoke/VarHandle") ∧ (parseMethodDescriptor y.desc).map (fun q => q.parameters.length) = some k
theorem z_goIN (C : zC G K y cc nL ret hs) {yc : MethodName} {ccc : ByteArray} {nLc idx i k : Nat} {As : List Value}
    (hL : zLIN y.cls idx yc k) (hwd : zWd yc ccc nLc none [] ∈ zTb) (hd : decode cc pc = .ok (.invokespecial idx, 3)) (hk : As.length = k) :
    ∀ (H : Heap) (ls : Array Slot), zHW G n σ H → ls.size = (kc K).maxLocals → zGo K (F0 (km K) pc ls ((As.reverse ++ .ref i :: st).map (zV G))) (F0 (km K) pc ls (st.map (zV G))) yc ((.ref i :: As).map (zV G)).toArray H := by
  intro H ls h1 hsz T locs k1 k2 hT X
  obtain ⟨⟨host, l1⟩, l2, l3, l4, l5⟩ := hL
  have hpl : (ke K).platform.magicAccessors = ({} : Platform).magicAccessors := by rw [X.admits.platform]
  obtain ⟨mk, methM, cM, kP, vm₁, hnamed, hmethM, hcodeM, -, hlocalsM, -, hkP, -, hW₁, hstep₁⟩ := Steps.initColdArgsNest (e := ke K) X.here C.1 X.warmed hpl C.own l3 l4 (C.ts _ l1) (C.ts _ l2) (C.ts _ hwd) (f := F0 (km K) pc ls ((As.reverse ++ .ref i :: st).map (zV G))) rfl (argsL := As.map (zV G)) (rest := st.map (zV G)) (a := zad G i)
    (fun sig hsig => by rw [List.length_map, hk]; exact z_len l5 hsig) (by simp [zV]) (by rw [C.2.1]; exact hd)
  have X₁ := X.noted hW₁
  exact ⟨vm₁, mk, X₁, X₁.named hnamed, hstep₁⟩
theorem z_objinit (C : zC G K y cc nL ret hs) (pc' : Nat) {i idx : Nat} (hd : decode cc pc = .ok (.invokespecial idx, 3)) (hp : pc + 3 = pc') (hl : Cond.methodLink y.cls idx Lib.objectInit ∈ zTb) (hi : Cond.instanceMethod Lib.objectInit ∈ zTb) (hc : Cond.code Lib.objectInit ⟨#[0xb1]⟩ 1 none ∈ zTb)
    (hf : 1 ≤ (kR K).frames) (hlo : (st.map fun v => v.category).sum + 12 ≤ (kR K).locals) (k : Z G K n σ k1 k2 pc' lv st) : Z G K n σ k1 k2 pc lv (.ref i :: st) := by
  subst hp
  intro H locs ls h1 h2 h3
  have hcat : ((st.map (zV G)).map fun v => v.category) = st.map fun v => v.category := by rw [List.map_map]; exact List.map_congr_left (fun v _ => zV_cat G v)
  exact W.objInit C.1 C.2.1 C.own (C.ts _ hl) (C.ts _ hi) (C.ts _ hc) (g := F0 (km K) pc ls (.ref (zad G i) :: st.map (zV G))) rfl h3.1 rfl hd hf (by
    show 2 * (F0 (km K) pc ls _).monitorRoom + ((st.map (zV G)).map fun v => v.category).sum + 12 ≤ _
    rw [hcat]
    have : (F0 (km K) pc ls (Value.ref (zad G i) :: st.map (zV G))).monitorRoom = 0 := rfl
    omega) (k H locs ls h1 h2 h3)
theorem z_ldc2 (C : zC G K y cc nL ret hs) (pc' : Nat) {idx : Nat} (v : Int64) (hd : decode cc pc = .ok (.ldc2_w idx, 3)) (hp : pc + 3 = pc') (hw : Cond.constantLong y.cls idx v ∈ zTb) (k : Z G K n σ k1 k2 pc' lv (.long v :: st)) : Z G K n σ k1 k2 pc lv st := by
  subst hp
  exact fun H locs ls h1 h2 h3 => lv_ldc2 C.1 C.2.1 C.own (C.ts _ hw) hd (k H locs ls h1 h2 h3)
theorem z_tableIn (C : zC G K y cc nL ret hs) (tgt : Nat) {dflt lo hi : Int} {offs : Array Int} {len : Nat} {x : Int32} {off : Int} (hd : decode cc pc = .ok (.tableswitch dflt lo hi offs, len)) (h1 : ¬ x.toInt < lo) (h2 : ¬ hi < x.toInt) (ho : offs[(x.toInt - lo).toNat]? = some off) (ht : (pc : Int) + off = (tgt : Int)) (k : Z G K n σ k1 k2 tgt lv st) : Z G K n σ k1 k2 pc lv (.int x :: st) :=
  fun H locs ls a b c => lv_tableIn C.1 C.2.1 hd h1 h2 ho ht (k H locs ls a b c)
theorem z_tableOut (C : zC G K y cc nL ret hs) (tgt : Nat) {dflt lo hi : Int} {offs : Array Int} {len : Nat} {x : Int32} (hd : decode cc pc = .ok (.tableswitch dflt lo hi offs, len)) (h : x.toInt < lo ∨ hi < x.toInt) (ht : (pc : Int) + dflt = (tgt : Int)) (k : Z G K n σ k1 k2 tgt lv st) : Z G K n σ k1 k2 pc lv (.int x :: st) :=
  fun H locs ls a b c => lv_tableOut C.1 C.2.1 hd h ht (k H locs ls a b c)
theorem z_lookup (C : zC G K y cc nL ret hs) (tgt : Nat) {dflt : Int} {ps : Array (Int × Int)} {len : Nat} {x : Int32} {off : Int} (hd : decode cc pc = .ok (.lookupswitch dflt ps, len)) (hp : (ps.toList.zip (ps.toList.drop 1)).all (fun (a, next) => a.1 < next.1) = true) (ho : Op.lookupswitch.offset ps.toList dflt x.toInt = off) (ht : (pc : Int) + off = (tgt : Int)) (k : Z G K n σ k1 k2 tgt lv st) : Z G K n σ k1 k2 pc lv (.int x :: st) :=
  fun H locs ls a b c => lv_lookup C.1 C.2.1 hd hp ho ht (k H locs ls a b c)
theorem z_arrlen (C : zC G K y cc nL ret hs) (pc' : Nat) {i t : Nat} {a : vp_A} {ty : FieldType} (ht : zTy[t]? = some ty) (hd : decode cc pc = .ok (.arraylength, 1)) (hp : pc + 1 = pc') (hi : i < n) (hσ : σ i = .inl (t, a)) (hz : (zA G a).1 = a.1)
    (k : Z G K n σ k1 k2 pc' lv (.int (nI a.1) :: st)) : Z G K n σ k1 k2 pc lv (.ref i :: st) := by
  subst hp
  intro H locs ls h1 h2 h3
  have hat := h1.2.2.2 i hi
  rw [hσ] at hat
  have kk := k H locs ls h1 h2 h3
  show W _ _ _ _ _ _ _ _ _ _ H locs k1 k2 _ (F0 _ pc ls (.ref (zad G i) :: st.map (zV G)))
  rw [zad_lt (Nat.lt_of_lt_of_le hi h1.2.1)]
  have htt : (zT G)[t]? = some (zcA G t, ty) := by
    unfold zT
    rw [List.getElem?_map, List.getElem?_zipIdx, ht]
    simp
  refine va_alen (D := zD G) (cl := zCl) (tys := zT G) (ws := [(zz G + i, zE G (.inl (t, a)))]) C.1 C.2.1 C.kk (fun k q hq => ?_) 0 t rfl htt (v := nI a.1) (by rw [hz]; rfl) hd kk
  cases k with
  | zero => cases hq; exact hat
  | succ k => cases hq
theorem z_aald (C : zC G K y cc nL ret hs) (pc' : Nat) {i t len : Nat} {j : Int32} {f : Nat → Option Nat} (jn : Nat) {ty : FieldType} (r : Option Nat) (hd : decode cc pc = .ok (.aaload, 1)) (hp : pc + 1 = pc') (hi : i < n) (hσ : σ i = .inl (t, len, .inr (.inr (.inr (.inr f))))) (ht : zTy[t]? = some ty) (hty : ty.isReference = true) (hj : j = nI jn) (hl : jn < len) (hs : len < 2 ^ 31) (hr : f jn = r)
    (k : Z G K n σ k1 k2 pc' lv (va_rf r :: st)) : Z G K n σ k1 k2 pc lv (.int j :: .ref i :: st) := by
  subst hp; subst hj; subst hr
  intro H locs ls h1 h2 h3
  have hat := h1.2.2.2 i hi
  rw [hσ] at hat
  have hcl : (nI jn).toNatClampNeg = jn := nI_clamp (Nat.lt_trans hl hs)
  have kk := k H locs ls h1 h2 h3
  show W _ _ _ _ _ _ _ _ _ _ H locs k1 k2 _ (F0 _ pc ls (.int (nI jn) :: .ref (zad G i) :: st.map (zV G)))
  rw [zad_lt (Nat.lt_of_lt_of_le hi h1.2.1)]
  have hc : H[zz G + i]? = some (vp_cell (zcA G t) (len, .inr (.inr (.inr (.inr (fun i => (f i).map (zad G))))))) := hat
  rw [vp_cell_q] at hc
  refine W.aald (v := zV G (va_rf (f jn))) (ty := ty) C.1 C.2.1 hc ((z_arrT C.kk ht).1 len (fun j => va_rf ((f j).map (zad G)))) hty (fun q => by cases q) (by rw [arrV_size]; exact vp_in_nI hl hs) (by rw [hcl, arrV_read _ _ hl, zV_rf]) rfl rfl hd kk
theorem z_anew (C : zC G K y cc nL ret hs) (pc' : Nat) {idx t : Nat} {j : Int32} {D : String} (len : Nat) (ht : zTy[t]? = some (.object D)) (hw : Cond.classLink y.cls idx D ∈ zTb) (ho : Cond.arrayOver (.object D) ∈ zTb) (hd : decode cc pc = .ok (.anewarray idx, 3)) (hp : pc + 3 = pc') (hj : j = nI len) (hs : len < 2 ^ 31) (hb : len * 4 ≤ 536870912) (hn : n < 1000000) (hc : k1 + 1 ≤ (kR K).cells) (hl : k2 + len ≤ (kR K).slots)
    (k : Z G K (n + 1) (va_up σ n (.inl (t, len, .inr (.inr (.inr (.inr (fun _ => none))))))) (k1 + 1) (k2 + len) pc' lv (.ref n :: st)) : Z G K n σ k1 k2 pc lv (.int j :: st) := by
  subst hp; subst hj
  intro H locs ls h1 h2 h3
  have hcl : (nI len).toNatClampNeg = len := nI_clamp hs
  refine W.anew C.1 C.2.1 C.own (C.ts _ hw) (C.ts _ ho) (g := F0 (km K) pc ls (.int (nI len) :: st.map (zV G))) rfl hd rfl (nI_pos hs) (by rw [hcl]; exact hb) hc (by rw [hcl]; exact hl) fun cA kA comp f1 f2 f3 f4 => ?_
  rw [hcl]
  obtain ⟨kA', comp', g1, g2, g3, g4⟩ := (z_arrT C.kk ht).2
  have hcA : cA = zcA G t := Option.some.inj (f1.symm.trans g4)
  subst hcA
  generalize hH1 : H.push ({ cls := zcA G t, slots := Array.replicate len .null, vm := .none } : Cell) = H1
  have z1 : H1.size = H.size + 1 := by rw [← hH1, Array.size_push]
  have e1 : H1[H.size]? = some (arrV (zcA G t) len (fun _ => .null)) := by rw [← hH1, Array.getElem?_push_size, ← arrV_new]
  have o1 : ∀ q : Nat, q < H.size → H1[q]? = H[q]? := fun q hq => by rw [← hH1, Array.getElem?_push, if_neg (Nat.ne_of_lt hq)]
  have hat : va_at (zD G) zCl (zz G + n, zE G (.inl (t, len, .inr (.inr (.inr (.inr (fun _ => none))))))) H1 := by
    show H1[zz G + n]? = some (vp_cell (zcA G t) (len, .inr (.inr (.inr (.inr (fun i => (none : Option Nat).map (zad G)))))))
    rw [vp_cell_q, ← h1.1]
    exact e1
  have kk := k H1 locs ls (h1.push hn z1 o1 hat) h2 h3
  have e : (.ref H.size : Value) = zV G (.ref n) := by show _ = Value.ref (zad G n); rw [zad_lt hn, h1.1]
  show W _ _ _ _ _ _ _ _ _ _ H1 locs (k1 + 1) (k2 + len) _ (F0 _ (pc + 3) ls (.ref H.size :: st.map (zV G)))
  rw [e]
  exact kk
theorem z_aast (C : zC G K y cc nL ret hs) (pc' : Nat) {i t len x ci : Nat} {j : Int32} {f : Nat → Option Nat} {D : String} {T0 : u_T} {N : Nat} {vs : List Value} (jn : Nat) (hd : decode cc pc = .ok (.aastore, 1)) (hp : pc + 1 = pc') (hi : i < n) (hσ : σ i = .inl (t, len, .inr (.inr (.inr (.inr f))))) (ht : zTy[t]? = some (.object D)) (hx : x < n) (hσx : σ x = .inr (ci, vs)) (hcl : zCl[ci]? = some (D, T0, N)) (hj : j = nI jn) (hl : jn < len) (hs : len < 2 ^ 31)
    (k : Z G K n (va_up σ i (.inl (t, len, .inr (.inr (.inr (.inr (va_up f jn (some x)))))))) k1 k2 pc' lv st) : Z G K n σ k1 k2 pc lv (.ref x :: .int j :: .ref i :: st) := by
  subst hp; subst hj
  intro H locs ls h1 h2 h3
  have hat := h1.2.2.2 i hi
  rw [hσ] at hat
  have hax := h1.2.2.2 x hx
  rw [hσx] at hax
  have hcn : (nI jn).toNatClampNeg = jn := nI_clamp (Nat.lt_trans hl hs)
  show W _ _ _ _ _ _ _ _ _ _ H locs k1 k2 _ (F0 _ pc ls (.ref (zad G x) :: .int (nI jn) :: .ref (zad G i) :: st.map (zV G)))
  rw [zad_lt (Nat.lt_of_lt_of_le hi h1.2.1), zad_lt (Nat.lt_of_lt_of_le hx h1.2.1)]
  have hc : H[zz G + i]? = some (vp_cell (zcA G t) (len, .inr (.inr (.inr (.inr (fun i => (f i).map (zad G))))))) := hat
  rw [vp_cell_q] at hc
  obtain ⟨r', hr', cellV, g1, g2, g3, -⟩ := hax
  have hcls := (C.kk.1 ci _ hcl).2
  obtain ⟨kA, comp, e1, e2, e3, -⟩ := (z_arrT C.kk ht).2
  have hcomp : comp = (zD G).1 ci := Option.some.inj (e3.symm.trans hcls.1)
  subst hcomp
  obtain ⟨kC, hkC, -⟩ := hcls.2
  refine W.aast C.1 C.2.1 hc (fun q h => by cases h) (fun h => by cases h) e1 e2 rfl hkC ⟨nI_pos (Nat.lt_trans hl hs), by rw [arrV_size, hcn]; exact hl⟩ g1 (fun q h => by rw [g3] at h; cases h) (by rw [g2]; exact hkC) (by rw [g2]; exact va_assign hcls) rfl rfl hd fun H1 e z oq => ?_
  refine k H1 _ ls (h1.set z oq ?_) (z_locs h2 _ _) h3
  show H1[zz G + i]? = some (vp_cell (zcA G t) (len, .inr (.inr (.inr (.inr (fun i => (va_up f jn (some x) i).map (zad G)))))))
  rw [e, hcn, vp_cell_q, arrV_store]
  congr 2
  funext q
  by_cases hq : q = jn
  · subst hq
    simp [updV, va_up, va_rf, zad_lt (Nat.lt_of_lt_of_le hx h1.2.1)]
  · simp [updV, va_up, hq]
theorem z_aastN (C : zC G K y cc nL ret hs) (pc' : Nat) {i t len : Nat} {j : Int32} {f : Nat → Option Nat} {D : String} (jn : Nat) (hd : decode cc pc = .ok (.aastore, 1)) (hp : pc + 1 = pc') (hi : i < n) (hσ : σ i = .inl (t, len, .inr (.inr (.inr (.inr f))))) (ht : zTy[t]? = some (.object D)) (hj : j = nI jn) (hl : jn < len) (hs : len < 2 ^ 31)
    (k : Z G K n (va_up σ i (.inl (t, len, .inr (.inr (.inr (.inr (va_up f jn none))))))) k1 k2 pc' lv st) : Z G K n σ k1 k2 pc lv (.null :: .int j :: .ref i :: st) := by
  subst hp; subst hj
  intro H locs ls h1 h2 h3
  have hat := h1.2.2.2 i hi
  rw [hσ] at hat
  have hcn : (nI jn).toNatClampNeg = jn := nI_clamp (Nat.lt_trans hl hs)
  show W _ _ _ _ _ _ _ _ _ _ H locs k1 k2 _ (F0 _ pc ls (.null :: .int (nI jn) :: .ref (zad G i) :: st.map (zV G)))
  rw [zad_lt (Nat.lt_of_lt_of_le hi h1.2.1)]
  have hc : H[zz G + i]? = some (vp_cell (zcA G t) (len, .inr (.inr (.inr (.inr (fun i => (f i).map (zad G))))))) := hat
  rw [vp_cell_q] at hc
  refine va_WaastN (C := D) C.1 C.2.1 hc ((z_arrT C.kk ht).1 len (fun j => va_rf ((f j).map (zad G)))) (fun h => by cases h) (by rw [arrV_size]; exact vp_in_nI hl hs) rfl rfl hd fun H1 e z oq => ?_
  refine k H1 _ ls (h1.set z oq ?_) (z_locs h2 _ _) h3
  show H1[zz G + i]? = some (vp_cell (zcA G t) (len, .inr (.inr (.inr (.inr (fun i => (va_up f jn none i).map (zad G)))))))
  rw [e, hcn, vp_cell_q, arrV_store]
  congr 2
  funext q
  by_cases hq : q = jn
  · subst hq
    simp [updV, va_up, va_rf]
  · simp [updV, va_up, hq]
theorem z_arrc {c : ClassId} {N : Nat} {f g : Nat → Value} (h : ∀ j, j < N → f j = g j) : arrV c N f = arrV c N g := by
  unfold arrV
  congr 1
  exact congrArg Array.ofFn (funext fun j => h j.val j.isLt)
/-- new long[N][M] -/
def zrow (σ : zS) (n N M : Nat) : zS := fun i => if i < n then σ i else if i = n then .inl (6, N, .inr (.inr (.inr (.inr (fun j => if j < N then some (n + 1 + j) else none))))) else .inl (1, M, .inr (.inl (fun _ => 0)))
theorem z_outer (c : ClassId) (N h0 : Nat) : ∀ i : Nat, Jvm.Free.Multi.outerC c N h0 i = arrV c N (fun j => va_rf (if j < i then some (h0 + 1 + j) else none))
  | 0 => by
    show ({ cls := c, slots := Array.replicate N .null, vm := .none } : Cell) = _
    rw [arrV_new]
    exact congrArg (arrV c N) (funext fun j => by simp [va_rf])
  | i + 1 => by
    show (Jvm.Free.Multi.outerC c N h0 i).setSlot i (.ref (h0 + 1 + i)) = _
    rw [z_outer c N h0 i, arrV_store]
    refine congrArg (arrV c N) (funext fun j => ?_)
    by_cases e : j = i
    · subst e; simp [updV, va_rf]
    · by_cases h : j < i
      · simp [updV, e, h, Nat.lt_succ_of_lt h]
      · simp [updV, e, h, show ¬ j < i + 1 by omega]
theorem z_mna (C : zC G K y cc nL ret hs) (pc' : Nat) {idx : Nat} {a b : Int32} (N M : Nat) (hd : decode cc pc = .ok (.multianewarray idx 2, 4)) (hp : pc + 4 = pc') (w1 : Cond.classLink y.cls idx "[[J" ∈ zTb) (w2 : Cond.arrayOver (.array .long) ∈ zTb) (w3 : Cond.arrayClass .long ∈ zTb) (ha : a = nI N) (hb : b = nI M) (hN : N < 1000) (hM : M < 1000) (hn : n + 1 + N ≤ 1000000) (hc : k1 + (1 + N) ≤ (kR K).cells) (hl : k2 + (N + N * M) ≤ (kR K).slots)
    (k : Z G K (n + 1 + N) (zrow σ n N M) (k1 + 1 + N) (k2 + N + N * M) pc' lv (.ref n :: st)) : Z G K n σ k1 k2 pc lv (.int b :: .int a :: st) := by
  subst hp; subst ha; subst hb
  intro H locs ls h1 h2 h3 T hT X
  have cN : (nI N).toNatClampNeg = N := nI_clamp (by omega)
  have cM : (nI M).toNatClampNeg = M := nI_clamp (by omega)
  obtain ⟨vm₁, cA, comp, -, fA, fC, hO, -, X', step⟩ := X.multianewarray2F (ty := .long) C.1 C.own (C.ts _ w1) (C.ts _ w2) (C.ts _ w3) (g := F0 (km K) pc ls (.int (nI M) :: .int (nI N) :: st.map (zV G))) rfl (by rw [C.2.1]; exact hd) rfl (nI_pos (by omega)) (nI_pos (by omega)) (by rw [cN]; omega) (by rw [cM]; show M * 8 ≤ _; omega) (by rw [cM]; omega) rfl rfl (by rw [cN]; exact hc) (by rw [cN, cM]; exact hl)
  rw [cN, cM] at X' step
  have hcA : cA = zcA G 6 := Option.some.inj (fA.symm.trans (z_arrT C.kk (t := 6) rfl).2)
  have hcm : comp = zcA G 1 := Option.some.inj (fC.symm.trans (z_arrT C.kk (t := 1) rfl).2)
  subst hcA; subst hcm
  have hTh : (T.setVm vm₁).heap = H := hT
  generalize hF : Jvm.Free.Multi.fill (T.setVm vm₁) (zcA G 6) (zcA G 1) N M (defaultValue .long) N = F at X' step
  obtain ⟨f1, f2, -, -⟩ := Jvm.Free.Multi.fill_facts (T.setVm vm₁) (zcA G 6) (zcA G 1) N M (defaultValue .long) N
  rw [hF, hTh] at f1 f2
  have hold : ∀ x : Nat, x < H.size → F.heap[x]? = H[x]? := fun x hx => by
    have := Jvm.Free.Multi.fill_old (T.setVm vm₁) (zcA G 6) (zcA G 1) N M (defaultValue .long) (a := x) (by rw [hTh]; exact hx) N
    rw [hF, hTh] at this
    exact this
  have hrow : ∀ j : Nat, j < N → F.heap[H.size + 1 + j]? = some (arrV (zcA G 1) M (fun _ => .long 0)) := fun j hj => by
    have := Jvm.Free.Multi.fill_inner (T.setVm vm₁) (zcA G 6) (zcA G 1) N M (defaultValue .long) N j hj
    rw [hF, hTh] at this
    rw [this]
    show some ({ cls := zcA G 1, slots := Array.replicate M (.long 0), vm := .none } : Cell) = _
    rw [arrV_new]
  rw [z_outer] at f2
  have hsz := h1.1
  have hHW : zHW G (n + 1 + N) (zrow σ n N M) F.heap := by
    refine ⟨by omega, hn, fun q hq => (hold q (by omega)).trans (h1.2.2.1 q hq), fun i hi => ?_⟩
    by_cases e1 : i < n
    · rw [show zrow σ n N M i = σ i from if_pos e1]
      exact (h1.2.2.2 i e1).kept (hold _ (by show zz G + i < H.size; omega))
    · by_cases e2 : i = n
      · subst e2
        rw [show zrow σ i N M i = .inl (6, N, .inr (.inr (.inr (.inr (fun j => if j < N then some (i + 1 + j) else none))))) from (if_neg e1).trans (if_pos rfl)]
        show F.heap[zz G + i]? = some (vp_cell (zcA G 6) (N, .inr (.inr (.inr (.inr (fun j => (if j < N then some (i + 1 + j) else none).map (zad G)))))))
        rw [vp_cell_q, ← hsz, f2]
        refine congrArg some (z_arrc ?_)
        intro j hj
        simp only [if_pos hj, Option.map_some, va_rf]
        have hza : zad G (i + 1 + j) = H.size + 1 + j := by rw [zad_lt (by omega)]; omega
        rw [hza]
      · rw [show zrow σ n N M i = .inl (1, M, .inr (.inl (fun _ => 0))) from (if_neg e1).trans (if_neg e2)]
        show F.heap[zz G + i]? = some (vp_cell (zcA G 1) (M, .inr (.inl (fun _ => 0))))
        rw [vp_cell_l, ← hrow (i - (n + 1)) (by omega)]
        congr 1
        omega
  obtain ⟨t, a1, b1⟩ := k F.heap locs ls hHW h2 h3 F rfl X'
  refine ⟨t, step t ?_, b1⟩
  have e : (.ref T.heap.size : Value) = zV G (.ref n) := by show _ = Value.ref (zad G n); rw [zad_lt (by omega), hT, hsz]
  rw [e]
  exact a1
end ZO
end
section
section ZTH
variable {G : zG} {K : zK} {y : MethodName} {cc : ByteArray} {nL : Nat} {ret : Option FieldType} {hs : List (Nat × Nat × Nat × Nat)} {n k1 k2 pc : Nat} {σ : zS} {lv : List (Nat × Value)} {st : List Value}
theorem z_out {pc9 : Nat} (C : zC G K y cc nL ret hs) (hout : ∀ h ∈ hs, (decide (h.1 ≤ pc9) && decide (pc9 < h.2.1)) = false) : ∀ z ∈ (kc K).exceptionTable.toList, covers z pc9 = false := fun z hz => by
  have h9 : (z.startPc, z.endPc, z.handlerPc, z.catchType) ∈ hs := by rw [← C.tab]; exact List.mem_map.mpr ⟨z, hz, rfl⟩
  exact hout _ h9
set_option maxHeartbeats 1000000 in
/-- throw new E("text") -/
theorem z_throwS (C : zC G K y cc nL ret hs) {ci ik is ic : Nat} {cls text : String} {names : List String} {T0 : u_T}
    (hcl : zCl[ci]? = some (cls, T0, 0)) (hfit : Bundle.fit cls = true) (hnames : ∀ n ∈ names, Bundle.fit n = true)
    (hk : Cond.classLink y.cls ik cls ∈ zTb) (hini : Cond.initialized cls ∈ zTb) (hstr : (y.cls, is, text) ∈ zStr) (hat : ∀ w ∈ vx_atS y.cls ic cls names, w ∈ zTb)
    (d0 : decode cc pc = .ok (.new ik, 3)) (d3 : decode cc (pc + 3) = .ok (.dup, 1)) (d4 : decode cc (pc + 4) = .ok (.ldc is, 2)) (d6 : decode cc (pc + 6) = .ok (.invokespecial ic, 3)) (d9 : decode cc (pc + 9) = .ok (.athrow, 1))
    (hout : ∀ h ∈ hs, (decide (h.1 ≤ pc + 9) && decide (pc + 9 < h.2.1)) = false)
    (hRf : names.length + 3 < (kR K).frames) (hRl : (st.map fun v => v.category).sum + (13 * (names.length + 1) + 43) ≤ (kR K).locals) (hn : n < 1000000) (hc : k1 + 1 ≤ (kR K).cells) (hl : k2 + 6 ≤ (kR K).slots) (hmc : k1 + 1 ≤ kmc K) (hms : k2 + 6 ≤ kms K)
    (hq : kpo K (.threw n) (n + 1) (va_up σ n (.inr (ci, [])))) : Z G K n σ k1 k2 pc lv st := by
  intro H locs ls h1 h2 h3 T hT X
  have htr : (ke K).platform.stackTraces = false := (show (ke K).platform.stackTraces = (kl K).stackTraces by rw [X.admits.platform]).trans C.tr
  have Y := vx_rebase X (R' := { frames := (kR K).frames, locals := (kR K).locals, cells := 1, slots := 6 }) (Nat.le_refl _) (Nat.le_refl _) hc hl
  obtain ⟨s', hA⟩ : ∃ z, z = (T.setVm (ks K).vm).setFrames (.invoking (km K) (ka K) :: (kb K)) := ⟨_, rfl⟩
  rw [← hA] at Y
  have hvm : s'.vm = (ks K).vm := by rw [hA]; rfl
  have hhp : s'.heap = H := by rw [hA]; exact hT
  have hW0 : (ks K).WarmedH s'.vm := by rw [hvm]; exact State.WarmedH.refl _
  have hts' : ∀ w ∈ zTb, w.before (ka K) s' = true := fun w hw => zok_at hW0 (zt_ok w hw) (C.ts w hw)
  have hS' : zStat G s' := zStat.moved hW0 (fun q hq => by rw [hhp]; exact h1.2.2.1 q hq) C.stat
  have h : ∀ w ∈ Bundle.ownAtoms y.cls ic cls names, w.before (ka K) s' = true := vx_own (fun w hw => hts' w (hat w hw)) (vx_isRefq hS'.2.1.1) (vx_isRefq hS'.2.2.1.1) hS'.2.1.2.word hS'.2.2.1.2.word
  have hown' : s'.vm.findClass y.cls = some (km K).cls := by rw [hvm]; exact C.own
  have hins : (Cond.instantiable cls 6).before (ka K) s' = true := h _ (by simp [Bundle.ownAtoms])
  obtain ⟨sa, hsa⟩ := hS'.2.2.2.1 _ hstr
  obtain ⟨vm₁, cX, kX, hfX, hkX, -, -, X₁, st1⟩ := Y.newCold C.1 (own := y.cls) (C := cls) (index := ik) (n := 6) hown' (hts' _ hk) hins (hts' _ hini)
    (g := F0 (km K) pc ls (st.map (zV G))) rfl (by rw [C.2.1]; exact d0) (Nat.le_refl _) (Nat.le_refl _)
  generalize hT1 : (T.setVm vm₁).pushCell { cls := cX, slots := kX.instanceTypes.map defaultValue, vm := .none } = T1 at X₁ st1
  have hcat : (Value.ref T.heap.size).category = 1 := rfl
  have hcm : ((st.map (zV G)).map fun v => v.category) = st.map fun v => v.category := by rw [List.map_map]; exact List.map_congr_left (fun v _ => zV_cat G v)
  have hcellA : T1.heap[T.heap.size]? = some (freshCell cX kX) := by rw [← hT1]; exact State.heap_pushCell_size _ _
  have d3' : decode (kc K).code (pc + 3) = .ok (.dup, 1) := by rw [C.2.1]; exact d3
  have d4' : decode (kc K).code (pc + 4) = .ok (.ldc is, 2) := by rw [C.2.1]; exact d4
  obtain ⟨U, hsteps, hrun, hend, hW, hsame, ce, hce, hO⟩ := X₁.ctorThrowS C.1 htr (own := y.cls) (cls := cls) (names := names) (ic := ic) hown' hfit hnames h (fun x hx => nomatch hx) hfX hkX hcellA (by rw [hhp, hT]; exact Nat.le_refl _) (msg := .ref sa) rfl
    (g := { method := km K, pc := pc + 6, locals := ls, stack := .ref sa :: .ref T.heap.size :: .ref T.heap.size :: st.map (zV G), locked := none }) rfl h3.1 rfl rfl (rest := st.map (zV G)) rfl
    (by rw [C.2.1]; exact d6) (by rw [C.2.1]; exact d9) (z_out C hout) hRf (by
      have hm0 : (({ method := km K, pc := pc + 6, locals := ls, stack := .ref sa :: .ref T.heap.size :: .ref T.heap.size :: st.map (zV G), locked := none } : JFrame)).monitorRoom = 0 := rfl
      simp only [List.map_cons, List.sum_cons, hcat, hcm, hm0]
      omega) C.lk
  obtain ⟨f1, f2⟩ := vx_frame hsame
  rw [hhp] at f1 f2
  have hTn : T.heap.size = zz G + n := by rw [hT]; exact h1.1
  have hzn : zad G n = zz G + n := zad_lt hn
  have hU : U.heap.size = H.size + 1 := by
    have a1 : U.heap.size ≤ s'.heap.size + (0 + 1) := hsame.2.2.1
    have a2 := (Array.getElem?_eq_some_iff.mp hce).1
    rw [hhp] at a1
    rw [hT] at a2
    omega
  have hWs : (ks K).WarmedH U.vm := State.WarmedH.trans hW0 hW
  have hce' : U.heap[zz G + n]? = some ce := by rw [← hTn]; exact hce
  have hat9 : va_at (zD G) zCl (zz G + n, zE G (.inr (ci, []))) U.heap := by
    refine ⟨_, hcl, ce, hce', ?_, hO.vm, fun k hk => absurd hk (Nat.not_lt_zero _)⟩
    have h9 := hO.cls
    rw [hvm] at h9
    exact Option.some.inj (h9.symm.trans (C.kk.1 ci _ hcl).2.1)
  have hall : (ks K).sameButNew ({ U with vm := (ks K).vm } : State) locs (kmc K) (kms K) := by
    subst hA
    obtain ⟨e1, e2⟩ := hsame
    rw [State.setFrames_setFrames] at e1
    have h2 : (T.setVm (ks K).vm).sameButNew ({ U with vm := (ks K).vm } : State) [] (0 + 1) (0 + 6) := ⟨e1, e2⟩
    have h3 := X.same.trans h2
    rw [List.append_nil] at h3
    exact h3.mono hmc hms
  refine ⟨U, ?_, .threw T.heap.size, hrun, hend, ⟨.threw n, n + 1, _, by show _ = Outcome.threw (zad G n); rw [hTn, hzn], hq, h1.push hn hU (fun q hq => f2 q hq (fun z hz => nomatch hz)) hat9⟩, locs, ⟨hWs, hall⟩, h2⟩
  refine st1 _ ?_
  show Steps (kp K).tables (ke K) (kb K) (T1.setTop { method := km K, pc := pc + 3, locals := ls, stack := .ref T.heap.size :: st.map (zV G), locked := none }) _
  jvm_step X₁.here [X₁.here.top, C.1, d3', Value.category]
  exact X₁.ldcString C.1 (own := y.cls) (text := text) (index := is) (a := sa) hown' hsa.1 hsa.2
    (g := { method := km K, pc := pc + 4, locals := ls, stack := .ref T.heap.size :: .ref T.heap.size :: st.map (zV G), locked := none }) rfl d4' _ hsteps
/-- caught by the row hh of the method's table, behind rows that don't take it -/
theorem zx_catch (C : zC G K y cc nL ret hs) {x ci : Nat} {E name : String} {T0 : u_T} {N : Nat} {fs : List Value} (pre : List (Nat × Nat × Nat × Nat)) (hh : Nat × Nat × Nat × Nat) (suf : List (Nat × Nat × Nat × Nat)) (hsp : hs = pre ++ hh :: suf)
    (hi : x < n) (hσ : σ x = .inr (ci, fs)) (hcl : zCl[ci]? = some (E, T0, N))
    (hpass : ∀ z ∈ pre, (decide (z.1 ≤ pc) && decide (pc < z.2.1)) = false ∨ (z.2.2.2 ≠ 0 ∧ ∃ nm, Cond.classLink y.cls z.2.2.2 nm ∈ zTb ∧ (E, nm) ∈ zNcs)) (hcov : (decide (hh.1 ≤ pc) && decide (pc < hh.2.1)) = true) (h0 : hh.2.2.2 ≠ 0)
    (hlink : Cond.classLink y.cls hh.2.2.2 name ∈ zTb) (hcast : Cond.castable E name ∈ zTb) (kk : Z G K n σ k1 k2 hh.2.2.1 lv [.ref x]) : ZX G K n σ k1 k2 pc lv st x := by
  intro H locs ls h1 h2 h3 T hT X
  have hpl : (ke K).platform.magicAccessors = ({} : Platform).magicAccessors := by rw [X.admits.platform]
  have hat := h1.2.2.2 x hi
  rw [hσ] at hat
  obtain ⟨r, r1, ce, z1, z2, z3, -⟩ := hat
  have hcls : (ks K).vm.findClass E = some ce.cls := by rw [z2]; exact (C.kk.1 ci _ hcl).2.1
  have hza : zad G x = zz G + x := zad_lt (Nat.lt_of_lt_of_le hi h1.2.1)
  have hcell : T.heap[zad G x]? = some ce := by rw [hT, hza]; exact z1
  obtain ⟨c3, c4, hc3, hc4, hasg⟩ := Cond.castable_spec (C.ts _ hcast)
  cases Option.some.inj (hc3.symm.trans hcls)
  obtain ⟨c5, hc5, hcl5⟩ := Cond.classLink_spec C.own (C.ts _ hlink) (ke K).platform hpl
  cases Option.some.inj (hc4.symm.trans hc5)
  have hm := C.tab
  rw [hsp] at hm
  obtain ⟨preT, restT, e1, e2, e3⟩ := List.map_eq_append_iff.mp hm
  obtain ⟨xT, sufT, e4, e5, e6⟩ := List.map_eq_cons_iff.mp e3
  subst e5
  obtain ⟨vm', X', st'⟩ := X.thenCaughtThrough (zad G x) (g := F0 (km K) pc ls (st.map (zV G))) rfl (Steps.refl _) hcell (by rw [z3]; rfl) (by obtain ⟨k9, h9, -⟩ := Vm.findClass_spec hcls; exact ⟨k9, h9⟩) preT xT sufT (by rw [e1, e4])
    (fun z hz => by
      rcases hpass _ (by rw [← e2]; exact List.mem_map.mpr ⟨z, hz, rfl⟩) with h | ⟨hz0, nm, hl1, hn1⟩
      · exact Or.inl h
      · obtain ⟨c6, hc6, hcl6⟩ := Cond.classLink_spec C.own (C.ts _ hl1) (ke K).platform hpl
        obtain ⟨a8, b8, q1, q2, q3⟩ := C.stat.2.2.2.2.1 _ hn1
        cases Option.some.inj (q1.symm.trans hcls)
        cases Option.some.inj (q2.symm.trans hc6)
        exact Or.inr ⟨hz0, _, hcl6, q3⟩) hcov (Or.inr ⟨h0, c4, hcl5, hasg⟩)
  obtain ⟨t, a1, b1⟩ := kk H locs ls h1 h2 h3 (T.setVm vm') hT X'
  exact ⟨t, st'.trans a1, b1⟩
end ZTH
end
section
/-! the forms' statics, their ordinals, the switches' map -/
section ZFO
variable {G : zG} {K : zK} {y : MethodName} {cc : ByteArray} {nL : Nat} {ret : Option FieldType} {hs : List (Nat × Nat × Nat × Nat)} {n k1 k2 pc : Nat} {σ : zS} {lv : List (Nat × Value)} {st : List Value}
theorem zad_old (G : zG) {i : Nat} (h : 1000000 ≤ i) : zad G i = zo G i := if_neg (Nat.not_lt.mpr h)
theorem zC.form (C : zC G K y cc nL ret hs) : zForm G (ks K) := C.stat.2.2.2.2.2
theorem zC.old (C : zC G K y cc nL ret hs) {H : Heap} (h1 : zHW G n σ H) {a : Nat} (ha : a < zz G) : H[a]? = (ks K).heap[a]? := (h1.2.2.1 a ha).trans (C.stat.1 a ha).symm
theorem z_getsF (C : zC G K y cc nL ret hs) (pc' j : Nat) {idx : Nat} (hj : j < 14) (hl : Cond.fieldLink y.cls idx "SoleArrays$Form" (zFm j) "LSoleArrays$Form;" ∈ zTb) (hd : decode cc pc = .ok (.getstatic idx, 3)) (hp : pc + 3 = pc') (k : Z G K n σ k1 k2 pc' lv (.ref (1000001 + j) :: st)) : Z G K n σ k1 k2 pc lv st := by
  subst hp
  intro H locs ls h1 h2 h3
  obtain ⟨⟨cf, kf, fi, f, a, cell, g1, g2, g3, g4, g5, g6, g7, g8⟩, -, -⟩ := C.form.1 j hj
  have kk := k H locs ls h1 h2 h3
  have e : zV G (.ref (1000001 + j)) = .ref (zo G (1000001 + j)) := by show Value.ref (zad G (1000001 + j)) = _; rw [zad_old G (by omega)]
  rw [List.map_cons, e] at kk
  exact W.gets C.1 C.2.1 C.own (C.ts _ hl) g1 g2 g3 g4 (by rw [C.old h1 (Nat.lt_of_not_le g8)]; exact g5) (fun e => by rw [e] at g6; cases g6) g7 rfl hd kk
theorem z_getsM (C : zC G K y cc nL ret hs) (pc' : Nat) {idx : Nat} (hl : Cond.fieldLink y.cls idx "SoleArrays$1" "$SwitchMap$SoleArrays$Form" "[I" ∈ zTb) (hd : decode cc pc = .ok (.getstatic idx, 3)) (hp : pc + 3 = pc') (k : Z G K n σ k1 k2 pc' lv (.ref 1000015 :: st)) : Z G K n σ k1 k2 pc lv st := by
  subst hp
  intro H locs ls h1 h2 h3
  obtain ⟨cf, kf, fi, f, a, cell, g1, g2, g3, g4, g5, g6, g7, g8⟩ := C.form.2.1
  have kk := k H locs ls h1 h2 h3
  have e : zV G (.ref 1000015) = .ref (zo G 1000015) := by show Value.ref (zad G 1000015) = _; rw [zad_old G (by omega)]
  rw [List.map_cons, e] at kk
  exact W.gets C.1 C.2.1 C.own (C.ts _ hl) g1 g2 g3 g4 (by rw [C.old h1 (Nat.lt_of_not_le g8)]; exact g5) (fun e => by rw [e] at g6; cases g6) g7 rfl hd kk
theorem z_ialdM (C : zC G K y cc nL ret hs) (pc' j : Nat) (hj : j < 14) (hd : decode cc pc = .ok (.iaload, 1)) (hp : pc + 1 = pc') (k : Z G K n σ k1 k2 pc' lv (.int (zSw j) :: st)) : Z G K n σ k1 k2 pc lv (.int (nI j) :: .ref 1000015 :: st) := by
  subst hp
  intro H locs ls h1 h2 h3
  obtain ⟨cell, g1, g2, g3, g4, g5, g6, g7⟩ := C.form.2.2
  have kk := k H locs ls h1 h2 h3
  have e : zad G 1000015 = zo G 1000015 := zad_old G (by omega)
  show W _ _ _ _ _ _ _ _ _ _ H locs k1 k2 _ (F0 _ pc ls (.int (nI j) :: .ref (zad G 1000015) :: st.map (zV G)))
  rw [e]
  have hcl : (nI j).toNatClampNeg = j := nI_clamp (by omega)
  refine W.iald (v := .int (zSw j)) C.1 C.2.1 (by rw [C.old h1 (Nat.lt_of_not_le g7)]; exact g1) g2 g3 (fun q => ?_) (by rw [hcl]; exact g6 _ hj) rfl rfl hd kk
  rcases q with q | q
  · exact nI_pos (by omega) q
  · rw [hcl] at q
    omega
abbrev y_ord : MethodName := ⟨"java/lang/Enum", "ordinal", "()I"⟩
abbrev b_ord : ByteArray := prog_14_method_2_code
theorem d_ord_0 : decode b_ord 0 = .ok (.aload_n 0, 1) := by decide +kernel
theorem d_ord_1 : decode b_ord 1 = .ok (.getfield 7, 3) := by decide +kernel
theorem d_ord_4 : decode b_ord 4 = .ok (.ireturn, 1) := by decide +kernel
theorem w_ord : zWd y_ord b_ord 1 (some .int) [] ∈ zTb := zt3 127 (by decide +kernel) rfl
theorem f_ord : Cond.fieldLink "java/lang/Enum" 7 "java/lang/Enum" "ordinal" "I" ∈ zTb := zt5 168 (by decide +kernel) rfl
theorem o_same : Cond.sameMethod "SoleArrays$Form" "java/lang/Enum" "ordinal" "()I" ∈ zTb := zt3 123 (by decide +kernel) rfl
theorem o_decl : Cond.declares y_ord ∈ zTb := zt3 124 (by decide +kernel) rfl
theorem o_sel : Cond.selects "SoleArrays$Form" ⟨"SoleArrays$Form", "ordinal", "()I"⟩ y_ord ∈ zTb := zt3 125 (by decide +kernel) rfl
theorem o_inst : Cond.instanceMethod y_ord ∈ zTb := zt3 126 (by decide +kernel) rfl
theorem c_ord {l : Launch} {j : Nat} (hj : j < 14) : MetZ G l y_ord b_ord 1 (some .int) [] 0 0 0 [.ref (1000001 + j)] n σ (fun o n' σ' => o = .returned (some (.int (nI j))) ∧ n' = n ∧ σ' = σ) := by
  refine MetZ.of (by decide) (Nat.le_of_ble_eq_true rfl) (fun K hK hR hpo hmc hms C => ?_)
  refine z_aload_n C 1 d_ord_0 rfl rfl ?_
  have k : Z G K n σ 0 0 4 (lv_args 0 [.ref (1000001 + j)]) [.int (nI j)] := z_iret C rfl d_ord_4 (by rw [hpo]; exact ⟨rfl, rfl, rfl⟩) (by rw [hmc]; omega) (by rw [hms]; omega)
  intro H locs ls h1 h2 h3
  obtain ⟨-, g2, cell, cf, i, kf, fd, g3, g4, g5, g6, g7, g8, g9⟩ := C.form.1 j hj
  have kk := k H locs ls h1 h2 h3
  show W _ _ _ _ _ _ _ _ _ _ H locs 0 0 _ (F0 _ 1 ls [.ref (zad G (1000001 + j))])
  rw [zad_old G (by omega)]
  exact W.getf C.1 C.2.1 C.own (C.ts _ f_ord) g7 g8 (by rw [C.old h1 g2]; exact g3) g4 g9 rfl rfl d_ord_1 kk
theorem z_goU (C : zC G K y cc nL ret hs) {idx j : Nat} (hj : j < 14) (hl : Cond.methodLink y.cls idx ⟨"SoleArrays$Form", "ordinal", "()I"⟩ ∈ zTb) (hd : decode cc pc = .ok (.invokevirtual idx, 3)) :
    ∀ (H : Heap) (ls : Array Slot), zHW G n σ H → ls.size = (kc K).maxLocals → zGo K (F0 (km K) pc ls ((.ref (1000001 + j) :: st).map (zV G))) (F0 (km K) pc ls (st.map (zV G))) y_ord (([.ref (1000001 + j)] : List Value).map (zV G)).toArray H := by
  intro H ls h1 hsz T locs k1 k2 hT X
  obtain ⟨-, g2, cell, cf, i, kf, fd, g3, g4, g5, g6, g7, g8, g9⟩ := C.form.1 j hj
  obtain ⟨r0, r, hn, hrm, hstR, hsigR⟩ := va_Decl.of (b := b_ord) (m := 1) (ret := some .int) (C.ts _ o_inst) (C.ts _ w_ord)
  obtain ⟨cn, ck, r1, hcn, hck, hni, hf, hn1⟩ := Cond.sameMethod_found (C.ts _ o_same)
  cases hn.symm.trans hn1
  obtain ⟨mk, methM, hnamed, hmethM, -, habM⟩ := Cond.instanceMethod_spec (C.ts _ o_inst)
  obtain ⟨c2, r2, m2, q1, q2, q3, q4, kP, hkP, hkPi⟩ := Cond.selects_spec (C.ts _ o_sel)
  cases g6.symm.trans q1
  cases hf.symm.trans q2
  cases hnamed.symm.trans q3
  have hselP : selectMethod (ke K).platform (ks K).vm cell.cls r0 = .method mk := by rw [Launch.admits_selectMethod X.admits]; exact q4
  obtain ⟨vm₁, X₁, hstep₁⟩ := X.invokevirtualUp C.1 C.own (C.ts _ hl) (C.ts _ o_same) ⟨by decide, by decide⟩ hn hrm hstR (a := zad G (1000001 + j)) (cell := cell) (by rw [hT, zad_old G (by omega), C.old h1 g2]; exact g3)
    (fun z h => by rw [h] at g5; cases g5) hselP hmethM habM hkP hkPi (g := F0 (km K) pc ls ((.ref (1000001 + j) :: st).map (zV G))) rfl (argsL := []) (rest := st.map (zV G)) (by
      have e : parseMethodDescriptor "()I" = some r.sig := hsigR
      have e2 : (parseMethodDescriptor "()I").map (fun q => q.parameters.length) = some 0 := by decide +kernel
      rw [e] at e2
      exact (Option.some.inj e2).symm) rfl (by rw [C.2.1]; exact hd)
  exact ⟨vm₁, mk, X₁, X₁.named hnamed, hstep₁⟩
end ZFO
end
