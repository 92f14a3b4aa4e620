section
-- ===== PART A: goes FIRST, ahead of the names: the tables' words, and 'selects' of the private methods out of them =====
/-- a private method of a class that the tables say can be made, by its rows of tables_1 -/
def lw_okq (q : MethodName × Nat) : Prop := (q.1.cls ≠ "java/lang/invoke/MethodHandle" ∧ q.1.cls ≠ "java/lang/invoke/VarHandle") ∧ Cond.instantiable q.1.cls q.2 ∈ tables_1 ∧ Cond.privateMethod q.1 ∈ tables_1 ∧ Cond.instanceMethod q.1 ∈ tables_1
theorem lw_p0 : lw_okq (⟨"SoleArrays$Store", "indexOf", "(IJJ)I"⟩, 7) := ⟨⟨by decide +kernel, by decide +kernel⟩, List.mem_of_getElem? (i := 53) (by decide +kernel), List.mem_of_getElem? (i := 186) (by decide +kernel), List.mem_of_getElem? (i := 187) (by decide +kernel)⟩
theorem lw_p1 : lw_okq (⟨"java/lang/Throwable", "fillInStackTrace", "(I)Ljava/lang/Throwable;"⟩, 6) := ⟨⟨by decide +kernel, by decide +kernel⟩, List.mem_of_getElem? (i := 231) (by decide +kernel), List.mem_of_getElem? (i := 229) (by decide +kernel), List.mem_of_getElem? (i := 230) (by decide +kernel)⟩
theorem lw_p2 : lw_okq (⟨"SoleArrays$Reader", "takeOneOf", "(CC)I"⟩, 4) := ⟨⟨by decide +kernel, by decide +kernel⟩, List.mem_of_getElem? (i := 274) (by decide +kernel), List.mem_of_getElem? (i := 299) (by decide +kernel), List.mem_of_getElem? (i := 300) (by decide +kernel)⟩
theorem lw_p3 : lw_okq (⟨"SoleArrays$Reader", "next", "()C"⟩, 4) := ⟨⟨by decide +kernel, by decide +kernel⟩, List.mem_of_getElem? (i := 274) (by decide +kernel), List.mem_of_getElem? (i := 303) (by decide +kernel), List.mem_of_getElem? (i := 304) (by decide +kernel)⟩
theorem lw_p4 : lw_okq (⟨"SoleArrays$Reader", "take", "(C)V"⟩, 4) := ⟨⟨by decide +kernel, by decide +kernel⟩, List.mem_of_getElem? (i := 274) (by decide +kernel), List.mem_of_getElem? (i := 367) (by decide +kernel), List.mem_of_getElem? (i := 368) (by decide +kernel)⟩
theorem lw_p5 : lw_okq (⟨"SoleArrays$Reader", "takeCommaBefore", "(I)V"⟩, 4) := ⟨⟨by decide +kernel, by decide +kernel⟩, List.mem_of_getElem? (i := 274) (by decide +kernel), List.mem_of_getElem? (i := 371) (by decide +kernel), List.mem_of_getElem? (i := 372) (by decide +kernel)⟩
theorem lw_p6 : lw_okq (⟨"SoleArrays$Reader", "readParameter", "(LSoleArrays$Function;)V"⟩, 4) := ⟨⟨by decide +kernel, by decide +kernel⟩, List.mem_of_getElem? (i := 274) (by decide +kernel), List.mem_of_getElem? (i := 375) (by decide +kernel), List.mem_of_getElem? (i := 376) (by decide +kernel)⟩
theorem lw_p7 : lw_okq (⟨"SoleArrays$Reader", "readExpression", "(I)LSoleArrays$Expression;"⟩, 4) := ⟨⟨by decide +kernel, by decide +kernel⟩, List.mem_of_getElem? (i := 274) (by decide +kernel), List.mem_of_getElem? (i := 383) (by decide +kernel), List.mem_of_getElem? (i := 384) (by decide +kernel)⟩
theorem lw_p8 : lw_okq (⟨"SoleArrays$Reader", "refuse", "()LSoleArrays$Expression;"⟩, 4) := ⟨⟨by decide +kernel, by decide +kernel⟩, List.mem_of_getElem? (i := 274) (by decide +kernel), List.mem_of_getElem? (i := 387) (by decide +kernel), List.mem_of_getElem? (i := 388) (by decide +kernel)⟩
theorem lw_p9 : lw_okq (⟨"SoleArrays$Reader", "nextIsOneOf", "(CC)Z"⟩, 4) := ⟨⟨by decide +kernel, by decide +kernel⟩, List.mem_of_getElem? (i := 274) (by decide +kernel), List.mem_of_getElem? (i := 391) (by decide +kernel), List.mem_of_getElem? (i := 392) (by decide +kernel)⟩
theorem lw_p10 : lw_okq (⟨"SoleArrays$Reader", "readDigits", "()LSoleArrays$Expression;"⟩, 4) := ⟨⟨by decide +kernel, by decide +kernel⟩, List.mem_of_getElem? (i := 274) (by decide +kernel), List.mem_of_getElem? (i := 395) (by decide +kernel), List.mem_of_getElem? (i := 396) (by decide +kernel)⟩
theorem lw_p11 : lw_okq (⟨"SoleArrays$Reader", "readFromVariable", "(I)LSoleArrays$Expression;"⟩, 4) := ⟨⟨by decide +kernel, by decide +kernel⟩, List.mem_of_getElem? (i := 274) (by decide +kernel), List.mem_of_getElem? (i := 461) (by decide +kernel), List.mem_of_getElem? (i := 462) (by decide +kernel)⟩
theorem lw_p12 : lw_okq (⟨"SoleArrays$Reader", "readReading", "(II)LSoleArrays$Expression;"⟩, 4) := ⟨⟨by decide +kernel, by decide +kernel⟩, List.mem_of_getElem? (i := 274) (by decide +kernel), List.mem_of_getElem? (i := 465) (by decide +kernel), List.mem_of_getElem? (i := 466) (by decide +kernel)⟩
theorem lw_p13 : lw_okq (⟨"SoleArrays$Reader", "readUpdate", "(II)LSoleArrays$Expression;"⟩, 4) := ⟨⟨by decide +kernel, by decide +kernel⟩, List.mem_of_getElem? (i := 274) (by decide +kernel), List.mem_of_getElem? (i := 475) (by decide +kernel), List.mem_of_getElem? (i := 476) (by decide +kernel)⟩
theorem lw_p14 : lw_okq (⟨"SoleArrays$Reader", "readCall", "(I)LSoleArrays$Expression;"⟩, 4) := ⟨⟨by decide +kernel, by decide +kernel⟩, List.mem_of_getElem? (i := 274) (by decide +kernel), List.mem_of_getElem? (i := 483) (by decide +kernel), List.mem_of_getElem? (i := 484) (by decide +kernel)⟩
theorem lw_p15 : lw_okq (⟨"SoleArrays$Reader", "readOperation", "(I)LSoleArrays$Expression;"⟩, 4) := ⟨⟨by decide +kernel, by decide +kernel⟩, List.mem_of_getElem? (i := 274) (by decide +kernel), List.mem_of_getElem? (i := 489) (by decide +kernel), List.mem_of_getElem? (i := 490) (by decide +kernel)⟩
def lw_privs_1 : List (MethodName × Nat) := [(⟨"SoleArrays$Store", "indexOf", "(IJJ)I"⟩, 7), (⟨"java/lang/Throwable", "fillInStackTrace", "(I)Ljava/lang/Throwable;"⟩, 6), (⟨"SoleArrays$Reader", "takeOneOf", "(CC)I"⟩, 4), (⟨"SoleArrays$Reader", "next", "()C"⟩, 4), (⟨"SoleArrays$Reader", "take", "(C)V"⟩, 4), (⟨"SoleArrays$Reader", "takeCommaBefore", "(I)V"⟩, 4), (⟨"SoleArrays$Reader", "readParameter", "(LSoleArrays$Function;)V"⟩, 4), (⟨"SoleArrays$Reader", "readExpression", "(I)LSoleArrays$Expression;"⟩, 4), (⟨"SoleArrays$Reader", "refuse", "()LSoleArrays$Expression;"⟩, 4), (⟨"SoleArrays$Reader", "nextIsOneOf", "(CC)Z"⟩, 4), (⟨"SoleArrays$Reader", "readDigits", "()LSoleArrays$Expression;"⟩, 4), (⟨"SoleArrays$Reader", "readFromVariable", "(I)LSoleArrays$Expression;"⟩, 4), (⟨"SoleArrays$Reader", "readReading", "(II)LSoleArrays$Expression;"⟩, 4), (⟨"SoleArrays$Reader", "readUpdate", "(II)LSoleArrays$Expression;"⟩, 4), (⟨"SoleArrays$Reader", "readCall", "(I)LSoleArrays$Expression;"⟩, 4), (⟨"SoleArrays$Reader", "readOperation", "(I)LSoleArrays$Expression;"⟩, 4)]
theorem lw_r1 : ∀ q ∈ lw_privs_1, lw_okq q := List.forall_mem_cons.mpr ⟨lw_p0, List.forall_mem_cons.mpr ⟨lw_p1, List.forall_mem_cons.mpr ⟨lw_p2, List.forall_mem_cons.mpr ⟨lw_p3, List.forall_mem_cons.mpr ⟨lw_p4, List.forall_mem_cons.mpr ⟨lw_p5, List.forall_mem_cons.mpr ⟨lw_p6, List.forall_mem_cons.mpr ⟨lw_p7, List.forall_mem_cons.mpr ⟨lw_p8, List.forall_mem_cons.mpr ⟨lw_p9, List.forall_mem_cons.mpr ⟨lw_p10, List.forall_mem_cons.mpr ⟨lw_p11, List.forall_mem_cons.mpr ⟨lw_p12, List.forall_mem_cons.mpr ⟨lw_p13, List.forall_mem_cons.mpr ⟨lw_p14, List.forall_mem_cons.mpr ⟨lw_p15, fun _ h => absurd h List.not_mem_nil⟩⟩⟩⟩⟩⟩⟩⟩⟩⟩⟩⟩⟩⟩⟩⟩
theorem lw_p16 : lw_okq (⟨"SoleArrays$Reader", "takeOperation", "()C"⟩, 4) := ⟨⟨by decide +kernel, by decide +kernel⟩, List.mem_of_getElem? (i := 274) (by decide +kernel), List.mem_of_getElem? (i := 495) (by decide +kernel), List.mem_of_getElem? (i := 496) (by decide +kernel)⟩
theorem lw_p17 : lw_okq (⟨"SoleArrays$Reader", "readChoice", "(I)LSoleArrays$Expression;"⟩, 4) := ⟨⟨by decide +kernel, by decide +kernel⟩, List.mem_of_getElem? (i := 274) (by decide +kernel), List.mem_of_getElem? (i := 499) (by decide +kernel), List.mem_of_getElem? (i := 500) (by decide +kernel)⟩
theorem lw_p18 : lw_okq (⟨"SoleArrays$Reader", "readBinding", "(I)LSoleArrays$Expression;"⟩, 4) := ⟨⟨by decide +kernel, by decide +kernel⟩, List.mem_of_getElem? (i := 274) (by decide +kernel), List.mem_of_getElem? (i := 505) (by decide +kernel), List.mem_of_getElem? (i := 506) (by decide +kernel)⟩
theorem lw_p19 : lw_okq (⟨"SoleArrays$Reader", "readSignAndVariable", "(LSoleArrays$Form;)LSoleArrays$Expression;"⟩, 4) := ⟨⟨by decide +kernel, by decide +kernel⟩, List.mem_of_getElem? (i := 274) (by decide +kernel), List.mem_of_getElem? (i := 511) (by decide +kernel), List.mem_of_getElem? (i := 512) (by decide +kernel)⟩
theorem lw_p20 : lw_okq (⟨"SoleArrays$Reader", "readNewRow", "(I)LSoleArrays$Expression;"⟩, 4) := ⟨⟨by decide +kernel, by decide +kernel⟩, List.mem_of_getElem? (i := 274) (by decide +kernel), List.mem_of_getElem? (i := 515) (by decide +kernel), List.mem_of_getElem? (i := 516) (by decide +kernel)⟩
theorem lw_p21 : lw_okq (⟨"SoleArrays$Reader", "readNewTable", "(I)LSoleArrays$Expression;"⟩, 4) := ⟨⟨by decide +kernel, by decide +kernel⟩, List.mem_of_getElem? (i := 274) (by decide +kernel), List.mem_of_getElem? (i := 521) (by decide +kernel), List.mem_of_getElem? (i := 522) (by decide +kernel)⟩
theorem lw_p22 : lw_okq (⟨"SoleArrays$Reader", "readGivingUp", "(I)LSoleArrays$Expression;"⟩, 4) := ⟨⟨by decide +kernel, by decide +kernel⟩, List.mem_of_getElem? (i := 274) (by decide +kernel), List.mem_of_getElem? (i := 533) (by decide +kernel), List.mem_of_getElem? (i := 534) (by decide +kernel)⟩
theorem lw_p23 : lw_okq (⟨"SoleArrays$Checker", "refuseIfBound", "(II)V"⟩, 5) := ⟨⟨by decide +kernel, by decide +kernel⟩, List.mem_of_getElem? (i := 539) (by decide +kernel), List.mem_of_getElem? (i := 588) (by decide +kernel), List.mem_of_getElem? (i := 589) (by decide +kernel)⟩
theorem lw_p24 : lw_okq (⟨"SoleArrays$Checker", "bind", "(II)V"⟩, 5) := ⟨⟨by decide +kernel, by decide +kernel⟩, List.mem_of_getElem? (i := 539) (by decide +kernel), List.mem_of_getElem? (i := 592) (by decide +kernel), List.mem_of_getElem? (i := 593) (by decide +kernel)⟩
theorem lw_p25 : lw_okq (⟨"SoleArrays$Checker", "look", "(LSoleArrays$Expression;)I"⟩, 5) := ⟨⟨by decide +kernel, by decide +kernel⟩, List.mem_of_getElem? (i := 539) (by decide +kernel), List.mem_of_getElem? (i := 597) (by decide +kernel), List.mem_of_getElem? (i := 598) (by decide +kernel)⟩
theorem lw_p26 : lw_okq (⟨"SoleArrays$Checker", "useUp", "(LSoleArrays$Expression;II)I"⟩, 5) := ⟨⟨by decide +kernel, by decide +kernel⟩, List.mem_of_getElem? (i := 539) (by decide +kernel), List.mem_of_getElem? (i := 609) (by decide +kernel), List.mem_of_getElem? (i := 610) (by decide +kernel)⟩
theorem lw_p27 : lw_okq (⟨"SoleArrays$Checker", "lookAtVariable", "(LSoleArrays$Expression;II)I"⟩, 5) := ⟨⟨by decide +kernel, by decide +kernel⟩, List.mem_of_getElem? (i := 539) (by decide +kernel), List.mem_of_getElem? (i := 613) (by decide +kernel), List.mem_of_getElem? (i := 614) (by decide +kernel)⟩
theorem lw_p28 : lw_okq (⟨"SoleArrays$Checker", "isOwned", "(I)Z"⟩, 5) := ⟨⟨by decide +kernel, by decide +kernel⟩, List.mem_of_getElem? (i := 539) (by decide +kernel), List.mem_of_getElem? (i := 617) (by decide +kernel), List.mem_of_getElem? (i := 618) (by decide +kernel)⟩
theorem lw_p29 : lw_okq (⟨"SoleArrays$Checker", "lookAtChoice", "(LSoleArrays$Expression;)I"⟩, 5) := ⟨⟨by decide +kernel, by decide +kernel⟩, List.mem_of_getElem? (i := 539) (by decide +kernel), List.mem_of_getElem? (i := 621) (by decide +kernel), List.mem_of_getElem? (i := 622) (by decide +kernel)⟩
theorem lw_p30 : lw_okq (⟨"SoleArrays$Checker", "lookAtPart", "(LSoleArrays$Expression;I)V"⟩, 5) := ⟨⟨by decide +kernel, by decide +kernel⟩, List.mem_of_getElem? (i := 539) (by decide +kernel), List.mem_of_getElem? (i := 625) (by decide +kernel), List.mem_of_getElem? (i := 626) (by decide +kernel)⟩
theorem lw_p31 : lw_okq (⟨"SoleArrays$Checker", "lookAtBinding", "(LSoleArrays$Expression;)I"⟩, 5) := ⟨⟨by decide +kernel, by decide +kernel⟩, List.mem_of_getElem? (i := 539) (by decide +kernel), List.mem_of_getElem? (i := 629) (by decide +kernel), List.mem_of_getElem? (i := 630) (by decide +kernel)⟩
def lw_privs_2 : List (MethodName × Nat) := [(⟨"SoleArrays$Reader", "takeOperation", "()C"⟩, 4), (⟨"SoleArrays$Reader", "readChoice", "(I)LSoleArrays$Expression;"⟩, 4), (⟨"SoleArrays$Reader", "readBinding", "(I)LSoleArrays$Expression;"⟩, 4), (⟨"SoleArrays$Reader", "readSignAndVariable", "(LSoleArrays$Form;)LSoleArrays$Expression;"⟩, 4), (⟨"SoleArrays$Reader", "readNewRow", "(I)LSoleArrays$Expression;"⟩, 4), (⟨"SoleArrays$Reader", "readNewTable", "(I)LSoleArrays$Expression;"⟩, 4), (⟨"SoleArrays$Reader", "readGivingUp", "(I)LSoleArrays$Expression;"⟩, 4), (⟨"SoleArrays$Checker", "refuseIfBound", "(II)V"⟩, 5), (⟨"SoleArrays$Checker", "bind", "(II)V"⟩, 5), (⟨"SoleArrays$Checker", "look", "(LSoleArrays$Expression;)I"⟩, 5), (⟨"SoleArrays$Checker", "useUp", "(LSoleArrays$Expression;II)I"⟩, 5), (⟨"SoleArrays$Checker", "lookAtVariable", "(LSoleArrays$Expression;II)I"⟩, 5), (⟨"SoleArrays$Checker", "isOwned", "(I)Z"⟩, 5), (⟨"SoleArrays$Checker", "lookAtChoice", "(LSoleArrays$Expression;)I"⟩, 5), (⟨"SoleArrays$Checker", "lookAtPart", "(LSoleArrays$Expression;I)V"⟩, 5), (⟨"SoleArrays$Checker", "lookAtBinding", "(LSoleArrays$Expression;)I"⟩, 5)]
theorem lw_r2 : ∀ q ∈ lw_privs_2, lw_okq q := List.forall_mem_cons.mpr ⟨lw_p16, List.forall_mem_cons.mpr ⟨lw_p17, List.forall_mem_cons.mpr ⟨lw_p18, List.forall_mem_cons.mpr ⟨lw_p19, List.forall_mem_cons.mpr ⟨lw_p20, List.forall_mem_cons.mpr ⟨lw_p21, List.forall_mem_cons.mpr ⟨lw_p22, List.forall_mem_cons.mpr ⟨lw_p23, List.forall_mem_cons.mpr ⟨lw_p24, List.forall_mem_cons.mpr ⟨lw_p25, List.forall_mem_cons.mpr ⟨lw_p26, List.forall_mem_cons.mpr ⟨lw_p27, List.forall_mem_cons.mpr ⟨lw_p28, List.forall_mem_cons.mpr ⟨lw_p29, List.forall_mem_cons.mpr ⟨lw_p30, List.forall_mem_cons.mpr ⟨lw_p31, fun _ h => absurd h List.not_mem_nil⟩⟩⟩⟩⟩⟩⟩⟩⟩⟩⟩⟩⟩⟩⟩⟩
theorem lw_p32 : lw_okq (⟨"SoleArrays$Checker", "refuseIfOwned", "(II)V"⟩, 5) := ⟨⟨by decide +kernel, by decide +kernel⟩, List.mem_of_getElem? (i := 539) (by decide +kernel), List.mem_of_getElem? (i := 633) (by decide +kernel), List.mem_of_getElem? (i := 634) (by decide +kernel)⟩
theorem lw_p33 : lw_okq (⟨"SoleArrays$Checker", "lookAtNumbers", "(LSoleArrays$Expression;)V"⟩, 5) := ⟨⟨by decide +kernel, by decide +kernel⟩, List.mem_of_getElem? (i := 539) (by decide +kernel), List.mem_of_getElem? (i := 637) (by decide +kernel), List.mem_of_getElem? (i := 638) (by decide +kernel)⟩
theorem lw_p34 : lw_okq (⟨"SoleArrays$Checker", "lookAtCall", "(LSoleArrays$Expression;)I"⟩, 5) := ⟨⟨by decide +kernel, by decide +kernel⟩, List.mem_of_getElem? (i := 539) (by decide +kernel), List.mem_of_getElem? (i := 641) (by decide +kernel), List.mem_of_getElem? (i := 642) (by decide +kernel)⟩
theorem lw_p35 : lw_okq (⟨"SoleArrays", "functionNamed", "(C)LSoleArrays$Function;"⟩, 10) := ⟨⟨by decide +kernel, by decide +kernel⟩, List.mem_of_getElem? (i := 25) (by decide +kernel), List.mem_of_getElem? (i := 655) (by decide +kernel), List.mem_of_getElem? (i := 656) (by decide +kernel)⟩
theorem lw_p36 : lw_okq (⟨"SoleArrays$Runner", "work", "(LSoleArrays$Expression;II)J"⟩, 5) := ⟨⟨by decide +kernel, by decide +kernel⟩, List.mem_of_getElem? (i := 47) (by decide +kernel), List.mem_of_getElem? (i := 674) (by decide +kernel), List.mem_of_getElem? (i := 675) (by decide +kernel)⟩
theorem lw_p37 : lw_okq (⟨"SoleArrays$Store", "firstFree", "()I"⟩, 7) := ⟨⟨by decide +kernel, by decide +kernel⟩, List.mem_of_getElem? (i := 53) (by decide +kernel), List.mem_of_getElem? (i := 729) (by decide +kernel), List.mem_of_getElem? (i := 730) (by decide +kernel)⟩
theorem lw_p38 : lw_okq (⟨"SoleArrays$Runner", "readNumber", "(LSoleArrays$Expression;II)J"⟩, 5) := ⟨⟨by decide +kernel, by decide +kernel⟩, List.mem_of_getElem? (i := 47) (by decide +kernel), List.mem_of_getElem? (i := 740) (by decide +kernel), List.mem_of_getElem? (i := 741) (by decide +kernel)⟩
theorem lw_p39 : lw_okq (⟨"SoleArrays$Runner", "arrayOf", "(LSoleArrays$Expression;I)I"⟩, 5) := ⟨⟨by decide +kernel, by decide +kernel⟩, List.mem_of_getElem? (i := 47) (by decide +kernel), List.mem_of_getElem? (i := 744) (by decide +kernel), List.mem_of_getElem? (i := 745) (by decide +kernel)⟩
theorem lw_p40 : lw_okq (⟨"SoleArrays$Runner", "update", "(LSoleArrays$Expression;II)J"⟩, 5) := ⟨⟨by decide +kernel, by decide +kernel⟩, List.mem_of_getElem? (i := 47) (by decide +kernel), List.mem_of_getElem? (i := 749) (by decide +kernel), List.mem_of_getElem? (i := 750) (by decide +kernel)⟩
theorem lw_p41 : lw_okq (⟨"SoleArrays$Runner", "call", "(LSoleArrays$Expression;II)J"⟩, 5) := ⟨⟨by decide +kernel, by decide +kernel⟩, List.mem_of_getElem? (i := 47) (by decide +kernel), List.mem_of_getElem? (i := 769) (by decide +kernel), List.mem_of_getElem? (i := 770) (by decide +kernel)⟩
theorem lw_p42 : lw_okq (⟨"SoleArraysModel", "readFunction", "()I"⟩, 51) := ⟨⟨by decide +kernel, by decide +kernel⟩, List.mem_of_getElem? (i := 774) (by decide +kernel), List.mem_of_getElem? (i := 946) (by decide +kernel), List.mem_of_getElem? (i := 947) (by decide +kernel)⟩
theorem lw_p43 : lw_okq (⟨"SoleArraysModel", "letter", "(CC)I"⟩, 51) := ⟨⟨by decide +kernel, by decide +kernel⟩, List.mem_of_getElem? (i := 774) (by decide +kernel), List.mem_of_getElem? (i := 950) (by decide +kernel), List.mem_of_getElem? (i := 951) (by decide +kernel)⟩
theorem lw_p44 : lw_okq (⟨"SoleArraysModel", "among", "(CC)Z"⟩, 51) := ⟨⟨by decide +kernel, by decide +kernel⟩, List.mem_of_getElem? (i := 774) (by decide +kernel), List.mem_of_getElem? (i := 954) (by decide +kernel), List.mem_of_getElem? (i := 955) (by decide +kernel)⟩
theorem lw_p45 : lw_okq (⟨"SoleArraysModel", "look", "()C"⟩, 51) := ⟨⟨by decide +kernel, by decide +kernel⟩, List.mem_of_getElem? (i := 774) (by decide +kernel), List.mem_of_getElem? (i := 958) (by decide +kernel), List.mem_of_getElem? (i := 959) (by decide +kernel)⟩
theorem lw_p46 : lw_okq (⟨"SoleArraysModel", "want", "(Z)V"⟩, 51) := ⟨⟨by decide +kernel, by decide +kernel⟩, List.mem_of_getElem? (i := 774) (by decide +kernel), List.mem_of_getElem? (i := 962) (by decide +kernel), List.mem_of_getElem? (i := 963) (by decide +kernel)⟩
theorem lw_p47 : lw_okq (⟨"SoleArraysModel", "takes", "(C)Z"⟩, 51) := ⟨⟨by decide +kernel, by decide +kernel⟩, List.mem_of_getElem? (i := 774) (by decide +kernel), List.mem_of_getElem? (i := 966) (by decide +kernel), List.mem_of_getElem? (i := 967) (by decide +kernel)⟩
def lw_privs_3 : List (MethodName × Nat) := [(⟨"SoleArrays$Checker", "refuseIfOwned", "(II)V"⟩, 5), (⟨"SoleArrays$Checker", "lookAtNumbers", "(LSoleArrays$Expression;)V"⟩, 5), (⟨"SoleArrays$Checker", "lookAtCall", "(LSoleArrays$Expression;)I"⟩, 5), (⟨"SoleArrays", "functionNamed", "(C)LSoleArrays$Function;"⟩, 10), (⟨"SoleArrays$Runner", "work", "(LSoleArrays$Expression;II)J"⟩, 5), (⟨"SoleArrays$Store", "firstFree", "()I"⟩, 7), (⟨"SoleArrays$Runner", "readNumber", "(LSoleArrays$Expression;II)J"⟩, 5), (⟨"SoleArrays$Runner", "arrayOf", "(LSoleArrays$Expression;I)I"⟩, 5), (⟨"SoleArrays$Runner", "update", "(LSoleArrays$Expression;II)J"⟩, 5), (⟨"SoleArrays$Runner", "call", "(LSoleArrays$Expression;II)J"⟩, 5), (⟨"SoleArraysModel", "readFunction", "()I"⟩, 51), (⟨"SoleArraysModel", "letter", "(CC)I"⟩, 51), (⟨"SoleArraysModel", "among", "(CC)Z"⟩, 51), (⟨"SoleArraysModel", "look", "()C"⟩, 51), (⟨"SoleArraysModel", "want", "(Z)V"⟩, 51), (⟨"SoleArraysModel", "takes", "(C)Z"⟩, 51)]
theorem lw_r3 : ∀ q ∈ lw_privs_3, lw_okq q := List.forall_mem_cons.mpr ⟨lw_p32, List.forall_mem_cons.mpr ⟨lw_p33, List.forall_mem_cons.mpr ⟨lw_p34, List.forall_mem_cons.mpr ⟨lw_p35, List.forall_mem_cons.mpr ⟨lw_p36, List.forall_mem_cons.mpr ⟨lw_p37, List.forall_mem_cons.mpr ⟨lw_p38, List.forall_mem_cons.mpr ⟨lw_p39, List.forall_mem_cons.mpr ⟨lw_p40, List.forall_mem_cons.mpr ⟨lw_p41, List.forall_mem_cons.mpr ⟨lw_p42, List.forall_mem_cons.mpr ⟨lw_p43, List.forall_mem_cons.mpr ⟨lw_p44, List.forall_mem_cons.mpr ⟨lw_p45, List.forall_mem_cons.mpr ⟨lw_p46, List.forall_mem_cons.mpr ⟨lw_p47, fun _ h => absurd h List.not_mem_nil⟩⟩⟩⟩⟩⟩⟩⟩⟩⟩⟩⟩⟩⟩⟩⟩
theorem lw_p48 : lw_okq (⟨"SoleArraysModel", "readExpression", "()V"⟩, 51) := ⟨⟨by decide +kernel, by decide +kernel⟩, List.mem_of_getElem? (i := 774) (by decide +kernel), List.mem_of_getElem? (i := 970) (by decide +kernel), List.mem_of_getElem? (i := 971) (by decide +kernel)⟩
theorem lw_p49 : lw_okq (⟨"SoleArraysModel", "beginExpression", "()Z"⟩, 51) := ⟨⟨by decide +kernel, by decide +kernel⟩, List.mem_of_getElem? (i := 774) (by decide +kernel), List.mem_of_getElem? (i := 974) (by decide +kernel), List.mem_of_getElem? (i := 975) (by decide +kernel)⟩
theorem lw_p50 : lw_okq (⟨"SoleArraysModel", "node", "(III)I"⟩, 51) := ⟨⟨by decide +kernel, by decide +kernel⟩, List.mem_of_getElem? (i := 774) (by decide +kernel), List.mem_of_getElem? (i := 978) (by decide +kernel), List.mem_of_getElem? (i := 979) (by decide +kernel)⟩
theorem lw_p51 : lw_okq (⟨"SoleArraysModel", "push", "(I)V"⟩, 51) := ⟨⟨by decide +kernel, by decide +kernel⟩, List.mem_of_getElem? (i := 774) (by decide +kernel), List.mem_of_getElem? (i := 982) (by decide +kernel), List.mem_of_getElem? (i := 983) (by decide +kernel)⟩
theorem lw_p52 : lw_okq (⟨"SoleArraysModel", "beginOther", "(CI)Z"⟩, 51) := ⟨⟨by decide +kernel, by decide +kernel⟩, List.mem_of_getElem? (i := 774) (by decide +kernel), List.mem_of_getElem? (i := 986) (by decide +kernel), List.mem_of_getElem? (i := 987) (by decide +kernel)⟩
theorem lw_p53 : lw_okq (⟨"SoleArraysModel", "behindPart", "()Z"⟩, 51) := ⟨⟨by decide +kernel, by decide +kernel⟩, List.mem_of_getElem? (i := 774) (by decide +kernel), List.mem_of_getElem? (i := 990) (by decide +kernel), List.mem_of_getElem? (i := 991) (by decide +kernel)⟩
theorem lw_p54 : lw_okq (⟨"SoleArraysModel", "check", "(I)V"⟩, 51) := ⟨⟨by decide +kernel, by decide +kernel⟩, List.mem_of_getElem? (i := 774) (by decide +kernel), List.mem_of_getElem? (i := 994) (by decide +kernel), List.mem_of_getElem? (i := 995) (by decide +kernel)⟩
theorem lw_p55 : lw_okq (⟨"SoleArraysModel", "mistake", "(I)V"⟩, 51) := ⟨⟨by decide +kernel, by decide +kernel⟩, List.mem_of_getElem? (i := 774) (by decide +kernel), List.mem_of_getElem? (i := 998) (by decide +kernel), List.mem_of_getElem? (i := 999) (by decide +kernel)⟩
theorem lw_p56 : lw_okq (⟨"SoleArraysModel", "bind", "(II)V"⟩, 51) := ⟨⟨by decide +kernel, by decide +kernel⟩, List.mem_of_getElem? (i := 774) (by decide +kernel), List.mem_of_getElem? (i := 1002) (by decide +kernel), List.mem_of_getElem? (i := 1003) (by decide +kernel)⟩
theorem lw_p57 : lw_okq (⟨"SoleArraysModel", "lookAll", "()I"⟩, 51) := ⟨⟨by decide +kernel, by decide +kernel⟩, List.mem_of_getElem? (i := 774) (by decide +kernel), List.mem_of_getElem? (i := 1006) (by decide +kernel), List.mem_of_getElem? (i := 1007) (by decide +kernel)⟩
theorem lw_p58 : lw_okq (⟨"SoleArraysModel", "lookBefore", "(I)V"⟩, 51) := ⟨⟨by decide +kernel, by decide +kernel⟩, List.mem_of_getElem? (i := 774) (by decide +kernel), List.mem_of_getElem? (i := 1010) (by decide +kernel), List.mem_of_getElem? (i := 1011) (by decide +kernel)⟩
theorem lw_p59 : lw_okq (⟨"SoleArraysModel", "use", "(III)I"⟩, 51) := ⟨⟨by decide +kernel, by decide +kernel⟩, List.mem_of_getElem? (i := 774) (by decide +kernel), List.mem_of_getElem? (i := 1014) (by decide +kernel), List.mem_of_getElem? (i := 1015) (by decide +kernel)⟩
theorem lw_p60 : lw_okq (⟨"SoleArraysModel", "isOwned", "(I)Z"⟩, 51) := ⟨⟨by decide +kernel, by decide +kernel⟩, List.mem_of_getElem? (i := 774) (by decide +kernel), List.mem_of_getElem? (i := 1018) (by decide +kernel), List.mem_of_getElem? (i := 1019) (by decide +kernel)⟩
theorem lw_p61 : lw_okq (⟨"SoleArraysModel", "useUp", "(I)V"⟩, 51) := ⟨⟨by decide +kernel, by decide +kernel⟩, List.mem_of_getElem? (i := 774) (by decide +kernel), List.mem_of_getElem? (i := 1022) (by decide +kernel), List.mem_of_getElem? (i := 1023) (by decide +kernel)⟩
theorem lw_p62 : lw_okq (⟨"SoleArraysModel", "called", "(I)I"⟩, 51) := ⟨⟨by decide +kernel, by decide +kernel⟩, List.mem_of_getElem? (i := 774) (by decide +kernel), List.mem_of_getElem? (i := 1026) (by decide +kernel), List.mem_of_getElem? (i := 1027) (by decide +kernel)⟩
theorem lw_p63 : lw_okq (⟨"SoleArraysModel", "typeOf", "(II)I"⟩, 51) := ⟨⟨by decide +kernel, by decide +kernel⟩, List.mem_of_getElem? (i := 774) (by decide +kernel), List.mem_of_getElem? (i := 1030) (by decide +kernel), List.mem_of_getElem? (i := 1031) (by decide +kernel)⟩
def lw_privs_4 : List (MethodName × Nat) := [(⟨"SoleArraysModel", "readExpression", "()V"⟩, 51), (⟨"SoleArraysModel", "beginExpression", "()Z"⟩, 51), (⟨"SoleArraysModel", "node", "(III)I"⟩, 51), (⟨"SoleArraysModel", "push", "(I)V"⟩, 51), (⟨"SoleArraysModel", "beginOther", "(CI)Z"⟩, 51), (⟨"SoleArraysModel", "behindPart", "()Z"⟩, 51), (⟨"SoleArraysModel", "check", "(I)V"⟩, 51), (⟨"SoleArraysModel", "mistake", "(I)V"⟩, 51), (⟨"SoleArraysModel", "bind", "(II)V"⟩, 51), (⟨"SoleArraysModel", "lookAll", "()I"⟩, 51), (⟨"SoleArraysModel", "lookBefore", "(I)V"⟩, 51), (⟨"SoleArraysModel", "use", "(III)I"⟩, 51), (⟨"SoleArraysModel", "isOwned", "(I)Z"⟩, 51), (⟨"SoleArraysModel", "useUp", "(I)V"⟩, 51), (⟨"SoleArraysModel", "called", "(I)I"⟩, 51), (⟨"SoleArraysModel", "typeOf", "(II)I"⟩, 51)]
theorem lw_r4 : ∀ q ∈ lw_privs_4, lw_okq q := List.forall_mem_cons.mpr ⟨lw_p48, List.forall_mem_cons.mpr ⟨lw_p49, List.forall_mem_cons.mpr ⟨lw_p50, List.forall_mem_cons.mpr ⟨lw_p51, List.forall_mem_cons.mpr ⟨lw_p52, List.forall_mem_cons.mpr ⟨lw_p53, List.forall_mem_cons.mpr ⟨lw_p54, List.forall_mem_cons.mpr ⟨lw_p55, List.forall_mem_cons.mpr ⟨lw_p56, List.forall_mem_cons.mpr ⟨lw_p57, List.forall_mem_cons.mpr ⟨lw_p58, List.forall_mem_cons.mpr ⟨lw_p59, List.forall_mem_cons.mpr ⟨lw_p60, List.forall_mem_cons.mpr ⟨lw_p61, List.forall_mem_cons.mpr ⟨lw_p62, List.forall_mem_cons.mpr ⟨lw_p63, fun _ h => absurd h List.not_mem_nil⟩⟩⟩⟩⟩⟩⟩⟩⟩⟩⟩⟩⟩⟩⟩⟩
theorem lw_p64 : lw_okq (⟨"SoleArraysModel", "lookBehind", "(IIII)V"⟩, 51) := ⟨⟨by decide +kernel, by decide +kernel⟩, List.mem_of_getElem? (i := 774) (by decide +kernel), List.mem_of_getElem? (i := 1034) (by decide +kernel), List.mem_of_getElem? (i := 1035) (by decide +kernel)⟩
theorem lw_p65 : lw_okq (⟨"SoleArraysModel", "count", "()I"⟩, 51) := ⟨⟨by decide +kernel, by decide +kernel⟩, List.mem_of_getElem? (i := 774) (by decide +kernel), List.mem_of_getElem? (i := 1038) (by decide +kernel), List.mem_of_getElem? (i := 1039) (by decide +kernel)⟩
theorem lw_p66 : lw_okq (⟨"SoleArraysModel", "isRun", "(I)Z"⟩, 51) := ⟨⟨by decide +kernel, by decide +kernel⟩, List.mem_of_getElem? (i := 774) (by decide +kernel), List.mem_of_getElem? (i := 1058) (by decide +kernel), List.mem_of_getElem? (i := 1059) (by decide +kernel)⟩
theorem lw_p67 : lw_okq (⟨"SoleArraysModel", "start", "(I)V"⟩, 51) := ⟨⟨by decide +kernel, by decide +kernel⟩, List.mem_of_getElem? (i := 774) (by decide +kernel), List.mem_of_getElem? (i := 1062) (by decide +kernel), List.mem_of_getElem? (i := 1063) (by decide +kernel)⟩
theorem lw_p68 : lw_okq (⟨"SoleArraysModel", "goOn", "()V"⟩, 51) := ⟨⟨by decide +kernel, by decide +kernel⟩, List.mem_of_getElem? (i := 774) (by decide +kernel), List.mem_of_getElem? (i := 1066) (by decide +kernel), List.mem_of_getElem? (i := 1067) (by decide +kernel)⟩
theorem lw_p69 : lw_okq (⟨"SoleArraysModel", "give", "(JI)V"⟩, 51) := ⟨⟨by decide +kernel, by decide +kernel⟩, List.mem_of_getElem? (i := 774) (by decide +kernel), List.mem_of_getElem? (i := 1070) (by decide +kernel), List.mem_of_getElem? (i := 1071) (by decide +kernel)⟩
theorem lw_p70 : lw_okq (⟨"SoleArraysModel", "makeOne", "(JJI)V"⟩, 51) := ⟨⟨by decide +kernel, by decide +kernel⟩, List.mem_of_getElem? (i := 774) (by decide +kernel), List.mem_of_getElem? (i := 1074) (by decide +kernel), List.mem_of_getElem? (i := 1075) (by decide +kernel)⟩
theorem lw_p71 : lw_okq (⟨"SoleArraysModel", "make", "(JJI)I"⟩, 51) := ⟨⟨by decide +kernel, by decide +kernel⟩, List.mem_of_getElem? (i := 774) (by decide +kernel), List.mem_of_getElem? (i := 1079) (by decide +kernel), List.mem_of_getElem? (i := 1080) (by decide +kernel)⟩
theorem lw_p72 : lw_okq (⟨"SoleArraysModel", "pass", "()V"⟩, 51) := ⟨⟨by decide +kernel, by decide +kernel⟩, List.mem_of_getElem? (i := 774) (by decide +kernel), List.mem_of_getElem? (i := 1083) (by decide +kernel), List.mem_of_getElem? (i := 1084) (by decide +kernel)⟩
theorem lw_p73 : lw_okq (⟨"SoleArraysModel", "hold", "(II)V"⟩, 51) := ⟨⟨by decide +kernel, by decide +kernel⟩, List.mem_of_getElem? (i := 774) (by decide +kernel), List.mem_of_getElem? (i := 1087) (by decide +kernel), List.mem_of_getElem? (i := 1088) (by decide +kernel)⟩
theorem lw_p74 : lw_okq (⟨"SoleArraysModel", "enter", "(I)V"⟩, 51) := ⟨⟨by decide +kernel, by decide +kernel⟩, List.mem_of_getElem? (i := 774) (by decide +kernel), List.mem_of_getElem? (i := 1091) (by decide +kernel), List.mem_of_getElem? (i := 1092) (by decide +kernel)⟩
theorem lw_p75 : lw_okq (⟨"SoleArraysModel", "finish", "(I)V"⟩, 51) := ⟨⟨by decide +kernel, by decide +kernel⟩, List.mem_of_getElem? (i := 774) (by decide +kernel), List.mem_of_getElem? (i := 1095) (by decide +kernel), List.mem_of_getElem? (i := 1096) (by decide +kernel)⟩
theorem lw_p76 : lw_okq (⟨"SoleArraysModel", "join", "(I)V"⟩, 51) := ⟨⟨by decide +kernel, by decide +kernel⟩, List.mem_of_getElem? (i := 774) (by decide +kernel), List.mem_of_getElem? (i := 1099) (by decide +kernel), List.mem_of_getElem? (i := 1100) (by decide +kernel)⟩
theorem lw_p77 : lw_okq (⟨"SoleArraysModel", "cellOf", "(I)V"⟩, 51) := ⟨⟨by decide +kernel, by decide +kernel⟩, List.mem_of_getElem? (i := 774) (by decide +kernel), List.mem_of_getElem? (i := 1103) (by decide +kernel), List.mem_of_getElem? (i := 1104) (by decide +kernel)⟩
def lw_privs_5 : List (MethodName × Nat) := [(⟨"SoleArraysModel", "lookBehind", "(IIII)V"⟩, 51), (⟨"SoleArraysModel", "count", "()I"⟩, 51), (⟨"SoleArraysModel", "isRun", "(I)Z"⟩, 51), (⟨"SoleArraysModel", "start", "(I)V"⟩, 51), (⟨"SoleArraysModel", "goOn", "()V"⟩, 51), (⟨"SoleArraysModel", "give", "(JI)V"⟩, 51), (⟨"SoleArraysModel", "makeOne", "(JJI)V"⟩, 51), (⟨"SoleArraysModel", "make", "(JJI)I"⟩, 51), (⟨"SoleArraysModel", "pass", "()V"⟩, 51), (⟨"SoleArraysModel", "hold", "(II)V"⟩, 51), (⟨"SoleArraysModel", "enter", "(I)V"⟩, 51), (⟨"SoleArraysModel", "finish", "(I)V"⟩, 51), (⟨"SoleArraysModel", "join", "(I)V"⟩, 51), (⟨"SoleArraysModel", "cellOf", "(I)V"⟩, 51)]
theorem lw_r5 : ∀ q ∈ lw_privs_5, lw_okq q := List.forall_mem_cons.mpr ⟨lw_p64, List.forall_mem_cons.mpr ⟨lw_p65, List.forall_mem_cons.mpr ⟨lw_p66, List.forall_mem_cons.mpr ⟨lw_p67, List.forall_mem_cons.mpr ⟨lw_p68, List.forall_mem_cons.mpr ⟨lw_p69, List.forall_mem_cons.mpr ⟨lw_p70, List.forall_mem_cons.mpr ⟨lw_p71, List.forall_mem_cons.mpr ⟨lw_p72, List.forall_mem_cons.mpr ⟨lw_p73, List.forall_mem_cons.mpr ⟨lw_p74, List.forall_mem_cons.mpr ⟨lw_p75, List.forall_mem_cons.mpr ⟨lw_p76, List.forall_mem_cons.mpr ⟨lw_p77, fun _ h => absurd h List.not_mem_nil⟩⟩⟩⟩⟩⟩⟩⟩⟩⟩⟩⟩⟩⟩
def lw_privs : List (MethodName × Nat) := lw_privs_1 ++ (lw_privs_2 ++ (lw_privs_3 ++ (lw_privs_4 ++ (lw_privs_5))))
def lw_tbl : List Cond := k2_sels lw_privs ++ tables_1
theorem lw_privs_ok : ∀ q ∈ lw_privs, lw_okq q := by
  show ∀ q ∈ lw_privs_1 ++ (lw_privs_2 ++ (lw_privs_3 ++ (lw_privs_4 ++ (lw_privs_5)))), lw_okq q
  exact List.forall_mem_append.mpr ⟨lw_r1, List.forall_mem_append.mpr ⟨lw_r2, List.forall_mem_append.mpr ⟨lw_r3, List.forall_mem_append.mpr ⟨lw_r4, lw_r5⟩⟩⟩⟩
end
section
/-! words that stay true under warmer tables -/
def zOk (w : Cond) : Bool := match w with
  | .declares _ => true
  | .castable _ _ => true
  | .methodLinkNest _ _ _ _ => true
  | .arrayOver (.object _) => true
  | .arrayOver (.array _) => true
  | w => goodWord w
theorem zok_arr {t : FieldType} {a a' : Array Value} {u U : State} (hvm : u.vm.Alike U.vm) (h : (Cond.arrayOver (.array t)).before a u = true) : (Cond.arrayOver (.array t)).before a' U = true := by
  obtain ⟨comp, c, k, h1, h2, h3, h4, h5⟩ := arrayOverA_spec h
  obtain ⟨k', hk', he⟩ := hvm.2.2 _ _ h3
  have hi : (U.vm.classes.findIdx? fun (x : Class) => match x.kind with | .array component _ => component == comp | _ => false) = some c := by
    have e1 := va_idx_bare U.vm comp
    have e2 := va_idx_bare u.vm comp
    first | rw [hvm.bare_eq] at e1 | rw [← hvm.bare_eq] at e1
    exact e1.symm.trans (e2.trans h2)
  have hkind : k'.kind = .array comp (.array t) := by rw [he]; exact h4
  have f1 : U.vm.findClass (FieldType.array t).toString = some comp := by rw [hvm.findClass]; exact h1
  have f2 : U.vm.findClass ("[" ++ (FieldType.array t).toString) = some c := by rw [hvm.findClass]; exact h5
  unfold Cond.before Cond.holds
  simp only [Cond.value]
  rw [f1, Option.bind_some]
  refine (congrArg (fun o : Option Nat => (o.bind (fun c => (U.vm.classes[c]?).map fun (k : Class) => match k.kind with | .array _ ty => decide (ty = FieldType.array t) && decide (U.vm.findClass ("[" ++ (FieldType.array t).toString) = some c) | _ => false) == some true)) hi).trans ?_
  simp [hk', hkind, f2]
theorem zok_at {a a' : Array Value} {s U : State} (hW : s.WarmedH U.vm) {w : Cond} (hw : zOk w = true) (h : w.before a s = true) : w.before a' U = true := by
  unfold zOk at hw
  split at hw
  · exact va_Nw.use rfl (va_Nw.warmD hW (va_Nw.of rfl h))
  · exact va_Nw.use rfl (va_Nw.warmC hW (va_Nw.of rfl h))
  · exact va_Nw.use rfl (va_Nw.warmM hW (va_Nw.of rfl h))
  · exact va_AO.use (va_AO.moved hW.alike (va_AO.of h))
  · exact zok_arr hW.alike h
  · exact word_at hW (good_of_word hw) h
end
section
def zTb : List Cond := lw_tbl.filter zOk
theorem zt0 {w : Cond} (h : w ∈ tables_1) (g : zOk w = true) : w ∈ zTb := List.mem_filter.mpr ⟨List.mem_append_right _ h, g⟩
theorem zt1 (i : Nat) {w : Cond} (h : tables_1_1[i]? = some w) (g : zOk w = true) : w ∈ zTb := zt0 (show w ∈ tables_1 from (List.mem_append_left _ (List.mem_of_getElem? h))) g
theorem zt2 (i : Nat) {w : Cond} (h : tables_1_2[i]? = some w) (g : zOk w = true) : w ∈ zTb := zt0 (show w ∈ tables_1 from (List.mem_append_right _ (List.mem_append_left _ (List.mem_of_getElem? h)))) g
theorem zt3 (i : Nat) {w : Cond} (h : tables_1_3[i]? = some w) (g : zOk w = true) : w ∈ zTb := zt0 (show w ∈ tables_1 from (List.mem_append_right _ (List.mem_append_right _ (List.mem_append_left _ (List.mem_of_getElem? h))))) g
theorem zt4 (i : Nat) {w : Cond} (h : tables_1_4[i]? = some w) (g : zOk w = true) : w ∈ zTb := zt0 (show w ∈ tables_1 from (List.mem_append_right _ (List.mem_append_right _ (List.mem_append_right _ (List.mem_append_left _ (List.mem_of_getElem? h)))))) g
theorem zt5 (i : Nat) {w : Cond} (h : tables_1_5[i]? = some w) (g : zOk w = true) : w ∈ zTb := zt0 (show w ∈ tables_1 from (List.mem_append_right _ (List.mem_append_right _ (List.mem_append_right _ (List.mem_append_right _ (List.mem_of_getElem? h)))))) g
theorem ztp (i : Nat) {w : Cond} (h : (k2_sels lw_privs)[i]? = some w) (g : zOk w = true) : w ∈ zTb := List.mem_filter.mpr ⟨List.mem_append_left _ (List.mem_of_getElem? h), g⟩
theorem zt_ok : ∀ w ∈ zTb, zOk w = true := fun w h => (List.mem_filter.mp h).2
theorem zt_in : ∀ w ∈ zTb, w ∈ lw_tbl := fun w h => (List.mem_filter.mp h).1
theorem zins (ws : List Cond) (ps : List Nat) (h : ws = ps.filterMap (fun i => tables_1[i]?)) (g : ws.all zOk = true) : ∀ w ∈ ws, w ∈ zTb := by
  intro w hw
  have h1 := List.all_eq_true.mp g w hw
  rw [h] at hw
  obtain ⟨i, -, hi⟩ := List.mem_filterMap.mp hw
  exact zt0 (List.mem_of_getElem? hi) h1
def F_S : u_T := fun k => match k with
  | 0 => ("SoleArrays", "text", "[C", true)
  | 1 => ("SoleArrays", "fault", "LSoleArrays$Fault;", true)
  | 2 => ("SoleArrays", "functions", "[LSoleArrays$Function;", true)
  | 3 => ("SoleArrays", "arguments", "[J", true)
  | 4 => ("SoleArrays", "runner", "LSoleArrays$Runner;", true)
  | 5 => ("SoleArrays", "typed", "I", false)
  | 6 => ("SoleArrays", "length", "I", false)
  | 7 => ("SoleArrays", "defined", "I", false)
  | 8 => ("SoleArrays", "resultType", "I", false)
  | _ => ("SoleArrays", "result", "J", false)
def ft_S : Nat → FieldType := fun k => match k with
  | 0 => .array .char
  | 1 => .object "SoleArrays$Fault"
  | 2 => .array (.object "SoleArrays$Function")
  | 3 => .array .long
  | 4 => .object "SoleArrays$Runner"
  | 5 => .int
  | 6 => .int
  | 7 => .int
  | 8 => .int
  | _ => .long
set_option maxRecDepth 20000 in
theorem in_S : ∀ w ∈ u_ws "SoleArrays" F_S 10, w ∈ zTb := zins _ [121, 123, 125, 127, 129, 131, 133, 135, 137, 139] (by decide +kernel) (by decide +kernel)
theorem ty_S : ∀ k, k < 10 → parseFieldDescriptor (F_S k).2.2.1 = some (ft_S k) := by decide +kernel
theorem nm_S : ∀ a, a < 10 → ∀ b, b < 10 → a ≠ b → (F_S a).2.1 ≠ (F_S b).2.1 := by decide +kernel
def F_T : u_T := fun k => match k with
  | _ => ("SoleArrays$Fault", "place", "I", false)
def ft_T : Nat → FieldType := fun k => match k with
  | _ => .int
set_option maxRecDepth 20000 in
theorem in_T : ∀ w ∈ u_ws "SoleArrays$Fault" F_T 1, w ∈ zTb := zins _ [40] (by decide +kernel) (by decide +kernel)
theorem ty_T : ∀ k, k < 1 → parseFieldDescriptor (F_T k).2.2.1 = some (ft_T k) := by decide +kernel
theorem nm_T : ∀ a, a < 1 → ∀ b, b < 1 → a ≠ b → (F_T a).2.1 ≠ (F_T b).2.1 := by decide +kernel
def F_F : u_T := fun k => match k with
  | 0 => ("SoleArrays$Function", "name", "I", true)
  | 1 => ("SoleArrays$Function", "variables", "[I", true)
  | 2 => ("SoleArrays$Function", "variablePlaces", "[I", true)
  | 3 => ("SoleArrays$Function", "types", "[I", true)
  | 4 => ("SoleArrays$Function", "parameterCount", "I", false)
  | 5 => ("SoleArrays$Function", "resultType", "I", false)
  | _ => ("SoleArrays$Function", "body", "LSoleArrays$Expression;", false)
def ft_F : Nat → FieldType := fun k => match k with
  | 0 => .int
  | 1 => .array .int
  | 2 => .array .int
  | 3 => .array .int
  | 4 => .int
  | 5 => .int
  | _ => .object "SoleArrays$Expression"
set_option maxRecDepth 20000 in
theorem in_F : ∀ w ∈ u_ws "SoleArrays$Function" F_F 7, w ∈ zTb := zins _ [351, 353, 355, 357, 359, 361, 363] (by decide +kernel) (by decide +kernel)
theorem ty_F : ∀ k, k < 7 → parseFieldDescriptor (F_F k).2.2.1 = some (ft_F k) := by decide +kernel
theorem nm_F : ∀ a, a < 7 → ∀ b, b < 7 → a ≠ b → (F_F a).2.1 ≠ (F_F b).2.1 := by decide +kernel
def F_E : u_T := fun k => match k with
  | 0 => ("SoleArrays$Expression", "form", "LSoleArrays$Form;", true)
  | 1 => ("SoleArrays$Expression", "place", "I", true)
  | 2 => ("SoleArrays$Expression", "parts", "[LSoleArrays$Expression;", true)
  | 3 => ("SoleArrays$Expression", "partCount", "I", false)
  | 4 => ("SoleArrays$Expression", "number", "J", false)
  | 5 => ("SoleArrays$Expression", "operation", "C", false)
  | 6 => ("SoleArrays$Expression", "variable", "I", false)
  | 7 => ("SoleArrays$Expression", "variablePlace", "I", false)
  | 8 => ("SoleArrays$Expression", "calleeName", "I", false)
  | _ => ("SoleArrays$Expression", "callee", "LSoleArrays$Function;", false)
def ft_E : Nat → FieldType := fun k => match k with
  | 0 => .object "SoleArrays$Form"
  | 1 => .int
  | 2 => .array (.object "SoleArrays$Expression")
  | 3 => .int
  | 4 => .long
  | 5 => .char
  | 6 => .int
  | 7 => .int
  | 8 => .int
  | _ => .object "SoleArrays$Function"
set_option maxRecDepth 20000 in
theorem in_E : ∀ w ∈ u_ws "SoleArrays$Expression" F_E 10, w ∈ zTb := zins _ [438, 440, 442, 444, 446, 448, 450, 452, 454, 456] (by decide +kernel) (by decide +kernel)
theorem ty_E : ∀ k, k < 10 → parseFieldDescriptor (F_E k).2.2.1 = some (ft_E k) := by decide +kernel
theorem nm_E : ∀ a, a < 10 → ∀ b, b < 10 → a ≠ b → (F_E a).2.1 ≠ (F_E b).2.1 := by decide +kernel
def F_R : u_T := fun k => match k with
  | 0 => ("SoleArrays$Reader", "text", "[C", true)
  | 1 => ("SoleArrays$Reader", "length", "I", true)
  | 2 => ("SoleArrays$Reader", "fault", "LSoleArrays$Fault;", true)
  | _ => ("SoleArrays$Reader", "at", "I", false)
def ft_R : Nat → FieldType := fun k => match k with
  | 0 => .array .char
  | 1 => .int
  | 2 => .object "SoleArrays$Fault"
  | _ => .int
set_option maxRecDepth 20000 in
theorem in_R : ∀ w ∈ u_ws "SoleArrays$Reader" F_R 4, w ∈ zTb := zins _ [283, 285, 287, 289] (by decide +kernel) (by decide +kernel)
theorem ty_R : ∀ k, k < 4 → parseFieldDescriptor (F_R k).2.2.1 = some (ft_R k) := by decide +kernel
theorem nm_R : ∀ a, a < 4 → ∀ b, b < 4 → a ≠ b → (F_R a).2.1 ≠ (F_R b).2.1 := by decide +kernel
def F_C : u_T := fun k => match k with
  | 0 => ("SoleArrays$Checker", "subject", "LSoleArrays$Function;", true)
  | 1 => ("SoleArrays$Checker", "functions", "[LSoleArrays$Function;", true)
  | 2 => ("SoleArrays$Checker", "fault", "LSoleArrays$Fault;", true)
  | 3 => ("SoleArrays$Checker", "types", "[I", true)
  | _ => ("SoleArrays$Checker", "owned", "I", false)
def ft_C : Nat → FieldType := fun k => match k with
  | 0 => .object "SoleArrays$Function"
  | 1 => .array (.object "SoleArrays$Function")
  | 2 => .object "SoleArrays$Fault"
  | 3 => .array .int
  | _ => .int
set_option maxRecDepth 20000 in
theorem in_C : ∀ w ∈ u_ws "SoleArrays$Checker" F_C 5, w ∈ zTb := zins _ [549, 551, 553, 555, 557] (by decide +kernel) (by decide +kernel)
theorem ty_C : ∀ k, k < 5 → parseFieldDescriptor (F_C k).2.2.1 = some (ft_C k) := by decide +kernel
theorem nm_C : ∀ a, a < 5 → ∀ b, b < 5 → a ≠ b → (F_C a).2.1 ≠ (F_C b).2.1 := by decide +kernel
def F_O : u_T := fun k => match k with
  | 0 => ("SoleArrays$Store", "heights", "[I", true)
  | 1 => ("SoleArrays$Store", "widths", "[I", true)
  | 2 => ("SoleArrays$Store", "made", "I", false)
  | 3 => ("SoleArrays$Store", "most", "I", false)
  | 4 => ("SoleArrays$Store", "numbers", "[[J", true)
  | 5 => ("SoleArrays$Store", "taken", "[Z", true)
  | _ => ("SoleArrays$Store", "there", "I", false)
def ft_O : Nat → FieldType := fun k => match k with
  | 0 => .array .int
  | 1 => .array .int
  | 2 => .int
  | 3 => .int
  | 4 => .array (.array .long)
  | 5 => .array .boolean
  | _ => .int
set_option maxRecDepth 20000 in
theorem in_O : ∀ w ∈ u_ws "SoleArrays$Store" F_O 7, w ∈ zTb := zins _ [73, 75, 77, 79, 81, 83, 85] (by decide +kernel) (by decide +kernel)
theorem ty_O : ∀ k, k < 7 → parseFieldDescriptor (F_O k).2.2.1 = some (ft_O k) := by decide +kernel
theorem nm_O : ∀ a, a < 7 → ∀ b, b < 7 → a ≠ b → (F_O a).2.1 ≠ (F_O b).2.1 := by decide +kernel
def F_U : u_T := fun k => match k with
  | 0 => ("SoleArrays$Runner", "store", "LSoleArrays$Store;", true)
  | 1 => ("SoleArrays$Runner", "begun", "I", false)
  | 2 => ("SoleArrays$Runner", "updates", "I", false)
  | 3 => ("SoleArrays$Runner", "frames", "[[J", true)
  | _ => ("SoleArrays$Runner", "framesTaken", "I", false)
def ft_U : Nat → FieldType := fun k => match k with
  | 0 => .object "SoleArrays$Store"
  | 1 => .int
  | 2 => .int
  | 3 => .array (.array .long)
  | _ => .int
set_option maxRecDepth 20000 in
theorem in_U : ∀ w ∈ u_ws "SoleArrays$Runner" F_U 5, w ∈ zTb := zins _ [100, 102, 104, 106, 108] (by decide +kernel) (by decide +kernel)
theorem ty_U : ∀ k, k < 5 → parseFieldDescriptor (F_U k).2.2.1 = some (ft_U k) := by decide +kernel
theorem nm_U : ∀ a, a < 5 → ∀ b, b < 5 → a ≠ b → (F_U a).2.1 ≠ (F_U b).2.1 := by decide +kernel
def F_M : u_T := fun k => match k with
  | 0 => ("SoleArraysModel", "code", "I", false)
  | 1 => ("SoleArraysModel", "typed", "I", false)
  | 2 => ("SoleArraysModel", "size", "I", false)
  | 3 => ("SoleArraysModel", "text", "[C", true)
  | 4 => ("SoleArraysModel", "at", "I", false)
  | 5 => ("SoleArraysModel", "ill", "Z", false)
  | 6 => ("SoleArraysModel", "illAt", "I", false)
  | 7 => ("SoleArraysModel", "kind", "[I", true)
  | 8 => ("SoleArraysModel", "arg", "[I", true)
  | 9 => ("SoleArraysModel", "where", "[I", true)
  | 10 => ("SoleArraysModel", "parts", "[I", true)
  | 11 => ("SoleArraysModel", "end", "[I", true)
  | 12 => ("SoleArraysModel", "nodes", "I", false)
  | 13 => ("SoleArraysModel", "defined", "[Z", true)
  | 14 => ("SoleArraysModel", "counts", "[I", true)
  | 15 => ("SoleArraysModel", "results", "[I", true)
  | 16 => ("SoleArraysModel", "parameters", "[I", true)
  | 17 => ("SoleArraysModel", "types", "[I", true)
  | 18 => ("SoleArraysModel", "parameterPlaces", "[I", true)
  | 19 => ("SoleArraysModel", "open", "I", false)
  | 20 => ("SoleArraysModel", "pile", "[I", true)
  | 21 => ("SoleArraysModel", "done", "[I", true)
  | 22 => ("SoleArraysModel", "before", "[I", true)
  | 23 => ("SoleArraysModel", "behind", "[I", true)
  | 24 => ("SoleArraysModel", "first", "[I", true)
  | 25 => ("SoleArraysModel", "bound", "[I", true)
  | 26 => ("SoleArraysModel", "owned", "I", false)
  | 27 => ("SoleArraysModel", "wrong", "I", false)
  | 28 => ("SoleArraysModel", "self", "I", false)
  | 29 => ("SoleArraysModel", "cells", "[J", true)
  | 30 => ("SoleArraysModel", "rows", "[I", true)
  | 31 => ("SoleArraysModel", "columns", "[I", true)
  | 32 => ("SoleArraysModel", "arrays", "I", false)
  | 33 => ("SoleArraysModel", "depth", "I", false)
  | 34 => ("SoleArraysModel", "numbers", "[J", true)
  | 35 => ("SoleArraysModel", "held", "[I", true)
  | 36 => ("SoleArraysModel", "values", "I", false)
  | 37 => ("SoleArraysModel", "number", "[J", true)
  | 38 => ("SoleArraysModel", "array", "[I", true)
  | 39 => ("SoleArraysModel", "steps", "I", false)
  | 40 => ("SoleArraysModel", "made", "I", false)
  | 41 => ("SoleArraysModel", "there", "I", false)
  | 42 => ("SoleArraysModel", "most", "I", false)
  | 43 => ("SoleArraysModel", "updates", "I", false)
  | 44 => ("SoleArraysModel", "fault", "I", false)
  | 45 => ("SoleArraysModel", "arguments", "[J", true)
  | 46 => ("SoleArraysModel", "result", "I", false)
  | 47 => ("SoleArraysModel", "resultNumber", "J", false)
  | 48 => ("SoleArraysModel", "resultRows", "I", false)
  | 49 => ("SoleArraysModel", "resultColumns", "I", false)
  | _ => ("SoleArraysModel", "resultCells", "[J", true)
def ft_M : Nat → FieldType := fun k => match k with
  | 0 => .int
  | 1 => .int
  | 2 => .int
  | 3 => .array .char
  | 4 => .int
  | 5 => .boolean
  | 6 => .int
  | 7 => .array .int
  | 8 => .array .int
  | 9 => .array .int
  | 10 => .array .int
  | 11 => .array .int
  | 12 => .int
  | 13 => .array .boolean
  | 14 => .array .int
  | 15 => .array .int
  | 16 => .array .int
  | 17 => .array .int
  | 18 => .array .int
  | 19 => .int
  | 20 => .array .int
  | 21 => .array .int
  | 22 => .array .int
  | 23 => .array .int
  | 24 => .array .int
  | 25 => .array .int
  | 26 => .int
  | 27 => .int
  | 28 => .int
  | 29 => .array .long
  | 30 => .array .int
  | 31 => .array .int
  | 32 => .int
  | 33 => .int
  | 34 => .array .long
  | 35 => .array .int
  | 36 => .int
  | 37 => .array .long
  | 38 => .array .int
  | 39 => .int
  | 40 => .int
  | 41 => .int
  | 42 => .int
  | 43 => .int
  | 44 => .int
  | 45 => .array .long
  | 46 => .int
  | 47 => .long
  | 48 => .int
  | 49 => .int
  | _ => .array .long
set_option maxRecDepth 20000 in
theorem in_M : ∀ w ∈ u_ws "SoleArraysModel" F_M 51, w ∈ zTb := zins _ [830, 832, 834, 836, 838, 840, 842, 844, 846, 848, 850, 852, 854, 856, 858, 860, 862, 864, 866, 868, 870, 872, 874, 876, 878, 880, 882, 884, 886, 888, 890, 892, 894, 896, 898, 900, 902, 904, 906, 908, 910, 912, 914, 916, 918, 920, 922, 924, 926, 928, 930] (by decide +kernel) (by decide +kernel)
theorem ty_M : ∀ k, k < 51 → parseFieldDescriptor (F_M k).2.2.1 = some (ft_M k) := by decide +kernel
theorem nm_M : ∀ a, a < 51 → ∀ b, b < 51 → a ≠ b → (F_M a).2.1 ≠ (F_M b).2.1 := by decide +kernel
def F_X : u_T := fun _ => ("", "", "", false)
def zCl : List vw_C := [("SoleArrays", F_S, 10), ("SoleArrays$Fault", F_T, 1), ("SoleArrays$Function", F_F, 7), ("SoleArrays$Expression", F_E, 10), ("SoleArrays$Reader", F_R, 4), ("SoleArrays$Checker", F_C, 5), ("SoleArrays$Store", F_O, 7), ("SoleArrays$Runner", F_U, 5), ("SoleArraysModel", F_M, 51), ("java/lang/IllegalArgumentException", F_X, 0), ("java/lang/IllegalStateException", F_X, 0), ("java/lang/IndexOutOfBoundsException", F_X, 0), ("java/lang/ArithmeticException", F_X, 0), ("java/lang/UnsupportedOperationException", F_X, 0)]
def zTy : List FieldType := [.int, .long, .char, .boolean, .object "SoleArrays$Function", .object "SoleArrays$Expression", .array .long]
abbrev b_S_init : ByteArray := prog_1_method_1_code
abbrev y_S_init : MethodName := ⟨"SoleArrays", "<init>", "()V"⟩
abbrev b_S_type : ByteArray := prog_1_method_2_code
abbrev y_S_type : MethodName := ⟨"SoleArrays", "type", "(C)Z"⟩
abbrev b_S_define : ByteArray := prog_1_method_3_code
abbrev y_S_define : MethodName := ⟨"SoleArrays", "define", "()I"⟩
abbrev b_S_place : ByteArray := prog_1_method_4_code
abbrev y_S_place : MethodName := ⟨"SoleArrays", "place", "()I"⟩
abbrev b_S_clear : ByteArray := prog_1_method_5_code
abbrev y_S_clear : MethodName := ⟨"SoleArrays", "clear", "()I"⟩
abbrev b_S_argument : ByteArray := prog_1_method_6_code
abbrev y_S_argument : MethodName := ⟨"SoleArrays", "argument", "(IJ)Z"⟩
abbrev b_S_run : ByteArray := prog_1_method_7_code
abbrev y_S_run : MethodName := ⟨"SoleArrays", "run", "(C)I"⟩
abbrev b_S_kind : ByteArray := prog_1_method_8_code
abbrev y_S_kind : MethodName := ⟨"SoleArrays", "kind", "()I"⟩
abbrev b_S_value : ByteArray := prog_1_method_9_code
abbrev y_S_value : MethodName := ⟨"SoleArrays", "value", "()J"⟩
abbrev b_S_size : ByteArray := prog_1_method_10_code
abbrev y_S_size : MethodName := ⟨"SoleArrays", "size", "(I)I"⟩
abbrev b_S_cell : ByteArray := prog_1_method_11_code
abbrev y_S_cell : MethodName := ⟨"SoleArrays", "cell", "(II)J"⟩
abbrev b_S_counted : ByteArray := prog_1_method_12_code
abbrev y_S_counted : MethodName := ⟨"SoleArrays", "counted", "(I)I"⟩
abbrev b_S_functionNamed : ByteArray := prog_1_method_13_code
abbrev y_S_functionNamed : MethodName := ⟨"SoleArrays", "functionNamed", "(C)LSoleArrays$Function;"⟩
abbrev b_S_isArray : ByteArray := prog_1_method_14_code
abbrev y_S_isArray : MethodName := ⟨"SoleArrays", "isArray", "(I)Z"⟩
abbrev b_T_init : ByteArray := prog_5_method_1_code
abbrev y_T_init : MethodName := ⟨"SoleArrays$Fault", "<init>", "()V"⟩
abbrev b_T_ill : ByteArray := prog_5_method_2_code
abbrev y_T_ill : MethodName := ⟨"SoleArrays$Fault", "ill", "(I)V"⟩
abbrev b_T_wrong : ByteArray := prog_5_method_3_code
abbrev y_T_wrong : MethodName := ⟨"SoleArrays$Fault", "wrong", "(I)V"⟩
abbrev b_F_init : ByteArray := prog_7_method_1_code
abbrev y_F_init : MethodName := ⟨"SoleArrays$Function", "<init>", "(I)V"⟩
abbrev b_F_addParameter : ByteArray := prog_7_method_2_code
abbrev y_F_addParameter : MethodName := ⟨"SoleArrays$Function", "addParameter", "(III)V"⟩
abbrev b_F_takesNumbersOnly : ByteArray := prog_7_method_3_code
abbrev y_F_takesNumbersOnly : MethodName := ⟨"SoleArrays$Function", "takesNumbersOnly", "()Z"⟩
abbrev b_E_init : ByteArray := prog_4_method_1_code
abbrev y_E_init : MethodName := ⟨"SoleArrays$Expression", "<init>", "(LSoleArrays$Form;I)V"⟩
abbrev b_E_add : ByteArray := prog_4_method_2_code
abbrev y_E_add : MethodName := ⟨"SoleArrays$Expression", "add", "(LSoleArrays$Expression;)V"⟩
abbrev b_R_init : ByteArray := prog_8_method_1_code
abbrev y_R_init : MethodName := ⟨"SoleArrays$Reader", "<init>", "([CILSoleArrays$Fault;)V"⟩
abbrev b_R_readFunction : ByteArray := prog_8_method_2_code
abbrev y_R_readFunction : MethodName := ⟨"SoleArrays$Reader", "readFunction", "()LSoleArrays$Function;"⟩
abbrev b_R_readParameter : ByteArray := prog_8_method_3_code
abbrev y_R_readParameter : MethodName := ⟨"SoleArrays$Reader", "readParameter", "(LSoleArrays$Function;)V"⟩
abbrev b_R_readExpression : ByteArray := prog_8_method_4_code
abbrev y_R_readExpression : MethodName := ⟨"SoleArrays$Reader", "readExpression", "(I)LSoleArrays$Expression;"⟩
abbrev b_R_refuse : ByteArray := prog_8_method_5_code
abbrev y_R_refuse : MethodName := ⟨"SoleArrays$Reader", "refuse", "()LSoleArrays$Expression;"⟩
abbrev b_R_readDigits : ByteArray := prog_8_method_6_code
abbrev y_R_readDigits : MethodName := ⟨"SoleArrays$Reader", "readDigits", "()LSoleArrays$Expression;"⟩
abbrev b_R_readFromVariable : ByteArray := prog_8_method_7_code
abbrev y_R_readFromVariable : MethodName := ⟨"SoleArrays$Reader", "readFromVariable", "(I)LSoleArrays$Expression;"⟩
abbrev b_R_readReading : ByteArray := prog_8_method_8_code
abbrev y_R_readReading : MethodName := ⟨"SoleArrays$Reader", "readReading", "(II)LSoleArrays$Expression;"⟩
abbrev b_R_readUpdate : ByteArray := prog_8_method_9_code
abbrev y_R_readUpdate : MethodName := ⟨"SoleArrays$Reader", "readUpdate", "(II)LSoleArrays$Expression;"⟩
abbrev b_R_readCall : ByteArray := prog_8_method_10_code
abbrev y_R_readCall : MethodName := ⟨"SoleArrays$Reader", "readCall", "(I)LSoleArrays$Expression;"⟩
abbrev b_R_readOperation : ByteArray := prog_8_method_11_code
abbrev y_R_readOperation : MethodName := ⟨"SoleArrays$Reader", "readOperation", "(I)LSoleArrays$Expression;"⟩
abbrev b_R_takeOperation : ByteArray := prog_8_method_12_code
abbrev y_R_takeOperation : MethodName := ⟨"SoleArrays$Reader", "takeOperation", "()C"⟩
abbrev b_R_readChoice : ByteArray := prog_8_method_13_code
abbrev y_R_readChoice : MethodName := ⟨"SoleArrays$Reader", "readChoice", "(I)LSoleArrays$Expression;"⟩
abbrev b_R_readBinding : ByteArray := prog_8_method_14_code
abbrev y_R_readBinding : MethodName := ⟨"SoleArrays$Reader", "readBinding", "(I)LSoleArrays$Expression;"⟩
abbrev b_R_readGivingUp : ByteArray := prog_8_method_15_code
abbrev y_R_readGivingUp : MethodName := ⟨"SoleArrays$Reader", "readGivingUp", "(I)LSoleArrays$Expression;"⟩
abbrev b_R_readNewRow : ByteArray := prog_8_method_16_code
abbrev y_R_readNewRow : MethodName := ⟨"SoleArrays$Reader", "readNewRow", "(I)LSoleArrays$Expression;"⟩
abbrev b_R_readNewTable : ByteArray := prog_8_method_17_code
abbrev y_R_readNewTable : MethodName := ⟨"SoleArrays$Reader", "readNewTable", "(I)LSoleArrays$Expression;"⟩
abbrev b_R_readSignAndVariable : ByteArray := prog_8_method_18_code
abbrev y_R_readSignAndVariable : MethodName := ⟨"SoleArrays$Reader", "readSignAndVariable", "(LSoleArrays$Form;)LSoleArrays$Expression;"⟩
abbrev b_R_next : ByteArray := prog_8_method_19_code
abbrev y_R_next : MethodName := ⟨"SoleArrays$Reader", "next", "()C"⟩
abbrev b_R_nextIsOneOf : ByteArray := prog_8_method_20_code
abbrev y_R_nextIsOneOf : MethodName := ⟨"SoleArrays$Reader", "nextIsOneOf", "(CC)Z"⟩
abbrev b_R_take : ByteArray := prog_8_method_21_code
abbrev y_R_take : MethodName := ⟨"SoleArrays$Reader", "take", "(C)V"⟩
abbrev b_R_takeOneOf : ByteArray := prog_8_method_22_code
abbrev y_R_takeOneOf : MethodName := ⟨"SoleArrays$Reader", "takeOneOf", "(CC)I"⟩
abbrev b_R_takeCommaBefore : ByteArray := prog_8_method_23_code
abbrev y_R_takeCommaBefore : MethodName := ⟨"SoleArrays$Reader", "takeCommaBefore", "(I)V"⟩
abbrev b_C_init : ByteArray := prog_3_method_1_code
abbrev y_C_init : MethodName := ⟨"SoleArrays$Checker", "<init>", "(LSoleArrays$Function;[LSoleArrays$Function;LSoleArrays$Fault;)V"⟩
abbrev b_C_check : ByteArray := prog_3_method_2_code
abbrev y_C_check : MethodName := ⟨"SoleArrays$Checker", "check", "()V"⟩
abbrev b_C_look : ByteArray := prog_3_method_3_code
abbrev y_C_look : MethodName := ⟨"SoleArrays$Checker", "look", "(LSoleArrays$Expression;)I"⟩
abbrev b_C_lookAtNumbers : ByteArray := prog_3_method_4_code
abbrev y_C_lookAtNumbers : MethodName := ⟨"SoleArrays$Checker", "lookAtNumbers", "(LSoleArrays$Expression;)V"⟩
abbrev b_C_lookAtPart : ByteArray := prog_3_method_5_code
abbrev y_C_lookAtPart : MethodName := ⟨"SoleArrays$Checker", "lookAtPart", "(LSoleArrays$Expression;I)V"⟩
abbrev b_C_lookAtChoice : ByteArray := prog_3_method_6_code
abbrev y_C_lookAtChoice : MethodName := ⟨"SoleArrays$Checker", "lookAtChoice", "(LSoleArrays$Expression;)I"⟩
abbrev b_C_lookAtBinding : ByteArray := prog_3_method_7_code
abbrev y_C_lookAtBinding : MethodName := ⟨"SoleArrays$Checker", "lookAtBinding", "(LSoleArrays$Expression;)I"⟩
abbrev b_C_lookAtCall : ByteArray := prog_3_method_8_code
abbrev y_C_lookAtCall : MethodName := ⟨"SoleArrays$Checker", "lookAtCall", "(LSoleArrays$Expression;)I"⟩
abbrev b_C_lookAtVariable : ByteArray := prog_3_method_9_code
abbrev y_C_lookAtVariable : MethodName := ⟨"SoleArrays$Checker", "lookAtVariable", "(LSoleArrays$Expression;II)I"⟩
abbrev b_C_useUp : ByteArray := prog_3_method_10_code
abbrev y_C_useUp : MethodName := ⟨"SoleArrays$Checker", "useUp", "(LSoleArrays$Expression;II)I"⟩
abbrev b_C_bind : ByteArray := prog_3_method_11_code
abbrev y_C_bind : MethodName := ⟨"SoleArrays$Checker", "bind", "(II)V"⟩
abbrev b_C_refuseIfBound : ByteArray := prog_3_method_12_code
abbrev y_C_refuseIfBound : MethodName := ⟨"SoleArrays$Checker", "refuseIfBound", "(II)V"⟩
abbrev b_C_refuseIfOwned : ByteArray := prog_3_method_13_code
abbrev y_C_refuseIfOwned : MethodName := ⟨"SoleArrays$Checker", "refuseIfOwned", "(II)V"⟩
abbrev b_C_isOwned : ByteArray := prog_3_method_14_code
abbrev y_C_isOwned : MethodName := ⟨"SoleArrays$Checker", "isOwned", "(I)Z"⟩
abbrev b_O_init : ByteArray := prog_10_method_1_code
abbrev y_O_init : MethodName := ⟨"SoleArrays$Store", "<init>", "()V"⟩
abbrev b_O_empty : ByteArray := prog_10_method_2_code
abbrev y_O_empty : MethodName := ⟨"SoleArrays$Store", "empty", "()V"⟩
abbrev b_O_make : ByteArray := prog_10_method_3_code
abbrev y_O_make : MethodName := ⟨"SoleArrays$Store", "make", "(JJ)I"⟩
abbrev b_O_copy : ByteArray := prog_10_method_4_code
abbrev y_O_copy : MethodName := ⟨"SoleArrays$Store", "copy", "(I)I"⟩
abbrev b_O_giveUp : ByteArray := prog_10_method_5_code
abbrev y_O_giveUp : MethodName := ⟨"SoleArrays$Store", "giveUp", "(I)V"⟩
abbrev b_O_has : ByteArray := prog_10_method_6_code
abbrev y_O_has : MethodName := ⟨"SoleArrays$Store", "has", "(IJJ)Z"⟩
abbrev b_O_numberAt : ByteArray := prog_10_method_7_code
abbrev y_O_numberAt : MethodName := ⟨"SoleArrays$Store", "numberAt", "(IJJ)J"⟩
abbrev b_O_put : ByteArray := prog_10_method_8_code
abbrev y_O_put : MethodName := ⟨"SoleArrays$Store", "put", "(IJJJ)V"⟩
abbrev b_O_indexOf : ByteArray := prog_10_method_9_code
abbrev y_O_indexOf : MethodName := ⟨"SoleArrays$Store", "indexOf", "(IJJ)I"⟩
abbrev b_O_firstFree : ByteArray := prog_10_method_10_code
abbrev y_O_firstFree : MethodName := ⟨"SoleArrays$Store", "firstFree", "()I"⟩
abbrev b_U_init : ByteArray := prog_9_method_1_code
abbrev y_U_init : MethodName := ⟨"SoleArrays$Runner", "<init>", "()V"⟩
abbrev b_U_start : ByteArray := prog_9_method_2_code
abbrev y_U_start : MethodName := ⟨"SoleArrays$Runner", "start", "(LSoleArrays$Function;[J)J"⟩
abbrev b_U_work : ByteArray := prog_9_method_3_code
abbrev y_U_work : MethodName := ⟨"SoleArrays$Runner", "work", "(LSoleArrays$Expression;II)J"⟩
abbrev b_U_arrayOf : ByteArray := prog_9_method_4_code
abbrev y_U_arrayOf : MethodName := ⟨"SoleArrays$Runner", "arrayOf", "(LSoleArrays$Expression;I)I"⟩
abbrev b_U_operate : ByteArray := prog_9_method_5_code
abbrev y_U_operate : MethodName := ⟨"SoleArrays$Runner", "operate", "(CJJ)J"⟩
abbrev b_U_divide : ByteArray := prog_9_method_6_code
abbrev y_U_divide : MethodName := ⟨"SoleArrays$Runner", "divide", "(JJ)J"⟩
abbrev b_U_readNumber : ByteArray := prog_9_method_7_code
abbrev y_U_readNumber : MethodName := ⟨"SoleArrays$Runner", "readNumber", "(LSoleArrays$Expression;II)J"⟩
abbrev b_U_update : ByteArray := prog_9_method_8_code
abbrev y_U_update : MethodName := ⟨"SoleArrays$Runner", "update", "(LSoleArrays$Expression;II)J"⟩
abbrev b_U_call : ByteArray := prog_9_method_9_code
abbrev y_U_call : MethodName := ⟨"SoleArrays$Runner", "call", "(LSoleArrays$Expression;II)J"⟩
abbrev b_M_init : ByteArray := prog_12_method_1_code
abbrev y_M_init : MethodName := ⟨"SoleArraysModel", "<init>", "()V"⟩
abbrev b_M_thrown : ByteArray := prog_12_method_2_code
abbrev y_M_thrown : MethodName := ⟨"SoleArraysModel", "thrown", "()I"⟩
abbrev b_M_look : ByteArray := prog_12_method_3_code
abbrev y_M_look : MethodName := ⟨"SoleArraysModel", "look", "()C"⟩
abbrev b_M_takes : ByteArray := prog_12_method_4_code
abbrev y_M_takes : MethodName := ⟨"SoleArraysModel", "takes", "(C)Z"⟩
abbrev b_M_want : ByteArray := prog_12_method_5_code
abbrev y_M_want : MethodName := ⟨"SoleArraysModel", "want", "(Z)V"⟩
abbrev b_M_among : ByteArray := prog_12_method_6_code
abbrev y_M_among : MethodName := ⟨"SoleArraysModel", "among", "(CC)Z"⟩
abbrev b_M_letter : ByteArray := prog_12_method_7_code
abbrev y_M_letter : MethodName := ⟨"SoleArraysModel", "letter", "(CC)I"⟩
abbrev b_M_node : ByteArray := prog_12_method_8_code
abbrev y_M_node : MethodName := ⟨"SoleArraysModel", "node", "(III)I"⟩
abbrev b_M_push : ByteArray := prog_12_method_9_code
abbrev y_M_push : MethodName := ⟨"SoleArraysModel", "push", "(I)V"⟩
abbrev b_M_beginExpression : ByteArray := prog_12_method_10_code
abbrev y_M_beginExpression : MethodName := ⟨"SoleArraysModel", "beginExpression", "()Z"⟩
abbrev b_M_beginOther : ByteArray := prog_12_method_11_code
abbrev y_M_beginOther : MethodName := ⟨"SoleArraysModel", "beginOther", "(CI)Z"⟩
abbrev b_M_behindPart : ByteArray := prog_12_method_12_code
abbrev y_M_behindPart : MethodName := ⟨"SoleArraysModel", "behindPart", "()Z"⟩
abbrev b_M_readExpression : ByteArray := prog_12_method_13_code
abbrev y_M_readExpression : MethodName := ⟨"SoleArraysModel", "readExpression", "()V"⟩
abbrev b_M_readFunction : ByteArray := prog_12_method_14_code
abbrev y_M_readFunction : MethodName := ⟨"SoleArraysModel", "readFunction", "()I"⟩
abbrev b_M_mistake : ByteArray := prog_12_method_15_code
abbrev y_M_mistake : MethodName := ⟨"SoleArraysModel", "mistake", "(I)V"⟩
abbrev b_M_isOwned : ByteArray := prog_12_method_16_code
abbrev y_M_isOwned : MethodName := ⟨"SoleArraysModel", "isOwned", "(I)Z"⟩
abbrev b_M_bind : ByteArray := prog_12_method_17_code
abbrev y_M_bind : MethodName := ⟨"SoleArraysModel", "bind", "(II)V"⟩
abbrev b_M_use : ByteArray := prog_12_method_18_code
abbrev y_M_use : MethodName := ⟨"SoleArraysModel", "use", "(III)I"⟩
abbrev b_M_useUp : ByteArray := prog_12_method_19_code
abbrev y_M_useUp : MethodName := ⟨"SoleArraysModel", "useUp", "(I)V"⟩
abbrev b_M_called : ByteArray := prog_12_method_20_code
abbrev y_M_called : MethodName := ⟨"SoleArraysModel", "called", "(I)I"⟩
abbrev b_M_lookBefore : ByteArray := prog_12_method_21_code
abbrev y_M_lookBefore : MethodName := ⟨"SoleArraysModel", "lookBefore", "(I)V"⟩
abbrev b_M_lookBehind : ByteArray := prog_12_method_22_code
abbrev y_M_lookBehind : MethodName := ⟨"SoleArraysModel", "lookBehind", "(IIII)V"⟩
abbrev b_M_typeOf : ByteArray := prog_12_method_23_code
abbrev y_M_typeOf : MethodName := ⟨"SoleArraysModel", "typeOf", "(II)I"⟩
abbrev b_M_lookAll : ByteArray := prog_12_method_24_code
abbrev y_M_lookAll : MethodName := ⟨"SoleArraysModel", "lookAll", "()I"⟩
abbrev b_M_check : ByteArray := prog_12_method_25_code
abbrev y_M_check : MethodName := ⟨"SoleArraysModel", "check", "(I)V"⟩
abbrev b_M_type : ByteArray := prog_12_method_26_code
abbrev y_M_type : MethodName := ⟨"SoleArraysModel", "type", "(C)Z"⟩
abbrev b_M_count : ByteArray := prog_12_method_27_code
abbrev y_M_count : MethodName := ⟨"SoleArraysModel", "count", "()I"⟩
abbrev b_M_define : ByteArray := prog_12_method_28_code
abbrev y_M_define : MethodName := ⟨"SoleArraysModel", "define", "()I"⟩
abbrev b_M_place : ByteArray := prog_12_method_29_code
abbrev y_M_place : MethodName := ⟨"SoleArraysModel", "place", "()I"⟩
abbrev b_M_clear : ByteArray := prog_12_method_30_code
abbrev y_M_clear : MethodName := ⟨"SoleArraysModel", "clear", "()I"⟩
abbrev b_M_argument : ByteArray := prog_12_method_31_code
abbrev y_M_argument : MethodName := ⟨"SoleArraysModel", "argument", "(IJ)Z"⟩
abbrev b_M_start : ByteArray := prog_12_method_32_code
abbrev y_M_start : MethodName := ⟨"SoleArraysModel", "start", "(I)V"⟩
abbrev b_M_give : ByteArray := prog_12_method_33_code
abbrev y_M_give : MethodName := ⟨"SoleArraysModel", "give", "(JI)V"⟩
abbrev b_M_make : ByteArray := prog_12_method_34_code
abbrev y_M_make : MethodName := ⟨"SoleArraysModel", "make", "(JJI)I"⟩
abbrev b_M_makeOne : ByteArray := prog_12_method_35_code
abbrev y_M_makeOne : MethodName := ⟨"SoleArraysModel", "makeOne", "(JJI)V"⟩
abbrev b_M_join : ByteArray := prog_12_method_36_code
abbrev y_M_join : MethodName := ⟨"SoleArraysModel", "join", "(I)V"⟩
abbrev b_M_cellOf : ByteArray := prog_12_method_37_code
abbrev y_M_cellOf : MethodName := ⟨"SoleArraysModel", "cellOf", "(I)V"⟩
abbrev b_M_enter : ByteArray := prog_12_method_38_code
abbrev y_M_enter : MethodName := ⟨"SoleArraysModel", "enter", "(I)V"⟩
abbrev b_M_hold : ByteArray := prog_12_method_39_code
abbrev y_M_hold : MethodName := ⟨"SoleArraysModel", "hold", "(II)V"⟩
abbrev b_M_pass : ByteArray := prog_12_method_40_code
abbrev y_M_pass : MethodName := ⟨"SoleArraysModel", "pass", "()V"⟩
abbrev b_M_goOn : ByteArray := prog_12_method_41_code
abbrev y_M_goOn : MethodName := ⟨"SoleArraysModel", "goOn", "()V"⟩
abbrev b_M_finish : ByteArray := prog_12_method_42_code
abbrev y_M_finish : MethodName := ⟨"SoleArraysModel", "finish", "(I)V"⟩
abbrev b_M_isRun : ByteArray := prog_12_method_43_code
abbrev y_M_isRun : MethodName := ⟨"SoleArraysModel", "isRun", "(I)Z"⟩
abbrev b_M_run : ByteArray := prog_12_method_44_code
abbrev y_M_run : MethodName := ⟨"SoleArraysModel", "run", "(C)I"⟩
abbrev b_M_kind : ByteArray := prog_12_method_45_code
abbrev y_M_kind : MethodName := ⟨"SoleArraysModel", "kind", "()I"⟩
abbrev b_M_value : ByteArray := prog_12_method_46_code
abbrev y_M_value : MethodName := ⟨"SoleArraysModel", "value", "()J"⟩
abbrev b_M_size : ByteArray := prog_12_method_47_code
abbrev y_M_size : MethodName := ⟨"SoleArraysModel", "size", "(I)I"⟩
abbrev b_M_cell : ByteArray := prog_12_method_48_code
abbrev y_M_cell : MethodName := ⟨"SoleArraysModel", "cell", "(II)J"⟩
abbrev b_M_counted : ByteArray := prog_12_method_49_code
abbrev y_M_counted : MethodName := ⟨"SoleArraysModel", "counted", "(I)I"⟩
abbrev b_L_define : ByteArray := method_3_code
abbrev y_L_define : MethodName := ⟨"SoleArraysLaw", "define", "(LSoleArrays;[J)I"⟩
abbrev b_L_run : ByteArray := method_4_code
abbrev y_L_run : MethodName := ⟨"SoleArraysLaw", "run", "(LSoleArrays;C[J)I"⟩
abbrev b_L_law : ByteArray := code
abbrev y_L_law : MethodName := ⟨"SoleArraysLaw", "law", "([I)Z"⟩
end
section
section ZVX
variable {p : Program} {l : Launch} {e : Env} {R : Room} {s : State} {m : MethodId} {args : Array Value} {below : List Frame} {meth : Method} {c : Code} {H : Heap} {locs : List Loc} {cells slots : Nat} {Q : State → Prop}
theorem vx_frame {U : State} {k n : Nat} (h : s.sameButNew ({ U with vm := s.vm } : State) locs k n) : s.heap.size ≤ U.heap.size ∧ ∀ q : Nat, q < s.heap.size → (∀ z ∈ locs, z.base ≠ q) → U.heap[q]? = s.heap[q]? := by
  obtain ⟨-, h2, -, -, -, h6⟩ := h
  refine ⟨h2, fun q hq hz => ?_⟩
  obtain ⟨c9, e1, e2, e3, e4⟩ := h6 q _ (Array.getElem?_eq_getElem hq)
  have hs : c9.slots = (s.heap[q]).slots := Array.ext_getElem? fun i => e4 i fun hm => hz _ hm rfl
  have h9 : c9 = s.heap[q] := by
    rw [hs] at e2
    exact e2
  have e5 : U.heap[q]? = some c9 := e1
  rw [e5, h9, Array.getElem?_eq_getElem hq]
def vx_no (w : Cond) : Bool := decide (w ≠ .isRef (.static Bundle.tN "UNASSIGNED_STACK" Bundle.steD)) && decide (w ≠ .isRef (.static Bundle.tN "SUPPRESSED_SENTINEL" Bundle.listD)) && decide (w ≠ .laysStatic Bundle.tN "UNASSIGNED_STACK" Bundle.steD) && decide (w ≠ .laysStatic Bundle.tN "SUPPRESSED_SENTINEL" Bundle.listD)
def vx_atS (own : String) (ic : Nat) (X : String) (names : List String) : List Cond := (Bundle.ownAtoms own ic X names).filter vx_no
def vx_ot (w : Cond) : Bool := w.onTables || goodWord w
theorem vx_ot_at {args a' : Array Value} {s U : State} {w : Cond} (hW : s.WarmedH U.vm) (hvm : s.vm = U.vm) (hg : vx_ot w = true) (h : w.before args s = true) : w.before a' U = true := by
  simp only [vx_ot, Bool.or_eq_true] at hg
  rcases hg with hg | hg
  · exact va_tabs hg hvm h
  · exact word_at hW (good_of_word hg) h
theorem vx_own {args : Array Value} {s : State} {L : List Cond} (h1 : ∀ w ∈ L.filter vx_no, w.before args s = true)
    (hU : (Cond.isRef (.static Bundle.tN "UNASSIGNED_STACK" Bundle.steD)).before args s = true) (hN : (Cond.isRef (.static Bundle.tN "SUPPRESSED_SENTINEL" Bundle.listD)).before args s = true)
    (lU : (Cond.laysStatic Bundle.tN "UNASSIGNED_STACK" Bundle.steD).before args s = true) (lN : (Cond.laysStatic Bundle.tN "SUPPRESSED_SENTINEL" Bundle.listD).before args s = true) : ∀ w ∈ L, w.before args s = true := by
  intro w hw
  by_cases e1 : w = .isRef (.static Bundle.tN "UNASSIGNED_STACK" Bundle.steD)
  · rw [e1]; exact hU
  · by_cases e2 : w = .isRef (.static Bundle.tN "SUPPRESSED_SENTINEL" Bundle.listD)
    · rw [e2]; exact hN
    · by_cases e3 : w = .laysStatic Bundle.tN "UNASSIGNED_STACK" Bundle.steD
      · rw [e3]; exact lU
      · by_cases e4 : w = .laysStatic Bundle.tN "SUPPRESSED_SENTINEL" Bundle.listD
        · rw [e4]; exact lN
        · exact h1 w (List.mem_filter.mpr ⟨hw, by unfold vx_no; rw [decide_eq_true e1, decide_eq_true e2, decide_eq_true e3, decide_eq_true e4]; rfl⟩)
def vx_L (C n d : String) (A : Nat → Prop) (U : State) (H : Heap) : Prop := ∃ (c : ClassId) (k : Class) (i : Nat) (f : Field) (a : Nat) (cell : Cell), U.vm.findClass C = some c ∧ U.fieldFound? C n d = some (c, k, i, f) ∧ f.isStatic = true ∧ k.statics = some a ∧ H[a]? = some cell ∧ cell.vm.isStatics = true ∧ cell.cls = c ∧ f.slot < cell.slots.size ∧ k.staticTypes[f.slot]? = some f.type ∧ ¬ A a
theorem vx_L.moved {C n d : String} {A : Nat → Prop} {u U : State} {H : Heap} (hvm : u.vm.Alike U.vm) (h : vx_L C n d A u H) : vx_L C n d A U H := by
  obtain ⟨c, k, i, f, a, cell, h1, h2, h3, h4, h5, h6, h7, h8, h9, h10⟩ := h
  obtain ⟨k', hi', he⟩ := State.fieldFound?_setVm hvm h2
  exact ⟨c, k', i, f, a, cell, by rw [hvm.findClass]; exact h1, hi', h3, by rw [he]; exact h4, h5, h6, h7, h8, by rw [he]; exact h9, h10⟩
theorem vx_L.kept {C n d : String} {A : Nat → Prop} {U : State} {H H1 : Heap} (h : vx_L C n d A U H) (hq : ∀ a : Nat, a < H.size → ¬ A a → H1[a]? = H[a]?) : vx_L C n d A U H1 := by
  obtain ⟨c, k, i, f, a, cell, h1, h2, h3, h4, h5, h6, h7, h8, h9, h10⟩ := h
  exact ⟨c, k, i, f, a, cell, h1, h2, h3, h4, by rw [hq a (Array.getElem?_eq_some_iff.mp h5).1 h10]; exact h5, h6, h7, h8, h9, h10⟩
theorem vx_L.narrow {C n d : String} {A B : Nat → Prop} {U : State} {H : Heap} (h : vx_L C n d A U H) (hAB : ∀ q, B q → A q) : vx_L C n d B U H := by
  obtain ⟨c, k, i, f, a, cell, h1, h2, h3, h4, h5, h6, h7, h8, h9, h10⟩ := h
  exact ⟨c, k, i, f, a, cell, h1, h2, h3, h4, h5, h6, h7, h8, h9, fun z => h10 (hAB _ z)⟩
theorem vx_L.word {C n d : String} {A : Nat → Prop} {s : State} {args : Array Value} (h : vx_L C n d A s s.heap) : (Cond.laysStatic C n d).before args s = true := by
  obtain ⟨c, k, i, f, a, cell, h1, h2, h3, h4, h5, h6, h7, h8, h9, -⟩ := h
  show (Cond.laysStatic C n d).holds args s none s [] = true
  exact Cond.laysStatic_of h1 h2 h3 h4 h5 h6 h7 h8 h9
def vx_Zq (C n d : String) (A : Nat → Prop) (U : State) (H : Heap) : Prop := va_Zq C n d A U H ∧ vx_L C n d A U H
theorem vx_Zq.moved {C n d : String} {A : Nat → Prop} {u U : State} {H : Heap} (hvm : u.vm.Alike U.vm) (h : vx_Zq C n d A u H) : vx_Zq C n d A U H := ⟨va_Zq.moved hvm h.1, vx_L.moved hvm h.2⟩
theorem vx_Zq.kept {C n d : String} {A : Nat → Prop} {U : State} {H H1 : Heap} (h : vx_Zq C n d A U H) (hq : ∀ a : Nat, a < H.size → ¬ A a → H1[a]? = H[a]?) : vx_Zq C n d A U H1 := ⟨va_Zq.kept h.1 hq, vx_L.kept h.2 hq⟩
theorem vx_Zq.narrow {C n d : String} {A B : Nat → Prop} {U : State} {H : Heap} (h : vx_Zq C n d A U H) (hAB : ∀ q, B q → A q) : vx_Zq C n d B U H := ⟨va_Zq.narrow h.1 hAB, vx_L.narrow h.2 hAB⟩
theorem vx_Zqof {args : Array Value} {s : State} {C n d : String} {A : Nat → Prop} (hl : (Cond.laysStatic C n d).before args s = true) (hini : (Cond.initialized C).before args s = true) (h : (Cond.isRef (.static C n d)).before args s = true) (hA : ∀ a : Nat, a < s.heap.size → ¬ A a) : vx_Zq C n d A s s.heap := by
  refine ⟨va_Zqof hl hini h hA, ?_⟩
  obtain ⟨c, k, i, f, a, cell, h1, h2, h3, h4, h5, h6, h7, h8, h9⟩ := Cond.laysStatic_spec hl
  exact ⟨c, k, i, f, a, cell, h1, h2, h3, h4, h5, h6, h7, h8, h9, hA a (Array.getElem?_eq_some_iff.mp h5).1⟩
theorem vx_isRef {C n d : String} {v : Value} {A : Nat → Prop} {s : State} {args : Array Value} (h : va_Z C n d v A s s.heap) (hv : v.isRef = true) : (Cond.isRef (.static C n d)).before args s = true := by
  obtain ⟨cf, kf, fi, f, a, cell, h1, h2, h3, h4, h5, h6, h7, -⟩ := h
  have he : (Term.static C n d).eval args s none [] s = some v := by
    simp [Term.eval, State.fieldNamed?, h1, h2, h4, h5, h6, h7]
  simp only [Cond.before, Cond.holds, Cond.value, he]
  cases v <;> simp_all [Value.isRef]
theorem vx_isRefq {C n d : String} {A : Nat → Prop} {s : State} {args : Array Value} (h : va_Zq C n d A s s.heap) : (Cond.isRef (.static C n d)).before args s = true := by
  rcases h with h | ⟨t, h⟩
  · exact vx_isRef h rfl
  · exact vx_isRef h rfl
theorem vx_rebase {T : State} (X : Stand p l e R s m args below meth c T locs cells slots) {R' : Room} (hf : R'.frames ≤ R.frames) (hl : R'.locals ≤ R.locals) (hc : cells + R'.cells ≤ R.cells) (hs : slots + R'.slots ≤ R.slots) :
    Stand p l e R' ((T.setVm s.vm).setFrames (.invoking m args :: below)) m args below meth c T [] 0 0 := by
  have htop : (T.setVm s.vm).topJava?.isSome := X.here.top
  have hF : ((T.setVm s.vm).setFrames (.invoking m args :: below)).frames = .invoking m args :: below := State.frames_setFrames _ (State.cur_lt_of_top htop)
  obtain ⟨g₀, hg0⟩ := Option.isSome_iff_exists.mp htop
  obtain ⟨r, hr⟩ := State.topJava?_eq_some.mp hg0
  have hl9 : e.platform.stackLimits (T.setVm s.vm).me = e.platform.stackLimits s.me := X.limits
  have hb9 : (T.setVm s.vm).me.stackBytes = s.me.stackBytes := X.bytes
  refine ⟨X.admits, X.cas, X.clock, hF, ?_, X.hears, X.method, X.code, X.here, X.tail, X.warmed, ?_, ?_, ?_⟩
  · have h := X.room
    have hU : ((T.setVm s.vm).setFrames (.invoking m args :: below)).localsInUse = s.localsInUse := by
      rw [State.localsInUse_invoking hF (meth := meth) (c := c) X.method X.code, State.localsInUse_invoking X.frames X.method X.code]
    simp only [State.hasRoom, Bool.and_eq_true, decide_eq_true_eq] at h ⊢
    obtain ⟨⟨⟨⟨h1, h2, h3, h4, h5, h6⟩, h7⟩, h8⟩, h9⟩ := h
    rw [X.frames, List.length_cons] at h2 h3
    have q1 := X.heapSize
    have q2 := X.used
    simp only [hF, hU, List.length_cons, State.stackLimits_setFrames, State.stackBytes_setFrames, hl9, hb9]
    refine ⟨⟨⟨⟨by omega, by omega, by omega, by omega, by omega, h6⟩, ?_⟩, ?_⟩, X.book⟩
    · show T.heap.size + R'.cells ≤ e.platform.maxCells
      omega
    · show T.slotsUsed + R'.slots ≤ e.platform.maxSlots
      omega
  · rw [State.stackLimits_setFrames]; rfl
  · rw [State.stackBytes_setFrames]; rfl
  · refine ⟨?_, Nat.le_refl _, Nat.le_refl _, ?_, ?_, fun a c9 h9 => ⟨c9, h9, rfl, rfl, fun _ _ => rfl⟩⟩
    · obtain ⟨t, ht, -⟩ := State.frames_cons hr
      show T.setVm s.vm = { ((T.setVm s.vm).setFrames (.invoking m args :: below)).setFrames (T.setVm s.vm).frames with heap := T.heap, slotsUsed := T.slotsUsed }
      rw [State.setFrames_setFrames, State.setFrames_self ht]
      rfl
    · show T.slotsUsed = T.slotsUsed + ((T.heap.toList.drop T.heap.size).map (·.slots.size)).sum
      rw [List.drop_eq_nil_of_le (Nat.le_of_eq Array.length_toList)]
      rfl
    · show ((T.heap.toList.drop T.heap.size).map (·.slots.size)).sum ≤ 0
      rw [List.drop_eq_nil_of_le (Nat.le_of_eq Array.length_toList)]
      exact Nat.le_refl _
end ZVX
end
section
/-! xt: contracts of methods that return or throw -/
def xt_F (st t : State) (L : List Loc) (k n : Nat) : Prop := st.WarmedH t.vm ∧ st.sameButNew ({ t with vm := st.vm } : State) L k n
def xt_P (Qc : Array Value → State → Outcome → State → Prop) (mc ms : Nat) (free : Addr → Prop) : Array Value → State → Outcome → State → Prop :=
  fun a st o t => Qc a st o t ∧ ∃ L, xt_F st t L mc ms ∧ ∀ q ∈ L, free q.base
def xt_Met (l : Launch) (y : MethodName) (ws : List Cond) (rm : Room) (Pc : Array Value → State → Prop) (Qc : Array Value → State → Outcome → State → Prop) (mc ms : Nat) (free : Addr → Prop) : Prop :=
  MetFree l y (headSpec ws rm) Pc (fun _ _ _ _ _ => True) (xt_P Qc mc ms free)
def xt_Q (below : List Frame) (Qc : Array Value → State → Outcome → State → Prop) (a : Array Value) (s : State) (mc ms : Nat) (free : Addr → Prop) : State → Prop := fun t =>
  ∃ o, t.status = .running ∧ Ended t below o ∧ xt_P Qc mc ms free a s o t
section XT
variable {p : Program} {l : Launch} {e : Env} {R : Room} {s : State} {m : MethodId} {args : Array Value} {below : List Frame} {meth : Method} {c : Code} {H : Heap} {locs : List Loc} {cells slots : Nat} {Q : State → Prop}
theorem xt_post {Q' : State → Prop} {g : JFrame} (h : ∀ t, Q t → Q' t) (k : W p l e R s m args below meth c H locs cells slots Q g) : W p l e R s m args below meth c H locs cells slots Q' g := fun T hT X => by
  obtain ⟨t, a, b⟩ := k T hT X
  exact ⟨t, a, h t b⟩
theorem xt_ret {Qc : Array Value → State → Outcome → State → Prop} {mc ms : Nat} {free : Addr → Prop} {g : JFrame} (k : W p l e R s m args below meth c H locs cells slots (MQ below Qc args s mc ms free) g) :
    W p l e R s m args below meth c H locs cells slots (xt_Q below Qc args s mc ms free) g :=
  xt_post (fun t ht => by
    obtain ⟨o, h1, h2, h3, L, h4, h5⟩ := ht
    exact ⟨o, h1, h2, h3, L, ⟨h4.2.1, h4.2.2⟩, h5⟩) k
/-- a body gives the contract: 'his' says what the method's word gives -/
theorem xt_ofW {y : MethodName} {ws : List Cond} {rm : Room} {Pc : Array Value → State → Prop} {Qc : Array Value → State → Outcome → State → Prop} {mc ms : Nat} {free : Addr → Prop} {cc : ByteArray} {maxL : Nat} {ret : Option FieldType}
    (hy : plainName y.cls = true)
    (his : ∀ (a : Array Value) (u : State) mk, (∀ w ∈ ws, w.before a u = true) → u.methodNamed? y = some mk → ∃ meth c, u.vm.method? mk = some meth ∧ meth.code = some c ∧ c.code = cc ∧ c.maxLocals = maxL ∧ meth.sig.returnType = ret ∧ meth.locks = false)
    (body : ∀ p e s m args below meth c s₁, BodyLoose p l y (headSpec ws rm) cc maxL ret e s m args below meth c s₁ → c.maxLocals = maxL → Pc args s →
      W p l e rm s m args below meth c s.heap [] 0 0 (xt_Q below Qc args s mc ms free) (entryFrame m args maxL)) : xt_Met l y ws rm Pc Qc mc ms free := by
  refine MetFree.of_bodyS (code := cc) (maxLocals := maxL) (ret := ret) hy ?_ ?_
  · intro args s m h hn
    exact his args s m (atoms_spec (ws := ws) h) hn
  · intro p e s m args below meth c s₁ B hml hP _
    have hh0 : s₁.heap = s.heap := by rw [B.state]; rfl
    obtain ⟨t, a1, o, b1, b2, b3⟩ := body p e s m args below meth c s₁ B hml hP s₁ hh0 (Stand.of_body B)
    exact ⟨t, o, a1, b1, b2, b3⟩
/-- a call by such a contract: where it came back, or what it threw -/
theorem xt_call {y : MethodName} {ws : List Cond} {rm : Room} {Pc : Array Value → State → Prop} {Qc : Array Value → State → Outcome → State → Prop} {mc ms : Nat} {free : Addr → Prop}
    (hM : xt_Met l y ws rm Pc Qc mc ms free) {U : State} (X : Stand p l e R s m args below meth c U locs cells slots)
    {g : JFrame} (hg : g.method = m) (hsize : g.locals.size = c.maxLocals) {ig : Instr} {len : Nat} (hdg : decode c.code g.pc = .ok (ig, len)) {W9 maxL : Nat} (hW : 2 * g.monitorRoom + (g.stack.map fun v => v.category).sum ≤ W9)
    {mk : MethodId} (hn : U.methodNamed? y = some mk) (a : Array Value) (hrc : rm.cells = mc) (hrs : rm.slots = ms) (hframes : rm.frames + 1 ≤ R.frames) (hlocals : W9 + (maxL + 11) + rm.locals ≤ R.locals)
    (hws : ∀ w ∈ ws, w.before a U = true) {methY : Method} {cY : Code} (hmY : U.vm.method? mk = some methY) (hcY : methY.code = some cY) (hlY : cY.maxLocals = maxL) (hini : (Cond.initialized y.cls).before a U = true)
    (hcells : cells + mc ≤ R.cells) (hslots : slots + ms ≤ R.slots) (hP : Pc a (U.calling g mk a)) :
    ∃ (o : Outcome) (t T' : State) (L : List Loc), Qc a (U.calling g mk a) o t ∧ (∀ q ∈ L, free q.base) ∧ T'.heap = t.heap ∧ T'.vm = t.vm ∧ U.WarmedH t.vm ∧
      Stand p l e R s m args below meth c T' (locs ++ L) (cells + mc) (slots + ms) ∧
      (∀ v, o = .returned v → Steps p.tables e below (doInvoke e (U.setTop g) [] mk a).1 (T'.setTop { g with pc := g.pc + len, stack := v.toList ++ g.stack })) ∧
      (∀ x, o = .threw x → Steps p.tables e below (doInvoke e (U.setTop g) [] mk a).1 ((T'.setTop g).pushFrame (.throwing x))) := by
  obtain ⟨kY, hkY, -⟩ := className_of_methodNamed hn
  have hinitY : kY.init = .initialized := Cond.initialized_spec (findClass_of_methodNamed hn) hkY hini
  have h : At U g.method c below := by rw [hg]; exact X.here
  have hlocals9 : W9 + (maxL + 11) + (headSpec ws rm).room.locals ≤ R.locals := hlocals
  have h4 : cells + (headSpec ws rm).room.cells ≤ R.cells := by rw [show (headSpec ws rm).room.cells = mc from hrc]; exact hcells
  have h5 : slots + (headSpec ws rm).room.slots ≤ R.slots := by rw [show (headSpec ws rm).room.slots = ms from hrs]; exact hslots
  have happ : (headSpec ws rm).appliesLoose y e.platform (U.calling g mk a) = true :=
    Spec.appliesLoose_calling (g := g) h hdg hn hkY hinitY
      (X.room_calling (g := g) (R' := (headSpec ws rm).room) hsize hmY hcY hframes (by rw [hlY]; omega) h4 h5) (atoms_intro hws)
  obtain ⟨mid, hmid⟩ := h.above
  have hfr : (U.setTop g).frames = (.java g :: mid) ++ below := by rw [State.frames_setTop' g h.top, hmid]; rfl
  obtain ⟨o, s₂, hsteps, -, hend, hq, L, ⟨hW₂, hsb⟩, hL⟩ := Steps.callFree hM p X.admits X.cas X.clock (acts := []) hfr happ hP trivial
  rw [State.frames_setTop' g h.top] at hend
  have hsb : (U.calling g mk a).sameButNew ({ s₂ with vm := (U.calling g mk a).vm } : State) L mc ms := hsb
  obtain ⟨e2, q2, q3, q4, q5, q6⟩ := id hsb
  have e3 : s₂ = ({ (U.calling g mk a).setFrames s₂.frames with heap := s₂.heap, slotsUsed := s₂.slotsUsed } : State).setVm s₂.vm := by
    have : s₂ = ({ s₂ with vm := (U.calling g mk a).vm } : State).setVm s₂.vm := rfl
    rw [e2] at this
    exact this
  have hW' : U.WarmedH s₂.vm := hW₂
  obtain ⟨g₀, hg0⟩ := Option.isSome_iff_exists.mp h.top
  obtain ⟨r, hr⟩ := State.topJava?_eq_some.mp hg0
  have hr' : (({ U with heap := s₂.heap, slotsUsed := s₂.slotsUsed } : State).setVm s₂.vm).frames = .java g₀ :: r := hr
  have hsame : U.sameButNew ({ U with heap := s₂.heap, slotsUsed := s₂.slotsUsed } : State) L mc ms := by
    refine ⟨?_, q2, q3, q4, q5, q6⟩
    obtain ⟨t, ht, -⟩ := State.frames_cons hr
    show ({ U with heap := s₂.heap, slotsUsed := s₂.slotsUsed } : State) = { U.setFrames U.frames with heap := s₂.heap, slotsUsed := s₂.slotsUsed }
    rw [State.setFrames_self ht]
  subst hg
  refine ⟨o, s₂, (({ U with heap := s₂.heap, slotsUsed := s₂.slotsUsed } : State).setVm s₂.vm), L, hq, hL, rfl, rfl, hW',
    ⟨X.admits, X.cas, X.clock, X.frames, X.room, X.hears, X.method, X.code, (X.here.setHeapUsed s₂.heap s₂.slotsUsed).setVm hW'.alike, X.tail, State.WarmedH.trans X.warmed hW', X.limits, X.bytes, X.same.trans (hsame.setVm s.vm)⟩, ?_, ?_⟩
  · intro v hv
    subst hv
    obtain ⟨c₂, i₂, len₂, hc₂, hd₂, hf₂⟩ := hend
    have hcc : c₂ = c := by
      have h1 : s₂.code? g.method = U.code? g.method := by
        rw [State.code?_eq, State.code?_eq, hW'.alike.method?]
      exact Option.some.inj (hc₂.symm.trans (h1.trans h.code))
    subst hcc
    have hlen : len₂ = len := by rw [hdg] at hd₂; cases hd₂; rfl
    subst hlen
    have hs₂ : s₂ = (({ U with heap := s₂.heap, slotsUsed := s₂.slotsUsed } : State).setVm s₂.vm).setTop { g with pc := g.pc + len₂, stack := v.toList ++ g.stack } := by
      refine e3.trans ?_
      rw [hf₂, State.calling_eq h.top, State.setFrames_setFrames, State.setTop_of_frames _ hr', hr]
      rfl
    rw [← hs₂]
    exact hsteps
  · intro x hx
    subst hx
    have hf₂ : s₂.frames = .throwing x :: .java g :: U.frames.tail := hend
    have hs₂ : s₂ = ((({ U with heap := s₂.heap, slotsUsed := s₂.slotsUsed } : State).setVm s₂.vm).setTop g).pushFrame (.throwing x) := by
      refine e3.trans ?_
      rw [hf₂, State.calling_eq h.top, State.setFrames_setFrames, State.pushFrame, State.frames_setTop _ hr', State.setTop_of_frames _ hr', State.setFrames_setFrames, hr]
      rfl
    rw [← hs₂]
    exact hsteps
end XT
end
section
/-! Z: the cells that the law has made go by numbers (0, 1, ..: in the order of their making); zCl and zTy are of the names part -/
/-- heap's size at the law's start; addresses of the elder things (names from 1000000 on); class numbers and slots; array classes; the heap at the law's start -/
abbrev zG : Type := Nat × (Nat → Nat) × va_G × (Nat → ClassId) × Heap
abbrev zS : Type := Nat → va_E
def zz (G : zG) : Nat := G.1
def zo (G : zG) : Nat → Nat := G.2.1
def zD (G : zG) : va_G := G.2.2.1
def zcA (G : zG) : Nat → ClassId := G.2.2.2.1
def zH0 (G : zG) : Heap := G.2.2.2.2
def zad (G : zG) (i : Nat) : Nat := if i < 1000000 then zz G + i else zo G i
def zV (G : zG) (v : Value) : Value := match v with
  | .ref a => .ref (zad G a)
  | .int x => .int x
  | .long x => .long x
  | .null => .null
  | w => w
def zA (G : zG) (a : vp_A) : vp_A := match a with
  | (n, .inr (.inr (.inr (.inr f)))) => (n, .inr (.inr (.inr (.inr (fun i => (f i).map (zad G))))))
  | (n, .inl f) => (n, .inl f)
  | (n, .inr (.inl f)) => (n, .inr (.inl f))
  | b => b
def zE (G : zG) (x : va_E) : va_E := match x with
  | .inl (t, a) => .inl (zcA G t, zA G a)
  | .inr (ci, fs) => .inr (ci, fs.map (zV G))
def zT (G : zG) : List (ClassId × FieldType) := zTy.zipIdx.map fun q => (zcA G q.2, q.1)
def zHW (G : zG) (n : Nat) (σ : zS) (H : Heap) : Prop :=
  H.size = zz G + n ∧ n ≤ 1000000 ∧ (∀ q, q < zz G → H[q]? = (zH0 G)[q]?) ∧ ∀ i, i < n → va_at (zD G) zCl (zz G + i, zE G (σ i)) H
theorem zad_lt {G : zG} {i : Nat} (h : i < 1000000) : zad G i = zz G + i := if_pos h
theorem zV_cat (G : zG) (v : Value) : (zV G v).category = v.category := by cases v <;> rfl
theorem zV_rf (G : zG) (r : Option Nat) : zV G (va_rf r) = va_rf (r.map (zad G)) := by cases r <;> rfl
theorem zHW.set {G : zG} {n i : Nat} {σ : zS} {H H1 : Heap} {e : va_E} (h : zHW G n σ H) (hz : H1.size = H.size) (ho : ∀ q, q ≠ zz G + i → H1[q]? = H[q]?)
    (he : va_at (zD G) zCl (zz G + i, zE G e) H1) : zHW G n (va_up σ i e) H1 := by
  obtain ⟨h1, h2, h3, h4⟩ := h
  refine ⟨hz.trans h1, h2, fun q hq => (ho q (by omega)).trans (h3 q hq), fun j hj => ?_⟩
  by_cases hji : j = i
  · subst hji
    rw [va_up_self]
    exact he
  · rw [va_up_ne _ _ hji]
    exact (h4 j hj).kept (ho _ (fun z => hji (by have z : zz G + j = zz G + i := z; omega)))
theorem zHW.push {G : zG} {n : Nat} {σ : zS} {H H1 : Heap} {e : va_E} (h : zHW G n σ H) (hn : n < 1000000) (hz : H1.size = H.size + 1) (ho : ∀ q, q < H.size → H1[q]? = H[q]?)
    (he : va_at (zD G) zCl (zz G + n, zE G e) H1) : zHW G (n + 1) (va_up σ n e) H1 := by
  obtain ⟨h1, h2, h3, h4⟩ := h
  refine ⟨by omega, by omega, fun q hq => (ho q (by omega)).trans (h3 q hq), fun j hj => ?_⟩
  by_cases hji : j = n
  · subst hji
    rw [va_up_self]
    exact he
  · rw [va_up_ne _ _ hji]
    exact (h4 j (by omega)).kept (ho _ (by show zz G + j < H.size; omega))
theorem zHW.same {G : zG} {n : Nat} {σ τ : zS} {H : Heap} (h : zHW G n σ H) (hs : ∀ i, i < n → τ i = σ i) : zHW G n τ H :=
  ⟨h.1, h.2.1, h.2.2.1, fun i hi => by rw [hs i hi]; exact h.2.2.2 i hi⟩
/-- what the law's start fixes of the statics, and of the elder cells -/
def zStr : List (String × Nat × String) := [("SoleArrays$Store", 89, "no number there"), ("SoleArrays$Fault", 17, "the text is ill"), ("SoleArrays$Fault", 24, "the function is wrong"), ("SoleArrays", 87, "no such function, or one that takes more than numbers"), ("SoleArrays$Runner", 55, "too many expressions"), ("SoleArrays$Runner", 133, "divided by 0"), ("SoleArrays$Store", 39, "a size below 0"), ("SoleArrays$Store", 48, "too many numbers, rows or columns"), ("SoleArrays$Store", 55, "too many arrays"), ("SoleArrays$Runner", 151, "too many calls in one another")]
def zNcs : List (String × String) := [("java/lang/IllegalStateException", "java/lang/IllegalArgumentException"), ("java/lang/IndexOutOfBoundsException", "java/lang/IllegalArgumentException"), ("java/lang/IndexOutOfBoundsException", "java/lang/IllegalStateException"), ("java/lang/ArithmeticException", "java/lang/IllegalArgumentException"), ("java/lang/ArithmeticException", "java/lang/IllegalStateException"), ("java/lang/ArithmeticException", "java/lang/IndexOutOfBoundsException"), ("java/lang/UnsupportedOperationException", "java/lang/IllegalArgumentException"), ("java/lang/UnsupportedOperationException", "java/lang/IllegalStateException"), ("java/lang/UnsupportedOperationException", "java/lang/IndexOutOfBoundsException"), ("java/lang/UnsupportedOperationException", "java/lang/ArithmeticException")]
def zFm (j : Nat) : String := (["DIGITS", "VARIABLE", "OPERATION", "CHOICE", "BINDING", "NEW_ROW", "NEW_TABLE", "READING", "UPDATE", "HEIGHT", "WIDTH", "COPY", "GIVING_UP", "CALL"] : List String).getD j ""
def zSw (j : Nat) : Int32 := ([13, 1, 14, 2, 3, 4, 5, 6, 7, 8, 9, 10, 11, 12] : List Int32).getD j 0
/-- the forms are the elder cells 1000001 .., each with its ordinal; the switches' map is 1000015 -/
def zForm (G : zG) (U : State) : Prop := (∀ j, j < 14 → va_Z "SoleArrays$Form" (zFm j) "LSoleArrays$Form;" (.ref (zo G (1000001 + j))) (fun q => zz G ≤ q) U U.heap ∧ zo G (1000001 + j) < zz G ∧ ∃ (cell : Cell) (cf i : Nat) (kf : Class) (fd : Field), U.heap[zo G (1000001 + j)]? = some cell ∧ cell.vm ≠ .unknown ∧ cell.vm.isStatics = false ∧ U.vm.findClass "SoleArrays$Form" = some cell.cls ∧ U.fieldFound? "java/lang/Enum" "ordinal" "I" = some (cf, kf, i, fd) ∧ fd.isStatic = false ∧ cell.slots[fd.slot]? = some (.int (nI j))) ∧
  va_Z "SoleArrays$1" "$SwitchMap$SoleArrays$Form" "[I" (.ref (zo G 1000015)) (fun q => zz G ≤ q) U U.heap ∧ va_T .int (zo G 1000015) 14 (fun j => .int (zSw j)) (fun q => zz G ≤ q) U U.heap
theorem zForm.moved {G : zG} {u U : State} (hvm : u.vm.Alike U.vm) (hh : ∀ q, q < zz G → U.heap[q]? = u.heap[q]?) (h : zForm G u) : zForm G U := by
  obtain ⟨h1, h2, h3⟩ := h
  have hq : ∀ a : Nat, a < u.heap.size → ¬ zz G ≤ a → U.heap[a]? = u.heap[a]? := fun a _ ha => hh a (Nat.lt_of_not_le ha)
  refine ⟨fun j hj => ?_, va_Z.moved hvm (h2.kept hq), va_T.moved hvm (h3.kept hq)⟩
  obtain ⟨g1, g2, cell, cf, i, kf, fd, g3, g4, g5, g6, g7, g8, g9⟩ := h1 j hj
  obtain ⟨k', hi', -⟩ := State.fieldFound?_setVm hvm g7
  exact ⟨va_Z.moved hvm (g1.kept hq), g2, cell, cf, i, k', fd, (hh _ g2).trans g3, g4, g5, by rw [hvm.findClass]; exact g6, hi', g8, g9⟩
def zStat (G : zG) (U : State) : Prop := (∀ q, q < zz G → U.heap[q]? = (zH0 G)[q]?) ∧ vx_Zq Bundle.tN "UNASSIGNED_STACK" Bundle.steD (fun q => zz G ≤ q) U U.heap ∧ vx_Zq Bundle.tN "SUPPRESSED_SENTINEL" Bundle.listD (fun q => zz G ≤ q) U U.heap ∧ (∀ q ∈ zStr, ∃ a, vk_R q.1 q.2.1 q.2.2 a U) ∧ (∀ q ∈ zNcs, va_Nc q.1 q.2 U) ∧ zForm G U
theorem zStat.moved {G : zG} {u U : State} (hW : u.WarmedH U.vm) (hh : ∀ q, q < zz G → U.heap[q]? = (zH0 G)[q]?) (h : zStat G u) : zStat G U := by
  obtain ⟨h0, h1, h2, h3, h4, h5⟩ := h
  have hq : ∀ a : Nat, a < u.heap.size → ¬ zz G ≤ a → U.heap[a]? = u.heap[a]? := fun a _ ha => (hh a (Nat.lt_of_not_le ha)).trans (h0 a (Nat.lt_of_not_le ha)).symm
  exact ⟨hh, vx_Zq.moved hW.alike (h1.kept hq), vx_Zq.moved hW.alike (h2.kept hq), fun q hm => (h3 q hm).elim fun a ha => ⟨a, vk_R.warm hW ha⟩, fun q hm => va_Nc.moved hW.alike (h4 q hm), h5.moved hW.alike (fun q hq => (hh q hq).trans (h0 q hq).symm)⟩
/-! contracts -/
def zO (G : zG) (o : Outcome) : Outcome := match o with
  | .returned v => .returned (v.map (zV G))
  | .threw a => .threw (zad G a)
abbrev zPost : Type := Outcome → Nat → zS → Prop
def zPc (G : zG) (av : List Value) (n : Nat) (σ : zS) : Array Value → State → Prop := fun v U => v = (av.map (zV G)).toArray ∧ zHW G n σ U.heap ∧ va_K (zD G) zCl (zT G) U ∧ zStat G U
def zQc (G : zG) (post : zPost) : Array Value → State → Outcome → State → Prop := fun _ _ o t => ∃ (o' : Outcome) (n' : Nat) (σ' : zS), o = zO G o' ∧ post o' n' σ' ∧ zHW G n' σ' t.heap
/-- what is fixed in a walk: program, launch, environment, room, start, method, arguments, frames below, its tables, its code; what is promised, and the room that it may take -/
abbrev zK : Type := Program × Launch × Env × Room × State × MethodId × Array Value × List Frame × Method × Code × zPost × Nat × Nat
def kp (K : zK) : Program := K.1
def kl (K : zK) : Launch := K.2.1
def ke (K : zK) : Env := K.2.2.1
def kR (K : zK) : Room := K.2.2.2.1
def ks (K : zK) : State := K.2.2.2.2.1
def km (K : zK) : MethodId := K.2.2.2.2.2.1
def ka (K : zK) : Array Value := K.2.2.2.2.2.2.1
def kb (K : zK) : List Frame := K.2.2.2.2.2.2.2.1
def kme (K : zK) : Method := K.2.2.2.2.2.2.2.2.1
def kc (K : zK) : Code := K.2.2.2.2.2.2.2.2.2.1
def kpo (K : zK) : zPost := K.2.2.2.2.2.2.2.2.2.2.1
def kmc (K : zK) : Nat := K.2.2.2.2.2.2.2.2.2.2.2.1
def kms (K : zK) : Nat := K.2.2.2.2.2.2.2.2.2.2.2.2
def zQ (G : zG) (K : zK) : State → Prop := xt_Q (kb K) (zQc G (kpo K)) (ka K) (ks K) (kmc K) (kms K) (fun q => zz G ≤ q)
def zW (G : zG) (K : zK) (H : Heap) (locs : List Loc) (k1 k2 : Nat) (g : JFrame) : Prop := W (kp K) (kl K) (ke K) (kR K) (ks K) (km K) (ka K) (kb K) (kme K) (kc K) H locs k1 k2 (zQ G K) g
def Z (G : zG) (K : zK) (n : Nat) (σ : zS) (k1 k2 pc : Nat) (lv : List (Nat × Value)) (st : List Value) : Prop :=
  ∀ (H : Heap) (locs : List Loc) (ls : Array Slot), zHW G n σ H → (∀ q ∈ locs, zz G ≤ q.base) → lv_has ls (kc K).maxLocals (lv.map fun q => (q.1, zV G q.2)) →
    W (kp K) (kl K) (ke K) (kR K) (ks K) (km K) (ka K) (kb K) (kme K) (kc K) H locs k1 k2 (zQ G K) (F0 (km K) pc ls (st.map (zV G)))
/-- what is known in a walk: machine, code, locals, return type, the class, the tables' words, classes; no lock; handlers; the method's name; no stack traces; the statics -/
def zC (G : zG) (K : zK) (y : MethodName) (cc : ByteArray) (nL : Nat) (ret : Option FieldType) (hs : List (Nat × Nat × Nat × Nat)) : Prop :=
  (kp K).tables.exec = Jvm.exec ∧ (kc K).code = cc ∧ (kc K).maxLocals = nL ∧ (kme K).sig.returnType = ret ∧ (ks K).vm.findClass y.cls = some (km K).cls ∧ (∀ w ∈ zTb, w.before (ka K) (ks K) = true) ∧
  va_K (zD G) zCl (zT G) (ks K) ∧ (kme K).locks = false ∧ (kc K).exceptionTable.toList.map (fun h => (h.startPc, h.endPc, h.handlerPc, h.catchType)) = hs ∧ (kme K).name = y.name ∧ (kl K).stackTraces = false ∧ zStat G (ks K)
section ZCA
variable {G : zG} {K : zK} {y : MethodName} {cc : ByteArray} {nL : Nat} {ret : Option FieldType} {hs : List (Nat × Nat × Nat × Nat)}
theorem zC.own (C : zC G K y cc nL ret hs) : (ks K).vm.findClass y.cls = some (km K).cls := C.2.2.2.2.1
theorem zC.ts (C : zC G K y cc nL ret hs) : ∀ w ∈ zTb, w.before (ka K) (ks K) = true := C.2.2.2.2.2.1
theorem zC.kk (C : zC G K y cc nL ret hs) : va_K (zD G) zCl (zT G) (ks K) := C.2.2.2.2.2.2.1
theorem zC.lk (C : zC G K y cc nL ret hs) : (kme K).locks = false := C.2.2.2.2.2.2.2.1
theorem zC.tab (C : zC G K y cc nL ret hs) : (kc K).exceptionTable.toList.map (fun h => (h.startPc, h.endPc, h.handlerPc, h.catchType)) = hs := C.2.2.2.2.2.2.2.2.1
theorem zC.nm (C : zC G K y cc nL ret hs) : (kme K).name = y.name := C.2.2.2.2.2.2.2.2.2.1
theorem zC.tr (C : zC G K y cc nL ret hs) : (kl K).stackTraces = false := C.2.2.2.2.2.2.2.2.2.2.1
theorem zC.stat (C : zC G K y cc nL ret hs) : zStat G (ks K) := C.2.2.2.2.2.2.2.2.2.2.2
end ZCA
def zl (lv : List (Nat × Value)) (i : Nat) : Option Value := (lv.find? (fun q => q.1 == i)).map (·.2)
def zs1 (lv : List (Nat × Value)) (i : Nat) (v : Value) : List (Nat × Value) := (i, v) :: lv.filter (fun q => !(q.1 == i) && !(q.1 + 1 == i && q.2.category == 2))
def zs2 (lv : List (Nat × Value)) (i : Nat) (v : Value) : List (Nat × Value) := (i, v) :: lv.filter (fun q => !(q.1 == i) && (!(q.1 == i + 1) && !(q.1 + 1 == i && q.2.category == 2)))
theorem zl_at {G : zG} {ls : Array Slot} {nL : Nat} {lv : List (Nat × Value)} {i : Nat} {v : Value} (h : lv_has ls nL (lv.map fun q => (q.1, zV G q.2))) (hl : zl lv i = some v) : ls[i]? = some (.val (zV G v)) := by
  unfold zl at hl
  cases hf : lv.find? (fun q => q.1 == i) with
  | none => rw [hf] at hl; cases hl
  | some q =>
    rw [hf] at hl
    have h1 : q.2 = v := Option.some.inj hl
    have h2 : (q.1 == i) = true := List.find?_some (p := fun q : Nat × Value => q.1 == i) hf
    have h3 := List.mem_of_find?_eq_some hf
    have h4 := h.2.2 _ (List.mem_map_of_mem (f := fun q : Nat × Value => (q.1, zV G q.2)) h3)
    rw [show q.1 = i from beq_iff_eq.mp h2, h1] at h4
    exact h4
theorem zs1_map (G : zG) (lv : List (Nat × Value)) (i : Nat) (v : Value) :
    (i, zV G v) :: (lv.map fun q => (q.1, zV G q.2)).filter (fun q => !(q.1 == i) && !(q.1 + 1 == i && q.2.category == 2)) = (zs1 lv i v).map fun q => (q.1, zV G q.2) := by
  unfold zs1
  rw [List.map_cons, List.filter_map]
  congr 2
  congr 1
  funext q
  simp only [Function.comp, zV_cat]
theorem zs2_map (G : zG) (lv : List (Nat × Value)) (i : Nat) (v : Value) :
    (i, zV G v) :: (lv.map fun q => (q.1, zV G q.2)).filter (fun q => !(q.1 == i) && (!(q.1 == i + 1) && !(q.1 + 1 == i && q.2.category == 2))) = (zs2 lv i v).map fun q => (q.1, zV G q.2) := by
  unfold zs2
  rw [List.map_cons, List.filter_map]
  congr 2
  congr 1
  funext q
  simp only [Function.comp, zV_cat]
end
section
section ZR
variable {G : zG} {K : zK} {y : MethodName} {cc : ByteArray} {nL : Nat} {ret : Option FieldType} {hs : List (Nat × Nat × Nat × Nat)} {n k1 k2 pc : Nat} {σ : zS} {lv : List (Nat × Value)} {st : List Value}
theorem z_iinc0 {H : Heap} {locs : List Loc} {ls : Array Slot} (C : zC G K y cc nL ret hs) {j : Nat} {a : Int} {x v : Int32} {sv : List Value} (hd : decode cc pc = .ok (.iinc j a, 3)) (h3 : lv_has ls (kc K).maxLocals (lv.map fun q => (q.1, zV G q.2))) (hl : zl lv j = some (.int x)) (hv : x + Int32.ofInt a = v) (hn : j < nL)
    (kk : ∀ ls' : Array Slot, lv_has ls' (kc K).maxLocals ((zs1 lv j (.int v)).map fun q => (q.1, zV G q.2)) → W (kp K) (kl K) (ke K) (kR K) (ks K) (km K) (ka K) (kb K) (kme K) (kc K) H locs k1 k2 (zQ G K) (F0 (km K) (pc + 3) ls' sv)) :
    W (kp K) (kl K) (ke K) (kR K) (ks K) (km K) (ka K) (kb K) (kme K) (kc K) H locs k1 k2 (zQ G K) (F0 (km K) pc ls sv) := by
  have h4 : lv_has ls (kc K).maxLocals ((j, .int x) :: lv.map fun q => (q.1, zV G q.2)) := ⟨h3.1, h3.2.1, fun q hq => by
    rcases List.mem_cons.mp hq with rfl | hq
    · exact zl_at h3 hl
    · exact h3.2.2 q hq⟩
  refine lv_iinc C.1 C.2.1 hd h4 (k := 0) rfl hv (by rw [C.2.2.1]; exact hn) rfl (fun ls' h => kk ls' ?_)
  rw [← zs1_map]
  have e : ((j, Value.int x) :: lv.map fun q => (q.1, zV G q.2)).filter (fun q => !(q.1 == j) && !(q.1 + 1 == j && q.2.category == 2)) = (lv.map fun q => (q.1, zV G q.2)).filter (fun q => !(q.1 == j) && !(q.1 + 1 == j && q.2.category == 2)) := by
    rw [List.filter_cons_of_neg]
    simp
  rw [e] at h
  exact h
theorem z_iconst (C : zC G K y cc nL ret hs) (pc' : Nat) {a : Int} (hd : decode cc pc = .ok (.iconst a, 1)) (hp : pc + 1 = pc') (v : Int32) (hv : Int32.ofInt a = v) (k : Z G K n σ k1 k2 pc' lv (.int v :: st)) : Z G K n σ k1 k2 pc lv (st) := by
  subst hp
  exact fun H locs ls h1 h2 h3 => lv_iconst C.1 C.2.1 hd hv (k H locs ls h1 h2 h3)
theorem z_bipush (C : zC G K y cc nL ret hs) (pc' : Nat) {a : Int} (hd : decode cc pc = .ok (.bipush a, 2)) (hp : pc + 2 = pc') (v : Int32) (hv : (Int8.ofInt a).toInt32 = v) (k : Z G K n σ k1 k2 pc' lv (.int v :: st)) : Z G K n σ k1 k2 pc lv (st) := by
  subst hp
  exact fun H locs ls h1 h2 h3 => lv_bipush C.1 C.2.1 hd hv (k H locs ls h1 h2 h3)
theorem z_sipush (C : zC G K y cc nL ret hs) (pc' : Nat) {a : Int} (hd : decode cc pc = .ok (.sipush a, 3)) (hp : pc + 3 = pc') (v : Int32) (hv : (Int16.ofInt a).toInt32 = v) (k : Z G K n σ k1 k2 pc' lv (.int v :: st)) : Z G K n σ k1 k2 pc lv (st) := by
  subst hp
  exact fun H locs ls h1 h2 h3 => lv_sipush C.1 C.2.1 hd hv (k H locs ls h1 h2 h3)
theorem z_lconst (C : zC G K y cc nL ret hs) (pc' : Nat) {a : Fin 2} (hd : decode cc pc = .ok (.lconst a, 1)) (hp : pc + 1 = pc') (v : Int64) (hv : Int64.ofNat (a : Nat) = v) (k : Z G K n σ k1 k2 pc' lv (.long v :: st)) : Z G K n σ k1 k2 pc lv (st) := by
  subst hp
  exact fun H locs ls h1 h2 h3 => lv_lconst C.1 C.2.1 hd hv (k H locs ls h1 h2 h3)
theorem z_null (C : zC G K y cc nL ret hs) (pc' : Nat)  (hd : decode cc pc = .ok (.aconst_null, 1)) (hp : pc + 1 = pc')  (k : Z G K n σ k1 k2 pc' lv (.null :: st)) : Z G K n σ k1 k2 pc lv (st) := by
  subst hp
  exact fun H locs ls h1 h2 h3 => lv_null C.1 C.2.1 hd (k H locs ls h1 h2 h3)
theorem z_iload_n (C : zC G K y cc nL ret hs) (pc' : Nat) {j : Fin 4} {x : Int32} (hd : decode cc pc = .ok (.iload_n j, 1)) (hp : pc + 1 = pc') (hl : zl lv (j : Nat) = some (.int x)) (k : Z G K n σ k1 k2 pc' lv (.int x :: st)) : Z G K n σ k1 k2 pc lv (st) := by
  subst hp
  exact fun H locs ls h1 h2 h3 => lv_iload_n C.1 C.2.1 hd rfl (zl_at h3 hl) (k H locs ls h1 h2 h3)
theorem z_iload (C : zC G K y cc nL ret hs) (pc' : Nat) {j : Nat} {x : Int32} (hd : decode cc pc = .ok (.iload j, 2)) (hp : pc + 2 = pc') (hl : zl lv j = some (.int x)) (k : Z G K n σ k1 k2 pc' lv (.int x :: st)) : Z G K n σ k1 k2 pc lv (st) := by
  subst hp
  exact fun H locs ls h1 h2 h3 => lv_iload C.1 C.2.1 hd (zl_at h3 hl) (k H locs ls h1 h2 h3)
theorem z_istore_n (C : zC G K y cc nL ret hs) (pc' : Nat) {j : Fin 4} {x : Int32} (hd : decode cc pc = .ok (.istore_n j, 1)) (hp : pc + 1 = pc') (hn : (j : Nat) < nL) (k : Z G K n σ k1 k2 pc' (zs1 lv (j : Nat) (.int x)) (st)) : Z G K n σ k1 k2 pc lv (.int x :: st) := by
  subst hp
  exact fun H locs ls h1 h2 h3 => lv_istore_n C.1 C.2.1 hd rfl h3 (by rw [C.2.2.1]; exact hn) (zs1_map G lv _ (.int x)) (fun ls' h => k H locs ls' h1 h2 h)
theorem z_istore (C : zC G K y cc nL ret hs) (pc' : Nat) {j : Nat} {x : Int32} (hd : decode cc pc = .ok (.istore j, 2)) (hp : pc + 2 = pc') (hn : j < nL) (k : Z G K n σ k1 k2 pc' (zs1 lv j (.int x)) (st)) : Z G K n σ k1 k2 pc lv (.int x :: st) := by
  subst hp
  exact fun H locs ls h1 h2 h3 => lv_istore C.1 C.2.1 hd h3 (by rw [C.2.2.1]; exact hn) (zs1_map G lv _ (.int x)) (fun ls' h => k H locs ls' h1 h2 h)
theorem z_lload_n (C : zC G K y cc nL ret hs) (pc' : Nat) {j : Fin 4} {x : Int64} (hd : decode cc pc = .ok (.lload_n j, 1)) (hp : pc + 1 = pc') (hl : zl lv (j : Nat) = some (.long x)) (k : Z G K n σ k1 k2 pc' lv (.long x :: st)) : Z G K n σ k1 k2 pc lv (st) := by
  subst hp
  exact fun H locs ls h1 h2 h3 => lv_lload_n C.1 C.2.1 hd rfl (zl_at h3 hl) (k H locs ls h1 h2 h3)
theorem z_lload (C : zC G K y cc nL ret hs) (pc' : Nat) {j : Nat} {x : Int64} (hd : decode cc pc = .ok (.lload j, 2)) (hp : pc + 2 = pc') (hl : zl lv j = some (.long x)) (k : Z G K n σ k1 k2 pc' lv (.long x :: st)) : Z G K n σ k1 k2 pc lv (st) := by
  subst hp
  exact fun H locs ls h1 h2 h3 => lv_lload C.1 C.2.1 hd (zl_at h3 hl) (k H locs ls h1 h2 h3)
theorem z_lstore_n (C : zC G K y cc nL ret hs) (pc' : Nat) {j : Fin 4} {x : Int64} (hd : decode cc pc = .ok (.lstore_n j, 1)) (hp : pc + 1 = pc') (hn : (j : Nat) + 1 < nL) (k : Z G K n σ k1 k2 pc' (zs2 lv (j : Nat) (.long x)) (st)) : Z G K n σ k1 k2 pc lv (.long x :: st) := by
  subst hp
  exact fun H locs ls h1 h2 h3 => lv_lstore_n C.1 C.2.1 hd rfl h3 (by rw [C.2.2.1]; exact hn) (zs2_map G lv _ (.long x)) (fun ls' h => k H locs ls' h1 h2 h)
theorem z_lstore (C : zC G K y cc nL ret hs) (pc' : Nat) {j : Nat} {x : Int64} (hd : decode cc pc = .ok (.lstore j, 2)) (hp : pc + 2 = pc') (hn : j + 1 < nL) (k : Z G K n σ k1 k2 pc' (zs2 lv j (.long x)) (st)) : Z G K n σ k1 k2 pc lv (.long x :: st) := by
  subst hp
  exact fun H locs ls h1 h2 h3 => lv_lstore C.1 C.2.1 hd h3 (by rw [C.2.2.1]; exact hn) (zs2_map G lv _ (.long x)) (fun ls' h => k H locs ls' h1 h2 h)
theorem z_aload_n (C : zC G K y cc nL ret hs) (pc' : Nat) {j : Fin 4} {x : Nat} (hd : decode cc pc = .ok (.aload_n j, 1)) (hp : pc + 1 = pc') (hl : zl lv (j : Nat) = some (.ref x)) (k : Z G K n σ k1 k2 pc' lv (.ref x :: st)) : Z G K n σ k1 k2 pc lv (st) := by
  subst hp
  exact fun H locs ls h1 h2 h3 => lv_aload_n C.1 C.2.1 hd rfl (zl_at h3 hl) (k H locs ls h1 h2 h3)
theorem z_aload (C : zC G K y cc nL ret hs) (pc' : Nat) {j : Nat} {x : Nat} (hd : decode cc pc = .ok (.aload j, 2)) (hp : pc + 2 = pc') (hl : zl lv j = some (.ref x)) (k : Z G K n σ k1 k2 pc' lv (.ref x :: st)) : Z G K n σ k1 k2 pc lv (st) := by
  subst hp
  exact fun H locs ls h1 h2 h3 => lv_aload C.1 C.2.1 hd (zl_at h3 hl) (k H locs ls h1 h2 h3)
theorem z_astore_n (C : zC G K y cc nL ret hs) (pc' : Nat) {j : Fin 4} {x : Nat} (hd : decode cc pc = .ok (.astore_n j, 1)) (hp : pc + 1 = pc') (hn : (j : Nat) < nL) (k : Z G K n σ k1 k2 pc' (zs1 lv (j : Nat) (.ref x)) (st)) : Z G K n σ k1 k2 pc lv (.ref x :: st) := by
  subst hp
  exact fun H locs ls h1 h2 h3 => lv_astore_n C.1 C.2.1 hd rfl h3 (by rw [C.2.2.1]; exact hn) (zs1_map G lv _ (.ref x)) (fun ls' h => k H locs ls' h1 h2 h)
theorem z_astore (C : zC G K y cc nL ret hs) (pc' : Nat) {j : Nat} {x : Nat} (hd : decode cc pc = .ok (.astore j, 2)) (hp : pc + 2 = pc') (hn : j < nL) (k : Z G K n σ k1 k2 pc' (zs1 lv j (.ref x)) (st)) : Z G K n σ k1 k2 pc lv (.ref x :: st) := by
  subst hp
  exact fun H locs ls h1 h2 h3 => lv_astore C.1 C.2.1 hd h3 (by rw [C.2.2.1]; exact hn) (zs1_map G lv _ (.ref x)) (fun ls' h => k H locs ls' h1 h2 h)
theorem z_aload_nN (C : zC G K y cc nL ret hs) (pc' : Nat) {j : Fin 4} (hd : decode cc pc = .ok (.aload_n j, 1)) (hp : pc + 1 = pc') (hl : zl lv (j : Nat) = some .null) (k : Z G K n σ k1 k2 pc' lv (.null :: st)) : Z G K n σ k1 k2 pc lv (st) := by
  subst hp
  exact fun H locs ls h1 h2 h3 => lv_aload_nN C.1 C.2.1 hd rfl (zl_at h3 hl) (k H locs ls h1 h2 h3)
theorem z_astore_nN (C : zC G K y cc nL ret hs) (pc' : Nat) {j : Fin 4} (hd : decode cc pc = .ok (.astore_n j, 1)) (hp : pc + 1 = pc') (hn : (j : Nat) < nL) (k : Z G K n σ k1 k2 pc' (zs1 lv (j : Nat) .null) (st)) : Z G K n σ k1 k2 pc lv (.null :: st) := by
  subst hp
  exact fun H locs ls h1 h2 h3 => lv_astore_nN C.1 C.2.1 hd rfl h3 (by rw [C.2.2.1]; exact hn) (zs1_map G lv _ .null) (fun ls' h => k H locs ls' h1 h2 h)
theorem z_iadd (C : zC G K y cc nL ret hs) (pc' : Nat) {x w : Int32} (hd : decode cc pc = .ok (.iadd, 1)) (hp : pc + 1 = pc')  (k : Z G K n σ k1 k2 pc' lv (.int (x + w) :: st)) : Z G K n σ k1 k2 pc lv (.int w :: .int x :: st) := by
  subst hp
  exact fun H locs ls h1 h2 h3 => lv_iadd C.1 C.2.1 hd (k H locs ls h1 h2 h3)
theorem z_isub (C : zC G K y cc nL ret hs) (pc' : Nat) {x w : Int32} (hd : decode cc pc = .ok (.isub, 1)) (hp : pc + 1 = pc')  (k : Z G K n σ k1 k2 pc' lv (.int (x - w) :: st)) : Z G K n σ k1 k2 pc lv (.int w :: .int x :: st) := by
  subst hp
  exact fun H locs ls h1 h2 h3 => lv_isub C.1 C.2.1 hd (k H locs ls h1 h2 h3)
theorem z_imul (C : zC G K y cc nL ret hs) (pc' : Nat) {x w : Int32} (hd : decode cc pc = .ok (.imul, 1)) (hp : pc + 1 = pc')  (k : Z G K n σ k1 k2 pc' lv (.int (x * w) :: st)) : Z G K n σ k1 k2 pc lv (.int w :: .int x :: st) := by
  subst hp
  exact fun H locs ls h1 h2 h3 => lv_imul C.1 C.2.1 hd (k H locs ls h1 h2 h3)
theorem z_iand (C : zC G K y cc nL ret hs) (pc' : Nat) {x w : Int32} (hd : decode cc pc = .ok (.iand, 1)) (hp : pc + 1 = pc')  (k : Z G K n σ k1 k2 pc' lv (.int (x &&& w) :: st)) : Z G K n σ k1 k2 pc lv (.int w :: .int x :: st) := by
  subst hp
  exact fun H locs ls h1 h2 h3 => lv_iand C.1 C.2.1 hd (k H locs ls h1 h2 h3)
theorem z_ior (C : zC G K y cc nL ret hs) (pc' : Nat) {x w : Int32} (hd : decode cc pc = .ok (.ior, 1)) (hp : pc + 1 = pc')  (k : Z G K n σ k1 k2 pc' lv (.int (x ||| w) :: st)) : Z G K n σ k1 k2 pc lv (.int w :: .int x :: st) := by
  subst hp
  exact fun H locs ls h1 h2 h3 => lv_ior C.1 C.2.1 hd (k H locs ls h1 h2 h3)
theorem z_ixor (C : zC G K y cc nL ret hs) (pc' : Nat) {x w : Int32} (hd : decode cc pc = .ok (.ixor, 1)) (hp : pc + 1 = pc')  (k : Z G K n σ k1 k2 pc' lv (.int (x ^^^ w) :: st)) : Z G K n σ k1 k2 pc lv (.int w :: .int x :: st) := by
  subst hp
  exact fun H locs ls h1 h2 h3 => lv_ixor C.1 C.2.1 hd (k H locs ls h1 h2 h3)
theorem z_ishl (C : zC G K y cc nL ret hs) (pc' : Nat) {x w : Int32} (hd : decode cc pc = .ok (.ishl, 1)) (hp : pc + 1 = pc')  (k : Z G K n σ k1 k2 pc' lv (.int (x <<< (w &&& 31)) :: st)) : Z G K n σ k1 k2 pc lv (.int w :: .int x :: st) := by
  subst hp
  exact fun H locs ls h1 h2 h3 => lv_ishl C.1 C.2.1 hd (k H locs ls h1 h2 h3)
theorem z_ishr (C : zC G K y cc nL ret hs) (pc' : Nat) {x w : Int32} (hd : decode cc pc = .ok (.ishr, 1)) (hp : pc + 1 = pc')  (k : Z G K n σ k1 k2 pc' lv (.int (x >>> (w &&& 31)) :: st)) : Z G K n σ k1 k2 pc lv (.int w :: .int x :: st) := by
  subst hp
  exact fun H locs ls h1 h2 h3 => lv_ishr C.1 C.2.1 hd (k H locs ls h1 h2 h3)
theorem z_ladd (C : zC G K y cc nL ret hs) (pc' : Nat) {x w : Int64} (hd : decode cc pc = .ok (.ladd, 1)) (hp : pc + 1 = pc')  (k : Z G K n σ k1 k2 pc' lv (.long (x + w) :: st)) : Z G K n σ k1 k2 pc lv (.long w :: .long x :: st) := by
  subst hp
  exact fun H locs ls h1 h2 h3 => lv_ladd C.1 C.2.1 hd (k H locs ls h1 h2 h3)
theorem z_lsub (C : zC G K y cc nL ret hs) (pc' : Nat) {x w : Int64} (hd : decode cc pc = .ok (.lsub, 1)) (hp : pc + 1 = pc')  (k : Z G K n σ k1 k2 pc' lv (.long (x - w) :: st)) : Z G K n σ k1 k2 pc lv (.long w :: .long x :: st) := by
  subst hp
  exact fun H locs ls h1 h2 h3 => lv_lsub C.1 C.2.1 hd (k H locs ls h1 h2 h3)
theorem z_lmul (C : zC G K y cc nL ret hs) (pc' : Nat) {x w : Int64} (hd : decode cc pc = .ok (.lmul, 1)) (hp : pc + 1 = pc')  (k : Z G K n σ k1 k2 pc' lv (.long (x * w) :: st)) : Z G K n σ k1 k2 pc lv (.long w :: .long x :: st) := by
  subst hp
  exact fun H locs ls h1 h2 h3 => lv_lmul C.1 C.2.1 hd (k H locs ls h1 h2 h3)
theorem z_land (C : zC G K y cc nL ret hs) (pc' : Nat) {x w : Int64} (hd : decode cc pc = .ok (.land, 1)) (hp : pc + 1 = pc')  (k : Z G K n σ k1 k2 pc' lv (.long (x &&& w) :: st)) : Z G K n σ k1 k2 pc lv (.long w :: .long x :: st) := by
  subst hp
  exact fun H locs ls h1 h2 h3 => lv_land C.1 C.2.1 hd (k H locs ls h1 h2 h3)
theorem z_lor (C : zC G K y cc nL ret hs) (pc' : Nat) {x w : Int64} (hd : decode cc pc = .ok (.lor, 1)) (hp : pc + 1 = pc')  (k : Z G K n σ k1 k2 pc' lv (.long (x ||| w) :: st)) : Z G K n σ k1 k2 pc lv (.long w :: .long x :: st) := by
  subst hp
  exact fun H locs ls h1 h2 h3 => lv_lor C.1 C.2.1 hd (k H locs ls h1 h2 h3)
theorem z_lxor (C : zC G K y cc nL ret hs) (pc' : Nat) {x w : Int64} (hd : decode cc pc = .ok (.lxor, 1)) (hp : pc + 1 = pc')  (k : Z G K n σ k1 k2 pc' lv (.long (x ^^^ w) :: st)) : Z G K n σ k1 k2 pc lv (.long w :: .long x :: st) := by
  subst hp
  exact fun H locs ls h1 h2 h3 => lv_lxor C.1 C.2.1 hd (k H locs ls h1 h2 h3)
theorem z_ldiv (C : zC G K y cc nL ret hs) (pc' : Nat) {x w : Int64} (hd : decode cc pc = .ok (.ldiv, 1)) (hp : pc + 1 = pc') (hne : ¬ w = 0) (k : Z G K n σ k1 k2 pc' lv (.long (x / w) :: st)) : Z G K n σ k1 k2 pc lv (.long w :: .long x :: st) := by
  subst hp
  exact fun H locs ls h1 h2 h3 => lv_ldiv C.1 C.2.1 hd hne (k H locs ls h1 h2 h3)
theorem z_lshl (C : zC G K y cc nL ret hs) (pc' : Nat) {x : Int64} {w : Int32} (hd : decode cc pc = .ok (.lshl, 1)) (hp : pc + 1 = pc')  (k : Z G K n σ k1 k2 pc' lv (.long (x <<< (w.toInt64 &&& 63)) :: st)) : Z G K n σ k1 k2 pc lv (.int w :: .long x :: st) := by
  subst hp
  exact fun H locs ls h1 h2 h3 => lv_lshl C.1 C.2.1 hd rfl (k H locs ls h1 h2 h3)
theorem z_i2l (C : zC G K y cc nL ret hs) (pc' : Nat) {x : Int32} (hd : decode cc pc = .ok (.i2l, 1)) (hp : pc + 1 = pc')  (k : Z G K n σ k1 k2 pc' lv (.long x.toInt64 :: st)) : Z G K n σ k1 k2 pc lv (.int x :: st) := by
  subst hp
  exact fun H locs ls h1 h2 h3 => lv_i2l C.1 C.2.1 hd rfl (k H locs ls h1 h2 h3)
theorem z_l2i (C : zC G K y cc nL ret hs) (pc' : Nat) {x : Int64} (hd : decode cc pc = .ok (.l2i, 1)) (hp : pc + 1 = pc')  (k : Z G K n σ k1 k2 pc' lv (.int x.toInt32 :: st)) : Z G K n σ k1 k2 pc lv (.long x :: st) := by
  subst hp
  exact fun H locs ls h1 h2 h3 => lv_l2i C.1 C.2.1 hd rfl (k H locs ls h1 h2 h3)
theorem z_i2c (C : zC G K y cc nL ret hs) (pc' : Nat) {x : Int32} (hd : decode cc pc = .ok (.i2c, 1)) (hp : pc + 1 = pc')  (k : Z G K n σ k1 k2 pc' lv (.int (x.toUInt32 % 65536).toInt32 :: st)) : Z G K n σ k1 k2 pc lv (.int x :: st) := by
  subst hp
  exact fun H locs ls h1 h2 h3 => lv_i2c C.1 C.2.1 hd rfl (k H locs ls h1 h2 h3)
theorem z_lcmp (C : zC G K y cc nL ret hs) (pc' : Nat) {x w : Int64} (hd : decode cc pc = .ok (.lcmp, 1)) (hp : pc + 1 = pc')  (k : Z G K n σ k1 k2 pc' lv (.int (lg_cmp x w) :: st)) : Z G K n σ k1 k2 pc lv (.long w :: .long x :: st) := by
  subst hp
  exact fun H locs ls h1 h2 h3 => W.lcmp C.1 C.2.1 hd (k H locs ls h1 h2 h3)
theorem z_dup (C : zC G K y cc nL ret hs) (pc' : Nat) {a : Value} (hd : decode cc pc = .ok (.dup, 1)) (hp : pc + 1 = pc') (ha : a.category = 1) (k : Z G K n σ k1 k2 pc' lv (a :: a :: st)) : Z G K n σ k1 k2 pc lv (a :: st) := by
  subst hp
  exact fun H locs ls h1 h2 h3 => lv_dup C.1 C.2.1 hd (by rw [zV_cat]; exact ha) (k H locs ls h1 h2 h3)
theorem z_pop (C : zC G K y cc nL ret hs) (pc' : Nat) {a : Value} (hd : decode cc pc = .ok (.pop, 1)) (hp : pc + 1 = pc') (ha : a.category = 1) (k : Z G K n σ k1 k2 pc' lv (st)) : Z G K n σ k1 k2 pc lv (a :: st) := by
  subst hp
  exact fun H locs ls h1 h2 h3 => lv_pop C.1 C.2.1 hd (by rw [zV_cat]; exact ha) (k H locs ls h1 h2 h3)
theorem z_dup2_11 (C : zC G K y cc nL ret hs) (pc' : Nat) {a b : Value} (hd : decode cc pc = .ok (.dup2, 1)) (hp : pc + 1 = pc') (ha : a.category = 1) (hb : b.category = 1) (k : Z G K n σ k1 k2 pc' lv (a :: b :: a :: b :: st)) : Z G K n σ k1 k2 pc lv (a :: b :: st) := by
  subst hp
  exact fun H locs ls h1 h2 h3 => lv_dup2_11 C.1 C.2.1 hd (by rw [zV_cat]; exact ha) (by rw [zV_cat]; exact hb) (k H locs ls h1 h2 h3)
theorem z_dup_x1 (C : zC G K y cc nL ret hs) (pc' : Nat) {a b : Value} (hd : decode cc pc = .ok (.dup_x1, 1)) (hp : pc + 1 = pc') (ha : a.category = 1) (hb : b.category = 1) (k : Z G K n σ k1 k2 pc' lv (a :: b :: a :: st)) : Z G K n σ k1 k2 pc lv (a :: b :: st) := by
  subst hp
  exact fun H locs ls h1 h2 h3 => lv_dup_x1 C.1 C.2.1 hd (by rw [zV_cat]; exact ha) (by rw [zV_cat]; exact hb) (k H locs ls h1 h2 h3)
theorem z_iinc (C : zC G K y cc nL ret hs) (pc' : Nat) {j : Nat} {a : Int} {x : Int32} (hd : decode cc pc = .ok (.iinc j a, 3)) (hp : pc + 3 = pc') (v : Int32) (hl : zl lv j = some (.int x)) (hv : x + Int32.ofInt a = v) (hn : j < nL) (k : Z G K n σ k1 k2 pc' (zs1 lv j (.int v)) (st)) : Z G K n σ k1 k2 pc lv (st) := by
  subst hp
  exact fun H locs ls h1 h2 h3 => z_iinc0 C hd h3 hl hv hn (fun ls' h => k H locs ls' h1 h2 h)
theorem z_if_eq (C : zC G K y cc nL ret hs) (pc' tgt : Nat) {x : Int32} {off : Int} (hd : decode cc pc = .ok (.ifCond .eq off, 3)) (hp : pc + 3 = pc') (ht : (pc : Int) + off = (tgt : Int)) (kt : x = 0 → Z G K n σ k1 k2 tgt lv st) (kf : ¬ x = 0 → Z G K n σ k1 k2 pc' lv st) : Z G K n σ k1 k2 pc lv (.int x :: st) := by
  subst hp
  exact fun H locs ls h1 h2 h3 => lv_if_eq C.1 C.2.1 hd ht (fun h => kt h H locs ls h1 h2 h3) (fun h => kf h H locs ls h1 h2 h3)
theorem z_if_ne (C : zC G K y cc nL ret hs) (pc' tgt : Nat) {x : Int32} {off : Int} (hd : decode cc pc = .ok (.ifCond .ne off, 3)) (hp : pc + 3 = pc') (ht : (pc : Int) + off = (tgt : Int)) (kt : ¬ x = 0 → Z G K n σ k1 k2 tgt lv st) (kf : x = 0 → Z G K n σ k1 k2 pc' lv st) : Z G K n σ k1 k2 pc lv (.int x :: st) := by
  subst hp
  exact fun H locs ls h1 h2 h3 => lv_if_ne C.1 C.2.1 hd ht (fun h => kt h H locs ls h1 h2 h3) (fun h => kf h H locs ls h1 h2 h3)
theorem z_if_lt (C : zC G K y cc nL ret hs) (pc' tgt : Nat) {x : Int32} {off : Int} (hd : decode cc pc = .ok (.ifCond .lt off, 3)) (hp : pc + 3 = pc') (ht : (pc : Int) + off = (tgt : Int)) (kt : x < 0 → Z G K n σ k1 k2 tgt lv st) (kf : ¬ x < 0 → Z G K n σ k1 k2 pc' lv st) : Z G K n σ k1 k2 pc lv (.int x :: st) := by
  subst hp
  exact fun H locs ls h1 h2 h3 => lv_if_lt C.1 C.2.1 hd ht (fun h => kt h H locs ls h1 h2 h3) (fun h => kf h H locs ls h1 h2 h3)
theorem z_if_ge (C : zC G K y cc nL ret hs) (pc' tgt : Nat) {x : Int32} {off : Int} (hd : decode cc pc = .ok (.ifCond .ge off, 3)) (hp : pc + 3 = pc') (ht : (pc : Int) + off = (tgt : Int)) (kt : 0 ≤ x → Z G K n σ k1 k2 tgt lv st) (kf : ¬ 0 ≤ x → Z G K n σ k1 k2 pc' lv st) : Z G K n σ k1 k2 pc lv (.int x :: st) := by
  subst hp
  exact fun H locs ls h1 h2 h3 => lv_if_ge C.1 C.2.1 hd ht (fun h => kt h H locs ls h1 h2 h3) (fun h => kf h H locs ls h1 h2 h3)
theorem z_if_gt (C : zC G K y cc nL ret hs) (pc' tgt : Nat) {x : Int32} {off : Int} (hd : decode cc pc = .ok (.ifCond .gt off, 3)) (hp : pc + 3 = pc') (ht : (pc : Int) + off = (tgt : Int)) (kt : 0 < x → Z G K n σ k1 k2 tgt lv st) (kf : ¬ 0 < x → Z G K n σ k1 k2 pc' lv st) : Z G K n σ k1 k2 pc lv (.int x :: st) := by
  subst hp
  exact fun H locs ls h1 h2 h3 => lv_if_gt C.1 C.2.1 hd ht (fun h => kt h H locs ls h1 h2 h3) (fun h => kf h H locs ls h1 h2 h3)
theorem z_if_le (C : zC G K y cc nL ret hs) (pc' tgt : Nat) {x : Int32} {off : Int} (hd : decode cc pc = .ok (.ifCond .le off, 3)) (hp : pc + 3 = pc') (ht : (pc : Int) + off = (tgt : Int)) (kt : x ≤ 0 → Z G K n σ k1 k2 tgt lv st) (kf : ¬ x ≤ 0 → Z G K n σ k1 k2 pc' lv st) : Z G K n σ k1 k2 pc lv (.int x :: st) := by
  subst hp
  exact fun H locs ls h1 h2 h3 => lv_if_le C.1 C.2.1 hd ht (fun h => kt h H locs ls h1 h2 h3) (fun h => kf h H locs ls h1 h2 h3)
theorem z_icmp_eq (C : zC G K y cc nL ret hs) (pc' tgt : Nat) {x w : Int32} {off : Int} (hd : decode cc pc = .ok (.if_icmp .eq off, 3)) (hp : pc + 3 = pc') (ht : (pc : Int) + off = (tgt : Int)) (kt : x = w → Z G K n σ k1 k2 tgt lv st) (kf : ¬ x = w → Z G K n σ k1 k2 pc' lv st) : Z G K n σ k1 k2 pc lv (.int w :: .int x :: st) := by
  subst hp
  exact fun H locs ls h1 h2 h3 => lv_icmp_eq C.1 C.2.1 hd ht (fun h => kt h H locs ls h1 h2 h3) (fun h => kf h H locs ls h1 h2 h3)
theorem z_icmp_ne (C : zC G K y cc nL ret hs) (pc' tgt : Nat) {x w : Int32} {off : Int} (hd : decode cc pc = .ok (.if_icmp .ne off, 3)) (hp : pc + 3 = pc') (ht : (pc : Int) + off = (tgt : Int)) (kt : ¬ x = w → Z G K n σ k1 k2 tgt lv st) (kf : x = w → Z G K n σ k1 k2 pc' lv st) : Z G K n σ k1 k2 pc lv (.int w :: .int x :: st) := by
  subst hp
  exact fun H locs ls h1 h2 h3 => lv_icmp_ne C.1 C.2.1 hd ht (fun h => kt h H locs ls h1 h2 h3) (fun h => kf h H locs ls h1 h2 h3)
theorem z_icmp_lt (C : zC G K y cc nL ret hs) (pc' tgt : Nat) {x w : Int32} {off : Int} (hd : decode cc pc = .ok (.if_icmp .lt off, 3)) (hp : pc + 3 = pc') (ht : (pc : Int) + off = (tgt : Int)) (kt : x < w → Z G K n σ k1 k2 tgt lv st) (kf : ¬ x < w → Z G K n σ k1 k2 pc' lv st) : Z G K n σ k1 k2 pc lv (.int w :: .int x :: st) := by
  subst hp
  exact fun H locs ls h1 h2 h3 => lv_icmp_lt C.1 C.2.1 hd ht (fun h => kt h H locs ls h1 h2 h3) (fun h => kf h H locs ls h1 h2 h3)
theorem z_icmp_ge (C : zC G K y cc nL ret hs) (pc' tgt : Nat) {x w : Int32} {off : Int} (hd : decode cc pc = .ok (.if_icmp .ge off, 3)) (hp : pc + 3 = pc') (ht : (pc : Int) + off = (tgt : Int)) (kt : w ≤ x → Z G K n σ k1 k2 tgt lv st) (kf : ¬ w ≤ x → Z G K n σ k1 k2 pc' lv st) : Z G K n σ k1 k2 pc lv (.int w :: .int x :: st) := by
  subst hp
  exact fun H locs ls h1 h2 h3 => lv_icmp_ge C.1 C.2.1 hd ht (fun h => kt h H locs ls h1 h2 h3) (fun h => kf h H locs ls h1 h2 h3)
theorem z_icmp_gt (C : zC G K y cc nL ret hs) (pc' tgt : Nat) {x w : Int32} {off : Int} (hd : decode cc pc = .ok (.if_icmp .gt off, 3)) (hp : pc + 3 = pc') (ht : (pc : Int) + off = (tgt : Int)) (kt : w < x → Z G K n σ k1 k2 tgt lv st) (kf : ¬ w < x → Z G K n σ k1 k2 pc' lv st) : Z G K n σ k1 k2 pc lv (.int w :: .int x :: st) := by
  subst hp
  exact fun H locs ls h1 h2 h3 => lv_icmp_gt C.1 C.2.1 hd ht (fun h => kt h H locs ls h1 h2 h3) (fun h => kf h H locs ls h1 h2 h3)
theorem z_icmp_le (C : zC G K y cc nL ret hs) (pc' tgt : Nat) {x w : Int32} {off : Int} (hd : decode cc pc = .ok (.if_icmp .le off, 3)) (hp : pc + 3 = pc') (ht : (pc : Int) + off = (tgt : Int)) (kt : x ≤ w → Z G K n σ k1 k2 tgt lv st) (kf : ¬ x ≤ w → Z G K n σ k1 k2 pc' lv st) : Z G K n σ k1 k2 pc lv (.int w :: .int x :: st) := by
  subst hp
  exact fun H locs ls h1 h2 h3 => lv_icmp_le C.1 C.2.1 hd ht (fun h => kt h H locs ls h1 h2 h3) (fun h => kf h H locs ls h1 h2 h3)
theorem z_goto (C : zC G K y cc nL ret hs) (tgt : Nat) {off : Int} (hd : decode cc pc = .ok (.goto off, 3)) (ht : (pc : Int) + off = (tgt : Int)) (k : Z G K n σ k1 k2 tgt lv st) : Z G K n σ k1 k2 pc lv st :=
  fun H locs ls h1 h2 h3 => lv_goto C.1 C.2.1 hd ht (k H locs ls h1 h2 h3)
theorem z_ifnull (C : zC G K y cc nL ret hs) (pc' : Nat) {x : Nat} {off : Int} (hd : decode cc pc = .ok (.ifnull off, 3)) (hp : pc + 3 = pc') (k : Z G K n σ k1 k2 pc' lv st) : Z G K n σ k1 k2 pc lv (.ref x :: st) := by
  subst hp
  exact fun H locs ls h1 h2 h3 => lv_ifnull C.1 C.2.1 hd (k H locs ls h1 h2 h3)
theorem z_ifnullN (C : zC G K y cc nL ret hs) (tgt : Nat) {off : Int} (hd : decode cc pc = .ok (.ifnull off, 3)) (ht : (pc : Int) + off = (tgt : Int)) (k : Z G K n σ k1 k2 tgt lv st) : Z G K n σ k1 k2 pc lv (.null :: st) :=
  fun H locs ls h1 h2 h3 => lv_ifnullN C.1 C.2.1 hd ht (k H locs ls h1 h2 h3)
theorem z_ifnonnull (C : zC G K y cc nL ret hs) (tgt : Nat) {x : Nat} {off : Int} (hd : decode cc pc = .ok (.ifnonnull off, 3)) (ht : (pc : Int) + off = (tgt : Int)) (k : Z G K n σ k1 k2 tgt lv st) : Z G K n σ k1 k2 pc lv (.ref x :: st) :=
  fun H locs ls h1 h2 h3 => lv_ifnonnull C.1 C.2.1 hd ht (k H locs ls h1 h2 h3)
theorem z_ifnonnullN (C : zC G K y cc nL ret hs) (pc' : Nat) {off : Int} (hd : decode cc pc = .ok (.ifnonnull off, 3)) (hp : pc + 3 = pc') (k : Z G K n σ k1 k2 pc' lv st) : Z G K n σ k1 k2 pc lv (.null :: st) := by
  subst hp
  exact fun H locs ls h1 h2 h3 => lv_ifnonnullN C.1 C.2.1 hd (k H locs ls h1 h2 h3)
theorem z_iald (C : zC G K y cc nL ret hs) (pc' : Nat) {i len : Nat} {j : Int32} {f : Nat → Int32} (jn : Nat) (hd : decode cc pc = .ok (.iaload, 1)) (hp : pc + 1 = pc') (hi : i < n) (hσ : σ i = .inl (0, len, .inl f)) (hj : j = nI jn) (hl : jn < len) (hs : len < 2 ^ 31)
    (k : Z G K n σ k1 k2 pc' lv (.int (f jn) :: st)) : Z G K n σ k1 k2 pc lv (.int j :: .ref i :: st) := by
  subst hp; subst hj
  intro H locs ls h1 h2 h3
  have hat := h1.2.2.2 i hi
  rw [hσ] at hat
  have hcl : (nI jn).toNatClampNeg = jn := nI_clamp (Nat.lt_trans hl hs)
  have kk := k H locs ls h1 h2 h3
  show W _ _ _ _ _ _ _ _ _ _ H locs k1 k2 _ (F0 _ pc ls (.int (nI jn) :: .ref (zad G i) :: st.map (zV G)))
  rw [zad_lt (Nat.lt_of_lt_of_le hi h1.2.1)]
  refine va_iald (D := zD G) (cl := zCl) (tys := zT G) (ws := [(zz G + i, zE G (.inl (0, len, .inl f)))]) C.1 C.2.1 C.kk (fun k q hq => ?_) 0 0 rfl rfl (vp_in_nI hl hs) hd ?_
  · cases k with
    | zero => cases hq; exact hat
    | succ k => cases hq
  · rw [hcl]
    exact kk
theorem z_lald (C : zC G K y cc nL ret hs) (pc' : Nat) {i len : Nat} {j : Int32} {f : Nat → Int64} (jn : Nat) (hd : decode cc pc = .ok (.laload, 1)) (hp : pc + 1 = pc') (hi : i < n) (hσ : σ i = .inl (1, len, .inr (.inl f))) (hj : j = nI jn) (hl : jn < len) (hs : len < 2 ^ 31)
    (k : Z G K n σ k1 k2 pc' lv (.long (f jn) :: st)) : Z G K n σ k1 k2 pc lv (.int j :: .ref i :: st) := by
  subst hp; subst hj
  intro H locs ls h1 h2 h3
  have hat := h1.2.2.2 i hi
  rw [hσ] at hat
  have hcl : (nI jn).toNatClampNeg = jn := nI_clamp (Nat.lt_trans hl hs)
  have kk := k H locs ls h1 h2 h3
  show W _ _ _ _ _ _ _ _ _ _ H locs k1 k2 _ (F0 _ pc ls (.int (nI jn) :: .ref (zad G i) :: st.map (zV G)))
  rw [zad_lt (Nat.lt_of_lt_of_le hi h1.2.1)]
  refine va_lald (D := zD G) (cl := zCl) (tys := zT G) (ws := [(zz G + i, zE G (.inl (1, len, .inr (.inl f))))]) C.1 C.2.1 C.kk (fun k q hq => ?_) 0 1 rfl rfl (vp_in_nI hl hs) hd ?_
  · cases k with
    | zero => cases hq; exact hat
    | succ k => cases hq
  · rw [hcl]
    exact kk
theorem z_cald (C : zC G K y cc nL ret hs) (pc' : Nat) {i len : Nat} {j : Int32} {f : Nat → Int32} (jn : Nat) (hd : decode cc pc = .ok (.caload, 1)) (hp : pc + 1 = pc') (hi : i < n) (hσ : σ i = .inl (2, len, .inl f)) (hj : j = nI jn) (hl : jn < len) (hs : len < 2 ^ 31)
    (k : Z G K n σ k1 k2 pc' lv (.int (f jn) :: st)) : Z G K n σ k1 k2 pc lv (.int j :: .ref i :: st) := by
  subst hp; subst hj
  intro H locs ls h1 h2 h3
  have hat := h1.2.2.2 i hi
  rw [hσ] at hat
  have hcl : (nI jn).toNatClampNeg = jn := nI_clamp (Nat.lt_trans hl hs)
  have kk := k H locs ls h1 h2 h3
  show W _ _ _ _ _ _ _ _ _ _ H locs k1 k2 _ (F0 _ pc ls (.int (nI jn) :: .ref (zad G i) :: st.map (zV G)))
  rw [zad_lt (Nat.lt_of_lt_of_le hi h1.2.1)]
  refine va_cald (D := zD G) (cl := zCl) (tys := zT G) (ws := [(zz G + i, zE G (.inl (2, len, .inl f)))]) C.1 C.2.1 C.kk (fun k q hq => ?_) 0 2 rfl rfl (vp_in_nI hl hs) hd ?_
  · cases k with
    | zero => cases hq; exact hat
    | succ k => cases hq
  · rw [hcl]
    exact kk
theorem z_zald (C : zC G K y cc nL ret hs) (pc' : Nat) {i len : Nat} {j : Int32} {f : Nat → Int32} (jn : Nat) (hd : decode cc pc = .ok (.baload, 1)) (hp : pc + 1 = pc') (hi : i < n) (hσ : σ i = .inl (3, len, .inl f)) (hj : j = nI jn) (hl : jn < len) (hs : len < 2 ^ 31)
    (k : Z G K n σ k1 k2 pc' lv (.int (f jn) :: st)) : Z G K n σ k1 k2 pc lv (.int j :: .ref i :: st) := by
  subst hp; subst hj
  intro H locs ls h1 h2 h3
  have hat := h1.2.2.2 i hi
  rw [hσ] at hat
  have hcl : (nI jn).toNatClampNeg = jn := nI_clamp (Nat.lt_trans hl hs)
  have kk := k H locs ls h1 h2 h3
  show W _ _ _ _ _ _ _ _ _ _ H locs k1 k2 _ (F0 _ pc ls (.int (nI jn) :: .ref (zad G i) :: st.map (zV G)))
  rw [zad_lt (Nat.lt_of_lt_of_le hi h1.2.1)]
  refine va_zald (D := zD G) (cl := zCl) (tys := zT G) (ws := [(zz G + i, zE G (.inl (3, len, .inl f)))]) C.1 C.2.1 C.kk (fun k q hq => ?_) 0 3 rfl rfl (vp_in_nI hl hs) hd ?_
  · cases k with
    | zero => cases hq; exact hat
    | succ k => cases hq
  · rw [hcl]
    exact kk
theorem z_iast (C : zC G K y cc nL ret hs) (pc' : Nat) {i len : Nat} {j : Int32} {x : Int32} {f : Nat → Int32} (jn : Nat) (hd : decode cc pc = .ok (.iastore, 1)) (hp : pc + 1 = pc') (hi : i < n) (hσ : σ i = .inl (0, len, .inl (f))) (hj : j = nI jn) (hl : jn < len) (hs : len < 2 ^ 31) 
    (k : Z G K n (va_up σ i (.inl (0, len, .inl (upd f jn x)))) k1 k2 pc' lv st) : Z G K n σ k1 k2 pc lv (.int (x) :: .int j :: .ref i :: st) := by
  subst hp; subst hj
  intro H locs ls h1 h2 h3
  have hat := h1.2.2.2 i hi
  rw [hσ] at hat
  have hcl : (nI jn).toNatClampNeg = jn := nI_clamp (Nat.lt_trans hl hs)
  show W _ _ _ _ _ _ _ _ _ _ H locs k1 k2 _ (F0 _ pc ls (.int (x) :: .int (nI jn) :: .ref (zad G i) :: st.map (zV G)))
  rw [zad_lt (Nat.lt_of_lt_of_le hi h1.2.1)]
  refine W.iast C.1 C.2.1 (show H[zz G + i]? = some (vp_cell (zcA G 0) (len, .inl (f))) from hat) ((C.kk.2 0 _ rfl).1 len (fun j => .int (f j))) (fun q => by cases q) (by show ¬ (nI jn < 0 ∨ (arrV _ _ _).slots.size ≤ _); rw [arrV_size]; exact vp_in_nI hl hs) rfl rfl hd fun H1 e z oq => ?_
  refine k H1 _ ls (h1.set z oq ?_) (fun q hq => ?_) h3
  · show H1[zz G + i]? = some (vp_cell _ _)
    rw [e, hcl]
    show some ((arrV (zcA G 0) len (fun j => .int (f j))).setSlot jn _) = some (arrV (zcA G 0) len (fun j => .int (upd f jn x j)))
    rw [arrV_store]
    congr 2
    funext q
    by_cases hq : q = jn
    · subst hq
      simp [updV, upd, vp_nar]
      try rfl
    · simp [updV, upd, hq]
  · rcases List.mem_append.mp hq with hq | hq
    · exact h2 q hq
    · rw [List.mem_singleton.mp hq]
      exact Nat.le_add_right _ _
theorem z_last (C : zC G K y cc nL ret hs) (pc' : Nat) {i len : Nat} {j : Int32} {x : Int64} {f : Nat → Int64} (jn : Nat) (hd : decode cc pc = .ok (.lastore, 1)) (hp : pc + 1 = pc') (hi : i < n) (hσ : σ i = .inl (1, len, .inr (.inl (f)))) (hj : j = nI jn) (hl : jn < len) (hs : len < 2 ^ 31) 
    (k : Z G K n (va_up σ i (.inl (1, len, .inr (.inl (vp_updL f jn x))))) k1 k2 pc' lv st) : Z G K n σ k1 k2 pc lv (.long (x) :: .int j :: .ref i :: st) := by
  subst hp; subst hj
  intro H locs ls h1 h2 h3
  have hat := h1.2.2.2 i hi
  rw [hσ] at hat
  have hcl : (nI jn).toNatClampNeg = jn := nI_clamp (Nat.lt_trans hl hs)
  show W _ _ _ _ _ _ _ _ _ _ H locs k1 k2 _ (F0 _ pc ls (.long (x) :: .int (nI jn) :: .ref (zad G i) :: st.map (zV G)))
  rw [zad_lt (Nat.lt_of_lt_of_le hi h1.2.1)]
  refine W.last C.1 C.2.1 (show H[zz G + i]? = some (vp_cell (zcA G 1) (len, .inr (.inl (f)))) from hat) ((C.kk.2 1 _ rfl).1 len (fun j => .long (f j))) (fun q => by cases q) (by show ¬ (nI jn < 0 ∨ (arrV _ _ _).slots.size ≤ _); rw [arrV_size]; exact vp_in_nI hl hs) rfl rfl hd fun H1 e z oq => ?_
  refine k H1 _ ls (h1.set z oq ?_) (fun q hq => ?_) h3
  · show H1[zz G + i]? = some (vp_cell _ _)
    rw [e, hcl]
    show some ((arrV (zcA G 1) len (fun j => .long (f j))).setSlot jn _) = some (arrV (zcA G 1) len (fun j => .long (vp_updL f jn x j)))
    rw [arrV_store]
    congr 2
    funext q
    by_cases hq : q = jn
    · subst hq
      simp [updV, vp_updL, vp_nar]
      try rfl
    · simp [updV, vp_updL, hq]
  · rcases List.mem_append.mp hq with hq | hq
    · exact h2 q hq
    · rw [List.mem_singleton.mp hq]
      exact Nat.le_add_right _ _
theorem z_cast (C : zC G K y cc nL ret hs) (pc' : Nat) {i len : Nat} {j : Int32} {x : Int32} {f : Nat → Int32} (jn : Nat) (hd : decode cc pc = .ok (.castore, 1)) (hp : pc + 1 = pc') (hi : i < n) (hσ : σ i = .inl (2, len, .inl (f))) (hj : j = nI jn) (hl : jn < len) (hs : len < 2 ^ 31) (x' : Int32) (hx : vp_nar .char x = x') 
    (k : Z G K n (va_up σ i (.inl (2, len, .inl (upd f jn x')))) k1 k2 pc' lv st) : Z G K n σ k1 k2 pc lv (.int (x) :: .int j :: .ref i :: st) := by
  subst hp; subst hj; subst hx
  intro H locs ls h1 h2 h3
  have hat := h1.2.2.2 i hi
  rw [hσ] at hat
  have hcl : (nI jn).toNatClampNeg = jn := nI_clamp (Nat.lt_trans hl hs)
  show W _ _ _ _ _ _ _ _ _ _ H locs k1 k2 _ (F0 _ pc ls (.int (x) :: .int (nI jn) :: .ref (zad G i) :: st.map (zV G)))
  rw [zad_lt (Nat.lt_of_lt_of_le hi h1.2.1)]
  refine W.cast C.1 C.2.1 (show H[zz G + i]? = some (vp_cell (zcA G 2) (len, .inl (f))) from hat) ((C.kk.2 2 _ rfl).1 len (fun j => .int (f j))) (fun q => by cases q) (by show ¬ (nI jn < 0 ∨ (arrV _ _ _).slots.size ≤ _); rw [arrV_size]; exact vp_in_nI hl hs) rfl rfl hd fun H1 e z oq => ?_
  refine k H1 _ ls (h1.set z oq ?_) (fun q hq => ?_) h3
  · show H1[zz G + i]? = some (vp_cell _ _)
    rw [e, hcl]
    show some ((arrV (zcA G 2) len (fun j => .int (f j))).setSlot jn _) = some (arrV (zcA G 2) len (fun j => .int (upd f jn (vp_nar .char x) j)))
    rw [arrV_store]
    congr 2
    funext q
    by_cases hq : q = jn
    · subst hq
      simp [updV, upd, vp_nar]
      try rfl
    · simp [updV, upd, hq]
  · rcases List.mem_append.mp hq with hq | hq
    · exact h2 q hq
    · rw [List.mem_singleton.mp hq]
      exact Nat.le_add_right _ _
theorem z_zast (C : zC G K y cc nL ret hs) (pc' : Nat) {i len : Nat} {j : Int32} {x : Int32} {f : Nat → Int32} (jn : Nat) (hd : decode cc pc = .ok (.bastore, 1)) (hp : pc + 1 = pc') (hi : i < n) (hσ : σ i = .inl (3, len, .inl (f))) (hj : j = nI jn) (hl : jn < len) (hs : len < 2 ^ 31) (x' : Int32) (hx : vp_nar .boolean x = x') 
    (k : Z G K n (va_up σ i (.inl (3, len, .inl (upd f jn x')))) k1 k2 pc' lv st) : Z G K n σ k1 k2 pc lv (.int (x) :: .int j :: .ref i :: st) := by
  subst hp; subst hj; subst hx
  intro H locs ls h1 h2 h3
  have hat := h1.2.2.2 i hi
  rw [hσ] at hat
  have hcl : (nI jn).toNatClampNeg = jn := nI_clamp (Nat.lt_trans hl hs)
  show W _ _ _ _ _ _ _ _ _ _ H locs k1 k2 _ (F0 _ pc ls (.int (x) :: .int (nI jn) :: .ref (zad G i) :: st.map (zV G)))
  rw [zad_lt (Nat.lt_of_lt_of_le hi h1.2.1)]
  refine W.zast C.1 C.2.1 (show H[zz G + i]? = some (vp_cell (zcA G 3) (len, .inl (f))) from hat) ((C.kk.2 3 _ rfl).1 len (fun j => .int (f j))) (fun q => by cases q) (by show ¬ (nI jn < 0 ∨ (arrV _ _ _).slots.size ≤ _); rw [arrV_size]; exact vp_in_nI hl hs) rfl rfl hd fun H1 e z oq => ?_
  refine k H1 _ ls (h1.set z oq ?_) (fun q hq => ?_) h3
  · show H1[zz G + i]? = some (vp_cell _ _)
    rw [e, hcl]
    show some ((arrV (zcA G 3) len (fun j => .int (f j))).setSlot jn _) = some (arrV (zcA G 3) len (fun j => .int (upd f jn (vp_nar .boolean x) j)))
    rw [arrV_store]
    congr 2
    funext q
    by_cases hq : q = jn
    · subst hq
      simp [updV, upd, vp_nar]
      try rfl
    · simp [updV, upd, hq]
  · rcases List.mem_append.mp hq with hq | hq
    · exact h2 q hq
    · rw [List.mem_singleton.mp hq]
      exact Nat.le_add_right _ _
end ZR
end
section
section ZM
variable {G : zG} {K : zK} {y : MethodName} {cc : ByteArray} {nL : Nat} {ret : Option FieldType} {hs : List (Nat × Nat × Nat × Nat)} {n k1 k2 pc : Nat} {σ : zS} {lv : List (Nat × Value)} {st : List Value}
theorem zV_narrow {G : zG} {ty : FieldType} {v : Value} (h : narrow ty v = v) : narrow ty (zV G v) = zV G v := by
  cases v <;> first | exact h | (cases ty <;> rfl)
theorem zV_fits {G : zG} {ty : FieldType} {v : Value} (h : fits ty v = true) : fits ty (zV G v) = true := by
  cases v <;> first | exact h | (cases ty <;> first | exact h | rfl)
theorem zV_vp (G : zG) (fs : List Value) (j : Nat) : vp_V (fs.map (zV G)) j = zV G (vp_V fs j) := by
  unfold vp_V
  rw [List.getD_eq_getElem?_getD, List.getD_eq_getElem?_getD, List.getElem?_map]
  cases fs[j]? <;> rfl
theorem zV_dflt (G : zG) (ty : FieldType) : zV G (defaultValue ty) = defaultValue ty := by cases ty <;> rfl
/-- a field by its link: class ci of zCl, its field k -/
def zF (own : String) (idx ci k : Nat) : Prop := ∃ (C : String) (T : u_T) (N : Nat), zCl[ci]? = some (C, T, N) ∧ k < N ∧ (∀ w ∈ u_ws C T N, w ∈ zTb) ∧ Cond.fieldLink own idx (T k).1 (T k).2.1 (T k).2.2.1 ∈ zTb
/-- a class's table as it must be for stores and makings -/
def zCk (ci : Nat) (C : String) (T : u_T) (N : Nat) (ty0 : Nat → FieldType) : Prop := zCl[ci]? = some (C, T, N) ∧ (∀ w ∈ u_ws C T N, w ∈ zTb) ∧ (∀ k, k < N → parseFieldDescriptor (T k).2.2.1 = some (ty0 k)) ∧ (∀ a, a < N → ∀ b, b < N → a ≠ b → (T a).2.1 ≠ (T b).2.1)
def zP (own : String) (idx ci k : Nat) (ty : FieldType) : Prop := ∃ (C : String) (T : u_T) (N : Nat) (ty0 : Nat → FieldType), zCk ci C T N ty0 ∧ k < N ∧ Cond.fieldLink own idx (T k).1 (T k).2.1 (T k).2.2.1 ∈ zTb ∧ (T k).2.2.2 = false ∧ ty0 k = ty
def zPF (own : String) (idx ci k : Nat) (ty : FieldType) : Prop := ∃ (C : String) (T : u_T) (N : Nat) (ty0 : Nat → FieldType), zCk ci C T N ty0 ∧ k < N ∧ Cond.fieldLink own idx (T k).1 (T k).2.1 (T k).2.2.1 ∈ zTb ∧ (T k).2.2.2 = true ∧ (T k).1 = own ∧ ty0 k = ty
theorem z_get (C : zC G K y cc nL ret hs) (pc' : Nat) {i ci idx fk : Nat} {fs : List Value} {v : Value} (hf : zF y.cls idx ci fk) (hd : decode cc pc = .ok (.getfield idx, 3)) (hp : pc + 3 = pc') (hi : i < n) (hσ : σ i = .inr (ci, fs)) (hv : fs[fk]? = some v)
    (k : Z G K n σ k1 k2 pc' lv (v :: st)) : Z G K n σ k1 k2 pc lv (.ref i :: st) := by
  subst hp
  intro H locs ls h1 h2 h3
  obtain ⟨Cn, T, N, c1, c2, c3, c4⟩ := hf
  have hat := h1.2.2.2 i hi
  rw [hσ] at hat
  have kk := k H locs ls h1 h2 h3
  show W _ _ _ _ _ _ _ _ _ _ H locs k1 k2 _ (F0 _ pc ls (.ref (zad G i) :: st.map (zV G)))
  rw [zad_lt (Nat.lt_of_lt_of_le hi h1.2.1)]
  refine va_get (D := zD G) (cl := zCl) (tys := zT G) (ws := [(zz G + i, .inr (ci, fs.map (zV G)))]) C.1 C.2.1 C.ts c3 C.own C.kk (fun k q hq => ?_) 0 rfl c1 fk c2 (C.ts _ c4) (fun x h => h) (v := zV G v) (by rw [List.getElem?_map, hv]; rfl) hd kk
  cases k with
  | zero => cases hq; exact hat
  | succ k => cases hq
theorem z_locs {G : zG} {locs : List Loc} (h : ∀ q ∈ locs, zz G ≤ q.base) (i j : Nat) : ∀ q ∈ locs ++ [(⟨zz G + i, j⟩ : Loc)], zz G ≤ q.base := fun q hq => by
  rcases List.mem_append.mp hq with hq | hq
  · exact h q hq
  · rw [List.mem_singleton.mp hq]
    exact Nat.le_add_right _ _
theorem z_put (C : zC G K y cc nL ret hs) (pc' : Nat) {i ci idx fk : Nat} {ty : FieldType} {fs : List Value} {v : Value} (hf : zP y.cls idx ci fk ty) (hd : decode cc pc = .ok (.putfield idx, 3)) (hp : pc + 3 = pc') (hi : i < n) (hσ : σ i = .inr (ci, fs)) (hl : fk < fs.length) (hn : narrow ty v = v) (hfit : fits ty v = true)
    (k : Z G K n (va_up σ i (.inr (ci, fs.set fk v))) k1 k2 pc' lv st) : Z G K n σ k1 k2 pc lv (v :: .ref i :: st) := by
  subst hp
  intro H locs ls h1 h2 h3
  obtain ⟨Cn, T, N, ty0, ⟨c1, c3, c5, c6⟩, c2, c4, c7, c8⟩ := hf
  subst c8
  have hat := h1.2.2.2 i hi
  rw [hσ] at hat
  have hap := va_apart (own := y.cls) C.ts c3 ty0 c5 c6 C.kk c1
  obtain ⟨r, r1, cell, q1, q2, q3, q4⟩ := hat
  have hr : r = (Cn, T, N) := Option.some.inj (r1.symm.trans c1)
  subst hr
  obtain ⟨hS, hfc, kC, hkC, hkind⟩ := C.kk.1 ci _ c1
  obtain ⟨cf, kf, fi, f, hif, hsl⟩ := hS fk c2
  have hlay := C.ts _ (c3 _ (u_in_lay c2))
  unfold u_lay at hlay
  rw [if_neg (by rw [c7]; decide)] at hlay
  have hst := (u_facts hfc hkC (u_lays C.ts c3 c2) hif).1
  have h6 := u_store hfc hkC hkind hlay hif (c5 fk c2) (zV_narrow (G := G) hn) (zV_fits (G := G) hfit)
  show W _ _ _ _ _ _ _ _ _ _ H locs k1 k2 _ (F0 _ pc ls (zV G v :: .ref (zad G i) :: st.map (zV G)))
  rw [zad_lt (Nat.lt_of_lt_of_le hi h1.2.1)]
  refine W.putK C.1 C.2.1 (f := f) ⟨C.own, C.ts _ c4, ⟨_, _, _, hif⟩, hst⟩ (by rw [q2]; exact h6) q1 q3 (by rw [hsl]; exact k2_hasslot (q4 fk c2)) rfl rfl hd fun H' e1 e2 e3 => ?_
  rw [hsl] at e1 ⊢
  refine k H' _ ls (h1.set e2 e3 ?_) (z_locs h2 _ _) h3
  refine ⟨_, c1, t_OB.to (V := updV (vp_V (fs.map (zV G))) fk (zV G v)) ⟨_, e1, q2, q3, t_set q4 hap c2 _⟩ (fun j _ => ?_)⟩
  rw [show ((fs.set fk v).map (zV G)) = (fs.map (zV G)).set fk (zV G v) from List.map_set ..]
  exact vp_updV_set (by rw [List.length_map]; exact hl) _ j
theorem z_putF (C : zC G K y cc nL ret hs) (pc' : Nat) {i ci idx fk : Nat} {ty : FieldType} {fs : List Value} {v : Value} (hf : zPF y.cls idx ci fk ty) (hin : y.name = "<init>") (hd : decode cc pc = .ok (.putfield idx, 3)) (hp : pc + 3 = pc') (hi : i < n) (hσ : σ i = .inr (ci, fs)) (hl : fk < fs.length) (hn : narrow ty v = v) (hfit : fits ty v = true)
    (k : Z G K n (va_up σ i (.inr (ci, fs.set fk v))) k1 k2 pc' lv st) : Z G K n σ k1 k2 pc lv (v :: .ref i :: st) := by
  subst hp
  intro H locs ls h1 h2 h3
  obtain ⟨Cn, T, N, ty0, ⟨c1, c3, c5, c6⟩, c2, c4, c7, c9, c8⟩ := hf
  subst c8
  have hat := h1.2.2.2 i hi
  rw [hσ] at hat
  have hap := va_apart (own := y.cls) C.ts c3 ty0 c5 c6 C.kk c1
  obtain ⟨r, r1, cell, q1, q2, q3, q4⟩ := hat
  have hr : r = (Cn, T, N) := Option.some.inj (r1.symm.trans c1)
  subst hr
  obtain ⟨hS, hfc, kC, hkC, hkind⟩ := C.kk.1 ci _ c1
  obtain ⟨cf, kf, fi, f, hif, hsl⟩ := hS fk c2
  have hlay := C.ts _ (c3 _ (u_in_lay c2))
  unfold u_lay at hlay
  rw [if_pos c7] at hlay
  have hst := (u_facts hfc hkC (u_lays C.ts c3 c2) hif).1
  have hcf : (km K).cls = cf := by
    obtain ⟨_, _, c', _, _, _, -, -, hf', -, -, -, hown2, -⟩ := Cond.laysFinal_spec hlay
    have e1 : c' = cf := by have := hif.symm.trans hf'; simp at this; exact this.1.symm
    rw [c9] at hown2
    rw [← e1]; exact Option.some.inj (C.own.symm.trans hown2)
  have h6 := u_fits hfc hkC hkind (Or.inr hlay) hif (c5 fk c2) (zV_narrow (G := G) hn) (zV_fits (G := G) hfit)
  show W _ _ _ _ _ _ _ _ _ _ H locs k1 k2 _ (F0 _ pc ls (zV G v :: .ref (zad G i) :: st.map (zV G)))
  rw [zad_lt (Nat.lt_of_lt_of_le hi h1.2.1)]
  refine W.putFinK C.1 C.2.1 C.own (C.ts _ c4) hif hst hcf (C.nm.trans hin) (by rw [q2]; exact h6) q1 q3 (by rw [hsl]; exact k2_hasslot (q4 fk c2)) rfl rfl hd fun H' e1 e2 e3 => ?_
  rw [hsl] at e1 ⊢
  refine k H' _ ls (h1.set e2 e3 ?_) (z_locs h2 _ _) h3
  refine ⟨_, c1, t_OB.to (V := updV (vp_V (fs.map (zV G))) fk (zV G v)) ⟨_, e1, q2, q3, t_set q4 hap c2 _⟩ (fun j _ => ?_)⟩
  rw [show ((fs.set fk v).map (zV G)) = (fs.map (zV G)).set fk (zV G v) from List.map_set ..]
  exact vp_updV_set (by rw [List.length_map]; exact hl) _ j
/-- making an object -/
def zNw (own : String) (idx ci N : Nat) (fs : List Value) : Prop := ∃ (C : String) (T : u_T) (M : Nat) (ty0 : Nat → FieldType), zCk ci C T M ty0 ∧ Cond.classLink own idx C ∈ zTb ∧ Cond.instantiable C N ∈ zTb ∧ Cond.initialized C ∈ zTb ∧ ∀ j, j < M → defaultValue (ty0 j) = vp_V fs j
theorem z_new (C : zC G K y cc nL ret hs) (pc' : Nat) {ci idx N : Nat} {fs : List Value} (hf : zNw y.cls idx ci N fs) (hd : decode cc pc = .ok (.new idx, 3)) (hp : pc + 3 = pc') (hn : n < 1000000) (hc : k1 + 1 ≤ (kR K).cells) (hl : k2 + N ≤ (kR K).slots)
    (k : Z G K (n + 1) (va_up σ n (.inr (ci, fs))) (k1 + 1) (k2 + N) pc' lv (.ref n :: st)) : Z G K n σ k1 k2 pc lv st := by
  subst hp
  intro H locs ls h1 h2 h3
  obtain ⟨Cn, T, M, ty0, ⟨c1, c3, c5, c6⟩, w1, w2, w3, w4⟩ := hf
  have hKn := C.kk.1 ci _ c1
  refine W.newcK C.1 C.2.1 C.own (C.ts _ w1) (C.ts _ w2) (C.ts _ w3) rfl hd hc hl hKn.2.1 h1.1 fun H1 kC hkC e1 z1 o1 => ?_
  have hat : va_at (zD G) zCl (zz G + n, zE G (.inr (ci, fs))) H1 := ⟨_, c1, (u_born ty0 C.ts c3 hKn hkC e1 c5).to (fun j hj => by rw [zV_vp, ← w4 j hj, zV_dflt])⟩
  have kk := k H1 locs ls (h1.push hn (by rw [z1, h1.1]) (fun q hq => o1 q (by rw [← h1.1]; exact hq)) hat) h2 h3
  have e : (.ref (zz G + n) : Value) = zV G (.ref n) := by show _ = Value.ref (zad G n); rw [zad_lt hn]
  show W _ _ _ _ _ _ _ _ _ _ H1 locs (k1 + 1) (k2 + N) _ (F0 _ (pc + 3) ls (.ref (zz G + n) :: st.map (zV G)))
  rw [e]
  exact kk
theorem z_arrT {G : zG} {U : State} (h : va_K (zD G) zCl (zT G) U) {t : Nat} {ty : FieldType} (ht : zTy[t]? = some ty) : ArrOfT U (zcA G t) ty ∧ va_RA U (zcA G t) ty := by
  refine h.2 t (zcA G t, ty) ?_
  unfold zT
  rw [List.getElem?_map, List.getElem?_zipIdx, ht]
  simp
theorem z_newa (C : zC G K y cc nL ret hs) (pc' : Nat) {atype : ArrayType} {j : Int32} (t len : Nat) {ty : FieldType} {a : vp_A} (ht : zTy[t]? = some ty) (hty : newarray.typeOf atype = ty) (hw : Cond.arrayClass ty ∈ zTb) (ha : ∀ cA : ClassId, vp_cell cA (zA G a) = arrV cA len (fun _ => defaultValue ty))
    (hra : va_RA (ks K) (zcA G t) ty → (ks K).vm.findClass ("[" ++ ty.toString) = some (zcA G t))
    (hd : decode cc pc = .ok (.newarray atype, 2)) (hp : pc + 2 = pc') (hj : j = nI len) (hs : len < 2 ^ 31) (hb : len * componentBytes ty ≤ 536870912) (hn : n < 1000000) (hc : k1 + 1 ≤ (kR K).cells) (hl : k2 + len ≤ (kR K).slots)
    (k : Z G K (n + 1) (va_up σ n (.inl (t, a))) (k1 + 1) (k2 + len) pc' lv (.ref n :: st)) : Z G K n σ k1 k2 pc lv (.int j :: st) := by
  subst hp; subst hj; subst hty
  intro H locs ls h1 h2 h3
  refine va_newaK C.1 C.2.1 (C.ts _ hw) rfl hd rfl (nI_pos hs) (nI_clamp hs) hb hc hl h1.1 fun H1 cA e1 z1 o1 hAr hNm => ?_
  have hcA : cA = zcA G t := Option.some.inj (hNm.symm.trans (hra (z_arrT C.kk ht).2))
  subst hcA
  have hat : va_at (zD G) zCl (zz G + n, zE G (.inl (t, a))) H1 := by
    show H1[zz G + n]? = some (vp_cell (zcA G t) (zA G a))
    rw [ha]; exact e1
  have kk := k H1 locs ls (h1.push hn (by rw [z1, h1.1]) (fun q hq => o1 q (by rw [← h1.1]; exact hq)) hat) h2 h3
  have e : (.ref (zz G + n) : Value) = zV G (.ref n) := by show _ = Value.ref (zad G n); rw [zad_lt hn]
  show W _ _ _ _ _ _ _ _ _ _ H1 locs (k1 + 1) (k2 + len) _ (F0 _ (pc + 2) ls (.ref (zz G + n) :: st.map (zV G)))
  rw [e]
  exact kk
/-- weakenings -/
theorem Z.same {τ : zS} (h : ∀ i, i < n → σ i = τ i) (k : Z G K n τ k1 k2 pc lv st) : Z G K n σ k1 k2 pc lv st := fun H locs ls h1 h2 h3 => k H locs ls (h1.same (fun i hi => (h i hi).symm)) h2 h3
theorem Z.lvs {lv' : List (Nat × Value)} (h : ∀ q ∈ lv', q ∈ lv) (k : Z G K n σ k1 k2 pc lv' st) : Z G K n σ k1 k2 pc lv st := fun H locs ls h1 h2 h3 => k H locs ls h1 h2 ⟨h3.1, h3.2.1, fun q hq => by
  obtain ⟨q', hq', rfl⟩ := List.mem_map.mp hq
  exact h3.2.2 _ (List.mem_map.mpr ⟨q', h q' hq', rfl⟩)⟩
theorem Z.widen {j1 j2 : Nat} (h1 : k1 ≤ j1) (h2 : k2 ≤ j2) (k : Z G K n σ j1 j2 pc lv st) : Z G K n σ k1 k2 pc lv st := fun H locs ls a b c => W.widen h1 h2 (k H locs ls a b c)
theorem Z.n0 (k : n ≤ 1000000 → Z G K n σ k1 k2 pc lv st) : Z G K n σ k1 k2 pc lv st := fun H locs ls a b c => k a.2.1 H locs ls a b c
/-- ends -/
theorem z_iret (C : zC G K y cc nL ret hs) {x : Int32} (hr : ret = some .int) (hd : decode cc pc = .ok (.ireturn, 1)) (hq : kpo K (.returned (some (.int x))) n σ) (hc : k1 ≤ kmc K) (hl : k2 ≤ kms K) : Z G K n σ k1 k2 pc lv [.int x] := fun H locs ls h1 h2 h3 =>
  W.widen hc hl (xt_ret (W.iret C.1 C.2.1 (C.2.2.2.1.trans hr) (fun t ht hW => ⟨.returned (some (.int x)), n, σ, rfl, hq, by rw [ht]; exact h1⟩) h2 hd C.lk))
theorem z_zret (C : zC G K y cc nL ret hs) {x : Int32} {ty : FieldType} (hr : ret = some ty) (hx : narrow ty (.int x) = .int x) (hd : decode cc pc = .ok (.ireturn, 1)) (hq : kpo K (.returned (some (.int x))) n σ) (hc : k1 ≤ kmc K) (hl : k2 ≤ kms K) : Z G K n σ k1 k2 pc lv [.int x] := fun H locs ls h1 h2 h3 =>
  W.widen hc hl (xt_ret (W.zret C.1 C.2.1 (C.2.2.2.1.trans hr) hx (fun t ht hW => ⟨.returned (some (.int x)), n, σ, rfl, hq, by rw [ht]; exact h1⟩) h2 hd C.lk))
theorem z_lret (C : zC G K y cc nL ret hs) {x : Int64} (hr : ret = some .long) (hd : decode cc pc = .ok (.lreturn, 1)) (hq : kpo K (.returned (some (.long x))) n σ) (hc : k1 ≤ kmc K) (hl : k2 ≤ kms K) : Z G K n σ k1 k2 pc lv [.long x] := fun H locs ls h1 h2 h3 =>
  W.widen hc hl (xt_ret (W.lret C.1 C.2.1 (C.2.2.2.1.trans hr) (fun t ht hW => ⟨.returned (some (.long x)), n, σ, rfl, hq, by rw [ht]; exact h1⟩) h2 hd C.lk))
theorem z_vret (C : zC G K y cc nL ret hs) (hr : ret = none) (hd : decode cc pc = .ok (.return_, 1)) (hq : kpo K (.returned none) n σ) (hc : k1 ≤ kmc K) (hl : k2 ≤ kms K) : Z G K n σ k1 k2 pc lv [] := fun H locs ls h1 h2 h3 =>
  W.widen hc hl (xt_ret (W.vret C.1 C.2.1 (C.2.2.2.1.trans hr) (fun t ht hW => ⟨.returned none, n, σ, rfl, hq, by rw [ht]; exact h1⟩) h2 hd C.lk))
theorem z_aret (C : zC G K y cc nL ret hs) {x : Nat} {D : String} (hr : ret = some (.object D)) (hd : decode cc pc = .ok (.areturn, 1)) (hq : kpo K (.returned (some (.ref x))) n σ) (hc : k1 ≤ kmc K) (hl : k2 ≤ kms K) : Z G K n σ k1 k2 pc lv [.ref x] := fun H locs ls h1 h2 h3 =>
  W.widen hc hl (xt_ret (W.aret C.1 C.2.1 (C.2.2.2.1.trans hr) (Or.inl ⟨_, rfl⟩) (Or.inr ⟨_, rfl⟩) (fun t ht hW => ⟨.returned (some (.ref x)), n, σ, rfl, hq, by rw [ht]; exact h1⟩) h2 hd C.lk))
end ZM
end
section
section ZL
variable {G : zG} {K : zK} {y : MethodName} {cc : ByteArray} {nL : Nat} {ret : Option FieldType} {hs : List (Nat × Nat × Nat × Nat)} {n k1 k2 pc : Nat} {σ : zS} {lv : List (Nat × Value)} {st : List Value}
def zRm (d mc ms : Nat) : Room := { frames := d, cells := mc, slots := ms, locals := 60 * d }
/-- a method's code word: without handlers, or with them -/
def zWd (y : MethodName) (cc : ByteArray) (nL : Nat) (ret : Option FieldType) (hs : List (Nat × Nat × Nat × Nat)) : Cond := match hs with
  | [] => .code y cc nL ret
  | h :: t => .codeWith y cc nL ret (h :: t)
theorem zWd_spec {a : Array Value} {u : State} {mk : MethodId} (h : (zWd y cc nL ret hs).before a u = true) (hn : u.methodNamed? y = some mk) :
    ∃ meth c, u.vm.method? mk = some meth ∧ meth.code = some c ∧ c.code = cc ∧ c.maxLocals = nL ∧ meth.sig.returnType = ret ∧ meth.locks = false ∧ c.exceptionTable.toList.map (fun h => (h.startPc, h.endPc, h.handlerPc, h.catchType)) = hs ∧ parseMethodDescriptor y.desc = some meth.sig := by
  cases hs with
  | nil =>
    obtain ⟨meth, c, h1, h2, h3, h4, h5, h6, h7, h8⟩ := Cond.code_spec hn h
    refine ⟨meth, c, h1, h2, h3, h4, h5, h6, ?_, h8⟩
    have h0 : c.exceptionTable.size = 0 := by simpa [Array.isEmpty] using h7
    have h9 : c.exceptionTable.toList = [] := List.eq_nil_of_length_eq_zero (by simpa using h0)
    rw [h9]; rfl
  | cons x t =>
    obtain ⟨m, meth, c, h0, h1, h2, h3, h4, h5, h6, h7, h8⟩ := Cond.codeWith_spec h
    cases h0.symm.trans hn
    exact ⟨meth, c, h1, h2, h3, h4, h6, h7, h5, h8⟩
def MetZ (G : zG) (l : Launch) (y : MethodName) (cc : ByteArray) (nL : Nat) (ret : Option FieldType) (hs : List (Nat × Nat × Nat × Nat)) (d mc ms : Nat) (av : List Value) (n : Nat) (σ : zS) (post : zPost) : Prop :=
  l.stackTraces = false → xt_Met l y (zWd y cc nL ret hs :: zTb) (zRm d mc ms) (zPc G av n σ) (zQc G post) mc ms (fun q => zz G ≤ q)
theorem zargs_map (G : zG) : ∀ (av : List Value) (i : Nat), lv_args i (av.map (zV G)) = (lv_args i av).map (fun q => (q.1, zV G q.2))
  | [], _ => rfl
  | v :: t, i => by
    rw [List.map_cons, lv_args, lv_args, List.map_cons, zV_cat, zargs_map G t]
theorem zargs_len (G : zG) : ∀ av : List Value, (lg_sl (av.map (zV G))).length = (lg_sl av).length
  | [] => rfl
  | v :: t => by
    have h := zargs_len G t
    simp only [lg_sl, List.map_cons, List.flatMap_cons, List.length_append, zV_cat] at h ⊢
    rw [h]
    congr 1
    split <;> rfl
theorem MetZ.of {l : Launch} {d mc ms : Nat} {av : List Value} {post : zPost} (hy : plainName y.cls = true) (hl : (lg_sl av).length ≤ nL)
    (body : ∀ K : zK, kl K = l → kR K = zRm d mc ms → kpo K = post → kmc K = mc → kms K = ms → zC G K y cc nL ret hs → Z G K n σ 0 0 0 (lv_args 0 av) []) : MetZ G l y cc nL ret hs d mc ms av n σ post := by
  intro htr
  refine xt_ofW (cc := cc) (maxL := nL) (ret := ret) hy (fun a u mk h hn => ?_) ?_
  · obtain ⟨meth, c, h1, h2, h3, h4, h5, h6, -, -⟩ := zWd_spec (h _ List.mem_cons_self) hn
    exact ⟨meth, c, h1, h2, h3, h4, h5, h6⟩
  · intro p e s m args below meth c s₁ B hml hv
    obtain ⟨rfl, hH, hK, hS⟩ := hv
    have hpre := atoms_spec (ws := zWd y cc nL ret hs :: zTb) B.pre
    obtain ⟨meth', c', m1, m2, -, -, -, -, m7, -⟩ := zWd_spec (hpre _ List.mem_cons_self) B.named
    cases B.method.symm.trans m1
    cases (Stand.of_body B).code.symm.trans m2
    have k := body (p, l, e, zRm d mc ms, s, m, (av.map (zV G)).toArray, below, meth, c, post, mc, ms) rfl rfl rfl rfl rfl
      ⟨B.exec, B.bytes, hml, B.returns, findClass_of_methodNamed B.named, fun w hw => hpre w (List.mem_cons_of_mem _ hw), hK, B.notSynchronized, m7, (name_of_methodNamed B.named B.method).1, htr, hS⟩
    have hle := lv_entry (av.map (zV G)) (n := nL) (by rw [zargs_len]; exact hl)
    rw [zargs_map] at hle
    rw [lg_entry_eq]
    refine k s.heap [] _ hH (fun q hq => nomatch hq) ?_
    show lv_has _ c.maxLocals _
    rw [hml]
    exact hle
/-- the way from an invoking instruction to the callee -/
def zGo (K : zK) (g g' : JFrame) (y : MethodName) (a : Array Value) (H : Heap) : Prop := ∀ (T : State) (locs : List Loc) (k1 k2 : Nat), T.heap = H → Stand (kp K) (kl K) (ke K) (kR K) (ks K) (km K) (ka K) (kb K) (kme K) (kc K) T locs k1 k2 →
  ∃ (vm₁ : Vm) (mk : MethodId), Stand (kp K) (kl K) (ke K) (kR K) (ks K) (km K) (ka K) (kb K) (kme K) (kc K) (T.setVm vm₁) locs k1 k2 ∧ (T.setVm vm₁).methodNamed? y = some mk ∧
    ∀ target, (∀ acts, Steps (kp K).tables (ke K) (kb K) (doInvoke (ke K) ((T.setVm vm₁).setTop g') acts mk a).1 target) → Steps (kp K).tables (ke K) (kb K) (T.setTop g) target
/-- an exception x on its way through the frame -/
def ZX (G : zG) (K : zK) (n : Nat) (σ : zS) (k1 k2 pc : Nat) (lv : List (Nat × Value)) (st : List Value) (x : Nat) : Prop :=
  ∀ (H : Heap) (locs : List Loc) (ls : Array Slot), zHW G n σ H → (∀ q ∈ locs, zz G ≤ q.base) → lv_has ls (kc K).maxLocals (lv.map fun q => (q.1, zV G q.2)) →
    ∀ T : State, T.heap = H → Stand (kp K) (kl K) (ke K) (kR K) (ks K) (km K) (ka K) (kb K) (kme K) (kc K) T locs k1 k2 →
      ∃ t, Steps (kp K).tables (ke K) (kb K) ((T.setTop (F0 (km K) pc ls (st.map (zV G)))).pushFrame (.throwing (zad G x))) t ∧ zQ G K t
theorem zx_out (C : zC G K y cc nL ret hs) {x : Nat} (hout : ∀ h ∈ hs, (decide (h.1 ≤ pc) && decide (pc < h.2.1)) = false) (hq : kpo K (.threw x) n σ) (hc : k1 ≤ kmc K) (hl : k2 ≤ kms K) : ZX G K n σ k1 k2 pc lv st x := by
  intro H locs ls h1 h2 h3 T hT X
  have ho : ∀ z ∈ (kc K).exceptionTable.toList, covers z pc = false := fun z hz => by
    have h9 : (z.startPc, z.endPc, z.handlerPc, z.catchType) ∈ hs := by rw [← C.tab]; exact List.mem_map.mpr ⟨z, hz, rfl⟩
    exact hout _ h9
  obtain ⟨s1, s2, s3, s4, s5⟩ := (stand_widen X hc hl).leaveThrown (zad G x) (g := F0 (km K) pc ls (st.map (zV G))) rfl rfl rfl ho C.lk
  exact ⟨_, s1, .threw (zad G x), s2, s3, ⟨.threw x, n, σ, rfl, hq, by show zHW G n σ T.heap; rw [hT]; exact h1⟩, locs, ⟨s4, s5⟩, h2⟩
theorem z_call (C : zC G K y cc nL ret hs) (pc' : Nat) {yc : MethodName} {ccc : ByteArray} {nLc d mc ms len : Nat} {retc : Option FieldType} {hsc : List (Nat × Nat × Nat × Nat)} {av st0 : List Value} {post : zPost} {ig : Instr}
    (hM : MetZ G (kl K) yc ccc nLc retc hsc d mc ms av n σ post) (hwd : zWd yc ccc nLc retc hsc ∈ zTb) (hini : Cond.initialized yc.cls ∈ zTb) (hd : decode cc pc = .ok (ig, len)) (hp : pc + len = pc')
    (hgo : ∀ (H : Heap) (ls : Array Slot), zHW G n σ H → ls.size = (kc K).maxLocals → zGo K (F0 (km K) pc ls (st0.map (zV G))) (F0 (km K) pc ls (st.map (zV G))) yc (av.map (zV G)).toArray H)
    (hwt : (st.map fun v => v.category).sum ≤ 8) (hfr : d + 1 ≤ (kR K).frames) (hlo : 8 + (nLc + 11) + 60 * d ≤ (kR K).locals) (hc : k1 + mc ≤ (kR K).cells) (hl : k2 + ms ≤ (kR K).slots)
    (kr : ∀ v n' σ', post (.returned v) n' σ' → Z G K n' σ' (k1 + mc) (k2 + ms) pc' lv (v.toList ++ st))
    (kx : ∀ x n' σ', post (.threw x) n' σ' → ZX G K n' σ' (k1 + mc) (k2 + ms) pc lv st x) : Z G K n σ k1 k2 pc lv st0 := by
  subst hp
  intro H locs ls h1 h2 h3 T hT X
  obtain ⟨vm₁, mk, X₁, hn, hstep⟩ := hgo H ls h1 h3.1 T locs k1 k2 hT X
  have hT1 : (T.setVm vm₁).heap = H := hT
  have hws : ∀ w ∈ zTb, ∀ a' : Array Value, w.before a' (T.setVm vm₁) = true := fun w hw a' => zok_at X₁.warmed (zt_ok w hw) (C.ts w hw)
  obtain ⟨methY, cY, m1, m2, -, m4, -, -, -, -⟩ := zWd_spec (hws _ hwd #[]) hn
  obtain ⟨o, t, T', L, hq, hL, e1, e2, hW', X', hret, hthr⟩ := xt_call (hM C.tr) X₁ (g := F0 (km K) pc ls (st.map (zV G))) rfl h3.1 (by rw [C.2.1]; exact hd) (W9 := 8) (maxL := nLc)
    (by
      have hcat : ((st.map (zV G)).map fun v => v.category) = st.map fun v => v.category := by rw [List.map_map]; exact List.map_congr_left (fun v _ => zV_cat G v)
      exact lv_room (by rw [hcat]; exact hwt)) hn (av.map (zV G)).toArray rfl rfl hfr hlo
    (fun w hw => by
      rcases List.mem_cons.mp hw with rfl | hw
      · exact hws _ hwd _
      · exact hws w hw _) m1 m2 m4 (hws _ hini _) hc hl
    ⟨rfl, by show zHW G n σ (T.setVm vm₁).heap; rw [hT1]; exact h1, va_K.moved X₁.warmed.alike C.kk, zStat.moved X₁.warmed (fun q hq => (by show (T.setVm vm₁).heap[q]? = _; rw [hT1]; exact (h1.2.2.1 q hq))) C.stat⟩
  obtain ⟨o', n', σ', rfl, hpo, hH'⟩ := hq
  have h2' : ∀ q ∈ locs ++ L, zz G ≤ q.base := fun q hq => (List.mem_append.mp hq).elim (h2 q) (hL q)
  cases o' with
  | returned v =>
    obtain ⟨t2, a1, b1⟩ := kr v n' σ' hpo T'.heap (locs ++ L) ls (by rw [e1]; exact hH') h2' h3 T' rfl X'
    refine ⟨t2, hstep _ (fun acts => ?_), b1⟩
    rw [doInvoke_state]
    refine (hret _ rfl).trans ?_
    have e : (v.toList ++ st).map (zV G) = (v.map (zV G)).toList ++ st.map (zV G) := by cases v <;> simp
    rw [e] at a1
    exact a1
  | threw x =>
    obtain ⟨t2, a1, b1⟩ := kx x n' σ' hpo T'.heap (locs ++ L) ls (by rw [e1]; exact hH') h2' h3 T' rfl X'
    refine ⟨t2, hstep _ (fun acts => ?_), b1⟩
    rw [doInvoke_state]
    exact (hthr _ rfl).trans a1
/-- words of a call: link, kind, selection -/
def zLV (own : String) (idx : Nat) (Cn : String) (y : MethodName) (k : Nat) : Prop := Cond.methodLink own idx y ∈ zTb ∧ Cond.instanceMethod y ∈ zTb ∧ Cond.selects Cn y y ∈ zTb ∧ (y.cls ≠ "java/lang/invoke/MethodHandle" ∧ y.cls ≠ "java/lang/invoke/VarHandle") ∧ (parseMethodDescriptor y.desc).map (fun q => q.parameters.length) = some k
theorem z_len {y : MethodName} {k : Nat} {sig : MethodDescriptor} (h : (parseMethodDescriptor y.desc).map (fun q => q.parameters.length) = some k) (hs : parseMethodDescriptor y.desc = some sig) : k = sig.parameters.length := by
  rw [hs] at h
  exact (Option.some.inj h).symm
theorem z_goV (C : zC G K y cc nL ret hs) {yc : MethodName} {ccc : ByteArray} {nLc idx ci i k : Nat} {retc : Option FieldType} {hsc : List (Nat × Nat × Nat × Nat)} {Cn : String} {T0 : u_T} {N : Nat} {fs As : List Value}
    (hL : zLV y.cls idx Cn yc k) (hwd : zWd yc ccc nLc retc hsc ∈ zTb) (hd : decode cc pc = .ok (.invokevirtual idx, 3)) (hi : i < n) (hσ : σ i = .inr (ci, fs)) (hcl : zCl[ci]? = some (Cn, T0, N)) (hk : As.length = k) :
    ∀ (H : Heap) (ls : Array Slot), zHW G n σ H → ls.size = (kc K).maxLocals → zGo K (F0 (km K) pc ls ((As.reverse ++ .ref i :: st).map (zV G))) (F0 (km K) pc ls (st.map (zV G))) yc ((.ref i :: As).map (zV G)).toArray H := by
  intro H ls h1 hsz T locs k1 k2 hT X
  obtain ⟨l1, l2, l3, l4, l5⟩ := hL
  obtain ⟨mk, methM, hnamed, hmethM, hstM, habM⟩ := Cond.instanceMethod_spec (C.ts _ l2)
  obtain ⟨methM', cM, hmethM', -, -, -, -, -, -, hsigM⟩ := zWd_spec (C.ts _ hwd) hnamed
  cases hmethM.symm.trans hmethM'
  obtain ⟨c2, r2, m2, q1, q2, q3, q4, kP, hkP, hkPi⟩ := Cond.selects_spec (C.ts _ l3)
  have hat := h1.2.2.2 i hi
  rw [hσ] at hat
  obtain ⟨r, r1, cell, z1, z2, z3, -⟩ := hat
  have hcls : (ks K).vm.findClass Cn = some cell.cls := by rw [z2]; exact (C.kk.1 ci _ hcl).2.1
  cases hcls.symm.trans q1
  cases (State.methodFound?_of_named hnamed l4).symm.trans q2
  cases hnamed.symm.trans q3
  have hselP : selectMethod (ke K).platform (ks K).vm cell.cls mk = .method mk := by rw [Launch.admits_selectMethod X.admits]; exact q4
  have hza : zad G i = zz G + i := zad_lt (Nat.lt_of_lt_of_le hi h1.2.1)
  obtain ⟨vm₁, X₁, hstep₁⟩ := X.invokevirtual C.1 C.own (C.ts _ l1) hnamed hmethM hstM hkP hkPi l4 (a := zad G i) (cell := cell) (by rw [hT, hza]; exact z1)
    (fun z h => by rw [z3] at h; cases h) hselP hmethM habM hkP hkPi (g := F0 (km K) pc ls ((As.reverse ++ .ref i :: st).map (zV G))) rfl (argsL := As.map (zV G)) (rest := st.map (zV G))
    (by rw [List.length_map, hk]; exact z_len l5 hsigM) (by simp [zV]) (by rw [C.2.1]; exact hd)
  exact ⟨vm₁, mk, X₁, X₁.named hnamed, hstep₁⟩
def zLS (own : String) (idx : Nat) (y : MethodName) (k : Nat) : Prop := Cond.methodLink own idx y ∈ zTb ∧ Cond.static y ∈ zTb ∧ Cond.initialized y.cls ∈ zTb ∧ (y.cls ≠ "java/lang/invoke/MethodHandle" ∧ y.cls ≠ "java/lang/invoke/VarHandle") ∧ (parseMethodDescriptor y.desc).map (fun q => q.parameters.length) = some k
theorem z_goS (C : zC G K y cc nL ret hs) {yc : MethodName} {ccc : ByteArray} {nLc idx k : Nat} {retc : Option FieldType} {hsc : List (Nat × Nat × Nat × Nat)} {As : List Value}
    (hL : zLS y.cls idx yc k) (hwd : zWd yc ccc nLc retc hsc ∈ zTb) (hnm : ∀ (a : Array Value) (u : State), (zWd yc ccc nLc retc hsc).before a u = true → ∃ mk, u.methodNamed? yc = some mk) (hd : decode cc pc = .ok (.invokestatic idx, 3)) (hk : As.length = k) :
    ∀ (H : Heap) (ls : Array Slot), zHW G n σ H → ls.size = (kc K).maxLocals → zGo K (F0 (km K) pc ls ((As.reverse ++ st).map (zV G))) (F0 (km K) pc ls (st.map (zV G))) yc (As.map (zV G)).toArray H := by
  intro H ls h1 hsz T locs k1 k2 hT X
  obtain ⟨l1, l2, l3, l4, l5⟩ := hL
  obtain ⟨mk, hnamed⟩ := hnm _ _ (C.ts _ hwd)
  obtain ⟨methM, cM, hmethM, -, -, -, -, -, -, hsigM⟩ := zWd_spec (C.ts _ hwd) hnamed
  have hstatic : methM.isStatic = true := Cond.static_spec hnamed hmethM (C.ts _ l2)
  obtain ⟨kP, hkP, -⟩ := className_of_methodNamed hnamed
  have hinitP : kP.init = .initialized := Cond.initialized_spec (findClass_of_methodNamed hnamed) hkP (C.ts _ l3)
  obtain ⟨vm₁, X₁, hstep₁⟩ := X.invokestatic C.1 C.own (C.ts _ l1) hnamed hmethM hstatic hkP hinitP l4 (g := F0 (km K) pc ls ((As.reverse ++ st).map (zV G))) rfl (argsL := As.map (zV G)) (rest := st.map (zV G))
    (by rw [List.length_map, hk]; exact z_len l5 hsigM) (by simp) (by rw [C.2.1]; exact hd)
  exact ⟨vm₁, mk, X₁, X₁.named hnamed, hstep₁⟩
def zLI (own : String) (idx : Nat) (y : MethodName) (k : Nat) : Prop := Cond.methodLink own idx y ∈ zTb ∧ Cond.instanceMethod y ∈ zTb ∧ y.name = "<init>" ∧ (y.cls ≠ "java/lang/invoke/MethodHandle" ∧ y.cls ≠ "java/lang/invoke/VarHandle") ∧ (parseMethodDescriptor y.desc).map (fun q => q.parameters.length) = some k
theorem z_goI (C : zC G K y cc nL ret hs) {yc : MethodName} {ccc : ByteArray} {nLc idx i k : Nat} {As : List Value}
    (hL : zLI y.cls idx yc k) (hwd : zWd yc ccc nLc none [] ∈ zTb) (hd : decode cc pc = .ok (.invokespecial idx, 3)) (hk : As.length = k) :
    ∀ (H : Heap) (ls : Array Slot), zHW G n σ H → ls.size = (kc K).maxLocals → zGo K (F0 (km K) pc ls ((As.reverse ++ .ref i :: st).map (zV G))) (F0 (km K) pc ls (st.map (zV G))) yc ((.ref i :: As).map (zV G)).toArray H := by
  intro H ls h1 hsz T locs k1 k2 hT X
  obtain ⟨l1, l2, l3, l4, l5⟩ := hL
  have hpl : (ke K).platform.magicAccessors = ({} : Platform).magicAccessors := by rw [X.admits.platform]
  obtain ⟨mk, methM, cM, kP, vm₁, hnamed, hmethM, hcodeM, -, hlocalsM, -, hkP, -, hW₁, hstep₁⟩ := Steps.initColdArgs (e := ke K) X.here C.1 X.warmed hpl C.own l3 l4 (C.ts _ l1) (C.ts _ l2) (C.ts _ hwd) (f := F0 (km K) pc ls ((As.reverse ++ .ref i :: st).map (zV G))) rfl (argsL := As.map (zV G)) (rest := st.map (zV G)) (a := zad G i)
    (fun sig hsig => by rw [List.length_map, hk]; exact z_len l5 hsig) (by simp [zV]) (by rw [C.2.1]; exact hd)
  have X₁ := X.noted hW₁
  exact ⟨vm₁, mk, X₁, X₁.named hnamed, hstep₁⟩
end ZL
end
section
section ZO
variable {G : zG} {K : zK} {y : MethodName} {cc : ByteArray} {nL : Nat} {ret : Option FieldType} {hs : List (Nat × Nat × Nat × Nat)} {n k1 k2 pc : Nat} {σ : zS} {lv : List (Nat × Value)} {st : List Value}
def zLIN (own : String) (idx : Nat) (y : MethodName) (k : Nat) : Prop := (∃ host, Cond.methodLinkNest own idx y host ∈ zTb) ∧ Cond.instanceMethod y ∈ zTb ∧ y.name = "<init>" ∧ (y.cls ≠ "java/lang/invoke/MethodHandle" ∧ y.cls ≠ "java/lang/invoke/VarHandle") ∧ (parseMethodDescriptor y.desc).map (fun q => q.parameters.length) = some k
theorem z_goIN (C : zC G K y cc nL ret hs) {yc : MethodName} {ccc : ByteArray} {nLc idx i k : Nat} {As : List Value}
    (hL : zLIN y.cls idx yc k) (hwd : zWd yc ccc nLc none [] ∈ zTb) (hd : decode cc pc = .ok (.invokespecial idx, 3)) (hk : As.length = k) :
    ∀ (H : Heap) (ls : Array Slot), zHW G n σ H → ls.size = (kc K).maxLocals → zGo K (F0 (km K) pc ls ((As.reverse ++ .ref i :: st).map (zV G))) (F0 (km K) pc ls (st.map (zV G))) yc ((.ref i :: As).map (zV G)).toArray H := by
  intro H ls h1 hsz T locs k1 k2 hT X
  obtain ⟨⟨host, l1⟩, l2, l3, l4, l5⟩ := hL
  have hpl : (ke K).platform.magicAccessors = ({} : Platform).magicAccessors := by rw [X.admits.platform]
  obtain ⟨mk, methM, cM, kP, vm₁, hnamed, hmethM, hcodeM, -, hlocalsM, -, hkP, -, hW₁, hstep₁⟩ := Steps.initColdArgsNest (e := ke K) X.here C.1 X.warmed hpl C.own l3 l4 (C.ts _ l1) (C.ts _ l2) (C.ts _ hwd) (f := F0 (km K) pc ls ((As.reverse ++ .ref i :: st).map (zV G))) rfl (argsL := As.map (zV G)) (rest := st.map (zV G)) (a := zad G i)
    (fun sig hsig => by rw [List.length_map, hk]; exact z_len l5 hsig) (by simp [zV]) (by rw [C.2.1]; exact hd)
  have X₁ := X.noted hW₁
  exact ⟨vm₁, mk, X₁, X₁.named hnamed, hstep₁⟩
theorem z_objinit (C : zC G K y cc nL ret hs) (pc' : Nat) {i idx : Nat} (hd : decode cc pc = .ok (.invokespecial idx, 3)) (hp : pc + 3 = pc') (hl : Cond.methodLink y.cls idx Lib.objectInit ∈ zTb) (hi : Cond.instanceMethod Lib.objectInit ∈ zTb) (hc : Cond.code Lib.objectInit ⟨#[0xb1]⟩ 1 none ∈ zTb)
    (hf : 1 ≤ (kR K).frames) (hlo : (st.map fun v => v.category).sum + 12 ≤ (kR K).locals) (k : Z G K n σ k1 k2 pc' lv st) : Z G K n σ k1 k2 pc lv (.ref i :: st) := by
  subst hp
  intro H locs ls h1 h2 h3
  have hcat : ((st.map (zV G)).map fun v => v.category) = st.map fun v => v.category := by rw [List.map_map]; exact List.map_congr_left (fun v _ => zV_cat G v)
  exact W.objInit C.1 C.2.1 C.own (C.ts _ hl) (C.ts _ hi) (C.ts _ hc) (g := F0 (km K) pc ls (.ref (zad G i) :: st.map (zV G))) rfl h3.1 rfl hd hf (by
    show 2 * (F0 (km K) pc ls _).monitorRoom + ((st.map (zV G)).map fun v => v.category).sum + 12 ≤ _
    rw [hcat]
    have : (F0 (km K) pc ls (Value.ref (zad G i) :: st.map (zV G))).monitorRoom = 0 := rfl
    omega) (k H locs ls h1 h2 h3)
theorem z_ldc2 (C : zC G K y cc nL ret hs) (pc' : Nat) {idx : Nat} (v : Int64) (hd : decode cc pc = .ok (.ldc2_w idx, 3)) (hp : pc + 3 = pc') (hw : Cond.constantLong y.cls idx v ∈ zTb) (k : Z G K n σ k1 k2 pc' lv (.long v :: st)) : Z G K n σ k1 k2 pc lv st := by
  subst hp
  exact fun H locs ls h1 h2 h3 => lv_ldc2 C.1 C.2.1 C.own (C.ts _ hw) hd (k H locs ls h1 h2 h3)
theorem z_tableIn (C : zC G K y cc nL ret hs) (tgt : Nat) {dflt lo hi : Int} {offs : Array Int} {len : Nat} {x : Int32} {off : Int} (hd : decode cc pc = .ok (.tableswitch dflt lo hi offs, len)) (h1 : ¬ x.toInt < lo) (h2 : ¬ hi < x.toInt) (ho : offs[(x.toInt - lo).toNat]? = some off) (ht : (pc : Int) + off = (tgt : Int)) (k : Z G K n σ k1 k2 tgt lv st) : Z G K n σ k1 k2 pc lv (.int x :: st) :=
  fun H locs ls a b c => lv_tableIn C.1 C.2.1 hd h1 h2 ho ht (k H locs ls a b c)
theorem z_tableOut (C : zC G K y cc nL ret hs) (tgt : Nat) {dflt lo hi : Int} {offs : Array Int} {len : Nat} {x : Int32} (hd : decode cc pc = .ok (.tableswitch dflt lo hi offs, len)) (h : x.toInt < lo ∨ hi < x.toInt) (ht : (pc : Int) + dflt = (tgt : Int)) (k : Z G K n σ k1 k2 tgt lv st) : Z G K n σ k1 k2 pc lv (.int x :: st) :=
  fun H locs ls a b c => lv_tableOut C.1 C.2.1 hd h ht (k H locs ls a b c)
theorem z_lookup (C : zC G K y cc nL ret hs) (tgt : Nat) {dflt : Int} {ps : Array (Int × Int)} {len : Nat} {x : Int32} {off : Int} (hd : decode cc pc = .ok (.lookupswitch dflt ps, len)) (hp : (ps.toList.zip (ps.toList.drop 1)).all (fun (a, next) => a.1 < next.1) = true) (ho : Op.lookupswitch.offset ps.toList dflt x.toInt = off) (ht : (pc : Int) + off = (tgt : Int)) (k : Z G K n σ k1 k2 tgt lv st) : Z G K n σ k1 k2 pc lv (.int x :: st) :=
  fun H locs ls a b c => lv_lookup C.1 C.2.1 hd hp ho ht (k H locs ls a b c)
theorem z_arrlen (C : zC G K y cc nL ret hs) (pc' : Nat) {i t : Nat} {a : vp_A} {ty : FieldType} (ht : zTy[t]? = some ty) (hd : decode cc pc = .ok (.arraylength, 1)) (hp : pc + 1 = pc') (hi : i < n) (hσ : σ i = .inl (t, a)) (hz : (zA G a).1 = a.1)
    (k : Z G K n σ k1 k2 pc' lv (.int (nI a.1) :: st)) : Z G K n σ k1 k2 pc lv (.ref i :: st) := by
  subst hp
  intro H locs ls h1 h2 h3
  have hat := h1.2.2.2 i hi
  rw [hσ] at hat
  have kk := k H locs ls h1 h2 h3
  show W _ _ _ _ _ _ _ _ _ _ H locs k1 k2 _ (F0 _ pc ls (.ref (zad G i) :: st.map (zV G)))
  rw [zad_lt (Nat.lt_of_lt_of_le hi h1.2.1)]
  have htt : (zT G)[t]? = some (zcA G t, ty) := by
    unfold zT
    rw [List.getElem?_map, List.getElem?_zipIdx, ht]
    simp
  refine va_alen (D := zD G) (cl := zCl) (tys := zT G) (ws := [(zz G + i, zE G (.inl (t, a)))]) C.1 C.2.1 C.kk (fun k q hq => ?_) 0 t rfl htt (v := nI a.1) (by rw [hz]; rfl) hd kk
  cases k with
  | zero => cases hq; exact hat
  | succ k => cases hq
theorem z_aald (C : zC G K y cc nL ret hs) (pc' : Nat) {i t len : Nat} {j : Int32} {f : Nat → Option Nat} (jn : Nat) {ty : FieldType} (r : Option Nat) (hd : decode cc pc = .ok (.aaload, 1)) (hp : pc + 1 = pc') (hi : i < n) (hσ : σ i = .inl (t, len, .inr (.inr (.inr (.inr f))))) (ht : zTy[t]? = some ty) (hty : ty.isReference = true) (hj : j = nI jn) (hl : jn < len) (hs : len < 2 ^ 31) (hr : f jn = r)
    (k : Z G K n σ k1 k2 pc' lv (va_rf r :: st)) : Z G K n σ k1 k2 pc lv (.int j :: .ref i :: st) := by
  subst hp; subst hj; subst hr
  intro H locs ls h1 h2 h3
  have hat := h1.2.2.2 i hi
  rw [hσ] at hat
  have hcl : (nI jn).toNatClampNeg = jn := nI_clamp (Nat.lt_trans hl hs)
  have kk := k H locs ls h1 h2 h3
  show W _ _ _ _ _ _ _ _ _ _ H locs k1 k2 _ (F0 _ pc ls (.int (nI jn) :: .ref (zad G i) :: st.map (zV G)))
  rw [zad_lt (Nat.lt_of_lt_of_le hi h1.2.1)]
  have hc : H[zz G + i]? = some (vp_cell (zcA G t) (len, .inr (.inr (.inr (.inr (fun i => (f i).map (zad G))))))) := hat
  rw [vp_cell_q] at hc
  refine W.aald (v := zV G (va_rf (f jn))) (ty := ty) C.1 C.2.1 hc ((z_arrT C.kk ht).1 len (fun j => va_rf ((f j).map (zad G)))) hty (fun q => by cases q) (by rw [arrV_size]; exact vp_in_nI hl hs) (by rw [hcl, arrV_read _ _ hl, zV_rf]) rfl rfl hd kk
theorem z_anew (C : zC G K y cc nL ret hs) (pc' : Nat) {idx t : Nat} {j : Int32} {D : String} (len : Nat) (ht : zTy[t]? = some (.object D)) (hw : Cond.classLink y.cls idx D ∈ zTb) (ho : Cond.arrayOver (.object D) ∈ zTb) (hd : decode cc pc = .ok (.anewarray idx, 3)) (hp : pc + 3 = pc') (hj : j = nI len) (hs : len < 2 ^ 31) (hb : len * 4 ≤ 536870912) (hn : n < 1000000) (hc : k1 + 1 ≤ (kR K).cells) (hl : k2 + len ≤ (kR K).slots)
    (k : Z G K (n + 1) (va_up σ n (.inl (t, len, .inr (.inr (.inr (.inr (fun _ => none))))))) (k1 + 1) (k2 + len) pc' lv (.ref n :: st)) : Z G K n σ k1 k2 pc lv (.int j :: st) := by
  subst hp; subst hj
  intro H locs ls h1 h2 h3
  have hcl : (nI len).toNatClampNeg = len := nI_clamp hs
  refine W.anew C.1 C.2.1 C.own (C.ts _ hw) (C.ts _ ho) (g := F0 (km K) pc ls (.int (nI len) :: st.map (zV G))) rfl hd rfl (nI_pos hs) (by rw [hcl]; exact hb) hc (by rw [hcl]; exact hl) fun cA kA comp f1 f2 f3 f4 => ?_
  rw [hcl]
  obtain ⟨kA', comp', g1, g2, g3, g4⟩ := (z_arrT C.kk ht).2
  have hcA : cA = zcA G t := Option.some.inj (f1.symm.trans g4)
  subst hcA
  generalize hH1 : H.push ({ cls := zcA G t, slots := Array.replicate len .null, vm := .none } : Cell) = H1
  have z1 : H1.size = H.size + 1 := by rw [← hH1, Array.size_push]
  have e1 : H1[H.size]? = some (arrV (zcA G t) len (fun _ => .null)) := by rw [← hH1, Array.getElem?_push_size, ← arrV_new]
  have o1 : ∀ q : Nat, q < H.size → H1[q]? = H[q]? := fun q hq => by rw [← hH1, Array.getElem?_push, if_neg (Nat.ne_of_lt hq)]
  have hat : va_at (zD G) zCl (zz G + n, zE G (.inl (t, len, .inr (.inr (.inr (.inr (fun _ => none))))))) H1 := by
    show H1[zz G + n]? = some (vp_cell (zcA G t) (len, .inr (.inr (.inr (.inr (fun i => (none : Option Nat).map (zad G)))))))
    rw [vp_cell_q, ← h1.1]
    exact e1
  have kk := k H1 locs ls (h1.push hn z1 o1 hat) h2 h3
  have e : (.ref H.size : Value) = zV G (.ref n) := by show _ = Value.ref (zad G n); rw [zad_lt hn, h1.1]
  show W _ _ _ _ _ _ _ _ _ _ H1 locs (k1 + 1) (k2 + len) _ (F0 _ (pc + 3) ls (.ref H.size :: st.map (zV G)))
  rw [e]
  exact kk
theorem z_aast (C : zC G K y cc nL ret hs) (pc' : Nat) {i t len x ci : Nat} {j : Int32} {f : Nat → Option Nat} {D : String} {T0 : u_T} {N : Nat} {vs : List Value} (jn : Nat) (hd : decode cc pc = .ok (.aastore, 1)) (hp : pc + 1 = pc') (hi : i < n) (hσ : σ i = .inl (t, len, .inr (.inr (.inr (.inr f))))) (ht : zTy[t]? = some (.object D)) (hx : x < n) (hσx : σ x = .inr (ci, vs)) (hcl : zCl[ci]? = some (D, T0, N)) (hj : j = nI jn) (hl : jn < len) (hs : len < 2 ^ 31)
    (k : Z G K n (va_up σ i (.inl (t, len, .inr (.inr (.inr (.inr (va_up f jn (some x)))))))) k1 k2 pc' lv st) : Z G K n σ k1 k2 pc lv (.ref x :: .int j :: .ref i :: st) := by
  subst hp; subst hj
  intro H locs ls h1 h2 h3
  have hat := h1.2.2.2 i hi
  rw [hσ] at hat
  have hax := h1.2.2.2 x hx
  rw [hσx] at hax
  have hcn : (nI jn).toNatClampNeg = jn := nI_clamp (Nat.lt_trans hl hs)
  show W _ _ _ _ _ _ _ _ _ _ H locs k1 k2 _ (F0 _ pc ls (.ref (zad G x) :: .int (nI jn) :: .ref (zad G i) :: st.map (zV G)))
  rw [zad_lt (Nat.lt_of_lt_of_le hi h1.2.1), zad_lt (Nat.lt_of_lt_of_le hx h1.2.1)]
  have hc : H[zz G + i]? = some (vp_cell (zcA G t) (len, .inr (.inr (.inr (.inr (fun i => (f i).map (zad G))))))) := hat
  rw [vp_cell_q] at hc
  obtain ⟨r', hr', cellV, g1, g2, g3, -⟩ := hax
  have hcls := (C.kk.1 ci _ hcl).2
  obtain ⟨kA, comp, e1, e2, e3, -⟩ := (z_arrT C.kk ht).2
  have hcomp : comp = (zD G).1 ci := Option.some.inj (e3.symm.trans hcls.1)
  subst hcomp
  obtain ⟨kC, hkC, -⟩ := hcls.2
  refine W.aast C.1 C.2.1 hc (fun q h => by cases h) (fun h => by cases h) e1 e2 rfl hkC ⟨nI_pos (Nat.lt_trans hl hs), by rw [arrV_size, hcn]; exact hl⟩ g1 (fun q h => by rw [g3] at h; cases h) (by rw [g2]; exact hkC) (by rw [g2]; exact va_assign hcls) rfl rfl hd fun H1 e z oq => ?_
  refine k H1 _ ls (h1.set z oq ?_) (z_locs h2 _ _) h3
  show H1[zz G + i]? = some (vp_cell (zcA G t) (len, .inr (.inr (.inr (.inr (fun i => (va_up f jn (some x) i).map (zad G)))))))
  rw [e, hcn, vp_cell_q, arrV_store]
  congr 2
  funext q
  by_cases hq : q = jn
  · subst hq
    simp [updV, va_up, va_rf, zad_lt (Nat.lt_of_lt_of_le hx h1.2.1)]
  · simp [updV, va_up, hq]
theorem z_aastN (C : zC G K y cc nL ret hs) (pc' : Nat) {i t len : Nat} {j : Int32} {f : Nat → Option Nat} {D : String} (jn : Nat) (hd : decode cc pc = .ok (.aastore, 1)) (hp : pc + 1 = pc') (hi : i < n) (hσ : σ i = .inl (t, len, .inr (.inr (.inr (.inr f))))) (ht : zTy[t]? = some (.object D)) (hj : j = nI jn) (hl : jn < len) (hs : len < 2 ^ 31)
    (k : Z G K n (va_up σ i (.inl (t, len, .inr (.inr (.inr (.inr (va_up f jn none))))))) k1 k2 pc' lv st) : Z G K n σ k1 k2 pc lv (.null :: .int j :: .ref i :: st) := by
  subst hp; subst hj
  intro H locs ls h1 h2 h3
  have hat := h1.2.2.2 i hi
  rw [hσ] at hat
  have hcn : (nI jn).toNatClampNeg = jn := nI_clamp (Nat.lt_trans hl hs)
  show W _ _ _ _ _ _ _ _ _ _ H locs k1 k2 _ (F0 _ pc ls (.null :: .int (nI jn) :: .ref (zad G i) :: st.map (zV G)))
  rw [zad_lt (Nat.lt_of_lt_of_le hi h1.2.1)]
  have hc : H[zz G + i]? = some (vp_cell (zcA G t) (len, .inr (.inr (.inr (.inr (fun i => (f i).map (zad G))))))) := hat
  rw [vp_cell_q] at hc
  refine va_WaastN (C := D) C.1 C.2.1 hc ((z_arrT C.kk ht).1 len (fun j => va_rf ((f j).map (zad G)))) (fun h => by cases h) (by rw [arrV_size]; exact vp_in_nI hl hs) rfl rfl hd fun H1 e z oq => ?_
  refine k H1 _ ls (h1.set z oq ?_) (z_locs h2 _ _) h3
  show H1[zz G + i]? = some (vp_cell (zcA G t) (len, .inr (.inr (.inr (.inr (fun i => (va_up f jn none i).map (zad G)))))))
  rw [e, hcn, vp_cell_q, arrV_store]
  congr 2
  funext q
  by_cases hq : q = jn
  · subst hq
    simp [updV, va_up, va_rf]
  · simp [updV, va_up, hq]
theorem z_arrc {c : ClassId} {N : Nat} {f g : Nat → Value} (h : ∀ j, j < N → f j = g j) : arrV c N f = arrV c N g := by
  unfold arrV
  congr 1
  exact congrArg Array.ofFn (funext fun j => h j.val j.isLt)
/-- new long[N][M] -/
def zrow (σ : zS) (n N M : Nat) : zS := fun i => if i < n then σ i else if i = n then .inl (6, N, .inr (.inr (.inr (.inr (fun j => if j < N then some (n + 1 + j) else none))))) else .inl (1, M, .inr (.inl (fun _ => 0)))
theorem z_outer (c : ClassId) (N h0 : Nat) : ∀ i : Nat, Jvm.Free.Multi.outerC c N h0 i = arrV c N (fun j => va_rf (if j < i then some (h0 + 1 + j) else none))
  | 0 => by
    show ({ cls := c, slots := Array.replicate N .null, vm := .none } : Cell) = _
    rw [arrV_new]
    exact congrArg (arrV c N) (funext fun j => by simp [va_rf])
  | i + 1 => by
    show (Jvm.Free.Multi.outerC c N h0 i).setSlot i (.ref (h0 + 1 + i)) = _
    rw [z_outer c N h0 i, arrV_store]
    refine congrArg (arrV c N) (funext fun j => ?_)
    by_cases e : j = i
    · subst e; simp [updV, va_rf]
    · by_cases h : j < i
      · simp [updV, e, h, Nat.lt_succ_of_lt h]
      · simp [updV, e, h, show ¬ j < i + 1 by omega]
theorem z_mna (C : zC G K y cc nL ret hs) (pc' : Nat) {idx : Nat} {a b : Int32} (N M : Nat) (hd : decode cc pc = .ok (.multianewarray idx 2, 4)) (hp : pc + 4 = pc') (w1 : Cond.classLink y.cls idx "[[J" ∈ zTb) (w2 : Cond.arrayOver (.array .long) ∈ zTb) (w3 : Cond.arrayClass .long ∈ zTb) (ha : a = nI N) (hb : b = nI M) (hN : N < 1000) (hM : M < 1000) (hn : n + 1 + N ≤ 1000000) (hc : k1 + (1 + N) ≤ (kR K).cells) (hl : k2 + (N + N * M) ≤ (kR K).slots)
    (k : Z G K (n + 1 + N) (zrow σ n N M) (k1 + 1 + N) (k2 + N + N * M) pc' lv (.ref n :: st)) : Z G K n σ k1 k2 pc lv (.int b :: .int a :: st) := by
  subst hp; subst ha; subst hb
  intro H locs ls h1 h2 h3 T hT X
  have cN : (nI N).toNatClampNeg = N := nI_clamp (by omega)
  have cM : (nI M).toNatClampNeg = M := nI_clamp (by omega)
  obtain ⟨vm₁, cA, comp, -, fA, fC, hO, -, X', step⟩ := X.multianewarray2F (ty := .long) C.1 C.own (C.ts _ w1) (C.ts _ w2) (C.ts _ w3) (g := F0 (km K) pc ls (.int (nI M) :: .int (nI N) :: st.map (zV G))) rfl (by rw [C.2.1]; exact hd) rfl (nI_pos (by omega)) (nI_pos (by omega)) (by rw [cN]; omega) (by rw [cM]; show M * 8 ≤ _; omega) (by rw [cM]; omega) rfl rfl (by rw [cN]; exact hc) (by rw [cN, cM]; exact hl)
  rw [cN, cM] at X' step
  have hcA : cA = zcA G 6 := Option.some.inj (fA.symm.trans (z_arrT C.kk (t := 6) rfl).2)
  have hcm : comp = zcA G 1 := Option.some.inj (fC.symm.trans (z_arrT C.kk (t := 1) rfl).2)
  subst hcA; subst hcm
  have hTh : (T.setVm vm₁).heap = H := hT
  generalize hF : Jvm.Free.Multi.fill (T.setVm vm₁) (zcA G 6) (zcA G 1) N M (defaultValue .long) N = F at X' step
  obtain ⟨f1, f2, -, -⟩ := Jvm.Free.Multi.fill_facts (T.setVm vm₁) (zcA G 6) (zcA G 1) N M (defaultValue .long) N
  rw [hF, hTh] at f1 f2
  have hold : ∀ x : Nat, x < H.size → F.heap[x]? = H[x]? := fun x hx => by
    have := Jvm.Free.Multi.fill_old (T.setVm vm₁) (zcA G 6) (zcA G 1) N M (defaultValue .long) (a := x) (by rw [hTh]; exact hx) N
    rw [hF, hTh] at this
    exact this
  have hrow : ∀ j : Nat, j < N → F.heap[H.size + 1 + j]? = some (arrV (zcA G 1) M (fun _ => .long 0)) := fun j hj => by
    have := Jvm.Free.Multi.fill_inner (T.setVm vm₁) (zcA G 6) (zcA G 1) N M (defaultValue .long) N j hj
    rw [hF, hTh] at this
    rw [this]
    show some ({ cls := zcA G 1, slots := Array.replicate M (.long 0), vm := .none } : Cell) = _
    rw [arrV_new]
  rw [z_outer] at f2
  have hsz := h1.1
  have hHW : zHW G (n + 1 + N) (zrow σ n N M) F.heap := by
    refine ⟨by omega, hn, fun q hq => (hold q (by omega)).trans (h1.2.2.1 q hq), fun i hi => ?_⟩
    by_cases e1 : i < n
    · rw [show zrow σ n N M i = σ i from if_pos e1]
      exact (h1.2.2.2 i e1).kept (hold _ (by show zz G + i < H.size; omega))
    · by_cases e2 : i = n
      · subst e2
        rw [show zrow σ i N M i = .inl (6, N, .inr (.inr (.inr (.inr (fun j => if j < N then some (i + 1 + j) else none))))) from (if_neg e1).trans (if_pos rfl)]
        show F.heap[zz G + i]? = some (vp_cell (zcA G 6) (N, .inr (.inr (.inr (.inr (fun j => (if j < N then some (i + 1 + j) else none).map (zad G)))))))
        rw [vp_cell_q, ← hsz, f2]
        refine congrArg some (z_arrc ?_)
        intro j hj
        simp only [if_pos hj, Option.map_some, va_rf]
        have hza : zad G (i + 1 + j) = H.size + 1 + j := by rw [zad_lt (by omega)]; omega
        rw [hza]
      · rw [show zrow σ n N M i = .inl (1, M, .inr (.inl (fun _ => 0))) from (if_neg e1).trans (if_neg e2)]
        show F.heap[zz G + i]? = some (vp_cell (zcA G 1) (M, .inr (.inl (fun _ => 0))))
        rw [vp_cell_l, ← hrow (i - (n + 1)) (by omega)]
        congr 1
        omega
  obtain ⟨t, a1, b1⟩ := k F.heap locs ls hHW h2 h3 F rfl X'
  refine ⟨t, step t ?_, b1⟩
  have e : (.ref T.heap.size : Value) = zV G (.ref n) := by show _ = Value.ref (zad G n); rw [zad_lt (by omega), hT, hsz]
  rw [e]
  exact a1
end ZO
end
section
section ZTH
variable {G : zG} {K : zK} {y : MethodName} {cc : ByteArray} {nL : Nat} {ret : Option FieldType} {hs : List (Nat × Nat × Nat × Nat)} {n k1 k2 pc : Nat} {σ : zS} {lv : List (Nat × Value)} {st : List Value}
theorem z_out {pc9 : Nat} (C : zC G K y cc nL ret hs) (hout : ∀ h ∈ hs, (decide (h.1 ≤ pc9) && decide (pc9 < h.2.1)) = false) : ∀ z ∈ (kc K).exceptionTable.toList, covers z pc9 = false := fun z hz => by
  have h9 : (z.startPc, z.endPc, z.handlerPc, z.catchType) ∈ hs := by rw [← C.tab]; exact List.mem_map.mpr ⟨z, hz, rfl⟩
  exact hout _ h9
set_option maxHeartbeats 1000000 in
/-- throw new E("text") -/
theorem z_throwS (C : zC G K y cc nL ret hs) {ci ik is ic : Nat} {cls text : String} {names : List String} {T0 : u_T}
    (hcl : zCl[ci]? = some (cls, T0, 0)) (hfit : Bundle.fit cls = true) (hnames : ∀ n ∈ names, Bundle.fit n = true)
    (hk : Cond.classLink y.cls ik cls ∈ zTb) (hini : Cond.initialized cls ∈ zTb) (hstr : (y.cls, is, text) ∈ zStr) (hat : ∀ w ∈ vx_atS y.cls ic cls names, w ∈ zTb)
    (d0 : decode cc pc = .ok (.new ik, 3)) (d3 : decode cc (pc + 3) = .ok (.dup, 1)) (d4 : decode cc (pc + 4) = .ok (.ldc is, 2)) (d6 : decode cc (pc + 6) = .ok (.invokespecial ic, 3)) (d9 : decode cc (pc + 9) = .ok (.athrow, 1))
    (hout : ∀ h ∈ hs, (decide (h.1 ≤ pc + 9) && decide (pc + 9 < h.2.1)) = false)
    (hRf : names.length + 3 < (kR K).frames) (hRl : (st.map fun v => v.category).sum + (13 * (names.length + 1) + 43) ≤ (kR K).locals) (hn : n < 1000000) (hc : k1 + 1 ≤ (kR K).cells) (hl : k2 + 6 ≤ (kR K).slots) (hmc : k1 + 1 ≤ kmc K) (hms : k2 + 6 ≤ kms K)
    (hq : kpo K (.threw n) (n + 1) (va_up σ n (.inr (ci, [])))) : Z G K n σ k1 k2 pc lv st := by
  intro H locs ls h1 h2 h3 T hT X
  have htr : (ke K).platform.stackTraces = false := (show (ke K).platform.stackTraces = (kl K).stackTraces by rw [X.admits.platform]).trans C.tr
  have Y := vx_rebase X (R' := { frames := (kR K).frames, locals := (kR K).locals, cells := 1, slots := 6 }) (Nat.le_refl _) (Nat.le_refl _) hc hl
  obtain ⟨s', hA⟩ : ∃ z, z = (T.setVm (ks K).vm).setFrames (.invoking (km K) (ka K) :: (kb K)) := ⟨_, rfl⟩
  rw [← hA] at Y
  have hvm : s'.vm = (ks K).vm := by rw [hA]; rfl
  have hhp : s'.heap = H := by rw [hA]; exact hT
  have hW0 : (ks K).WarmedH s'.vm := by rw [hvm]; exact State.WarmedH.refl _
  have hts' : ∀ w ∈ zTb, w.before (ka K) s' = true := fun w hw => zok_at hW0 (zt_ok w hw) (C.ts w hw)
  have hS' : zStat G s' := zStat.moved hW0 (fun q hq => by rw [hhp]; exact h1.2.2.1 q hq) C.stat
  have h : ∀ w ∈ Bundle.ownAtoms y.cls ic cls names, w.before (ka K) s' = true := vx_own (fun w hw => hts' w (hat w hw)) (vx_isRefq hS'.2.1.1) (vx_isRefq hS'.2.2.1.1) hS'.2.1.2.word hS'.2.2.1.2.word
  have hown' : s'.vm.findClass y.cls = some (km K).cls := by rw [hvm]; exact C.own
  have hins : (Cond.instantiable cls 6).before (ka K) s' = true := h _ (by simp [Bundle.ownAtoms])
  obtain ⟨sa, hsa⟩ := hS'.2.2.2.1 _ hstr
  obtain ⟨vm₁, cX, kX, hfX, hkX, -, -, X₁, st1⟩ := Y.newCold C.1 (own := y.cls) (C := cls) (index := ik) (n := 6) hown' (hts' _ hk) hins (hts' _ hini)
    (g := F0 (km K) pc ls (st.map (zV G))) rfl (by rw [C.2.1]; exact d0) (Nat.le_refl _) (Nat.le_refl _)
  generalize hT1 : (T.setVm vm₁).pushCell { cls := cX, slots := kX.instanceTypes.map defaultValue, vm := .none } = T1 at X₁ st1
  have hcat : (Value.ref T.heap.size).category = 1 := rfl
  have hcm : ((st.map (zV G)).map fun v => v.category) = st.map fun v => v.category := by rw [List.map_map]; exact List.map_congr_left (fun v _ => zV_cat G v)
  have hcellA : T1.heap[T.heap.size]? = some (freshCell cX kX) := by rw [← hT1]; exact State.heap_pushCell_size _ _
  have d3' : decode (kc K).code (pc + 3) = .ok (.dup, 1) := by rw [C.2.1]; exact d3
  have d4' : decode (kc K).code (pc + 4) = .ok (.ldc is, 2) := by rw [C.2.1]; exact d4
  obtain ⟨U, hsteps, hrun, hend, hW, hsame, ce, hce, hO⟩ := X₁.ctorThrowS C.1 htr (own := y.cls) (cls := cls) (names := names) (ic := ic) hown' hfit hnames h (fun x hx => nomatch hx) hfX hkX hcellA (by rw [hhp, hT]; exact Nat.le_refl _) (msg := .ref sa) rfl
    (g := { method := km K, pc := pc + 6, locals := ls, stack := .ref sa :: .ref T.heap.size :: .ref T.heap.size :: st.map (zV G), locked := none }) rfl h3.1 rfl rfl (rest := st.map (zV G)) rfl
    (by rw [C.2.1]; exact d6) (by rw [C.2.1]; exact d9) (z_out C hout) hRf (by
      have hm0 : (({ method := km K, pc := pc + 6, locals := ls, stack := .ref sa :: .ref T.heap.size :: .ref T.heap.size :: st.map (zV G), locked := none } : JFrame)).monitorRoom = 0 := rfl
      simp only [List.map_cons, List.sum_cons, hcat, hcm, hm0]
      omega) C.lk
  obtain ⟨f1, f2⟩ := vx_frame hsame
  rw [hhp] at f1 f2
  have hTn : T.heap.size = zz G + n := by rw [hT]; exact h1.1
  have hzn : zad G n = zz G + n := zad_lt hn
  have hU : U.heap.size = H.size + 1 := by
    have a1 : U.heap.size ≤ s'.heap.size + (0 + 1) := hsame.2.2.1
    have a2 := (Array.getElem?_eq_some_iff.mp hce).1
    rw [hhp] at a1
    rw [hT] at a2
    omega
  have hWs : (ks K).WarmedH U.vm := State.WarmedH.trans hW0 hW
  have hce' : U.heap[zz G + n]? = some ce := by rw [← hTn]; exact hce
  have hat9 : va_at (zD G) zCl (zz G + n, zE G (.inr (ci, []))) U.heap := by
    refine ⟨_, hcl, ce, hce', ?_, hO.vm, fun k hk => absurd hk (Nat.not_lt_zero _)⟩
    have h9 := hO.cls
    rw [hvm] at h9
    exact Option.some.inj (h9.symm.trans (C.kk.1 ci _ hcl).2.1)
  have hall : (ks K).sameButNew ({ U with vm := (ks K).vm } : State) locs (kmc K) (kms K) := by
    subst hA
    obtain ⟨e1, e2⟩ := hsame
    rw [State.setFrames_setFrames] at e1
    have h2 : (T.setVm (ks K).vm).sameButNew ({ U with vm := (ks K).vm } : State) [] (0 + 1) (0 + 6) := ⟨e1, e2⟩
    have h3 := X.same.trans h2
    rw [List.append_nil] at h3
    exact h3.mono hmc hms
  refine ⟨U, ?_, .threw T.heap.size, hrun, hend, ⟨.threw n, n + 1, _, by show _ = Outcome.threw (zad G n); rw [hTn, hzn], hq, h1.push hn hU (fun q hq => f2 q hq (fun z hz => nomatch hz)) hat9⟩, locs, ⟨hWs, hall⟩, h2⟩
  refine st1 _ ?_
  show Steps (kp K).tables (ke K) (kb K) (T1.setTop { method := km K, pc := pc + 3, locals := ls, stack := .ref T.heap.size :: st.map (zV G), locked := none }) _
  jvm_step X₁.here [X₁.here.top, C.1, d3', Value.category]
  exact X₁.ldcString C.1 (own := y.cls) (text := text) (index := is) (a := sa) hown' hsa.1 hsa.2
    (g := { method := km K, pc := pc + 4, locals := ls, stack := .ref T.heap.size :: .ref T.heap.size :: st.map (zV G), locked := none }) rfl d4' _ hsteps
/-- caught by the row hh of the method's table, behind rows that don't take it -/
theorem zx_catch (C : zC G K y cc nL ret hs) {x ci : Nat} {E name : String} {T0 : u_T} {N : Nat} {fs : List Value} (pre : List (Nat × Nat × Nat × Nat)) (hh : Nat × Nat × Nat × Nat) (suf : List (Nat × Nat × Nat × Nat)) (hsp : hs = pre ++ hh :: suf)
    (hi : x < n) (hσ : σ x = .inr (ci, fs)) (hcl : zCl[ci]? = some (E, T0, N))
    (hpass : ∀ z ∈ pre, (decide (z.1 ≤ pc) && decide (pc < z.2.1)) = false ∨ (z.2.2.2 ≠ 0 ∧ ∃ nm, Cond.classLink y.cls z.2.2.2 nm ∈ zTb ∧ (E, nm) ∈ zNcs)) (hcov : (decide (hh.1 ≤ pc) && decide (pc < hh.2.1)) = true) (h0 : hh.2.2.2 ≠ 0)
    (hlink : Cond.classLink y.cls hh.2.2.2 name ∈ zTb) (hcast : Cond.castable E name ∈ zTb) (kk : Z G K n σ k1 k2 hh.2.2.1 lv [.ref x]) : ZX G K n σ k1 k2 pc lv st x := by
  intro H locs ls h1 h2 h3 T hT X
  have hpl : (ke K).platform.magicAccessors = ({} : Platform).magicAccessors := by rw [X.admits.platform]
  have hat := h1.2.2.2 x hi
  rw [hσ] at hat
  obtain ⟨r, r1, ce, z1, z2, z3, -⟩ := hat
  have hcls : (ks K).vm.findClass E = some ce.cls := by rw [z2]; exact (C.kk.1 ci _ hcl).2.1
  have hza : zad G x = zz G + x := zad_lt (Nat.lt_of_lt_of_le hi h1.2.1)
  have hcell : T.heap[zad G x]? = some ce := by rw [hT, hza]; exact z1
  obtain ⟨c3, c4, hc3, hc4, hasg⟩ := Cond.castable_spec (C.ts _ hcast)
  cases Option.some.inj (hc3.symm.trans hcls)
  obtain ⟨c5, hc5, hcl5⟩ := Cond.classLink_spec C.own (C.ts _ hlink) (ke K).platform hpl
  cases Option.some.inj (hc4.symm.trans hc5)
  have hm := C.tab
  rw [hsp] at hm
  obtain ⟨preT, restT, e1, e2, e3⟩ := List.map_eq_append_iff.mp hm
  obtain ⟨xT, sufT, e4, e5, e6⟩ := List.map_eq_cons_iff.mp e3
  subst e5
  obtain ⟨vm', X', st'⟩ := X.thenCaughtThrough (zad G x) (g := F0 (km K) pc ls (st.map (zV G))) rfl (Steps.refl _) hcell (by rw [z3]; rfl) (by obtain ⟨k9, h9, -⟩ := Vm.findClass_spec hcls; exact ⟨k9, h9⟩) preT xT sufT (by rw [e1, e4])
    (fun z hz => by
      rcases hpass _ (by rw [← e2]; exact List.mem_map.mpr ⟨z, hz, rfl⟩) with h | ⟨hz0, nm, hl1, hn1⟩
      · exact Or.inl h
      · obtain ⟨c6, hc6, hcl6⟩ := Cond.classLink_spec C.own (C.ts _ hl1) (ke K).platform hpl
        obtain ⟨a8, b8, q1, q2, q3⟩ := C.stat.2.2.2.2.1 _ hn1
        cases Option.some.inj (q1.symm.trans hcls)
        cases Option.some.inj (q2.symm.trans hc6)
        exact Or.inr ⟨hz0, _, hcl6, q3⟩) hcov (Or.inr ⟨h0, c4, hcl5, hasg⟩)
  obtain ⟨t, a1, b1⟩ := kk H locs ls h1 h2 h3 (T.setVm vm') hT X'
  exact ⟨t, st'.trans a1, b1⟩
end ZTH
end
section
/-! the forms' statics, their ordinals, the switches' map -/
section ZFO
variable {G : zG} {K : zK} {y : MethodName} {cc : ByteArray} {nL : Nat} {ret : Option FieldType} {hs : List (Nat × Nat × Nat × Nat)} {n k1 k2 pc : Nat} {σ : zS} {lv : List (Nat × Value)} {st : List Value}
theorem zad_old (G : zG) {i : Nat} (h : 1000000 ≤ i) : zad G i = zo G i := if_neg (Nat.not_lt.mpr h)
theorem zC.form (C : zC G K y cc nL ret hs) : zForm G (ks K) := C.stat.2.2.2.2.2
theorem zC.old (C : zC G K y cc nL ret hs) {H : Heap} (h1 : zHW G n σ H) {a : Nat} (ha : a < zz G) : H[a]? = (ks K).heap[a]? := (h1.2.2.1 a ha).trans (C.stat.1 a ha).symm
theorem z_getsF (C : zC G K y cc nL ret hs) (pc' j : Nat) {idx : Nat} (hj : j < 14) (hl : Cond.fieldLink y.cls idx "SoleArrays$Form" (zFm j) "LSoleArrays$Form;" ∈ zTb) (hd : decode cc pc = .ok (.getstatic idx, 3)) (hp : pc + 3 = pc') (k : Z G K n σ k1 k2 pc' lv (.ref (1000001 + j) :: st)) : Z G K n σ k1 k2 pc lv st := by
  subst hp
  intro H locs ls h1 h2 h3
  obtain ⟨⟨cf, kf, fi, f, a, cell, g1, g2, g3, g4, g5, g6, g7, g8⟩, -, -⟩ := C.form.1 j hj
  have kk := k H locs ls h1 h2 h3
  have e : zV G (.ref (1000001 + j)) = .ref (zo G (1000001 + j)) := by show Value.ref (zad G (1000001 + j)) = _; rw [zad_old G (by omega)]
  rw [List.map_cons, e] at kk
  exact W.gets C.1 C.2.1 C.own (C.ts _ hl) g1 g2 g3 g4 (by rw [C.old h1 (Nat.lt_of_not_le g8)]; exact g5) (fun e => by rw [e] at g6; cases g6) g7 rfl hd kk
theorem z_getsM (C : zC G K y cc nL ret hs) (pc' : Nat) {idx : Nat} (hl : Cond.fieldLink y.cls idx "SoleArrays$1" "$SwitchMap$SoleArrays$Form" "[I" ∈ zTb) (hd : decode cc pc = .ok (.getstatic idx, 3)) (hp : pc + 3 = pc') (k : Z G K n σ k1 k2 pc' lv (.ref 1000015 :: st)) : Z G K n σ k1 k2 pc lv st := by
  subst hp
  intro H locs ls h1 h2 h3
  obtain ⟨cf, kf, fi, f, a, cell, g1, g2, g3, g4, g5, g6, g7, g8⟩ := C.form.2.1
  have kk := k H locs ls h1 h2 h3
  have e : zV G (.ref 1000015) = .ref (zo G 1000015) := by show Value.ref (zad G 1000015) = _; rw [zad_old G (by omega)]
  rw [List.map_cons, e] at kk
  exact W.gets C.1 C.2.1 C.own (C.ts _ hl) g1 g2 g3 g4 (by rw [C.old h1 (Nat.lt_of_not_le g8)]; exact g5) (fun e => by rw [e] at g6; cases g6) g7 rfl hd kk
theorem z_ialdM (C : zC G K y cc nL ret hs) (pc' j : Nat) (hj : j < 14) (hd : decode cc pc = .ok (.iaload, 1)) (hp : pc + 1 = pc') (k : Z G K n σ k1 k2 pc' lv (.int (zSw j) :: st)) : Z G K n σ k1 k2 pc lv (.int (nI j) :: .ref 1000015 :: st) := by
  subst hp
  intro H locs ls h1 h2 h3
  obtain ⟨cell, g1, g2, g3, g4, g5, g6, g7⟩ := C.form.2.2
  have kk := k H locs ls h1 h2 h3
  have e : zad G 1000015 = zo G 1000015 := zad_old G (by omega)
  show W _ _ _ _ _ _ _ _ _ _ H locs k1 k2 _ (F0 _ pc ls (.int (nI j) :: .ref (zad G 1000015) :: st.map (zV G)))
  rw [e]
  have hcl : (nI j).toNatClampNeg = j := nI_clamp (by omega)
  refine W.iald (v := .int (zSw j)) C.1 C.2.1 (by rw [C.old h1 (Nat.lt_of_not_le g7)]; exact g1) g2 g3 (fun q => ?_) (by rw [hcl]; exact g6 _ hj) rfl rfl hd kk
  rcases q with q | q
  · exact nI_pos (by omega) q
  · rw [hcl] at q
    omega
abbrev y_ord : MethodName := ⟨"java/lang/Enum", "ordinal", "()I"⟩
abbrev b_ord : ByteArray := prog_14_method_2_code
theorem d_ord_0 : decode b_ord 0 = .ok (.aload_n 0, 1) := by decide +kernel
theorem d_ord_1 : decode b_ord 1 = .ok (.getfield 7, 3) := by decide +kernel
theorem d_ord_4 : decode b_ord 4 = .ok (.ireturn, 1) := by decide +kernel
theorem w_ord : zWd y_ord b_ord 1 (some .int) [] ∈ zTb := zt3 127 (by decide +kernel) rfl
theorem f_ord : Cond.fieldLink "java/lang/Enum" 7 "java/lang/Enum" "ordinal" "I" ∈ zTb := zt5 168 (by decide +kernel) rfl
theorem o_same : Cond.sameMethod "SoleArrays$Form" "java/lang/Enum" "ordinal" "()I" ∈ zTb := zt3 123 (by decide +kernel) rfl
theorem o_decl : Cond.declares y_ord ∈ zTb := zt3 124 (by decide +kernel) rfl
theorem o_sel : Cond.selects "SoleArrays$Form" ⟨"SoleArrays$Form", "ordinal", "()I"⟩ y_ord ∈ zTb := zt3 125 (by decide +kernel) rfl
theorem o_inst : Cond.instanceMethod y_ord ∈ zTb := zt3 126 (by decide +kernel) rfl
theorem c_ord {l : Launch} {j : Nat} (hj : j < 14) : MetZ G l y_ord b_ord 1 (some .int) [] 0 0 0 [.ref (1000001 + j)] n σ (fun o n' σ' => o = .returned (some (.int (nI j))) ∧ n' = n ∧ σ' = σ) := by
  refine MetZ.of (by decide) (Nat.le_of_ble_eq_true rfl) (fun K hK hR hpo hmc hms C => ?_)
  refine z_aload_n C 1 d_ord_0 rfl rfl ?_
  have k : Z G K n σ 0 0 4 (lv_args 0 [.ref (1000001 + j)]) [.int (nI j)] := z_iret C rfl d_ord_4 (by rw [hpo]; exact ⟨rfl, rfl, rfl⟩) (by rw [hmc]; omega) (by rw [hms]; omega)
  intro H locs ls h1 h2 h3
  obtain ⟨-, g2, cell, cf, i, kf, fd, g3, g4, g5, g6, g7, g8, g9⟩ := C.form.1 j hj
  have kk := k H locs ls h1 h2 h3
  show W _ _ _ _ _ _ _ _ _ _ H locs 0 0 _ (F0 _ 1 ls [.ref (zad G (1000001 + j))])
  rw [zad_old G (by omega)]
  exact W.getf C.1 C.2.1 C.own (C.ts _ f_ord) g7 g8 (by rw [C.old h1 g2]; exact g3) g4 g9 rfl rfl d_ord_1 kk
theorem z_goU (C : zC G K y cc nL ret hs) {idx j : Nat} (hj : j < 14) (hl : Cond.methodLink y.cls idx ⟨"SoleArrays$Form", "ordinal", "()I"⟩ ∈ zTb) (hd : decode cc pc = .ok (.invokevirtual idx, 3)) :
    ∀ (H : Heap) (ls : Array Slot), zHW G n σ H → ls.size = (kc K).maxLocals → zGo K (F0 (km K) pc ls ((.ref (1000001 + j) :: st).map (zV G))) (F0 (km K) pc ls (st.map (zV G))) y_ord (([.ref (1000001 + j)] : List Value).map (zV G)).toArray H := by
  intro H ls h1 hsz T locs k1 k2 hT X
  obtain ⟨-, g2, cell, cf, i, kf, fd, g3, g4, g5, g6, g7, g8, g9⟩ := C.form.1 j hj
  obtain ⟨r0, r, hn, hrm, hstR, hsigR⟩ := va_Decl.of (b := b_ord) (m := 1) (ret := some .int) (C.ts _ o_inst) (C.ts _ w_ord)
  obtain ⟨cn, ck, r1, hcn, hck, hni, hf, hn1⟩ := Cond.sameMethod_found (C.ts _ o_same)
  cases hn.symm.trans hn1
  obtain ⟨mk, methM, hnamed, hmethM, -, habM⟩ := Cond.instanceMethod_spec (C.ts _ o_inst)
  obtain ⟨c2, r2, m2, q1, q2, q3, q4, kP, hkP, hkPi⟩ := Cond.selects_spec (C.ts _ o_sel)
  cases g6.symm.trans q1
  cases hf.symm.trans q2
  cases hnamed.symm.trans q3
  have hselP : selectMethod (ke K).platform (ks K).vm cell.cls r0 = .method mk := by rw [Launch.admits_selectMethod X.admits]; exact q4
  obtain ⟨vm₁, X₁, hstep₁⟩ := X.invokevirtualUp C.1 C.own (C.ts _ hl) (C.ts _ o_same) ⟨by decide, by decide⟩ hn hrm hstR (a := zad G (1000001 + j)) (cell := cell) (by rw [hT, zad_old G (by omega), C.old h1 g2]; exact g3)
    (fun z h => by rw [h] at g5; cases g5) hselP hmethM habM hkP hkPi (g := F0 (km K) pc ls ((.ref (1000001 + j) :: st).map (zV G))) rfl (argsL := []) (rest := st.map (zV G)) (by
      have e : parseMethodDescriptor "()I" = some r.sig := hsigR
      have e2 : (parseMethodDescriptor "()I").map (fun q => q.parameters.length) = some 0 := by decide +kernel
      rw [e] at e2
      exact (Option.some.inj e2).symm) rfl (by rw [C.2.1]; exact hd)
  exact ⟨vm₁, mk, X₁, X₁.named hnamed, hstep₁⟩
end ZFO
end
section
theorem k_S : zCk 0 "SoleArrays" F_S 10 ft_S := ⟨rfl, in_S, ty_S, nm_S⟩
theorem ini_S : Cond.initialized "SoleArrays" ∈ zTb := zt1 1 (by decide +kernel) rfl
theorem k_T : zCk 1 "SoleArrays$Fault" F_T 1 ft_T := ⟨rfl, in_T, ty_T, nm_T⟩
theorem ini_T : Cond.initialized "SoleArrays$Fault" ∈ zTb := zt1 2 (by decide +kernel) rfl
theorem k_F : zCk 2 "SoleArrays$Function" F_F 7 ft_F := ⟨rfl, in_F, ty_F, nm_F⟩
theorem ini_F : Cond.initialized "SoleArrays$Function" ∈ zTb := zt1 7 (by decide +kernel) rfl
theorem k_E : zCk 3 "SoleArrays$Expression" F_E 10 ft_E := ⟨rfl, in_E, ty_E, nm_E⟩
theorem ini_E : Cond.initialized "SoleArrays$Expression" ∈ zTb := zt1 12 (by decide +kernel) rfl
theorem k_R : zCk 4 "SoleArrays$Reader" F_R 4 ft_R := ⟨rfl, in_R, ty_R, nm_R⟩
theorem ini_R : Cond.initialized "SoleArrays$Reader" ∈ zTb := zt1 6 (by decide +kernel) rfl
theorem k_C : zCk 5 "SoleArrays$Checker" F_C 5 ft_C := ⟨rfl, in_C, ty_C, nm_C⟩
theorem ini_C : Cond.initialized "SoleArrays$Checker" ∈ zTb := zt1 15 (by decide +kernel) rfl
theorem k_O : zCk 6 "SoleArrays$Store" F_O 7 ft_O := ⟨rfl, in_O, ty_O, nm_O⟩
theorem ini_O : Cond.initialized "SoleArrays$Store" ∈ zTb := zt1 4 (by decide +kernel) rfl
theorem k_U : zCk 7 "SoleArrays$Runner" F_U 5 ft_U := ⟨rfl, in_U, ty_U, nm_U⟩
theorem ini_U : Cond.initialized "SoleArrays$Runner" ∈ zTb := zt1 3 (by decide +kernel) rfl
theorem k_M : zCk 8 "SoleArraysModel" F_M 51 ft_M := ⟨rfl, in_M, ty_M, nm_M⟩
theorem ini_M : Cond.initialized "SoleArraysModel" ∈ zTb := zt1 5 (by decide +kernel) rfl
theorem ini_L : Cond.initialized "SoleArraysLaw" ∈ zTb := zt1 0 (by decide +kernel) rfl
theorem w_S_init : zWd y_S_init b_S_init 1 none [] ∈ zTb := zt1 28 (by decide +kernel) rfl
theorem w_S_type : zWd y_S_type b_S_type 2 (some .boolean) [] ∈ zTb := zt1 145 (by decide +kernel) rfl
theorem w_S_define : zWd y_S_define b_S_define 3 (some .int) [] ∈ zTb := zt2 32 (by decide +kernel) rfl
theorem w_S_place : zWd y_S_place b_S_place 1 (some .int) [] ∈ zTb := zt1 149 (by decide +kernel) rfl
theorem w_S_clear : zWd y_S_clear b_S_clear 3 (some .int) [] ∈ zTb := zt1 153 (by decide +kernel) rfl
theorem w_S_argument : zWd y_S_argument b_S_argument 4 (some .boolean) [] ∈ zTb := zt1 157 (by decide +kernel) rfl
theorem w_S_run : zWd y_S_run b_S_run 3 (some .int) [] ∈ zTb := zt3 173 (by decide +kernel) rfl
theorem w_S_kind : zWd y_S_kind b_S_kind 1 (some .int) [] ∈ zTb := zt1 161 (by decide +kernel) rfl
theorem w_S_value : zWd y_S_value b_S_value 1 (some .long) [] ∈ zTb := zt1 165 (by decide +kernel) rfl
theorem w_S_size : zWd y_S_size b_S_size 2 (some .int) [] ∈ zTb := zt1 169 (by decide +kernel) rfl
theorem w_S_cell : zWd y_S_cell b_S_cell 5 (some .long) [] ∈ zTb := zt1 176 (by decide +kernel) rfl
theorem w_S_counted : zWd y_S_counted b_S_counted 2 (some .int) [] ∈ zTb := zt2 23 (by decide +kernel) rfl
theorem w_S_functionNamed : zWd y_S_functionNamed b_S_functionNamed 2 (some (.object "SoleArrays$Function")) [] ∈ zTb := zt3 177 (by decide +kernel) rfl
theorem w_S_isArray : zWd y_S_isArray b_S_isArray 1 (some .boolean) [] ∈ zTb := zt1 172 (by decide +kernel) rfl
theorem w_T_init : zWd y_T_init b_T_init 1 none [] ∈ zTb := zt1 36 (by decide +kernel) rfl
theorem w_T_ill : zWd y_T_ill b_T_ill 2 none [] ∈ zTb := zt2 69 (by decide +kernel) rfl
theorem w_T_wrong : zWd y_T_wrong b_T_wrong 2 none [] ∈ zTb := zt3 87 (by decide +kernel) rfl
theorem w_F_init : zWd y_F_init b_F_init 2 none [] ∈ zTb := zt2 88 (by decide +kernel) rfl
theorem w_F_addParameter : zWd y_F_addParameter b_F_addParameter 4 none [] ∈ zTb := zt2 141 (by decide +kernel) rfl
theorem w_F_takesNumbersOnly : zWd y_F_takesNumbersOnly b_F_takesNumbersOnly 2 (some .boolean) [] ∈ zTb := zt3 181 (by decide +kernel) rfl
theorem w_E_init : zWd y_E_init b_E_init 3 none [] ∈ zTb := zt2 164 (by decide +kernel) rfl
theorem w_E_add : zWd y_E_add b_E_add 2 none [] ∈ zTb := zt2 233 (by decide +kernel) rfl
theorem w_R_init : zWd y_R_init b_R_init 4 none [] ∈ zTb := zt2 37 (by decide +kernel) rfl
theorem w_R_readFunction : zWd y_R_readFunction b_R_readFunction 3 (some (.object "SoleArrays$Function")) [] ∈ zTb := zt2 55 (by decide +kernel) rfl
theorem w_R_readParameter : zWd y_R_readParameter b_R_readParameter 4 none [] ∈ zTb := zt2 137 (by decide +kernel) rfl
theorem w_R_readExpression : zWd y_R_readExpression b_R_readExpression 2 (some (.object "SoleArrays$Expression")) [] ∈ zTb := zt2 145 (by decide +kernel) rfl
theorem w_R_refuse : zWd y_R_refuse b_R_refuse 1 (some (.object "SoleArrays$Expression")) [] ∈ zTb := zt2 149 (by decide +kernel) rfl
theorem w_R_readDigits : zWd y_R_readDigits b_R_readDigits 3 (some (.object "SoleArrays$Expression")) [] ∈ zTb := zt2 157 (by decide +kernel) rfl
theorem w_R_readFromVariable : zWd y_R_readFromVariable b_R_readFromVariable 5 (some (.object "SoleArrays$Expression")) [] ∈ zTb := zt2 223 (by decide +kernel) rfl
theorem w_R_readReading : zWd y_R_readReading b_R_readReading 4 (some (.object "SoleArrays$Expression")) [] ∈ zTb := zt2 227 (by decide +kernel) rfl
theorem w_R_readUpdate : zWd y_R_readUpdate b_R_readUpdate 4 (some (.object "SoleArrays$Expression")) [] ∈ zTb := zt2 237 (by decide +kernel) rfl
theorem w_R_readCall : zWd y_R_readCall b_R_readCall 4 (some (.object "SoleArrays$Expression")) [] ∈ zTb := zt3 5 (by decide +kernel) rfl
theorem w_R_readOperation : zWd y_R_readOperation b_R_readOperation 3 (some (.object "SoleArrays$Expression")) [] ∈ zTb := zt3 11 (by decide +kernel) rfl
theorem w_R_takeOperation : zWd y_R_takeOperation b_R_takeOperation 2 (some .char) [] ∈ zTb := zt3 17 (by decide +kernel) rfl
theorem w_R_readChoice : zWd y_R_readChoice b_R_readChoice 3 (some (.object "SoleArrays$Expression")) [] ∈ zTb := zt3 21 (by decide +kernel) rfl
theorem w_R_readBinding : zWd y_R_readBinding b_R_readBinding 3 (some (.object "SoleArrays$Expression")) [] ∈ zTb := zt3 27 (by decide +kernel) rfl
theorem w_R_readGivingUp : zWd y_R_readGivingUp b_R_readGivingUp 3 (some (.object "SoleArrays$Expression")) [] ∈ zTb := zt3 55 (by decide +kernel) rfl
theorem w_R_readNewRow : zWd y_R_readNewRow b_R_readNewRow 3 (some (.object "SoleArrays$Expression")) [] ∈ zTb := zt3 37 (by decide +kernel) rfl
theorem w_R_readNewTable : zWd y_R_readNewTable b_R_readNewTable 3 (some (.object "SoleArrays$Expression")) [] ∈ zTb := zt3 43 (by decide +kernel) rfl
theorem w_R_readSignAndVariable : zWd y_R_readSignAndVariable b_R_readSignAndVariable 3 (some (.object "SoleArrays$Expression")) [] ∈ zTb := zt3 33 (by decide +kernel) rfl
theorem w_R_next : zWd y_R_next b_R_next 1 (some .char) [] ∈ zTb := zt2 65 (by decide +kernel) rfl
theorem w_R_nextIsOneOf : zWd y_R_nextIsOneOf b_R_nextIsOneOf 3 (some .boolean) [] ∈ zTb := zt2 153 (by decide +kernel) rfl
theorem w_R_take : zWd y_R_take b_R_take 2 none [] ∈ zTb := zt2 129 (by decide +kernel) rfl
theorem w_R_takeOneOf : zWd y_R_takeOneOf b_R_takeOneOf 4 (some .int) [] ∈ zTb := zt2 61 (by decide +kernel) rfl
theorem w_R_takeCommaBefore : zWd y_R_takeCommaBefore b_R_takeCommaBefore 2 none [] ∈ zTb := zt2 133 (by decide +kernel) rfl
theorem w_C_init : zWd y_C_init b_C_init 4 none [] ∈ zTb := zt3 62 (by decide +kernel) rfl
theorem w_C_check : zWd y_C_check b_C_check 2 none [] ∈ zTb := zt3 83 (by decide +kernel) rfl
theorem w_C_look : zWd y_C_look b_C_look 4 (some .int) [] ∈ zTb := zt3 119 (by decide +kernel) rfl
theorem w_C_lookAtNumbers : zWd y_C_lookAtNumbers b_C_lookAtNumbers 3 none [] ∈ zTb := zt3 159 (by decide +kernel) rfl
theorem w_C_lookAtPart : zWd y_C_lookAtPart b_C_lookAtPart 3 none [] ∈ zTb := zt3 147 (by decide +kernel) rfl
theorem w_C_lookAtChoice : zWd y_C_lookAtChoice b_C_lookAtChoice 5 (some .int) [] ∈ zTb := zt3 143 (by decide +kernel) rfl
theorem w_C_lookAtBinding : zWd y_C_lookAtBinding b_C_lookAtBinding 3 (some .int) [] ∈ zTb := zt3 151 (by decide +kernel) rfl
theorem w_C_lookAtCall : zWd y_C_lookAtCall b_C_lookAtCall 4 (some .int) [] ∈ zTb := zt3 163 (by decide +kernel) rfl
theorem w_C_lookAtVariable : zWd y_C_lookAtVariable b_C_lookAtVariable 6 (some .int) [] ∈ zTb := zt3 135 (by decide +kernel) rfl
theorem w_C_useUp : zWd y_C_useUp b_C_useUp 5 (some .int) [] ∈ zTb := zt3 131 (by decide +kernel) rfl
theorem w_C_bind : zWd y_C_bind b_C_bind 3 none [] ∈ zTb := zt3 114 (by decide +kernel) rfl
theorem w_C_refuseIfBound : zWd y_C_refuseIfBound b_C_refuseIfBound 3 none [] ∈ zTb := zt3 110 (by decide +kernel) rfl
theorem w_C_refuseIfOwned : zWd y_C_refuseIfOwned b_C_refuseIfOwned 3 none [] ∈ zTb := zt3 155 (by decide +kernel) rfl
theorem w_C_isOwned : zWd y_C_isOwned b_C_isOwned 2 (some .boolean) [] ∈ zTb := zt3 139 (by decide +kernel) rfl
theorem w_O_init : zWd y_O_init b_O_init 1 none [] ∈ zTb := zt1 56 (by decide +kernel) rfl
theorem w_O_empty : zWd y_O_empty b_O_empty 2 none [] ∈ zTb := zt3 192 (by decide +kernel) rfl
theorem w_O_make : zWd y_O_make b_O_make 6 (some .int) [] ∈ zTb := zt4 0 (by decide +kernel) rfl
theorem w_O_copy : zWd y_O_copy b_O_copy 3 (some .int) [] ∈ zTb := zt4 39 (by decide +kernel) rfl
theorem w_O_giveUp : zWd y_O_giveUp b_O_giveUp 2 none [] ∈ zTb := zt4 47 (by decide +kernel) rfl
theorem w_O_has : zWd y_O_has b_O_has 6 (some .boolean) [] ∈ zTb := zt1 180 (by decide +kernel) rfl
theorem w_O_numberAt : zWd y_O_numberAt b_O_numberAt 6 (some .long) [] ∈ zTb := zt1 184 (by decide +kernel) rfl
theorem w_O_put : zWd y_O_put b_O_put 8 none [] ∈ zTb := zt4 35 (by decide +kernel) rfl
theorem w_O_indexOf : zWd y_O_indexOf b_O_indexOf 6 (some .int) [] ∈ zTb := zt1 188 (by decide +kernel) rfl
theorem w_O_firstFree : zWd y_O_firstFree b_O_firstFree 2 (some .int) [] ∈ zTb := zt4 11 (by decide +kernel) rfl
theorem w_U_init : zWd y_U_init b_U_init 1 none [] ∈ zTb := zt1 50 (by decide +kernel) rfl
theorem w_U_start : zWd y_U_start b_U_start 4 (some .long) [] ∈ zTb := zt3 188 (by decide +kernel) rfl
theorem w_U_work : zWd y_U_work b_U_work 5 (some .long) [] ∈ zTb := zt3 196 (by decide +kernel) rfl
theorem w_U_arrayOf : zWd y_U_arrayOf b_U_arrayOf 3 (some .int) [] ∈ zTb := zt4 26 (by decide +kernel) rfl
theorem w_U_operate : zWd y_U_operate b_U_operate 5 (some .long) [] ∈ zTb := zt3 217 (by decide +kernel) rfl
theorem w_U_divide : zWd y_U_divide b_U_divide 4 (some .long) [] ∈ zTb := zt3 220 (by decide +kernel) rfl
theorem w_U_readNumber : zWd y_U_readNumber b_U_readNumber 8 (some .long) [] ∈ zTb := zt4 22 (by decide +kernel) rfl
theorem w_U_update : zWd y_U_update b_U_update 11 (some .long) [] ∈ zTb := zt4 31 (by decide +kernel) rfl
theorem w_U_call : zWd y_U_call b_U_call 8 (some .long) [] ∈ zTb := zt4 51 (by decide +kernel) rfl
theorem w_M_init : zWd y_M_init b_M_init 1 none [] ∈ zTb := zt4 57 (by decide +kernel) rfl
theorem w_M_thrown : zWd y_M_thrown b_M_thrown 1 (some .int) [] ∈ zTb := zt4 216 (by decide +kernel) rfl
theorem w_M_look : zWd y_M_look b_M_look 1 (some .char) [] ∈ zTb := zt5 0 (by decide +kernel) rfl
theorem w_M_takes : zWd y_M_takes b_M_takes 2 (some .boolean) [] ∈ zTb := zt5 8 (by decide +kernel) rfl
theorem w_M_want : zWd y_M_want b_M_want 2 none [] ∈ zTb := zt5 4 (by decide +kernel) rfl
theorem w_M_among : zWd y_M_among b_M_among 3 (some .boolean) [] ∈ zTb := zt4 236 (by decide +kernel) rfl
theorem w_M_letter : zWd y_M_letter b_M_letter 3 (some .int) [] ∈ zTb := zt4 232 (by decide +kernel) rfl
theorem w_M_node : zWd y_M_node b_M_node 5 (some .int) [] ∈ zTb := zt5 20 (by decide +kernel) rfl
theorem w_M_push : zWd y_M_push b_M_push 2 none [] ∈ zTb := zt5 24 (by decide +kernel) rfl
theorem w_M_beginExpression : zWd y_M_beginExpression b_M_beginExpression 6 (some .boolean) [] ∈ zTb := zt5 16 (by decide +kernel) rfl
theorem w_M_beginOther : zWd y_M_beginOther b_M_beginOther 5 (some .boolean) [] ∈ zTb := zt5 28 (by decide +kernel) rfl
theorem w_M_behindPart : zWd y_M_behindPart b_M_behindPart 4 (some .boolean) [] ∈ zTb := zt5 32 (by decide +kernel) rfl
theorem w_M_readExpression : zWd y_M_readExpression b_M_readExpression 3 none [] ∈ zTb := zt5 12 (by decide +kernel) rfl
theorem w_M_readFunction : zWd y_M_readFunction b_M_readFunction 4 (some .int) [] ∈ zTb := zt4 228 (by decide +kernel) rfl
theorem w_M_mistake : zWd y_M_mistake b_M_mistake 2 none [] ∈ zTb := zt5 40 (by decide +kernel) rfl
theorem w_M_isOwned : zWd y_M_isOwned b_M_isOwned 2 (some .boolean) [] ∈ zTb := zt5 60 (by decide +kernel) rfl
theorem w_M_bind : zWd y_M_bind b_M_bind 3 none [] ∈ zTb := zt5 44 (by decide +kernel) rfl
theorem w_M_use : zWd y_M_use b_M_use 4 (some .int) [] ∈ zTb := zt5 56 (by decide +kernel) rfl
theorem w_M_useUp : zWd y_M_useUp b_M_useUp 2 none [] ∈ zTb := zt5 64 (by decide +kernel) rfl
theorem w_M_called : zWd y_M_called b_M_called 3 (some .int) [] ∈ zTb := zt5 68 (by decide +kernel) rfl
theorem w_M_lookBefore : zWd y_M_lookBefore b_M_lookBefore 4 none [] ∈ zTb := zt5 52 (by decide +kernel) rfl
theorem w_M_lookBehind : zWd y_M_lookBehind b_M_lookBehind 7 none [] ∈ zTb := zt5 76 (by decide +kernel) rfl
theorem w_M_typeOf : zWd y_M_typeOf b_M_typeOf 5 (some .int) [] ∈ zTb := zt5 72 (by decide +kernel) rfl
theorem w_M_lookAll : zWd y_M_lookAll b_M_lookAll 5 (some .int) [] ∈ zTb := zt5 48 (by decide +kernel) rfl
theorem w_M_check : zWd y_M_check b_M_check 4 none [] ∈ zTb := zt5 36 (by decide +kernel) rfl
theorem w_M_type : zWd y_M_type b_M_type 2 (some .boolean) [] ∈ zTb := zt4 220 (by decide +kernel) rfl
theorem w_M_count : zWd y_M_count b_M_count 3 (some .int) [] ∈ zTb := zt5 80 (by decide +kernel) rfl
theorem w_M_define : zWd y_M_define b_M_define 4 (some .int) [] ∈ zTb := zt4 224 (by decide +kernel) rfl
theorem w_M_place : zWd y_M_place b_M_place 1 (some .int) [] ∈ zTb := zt5 84 (by decide +kernel) rfl
theorem w_M_clear : zWd y_M_clear b_M_clear 3 (some .int) [] ∈ zTb := zt5 88 (by decide +kernel) rfl
theorem w_M_argument : zWd y_M_argument b_M_argument 4 (some .boolean) [] ∈ zTb := zt5 92 (by decide +kernel) rfl
theorem w_M_start : zWd y_M_start b_M_start 2 none [] ∈ zTb := zt5 104 (by decide +kernel) rfl
theorem w_M_give : zWd y_M_give b_M_give 4 none [] ∈ zTb := zt5 112 (by decide +kernel) rfl
theorem w_M_make : zWd y_M_make b_M_make 7 (some .int) [] ∈ zTb := zt5 121 (by decide +kernel) rfl
theorem w_M_makeOne : zWd y_M_makeOne b_M_makeOne 6 none [] ∈ zTb := zt5 116 (by decide +kernel) rfl
theorem w_M_join : zWd y_M_join b_M_join 6 none [] ∈ zTb := zt5 141 (by decide +kernel) rfl
theorem w_M_cellOf : zWd y_M_cellOf b_M_cellOf 11 none [] ∈ zTb := zt5 145 (by decide +kernel) rfl
theorem w_M_enter : zWd y_M_enter b_M_enter 4 none [] ∈ zTb := zt5 133 (by decide +kernel) rfl
theorem w_M_hold : zWd y_M_hold b_M_hold 3 none [] ∈ zTb := zt5 129 (by decide +kernel) rfl
theorem w_M_pass : zWd y_M_pass b_M_pass 1 none [] ∈ zTb := zt5 125 (by decide +kernel) rfl
theorem w_M_goOn : zWd y_M_goOn b_M_goOn 5 none [] ∈ zTb := zt5 108 (by decide +kernel) rfl
theorem w_M_finish : zWd y_M_finish b_M_finish 6 none [] ∈ zTb := zt5 137 (by decide +kernel) rfl
theorem w_M_isRun : zWd y_M_isRun b_M_isRun 4 (some .boolean) [] ∈ zTb := zt5 100 (by decide +kernel) rfl
theorem w_M_run : zWd y_M_run b_M_run 5 (some .int) [] ∈ zTb := zt5 96 (by decide +kernel) rfl
theorem w_M_kind : zWd y_M_kind b_M_kind 1 (some .int) [] ∈ zTb := zt5 149 (by decide +kernel) rfl
theorem w_M_value : zWd y_M_value b_M_value 1 (some .long) [] ∈ zTb := zt5 153 (by decide +kernel) rfl
theorem w_M_size : zWd y_M_size b_M_size 2 (some .int) [] ∈ zTb := zt5 157 (by decide +kernel) rfl
theorem w_M_cell : zWd y_M_cell b_M_cell 4 (some .long) [] ∈ zTb := zt5 161 (by decide +kernel) rfl
theorem w_M_counted : zWd y_M_counted b_M_counted 2 (some .int) [] ∈ zTb := zt5 165 (by decide +kernel) rfl
theorem w_L_define : zWd y_L_define b_L_define 3 (some .int) [(0, 8, 11, 13), (0, 8, 14, 15)] ∈ zTb := zt2 26 (by decide +kernel) rfl
theorem w_L_run : zWd y_L_run b_L_run 4 (some .int) [(0, 9, 12, 13), (0, 9, 15, 15), (0, 9, 18, 21), (0, 9, 21, 23), (0, 9, 24, 25)] ∈ zTb := zt3 166 (by decide +kernel) rfl
theorem w_obj : Cond.code Lib.objectInit ⟨#[0xb1]⟩ 1 none ∈ zTb := zt1 31 (by decide +kernel) rfl
theorem i_obj : Cond.instanceMethod Lib.objectInit ∈ zTb := zt1 30 (by decide +kernel) rfl
end
section
theorem o_M_1 : Cond.methodLink "SoleArraysModel" 1 Lib.objectInit ∈ zTb := zt4 58 (by decide +kernel) rfl
theorem q_M_7 : zPF "SoleArraysModel" 7 8 3 (.array .char) := ⟨_, _, _, _, k_M, by decide, zt4 62 (by decide +kernel) rfl, rfl, rfl, rfl⟩
theorem p_M_13 : zP "SoleArraysModel" 13 8 6 .int := ⟨_, _, _, _, k_M, by decide, zt4 65 (by decide +kernel) rfl, rfl, rfl⟩
theorem q_M_17 : zPF "SoleArraysModel" 17 8 7 (.array .int) := ⟨_, _, _, _, k_M, by decide, zt4 66 (by decide +kernel) rfl, rfl, rfl, rfl⟩
theorem q_M_21 : zPF "SoleArraysModel" 21 8 8 (.array .int) := ⟨_, _, _, _, k_M, by decide, zt4 67 (by decide +kernel) rfl, rfl, rfl, rfl⟩
theorem q_M_24 : zPF "SoleArraysModel" 24 8 9 (.array .int) := ⟨_, _, _, _, k_M, by decide, zt4 68 (by decide +kernel) rfl, rfl, rfl, rfl⟩
theorem q_M_27 : zPF "SoleArraysModel" 27 8 10 (.array .int) := ⟨_, _, _, _, k_M, by decide, zt4 69 (by decide +kernel) rfl, rfl, rfl, rfl⟩
theorem q_M_30 : zPF "SoleArraysModel" 30 8 11 (.array .int) := ⟨_, _, _, _, k_M, by decide, zt4 70 (by decide +kernel) rfl, rfl, rfl, rfl⟩
theorem q_M_33 : zPF "SoleArraysModel" 33 8 13 (.array .boolean) := ⟨_, _, _, _, k_M, by decide, zt4 72 (by decide +kernel) rfl, rfl, rfl, rfl⟩
theorem q_M_37 : zPF "SoleArraysModel" 37 8 14 (.array .int) := ⟨_, _, _, _, k_M, by decide, zt4 73 (by decide +kernel) rfl, rfl, rfl, rfl⟩
theorem q_M_40 : zPF "SoleArraysModel" 40 8 15 (.array .int) := ⟨_, _, _, _, k_M, by decide, zt4 74 (by decide +kernel) rfl, rfl, rfl, rfl⟩
theorem q_M_43 : zPF "SoleArraysModel" 43 8 16 (.array .int) := ⟨_, _, _, _, k_M, by decide, zt4 75 (by decide +kernel) rfl, rfl, rfl, rfl⟩
theorem q_M_46 : zPF "SoleArraysModel" 46 8 17 (.array .int) := ⟨_, _, _, _, k_M, by decide, zt4 76 (by decide +kernel) rfl, rfl, rfl, rfl⟩
theorem q_M_49 : zPF "SoleArraysModel" 49 8 18 (.array .int) := ⟨_, _, _, _, k_M, by decide, zt4 77 (by decide +kernel) rfl, rfl, rfl, rfl⟩
theorem q_M_52 : zPF "SoleArraysModel" 52 8 20 (.array .int) := ⟨_, _, _, _, k_M, by decide, zt4 79 (by decide +kernel) rfl, rfl, rfl, rfl⟩
theorem q_M_55 : zPF "SoleArraysModel" 55 8 21 (.array .int) := ⟨_, _, _, _, k_M, by decide, zt4 80 (by decide +kernel) rfl, rfl, rfl, rfl⟩
theorem q_M_58 : zPF "SoleArraysModel" 58 8 22 (.array .int) := ⟨_, _, _, _, k_M, by decide, zt4 81 (by decide +kernel) rfl, rfl, rfl, rfl⟩
theorem q_M_61 : zPF "SoleArraysModel" 61 8 23 (.array .int) := ⟨_, _, _, _, k_M, by decide, zt4 82 (by decide +kernel) rfl, rfl, rfl, rfl⟩
theorem q_M_64 : zPF "SoleArraysModel" 64 8 24 (.array .int) := ⟨_, _, _, _, k_M, by decide, zt4 83 (by decide +kernel) rfl, rfl, rfl, rfl⟩
theorem q_M_67 : zPF "SoleArraysModel" 67 8 25 (.array .int) := ⟨_, _, _, _, k_M, by decide, zt4 84 (by decide +kernel) rfl, rfl, rfl, rfl⟩
theorem q_M_70 : zPF "SoleArraysModel" 70 8 29 (.array .long) := ⟨_, _, _, _, k_M, by decide, zt4 88 (by decide +kernel) rfl, rfl, rfl, rfl⟩
theorem q_M_74 : zPF "SoleArraysModel" 74 8 30 (.array .int) := ⟨_, _, _, _, k_M, by decide, zt4 89 (by decide +kernel) rfl, rfl, rfl, rfl⟩
theorem q_M_77 : zPF "SoleArraysModel" 77 8 31 (.array .int) := ⟨_, _, _, _, k_M, by decide, zt4 90 (by decide +kernel) rfl, rfl, rfl, rfl⟩
theorem q_M_80 : zPF "SoleArraysModel" 80 8 34 (.array .long) := ⟨_, _, _, _, k_M, by decide, zt4 93 (by decide +kernel) rfl, rfl, rfl, rfl⟩
theorem q_M_83 : zPF "SoleArraysModel" 83 8 35 (.array .int) := ⟨_, _, _, _, k_M, by decide, zt4 94 (by decide +kernel) rfl, rfl, rfl, rfl⟩
theorem q_M_86 : zPF "SoleArraysModel" 86 8 37 (.array .long) := ⟨_, _, _, _, k_M, by decide, zt4 96 (by decide +kernel) rfl, rfl, rfl, rfl⟩
theorem q_M_89 : zPF "SoleArraysModel" 89 8 38 (.array .int) := ⟨_, _, _, _, k_M, by decide, zt4 97 (by decide +kernel) rfl, rfl, rfl, rfl⟩
theorem q_M_92 : zPF "SoleArraysModel" 92 8 45 (.array .long) := ⟨_, _, _, _, k_M, by decide, zt4 104 (by decide +kernel) rfl, rfl, rfl, rfl⟩
theorem p_M_95 : zP "SoleArraysModel" 95 8 46 .int := ⟨_, _, _, _, k_M, by decide, zt4 105 (by decide +kernel) rfl, rfl, rfl⟩
theorem q_M_98 : zPF "SoleArraysModel" 98 8 50 (.array .long) := ⟨_, _, _, _, k_M, by decide, zt4 109 (by decide +kernel) rfl, rfl, rfl, rfl⟩
theorem f_M_101 : zF "SoleArraysModel" 101 8 0 := ⟨_, _, _, rfl, by decide, in_M, zt4 59 (by decide +kernel) rfl⟩
theorem f_M_104 : zF "SoleArraysModel" 104 8 5 := ⟨_, _, _, rfl, by decide, in_M, zt4 64 (by decide +kernel) rfl⟩
theorem f_M_108 : zF "SoleArraysModel" 108 8 4 := ⟨_, _, _, rfl, by decide, in_M, zt4 63 (by decide +kernel) rfl⟩
theorem f_M_111 : zF "SoleArraysModel" 111 8 2 := ⟨_, _, _, rfl, by decide, in_M, zt4 61 (by decide +kernel) rfl⟩
theorem f_M_7 : zF "SoleArraysModel" 7 8 3 := ⟨_, _, _, rfl, by decide, in_M, zt4 62 (by decide +kernel) rfl⟩
theorem l_M_114 : zLV "SoleArraysModel" 114 "SoleArraysModel" y_M_look 0 := ⟨zt4 237 (by decide +kernel) rfl, zt4 239 (by decide +kernel) rfl, ztp 45 (by decide +kernel) rfl, ⟨by decide, by decide⟩, by decide +kernel⟩
theorem p_M_108 : zP "SoleArraysModel" 108 8 4 .int := ⟨_, _, _, _, k_M, by decide, zt4 63 (by decide +kernel) rfl, rfl, rfl⟩
theorem p_M_104 : zP "SoleArraysModel" 104 8 5 .boolean := ⟨_, _, _, _, k_M, by decide, zt4 64 (by decide +kernel) rfl, rfl, rfl⟩
theorem l_M_118 : zLV "SoleArraysModel" 118 "SoleArraysModel" y_M_among 2 := ⟨zt4 233 (by decide +kernel) rfl, zt4 235 (by decide +kernel) rfl, ztp 44 (by decide +kernel) rfl, ⟨by decide, by decide⟩, by decide +kernel⟩
theorem l_M_122 : zLV "SoleArraysModel" 122 "SoleArraysModel" y_M_want 1 := ⟨zt5 1 (by decide +kernel) rfl, zt5 3 (by decide +kernel) rfl, ztp 46 (by decide +kernel) rfl, ⟨by decide, by decide⟩, by decide +kernel⟩
theorem f_M_126 : zF "SoleArraysModel" 126 8 12 := ⟨_, _, _, rfl, by decide, in_M, zt4 71 (by decide +kernel) rfl⟩
theorem f_M_17 : zF "SoleArraysModel" 17 8 7 := ⟨_, _, _, rfl, by decide, in_M, zt4 66 (by decide +kernel) rfl⟩
theorem f_M_21 : zF "SoleArraysModel" 21 8 8 := ⟨_, _, _, rfl, by decide, in_M, zt4 67 (by decide +kernel) rfl⟩
theorem f_M_24 : zF "SoleArraysModel" 24 8 9 := ⟨_, _, _, rfl, by decide, in_M, zt4 68 (by decide +kernel) rfl⟩
theorem f_M_27 : zF "SoleArraysModel" 27 8 10 := ⟨_, _, _, rfl, by decide, in_M, zt4 69 (by decide +kernel) rfl⟩
theorem f_M_30 : zF "SoleArraysModel" 30 8 11 := ⟨_, _, _, rfl, by decide, in_M, zt4 70 (by decide +kernel) rfl⟩
theorem p_M_126 : zP "SoleArraysModel" 126 8 12 .int := ⟨_, _, _, _, k_M, by decide, zt4 71 (by decide +kernel) rfl, rfl, rfl⟩
theorem f_M_52 : zF "SoleArraysModel" 52 8 20 := ⟨_, _, _, rfl, by decide, in_M, zt4 79 (by decide +kernel) rfl⟩
theorem f_M_129 : zF "SoleArraysModel" 129 8 19 := ⟨_, _, _, rfl, by decide, in_M, zt4 78 (by decide +kernel) rfl⟩
theorem f_M_55 : zF "SoleArraysModel" 55 8 21 := ⟨_, _, _, rfl, by decide, in_M, zt4 80 (by decide +kernel) rfl⟩
theorem p_M_129 : zP "SoleArraysModel" 129 8 19 .int := ⟨_, _, _, _, k_M, by decide, zt4 78 (by decide +kernel) rfl, rfl, rfl⟩
theorem l_M_132 : zLV "SoleArraysModel" 132 "SoleArraysModel" y_M_letter 2 := ⟨zt4 229 (by decide +kernel) rfl, zt4 231 (by decide +kernel) rfl, ztp 43 (by decide +kernel) rfl, ⟨by decide, by decide⟩, by decide +kernel⟩
theorem l_M_136 : zLV "SoleArraysModel" 136 "SoleArraysModel" y_M_node 3 := ⟨zt5 17 (by decide +kernel) rfl, zt5 19 (by decide +kernel) rfl, ztp 50 (by decide +kernel) rfl, ⟨by decide, by decide⟩, by decide +kernel⟩
theorem l_M_140 : zLV "SoleArraysModel" 140 "SoleArraysModel" y_M_takes 1 := ⟨zt5 5 (by decide +kernel) rfl, zt5 7 (by decide +kernel) rfl, ztp 47 (by decide +kernel) rfl, ⟨by decide, by decide⟩, by decide +kernel⟩
theorem l_M_144 : zLV "SoleArraysModel" 144 "SoleArraysModel" y_M_push 1 := ⟨zt5 21 (by decide +kernel) rfl, zt5 23 (by decide +kernel) rfl, ztp 51 (by decide +kernel) rfl, ⟨by decide, by decide⟩, by decide +kernel⟩
theorem l_M_148 : zLV "SoleArraysModel" 148 "SoleArraysModel" y_M_beginOther 2 := ⟨zt5 25 (by decide +kernel) rfl, zt5 27 (by decide +kernel) rfl, ztp 52 (by decide +kernel) rfl, ⟨by decide, by decide⟩, by decide +kernel⟩
theorem l_M_152 : zLV "SoleArraysModel" 152 "SoleArraysModel" y_M_beginExpression 0 := ⟨zt5 13 (by decide +kernel) rfl, zt5 15 (by decide +kernel) rfl, ztp 49 (by decide +kernel) rfl, ⟨by decide, by decide⟩, by decide +kernel⟩
theorem l_M_156 : zLV "SoleArraysModel" 156 "SoleArraysModel" y_M_behindPart 0 := ⟨zt5 29 (by decide +kernel) rfl, zt5 31 (by decide +kernel) rfl, ztp 53 (by decide +kernel) rfl, ⟨by decide, by decide⟩, by decide +kernel⟩
theorem f_M_37 : zF "SoleArraysModel" 37 8 14 := ⟨_, _, _, rfl, by decide, in_M, zt4 73 (by decide +kernel) rfl⟩
theorem f_M_49 : zF "SoleArraysModel" 49 8 18 := ⟨_, _, _, rfl, by decide, in_M, zt4 77 (by decide +kernel) rfl⟩
theorem f_M_43 : zF "SoleArraysModel" 43 8 16 := ⟨_, _, _, rfl, by decide, in_M, zt4 75 (by decide +kernel) rfl⟩
theorem f_M_46 : zF "SoleArraysModel" 46 8 17 := ⟨_, _, _, rfl, by decide, in_M, zt4 76 (by decide +kernel) rfl⟩
theorem f_M_40 : zF "SoleArraysModel" 40 8 15 := ⟨_, _, _, rfl, by decide, in_M, zt4 74 (by decide +kernel) rfl⟩
theorem l_M_159 : zLV "SoleArraysModel" 159 "SoleArraysModel" y_M_readExpression 0 := ⟨zt5 9 (by decide +kernel) rfl, zt5 11 (by decide +kernel) rfl, ztp 48 (by decide +kernel) rfl, ⟨by decide, by decide⟩, by decide +kernel⟩
theorem f_M_162 : zF "SoleArraysModel" 162 8 27 := ⟨_, _, _, rfl, by decide, in_M, zt4 86 (by decide +kernel) rfl⟩
theorem p_M_162 : zP "SoleArraysModel" 162 8 27 .int := ⟨_, _, _, _, k_M, by decide, zt4 86 (by decide +kernel) rfl, rfl, rfl⟩
theorem f_M_165 : zF "SoleArraysModel" 165 8 26 := ⟨_, _, _, rfl, by decide, in_M, zt4 85 (by decide +kernel) rfl⟩
theorem f_M_67 : zF "SoleArraysModel" 67 8 25 := ⟨_, _, _, rfl, by decide, in_M, zt4 84 (by decide +kernel) rfl⟩
theorem p_M_165 : zP "SoleArraysModel" 165 8 26 .int := ⟨_, _, _, _, k_M, by decide, zt4 85 (by decide +kernel) rfl, rfl, rfl⟩
theorem l_M_168 : zLV "SoleArraysModel" 168 "SoleArraysModel" y_M_isOwned 1 := ⟨zt5 57 (by decide +kernel) rfl, zt5 59 (by decide +kernel) rfl, ztp 60 (by decide +kernel) rfl, ⟨by decide, by decide⟩, by decide +kernel⟩
theorem l_M_172 : zLV "SoleArraysModel" 172 "SoleArraysModel" y_M_mistake 1 := ⟨zt5 37 (by decide +kernel) rfl, zt5 39 (by decide +kernel) rfl, ztp 55 (by decide +kernel) rfl, ⟨by decide, by decide⟩, by decide +kernel⟩
theorem f_M_175 : zF "SoleArraysModel" 175 8 28 := ⟨_, _, _, rfl, by decide, in_M, zt4 87 (by decide +kernel) rfl⟩
theorem f_M_33 : zF "SoleArraysModel" 33 8 13 := ⟨_, _, _, rfl, by decide, in_M, zt4 72 (by decide +kernel) rfl⟩
theorem l_M_178 : zLV "SoleArraysModel" 178 "SoleArraysModel" y_M_use 3 := ⟨zt5 53 (by decide +kernel) rfl, zt5 55 (by decide +kernel) rfl, ztp 59 (by decide +kernel) rfl, ⟨by decide, by decide⟩, by decide +kernel⟩
theorem l_M_181 : zLV "SoleArraysModel" 181 "SoleArraysModel" y_M_useUp 1 := ⟨zt5 61 (by decide +kernel) rfl, zt5 63 (by decide +kernel) rfl, ztp 61 (by decide +kernel) rfl, ⟨by decide, by decide⟩, by decide +kernel⟩
theorem l_M_184 : zLV "SoleArraysModel" 184 "SoleArraysModel" y_M_called 1 := ⟨zt5 65 (by decide +kernel) rfl, zt5 67 (by decide +kernel) rfl, ztp 62 (by decide +kernel) rfl, ⟨by decide, by decide⟩, by decide +kernel⟩
theorem f_M_58 : zF "SoleArraysModel" 58 8 22 := ⟨_, _, _, rfl, by decide, in_M, zt4 81 (by decide +kernel) rfl⟩
theorem f_M_64 : zF "SoleArraysModel" 64 8 24 := ⟨_, _, _, rfl, by decide, in_M, zt4 83 (by decide +kernel) rfl⟩
theorem f_M_61 : zF "SoleArraysModel" 61 8 23 := ⟨_, _, _, rfl, by decide, in_M, zt4 82 (by decide +kernel) rfl⟩
theorem l_M_188 : zLV "SoleArraysModel" 188 "SoleArraysModel" y_M_bind 2 := ⟨zt5 41 (by decide +kernel) rfl, zt5 43 (by decide +kernel) rfl, ztp 56 (by decide +kernel) rfl, ⟨by decide, by decide⟩, by decide +kernel⟩
theorem l_M_192 : zLV "SoleArraysModel" 192 "SoleArraysModel" y_M_lookBefore 1 := ⟨zt5 49 (by decide +kernel) rfl, zt5 51 (by decide +kernel) rfl, ztp 58 (by decide +kernel) rfl, ⟨by decide, by decide⟩, by decide +kernel⟩
theorem l_M_195 : zLV "SoleArraysModel" 195 "SoleArraysModel" y_M_typeOf 2 := ⟨zt5 69 (by decide +kernel) rfl, zt5 71 (by decide +kernel) rfl, ztp 63 (by decide +kernel) rfl, ⟨by decide, by decide⟩, by decide +kernel⟩
theorem l_M_199 : zLV "SoleArraysModel" 199 "SoleArraysModel" y_M_lookBehind 4 := ⟨zt5 73 (by decide +kernel) rfl, zt5 75 (by decide +kernel) rfl, ztp 64 (by decide +kernel) rfl, ⟨by decide, by decide⟩, by decide +kernel⟩
theorem p_M_175 : zP "SoleArraysModel" 175 8 28 .int := ⟨_, _, _, _, k_M, by decide, zt4 87 (by decide +kernel) rfl, rfl, rfl⟩
theorem l_M_203 : zLV "SoleArraysModel" 203 "SoleArraysModel" y_M_lookAll 0 := ⟨zt5 45 (by decide +kernel) rfl, zt5 47 (by decide +kernel) rfl, ztp 57 (by decide +kernel) rfl, ⟨by decide, by decide⟩, by decide +kernel⟩
theorem p_M_101 : zP "SoleArraysModel" 101 8 0 .int := ⟨_, _, _, _, k_M, by decide, zt4 59 (by decide +kernel) rfl, rfl, rfl⟩
theorem f_M_207 : zF "SoleArraysModel" 207 8 1 := ⟨_, _, _, rfl, by decide, in_M, zt4 60 (by decide +kernel) rfl⟩
theorem p_M_207 : zP "SoleArraysModel" 207 8 1 .int := ⟨_, _, _, _, k_M, by decide, zt4 60 (by decide +kernel) rfl, rfl, rfl⟩
theorem p_M_111 : zP "SoleArraysModel" 111 8 2 .int := ⟨_, _, _, _, k_M, by decide, zt4 61 (by decide +kernel) rfl, rfl, rfl⟩
theorem l_M_210 : zLV "SoleArraysModel" 210 "SoleArraysModel" y_M_readFunction 0 := ⟨zt4 225 (by decide +kernel) rfl, zt4 227 (by decide +kernel) rfl, ztp 42 (by decide +kernel) rfl, ⟨by decide, by decide⟩, by decide +kernel⟩
theorem l_M_213 : zLV "SoleArraysModel" 213 "SoleArraysModel" y_M_check 1 := ⟨zt5 33 (by decide +kernel) rfl, zt5 35 (by decide +kernel) rfl, ztp 54 (by decide +kernel) rfl, ⟨by decide, by decide⟩, by decide +kernel⟩
theorem l_M_216 : zLV "SoleArraysModel" 216 "SoleArraysModel" y_M_count 0 := ⟨zt5 77 (by decide +kernel) rfl, zt5 79 (by decide +kernel) rfl, ztp 65 (by decide +kernel) rfl, ⟨by decide, by decide⟩, by decide +kernel⟩
theorem f_M_13 : zF "SoleArraysModel" 13 8 6 := ⟨_, _, _, rfl, by decide, in_M, zt4 65 (by decide +kernel) rfl⟩
theorem f_M_92 : zF "SoleArraysModel" 92 8 45 := ⟨_, _, _, rfl, by decide, in_M, zt4 104 (by decide +kernel) rfl⟩
theorem f_M_219 : zF "SoleArraysModel" 219 8 39 := ⟨_, _, _, rfl, by decide, in_M, zt4 98 (by decide +kernel) rfl⟩
theorem p_M_222 : zP "SoleArraysModel" 222 8 44 .int := ⟨_, _, _, _, k_M, by decide, zt4 103 (by decide +kernel) rfl, rfl, rfl⟩
theorem p_M_219 : zP "SoleArraysModel" 219 8 39 .int := ⟨_, _, _, _, k_M, by decide, zt4 98 (by decide +kernel) rfl, rfl, rfl⟩
theorem f_M_86 : zF "SoleArraysModel" 86 8 37 := ⟨_, _, _, rfl, by decide, in_M, zt4 96 (by decide +kernel) rfl⟩
theorem f_M_225 : zF "SoleArraysModel" 225 8 36 := ⟨_, _, _, rfl, by decide, in_M, zt4 95 (by decide +kernel) rfl⟩
theorem f_M_89 : zF "SoleArraysModel" 89 8 38 := ⟨_, _, _, rfl, by decide, in_M, zt4 97 (by decide +kernel) rfl⟩
theorem p_M_225 : zP "SoleArraysModel" 225 8 36 .int := ⟨_, _, _, _, k_M, by decide, zt4 95 (by decide +kernel) rfl, rfl, rfl⟩
theorem f_M_70 : zF "SoleArraysModel" 70 8 29 := ⟨_, _, _, rfl, by decide, in_M, zt4 88 (by decide +kernel) rfl⟩
theorem f_M_228 : zF "SoleArraysModel" 228 8 32 := ⟨_, _, _, rfl, by decide, in_M, zt4 91 (by decide +kernel) rfl⟩
theorem f_M_74 : zF "SoleArraysModel" 74 8 30 := ⟨_, _, _, rfl, by decide, in_M, zt4 89 (by decide +kernel) rfl⟩
theorem f_M_77 : zF "SoleArraysModel" 77 8 31 := ⟨_, _, _, rfl, by decide, in_M, zt4 90 (by decide +kernel) rfl⟩
theorem p_M_228 : zP "SoleArraysModel" 228 8 32 .int := ⟨_, _, _, _, k_M, by decide, zt4 91 (by decide +kernel) rfl, rfl, rfl⟩
theorem f_M_233 : zF "SoleArraysModel" 233 8 41 := ⟨_, _, _, rfl, by decide, in_M, zt4 100 (by decide +kernel) rfl⟩
theorem p_M_233 : zP "SoleArraysModel" 233 8 41 .int := ⟨_, _, _, _, k_M, by decide, zt4 100 (by decide +kernel) rfl, rfl, rfl⟩
theorem f_M_236 : zF "SoleArraysModel" 236 8 40 := ⟨_, _, _, rfl, by decide, in_M, zt4 99 (by decide +kernel) rfl⟩
theorem p_M_236 : zP "SoleArraysModel" 236 8 40 .int := ⟨_, _, _, _, k_M, by decide, zt4 99 (by decide +kernel) rfl, rfl, rfl⟩
theorem f_M_239 : zF "SoleArraysModel" 239 8 42 := ⟨_, _, _, rfl, by decide, in_M, zt4 101 (by decide +kernel) rfl⟩
theorem p_M_239 : zP "SoleArraysModel" 239 8 42 .int := ⟨_, _, _, _, k_M, by decide, zt4 101 (by decide +kernel) rfl, rfl, rfl⟩
theorem l_M_242 : zLV "SoleArraysModel" 242 "SoleArraysModel" y_M_make 3 := ⟨zt5 118 (by decide +kernel) rfl, zt5 120 (by decide +kernel) rfl, ztp 71 (by decide +kernel) rfl, ⟨by decide, by decide⟩, by decide +kernel⟩
theorem l_M_246 : zLV "SoleArraysModel" 246 "SoleArraysModel" y_M_give 2 := ⟨zt5 109 (by decide +kernel) rfl, zt5 111 (by decide +kernel) rfl, ztp 69 (by decide +kernel) rfl, ⟨by decide, by decide⟩, by decide +kernel⟩
theorem f_M_83 : zF "SoleArraysModel" 83 8 35 := ⟨_, _, _, rfl, by decide, in_M, zt4 94 (by decide +kernel) rfl⟩
theorem f_M_250 : zF "SoleArraysModel" 250 8 33 := ⟨_, _, _, rfl, by decide, in_M, zt4 92 (by decide +kernel) rfl⟩
theorem f_M_253 : zF "SoleArraysModel" 253 8 43 := ⟨_, _, _, rfl, by decide, in_M, zt4 102 (by decide +kernel) rfl⟩
theorem p_M_253 : zP "SoleArraysModel" 253 8 43 .int := ⟨_, _, _, _, k_M, by decide, zt4 102 (by decide +kernel) rfl, rfl, rfl⟩
theorem p_M_250 : zP "SoleArraysModel" 250 8 33 .int := ⟨_, _, _, _, k_M, by decide, zt4 92 (by decide +kernel) rfl, rfl, rfl⟩
theorem l_M_256 : zLV "SoleArraysModel" 256 "SoleArraysModel" y_M_hold 2 := ⟨zt5 126 (by decide +kernel) rfl, zt5 128 (by decide +kernel) rfl, ztp 73 (by decide +kernel) rfl, ⟨by decide, by decide⟩, by decide +kernel⟩
theorem l_M_259 : zLV "SoleArraysModel" 259 "SoleArraysModel" y_M_start 1 := ⟨zt5 101 (by decide +kernel) rfl, zt5 103 (by decide +kernel) rfl, ztp 67 (by decide +kernel) rfl, ⟨by decide, by decide⟩, by decide +kernel⟩
theorem f_M_80 : zF "SoleArraysModel" 80 8 34 := ⟨_, _, _, rfl, by decide, in_M, zt4 93 (by decide +kernel) rfl⟩
theorem l_M_262 : zLV "SoleArraysModel" 262 "SoleArraysModel" y_M_makeOne 3 := ⟨zt5 113 (by decide +kernel) rfl, zt5 115 (by decide +kernel) rfl, ztp 70 (by decide +kernel) rfl, ⟨by decide, by decide⟩, by decide +kernel⟩
theorem l_M_266 : zLV "SoleArraysModel" 266 "SoleArraysModel" y_M_pass 0 := ⟨zt5 122 (by decide +kernel) rfl, zt5 124 (by decide +kernel) rfl, ztp 72 (by decide +kernel) rfl, ⟨by decide, by decide⟩, by decide +kernel⟩
theorem l_M_269 : zLV "SoleArraysModel" 269 "SoleArraysModel" y_M_enter 1 := ⟨zt5 130 (by decide +kernel) rfl, zt5 132 (by decide +kernel) rfl, ztp 74 (by decide +kernel) rfl, ⟨by decide, by decide⟩, by decide +kernel⟩
theorem l_M_272 : zLV "SoleArraysModel" 272 "SoleArraysModel" y_M_finish 1 := ⟨zt5 134 (by decide +kernel) rfl, zt5 136 (by decide +kernel) rfl, ztp 75 (by decide +kernel) rfl, ⟨by decide, by decide⟩, by decide +kernel⟩
theorem l_M_275 : zLV "SoleArraysModel" 275 "SoleArraysModel" y_M_join 1 := ⟨zt5 138 (by decide +kernel) rfl, zt5 140 (by decide +kernel) rfl, ztp 76 (by decide +kernel) rfl, ⟨by decide, by decide⟩, by decide +kernel⟩
theorem l_M_278 : zLV "SoleArraysModel" 278 "SoleArraysModel" y_M_cellOf 1 := ⟨zt5 142 (by decide +kernel) rfl, zt5 144 (by decide +kernel) rfl, ztp 77 (by decide +kernel) rfl, ⟨by decide, by decide⟩, by decide +kernel⟩
theorem l_M_281 : zLV "SoleArraysModel" 281 "SoleArraysModel" y_M_isRun 1 := ⟨zt5 97 (by decide +kernel) rfl, zt5 99 (by decide +kernel) rfl, ztp 66 (by decide +kernel) rfl, ⟨by decide, by decide⟩, by decide +kernel⟩
theorem f_M_222 : zF "SoleArraysModel" 222 8 44 := ⟨_, _, _, rfl, by decide, in_M, zt4 103 (by decide +kernel) rfl⟩
theorem l_M_284 : zLV "SoleArraysModel" 284 "SoleArraysModel" y_M_goOn 0 := ⟨zt5 105 (by decide +kernel) rfl, zt5 107 (by decide +kernel) rfl, ztp 68 (by decide +kernel) rfl, ⟨by decide, by decide⟩, by decide +kernel⟩
theorem p_M_287 : zP "SoleArraysModel" 287 8 47 .long := ⟨_, _, _, _, k_M, by decide, zt4 106 (by decide +kernel) rfl, rfl, rfl⟩
theorem f_M_95 : zF "SoleArraysModel" 95 8 46 := ⟨_, _, _, rfl, by decide, in_M, zt4 105 (by decide +kernel) rfl⟩
theorem p_M_291 : zP "SoleArraysModel" 291 8 48 .int := ⟨_, _, _, _, k_M, by decide, zt4 107 (by decide +kernel) rfl, rfl, rfl⟩
theorem p_M_294 : zP "SoleArraysModel" 294 8 49 .int := ⟨_, _, _, _, k_M, by decide, zt4 108 (by decide +kernel) rfl, rfl, rfl⟩
theorem f_M_98 : zF "SoleArraysModel" 98 8 50 := ⟨_, _, _, rfl, by decide, in_M, zt4 109 (by decide +kernel) rfl⟩
theorem f_M_287 : zF "SoleArraysModel" 287 8 47 := ⟨_, _, _, rfl, by decide, in_M, zt4 106 (by decide +kernel) rfl⟩
theorem f_M_291 : zF "SoleArraysModel" 291 8 48 := ⟨_, _, _, rfl, by decide, in_M, zt4 107 (by decide +kernel) rfl⟩
theorem f_M_294 : zF "SoleArraysModel" 294 8 49 := ⟨_, _, _, rfl, by decide, in_M, zt4 108 (by decide +kernel) rfl⟩
end
section
theorem o_S_1 : Cond.methodLink "SoleArrays" 1 Lib.objectInit ∈ zTb := zt1 29 (by decide +kernel) rfl
theorem q_S_9 : zPF "SoleArrays" 9 0 0 (.array .char) := ⟨_, _, _, _, k_S, by decide, zt1 111 (by decide +kernel) rfl, rfl, rfl, rfl⟩
theorem n_S_13 : zNw "SoleArrays" 13 1 1 [.int 0] := ⟨_, _, _, _, k_T, zt1 32 (by decide +kernel) rfl, zt1 33 (by decide +kernel) rfl, ini_T, by decide⟩
theorem l_S_15 : zLIN "SoleArrays" 15 y_T_init 0 := ⟨⟨"SoleArrays", zt1 34 (by decide +kernel) rfl⟩, zt1 35 (by decide +kernel) rfl, rfl, ⟨by decide, by decide⟩, by decide +kernel⟩
theorem q_S_16 : zPF "SoleArrays" 16 0 1 (.object "SoleArrays$Fault") := ⟨_, _, _, _, k_S, by decide, zt1 112 (by decide +kernel) rfl, rfl, rfl, rfl⟩
theorem q_S_22 : zPF "SoleArrays" 22 0 2 (.array (.object "SoleArrays$Function")) := ⟨_, _, _, _, k_S, by decide, zt1 113 (by decide +kernel) rfl, rfl, rfl, rfl⟩
theorem q_S_26 : zPF "SoleArrays" 26 0 3 (.array .long) := ⟨_, _, _, _, k_S, by decide, zt1 114 (by decide +kernel) rfl, rfl, rfl, rfl⟩
theorem n_S_30 : zNw "SoleArrays" 30 7 5 [.null, .int 0, .int 0, .null, .int 0] := ⟨_, _, _, _, k_U, zt1 46 (by decide +kernel) rfl, zt1 47 (by decide +kernel) rfl, ini_U, by decide⟩
theorem l_S_32 : zLIN "SoleArrays" 32 y_U_init 0 := ⟨⟨"SoleArrays", zt1 48 (by decide +kernel) rfl⟩, zt1 49 (by decide +kernel) rfl, rfl, ⟨by decide, by decide⟩, by decide +kernel⟩
theorem q_S_33 : zPF "SoleArrays" 33 0 4 (.object "SoleArrays$Runner") := ⟨_, _, _, _, k_S, by decide, zt1 115 (by decide +kernel) rfl, rfl, rfl, rfl⟩
theorem p_S_37 : zP "SoleArrays" 37 0 5 .int := ⟨_, _, _, _, k_S, by decide, zt1 116 (by decide +kernel) rfl, rfl, rfl⟩
theorem p_S_41 : zP "SoleArrays" 41 0 6 .int := ⟨_, _, _, _, k_S, by decide, zt1 117 (by decide +kernel) rfl, rfl, rfl⟩
theorem p_S_44 : zP "SoleArrays" 44 0 7 .int := ⟨_, _, _, _, k_S, by decide, zt1 118 (by decide +kernel) rfl, rfl, rfl⟩
theorem p_S_47 : zP "SoleArrays" 47 0 8 .int := ⟨_, _, _, _, k_S, by decide, zt1 119 (by decide +kernel) rfl, rfl, rfl⟩
theorem p_S_50 : zP "SoleArrays" 50 0 9 .long := ⟨_, _, _, _, k_S, by decide, zt1 120 (by decide +kernel) rfl, rfl, rfl⟩
theorem f_S_37 : zF "SoleArrays" 37 0 5 := ⟨_, _, _, rfl, by decide, in_S, zt1 116 (by decide +kernel) rfl⟩
theorem f_S_9 : zF "SoleArrays" 9 0 0 := ⟨_, _, _, rfl, by decide, in_S, zt1 111 (by decide +kernel) rfl⟩
theorem f_S_41 : zF "SoleArrays" 41 0 6 := ⟨_, _, _, rfl, by decide, in_S, zt1 117 (by decide +kernel) rfl⟩
theorem f_S_16 : zF "SoleArrays" 16 0 1 := ⟨_, _, _, rfl, by decide, in_S, zt1 112 (by decide +kernel) rfl⟩
theorem p_S_54 : zP "SoleArrays" 54 1 0 .int := ⟨_, _, _, _, k_T, by decide, zt1 39 (by decide +kernel) rfl, rfl, rfl⟩
theorem n_S_57 : zNw "SoleArrays" 57 4 4 [.null, .int 0, .null, .int 0] := ⟨_, _, _, _, k_R, zt2 33 (by decide +kernel) rfl, zt2 34 (by decide +kernel) rfl, ini_R, by decide⟩
theorem l_S_59 : zLI "SoleArrays" 59 y_R_init 3 := ⟨zt2 35 (by decide +kernel) rfl, zt2 36 (by decide +kernel) rfl, rfl, ⟨by decide, by decide⟩, by decide +kernel⟩
theorem l_S_62 : zLV "SoleArrays" 62 "SoleArrays$Reader" y_R_readFunction 0 := ⟨zt2 52 (by decide +kernel) rfl, zt2 53 (by decide +kernel) rfl, zt2 54 (by decide +kernel) rfl, ⟨by decide, by decide⟩, by decide +kernel⟩
theorem n_S_66 : zNw "SoleArrays" 66 5 5 [.null, .null, .null, .null, .int 0] := ⟨_, _, _, _, k_C, zt3 58 (by decide +kernel) rfl, zt3 59 (by decide +kernel) rfl, ini_C, by decide⟩
theorem f_S_22 : zF "SoleArrays" 22 0 2 := ⟨_, _, _, rfl, by decide, in_S, zt1 113 (by decide +kernel) rfl⟩
theorem l_S_68 : zLI "SoleArrays" 68 y_C_init 3 := ⟨zt3 60 (by decide +kernel) rfl, zt3 61 (by decide +kernel) rfl, rfl, ⟨by decide, by decide⟩, by decide +kernel⟩
theorem l_S_71 : zLV "SoleArrays" 71 "SoleArrays$Checker" y_C_check 0 := ⟨zt3 80 (by decide +kernel) rfl, zt3 81 (by decide +kernel) rfl, zt3 82 (by decide +kernel) rfl, ⟨by decide, by decide⟩, by decide +kernel⟩
theorem f_S_74 : zF "SoleArrays" 74 2 0 := ⟨_, _, _, rfl, by decide, in_F, zt2 92 (by decide +kernel) rfl⟩
theorem f_S_44 : zF "SoleArrays" 44 0 7 := ⟨_, _, _, rfl, by decide, in_S, zt1 118 (by decide +kernel) rfl⟩
theorem f_S_54 : zF "SoleArrays" 54 1 0 := ⟨_, _, _, rfl, by decide, in_T, zt1 39 (by decide +kernel) rfl⟩
theorem f_S_26 : zF "SoleArrays" 26 0 3 := ⟨_, _, _, rfl, by decide, in_S, zt1 114 (by decide +kernel) rfl⟩
theorem l_S_77 : zLV "SoleArrays" 77 "SoleArrays" y_S_functionNamed 1 := ⟨zt3 174 (by decide +kernel) rfl, zt3 176 (by decide +kernel) rfl, ztp 35 (by decide +kernel) rfl, ⟨by decide, by decide⟩, by decide +kernel⟩
theorem l_S_81 : zLV "SoleArrays" 81 "SoleArrays$Function" y_F_takesNumbersOnly 0 := ⟨zt3 178 (by decide +kernel) rfl, zt3 179 (by decide +kernel) rfl, zt3 180 (by decide +kernel) rfl, ⟨by decide, by decide⟩, by decide +kernel⟩
theorem f_S_33 : zF "SoleArrays" 33 0 4 := ⟨_, _, _, rfl, by decide, in_S, zt1 115 (by decide +kernel) rfl⟩
theorem l_S_92 : zLV "SoleArrays" 92 "SoleArrays$Runner" y_U_start 2 := ⟨zt3 185 (by decide +kernel) rfl, zt3 186 (by decide +kernel) rfl, zt3 187 (by decide +kernel) rfl, ⟨by decide, by decide⟩, by decide +kernel⟩
theorem f_S_96 : zF "SoleArrays" 96 2 5 := ⟨_, _, _, rfl, by decide, in_F, zt2 106 (by decide +kernel) rfl⟩
theorem f_S_47 : zF "SoleArrays" 47 0 8 := ⟨_, _, _, rfl, by decide, in_S, zt1 119 (by decide +kernel) rfl⟩
theorem f_S_50 : zF "SoleArrays" 50 0 9 := ⟨_, _, _, rfl, by decide, in_S, zt1 120 (by decide +kernel) rfl⟩
theorem l_S_97 : zLS "SoleArrays" 97 y_S_isArray 1 := ⟨zt1 170 (by decide +kernel) rfl, zt1 171 (by decide +kernel) rfl, ini_S, ⟨by decide, by decide⟩, by decide +kernel⟩
theorem f_S_101 : zF "SoleArrays" 101 7 0 := ⟨_, _, _, rfl, by decide, in_U, zt1 93 (by decide +kernel) rfl⟩
theorem f_S_105 : zF "SoleArrays" 105 6 0 := ⟨_, _, _, rfl, by decide, in_O, zt1 62 (by decide +kernel) rfl⟩
theorem f_S_111 : zF "SoleArrays" 111 6 1 := ⟨_, _, _, rfl, by decide, in_O, zt1 65 (by decide +kernel) rfl⟩
theorem l_S_114 : zLV "SoleArrays" 114 "SoleArrays$Store" y_O_has 3 := ⟨zt1 177 (by decide +kernel) rfl, zt1 178 (by decide +kernel) rfl, zt1 179 (by decide +kernel) rfl, ⟨by decide, by decide⟩, by decide +kernel⟩
theorem l_S_118 : zLV "SoleArrays" 118 "SoleArrays$Store" y_O_numberAt 3 := ⟨zt1 181 (by decide +kernel) rfl, zt1 182 (by decide +kernel) rfl, zt1 183 (by decide +kernel) rfl, ⟨by decide, by decide⟩, by decide +kernel⟩
theorem f_S_122 : zF "SoleArrays" 122 7 1 := ⟨_, _, _, rfl, by decide, in_U, zt1 95 (by decide +kernel) rfl⟩
theorem f_S_125 : zF "SoleArrays" 125 6 2 := ⟨_, _, _, rfl, by decide, in_O, zt1 67 (by decide +kernel) rfl⟩
theorem f_S_128 : zF "SoleArrays" 128 6 3 := ⟨_, _, _, rfl, by decide, in_O, zt1 69 (by decide +kernel) rfl⟩
theorem f_S_131 : zF "SoleArrays" 131 7 2 := ⟨_, _, _, rfl, by decide, in_U, zt1 97 (by decide +kernel) rfl⟩
theorem o_T_3 : Cond.methodLink "SoleArrays$Fault" 3 Lib.objectInit ∈ zTb := zt1 37 (by decide +kernel) rfl
theorem p_T_9 : zP "SoleArrays$Fault" 9 1 0 .int := ⟨_, _, _, _, k_T, by decide, zt1 38 (by decide +kernel) rfl, rfl, rfl⟩
theorem o_F_3 : Cond.methodLink "SoleArrays$Function" 3 Lib.objectInit ∈ zTb := zt2 89 (by decide +kernel) rfl
theorem q_F_9 : zPF "SoleArrays$Function" 9 2 1 (.array .int) := ⟨_, _, _, _, k_F, by decide, zt2 93 (by decide +kernel) rfl, rfl, rfl, rfl⟩
theorem q_F_15 : zPF "SoleArrays$Function" 15 2 2 (.array .int) := ⟨_, _, _, _, k_F, by decide, zt2 96 (by decide +kernel) rfl, rfl, rfl, rfl⟩
theorem q_F_18 : zPF "SoleArrays$Function" 18 2 3 (.array .int) := ⟨_, _, _, _, k_F, by decide, zt2 98 (by decide +kernel) rfl, rfl, rfl, rfl⟩
theorem p_F_21 : zP "SoleArrays$Function" 21 2 4 .int := ⟨_, _, _, _, k_F, by decide, zt2 100 (by decide +kernel) rfl, rfl, rfl⟩
theorem p_F_25 : zP "SoleArrays$Function" 25 2 5 .int := ⟨_, _, _, _, k_F, by decide, zt2 103 (by decide +kernel) rfl, rfl, rfl⟩
theorem p_F_28 : zP "SoleArrays$Function" 28 2 6 (.object "SoleArrays$Expression") := ⟨_, _, _, _, k_F, by decide, zt2 107 (by decide +kernel) rfl, rfl, rfl⟩
theorem q_F_32 : zPF "SoleArrays$Function" 32 2 0 .int := ⟨_, _, _, _, k_F, by decide, zt2 90 (by decide +kernel) rfl, rfl, rfl, rfl⟩
theorem f_F_21 : zF "SoleArrays$Function" 21 2 4 := ⟨_, _, _, rfl, by decide, in_F, zt2 100 (by decide +kernel) rfl⟩
theorem f_F_9 : zF "SoleArrays$Function" 9 2 1 := ⟨_, _, _, rfl, by decide, in_F, zt2 93 (by decide +kernel) rfl⟩
theorem f_F_15 : zF "SoleArrays$Function" 15 2 2 := ⟨_, _, _, rfl, by decide, in_F, zt2 96 (by decide +kernel) rfl⟩
theorem f_F_18 : zF "SoleArrays$Function" 18 2 3 := ⟨_, _, _, rfl, by decide, in_F, zt2 98 (by decide +kernel) rfl⟩
theorem o_E_3 : Cond.methodLink "SoleArrays$Expression" 3 Lib.objectInit ∈ zTb := zt2 165 (by decide +kernel) rfl
theorem q_E_11 : zPF "SoleArrays$Expression" 11 3 2 (.array (.object "SoleArrays$Expression")) := ⟨_, _, _, _, k_E, by decide, zt2 173 (by decide +kernel) rfl, rfl, rfl, rfl⟩
theorem p_E_15 : zP "SoleArrays$Expression" 15 3 3 .int := ⟨_, _, _, _, k_E, by decide, zt2 176 (by decide +kernel) rfl, rfl, rfl⟩
theorem p_E_19 : zP "SoleArrays$Expression" 19 3 4 .long := ⟨_, _, _, _, k_E, by decide, zt2 179 (by decide +kernel) rfl, rfl, rfl⟩
theorem p_E_23 : zP "SoleArrays$Expression" 23 3 5 .char := ⟨_, _, _, _, k_E, by decide, zt2 182 (by decide +kernel) rfl, rfl, rfl⟩
theorem p_E_27 : zP "SoleArrays$Expression" 27 3 6 .int := ⟨_, _, _, _, k_E, by decide, zt2 185 (by decide +kernel) rfl, rfl, rfl⟩
theorem p_E_30 : zP "SoleArrays$Expression" 30 3 7 .int := ⟨_, _, _, _, k_E, by decide, zt2 189 (by decide +kernel) rfl, rfl, rfl⟩
theorem p_E_33 : zP "SoleArrays$Expression" 33 3 8 .int := ⟨_, _, _, _, k_E, by decide, zt2 192 (by decide +kernel) rfl, rfl, rfl⟩
theorem p_E_36 : zP "SoleArrays$Expression" 36 3 9 (.object "SoleArrays$Function") := ⟨_, _, _, _, k_E, by decide, zt2 195 (by decide +kernel) rfl, rfl, rfl⟩
theorem q_E_40 : zPF "SoleArrays$Expression" 40 3 0 (.object "SoleArrays$Form") := ⟨_, _, _, _, k_E, by decide, zt2 168 (by decide +kernel) rfl, rfl, rfl, rfl⟩
theorem q_E_44 : zPF "SoleArrays$Expression" 44 3 1 .int := ⟨_, _, _, _, k_E, by decide, zt2 171 (by decide +kernel) rfl, rfl, rfl, rfl⟩
theorem f_E_15 : zF "SoleArrays$Expression" 15 3 3 := ⟨_, _, _, rfl, by decide, in_E, zt2 176 (by decide +kernel) rfl⟩
theorem f_E_11 : zF "SoleArrays$Expression" 11 3 2 := ⟨_, _, _, rfl, by decide, in_E, zt2 173 (by decide +kernel) rfl⟩
theorem o_R_3 : Cond.methodLink "SoleArrays$Reader" 3 Lib.objectInit ∈ zTb := zt2 38 (by decide +kernel) rfl
theorem p_R_9 : zP "SoleArrays$Reader" 9 4 3 .int := ⟨_, _, _, _, k_R, by decide, zt2 42 (by decide +kernel) rfl, rfl, rfl⟩
theorem q_R_15 : zPF "SoleArrays$Reader" 15 4 0 (.array .char) := ⟨_, _, _, _, k_R, by decide, zt2 39 (by decide +kernel) rfl, rfl, rfl, rfl⟩
theorem q_R_19 : zPF "SoleArrays$Reader" 19 4 1 .int := ⟨_, _, _, _, k_R, by decide, zt2 40 (by decide +kernel) rfl, rfl, rfl, rfl⟩
theorem q_R_22 : zPF "SoleArrays$Reader" 22 4 2 (.object "SoleArrays$Fault") := ⟨_, _, _, _, k_R, by decide, zt2 41 (by decide +kernel) rfl, rfl, rfl, rfl⟩
theorem n_R_26 : zNw "SoleArrays$Reader" 26 2 7 [.int 0, .null, .null, .null, .int 0, .int 0, .null] := ⟨_, _, _, _, k_F, zt2 56 (by decide +kernel) rfl, zt2 57 (by decide +kernel) rfl, ini_F, by decide⟩
theorem l_R_28 : zLV "SoleArrays$Reader" 28 "SoleArrays$Reader" y_R_takeOneOf 2 := ⟨zt2 58 (by decide +kernel) rfl, zt2 60 (by decide +kernel) rfl, ztp 2 (by decide +kernel) rfl, ⟨by decide, by decide⟩, by decide +kernel⟩
theorem l_R_32 : zLI "SoleArrays$Reader" 32 y_F_init 1 := ⟨zt2 86 (by decide +kernel) rfl, zt2 87 (by decide +kernel) rfl, rfl, ⟨by decide, by decide⟩, by decide +kernel⟩
theorem l_R_35 : zLV "SoleArrays$Reader" 35 "SoleArrays$Reader" y_R_take 1 := ⟨zt2 126 (by decide +kernel) rfl, zt2 128 (by decide +kernel) rfl, ztp 4 (by decide +kernel) rfl, ⟨by decide, by decide⟩, by decide +kernel⟩
theorem l_R_39 : zLV "SoleArrays$Reader" 39 "SoleArrays$Reader" y_R_next 0 := ⟨zt2 62 (by decide +kernel) rfl, zt2 64 (by decide +kernel) rfl, ztp 3 (by decide +kernel) rfl, ⟨by decide, by decide⟩, by decide +kernel⟩
theorem l_R_43 : zLV "SoleArrays$Reader" 43 "SoleArrays$Reader" y_R_takeCommaBefore 1 := ⟨zt2 130 (by decide +kernel) rfl, zt2 132 (by decide +kernel) rfl, ztp 5 (by decide +kernel) rfl, ⟨by decide, by decide⟩, by decide +kernel⟩
theorem l_R_46 : zLV "SoleArrays$Reader" 46 "SoleArrays$Reader" y_R_readParameter 1 := ⟨zt2 134 (by decide +kernel) rfl, zt2 136 (by decide +kernel) rfl, ztp 6 (by decide +kernel) rfl, ⟨by decide, by decide⟩, by decide +kernel⟩
theorem p_R_50 : zP "SoleArrays$Reader" 50 2 5 .int := ⟨_, _, _, _, k_F, by decide, zt2 104 (by decide +kernel) rfl, rfl, rfl⟩
theorem l_R_53 : zLV "SoleArrays$Reader" 53 "SoleArrays$Reader" y_R_readExpression 1 := ⟨zt2 142 (by decide +kernel) rfl, zt2 144 (by decide +kernel) rfl, ztp 7 (by decide +kernel) rfl, ⟨by decide, by decide⟩, by decide +kernel⟩
theorem p_R_57 : zP "SoleArrays$Reader" 57 2 6 (.object "SoleArrays$Expression") := ⟨_, _, _, _, k_F, by decide, zt2 109 (by decide +kernel) rfl, rfl, rfl⟩
theorem f_R_9 : zF "SoleArrays$Reader" 9 4 3 := ⟨_, _, _, rfl, by decide, in_R, zt2 42 (by decide +kernel) rfl⟩
theorem f_R_19 : zF "SoleArrays$Reader" 19 4 1 := ⟨_, _, _, rfl, by decide, in_R, zt2 40 (by decide +kernel) rfl⟩
theorem f_R_22 : zF "SoleArrays$Reader" 22 4 2 := ⟨_, _, _, rfl, by decide, in_R, zt2 41 (by decide +kernel) rfl⟩
theorem l_R_61 : zLV "SoleArrays$Reader" 61 "SoleArrays$Fault" y_T_ill 1 := ⟨zt2 66 (by decide +kernel) rfl, zt2 67 (by decide +kernel) rfl, zt2 68 (by decide +kernel) rfl, ⟨by decide, by decide⟩, by decide +kernel⟩
theorem l_R_66 : zLV "SoleArrays$Reader" 66 "SoleArrays$Function" y_F_addParameter 3 := ⟨zt2 138 (by decide +kernel) rfl, zt2 139 (by decide +kernel) rfl, zt2 140 (by decide +kernel) rfl, ⟨by decide, by decide⟩, by decide +kernel⟩
theorem l_R_70 : zLV "SoleArrays$Reader" 70 "SoleArrays$Reader" y_R_refuse 0 := ⟨zt2 146 (by decide +kernel) rfl, zt2 148 (by decide +kernel) rfl, ztp 8 (by decide +kernel) rfl, ⟨by decide, by decide⟩, by decide +kernel⟩
theorem l_R_74 : zLV "SoleArrays$Reader" 74 "SoleArrays$Reader" y_R_nextIsOneOf 2 := ⟨zt2 150 (by decide +kernel) rfl, zt2 152 (by decide +kernel) rfl, ztp 9 (by decide +kernel) rfl, ⟨by decide, by decide⟩, by decide +kernel⟩
theorem l_R_78 : zLV "SoleArrays$Reader" 78 "SoleArrays$Reader" y_R_readDigits 0 := ⟨zt2 154 (by decide +kernel) rfl, zt2 156 (by decide +kernel) rfl, ztp 10 (by decide +kernel) rfl, ⟨by decide, by decide⟩, by decide +kernel⟩
theorem l_R_81 : zLV "SoleArrays$Reader" 81 "SoleArrays$Reader" y_R_readFromVariable 1 := ⟨zt2 220 (by decide +kernel) rfl, zt2 222 (by decide +kernel) rfl, ztp 11 (by decide +kernel) rfl, ⟨by decide, by decide⟩, by decide +kernel⟩
theorem l_R_84 : zLV "SoleArrays$Reader" 84 "SoleArrays$Reader" y_R_readCall 1 := ⟨zt3 2 (by decide +kernel) rfl, zt3 4 (by decide +kernel) rfl, ztp 14 (by decide +kernel) rfl, ⟨by decide, by decide⟩, by decide +kernel⟩
theorem l_R_87 : zLV "SoleArrays$Reader" 87 "SoleArrays$Reader" y_R_readOperation 1 := ⟨zt3 8 (by decide +kernel) rfl, zt3 10 (by decide +kernel) rfl, ztp 15 (by decide +kernel) rfl, ⟨by decide, by decide⟩, by decide +kernel⟩
theorem l_R_90 : zLV "SoleArrays$Reader" 90 "SoleArrays$Reader" y_R_readChoice 1 := ⟨zt3 18 (by decide +kernel) rfl, zt3 20 (by decide +kernel) rfl, ztp 17 (by decide +kernel) rfl, ⟨by decide, by decide⟩, by decide +kernel⟩
theorem l_R_93 : zLV "SoleArrays$Reader" 93 "SoleArrays$Reader" y_R_readBinding 1 := ⟨zt3 24 (by decide +kernel) rfl, zt3 26 (by decide +kernel) rfl, ztp 18 (by decide +kernel) rfl, ⟨by decide, by decide⟩, by decide +kernel⟩
theorem l_R_96 : zLV "SoleArrays$Reader" 96 "SoleArrays$Reader" y_R_readNewRow 1 := ⟨zt3 34 (by decide +kernel) rfl, zt3 36 (by decide +kernel) rfl, ztp 20 (by decide +kernel) rfl, ⟨by decide, by decide⟩, by decide +kernel⟩
theorem l_R_99 : zLV "SoleArrays$Reader" 99 "SoleArrays$Reader" y_R_readNewTable 1 := ⟨zt3 40 (by decide +kernel) rfl, zt3 42 (by decide +kernel) rfl, ztp 21 (by decide +kernel) rfl, ⟨by decide, by decide⟩, by decide +kernel⟩
theorem l_R_108 : zLV "SoleArrays$Reader" 108 "SoleArrays$Reader" y_R_readSignAndVariable 1 := ⟨zt3 30 (by decide +kernel) rfl, zt3 32 (by decide +kernel) rfl, ztp 19 (by decide +kernel) rfl, ⟨by decide, by decide⟩, by decide +kernel⟩
theorem l_R_118 : zLV "SoleArrays$Reader" 118 "SoleArrays$Reader" y_R_readGivingUp 1 := ⟨zt3 52 (by decide +kernel) rfl, zt3 54 (by decide +kernel) rfl, ztp 22 (by decide +kernel) rfl, ⟨by decide, by decide⟩, by decide +kernel⟩
theorem n_R_121 : zNw "SoleArrays$Reader" 121 3 10 [.null, .int 0, .null, .int 0, .long 0, .int 0, .int 0, .int 0, .int 0, .null] := ⟨_, _, _, _, k_E, zt2 158 (by decide +kernel) rfl, zt2 159 (by decide +kernel) rfl, ini_E, by decide⟩
theorem l_R_126 : zLI "SoleArrays$Reader" 126 y_E_init 2 := ⟨zt2 162 (by decide +kernel) rfl, zt2 163 (by decide +kernel) rfl, rfl, ⟨by decide, by decide⟩, by decide +kernel⟩
theorem f_R_129 : zF "SoleArrays$Reader" 129 3 4 := ⟨_, _, _, rfl, by decide, in_E, zt2 181 (by decide +kernel) rfl⟩
theorem p_R_129 : zP "SoleArrays$Reader" 129 3 4 .long := ⟨_, _, _, _, k_E, by decide, zt2 181 (by decide +kernel) rfl, rfl, rfl⟩
theorem l_R_135 : zLV "SoleArrays$Reader" 135 "SoleArrays$Reader" y_R_readReading 2 := ⟨zt2 224 (by decide +kernel) rfl, zt2 226 (by decide +kernel) rfl, ztp 12 (by decide +kernel) rfl, ⟨by decide, by decide⟩, by decide +kernel⟩
theorem l_R_139 : zLV "SoleArrays$Reader" 139 "SoleArrays$Reader" y_R_readUpdate 2 := ⟨zt2 234 (by decide +kernel) rfl, zt2 236 (by decide +kernel) rfl, ztp 13 (by decide +kernel) rfl, ⟨by decide, by decide⟩, by decide +kernel⟩
theorem p_R_145 : zP "SoleArrays$Reader" 145 3 6 .int := ⟨_, _, _, _, k_E, by decide, zt2 188 (by decide +kernel) rfl, rfl, rfl⟩
theorem p_R_148 : zP "SoleArrays$Reader" 148 3 7 .int := ⟨_, _, _, _, k_E, by decide, zt2 191 (by decide +kernel) rfl, rfl, rfl⟩
theorem l_R_154 : zLV "SoleArrays$Reader" 154 "SoleArrays$Expression" y_E_add 1 := ⟨zt2 230 (by decide +kernel) rfl, zt2 231 (by decide +kernel) rfl, zt2 232 (by decide +kernel) rfl, ⟨by decide, by decide⟩, by decide +kernel⟩
theorem p_R_164 : zP "SoleArrays$Reader" 164 3 8 .int := ⟨_, _, _, _, k_E, by decide, zt2 194 (by decide +kernel) rfl, rfl, rfl⟩
theorem l_R_170 : zLV "SoleArrays$Reader" 170 "SoleArrays$Reader" y_R_takeOperation 0 := ⟨zt3 14 (by decide +kernel) rfl, zt3 16 (by decide +kernel) rfl, ztp 16 (by decide +kernel) rfl, ⟨by decide, by decide⟩, by decide +kernel⟩
theorem p_R_173 : zP "SoleArrays$Reader" 173 3 5 .char := ⟨_, _, _, _, k_E, by decide, zt2 184 (by decide +kernel) rfl, rfl, rfl⟩
theorem f_R_15 : zF "SoleArrays$Reader" 15 4 0 := ⟨_, _, _, rfl, by decide, in_R, zt2 39 (by decide +kernel) rfl⟩
theorem o_C_3 : Cond.methodLink "SoleArrays$Checker" 3 Lib.objectInit ∈ zTb := zt3 63 (by decide +kernel) rfl
theorem q_C_9 : zPF "SoleArrays$Checker" 9 5 3 (.array .int) := ⟨_, _, _, _, k_C, by decide, zt3 67 (by decide +kernel) rfl, rfl, rfl, rfl⟩
theorem p_C_15 : zP "SoleArrays$Checker" 15 5 4 .int := ⟨_, _, _, _, k_C, by decide, zt3 68 (by decide +kernel) rfl, rfl, rfl⟩
theorem q_C_19 : zPF "SoleArrays$Checker" 19 5 0 (.object "SoleArrays$Function") := ⟨_, _, _, _, k_C, by decide, zt3 64 (by decide +kernel) rfl, rfl, rfl, rfl⟩
theorem q_C_23 : zPF "SoleArrays$Checker" 23 5 1 (.array (.object "SoleArrays$Function")) := ⟨_, _, _, _, k_C, by decide, zt3 65 (by decide +kernel) rfl, rfl, rfl, rfl⟩
theorem q_C_27 : zPF "SoleArrays$Checker" 27 5 2 (.object "SoleArrays$Fault") := ⟨_, _, _, _, k_C, by decide, zt3 66 (by decide +kernel) rfl, rfl, rfl, rfl⟩
theorem f_C_23 : zF "SoleArrays$Checker" 23 5 1 := ⟨_, _, _, rfl, by decide, in_C, zt3 65 (by decide +kernel) rfl⟩
theorem f_C_19 : zF "SoleArrays$Checker" 19 5 0 := ⟨_, _, _, rfl, by decide, in_C, zt3 64 (by decide +kernel) rfl⟩
theorem f_C_31 : zF "SoleArrays$Checker" 31 2 0 := ⟨_, _, _, rfl, by decide, in_F, zt2 91 (by decide +kernel) rfl⟩
theorem f_C_27 : zF "SoleArrays$Checker" 27 5 2 := ⟨_, _, _, rfl, by decide, in_C, zt3 66 (by decide +kernel) rfl⟩
theorem l_C_36 : zLV "SoleArrays$Checker" 36 "SoleArrays$Fault" y_T_wrong 1 := ⟨zt3 84 (by decide +kernel) rfl, zt3 85 (by decide +kernel) rfl, zt3 86 (by decide +kernel) rfl, ⟨by decide, by decide⟩, by decide +kernel⟩
theorem f_C_9 : zF "SoleArrays$Checker" 9 5 3 := ⟨_, _, _, rfl, by decide, in_C, zt3 67 (by decide +kernel) rfl⟩
theorem f_C_48 : zF "SoleArrays$Checker" 48 2 4 := ⟨_, _, _, rfl, by decide, in_F, zt2 102 (by decide +kernel) rfl⟩
theorem f_C_51 : zF "SoleArrays$Checker" 51 2 1 := ⟨_, _, _, rfl, by decide, in_F, zt2 95 (by decide +kernel) rfl⟩
theorem f_C_54 : zF "SoleArrays$Checker" 54 2 2 := ⟨_, _, _, rfl, by decide, in_F, zt2 97 (by decide +kernel) rfl⟩
theorem l_C_57 : zLV "SoleArrays$Checker" 57 "SoleArrays$Checker" y_C_refuseIfBound 2 := ⟨zt3 107 (by decide +kernel) rfl, zt3 109 (by decide +kernel) rfl, ztp 23 (by decide +kernel) rfl, ⟨by decide, by decide⟩, by decide +kernel⟩
theorem f_C_61 : zF "SoleArrays$Checker" 61 2 3 := ⟨_, _, _, rfl, by decide, in_F, zt2 99 (by decide +kernel) rfl⟩
theorem l_C_62 : zLV "SoleArrays$Checker" 62 "SoleArrays$Checker" y_C_bind 2 := ⟨zt3 111 (by decide +kernel) rfl, zt3 113 (by decide +kernel) rfl, ztp 24 (by decide +kernel) rfl, ⟨by decide, by decide⟩, by decide +kernel⟩
theorem f_C_65 : zF "SoleArrays$Checker" 65 2 6 := ⟨_, _, _, rfl, by decide, in_F, zt2 110 (by decide +kernel) rfl⟩
theorem l_C_69 : zLV "SoleArrays$Checker" 69 "SoleArrays$Checker" y_C_look 1 := ⟨zt3 116 (by decide +kernel) rfl, zt3 118 (by decide +kernel) rfl, ztp 25 (by decide +kernel) rfl, ⟨by decide, by decide⟩, by decide +kernel⟩
theorem f_C_73 : zF "SoleArrays$Checker" 73 2 5 := ⟨_, _, _, rfl, by decide, in_F, zt2 105 (by decide +kernel) rfl⟩
theorem f_C_76 : zF "SoleArrays$Checker" 76 3 1 := ⟨_, _, _, rfl, by decide, in_E, zt2 172 (by decide +kernel) rfl⟩
theorem l_C_81 : zLV "SoleArrays$Checker" 81 "SoleArrays$Checker" y_C_refuseIfOwned 2 := ⟨zt3 152 (by decide +kernel) rfl, zt3 154 (by decide +kernel) rfl, ztp 32 (by decide +kernel) rfl, ⟨by decide, by decide⟩, by decide +kernel⟩
theorem f_C_89 : zF "SoleArrays$Checker" 89 3 0 := ⟨_, _, _, rfl, by decide, in_E, zt2 169 (by decide +kernel) rfl⟩
theorem l_C_99 : zLV "SoleArrays$Checker" 99 "SoleArrays$Checker" y_C_useUp 3 := ⟨zt3 128 (by decide +kernel) rfl, zt3 130 (by decide +kernel) rfl, ztp 26 (by decide +kernel) rfl, ⟨by decide, by decide⟩, by decide +kernel⟩
theorem l_C_103 : zLV "SoleArrays$Checker" 103 "SoleArrays$Checker" y_C_lookAtChoice 1 := ⟨zt3 140 (by decide +kernel) rfl, zt3 142 (by decide +kernel) rfl, ztp 29 (by decide +kernel) rfl, ⟨by decide, by decide⟩, by decide +kernel⟩
theorem l_C_106 : zLV "SoleArrays$Checker" 106 "SoleArrays$Checker" y_C_lookAtBinding 1 := ⟨zt3 148 (by decide +kernel) rfl, zt3 150 (by decide +kernel) rfl, ztp 31 (by decide +kernel) rfl, ⟨by decide, by decide⟩, by decide +kernel⟩
theorem l_C_109 : zLV "SoleArrays$Checker" 109 "SoleArrays$Checker" y_C_lookAtNumbers 1 := ⟨zt3 156 (by decide +kernel) rfl, zt3 158 (by decide +kernel) rfl, ztp 33 (by decide +kernel) rfl, ⟨by decide, by decide⟩, by decide +kernel⟩
theorem f_C_113 : zF "SoleArrays$Checker" 113 3 3 := ⟨_, _, _, rfl, by decide, in_E, zt2 177 (by decide +kernel) rfl⟩
theorem l_C_116 : zLV "SoleArrays$Checker" 116 "SoleArrays$Checker" y_C_lookAtVariable 3 := ⟨zt3 132 (by decide +kernel) rfl, zt3 134 (by decide +kernel) rfl, ztp 27 (by decide +kernel) rfl, ⟨by decide, by decide⟩, by decide +kernel⟩
theorem f_C_119 : zF "SoleArrays$Checker" 119 3 2 := ⟨_, _, _, rfl, by decide, in_E, zt2 175 (by decide +kernel) rfl⟩
theorem l_C_123 : zLV "SoleArrays$Checker" 123 "SoleArrays$Checker" y_C_lookAtCall 1 := ⟨zt3 160 (by decide +kernel) rfl, zt3 162 (by decide +kernel) rfl, ztp 34 (by decide +kernel) rfl, ⟨by decide, by decide⟩, by decide +kernel⟩
theorem l_C_126 : zLV "SoleArrays$Checker" 126 "SoleArrays$Checker" y_C_lookAtPart 2 := ⟨zt3 144 (by decide +kernel) rfl, zt3 146 (by decide +kernel) rfl, ztp 30 (by decide +kernel) rfl, ⟨by decide, by decide⟩, by decide +kernel⟩
theorem f_C_15 : zF "SoleArrays$Checker" 15 5 4 := ⟨_, _, _, rfl, by decide, in_C, zt3 68 (by decide +kernel) rfl⟩
theorem f_C_130 : zF "SoleArrays$Checker" 130 3 6 := ⟨_, _, _, rfl, by decide, in_E, zt2 187 (by decide +kernel) rfl⟩
theorem f_C_133 : zF "SoleArrays$Checker" 133 3 7 := ⟨_, _, _, rfl, by decide, in_E, zt2 190 (by decide +kernel) rfl⟩
theorem f_C_136 : zF "SoleArrays$Checker" 136 3 8 := ⟨_, _, _, rfl, by decide, in_E, zt2 193 (by decide +kernel) rfl⟩
theorem p_C_139 : zP "SoleArrays$Checker" 139 3 9 (.object "SoleArrays$Function") := ⟨_, _, _, _, k_E, by decide, zt2 196 (by decide +kernel) rfl, rfl, rfl⟩
theorem l_C_146 : zLV "SoleArrays$Checker" 146 "SoleArrays$Checker" y_C_isOwned 1 := ⟨zt3 136 (by decide +kernel) rfl, zt3 138 (by decide +kernel) rfl, ztp 28 (by decide +kernel) rfl, ⟨by decide, by decide⟩, by decide +kernel⟩
theorem o_O_3 : Cond.methodLink "SoleArrays$Store" 3 Lib.objectInit ∈ zTb := zt1 57 (by decide +kernel) rfl
theorem q_O_9 : zPF "SoleArrays$Store" 9 6 0 (.array .int) := ⟨_, _, _, _, k_O, by decide, zt1 60 (by decide +kernel) rfl, rfl, rfl, rfl⟩
theorem q_O_15 : zPF "SoleArrays$Store" 15 6 1 (.array .int) := ⟨_, _, _, _, k_O, by decide, zt1 63 (by decide +kernel) rfl, rfl, rfl, rfl⟩
theorem p_O_18 : zP "SoleArrays$Store" 18 6 2 .int := ⟨_, _, _, _, k_O, by decide, zt1 66 (by decide +kernel) rfl, rfl, rfl⟩
theorem p_O_22 : zP "SoleArrays$Store" 22 6 3 .int := ⟨_, _, _, _, k_O, by decide, zt1 68 (by decide +kernel) rfl, rfl, rfl⟩
theorem q_O_27 : zPF "SoleArrays$Store" 27 6 4 (.array (.array .long)) := ⟨_, _, _, _, k_O, by decide, zt1 70 (by decide +kernel) rfl, rfl, rfl, rfl⟩
theorem q_O_30 : zPF "SoleArrays$Store" 30 6 5 (.array .boolean) := ⟨_, _, _, _, k_O, by decide, zt1 71 (by decide +kernel) rfl, rfl, rfl, rfl⟩
theorem p_O_34 : zP "SoleArrays$Store" 34 6 6 .int := ⟨_, _, _, _, k_O, by decide, zt1 72 (by decide +kernel) rfl, rfl, rfl⟩
theorem f_O_30 : zF "SoleArrays$Store" 30 6 5 := ⟨_, _, _, rfl, by decide, in_O, zt1 71 (by decide +kernel) rfl⟩
theorem l_O_51 : zLV "SoleArrays$Store" 51 "SoleArrays$Store" y_O_firstFree 0 := ⟨zt4 8 (by decide +kernel) rfl, zt4 10 (by decide +kernel) rfl, ztp 37 (by decide +kernel) rfl, ⟨by decide, by decide⟩, by decide +kernel⟩
theorem f_O_9 : zF "SoleArrays$Store" 9 6 0 := ⟨_, _, _, rfl, by decide, in_O, zt1 60 (by decide +kernel) rfl⟩
theorem f_O_15 : zF "SoleArrays$Store" 15 6 1 := ⟨_, _, _, rfl, by decide, in_O, zt1 63 (by decide +kernel) rfl⟩
theorem f_O_27 : zF "SoleArrays$Store" 27 6 4 := ⟨_, _, _, rfl, by decide, in_O, zt1 70 (by decide +kernel) rfl⟩
theorem f_O_34 : zF "SoleArrays$Store" 34 6 6 := ⟨_, _, _, rfl, by decide, in_O, zt1 72 (by decide +kernel) rfl⟩
theorem f_O_18 : zF "SoleArrays$Store" 18 6 2 := ⟨_, _, _, rfl, by decide, in_O, zt1 66 (by decide +kernel) rfl⟩
theorem f_O_22 : zF "SoleArrays$Store" 22 6 3 := ⟨_, _, _, rfl, by decide, in_O, zt1 68 (by decide +kernel) rfl⟩
theorem l_O_69 : zLV "SoleArrays$Store" 69 "SoleArrays$Store" y_O_make 2 := ⟨zt4 40 (by decide +kernel) rfl, zt3 238 (by decide +kernel) rfl, zt3 239 (by decide +kernel) rfl, ⟨by decide, by decide⟩, by decide +kernel⟩
theorem l_O_79 : zLV "SoleArrays$Store" 79 "SoleArrays$Store" y_O_indexOf 3 := ⟨zt1 185 (by decide +kernel) rfl, zt1 187 (by decide +kernel) rfl, ztp 0 (by decide +kernel) rfl, ⟨by decide, by decide⟩, by decide +kernel⟩
theorem l_O_83 : zLV "SoleArrays$Store" 83 "SoleArrays$Store" y_O_has 3 := ⟨zt1 189 (by decide +kernel) rfl, zt1 178 (by decide +kernel) rfl, zt1 179 (by decide +kernel) rfl, ⟨by decide, by decide⟩, by decide +kernel⟩
theorem o_U_3 : Cond.methodLink "SoleArrays$Runner" 3 Lib.objectInit ∈ zTb := zt1 51 (by decide +kernel) rfl
theorem n_U_9 : zNw "SoleArrays$Runner" 9 6 7 [.null, .null, .int 0, .int 0, .null, .null, .int 0] := ⟨_, _, _, _, k_O, zt1 52 (by decide +kernel) rfl, zt1 53 (by decide +kernel) rfl, ini_O, by decide⟩
theorem l_U_11 : zLIN "SoleArrays$Runner" 11 y_O_init 0 := ⟨⟨"SoleArrays", zt1 54 (by decide +kernel) rfl⟩, zt1 55 (by decide +kernel) rfl, rfl, ⟨by decide, by decide⟩, by decide +kernel⟩
theorem q_U_12 : zPF "SoleArrays$Runner" 12 7 0 (.object "SoleArrays$Store") := ⟨_, _, _, _, k_U, by decide, zt1 92 (by decide +kernel) rfl, rfl, rfl, rfl⟩
theorem p_U_18 : zP "SoleArrays$Runner" 18 7 1 .int := ⟨_, _, _, _, k_U, by decide, zt1 94 (by decide +kernel) rfl, rfl, rfl⟩
theorem p_U_22 : zP "SoleArrays$Runner" 22 7 2 .int := ⟨_, _, _, _, k_U, by decide, zt1 96 (by decide +kernel) rfl, rfl, rfl⟩
theorem q_U_27 : zPF "SoleArrays$Runner" 27 7 3 (.array (.array .long)) := ⟨_, _, _, _, k_U, by decide, zt1 98 (by decide +kernel) rfl, rfl, rfl, rfl⟩
theorem p_U_30 : zP "SoleArrays$Runner" 30 7 4 .int := ⟨_, _, _, _, k_U, by decide, zt1 99 (by decide +kernel) rfl, rfl, rfl⟩
theorem f_U_12 : zF "SoleArrays$Runner" 12 7 0 := ⟨_, _, _, rfl, by decide, in_U, zt1 92 (by decide +kernel) rfl⟩
theorem l_U_33 : zLV "SoleArrays$Runner" 33 "SoleArrays$Store" y_O_empty 0 := ⟨zt3 189 (by decide +kernel) rfl, zt3 190 (by decide +kernel) rfl, zt3 191 (by decide +kernel) rfl, ⟨by decide, by decide⟩, by decide +kernel⟩
theorem f_U_36 : zF "SoleArrays$Runner" 36 2 4 := ⟨_, _, _, rfl, by decide, in_F, zt2 101 (by decide +kernel) rfl⟩
theorem f_U_27 : zF "SoleArrays$Runner" 27 7 3 := ⟨_, _, _, rfl, by decide, in_U, zt1 98 (by decide +kernel) rfl⟩
theorem f_U_41 : zF "SoleArrays$Runner" 41 2 1 := ⟨_, _, _, rfl, by decide, in_F, zt2 94 (by decide +kernel) rfl⟩
theorem f_U_45 : zF "SoleArrays$Runner" 45 2 6 := ⟨_, _, _, rfl, by decide, in_F, zt2 108 (by decide +kernel) rfl⟩
theorem l_U_49 : zLV "SoleArrays$Runner" 49 "SoleArrays$Runner" y_U_work 3 := ⟨zt3 193 (by decide +kernel) rfl, zt3 195 (by decide +kernel) rfl, ztp 36 (by decide +kernel) rfl, ⟨by decide, by decide⟩, by decide +kernel⟩
theorem f_U_18 : zF "SoleArrays$Runner" 18 7 1 := ⟨_, _, _, rfl, by decide, in_U, zt1 94 (by decide +kernel) rfl⟩
theorem f_U_65 : zF "SoleArrays$Runner" 65 3 0 := ⟨_, _, _, rfl, by decide, in_E, zt2 170 (by decide +kernel) rfl⟩
theorem f_U_77 : zF "SoleArrays$Runner" 77 3 4 := ⟨_, _, _, rfl, by decide, in_E, zt2 180 (by decide +kernel) rfl⟩
theorem f_U_81 : zF "SoleArrays$Runner" 81 3 6 := ⟨_, _, _, rfl, by decide, in_E, zt2 186 (by decide +kernel) rfl⟩
theorem f_U_84 : zF "SoleArrays$Runner" 84 3 5 := ⟨_, _, _, rfl, by decide, in_E, zt2 183 (by decide +kernel) rfl⟩
theorem f_U_88 : zF "SoleArrays$Runner" 88 3 2 := ⟨_, _, _, rfl, by decide, in_E, zt2 174 (by decide +kernel) rfl⟩
theorem l_U_92 : zLS "SoleArrays$Runner" 92 y_U_operate 3 := ⟨zt3 215 (by decide +kernel) rfl, zt3 216 (by decide +kernel) rfl, ini_U, ⟨by decide, by decide⟩, by decide +kernel⟩
theorem l_U_96 : zLV "SoleArrays$Runner" 96 "SoleArrays$Store" y_O_make 2 := ⟨zt3 237 (by decide +kernel) rfl, zt3 238 (by decide +kernel) rfl, zt3 239 (by decide +kernel) rfl, ⟨by decide, by decide⟩, by decide +kernel⟩
theorem l_U_100 : zLV "SoleArrays$Runner" 100 "SoleArrays$Runner" y_U_readNumber 3 := ⟨zt4 19 (by decide +kernel) rfl, zt4 21 (by decide +kernel) rfl, ztp 38 (by decide +kernel) rfl, ⟨by decide, by decide⟩, by decide +kernel⟩
theorem l_U_103 : zLV "SoleArrays$Runner" 103 "SoleArrays$Runner" y_U_update 3 := ⟨zt4 28 (by decide +kernel) rfl, zt4 30 (by decide +kernel) rfl, ztp 40 (by decide +kernel) rfl, ⟨by decide, by decide⟩, by decide +kernel⟩
theorem f_U_106 : zF "SoleArrays$Runner" 106 6 0 := ⟨_, _, _, rfl, by decide, in_O, zt1 61 (by decide +kernel) rfl⟩
theorem l_U_109 : zLV "SoleArrays$Runner" 109 "SoleArrays$Runner" y_U_arrayOf 2 := ⟨zt4 23 (by decide +kernel) rfl, zt4 25 (by decide +kernel) rfl, ztp 39 (by decide +kernel) rfl, ⟨by decide, by decide⟩, by decide +kernel⟩
theorem f_U_113 : zF "SoleArrays$Runner" 113 6 1 := ⟨_, _, _, rfl, by decide, in_O, zt1 64 (by decide +kernel) rfl⟩
theorem l_U_116 : zLV "SoleArrays$Runner" 116 "SoleArrays$Store" y_O_copy 1 := ⟨zt4 36 (by decide +kernel) rfl, zt4 37 (by decide +kernel) rfl, zt4 38 (by decide +kernel) rfl, ⟨by decide, by decide⟩, by decide +kernel⟩
theorem l_U_120 : zLV "SoleArrays$Runner" 120 "SoleArrays$Store" y_O_giveUp 1 := ⟨zt4 44 (by decide +kernel) rfl, zt4 45 (by decide +kernel) rfl, zt4 46 (by decide +kernel) rfl, ⟨by decide, by decide⟩, by decide +kernel⟩
theorem l_U_124 : zLV "SoleArrays$Runner" 124 "SoleArrays$Runner" y_U_call 3 := ⟨zt4 48 (by decide +kernel) rfl, zt4 50 (by decide +kernel) rfl, ztp 41 (by decide +kernel) rfl, ⟨by decide, by decide⟩, by decide +kernel⟩
theorem l_U_127 : zLS "SoleArrays$Runner" 127 y_U_divide 2 := ⟨zt3 218 (by decide +kernel) rfl, zt3 219 (by decide +kernel) rfl, ini_U, ⟨by decide, by decide⟩, by decide +kernel⟩
theorem f_U_136 : zF "SoleArrays$Runner" 136 3 3 := ⟨_, _, _, rfl, by decide, in_E, zt2 178 (by decide +kernel) rfl⟩
theorem l_U_139 : zLV "SoleArrays$Runner" 139 "SoleArrays$Store" y_O_numberAt 3 := ⟨zt4 27 (by decide +kernel) rfl, zt1 182 (by decide +kernel) rfl, zt1 183 (by decide +kernel) rfl, ⟨by decide, by decide⟩, by decide +kernel⟩
theorem l_U_143 : zLV "SoleArrays$Runner" 143 "SoleArrays$Store" y_O_put 4 := ⟨zt4 32 (by decide +kernel) rfl, zt4 33 (by decide +kernel) rfl, zt4 34 (by decide +kernel) rfl, ⟨by decide, by decide⟩, by decide +kernel⟩
theorem f_U_22 : zF "SoleArrays$Runner" 22 7 2 := ⟨_, _, _, rfl, by decide, in_U, zt1 96 (by decide +kernel) rfl⟩
theorem f_U_147 : zF "SoleArrays$Runner" 147 3 9 := ⟨_, _, _, rfl, by decide, in_E, zt2 197 (by decide +kernel) rfl⟩
theorem f_U_30 : zF "SoleArrays$Runner" 30 7 4 := ⟨_, _, _, rfl, by decide, in_U, zt1 99 (by decide +kernel) rfl⟩
end
section
theorem l_L_7 : zLV "SoleArraysLaw" 7 "SoleArrays" y_S_define 0 := ⟨zt2 29 (by decide +kernel) rfl, zt2 30 (by decide +kernel) rfl, zt2 31 (by decide +kernel) rfl, ⟨by decide, by decide⟩, by decide +kernel⟩
theorem l_L_17 : zLV "SoleArraysLaw" 17 "SoleArrays" y_S_run 1 := ⟨zt3 170 (by decide +kernel) rfl, zt3 171 (by decide +kernel) rfl, zt3 172 (by decide +kernel) rfl, ⟨by decide, by decide⟩, by decide +kernel⟩
theorem n_L_8 : zNw "SoleArraysLaw" 8 0 10 [.null, .null, .null, .null, .null, .int 0, .int 0, .int 0, .int 0, .long 0] := ⟨_, _, _, _, k_S, zt1 24 (by decide +kernel) rfl, zt1 25 (by decide +kernel) rfl, ini_S, by decide⟩
theorem l_L_27 : zLI "SoleArraysLaw" 27 y_S_init 0 := ⟨zt1 26 (by decide +kernel) rfl, zt1 27 (by decide +kernel) rfl, rfl, ⟨by decide, by decide⟩, by decide +kernel⟩
theorem n_L_28 : zNw "SoleArraysLaw" 28 8 51 [.int 0, .int 0, .int 0, .null, .int 0, .int 0, .int 0, .null, .null, .null, .null, .null, .int 0, .null, .null, .null, .null, .null, .null, .int 0, .null, .null, .null, .null, .null, .null, .int 0, .int 0, .int 0, .null, .null, .null, .int 0, .int 0, .null, .null, .int 0, .null, .null, .int 0, .int 0, .int 0, .int 0, .int 0, .int 0, .null, .int 0, .long 0, .int 0, .int 0, .null] := ⟨_, _, _, _, k_M, zt4 53 (by decide +kernel) rfl, zt4 54 (by decide +kernel) rfl, ini_M, by decide⟩
theorem l_L_30 : zLI "SoleArraysLaw" 30 y_M_init 0 := ⟨zt4 55 (by decide +kernel) rfl, zt4 56 (by decide +kernel) rfl, rfl, ⟨by decide, by decide⟩, by decide +kernel⟩
theorem l_L_31 : zLV "SoleArraysLaw" 31 "SoleArrays" y_S_type 1 := ⟨zt1 142 (by decide +kernel) rfl, zt1 143 (by decide +kernel) rfl, zt1 144 (by decide +kernel) rfl, ⟨by decide, by decide⟩, by decide +kernel⟩
theorem l_L_35 : zLV "SoleArraysLaw" 35 "SoleArraysModel" y_M_type 1 := ⟨zt4 217 (by decide +kernel) rfl, zt4 218 (by decide +kernel) rfl, zt4 219 (by decide +kernel) rfl, ⟨by decide, by decide⟩, by decide +kernel⟩
theorem l_L_36 : zLS "SoleArraysLaw" 36 y_L_define 2 := ⟨zt2 24 (by decide +kernel) rfl, zt2 25 (by decide +kernel) rfl, ini_L, ⟨by decide, by decide⟩, by decide +kernel⟩
theorem l_L_41 : zLV "SoleArraysLaw" 41 "SoleArraysModel" y_M_define 0 := ⟨zt4 221 (by decide +kernel) rfl, zt4 222 (by decide +kernel) rfl, zt4 223 (by decide +kernel) rfl, ⟨by decide, by decide⟩, by decide +kernel⟩
theorem l_L_42 : zLV "SoleArraysLaw" 42 "SoleArraysModel" y_M_thrown 0 := ⟨zt4 213 (by decide +kernel) rfl, zt4 214 (by decide +kernel) rfl, zt4 215 (by decide +kernel) rfl, ⟨by decide, by decide⟩, by decide +kernel⟩
theorem l_L_45 : zLV "SoleArraysLaw" 45 "SoleArrays" y_S_place 0 := ⟨zt1 146 (by decide +kernel) rfl, zt1 147 (by decide +kernel) rfl, zt1 148 (by decide +kernel) rfl, ⟨by decide, by decide⟩, by decide +kernel⟩
theorem l_L_48 : zLV "SoleArraysLaw" 48 "SoleArraysModel" y_M_place 0 := ⟨zt5 81 (by decide +kernel) rfl, zt5 82 (by decide +kernel) rfl, zt5 83 (by decide +kernel) rfl, ⟨by decide, by decide⟩, by decide +kernel⟩
theorem l_L_49 : zLV "SoleArraysLaw" 49 "SoleArrays" y_S_clear 0 := ⟨zt1 150 (by decide +kernel) rfl, zt1 151 (by decide +kernel) rfl, zt1 152 (by decide +kernel) rfl, ⟨by decide, by decide⟩, by decide +kernel⟩
theorem l_L_52 : zLV "SoleArraysLaw" 52 "SoleArraysModel" y_M_clear 0 := ⟨zt5 85 (by decide +kernel) rfl, zt5 86 (by decide +kernel) rfl, zt5 87 (by decide +kernel) rfl, ⟨by decide, by decide⟩, by decide +kernel⟩
theorem l_L_55 : zLV "SoleArraysLaw" 55 "SoleArrays" y_S_argument 2 := ⟨zt1 154 (by decide +kernel) rfl, zt1 155 (by decide +kernel) rfl, zt1 156 (by decide +kernel) rfl, ⟨by decide, by decide⟩, by decide +kernel⟩
theorem l_L_59 : zLV "SoleArraysLaw" 59 "SoleArraysModel" y_M_argument 2 := ⟨zt5 89 (by decide +kernel) rfl, zt5 90 (by decide +kernel) rfl, zt5 91 (by decide +kernel) rfl, ⟨by decide, by decide⟩, by decide +kernel⟩
theorem l_L_60 : zLS "SoleArraysLaw" 60 y_L_run 3 := ⟨zt3 164 (by decide +kernel) rfl, zt3 165 (by decide +kernel) rfl, ini_L, ⟨by decide, by decide⟩, by decide +kernel⟩
theorem l_L_63 : zLV "SoleArraysLaw" 63 "SoleArraysModel" y_M_run 1 := ⟨zt5 93 (by decide +kernel) rfl, zt5 94 (by decide +kernel) rfl, zt5 95 (by decide +kernel) rfl, ⟨by decide, by decide⟩, by decide +kernel⟩
theorem l_L_64 : zLV "SoleArraysLaw" 64 "SoleArrays" y_S_kind 0 := ⟨zt1 158 (by decide +kernel) rfl, zt1 159 (by decide +kernel) rfl, zt1 160 (by decide +kernel) rfl, ⟨by decide, by decide⟩, by decide +kernel⟩
theorem l_L_67 : zLV "SoleArraysLaw" 67 "SoleArraysModel" y_M_kind 0 := ⟨zt5 146 (by decide +kernel) rfl, zt5 147 (by decide +kernel) rfl, zt5 148 (by decide +kernel) rfl, ⟨by decide, by decide⟩, by decide +kernel⟩
theorem l_L_68 : zLV "SoleArraysLaw" 68 "SoleArrays" y_S_value 0 := ⟨zt1 162 (by decide +kernel) rfl, zt1 163 (by decide +kernel) rfl, zt1 164 (by decide +kernel) rfl, ⟨by decide, by decide⟩, by decide +kernel⟩
theorem l_L_72 : zLV "SoleArraysLaw" 72 "SoleArraysModel" y_M_value 0 := ⟨zt5 150 (by decide +kernel) rfl, zt5 151 (by decide +kernel) rfl, zt5 152 (by decide +kernel) rfl, ⟨by decide, by decide⟩, by decide +kernel⟩
theorem l_L_73 : zLV "SoleArraysLaw" 73 "SoleArrays" y_S_size 1 := ⟨zt1 166 (by decide +kernel) rfl, zt1 167 (by decide +kernel) rfl, zt1 168 (by decide +kernel) rfl, ⟨by decide, by decide⟩, by decide +kernel⟩
theorem l_L_77 : zLV "SoleArraysLaw" 77 "SoleArraysModel" y_M_size 1 := ⟨zt5 154 (by decide +kernel) rfl, zt5 155 (by decide +kernel) rfl, zt5 156 (by decide +kernel) rfl, ⟨by decide, by decide⟩, by decide +kernel⟩
theorem l_L_78 : zLV "SoleArraysLaw" 78 "SoleArrays" y_S_cell 2 := ⟨zt1 173 (by decide +kernel) rfl, zt1 174 (by decide +kernel) rfl, zt1 175 (by decide +kernel) rfl, ⟨by decide, by decide⟩, by decide +kernel⟩
theorem l_L_82 : zLV "SoleArraysLaw" 82 "SoleArraysModel" y_M_cell 2 := ⟨zt5 158 (by decide +kernel) rfl, zt5 159 (by decide +kernel) rfl, zt5 160 (by decide +kernel) rfl, ⟨by decide, by decide⟩, by decide +kernel⟩
theorem l_L_83 : zLV "SoleArraysLaw" 83 "SoleArrays" y_S_counted 1 := ⟨zt2 20 (by decide +kernel) rfl, zt2 21 (by decide +kernel) rfl, zt2 22 (by decide +kernel) rfl, ⟨by decide, by decide⟩, by decide +kernel⟩
theorem l_L_86 : zLV "SoleArraysLaw" 86 "SoleArraysModel" y_M_counted 1 := ⟨zt5 162 (by decide +kernel) rfl, zt5 163 (by decide +kernel) rfl, zt5 164 (by decide +kernel) rfl, ⟨by decide, by decide⟩, by decide +kernel⟩
end
section
def zNm : List String := ["java/lang/RuntimeException", "java/lang/Exception"]
theorem zNm_fit : ∀ q ∈ zNm, Bundle.fit q = true := by decide +kernel
theorem ini_e1 : Cond.initialized "java/lang/IllegalArgumentException" ∈ zTb := zt1 11 (by decide +kernel) rfl
theorem ini_e2 : Cond.initialized "java/lang/IllegalStateException" ∈ zTb := zt1 16 (by decide +kernel) rfl
theorem ini_e3 : Cond.initialized "java/lang/IndexOutOfBoundsException" ∈ zTb := zt1 22 (by decide +kernel) rfl
theorem ini_e4 : Cond.initialized "java/lang/ArithmeticException" ∈ zTb := zt1 20 (by decide +kernel) rfl
theorem ini_e5 : Cond.initialized "java/lang/UnsupportedOperationException" ∈ zTb := zt1 19 (by decide +kernel) rfl
theorem at_S_89a : ∀ w ∈ vx_atS "SoleArrays" 89 "java/lang/IllegalArgumentException" zNm, w ∈ lw_tbl := by decide +kernel
theorem at_S_89b : ∀ w ∈ vx_atS "SoleArrays" 89 "java/lang/IllegalArgumentException" zNm, zOk w = true := by decide +kernel
theorem at_S_89 : ∀ w ∈ vx_atS "SoleArrays" 89 "java/lang/IllegalArgumentException" zNm, w ∈ zTb := fun w h => List.mem_filter.mpr ⟨at_S_89a w h, at_S_89b w h⟩
theorem cl_S_85 : Cond.classLink "SoleArrays" 85 "java/lang/IllegalArgumentException" ∈ zTb := zt3 182 (by decide +kernel) rfl
theorem at_T_19a : ∀ w ∈ vx_atS "SoleArrays$Fault" 19 "java/lang/IllegalArgumentException" zNm, w ∈ lw_tbl := by decide +kernel
theorem at_T_19b : ∀ w ∈ vx_atS "SoleArrays$Fault" 19 "java/lang/IllegalArgumentException" zNm, zOk w = true := by decide +kernel
theorem at_T_19 : ∀ w ∈ vx_atS "SoleArrays$Fault" 19 "java/lang/IllegalArgumentException" zNm, w ∈ zTb := fun w h => List.mem_filter.mpr ⟨at_T_19a w h, at_T_19b w h⟩
theorem cl_T_15 : Cond.classLink "SoleArrays$Fault" 15 "java/lang/IllegalArgumentException" ∈ zTb := zt2 70 (by decide +kernel) rfl
theorem at_T_26a : ∀ w ∈ vx_atS "SoleArrays$Fault" 26 "java/lang/IllegalStateException" zNm, w ∈ lw_tbl := by decide +kernel
theorem at_T_26b : ∀ w ∈ vx_atS "SoleArrays$Fault" 26 "java/lang/IllegalStateException" zNm, zOk w = true := by decide +kernel
theorem at_T_26 : ∀ w ∈ vx_atS "SoleArrays$Fault" 26 "java/lang/IllegalStateException" zNm, w ∈ zTb := fun w h => List.mem_filter.mpr ⟨at_T_26a w h, at_T_26b w h⟩
theorem cl_T_22 : Cond.classLink "SoleArrays$Fault" 22 "java/lang/IllegalStateException" ∈ zTb := zt3 88 (by decide +kernel) rfl
theorem at_O_41a : ∀ w ∈ vx_atS "SoleArrays$Store" 41 "java/lang/IllegalStateException" zNm, w ∈ lw_tbl := by decide +kernel
theorem at_O_41b : ∀ w ∈ vx_atS "SoleArrays$Store" 41 "java/lang/IllegalStateException" zNm, zOk w = true := by decide +kernel
theorem at_O_41 : ∀ w ∈ vx_atS "SoleArrays$Store" 41 "java/lang/IllegalStateException" zNm, w ∈ zTb := fun w h => List.mem_filter.mpr ⟨at_O_41a w h, at_O_41b w h⟩
theorem cl_O_37 : Cond.classLink "SoleArrays$Store" 37 "java/lang/IllegalStateException" ∈ zTb := zt4 1 (by decide +kernel) rfl
theorem at_O_50a : ∀ w ∈ vx_atS "SoleArrays$Store" 50 "java/lang/UnsupportedOperationException" zNm, w ∈ lw_tbl := by decide +kernel
theorem at_O_50b : ∀ w ∈ vx_atS "SoleArrays$Store" 50 "java/lang/UnsupportedOperationException" zNm, zOk w = true := by decide +kernel
theorem at_O_50 : ∀ w ∈ vx_atS "SoleArrays$Store" 50 "java/lang/UnsupportedOperationException" zNm, w ∈ zTb := fun w h => List.mem_filter.mpr ⟨at_O_50a w h, at_O_50b w h⟩
theorem cl_O_46 : Cond.classLink "SoleArrays$Store" 46 "java/lang/UnsupportedOperationException" ∈ zTb := zt4 5 (by decide +kernel) rfl
theorem at_O_91a : ∀ w ∈ vx_atS "SoleArrays$Store" 91 "java/lang/IndexOutOfBoundsException" zNm, w ∈ lw_tbl := by decide +kernel
theorem at_O_91b : ∀ w ∈ vx_atS "SoleArrays$Store" 91 "java/lang/IndexOutOfBoundsException" zNm, zOk w = true := by decide +kernel
theorem at_O_91 : ∀ w ∈ vx_atS "SoleArrays$Store" 91 "java/lang/IndexOutOfBoundsException" zNm, w ∈ zTb := fun w h => List.mem_filter.mpr ⟨at_O_91a w h, at_O_91b w h⟩
theorem cl_O_87 : Cond.classLink "SoleArrays$Store" 87 "java/lang/IndexOutOfBoundsException" ∈ zTb := zt1 190 (by decide +kernel) rfl
theorem at_U_57a : ∀ w ∈ vx_atS "SoleArrays$Runner" 57 "java/lang/UnsupportedOperationException" zNm, w ∈ lw_tbl := by decide +kernel
theorem at_U_57b : ∀ w ∈ vx_atS "SoleArrays$Runner" 57 "java/lang/UnsupportedOperationException" zNm, zOk w = true := by decide +kernel
theorem at_U_57 : ∀ w ∈ vx_atS "SoleArrays$Runner" 57 "java/lang/UnsupportedOperationException" zNm, w ∈ zTb := fun w h => List.mem_filter.mpr ⟨at_U_57a w h, at_U_57b w h⟩
theorem cl_U_53 : Cond.classLink "SoleArrays$Runner" 53 "java/lang/UnsupportedOperationException" ∈ zTb := zt3 197 (by decide +kernel) rfl
theorem at_U_135a : ∀ w ∈ vx_atS "SoleArrays$Runner" 135 "java/lang/ArithmeticException" zNm, w ∈ lw_tbl := by decide +kernel
theorem at_U_135b : ∀ w ∈ vx_atS "SoleArrays$Runner" 135 "java/lang/ArithmeticException" zNm, zOk w = true := by decide +kernel
theorem at_U_135 : ∀ w ∈ vx_atS "SoleArrays$Runner" 135 "java/lang/ArithmeticException" zNm, w ∈ zTb := fun w h => List.mem_filter.mpr ⟨at_U_135a w h, at_U_135b w h⟩
theorem cl_U_131 : Cond.classLink "SoleArrays$Runner" 131 "java/lang/ArithmeticException" ∈ zTb := zt3 221 (by decide +kernel) rfl
end
section
/-! M: the reference's cells: its object is 85, its arrays 86 .. 112. S: its ints by their places; A: its arrays of ints, chars and booleans by their numbers; L: its arrays of longs; rn: resultNumber -/
abbrev mS : Type := Nat → Int32
abbrev mA : Type := Nat → Nat → Int32
abbrev mL : Type := Nat → Nat → Int64
def mF (S : mS) (rn : Int64) : List Value := [.int (S 0), .int (S 1), .int (S 2), .ref 86, .int (S 4), .int (S 5), .int (S 6), .ref 87, .ref 88, .ref 89, .ref 90, .ref 91, .int (S 12), .ref 92, .ref 93, .ref 94, .ref 95, .ref 96, .ref 97, .int (S 19), .ref 98, .ref 99, .ref 100, .ref 101, .ref 102, .ref 103, .int (S 26), .int (S 27), .int (S 28), .ref 104, .ref 105, .ref 106, .int (S 32), .int (S 33), .ref 107, .ref 108, .int (S 36), .ref 109, .ref 110, .int (S 39), .int (S 40), .int (S 41), .int (S 42), .int (S 43), .int (S 44), .ref 111, .int (S 46), .long rn, .int (S 48), .int (S 49), .ref 112]
def mTy (i : Nat) : Nat := match i with
  | 86 => 2
  | 92 => 3
  | 104 => 1
  | 107 => 1
  | 109 => 1
  | 111 => 1
  | 112 => 1
  | _ => 0
def mLen (i : Nat) : Nat := match i with
  | 86 => 150
  | 87 => 1350
  | 88 => 1350
  | 89 => 1350
  | 90 => 1350
  | 91 => 1350
  | 92 => 9
  | 93 => 9
  | 94 => 9
  | 95 => 36
  | 96 => 36
  | 97 => 36
  | 98 => 80
  | 99 => 80
  | 100 => 80
  | 101 => 80
  | 102 => 80
  | 103 => 20
  | 104 => 16080
  | 105 => 402
  | 106 => 402
  | 107 => 160
  | 108 => 160
  | 109 => 400
  | 110 => 400
  | 111 => 4
  | 112 => 40
  | _ => 0
def mOv (S : mS) (A : mA) (L : mL) (rn : Int64) (σ : zS) : zS := fun i => if i = 85 then .inr (8, mF S rn) else if i < 86 then σ i else if 113 ≤ i then σ i else if mTy i = 1 then .inl (1, mLen i, .inr (.inl (L i))) else .inl (mTy i, mLen i, .inl (A i))
theorem mOv_S (S S' : mS) (A : mA) (L : mL) (rn rn' : Int64) (σ : zS) : va_up (mOv S A L rn σ) 85 (.inr (8, mF S' rn')) = mOv S' A L rn' σ := by
  funext i
  unfold va_up mOv
  by_cases h : i = 85
  · simp [h]
  · simp [h]
theorem mOv_A (S : mS) (A : mA) (L : mL) (rn : Int64) (σ : zS) (a : Nat) (f : Nat → Int32) (h1 : 86 ≤ a) (h2 : a < 113) (h3 : mTy a ≠ 1) : va_up (mOv S A L rn σ) a (.inl (mTy a, mLen a, .inl f)) = mOv S (va_up A a f) L rn σ := by
  funext i
  unfold mOv
  by_cases h : i = a
  · subst h
    rw [va_up_self, va_up_self, if_neg (by omega), if_neg (by omega), if_neg (by omega), if_neg h3]
  · rw [va_up_ne _ _ h, va_up_ne _ _ h]
theorem mOv_L (S : mS) (A : mA) (L : mL) (rn : Int64) (σ : zS) (a : Nat) (f : Nat → Int64) (h1 : 86 ≤ a) (h2 : a < 113) (h3 : mTy a = 1) : va_up (mOv S A L rn σ) a (.inl (1, mLen a, .inr (.inl f))) = mOv S A (va_up L a f) rn σ := by
  funext i
  unfold mOv
  by_cases h : i = a
  · subst h
    rw [va_up_self, va_up_self, if_neg (by omega), if_neg (by omega), if_neg (by omega), if_pos h3]
  · rw [va_up_ne _ _ h, va_up_ne _ _ h]
theorem mOv_out (S : mS) (A : mA) (L : mL) (rn : Int64) (σ : zS) {i : Nat} (h : i < 85 ∨ 113 ≤ i) : mOv S A L rn σ i = σ i := by
  unfold mOv
  rcases h with h | h
  · rw [if_neg (by omega), if_pos (by omega)]
  · rw [if_neg (by omega), if_neg (by omega), if_pos h]
section MR
variable {G : zG} {K : zK} {y : MethodName} {cc : ByteArray} {nL : Nat} {ret : Option FieldType} {hs : List (Nat × Nat × Nat × Nat)} {n k1 k2 pc : Nat} {lv : List (Nat × Value)} {st : List Value} {S : mS} {A : mA} {L : mL} {rn : Int64} {σ : zS}
theorem zm_puti (C : zC G K y cc nL ret hs) (pc' : Nat) {idx fk : Nat} {ty : FieldType} {x : Int32} (hf : zP y.cls idx 8 fk ty) (hd : decode cc pc = .ok (.putfield idx, 3)) (hp : pc + 3 = pc') (hn : 113 ≤ n) (hl : fk < 51) (hna : narrow ty (.int x) = .int x) (hfit : fits ty (.int x) = true) (hset : (mF S rn).set fk (.int x) = mF (upd S fk x) rn)
    (k : Z G K n (mOv (upd S fk x) A L rn σ) k1 k2 pc' lv st) : Z G K n (mOv S A L rn σ) k1 k2 pc lv (.int x :: .ref 85 :: st) := by
  refine z_put C pc' (fs := mF S rn) hf hd hp (by omega) rfl hl hna hfit ?_
  rw [hset, mOv_S]
  exact k
theorem zm_putl (C : zC G K y cc nL ret hs) (pc' : Nat) {idx : Nat} {x : Int64} (hf : zP y.cls idx 8 47 .long) (hd : decode cc pc = .ok (.putfield idx, 3)) (hp : pc + 3 = pc') (hn : 113 ≤ n)
    (k : Z G K n (mOv S A L x σ) k1 k2 pc' lv st) : Z G K n (mOv S A L rn σ) k1 k2 pc lv (.long x :: .ref 85 :: st) := by
  refine z_put C pc' (fs := mF S rn) hf hd hp (by omega) rfl (by decide : 47 < 51) rfl rfl ?_
  rw [show (mF S rn).set 47 (.long x) = mF S x from rfl, mOv_S]
  exact k
theorem zm_at {a : Nat} (h1 : 86 ≤ a) (h2 : a < 113) (h3 : mTy a ≠ 1) : mOv S A L rn σ a = .inl (mTy a, mLen a, .inl (A a)) := by
  unfold mOv
  rw [if_neg (by omega), if_neg (by omega), if_neg (by omega), if_neg h3]
theorem zm_atL {a : Nat} (h1 : 86 ≤ a) (h2 : a < 113) (h3 : mTy a = 1) : mOv S A L rn σ a = .inl (1, mLen a, .inr (.inl (L a))) := by
  unfold mOv
  rw [if_neg (by omega), if_neg (by omega), if_neg (by omega), if_pos h3]
theorem zm_iast (C : zC G K y cc nL ret hs) (pc' : Nat) {a : Nat} {j x : Int32} (jn : Nat) (hd : decode cc pc = .ok (.iastore, 1)) (hp : pc + 1 = pc') (hn : 113 ≤ n) (h1 : 86 ≤ a) (h2 : a < 113) (h3 : mTy a = 0) (hj : j = nI jn) (hl : jn < mLen a) (hs : mLen a < 2 ^ 31)
    (k : Z G K n (mOv S (va_up A a (upd (A a) jn x)) L rn σ) k1 k2 pc' lv st) : Z G K n (mOv S A L rn σ) k1 k2 pc lv (.int x :: .int j :: .ref a :: st) := by
  refine z_iast C pc' jn hd hp (by omega) (by rw [zm_at h1 h2 (by rw [h3]; decide), h3]) hj hl hs ?_
  have e := mOv_A S A L rn σ a (upd (A a) jn x) h1 h2 (by rw [h3]; decide)
  rw [h3] at e
  rw [e]
  exact k
theorem zm_cast (C : zC G K y cc nL ret hs) (pc' : Nat) {j x : Int32} (jn : Nat) (x' : Int32) (hd : decode cc pc = .ok (.castore, 1)) (hp : pc + 1 = pc') (hn : 113 ≤ n) (hj : j = nI jn) (hl : jn < 150) (hx : vp_nar .char x = x')
    (k : Z G K n (mOv S (va_up A 86 (upd (A 86) jn x')) L rn σ) k1 k2 pc' lv st) : Z G K n (mOv S A L rn σ) k1 k2 pc lv (.int x :: .int j :: .ref 86 :: st) := by
  refine z_cast C pc' jn hd hp (by omega) rfl hj hl (by decide) x' hx ?_
  have e : va_up (mOv S A L rn σ) 86 (.inl (2, mLen 86, .inl (upd (A 86) jn x'))) = mOv S (va_up A 86 (upd (A 86) jn x')) L rn σ := mOv_A S A L rn σ 86 _ (by decide) (by decide) (by decide)
  rw [e]
  exact k
theorem zm_zast (C : zC G K y cc nL ret hs) (pc' : Nat) {j x : Int32} (jn : Nat) (x' : Int32) (hd : decode cc pc = .ok (.bastore, 1)) (hp : pc + 1 = pc') (hn : 113 ≤ n) (hj : j = nI jn) (hl : jn < 9) (hx : vp_nar .boolean x = x')
    (k : Z G K n (mOv S (va_up A 92 (upd (A 92) jn x')) L rn σ) k1 k2 pc' lv st) : Z G K n (mOv S A L rn σ) k1 k2 pc lv (.int x :: .int j :: .ref 92 :: st) := by
  refine z_zast C pc' jn hd hp (by omega) rfl hj hl (by decide) x' hx ?_
  have e : va_up (mOv S A L rn σ) 92 (.inl (3, mLen 92, .inl (upd (A 92) jn x'))) = mOv S (va_up A 92 (upd (A 92) jn x')) L rn σ := mOv_A S A L rn σ 92 _ (by decide) (by decide) (by decide)
  rw [e]
  exact k
theorem zm_last (C : zC G K y cc nL ret hs) (pc' : Nat) {a : Nat} {j : Int32} {x : Int64} (jn : Nat) (hd : decode cc pc = .ok (.lastore, 1)) (hp : pc + 1 = pc') (hn : 113 ≤ n) (h1 : 86 ≤ a) (h2 : a < 113) (h3 : mTy a = 1) (hj : j = nI jn) (hl : jn < mLen a) (hs : mLen a < 2 ^ 31)
    (k : Z G K n (mOv S A (va_up L a (vp_updL (L a) jn x)) rn σ) k1 k2 pc' lv st) : Z G K n (mOv S A L rn σ) k1 k2 pc lv (.long x :: .int j :: .ref a :: st) := by
  refine z_last C pc' jn hd hp (by omega) (zm_atL h1 h2 h3) hj hl hs ?_
  rw [mOv_L S A L rn σ a _ h1 h2 h3]
  exact k
theorem zm_iald (C : zC G K y cc nL ret hs) (pc' : Nat) {a : Nat} {j : Int32} (jn : Nat) (hd : decode cc pc = .ok (.iaload, 1)) (hp : pc + 1 = pc') (hn : 113 ≤ n) (h1 : 86 ≤ a) (h2 : a < 113) (h3 : mTy a = 0) (hj : j = nI jn) (hl : jn < mLen a) (hs : mLen a < 2 ^ 31)
    (k : Z G K n (mOv S A L rn σ) k1 k2 pc' lv (.int (A a jn) :: st)) : Z G K n (mOv S A L rn σ) k1 k2 pc lv (.int j :: .ref a :: st) :=
  z_iald C pc' jn hd hp (by omega) (by rw [zm_at h1 h2 (by rw [h3]; decide), h3]) hj hl hs k
theorem zm_lald (C : zC G K y cc nL ret hs) (pc' : Nat) {a : Nat} {j : Int32} (jn : Nat) (hd : decode cc pc = .ok (.laload, 1)) (hp : pc + 1 = pc') (hn : 113 ≤ n) (h1 : 86 ≤ a) (h2 : a < 113) (h3 : mTy a = 1) (hj : j = nI jn) (hl : jn < mLen a) (hs : mLen a < 2 ^ 31)
    (k : Z G K n (mOv S A L rn σ) k1 k2 pc' lv (.long (L a jn) :: st)) : Z G K n (mOv S A L rn σ) k1 k2 pc lv (.int j :: .ref a :: st) :=
  z_lald C pc' jn hd hp (by omega) (zm_atL h1 h2 h3) hj hl hs k
theorem zm_cald (C : zC G K y cc nL ret hs) (pc' : Nat) {j : Int32} (jn : Nat) (hd : decode cc pc = .ok (.caload, 1)) (hp : pc + 1 = pc') (hn : 113 ≤ n) (hj : j = nI jn) (hl : jn < 150)
    (k : Z G K n (mOv S A L rn σ) k1 k2 pc' lv (.int (A 86 jn) :: st)) : Z G K n (mOv S A L rn σ) k1 k2 pc lv (.int j :: .ref 86 :: st) :=
  z_cald C pc' jn hd hp (by omega) rfl hj hl (by decide) k
theorem zm_zald (C : zC G K y cc nL ret hs) (pc' : Nat) {j : Int32} (jn : Nat) (hd : decode cc pc = .ok (.baload, 1)) (hp : pc + 1 = pc') (hn : 113 ≤ n) (hj : j = nI jn) (hl : jn < 9)
    (k : Z G K n (mOv S A L rn σ) k1 k2 pc' lv (.int (A 92 jn) :: st)) : Z G K n (mOv S A L rn σ) k1 k2 pc lv (.int j :: .ref 92 :: st) :=
  z_zald C pc' jn hd hp (by omega) rfl hj hl (by decide) k
theorem zm_get (C : zC G K y cc nL ret hs) (pc' : Nat) {idx fk : Nat} {v : Value} (hf : zF y.cls idx 8 fk) (hd : decode cc pc = .ok (.getfield idx, 3)) (hp : pc + 3 = pc') (hn : 113 ≤ n) (hv : (mF S rn)[fk]? = some v)
    (k : Z G K n (mOv S A L rn σ) k1 k2 pc' lv (v :: st)) : Z G K n (mOv S A L rn σ) k1 k2 pc lv (.ref 85 :: st) :=
  z_get C pc' (fs := mF S rn) hf hd hp (by omega) rfl hv k
end MR
end
section
theorem d_M_look_0 : decode b_M_look 0 = .ok (.aload_n 0, 1) := by decide +kernel
theorem d_M_look_1 : decode b_M_look 1 = .ok (.getfield 104, 3) := by decide +kernel
theorem d_M_look_4 : decode b_M_look 4 = .ok (.ifCond .ne 26, 3) := by decide +kernel
theorem d_M_look_7 : decode b_M_look 7 = .ok (.aload_n 0, 1) := by decide +kernel
theorem d_M_look_8 : decode b_M_look 8 = .ok (.getfield 108, 3) := by decide +kernel
theorem d_M_look_11 : decode b_M_look 11 = .ok (.aload_n 0, 1) := by decide +kernel
theorem d_M_look_12 : decode b_M_look 12 = .ok (.getfield 111, 3) := by decide +kernel
theorem d_M_look_15 : decode b_M_look 15 = .ok (.if_icmp .ge 15, 3) := by decide +kernel
theorem d_M_look_18 : decode b_M_look 18 = .ok (.aload_n 0, 1) := by decide +kernel
theorem d_M_look_19 : decode b_M_look 19 = .ok (.getfield 7, 3) := by decide +kernel
theorem d_M_look_22 : decode b_M_look 22 = .ok (.aload_n 0, 1) := by decide +kernel
theorem d_M_look_23 : decode b_M_look 23 = .ok (.getfield 108, 3) := by decide +kernel
theorem d_M_look_26 : decode b_M_look 26 = .ok (.caload, 1) := by decide +kernel
theorem d_M_look_27 : decode b_M_look 27 = .ok (.goto 4, 3) := by decide +kernel
theorem d_M_look_30 : decode b_M_look 30 = .ok (.iconst 0, 1) := by decide +kernel
theorem d_M_look_31 : decode b_M_look 31 = .ok (.ireturn, 1) := by decide +kernel
theorem d_M_takes_0 : decode b_M_takes 0 = .ok (.aload_n 0, 1) := by decide +kernel
theorem d_M_takes_1 : decode b_M_takes 1 = .ok (.invokevirtual 114, 3) := by decide +kernel
theorem d_M_takes_4 : decode b_M_takes 4 = .ok (.iload_n 1, 1) := by decide +kernel
theorem d_M_takes_5 : decode b_M_takes 5 = .ok (.if_icmp .eq 5, 3) := by decide +kernel
theorem d_M_takes_8 : decode b_M_takes 8 = .ok (.iconst 0, 1) := by decide +kernel
theorem d_M_takes_9 : decode b_M_takes 9 = .ok (.ireturn, 1) := by decide +kernel
theorem d_M_takes_10 : decode b_M_takes 10 = .ok (.aload_n 0, 1) := by decide +kernel
theorem d_M_takes_11 : decode b_M_takes 11 = .ok (.dup, 1) := by decide +kernel
theorem d_M_takes_12 : decode b_M_takes 12 = .ok (.getfield 108, 3) := by decide +kernel
theorem d_M_takes_15 : decode b_M_takes 15 = .ok (.iconst 1, 1) := by decide +kernel
theorem d_M_takes_16 : decode b_M_takes 16 = .ok (.iadd, 1) := by decide +kernel
theorem d_M_takes_17 : decode b_M_takes 17 = .ok (.putfield 108, 3) := by decide +kernel
theorem d_M_takes_20 : decode b_M_takes 20 = .ok (.iconst 1, 1) := by decide +kernel
theorem d_M_takes_21 : decode b_M_takes 21 = .ok (.ireturn, 1) := by decide +kernel
theorem d_M_want_0 : decode b_M_want 0 = .ok (.iload_n 1, 1) := by decide +kernel
theorem d_M_want_1 : decode b_M_want 1 = .ok (.ifCond .ne 8, 3) := by decide +kernel
theorem d_M_want_4 : decode b_M_want 4 = .ok (.aload_n 0, 1) := by decide +kernel
theorem d_M_want_5 : decode b_M_want 5 = .ok (.iconst 1, 1) := by decide +kernel
theorem d_M_want_6 : decode b_M_want 6 = .ok (.putfield 104, 3) := by decide +kernel
theorem d_M_want_9 : decode b_M_want 9 = .ok (.return_, 1) := by decide +kernel
theorem d_M_among_0 : decode b_M_among 0 = .ok (.aload_n 0, 1) := by decide +kernel
theorem d_M_among_1 : decode b_M_among 1 = .ok (.invokevirtual 114, 3) := by decide +kernel
theorem d_M_among_4 : decode b_M_among 4 = .ok (.iload_n 1, 1) := by decide +kernel
theorem d_M_among_5 : decode b_M_among 5 = .ok (.if_icmp .lt 15, 3) := by decide +kernel
theorem d_M_among_8 : decode b_M_among 8 = .ok (.aload_n 0, 1) := by decide +kernel
theorem d_M_among_9 : decode b_M_among 9 = .ok (.invokevirtual 114, 3) := by decide +kernel
theorem d_M_among_12 : decode b_M_among 12 = .ok (.iload_n 2, 1) := by decide +kernel
theorem d_M_among_13 : decode b_M_among 13 = .ok (.if_icmp .gt 7, 3) := by decide +kernel
theorem d_M_among_16 : decode b_M_among 16 = .ok (.iconst 1, 1) := by decide +kernel
theorem d_M_among_17 : decode b_M_among 17 = .ok (.goto 4, 3) := by decide +kernel
theorem d_M_among_20 : decode b_M_among 20 = .ok (.iconst 0, 1) := by decide +kernel
theorem d_M_among_21 : decode b_M_among 21 = .ok (.ireturn, 1) := by decide +kernel
theorem d_M_letter_0 : decode b_M_letter 0 = .ok (.aload_n 0, 1) := by decide +kernel
theorem d_M_letter_1 : decode b_M_letter 1 = .ok (.aload_n 0, 1) := by decide +kernel
theorem d_M_letter_2 : decode b_M_letter 2 = .ok (.iload_n 1, 1) := by decide +kernel
theorem d_M_letter_3 : decode b_M_letter 3 = .ok (.iload_n 2, 1) := by decide +kernel
theorem d_M_letter_4 : decode b_M_letter 4 = .ok (.invokevirtual 118, 3) := by decide +kernel
theorem d_M_letter_7 : decode b_M_letter 7 = .ok (.invokevirtual 122, 3) := by decide +kernel
theorem d_M_letter_10 : decode b_M_letter 10 = .ok (.aload_n 0, 1) := by decide +kernel
theorem d_M_letter_11 : decode b_M_letter 11 = .ok (.getfield 104, 3) := by decide +kernel
theorem d_M_letter_14 : decode b_M_letter 14 = .ok (.ifCond .eq 5, 3) := by decide +kernel
theorem d_M_letter_17 : decode b_M_letter 17 = .ok (.iconst 0, 1) := by decide +kernel
theorem d_M_letter_18 : decode b_M_letter 18 = .ok (.ireturn, 1) := by decide +kernel
theorem d_M_letter_19 : decode b_M_letter 19 = .ok (.aload_n 0, 1) := by decide +kernel
theorem d_M_letter_20 : decode b_M_letter 20 = .ok (.dup, 1) := by decide +kernel
theorem d_M_letter_21 : decode b_M_letter 21 = .ok (.getfield 108, 3) := by decide +kernel
theorem d_M_letter_24 : decode b_M_letter 24 = .ok (.iconst 1, 1) := by decide +kernel
theorem d_M_letter_25 : decode b_M_letter 25 = .ok (.iadd, 1) := by decide +kernel
theorem d_M_letter_26 : decode b_M_letter 26 = .ok (.putfield 108, 3) := by decide +kernel
theorem d_M_letter_29 : decode b_M_letter 29 = .ok (.aload_n 0, 1) := by decide +kernel
theorem d_M_letter_30 : decode b_M_letter 30 = .ok (.getfield 7, 3) := by decide +kernel
theorem d_M_letter_33 : decode b_M_letter 33 = .ok (.aload_n 0, 1) := by decide +kernel
theorem d_M_letter_34 : decode b_M_letter 34 = .ok (.getfield 108, 3) := by decide +kernel
theorem d_M_letter_37 : decode b_M_letter 37 = .ok (.iconst 1, 1) := by decide +kernel
theorem d_M_letter_38 : decode b_M_letter 38 = .ok (.isub, 1) := by decide +kernel
theorem d_M_letter_39 : decode b_M_letter 39 = .ok (.caload, 1) := by decide +kernel
theorem d_M_letter_40 : decode b_M_letter 40 = .ok (.iload_n 1, 1) := by decide +kernel
theorem d_M_letter_41 : decode b_M_letter 41 = .ok (.isub, 1) := by decide +kernel
theorem d_M_letter_42 : decode b_M_letter 42 = .ok (.ireturn, 1) := by decide +kernel
theorem d_M_thrown_0 : decode b_M_thrown 0 = .ok (.aload_n 0, 1) := by decide +kernel
theorem d_M_thrown_1 : decode b_M_thrown 1 = .ok (.getfield 101, 3) := by decide +kernel
theorem d_M_thrown_4 : decode b_M_thrown 4 = .ok (.ireturn, 1) := by decide +kernel
/-- look(): the character that stands at 'at', 0 if there is none -/
def mlk (S : mS) (A : mA) (p z : Nat) : Int32 := if S 5 = 0 ∧ p < z then A 86 p else 0
/-- what the text's cells hold: at, size, and characters -/
def mTx (S : mS) (A : mA) (p z : Nat) : Prop := S 4 = nI p ∧ S 2 = nI z ∧ z ≤ 150 ∧ p ≤ 150 ∧ ∀ i, i < 150 → narrow .char (.int (A 86 i)) = .int (A 86 i)
theorem mlk_char {S : mS} {A : mA} {p z : Nat} (h : mTx S A p z) : narrow .char (.int (mlk S A p z)) = .int (mlk S A p z) := by
  obtain ⟨-, -, h3, -, h5⟩ := h
  unfold mlk
  split
  · rename_i hc
    exact h5 p (by omega)
  · rfl
section MRD
variable {G : zG} {l : Launch} {n : Nat} {S : mS} {A : mA} {L : mL} {rn : Int64} {σ : zS} {p z : Nat}
theorem c_M_thrown (hn : 113 ≤ n) : MetZ G l y_M_thrown b_M_thrown 1 (some .int) [] 0 0 0 [.ref 85] n (mOv S A L rn σ) (fun o n' σ' => o = .returned (some (.int (S 0))) ∧ n' = n ∧ σ' = mOv S A L rn σ) := by
  refine MetZ.of (by decide) (Nat.le_of_ble_eq_true rfl) (fun K hK hR hpo hmc hms C => ?_)
  refine z_aload_n C 1 d_M_thrown_0 rfl rfl ?_
  refine zm_get C 4 f_M_101 d_M_thrown_1 rfl hn rfl ?_
  exact z_iret C rfl d_M_thrown_4 (by rw [hpo]; exact ⟨rfl, rfl, rfl⟩) (by rw [hmc]; omega) (by rw [hms]; omega)
theorem c_M_look (hn : 113 ≤ n) (hT : mTx S A p z) : MetZ G l y_M_look b_M_look 1 (some .char) [] 0 0 0 [.ref 85] n (mOv S A L rn σ) (fun o n' σ' => o = .returned (some (.int (mlk S A p z))) ∧ n' = n ∧ σ' = mOv S A L rn σ) := by
  refine MetZ.of (by decide) (Nat.le_of_ble_eq_true rfl) (fun K hK hR hpo hmc hms C => ?_)
  have hT' := hT
  obtain ⟨h4, h2, hz, hp, hch⟩ := hT'
  refine z_aload_n C 1 d_M_look_0 rfl rfl ?_
  refine zm_get C 4 f_M_104 d_M_look_1 rfl hn rfl ?_
  refine z_if_ne C 7 30 d_M_look_4 rfl (by decide) (fun hi => ?_) (fun hi => ?_)
  · refine z_iconst C 31 d_M_look_30 rfl 0 (by decide) ?_
    exact z_zret C rfl (rfl) d_M_look_31 (by rw [hpo]; exact ⟨by rw [mlk, if_neg (fun q => hi q.1)], rfl, rfl⟩) (by rw [hmc]; omega) (by rw [hms]; omega)
  refine z_aload_n C 8 d_M_look_7 rfl rfl ?_
  refine zm_get C 11 f_M_108 d_M_look_8 rfl hn rfl ?_
  refine z_aload_n C 12 d_M_look_11 rfl rfl ?_
  refine zm_get C 15 f_M_111 d_M_look_12 rfl hn rfl ?_
  refine Z.same (fun i _ => rfl) ?_
  refine z_icmp_ge C 18 30 d_M_look_15 rfl (by decide) (fun hc => ?_) (fun hc => ?_)
  · rw [h4, h2] at hc
    refine z_iconst C 31 d_M_look_30 rfl 0 (by decide) ?_
    exact z_zret C rfl (rfl) d_M_look_31 (by rw [hpo]; exact ⟨by rw [mlk, if_neg (fun q => absurd ((nI_leI (by omega) (by omega)).mp hc) (by omega))], rfl, rfl⟩) (by rw [hmc]; omega) (by rw [hms]; omega)
  · have hc' : p < z := by
      rw [h4, h2] at hc
      exact Nat.lt_of_not_le (fun q => hc ((nI_leI (by omega) (by omega)).mpr q))
    refine z_aload_n C 19 d_M_look_18 rfl rfl ?_
    refine zm_get C 22 f_M_7 d_M_look_19 rfl hn rfl ?_
    refine z_aload_n C 23 d_M_look_22 rfl rfl ?_
    refine zm_get C 26 f_M_108 d_M_look_23 rfl hn rfl ?_
    refine zm_cald C 27 p d_M_look_26 rfl hn h4 (by omega) ?_
    refine z_goto C 31 d_M_look_27 (by decide) ?_
    exact z_zret C rfl ((hch p (by omega))) d_M_look_31 (by rw [hpo]; exact ⟨by rw [mlk, if_pos ⟨hi, hc'⟩], rfl, rfl⟩) (by rw [hmc]; omega) (by rw [hms]; omega)
theorem c_M_want (hn : 113 ≤ n) (b : Int32) : MetZ G l y_M_want b_M_want 2 none [] 0 0 0 [.ref 85, .int b] n (mOv S A L rn σ) (fun o n' σ' => o = .returned none ∧ n' = n ∧ σ' = mOv (if b = 0 then upd S 5 1 else S) A L rn σ) := by
  refine MetZ.of (by decide) (Nat.le_of_ble_eq_true rfl) (fun K hK hR hpo hmc hms C => ?_)
  refine z_iload_n C 1 d_M_want_0 rfl rfl ?_
  refine z_if_ne C 4 9 d_M_want_1 rfl (by decide) (fun hb => ?_) (fun hb => ?_)
  · exact z_vret C rfl d_M_want_9 (by rw [hpo]; exact ⟨rfl, rfl, by rw [if_neg hb]⟩) (by rw [hmc]; omega) (by rw [hms]; omega)
  · refine z_aload_n C 5 d_M_want_4 rfl rfl ?_
    refine z_iconst C 6 d_M_want_5 rfl 1 (by decide) ?_
    refine zm_puti C 9 p_M_104 d_M_want_6 rfl hn (by decide) (rfl) rfl rfl ?_
    exact z_vret C rfl d_M_want_9 (by rw [hpo]; exact ⟨rfl, rfl, by rw [if_pos hb]⟩) (by rw [hmc]; omega) (by rw [hms]; omega)
theorem c_M_takes (hn : 113 ≤ n) (hT : mTx S A p z) (c : Int32) : MetZ G l y_M_takes b_M_takes 2 (some .boolean) [] 1 0 0 [.ref 85, .int c] n (mOv S A L rn σ) (fun o n' σ' => o = .returned (some (.int (if mlk S A p z = c then 1 else 0))) ∧ n' = n ∧ σ' = mOv (if mlk S A p z = c then upd S 4 (S 4 + 1) else S) A L rn σ) := by
  refine MetZ.of (by decide) (Nat.le_of_ble_eq_true rfl) (fun K hK hR hpo hmc hms C => ?_)
  refine z_aload_n C 1 d_M_takes_0 rfl rfl ?_
  refine z_call C 4 (c_M_look hn hT) w_M_look ini_M d_M_takes_1 rfl (z_goV (As := []) C l_M_114 w_M_look d_M_takes_1 (by omega) rfl rfl rfl) (Nat.le_of_ble_eq_true rfl) (by rw [hR]; simp only [zRm]; omega) (by rw [hR]; simp only [zRm]; omega) (by rw [hR]; simp only [zRm]; omega) (by rw [hR]; simp only [zRm]; omega) (fun v n' σ' hv => ?_) (fun x n' σ' hv => ?_)
  · obtain ⟨hv, rfl, rfl⟩ := hv
    cases hv
    refine z_iload_n C 5 d_M_takes_4 rfl rfl ?_
    refine z_icmp_eq C 8 10 d_M_takes_5 rfl (by decide) (fun hc => ?_) (fun hc => ?_)
    · refine z_aload_n C 11 d_M_takes_10 rfl rfl ?_
      refine z_dup C 12 d_M_takes_11 rfl rfl ?_
      refine zm_get C 15 f_M_108 d_M_takes_12 rfl hn rfl ?_
      refine z_iconst C 16 d_M_takes_15 rfl 1 (by decide) ?_
      refine z_iadd C 17 d_M_takes_16 rfl ?_
      refine zm_puti C 20 p_M_108 d_M_takes_17 rfl hn (by decide) (rfl) rfl rfl ?_
      refine z_iconst C 21 d_M_takes_20 rfl 1 (by decide) ?_
      exact z_zret C rfl (rfl) d_M_takes_21 (by rw [hpo]; exact ⟨by rw [if_pos hc], rfl, by rw [if_pos hc]⟩) (by rw [hmc]; omega) (by rw [hms]; omega)
    · refine z_iconst C 9 d_M_takes_8 rfl 0 (by decide) ?_
      exact z_zret C rfl (rfl) d_M_takes_9 (by rw [hpo]; exact ⟨by rw [if_neg hc], rfl, by rw [if_neg hc]⟩) (by rw [hmc]; omega) (by rw [hms]; omega)
  · exact absurd hv.1 (by simp)
theorem c_M_among (hn : 113 ≤ n) (hT : mTx S A p z) (a b : Int32) : MetZ G l y_M_among b_M_among 3 (some .boolean) [] 1 0 0 [.ref 85, .int a, .int b] n (mOv S A L rn σ) (fun o n' σ' => o = .returned (some (.int (if a ≤ mlk S A p z ∧ mlk S A p z ≤ b then 1 else 0))) ∧ n' = n ∧ σ' = mOv S A L rn σ) := by
  refine MetZ.of (by decide) (Nat.le_of_ble_eq_true rfl) (fun K hK hR hpo hmc hms C => ?_)
  refine z_aload_n C 1 d_M_among_0 rfl rfl ?_
  refine z_call C 4 (c_M_look hn hT) w_M_look ini_M d_M_among_1 rfl (z_goV (As := []) C l_M_114 w_M_look d_M_among_1 (by omega) rfl rfl rfl) (Nat.le_of_ble_eq_true rfl) (by rw [hR]; simp only [zRm]; omega) (by rw [hR]; simp only [zRm]; omega) (by rw [hR]; simp only [zRm]; omega) (by rw [hR]; simp only [zRm]; omega) (fun v n' σ' hv => ?_) (fun x n' σ' hv => ?_)
  · obtain ⟨hv, rfl, rfl⟩ := hv
    cases hv
    refine z_iload_n C 5 d_M_among_4 rfl rfl ?_
    refine z_icmp_lt C 8 20 d_M_among_5 rfl (by decide) (fun hc => ?_) (fun hc => ?_)
    · refine z_iconst C 21 d_M_among_20 rfl 0 (by decide) ?_
      exact z_zret C rfl (rfl) d_M_among_21 (by rw [hpo]; exact ⟨by rw [if_neg (fun q => Int32.not_le.mpr hc q.1)], rfl, rfl⟩) (by rw [hmc]; omega) (by rw [hms]; omega)
    · refine z_aload_n C 9 d_M_among_8 rfl rfl ?_
      refine z_call C 12 (c_M_look hn hT) w_M_look ini_M d_M_among_9 rfl (z_goV (As := []) C l_M_114 w_M_look d_M_among_9 (by omega) rfl rfl rfl) (Nat.le_of_ble_eq_true rfl) (by rw [hR]; simp only [zRm]; omega) (by rw [hR]; simp only [zRm]; omega) (by rw [hR]; simp only [zRm]; omega) (by rw [hR]; simp only [zRm]; omega) (fun v n' σ' hv => ?_) (fun x n' σ' hv => ?_)
      · obtain ⟨hv, rfl, rfl⟩ := hv
        cases hv
        refine z_iload_n C 13 d_M_among_12 rfl rfl ?_
        refine z_icmp_gt C 16 20 d_M_among_13 rfl (by decide) (fun hd => ?_) (fun hd => ?_)
        · refine z_iconst C 21 d_M_among_20 rfl 0 (by decide) ?_
          exact z_zret C rfl (rfl) d_M_among_21 (by rw [hpo]; exact ⟨by rw [if_neg (fun q => Int32.not_le.mpr hd q.2)], rfl, rfl⟩) (by rw [hmc]; omega) (by rw [hms]; omega)
        · refine z_iconst C 17 d_M_among_16 rfl 1 (by decide) ?_
          refine z_goto C 21 d_M_among_17 (by decide) ?_
          exact z_zret C rfl (rfl) d_M_among_21 (by rw [hpo]; exact ⟨by rw [if_pos ⟨Int32.not_lt.mp hc, Int32.not_lt.mp hd⟩], rfl, rfl⟩) (by rw [hmc]; omega) (by rw [hms]; omega)
      · exact absurd hv.1 (by simp)
  · exact absurd hv.1 (by simp)
end MRD
end
section
theorem d_M_type_0 : decode b_M_type 0 = .ok (.aload_n 0, 1) := by decide +kernel
theorem d_M_type_1 : decode b_M_type 1 = .ok (.iconst 0, 1) := by decide +kernel
theorem d_M_type_2 : decode b_M_type 2 = .ok (.putfield 101, 3) := by decide +kernel
theorem d_M_type_5 : decode b_M_type 5 = .ok (.iload_n 1, 1) := by decide +kernel
theorem d_M_type_6 : decode b_M_type 6 = .ok (.bipush 32, 2) := by decide +kernel
theorem d_M_type_8 : decode b_M_type 8 = .ok (.if_icmp .lt 19, 3) := by decide +kernel
theorem d_M_type_11 : decode b_M_type 11 = .ok (.iload_n 1, 1) := by decide +kernel
theorem d_M_type_12 : decode b_M_type 12 = .ok (.bipush 126, 2) := by decide +kernel
theorem d_M_type_14 : decode b_M_type 14 = .ok (.if_icmp .gt 13, 3) := by decide +kernel
theorem d_M_type_17 : decode b_M_type 17 = .ok (.aload_n 0, 1) := by decide +kernel
theorem d_M_type_18 : decode b_M_type 18 = .ok (.getfield 207, 3) := by decide +kernel
theorem d_M_type_21 : decode b_M_type 21 = .ok (.sipush 150, 3) := by decide +kernel
theorem d_M_type_24 : decode b_M_type 24 = .ok (.if_icmp .ne 5, 3) := by decide +kernel
theorem d_M_type_27 : decode b_M_type 27 = .ok (.iconst 0, 1) := by decide +kernel
theorem d_M_type_28 : decode b_M_type 28 = .ok (.ireturn, 1) := by decide +kernel
theorem d_M_type_29 : decode b_M_type 29 = .ok (.aload_n 0, 1) := by decide +kernel
theorem d_M_type_30 : decode b_M_type 30 = .ok (.dup, 1) := by decide +kernel
theorem d_M_type_31 : decode b_M_type 31 = .ok (.getfield 207, 3) := by decide +kernel
theorem d_M_type_34 : decode b_M_type 34 = .ok (.iconst 1, 1) := by decide +kernel
theorem d_M_type_35 : decode b_M_type 35 = .ok (.iadd, 1) := by decide +kernel
theorem d_M_type_36 : decode b_M_type 36 = .ok (.putfield 207, 3) := by decide +kernel
theorem d_M_type_39 : decode b_M_type 39 = .ok (.iload_n 1, 1) := by decide +kernel
theorem d_M_type_40 : decode b_M_type 40 = .ok (.bipush 32, 2) := by decide +kernel
theorem d_M_type_42 : decode b_M_type 42 = .ok (.if_icmp .ne 5, 3) := by decide +kernel
theorem d_M_type_45 : decode b_M_type 45 = .ok (.iconst 1, 1) := by decide +kernel
theorem d_M_type_46 : decode b_M_type 46 = .ok (.ireturn, 1) := by decide +kernel
theorem d_M_type_47 : decode b_M_type 47 = .ok (.aload_n 0, 1) := by decide +kernel
theorem d_M_type_48 : decode b_M_type 48 = .ok (.getfield 7, 3) := by decide +kernel
theorem d_M_type_51 : decode b_M_type 51 = .ok (.aload_n 0, 1) := by decide +kernel
theorem d_M_type_52 : decode b_M_type 52 = .ok (.getfield 111, 3) := by decide +kernel
theorem d_M_type_55 : decode b_M_type 55 = .ok (.iload_n 1, 1) := by decide +kernel
theorem d_M_type_56 : decode b_M_type 56 = .ok (.castore, 1) := by decide +kernel
theorem d_M_type_57 : decode b_M_type 57 = .ok (.aload_n 0, 1) := by decide +kernel
theorem d_M_type_58 : decode b_M_type 58 = .ok (.dup, 1) := by decide +kernel
theorem d_M_type_59 : decode b_M_type 59 = .ok (.getfield 111, 3) := by decide +kernel
theorem d_M_type_62 : decode b_M_type 62 = .ok (.iconst 1, 1) := by decide +kernel
theorem d_M_type_63 : decode b_M_type 63 = .ok (.iadd, 1) := by decide +kernel
theorem d_M_type_64 : decode b_M_type 64 = .ok (.putfield 111, 3) := by decide +kernel
theorem d_M_type_67 : decode b_M_type 67 = .ok (.iconst 1, 1) := by decide +kernel
theorem d_M_type_68 : decode b_M_type 68 = .ok (.ireturn, 1) := by decide +kernel
theorem d_M_place_0 : decode b_M_place 0 = .ok (.aload_n 0, 1) := by decide +kernel
theorem d_M_place_1 : decode b_M_place 1 = .ok (.iconst 0, 1) := by decide +kernel
theorem d_M_place_2 : decode b_M_place 2 = .ok (.putfield 101, 3) := by decide +kernel
theorem d_M_place_5 : decode b_M_place 5 = .ok (.aload_n 0, 1) := by decide +kernel
theorem d_M_place_6 : decode b_M_place 6 = .ok (.getfield 13, 3) := by decide +kernel
theorem d_M_place_9 : decode b_M_place 9 = .ok (.ireturn, 1) := by decide +kernel
theorem d_M_count_0 : decode b_M_count 0 = .ok (.iconst 0, 1) := by decide +kernel
theorem d_M_count_1 : decode b_M_count 1 = .ok (.istore_n 1, 1) := by decide +kernel
theorem d_M_count_2 : decode b_M_count 2 = .ok (.iconst 0, 1) := by decide +kernel
theorem d_M_count_3 : decode b_M_count 3 = .ok (.istore_n 2, 1) := by decide +kernel
theorem d_M_count_4 : decode b_M_count 4 = .ok (.iload_n 2, 1) := by decide +kernel
theorem d_M_count_5 : decode b_M_count 5 = .ok (.bipush 8, 2) := by decide +kernel
theorem d_M_count_7 : decode b_M_count 7 = .ok (.if_icmp .ge 21, 3) := by decide +kernel
theorem d_M_count_10 : decode b_M_count 10 = .ok (.aload_n 0, 1) := by decide +kernel
theorem d_M_count_11 : decode b_M_count 11 = .ok (.getfield 33, 3) := by decide +kernel
theorem d_M_count_14 : decode b_M_count 14 = .ok (.iload_n 2, 1) := by decide +kernel
theorem d_M_count_15 : decode b_M_count 15 = .ok (.baload, 1) := by decide +kernel
theorem d_M_count_16 : decode b_M_count 16 = .ok (.ifCond .eq 6, 3) := by decide +kernel
theorem d_M_count_19 : decode b_M_count 19 = .ok (.iinc 1 1, 3) := by decide +kernel
theorem d_M_count_22 : decode b_M_count 22 = .ok (.iinc 2 1, 3) := by decide +kernel
theorem d_M_count_25 : decode b_M_count 25 = .ok (.goto (-21), 3) := by decide +kernel
theorem d_M_count_28 : decode b_M_count 28 = .ok (.iload_n 1, 1) := by decide +kernel
theorem d_M_count_29 : decode b_M_count 29 = .ok (.ireturn, 1) := by decide +kernel
theorem d_M_clear_0 : decode b_M_clear 0 = .ok (.aload_n 0, 1) := by decide +kernel
theorem d_M_clear_1 : decode b_M_clear 1 = .ok (.iconst 0, 1) := by decide +kernel
theorem d_M_clear_2 : decode b_M_clear 2 = .ok (.putfield 101, 3) := by decide +kernel
theorem d_M_clear_5 : decode b_M_clear 5 = .ok (.aload_n 0, 1) := by decide +kernel
theorem d_M_clear_6 : decode b_M_clear 6 = .ok (.invokevirtual 216, 3) := by decide +kernel
theorem d_M_clear_9 : decode b_M_clear 9 = .ok (.istore_n 1, 1) := by decide +kernel
theorem d_M_clear_10 : decode b_M_clear 10 = .ok (.iconst 0, 1) := by decide +kernel
theorem d_M_clear_11 : decode b_M_clear 11 = .ok (.istore_n 2, 1) := by decide +kernel
theorem d_M_clear_12 : decode b_M_clear 12 = .ok (.iload_n 2, 1) := by decide +kernel
theorem d_M_clear_13 : decode b_M_clear 13 = .ok (.bipush 8, 2) := by decide +kernel
theorem d_M_clear_15 : decode b_M_clear 15 = .ok (.if_icmp .ge 16, 3) := by decide +kernel
theorem d_M_clear_18 : decode b_M_clear 18 = .ok (.aload_n 0, 1) := by decide +kernel
theorem d_M_clear_19 : decode b_M_clear 19 = .ok (.getfield 33, 3) := by decide +kernel
theorem d_M_clear_22 : decode b_M_clear 22 = .ok (.iload_n 2, 1) := by decide +kernel
theorem d_M_clear_23 : decode b_M_clear 23 = .ok (.iconst 0, 1) := by decide +kernel
theorem d_M_clear_24 : decode b_M_clear 24 = .ok (.bastore, 1) := by decide +kernel
theorem d_M_clear_25 : decode b_M_clear 25 = .ok (.iinc 2 1, 3) := by decide +kernel
theorem d_M_clear_28 : decode b_M_clear 28 = .ok (.goto (-16), 3) := by decide +kernel
theorem d_M_clear_31 : decode b_M_clear 31 = .ok (.iload_n 1, 1) := by decide +kernel
theorem d_M_clear_32 : decode b_M_clear 32 = .ok (.ireturn, 1) := by decide +kernel
theorem d_M_argument_0 : decode b_M_argument 0 = .ok (.aload_n 0, 1) := by decide +kernel
theorem d_M_argument_1 : decode b_M_argument 1 = .ok (.iconst 0, 1) := by decide +kernel
theorem d_M_argument_2 : decode b_M_argument 2 = .ok (.putfield 101, 3) := by decide +kernel
theorem d_M_argument_5 : decode b_M_argument 5 = .ok (.iload_n 1, 1) := by decide +kernel
theorem d_M_argument_6 : decode b_M_argument 6 = .ok (.ifCond .lt 8, 3) := by decide +kernel
theorem d_M_argument_9 : decode b_M_argument 9 = .ok (.iload_n 1, 1) := by decide +kernel
theorem d_M_argument_10 : decode b_M_argument 10 = .ok (.iconst 3, 1) := by decide +kernel
theorem d_M_argument_11 : decode b_M_argument 11 = .ok (.if_icmp .le 5, 3) := by decide +kernel
theorem d_M_argument_14 : decode b_M_argument 14 = .ok (.iconst 0, 1) := by decide +kernel
theorem d_M_argument_15 : decode b_M_argument 15 = .ok (.ireturn, 1) := by decide +kernel
theorem d_M_argument_16 : decode b_M_argument 16 = .ok (.aload_n 0, 1) := by decide +kernel
theorem d_M_argument_17 : decode b_M_argument 17 = .ok (.getfield 92, 3) := by decide +kernel
theorem d_M_argument_20 : decode b_M_argument 20 = .ok (.iload_n 1, 1) := by decide +kernel
theorem d_M_argument_21 : decode b_M_argument 21 = .ok (.lload_n 2, 1) := by decide +kernel
theorem d_M_argument_22 : decode b_M_argument 22 = .ok (.lastore, 1) := by decide +kernel
theorem d_M_argument_23 : decode b_M_argument 23 = .ok (.iconst 1, 1) := by decide +kernel
theorem d_M_argument_24 : decode b_M_argument 24 = .ok (.ireturn, 1) := by decide +kernel
theorem d_M_kind_0 : decode b_M_kind 0 = .ok (.aload_n 0, 1) := by decide +kernel
theorem d_M_kind_1 : decode b_M_kind 1 = .ok (.iconst 0, 1) := by decide +kernel
theorem d_M_kind_2 : decode b_M_kind 2 = .ok (.putfield 101, 3) := by decide +kernel
theorem d_M_kind_5 : decode b_M_kind 5 = .ok (.aload_n 0, 1) := by decide +kernel
theorem d_M_kind_6 : decode b_M_kind 6 = .ok (.getfield 95, 3) := by decide +kernel
theorem d_M_kind_9 : decode b_M_kind 9 = .ok (.ireturn, 1) := by decide +kernel
theorem d_M_value_0 : decode b_M_value 0 = .ok (.aload_n 0, 1) := by decide +kernel
theorem d_M_value_1 : decode b_M_value 1 = .ok (.iconst 0, 1) := by decide +kernel
theorem d_M_value_2 : decode b_M_value 2 = .ok (.putfield 101, 3) := by decide +kernel
theorem d_M_value_5 : decode b_M_value 5 = .ok (.aload_n 0, 1) := by decide +kernel
theorem d_M_value_6 : decode b_M_value 6 = .ok (.getfield 95, 3) := by decide +kernel
theorem d_M_value_9 : decode b_M_value 9 = .ok (.ifCond .ne 10, 3) := by decide +kernel
theorem d_M_value_12 : decode b_M_value 12 = .ok (.aload_n 0, 1) := by decide +kernel
theorem d_M_value_13 : decode b_M_value 13 = .ok (.getfield 287, 3) := by decide +kernel
theorem d_M_value_16 : decode b_M_value 16 = .ok (.goto 4, 3) := by decide +kernel
theorem d_M_value_19 : decode b_M_value 19 = .ok (.lconst 0, 1) := by decide +kernel
theorem d_M_value_20 : decode b_M_value 20 = .ok (.lreturn, 1) := by decide +kernel
theorem d_M_size_0 : decode b_M_size 0 = .ok (.aload_n 0, 1) := by decide +kernel
theorem d_M_size_1 : decode b_M_size 1 = .ok (.iconst 0, 1) := by decide +kernel
theorem d_M_size_2 : decode b_M_size 2 = .ok (.putfield 101, 3) := by decide +kernel
theorem d_M_size_5 : decode b_M_size 5 = .ok (.iload_n 1, 1) := by decide +kernel
theorem d_M_size_6 : decode b_M_size 6 = .ok (.ifCond .ne 17, 3) := by decide +kernel
theorem d_M_size_9 : decode b_M_size 9 = .ok (.aload_n 0, 1) := by decide +kernel
theorem d_M_size_10 : decode b_M_size 10 = .ok (.getfield 95, 3) := by decide +kernel
theorem d_M_size_13 : decode b_M_size 13 = .ok (.ifCond .le 10, 3) := by decide +kernel
theorem d_M_size_16 : decode b_M_size 16 = .ok (.aload_n 0, 1) := by decide +kernel
theorem d_M_size_17 : decode b_M_size 17 = .ok (.getfield 291, 3) := by decide +kernel
theorem d_M_size_20 : decode b_M_size 20 = .ok (.goto 24, 3) := by decide +kernel
theorem d_M_size_23 : decode b_M_size 23 = .ok (.iload_n 1, 1) := by decide +kernel
theorem d_M_size_24 : decode b_M_size 24 = .ok (.iconst 1, 1) := by decide +kernel
theorem d_M_size_25 : decode b_M_size 25 = .ok (.if_icmp .ne 18, 3) := by decide +kernel
theorem d_M_size_28 : decode b_M_size 28 = .ok (.aload_n 0, 1) := by decide +kernel
theorem d_M_size_29 : decode b_M_size 29 = .ok (.getfield 95, 3) := by decide +kernel
theorem d_M_size_32 : decode b_M_size 32 = .ok (.iconst 2, 1) := by decide +kernel
theorem d_M_size_33 : decode b_M_size 33 = .ok (.if_icmp .ne 10, 3) := by decide +kernel
theorem d_M_size_36 : decode b_M_size 36 = .ok (.aload_n 0, 1) := by decide +kernel
theorem d_M_size_37 : decode b_M_size 37 = .ok (.getfield 294, 3) := by decide +kernel
theorem d_M_size_40 : decode b_M_size 40 = .ok (.goto 4, 3) := by decide +kernel
theorem d_M_size_43 : decode b_M_size 43 = .ok (.iconst 0, 1) := by decide +kernel
theorem d_M_size_44 : decode b_M_size 44 = .ok (.ireturn, 1) := by decide +kernel
theorem d_M_cell_0 : decode b_M_cell 0 = .ok (.aload_n 0, 1) := by decide +kernel
theorem d_M_cell_1 : decode b_M_cell 1 = .ok (.iconst 0, 1) := by decide +kernel
theorem d_M_cell_2 : decode b_M_cell 2 = .ok (.putfield 101, 3) := by decide +kernel
theorem d_M_cell_5 : decode b_M_cell 5 = .ok (.aload_n 0, 1) := by decide +kernel
theorem d_M_cell_6 : decode b_M_cell 6 = .ok (.getfield 95, 3) := by decide +kernel
theorem d_M_cell_9 : decode b_M_cell 9 = .ok (.iconst 1, 1) := by decide +kernel
theorem d_M_cell_10 : decode b_M_cell 10 = .ok (.if_icmp .ne 7, 3) := by decide +kernel
theorem d_M_cell_13 : decode b_M_cell 13 = .ok (.iconst 0, 1) := by decide +kernel
theorem d_M_cell_14 : decode b_M_cell 14 = .ok (.goto 4, 3) := by decide +kernel
theorem d_M_cell_17 : decode b_M_cell 17 = .ok (.iload_n 2, 1) := by decide +kernel
theorem d_M_cell_18 : decode b_M_cell 18 = .ok (.istore_n 3, 1) := by decide +kernel
theorem d_M_cell_19 : decode b_M_cell 19 = .ok (.aload_n 0, 1) := by decide +kernel
theorem d_M_cell_20 : decode b_M_cell 20 = .ok (.getfield 95, 3) := by decide +kernel
theorem d_M_cell_23 : decode b_M_cell 23 = .ok (.iconst 1, 1) := by decide +kernel
theorem d_M_cell_24 : decode b_M_cell 24 = .ok (.if_icmp .lt 27, 3) := by decide +kernel
theorem d_M_cell_27 : decode b_M_cell 27 = .ok (.iload_n 1, 1) := by decide +kernel
theorem d_M_cell_28 : decode b_M_cell 28 = .ok (.ifCond .lt 23, 3) := by decide +kernel
theorem d_M_cell_31 : decode b_M_cell 31 = .ok (.iload_n 1, 1) := by decide +kernel
theorem d_M_cell_32 : decode b_M_cell 32 = .ok (.aload_n 0, 1) := by decide +kernel
theorem d_M_cell_33 : decode b_M_cell 33 = .ok (.getfield 291, 3) := by decide +kernel
theorem d_M_cell_36 : decode b_M_cell 36 = .ok (.if_icmp .ge 15, 3) := by decide +kernel
theorem d_M_cell_39 : decode b_M_cell 39 = .ok (.iload_n 3, 1) := by decide +kernel
theorem d_M_cell_40 : decode b_M_cell 40 = .ok (.ifCond .lt 11, 3) := by decide +kernel
theorem d_M_cell_43 : decode b_M_cell 43 = .ok (.iload_n 3, 1) := by decide +kernel
theorem d_M_cell_44 : decode b_M_cell 44 = .ok (.aload_n 0, 1) := by decide +kernel
theorem d_M_cell_45 : decode b_M_cell 45 = .ok (.getfield 294, 3) := by decide +kernel
theorem d_M_cell_48 : decode b_M_cell 48 = .ok (.if_icmp .lt 5, 3) := by decide +kernel
theorem d_M_cell_51 : decode b_M_cell 51 = .ok (.lconst 0, 1) := by decide +kernel
theorem d_M_cell_52 : decode b_M_cell 52 = .ok (.lreturn, 1) := by decide +kernel
theorem d_M_cell_53 : decode b_M_cell 53 = .ok (.aload_n 0, 1) := by decide +kernel
theorem d_M_cell_54 : decode b_M_cell 54 = .ok (.getfield 98, 3) := by decide +kernel
theorem d_M_cell_57 : decode b_M_cell 57 = .ok (.iload_n 1, 1) := by decide +kernel
theorem d_M_cell_58 : decode b_M_cell 58 = .ok (.aload_n 0, 1) := by decide +kernel
theorem d_M_cell_59 : decode b_M_cell 59 = .ok (.getfield 294, 3) := by decide +kernel
theorem d_M_cell_62 : decode b_M_cell 62 = .ok (.imul, 1) := by decide +kernel
theorem d_M_cell_63 : decode b_M_cell 63 = .ok (.iload_n 3, 1) := by decide +kernel
theorem d_M_cell_64 : decode b_M_cell 64 = .ok (.iadd, 1) := by decide +kernel
theorem d_M_cell_65 : decode b_M_cell 65 = .ok (.laload, 1) := by decide +kernel
theorem d_M_cell_66 : decode b_M_cell 66 = .ok (.lreturn, 1) := by decide +kernel
theorem d_M_counted_0 : decode b_M_counted 0 = .ok (.aload_n 0, 1) := by decide +kernel
theorem d_M_counted_1 : decode b_M_counted 1 = .ok (.iconst 0, 1) := by decide +kernel
theorem d_M_counted_2 : decode b_M_counted 2 = .ok (.putfield 101, 3) := by decide +kernel
theorem d_M_counted_5 : decode b_M_counted 5 = .ok (.iload_n 1, 1) := by decide +kernel
theorem d_M_counted_6 : decode b_M_counted 6 = .ok (.ifCond .ne 10, 3) := by decide +kernel
theorem d_M_counted_9 : decode b_M_counted 9 = .ok (.aload_n 0, 1) := by decide +kernel
theorem d_M_counted_10 : decode b_M_counted 10 = .ok (.getfield 219, 3) := by decide +kernel
theorem d_M_counted_13 : decode b_M_counted 13 = .ok (.goto 40, 3) := by decide +kernel
theorem d_M_counted_16 : decode b_M_counted 16 = .ok (.iload_n 1, 1) := by decide +kernel
theorem d_M_counted_17 : decode b_M_counted 17 = .ok (.iconst 1, 1) := by decide +kernel
theorem d_M_counted_18 : decode b_M_counted 18 = .ok (.if_icmp .ne 10, 3) := by decide +kernel
theorem d_M_counted_21 : decode b_M_counted 21 = .ok (.aload_n 0, 1) := by decide +kernel
theorem d_M_counted_22 : decode b_M_counted 22 = .ok (.getfield 236, 3) := by decide +kernel
theorem d_M_counted_25 : decode b_M_counted 25 = .ok (.goto 28, 3) := by decide +kernel
theorem d_M_counted_28 : decode b_M_counted 28 = .ok (.iload_n 1, 1) := by decide +kernel
theorem d_M_counted_29 : decode b_M_counted 29 = .ok (.iconst 2, 1) := by decide +kernel
theorem d_M_counted_30 : decode b_M_counted 30 = .ok (.if_icmp .ne 10, 3) := by decide +kernel
theorem d_M_counted_33 : decode b_M_counted 33 = .ok (.aload_n 0, 1) := by decide +kernel
theorem d_M_counted_34 : decode b_M_counted 34 = .ok (.getfield 239, 3) := by decide +kernel
theorem d_M_counted_37 : decode b_M_counted 37 = .ok (.goto 16, 3) := by decide +kernel
theorem d_M_counted_40 : decode b_M_counted 40 = .ok (.iload_n 1, 1) := by decide +kernel
theorem d_M_counted_41 : decode b_M_counted 41 = .ok (.iconst 3, 1) := by decide +kernel
theorem d_M_counted_42 : decode b_M_counted 42 = .ok (.if_icmp .ne 10, 3) := by decide +kernel
theorem d_M_counted_45 : decode b_M_counted 45 = .ok (.aload_n 0, 1) := by decide +kernel
theorem d_M_counted_46 : decode b_M_counted 46 = .ok (.getfield 253, 3) := by decide +kernel
theorem d_M_counted_49 : decode b_M_counted 49 = .ok (.goto 4, 3) := by decide +kernel
theorem d_M_counted_52 : decode b_M_counted 52 = .ok (.iconst 0, 1) := by decide +kernel
theorem d_M_counted_53 : decode b_M_counted 53 = .ok (.ireturn, 1) := by decide +kernel
theorem z_inc (f : Nat) : nI f + Int32.ofInt 1 = nI (f + 1) := by rw [nI_succ]; rfl
section MSI
variable {G : zG} {l : Launch} {n : Nat} {S : mS} {A : mA} {L : mL} {rn : Int64} {σ : zS}
theorem c_M_place (hn : 113 ≤ n) : MetZ G l y_M_place b_M_place 1 (some .int) [] 0 0 0 [.ref 85] n (mOv S A L rn σ) (fun o n' σ' => o = .returned (some (.int (S 6))) ∧ n' = n ∧ σ' = mOv (upd S 0 0) A L rn σ) := by
  refine MetZ.of (by decide) (Nat.le_of_ble_eq_true rfl) (fun K hK hR hpo hmc hms C => ?_)
  refine z_aload_n C 1 d_M_place_0 rfl rfl ?_
  refine z_iconst C 2 d_M_place_1 rfl 0 (by decide) ?_
  refine zm_puti C 5 p_M_101 d_M_place_2 rfl hn (by decide) (rfl) rfl rfl ?_
  refine z_aload_n C 6 d_M_place_5 rfl rfl ?_
  refine zm_get C 9 f_M_13 d_M_place_6 rfl hn rfl ?_
  exact z_iret C rfl d_M_place_9 (by rw [hpo]; exact ⟨rfl, rfl, rfl⟩) (by rw [hmc]; omega) (by rw [hms]; omega)
theorem c_M_kind (hn : 113 ≤ n) : MetZ G l y_M_kind b_M_kind 1 (some .int) [] 0 0 0 [.ref 85] n (mOv S A L rn σ) (fun o n' σ' => o = .returned (some (.int (S 46))) ∧ n' = n ∧ σ' = mOv (upd S 0 0) A L rn σ) := by
  refine MetZ.of (by decide) (Nat.le_of_ble_eq_true rfl) (fun K hK hR hpo hmc hms C => ?_)
  refine z_aload_n C 1 d_M_kind_0 rfl rfl ?_
  refine z_iconst C 2 d_M_kind_1 rfl 0 (by decide) ?_
  refine zm_puti C 5 p_M_101 d_M_kind_2 rfl hn (by decide) (rfl) rfl rfl ?_
  refine z_aload_n C 6 d_M_kind_5 rfl rfl ?_
  refine zm_get C 9 f_M_95 d_M_kind_6 rfl hn rfl ?_
  exact z_iret C rfl d_M_kind_9 (by rw [hpo]; exact ⟨rfl, rfl, rfl⟩) (by rw [hmc]; omega) (by rw [hms]; omega)
theorem c_M_value (hn : 113 ≤ n) : MetZ G l y_M_value b_M_value 1 (some .long) [] 0 0 0 [.ref 85] n (mOv S A L rn σ) (fun o n' σ' => o = .returned (some (.long (if S 46 = 0 then rn else 0))) ∧ n' = n ∧ σ' = mOv (upd S 0 0) A L rn σ) := by
  refine MetZ.of (by decide) (Nat.le_of_ble_eq_true rfl) (fun K hK hR hpo hmc hms C => ?_)
  refine z_aload_n C 1 d_M_value_0 rfl rfl ?_
  refine z_iconst C 2 d_M_value_1 rfl 0 (by decide) ?_
  refine zm_puti C 5 p_M_101 d_M_value_2 rfl hn (by decide) (rfl) rfl rfl ?_
  refine z_aload_n C 6 d_M_value_5 rfl rfl ?_
  refine zm_get C 9 f_M_95 d_M_value_6 rfl hn rfl ?_
  refine z_if_ne C 12 19 d_M_value_9 rfl (by decide) (fun hc => ?_) (fun hc => ?_)
  · refine z_lconst C 20 d_M_value_19 rfl 0 (by decide) ?_
    exact z_lret C rfl d_M_value_20 (by rw [hpo]; exact ⟨by rw [if_neg (show ¬ S 46 = 0 from hc)], rfl, rfl⟩) (by rw [hmc]; omega) (by rw [hms]; omega)
  · refine z_aload_n C 13 d_M_value_12 rfl rfl ?_
    refine zm_get C 16 f_M_287 d_M_value_13 rfl hn rfl ?_
    refine z_goto C 20 d_M_value_16 (by decide) ?_
    exact z_lret C rfl d_M_value_20 (by rw [hpo]; exact ⟨by rw [if_pos (show S 46 = 0 from hc)], rfl, rfl⟩) (by rw [hmc]; omega) (by rw [hms]; omega)
/-- what size(w) answers -/
def msize (S : mS) (w : Int32) : Int32 := if w = 0 ∧ 0 < S 46 then S 48 else if w = 1 ∧ S 46 = 2 then S 49 else 0
theorem c_M_size (hn : 113 ≤ n) (w : Int32) : MetZ G l y_M_size b_M_size 2 (some .int) [] 0 0 0 [.ref 85, .int w] n (mOv S A L rn σ) (fun o n' σ' => o = .returned (some (.int (msize S w))) ∧ n' = n ∧ σ' = mOv (upd S 0 0) A L rn σ) := by
  refine MetZ.of (by decide) (Nat.le_of_ble_eq_true rfl) (fun K hK hR hpo hmc hms C => ?_)
  have tail : ¬ (w = 0 ∧ 0 < S 46) → Z G K n (mOv (upd S 0 0) A L rn σ) 0 0 23 (lv_args 0 [.ref 85, .int w]) [] := fun h0 => by
    refine z_iload_n C 24 d_M_size_23 rfl rfl ?_
    refine z_iconst C 25 d_M_size_24 rfl 1 (by decide) ?_
    refine z_icmp_ne C 28 43 d_M_size_25 rfl (by decide) (fun h1 => ?_) (fun h1 => ?_)
    · refine z_iconst C 44 d_M_size_43 rfl 0 (by decide) ?_
      exact z_iret C rfl d_M_size_44 (by rw [hpo]; exact ⟨by rw [msize, if_neg h0, if_neg (fun q => h1 q.1)], rfl, rfl⟩) (by rw [hmc]; omega) (by rw [hms]; omega)
    · refine z_aload_n C 29 d_M_size_28 rfl rfl ?_
      refine zm_get C 32 f_M_95 d_M_size_29 rfl hn rfl ?_
      refine z_iconst C 33 d_M_size_32 rfl 2 (by decide) ?_
      refine z_icmp_ne C 36 43 d_M_size_33 rfl (by decide) (fun h2 => ?_) (fun h2 => ?_)
      · refine z_iconst C 44 d_M_size_43 rfl 0 (by decide) ?_
        exact z_iret C rfl d_M_size_44 (by rw [hpo]; exact ⟨by rw [msize, if_neg h0, if_neg (fun q => h2 q.2)], rfl, rfl⟩) (by rw [hmc]; omega) (by rw [hms]; omega)
      · refine z_aload_n C 37 d_M_size_36 rfl rfl ?_
        refine zm_get C 40 f_M_294 d_M_size_37 rfl hn rfl ?_
        refine z_goto C 44 d_M_size_40 (by decide) ?_
        exact z_iret C rfl d_M_size_44 (by rw [hpo]; exact ⟨by rw [msize, if_neg h0, if_pos ⟨h1, h2⟩]; rfl, rfl, rfl⟩) (by rw [hmc]; omega) (by rw [hms]; omega)
  refine z_aload_n C 1 d_M_size_0 rfl rfl ?_
  refine z_iconst C 2 d_M_size_1 rfl 0 (by decide) ?_
  refine zm_puti C 5 p_M_101 d_M_size_2 rfl hn (by decide) (rfl) rfl rfl ?_
  refine z_iload_n C 6 d_M_size_5 rfl rfl ?_
  refine z_if_ne C 9 23 d_M_size_6 rfl (by decide) (fun h0 => ?_) (fun h0 => ?_)
  · exact tail (fun q => h0 q.1)
  · refine z_aload_n C 10 d_M_size_9 rfl rfl ?_
    refine zm_get C 13 f_M_95 d_M_size_10 rfl hn rfl ?_
    refine z_if_le C 16 23 d_M_size_13 rfl (by decide) (fun h1 => ?_) (fun h1 => ?_)
    · exact tail (fun q => Int32.not_lt.mpr h1 q.2)
    · refine z_aload_n C 17 d_M_size_16 rfl rfl ?_
      refine zm_get C 20 f_M_291 d_M_size_17 rfl hn rfl ?_
      refine z_goto C 44 d_M_size_20 (by decide) ?_
      exact z_iret C rfl d_M_size_44 (by rw [hpo]; exact ⟨by rw [msize, if_pos ⟨h0, Int32.not_le.mp h1⟩]; rfl, rfl, rfl⟩) (by rw [hmc]; omega) (by rw [hms]; omega)
/-- what counted(w) answers -/
def mcounted (S : mS) (w : Int32) : Int32 := if w = 0 then S 39 else if w = 1 then S 40 else if w = 2 then S 42 else if w = 3 then S 43 else 0
theorem c_M_counted (hn : 113 ≤ n) (w : Int32) : MetZ G l y_M_counted b_M_counted 2 (some .int) [] 0 0 0 [.ref 85, .int w] n (mOv S A L rn σ) (fun o n' σ' => o = .returned (some (.int (mcounted S w))) ∧ n' = n ∧ σ' = mOv (upd S 0 0) A L rn σ) := by
  refine MetZ.of (by decide) (Nat.le_of_ble_eq_true rfl) (fun K hK hR hpo hmc hms C => ?_)
  refine z_aload_n C 1 d_M_counted_0 rfl rfl ?_
  refine z_iconst C 2 d_M_counted_1 rfl 0 (by decide) ?_
  refine zm_puti C 5 p_M_101 d_M_counted_2 rfl hn (by decide) (rfl) rfl rfl ?_
  refine z_iload_n C 6 d_M_counted_5 rfl rfl ?_
  refine z_if_ne C 9 16 d_M_counted_6 rfl (by decide) (fun h0 => ?_) (fun h0 => ?_)
  · refine z_iload_n C 17 d_M_counted_16 rfl rfl ?_
    refine z_iconst C 18 d_M_counted_17 rfl 1 (by decide) ?_
    refine z_icmp_ne C 21 28 d_M_counted_18 rfl (by decide) (fun h1 => ?_) (fun h1 => ?_)
    · refine z_iload_n C 29 d_M_counted_28 rfl rfl ?_
      refine z_iconst C 30 d_M_counted_29 rfl 2 (by decide) ?_
      refine z_icmp_ne C 33 40 d_M_counted_30 rfl (by decide) (fun h2 => ?_) (fun h2 => ?_)
      · refine z_iload_n C 41 d_M_counted_40 rfl rfl ?_
        refine z_iconst C 42 d_M_counted_41 rfl 3 (by decide) ?_
        refine z_icmp_ne C 45 52 d_M_counted_42 rfl (by decide) (fun h3 => ?_) (fun h3 => ?_)
        · refine z_iconst C 53 d_M_counted_52 rfl 0 (by decide) ?_
          exact z_iret C rfl d_M_counted_53 (by rw [hpo]; exact ⟨by rw [mcounted, if_neg h0, if_neg h1, if_neg h2, if_neg h3], rfl, rfl⟩) (by rw [hmc]; omega) (by rw [hms]; omega)
        · refine z_aload_n C 46 d_M_counted_45 rfl rfl ?_
          refine zm_get C 49 f_M_253 d_M_counted_46 rfl hn rfl ?_
          refine z_goto C 53 d_M_counted_49 (by decide) ?_
          exact z_iret C rfl d_M_counted_53 (by rw [hpo]; exact ⟨by rw [mcounted, if_neg h0, if_neg h1, if_neg h2, if_pos h3]; rfl, rfl, rfl⟩) (by rw [hmc]; omega) (by rw [hms]; omega)
      · refine z_aload_n C 34 d_M_counted_33 rfl rfl ?_
        refine zm_get C 37 f_M_239 d_M_counted_34 rfl hn rfl ?_
        refine z_goto C 53 d_M_counted_37 (by decide) ?_
        exact z_iret C rfl d_M_counted_53 (by rw [hpo]; exact ⟨by rw [mcounted, if_neg h0, if_neg h1, if_pos h2]; rfl, rfl, rfl⟩) (by rw [hmc]; omega) (by rw [hms]; omega)
    · refine z_aload_n C 22 d_M_counted_21 rfl rfl ?_
      refine zm_get C 25 f_M_236 d_M_counted_22 rfl hn rfl ?_
      refine z_goto C 53 d_M_counted_25 (by decide) ?_
      exact z_iret C rfl d_M_counted_53 (by rw [hpo]; exact ⟨by rw [mcounted, if_neg h0, if_pos h1]; rfl, rfl, rfl⟩) (by rw [hmc]; omega) (by rw [hms]; omega)
  · refine z_aload_n C 10 d_M_counted_9 rfl rfl ?_
    refine zm_get C 13 f_M_219 d_M_counted_10 rfl hn rfl ?_
    refine z_goto C 53 d_M_counted_13 (by decide) ?_
    exact z_iret C rfl d_M_counted_53 (by rw [hpo]; exact ⟨by rw [mcounted, if_pos h0]; rfl, rfl, rfl⟩) (by rw [hmc]; omega) (by rw [hms]; omega)
/-- argument(k, v) -/
theorem c_M_argument (hn : 113 ≤ n) (k : Int32) (v : Int64) : MetZ G l y_M_argument b_M_argument 4 (some .boolean) [] 0 0 0 [.ref 85, .int k, .long v] n (mOv S A L rn σ) (fun o n' σ' => o = .returned (some (.int (if k < 0 ∨ 3 < k then 0 else 1))) ∧ n' = n ∧ σ' = mOv (upd S 0 0) A (if k < 0 ∨ 3 < k then L else va_up L 111 (vp_updL (L 111) k.toNatClampNeg v)) rn σ) := by
  refine MetZ.of (by decide) (Nat.le_of_ble_eq_true rfl) (fun K hK hR hpo hmc hms C => ?_)
  refine z_aload_n C 1 d_M_argument_0 rfl rfl ?_
  refine z_iconst C 2 d_M_argument_1 rfl 0 (by decide) ?_
  refine zm_puti C 5 p_M_101 d_M_argument_2 rfl hn (by decide) (rfl) rfl rfl ?_
  refine z_iload_n C 6 d_M_argument_5 rfl rfl ?_
  refine z_if_lt C 9 14 d_M_argument_6 rfl (by decide) (fun h0 => ?_) (fun h0 => ?_)
  · refine z_iconst C 15 d_M_argument_14 rfl 0 (by decide) ?_
    exact z_zret C rfl (rfl) d_M_argument_15 (by rw [hpo]; exact ⟨by rw [if_pos (Or.inl h0)], rfl, by rw [if_pos (Or.inl h0)]⟩) (by rw [hmc]; omega) (by rw [hms]; omega)
  · refine z_iload_n C 10 d_M_argument_9 rfl rfl ?_
    refine z_iconst C 11 d_M_argument_10 rfl 3 (by decide) ?_
    refine z_icmp_le C 14 16 d_M_argument_11 rfl (by decide) (fun h1 => ?_) (fun h1 => ?_)
    · have hno : ¬ (k < 0 ∨ 3 < k) := fun q => q.elim h0 (fun q => Int32.not_lt.mpr h1 q)
      obtain ⟨j, hj, rfl⟩ := nI_of2 (M := 3) (n := 3) rfl h0 h1
      refine z_aload_n C 17 d_M_argument_16 rfl rfl ?_
      refine zm_get C 20 f_M_92 d_M_argument_17 rfl hn rfl ?_
      refine z_iload_n C 21 d_M_argument_20 rfl rfl ?_
      refine z_lload_n C 22 d_M_argument_21 rfl rfl ?_
      refine zm_last C 23 j d_M_argument_22 rfl hn (by decide) (by decide) (by decide) rfl (by show j < 4; omega) (by decide) ?_
      refine z_iconst C 24 d_M_argument_23 rfl 1 (by decide) ?_
      exact z_zret C rfl (rfl) d_M_argument_24 (by rw [hpo]; exact ⟨by rw [if_neg hno], rfl, by rw [if_neg hno, nI_clamp (by omega)]⟩) (by rw [hmc]; omega) (by rw [hms]; omega)
    · refine z_iconst C 15 d_M_argument_14 rfl 0 (by decide) ?_
      exact z_zret C rfl (rfl) d_M_argument_15 (by rw [hpo]; exact ⟨by rw [if_pos (Or.inr (Int32.not_le.mp h1))], rfl, by rw [if_pos (Or.inr (Int32.not_le.mp h1))]⟩) (by rw [hmc]; omega) (by rw [hms]; omega)
/-- how many of the first k functions are defined -/
def mcnt (f : Nat → Int32) : Nat → Nat
  | 0 => 0
  | k + 1 => mcnt f k + (if f k = 0 then 0 else 1)
theorem mcnt_le (f : Nat → Int32) : ∀ k, mcnt f k ≤ k
  | 0 => Nat.le_refl _
  | k + 1 => by
    have := mcnt_le f k
    unfold mcnt
    split <;> omega
theorem c_M_count (hn : 113 ≤ n) : MetZ G l y_M_count b_M_count 3 (some .int) [] 0 0 0 [.ref 85] n (mOv S A L rn σ) (fun o n' σ' => o = .returned (some (.int (nI (mcnt (A 92) 8)))) ∧ n' = n ∧ σ' = mOv S A L rn σ) := by
  refine MetZ.of (by decide) (Nat.le_of_ble_eq_true rfl) (fun K hK hR hpo hmc hms C => ?_)
  have loop : ∀ j f : Nat, f + j = 8 → Z G K n (mOv S A L rn σ) 0 0 4 [(2, .int (nI f)), (1, .int (nI (mcnt (A 92) f))), (0, .ref 85)] [] := by
    intro j
    induction j with
    | zero =>
      intro f hf
      obtain rfl : f = 8 := by omega
      refine z_iload_n C 5 d_M_count_4 rfl rfl ?_
      refine z_bipush C 7 d_M_count_5 rfl 8 (by decide) ?_
      refine z_icmp_ge C 10 28 d_M_count_7 rfl (by decide) (fun _ => ?_) (fun h9 => absurd (show (8 : Int32) ≤ nI 8 by decide) h9)
      refine z_iload_n C 29 d_M_count_28 rfl rfl ?_
      exact z_iret C rfl d_M_count_29 (by rw [hpo]; exact ⟨rfl, rfl, rfl⟩) (by rw [hmc]; omega) (by rw [hms]; omega)
    | succ j ih =>
      intro f hf
      refine z_iload_n C 5 d_M_count_4 rfl rfl ?_
      refine z_bipush C 7 d_M_count_5 rfl 8 (by decide) ?_
      refine z_icmp_ge C 10 28 d_M_count_7 rfl (by decide) (fun h9 => absurd h9 (show ¬ (8 : Int32) ≤ nI f from nI_ge (a := f) (b := 8) (by omega) (by omega))) (fun _ => ?_)
      refine z_aload_n C 11 d_M_count_10 rfl rfl ?_
      refine zm_get C 14 f_M_33 d_M_count_11 rfl hn rfl ?_
      refine z_iload_n C 15 d_M_count_14 rfl rfl ?_
      refine zm_zald C 16 f d_M_count_15 rfl hn rfl (by omega) ?_
      refine z_if_eq C 19 22 d_M_count_16 rfl (by decide) (fun hc => ?_) (fun hc => ?_)
      · refine z_iinc C 25 d_M_count_22 rfl (nI (f + 1)) rfl (z_inc f) (by decide) ?_
        refine z_goto C 4 d_M_count_25 (by decide) ?_
        have e : mcnt (A 92) (f + 1) = mcnt (A 92) f := by rw [mcnt, if_pos hc]; rfl
        have h := ih (f + 1) (by omega)
        rw [e] at h
        exact h
      · refine z_iinc C 22 d_M_count_19 rfl (nI (mcnt (A 92) f + 1)) rfl (z_inc _) (by decide) ?_
        refine z_iinc C 25 d_M_count_22 rfl (nI (f + 1)) rfl (z_inc f) (by decide) ?_
        refine z_goto C 4 d_M_count_25 (by decide) ?_
        have e : mcnt (A 92) (f + 1) = mcnt (A 92) f + 1 := by rw [mcnt, if_neg hc]
        have h := ih (f + 1) (by omega)
        rw [e] at h
        exact h
  refine z_iconst C 1 d_M_count_0 rfl 0 (by decide) ?_
  refine z_istore_n C 2 d_M_count_1 rfl (by decide) ?_
  refine z_iconst C 3 d_M_count_2 rfl 0 (by decide) ?_
  refine z_istore_n C 4 d_M_count_3 rfl (by decide) ?_
  exact loop 8 0 rfl
def mclr (f : Nat → Int32) (k : Nat) : Nat → Int32 := fun j => if j < k then 0 else f j
theorem mclr_step (A : mA) (k : Nat) : va_up (va_up A 92 (mclr (A 92) k)) 92 (upd (va_up A 92 (mclr (A 92) k) 92) k 0) = va_up A 92 (mclr (A 92) (k + 1)) := by
  rw [bx_uu, va_up_self]
  congr 1
  funext j
  unfold upd mclr
  by_cases h : j = k
  · subst h; simp
  · by_cases h2 : j < k
    · simp [h, h2, show j < k + 1 by omega]
    · simp [h, h2, show ¬ j < k + 1 by omega]
theorem mclr_0 (A : mA) : va_up A 92 (mclr (A 92) 0) = A := by
  funext i
  by_cases h : i = 92
  · subst h; rw [va_up_self]; funext j; simp [mclr]
  · rw [va_up_ne _ _ h]
theorem c_M_clear (hn : 113 ≤ n) : MetZ G l y_M_clear b_M_clear 3 (some .int) [] 1 0 0 [.ref 85] n (mOv S A L rn σ) (fun o n' σ' => o = .returned (some (.int (nI (mcnt (A 92) 8)))) ∧ n' = n ∧ σ' = mOv (upd S 0 0) (va_up A 92 (mclr (A 92) 8)) L rn σ) := by
  refine MetZ.of (by decide) (Nat.le_of_ble_eq_true rfl) (fun K hK hR hpo hmc hms C => ?_)
  have loop : ∀ j f : Nat, f + j = 8 → Z G K n (mOv (upd S 0 0) (va_up A 92 (mclr (A 92) f)) L rn σ) 0 0 12 [(2, .int (nI f)), (1, .int (nI (mcnt (A 92) 8))), (0, .ref 85)] [] := by
    intro j
    induction j with
    | zero =>
      intro f hf
      obtain rfl : f = 8 := by omega
      refine z_iload_n C 13 d_M_clear_12 rfl rfl ?_
      refine z_bipush C 15 d_M_clear_13 rfl 8 (by decide) ?_
      refine z_icmp_ge C 18 31 d_M_clear_15 rfl (by decide) (fun _ => ?_) (fun h9 => absurd (show (8 : Int32) ≤ nI 8 by decide) h9)
      refine z_iload_n C 32 d_M_clear_31 rfl rfl ?_
      exact z_iret C rfl d_M_clear_32 (by rw [hpo]; exact ⟨rfl, rfl, rfl⟩) (by rw [hmc]; omega) (by rw [hms]; omega)
    | succ j ih =>
      intro f hf
      refine z_iload_n C 13 d_M_clear_12 rfl rfl ?_
      refine z_bipush C 15 d_M_clear_13 rfl 8 (by decide) ?_
      refine z_icmp_ge C 18 31 d_M_clear_15 rfl (by decide) (fun h9 => absurd h9 (show ¬ (8 : Int32) ≤ nI f from nI_ge (a := f) (b := 8) (by omega) (by omega))) (fun _ => ?_)
      refine z_aload_n C 19 d_M_clear_18 rfl rfl ?_
      refine zm_get C 22 f_M_33 d_M_clear_19 rfl hn rfl ?_
      refine z_iload_n C 23 d_M_clear_22 rfl rfl ?_
      refine z_iconst C 24 d_M_clear_23 rfl 0 (by decide) ?_
      refine zm_zast C 25 f 0 d_M_clear_24 rfl hn rfl (by omega) (by decide) ?_
      rw [mclr_step]
      refine z_iinc C 28 d_M_clear_25 rfl (nI (f + 1)) rfl (z_inc f) (by decide) ?_
      refine z_goto C 12 d_M_clear_28 (by decide) ?_
      exact ih (f + 1) (by omega)
  refine z_aload_n C 1 d_M_clear_0 rfl rfl ?_
  refine z_iconst C 2 d_M_clear_1 rfl 0 (by decide) ?_
  refine zm_puti C 5 p_M_101 d_M_clear_2 rfl hn (by decide) (rfl) rfl rfl ?_
  refine z_aload_n C 6 d_M_clear_5 rfl rfl ?_
  refine z_call C 9 (c_M_count hn) w_M_count ini_M d_M_clear_6 rfl (z_goV (As := []) C l_M_216 w_M_count d_M_clear_6 (by omega) rfl rfl rfl) (Nat.le_of_ble_eq_true rfl) (by rw [hR]; simp only [zRm]; omega) (by rw [hR]; simp only [zRm]; omega) (by rw [hR]; simp only [zRm]; omega) (by rw [hR]; simp only [zRm]; omega) (fun v n' σ' hv => ?_) (fun x n' σ' hv => ?_)
  · obtain ⟨hv, rfl, rfl⟩ := hv
    cases hv
    refine z_istore_n C 10 d_M_clear_9 rfl (by decide) ?_
    refine z_iconst C 11 d_M_clear_10 rfl 0 (by decide) ?_
    refine z_istore_n C 12 d_M_clear_11 rfl (by decide) ?_
    have h := loop 8 0 rfl
    rw [mclr_0] at h
    exact h
  · exact absurd hv.1 (by simp)
theorem z_char {c : Int32} (h0 : ¬ c < 32) (h1 : ¬ 126 < c) : narrow .char (.int c) = .int c ∧ vp_nar .char c = c := by
  have h2 : ¬ c < 0 := fun q => h0 (Int32.lt_trans q (by decide))
  obtain ⟨j, hj, rfl⟩ := nI_of2 (M := 126) (n := 126) rfl h2 (Int32.not_lt.mp h1)
  have h := (pk_charN (q := j) (by omega)).1
  exact ⟨h, by unfold vp_nar; rw [h]⟩
/-- type(c): is it refused -/
def mbad (S : mS) (c : Int32) : Prop := c < 32 ∨ 126 < c ∨ S 1 = 150
theorem c_M_type (hn : 113 ≤ n) (c : Int32) (u z : Nat) (h1 : S 1 = nI u) (h2 : S 2 = nI z) (hzu : z ≤ u) (hu : u ≤ 150) : MetZ G l y_M_type b_M_type 2 (some .boolean) [] 0 0 0 [.ref 85, .int c] n (mOv S A L rn σ) (fun o n' σ' => n' = n ∧
    ((mbad S c ∧ o = .returned (some (.int 0)) ∧ σ' = mOv (upd S 0 0) A L rn σ) ∨ (¬ mbad S c ∧ c = 32 ∧ o = .returned (some (.int 1)) ∧ σ' = mOv (upd (upd S 0 0) 1 (nI (u + 1))) A L rn σ) ∨
     (¬ mbad S c ∧ c ≠ 32 ∧ o = .returned (some (.int 1)) ∧ σ' = mOv (upd (upd (upd S 0 0) 1 (nI (u + 1))) 2 (nI (z + 1))) (va_up A 86 (upd (A 86) z c)) L rn σ))) := by
  refine MetZ.of (by decide) (Nat.le_of_ble_eq_true rfl) (fun K hK hR hpo hmc hms C => ?_)
  have no : mbad S c → Z G K n (mOv (upd S 0 0) A L rn σ) 0 0 27 (lv_args 0 [.ref 85, .int c]) [] := fun hb => by
    refine z_iconst C 28 d_M_type_27 rfl 0 (by decide) ?_
    exact z_zret C rfl (rfl) d_M_type_28 (by rw [hpo]; exact ⟨rfl, Or.inl ⟨hb, rfl, rfl⟩⟩) (by rw [hmc]; omega) (by rw [hms]; omega)
  refine z_aload_n C 1 d_M_type_0 rfl rfl ?_
  refine z_iconst C 2 d_M_type_1 rfl 0 (by decide) ?_
  refine zm_puti C 5 p_M_101 d_M_type_2 rfl hn (by decide) (rfl) rfl rfl ?_
  refine z_iload_n C 6 d_M_type_5 rfl rfl ?_
  refine z_bipush C 8 d_M_type_6 rfl 32 (by decide) ?_
  refine z_icmp_lt C 11 27 d_M_type_8 rfl (by decide) (fun ha => ?_) (fun ha => ?_)
  · exact no (Or.inl ha)
  refine z_iload_n C 12 d_M_type_11 rfl rfl ?_
  refine z_bipush C 14 d_M_type_12 rfl 126 (by decide) ?_
  refine z_icmp_gt C 17 27 d_M_type_14 rfl (by decide) (fun hb => ?_) (fun hb => ?_)
  · exact no (Or.inr (Or.inl hb))
  refine z_aload_n C 18 d_M_type_17 rfl rfl ?_
  refine zm_get C 21 f_M_207 d_M_type_18 rfl hn rfl ?_
  refine z_sipush C 24 d_M_type_21 rfl 150 (by decide) ?_
  refine z_icmp_ne C 27 29 d_M_type_24 rfl (by decide) (fun hc => ?_) (fun hc => ?_)
  · have hc : ¬ S 1 = 150 := hc
    have hg : ¬ mbad S c := fun q => q.elim ha (fun q => q.elim hb hc)
    have hu2 : u < 150 := by
      rcases Nat.lt_or_ge u 150 with h | h
      · exact h
      · obtain rfl : u = 150 := by omega
        exact absurd h1 hc
    have e1 : S 1 + 1 = nI (u + 1) := by rw [h1]; exact (nI_succ u).symm
    have e2 : S 2 + 1 = nI (z + 1) := by rw [h2]; exact (nI_succ z).symm
    refine z_aload_n C 30 d_M_type_29 rfl rfl ?_
    refine z_dup C 31 d_M_type_30 rfl rfl ?_
    refine zm_get C 34 f_M_207 d_M_type_31 rfl hn rfl ?_
    refine z_iconst C 35 d_M_type_34 rfl 1 (by decide) ?_
    refine z_iadd C 36 d_M_type_35 rfl ?_
    rw [show (upd S 0 0 1 + 1 : Int32) = nI (u + 1) from e1]
    refine zm_puti C 39 p_M_207 d_M_type_36 rfl hn (by decide) (rfl) rfl rfl ?_
    refine z_iload_n C 40 d_M_type_39 rfl rfl ?_
    refine z_bipush C 42 d_M_type_40 rfl 32 (by decide) ?_
    refine z_icmp_ne C 45 47 d_M_type_42 rfl (by decide) (fun hd => ?_) (fun hd => ?_)
    · refine z_aload_n C 48 d_M_type_47 rfl rfl ?_
      refine zm_get C 51 f_M_7 d_M_type_48 rfl hn rfl ?_
      refine z_aload_n C 52 d_M_type_51 rfl rfl ?_
      refine zm_get C 55 f_M_111 d_M_type_52 rfl hn rfl ?_
      refine z_iload_n C 56 d_M_type_55 rfl rfl ?_
      refine zm_cast C 57 z c d_M_type_56 rfl hn (show S 2 = nI z from h2) (by omega) (z_char ha hb).2 ?_
      refine z_aload_n C 58 d_M_type_57 rfl rfl ?_
      refine z_dup C 59 d_M_type_58 rfl rfl ?_
      refine zm_get C 62 f_M_111 d_M_type_59 rfl hn rfl ?_
      refine z_iconst C 63 d_M_type_62 rfl 1 (by decide) ?_
      refine z_iadd C 64 d_M_type_63 rfl ?_
      rw [show (upd (upd S 0 0) 1 (nI (u + 1)) 2 + 1 : Int32) = nI (z + 1) from e2]
      refine zm_puti C 67 p_M_111 d_M_type_64 rfl hn (by decide) (rfl) rfl rfl ?_
      refine z_iconst C 68 d_M_type_67 rfl 1 (by decide) ?_
      exact z_zret C rfl (rfl) d_M_type_68 (by rw [hpo]; exact ⟨rfl, Or.inr (Or.inr ⟨hg, hd, rfl, rfl⟩)⟩) (by rw [hmc]; omega) (by rw [hms]; omega)
    · refine z_iconst C 46 d_M_type_45 rfl 1 (by decide) ?_
      exact z_zret C rfl (rfl) d_M_type_46 (by rw [hpo]; exact ⟨rfl, Or.inr (Or.inl ⟨hg, hd, rfl, rfl⟩)⟩) (by rw [hmc]; omega) (by rw [hms]; omega)
  · exact no (Or.inr (Or.inr hc))
/-- cell(i, j) -/
def mcol (S : mS) (j : Int32) : Int32 := if S 46 = 1 then 0 else j
def mcell (S : mS) (L : mL) (i j : Int32) : Int64 := if S 46 < 1 ∨ i < 0 ∨ S 48 ≤ i ∨ mcol S j < 0 ∨ S 49 ≤ mcol S j then 0 else L 112 (i.toNatClampNeg * (S 49).toNatClampNeg + (mcol S j).toNatClampNeg)
theorem c_M_cell (hn : 113 ≤ n) (i j : Int32) (r c : Nat) (hA : ¬ S 46 < 1 → S 48 = nI r ∧ S 49 = nI c ∧ r ≤ 40 ∧ c ≤ 40 ∧ r * c ≤ 40) : MetZ G l y_M_cell b_M_cell 4 (some .long) [] 0 0 0 [.ref 85, .int i, .int j] n (mOv S A L rn σ) (fun o n' σ' => o = .returned (some (.long (mcell S L i j))) ∧ n' = n ∧ σ' = mOv (upd S 0 0) A L rn σ) := by
  refine MetZ.of (by decide) (Nat.le_of_ble_eq_true rfl) (fun K hK hR hpo hmc hms C => ?_)
  have no : ∀ lv, (S 46 < 1 ∨ i < 0 ∨ S 48 ≤ i ∨ mcol S j < 0 ∨ S 49 ≤ mcol S j) → Z G K n (mOv (upd S 0 0) A L rn σ) 0 0 51 lv [] := fun lv hb => by
    refine z_lconst C 52 d_M_cell_51 rfl 0 (by decide) ?_
    exact z_lret C rfl d_M_cell_52 (by rw [hpo]; exact ⟨by rw [mcell, if_pos hb], rfl, rfl⟩) (by rw [hmc]; omega) (by rw [hms]; omega)
  have go : Z G K n (mOv (upd S 0 0) A L rn σ) 0 0 19 [(3, .int (mcol S j)), (0, .ref 85), (1, .int i), (2, .int j)] [] := by
    refine z_aload_n C 20 d_M_cell_19 rfl rfl ?_
    refine zm_get C 23 f_M_95 d_M_cell_20 rfl hn rfl ?_
    refine z_iconst C 24 d_M_cell_23 rfl 1 (by decide) ?_
    refine z_icmp_lt C 27 51 d_M_cell_24 rfl (by decide) (fun a1 => ?_) (fun a1 => ?_)
    · exact no _ (Or.inl a1)
    refine z_iload_n C 28 d_M_cell_27 rfl rfl ?_
    refine z_if_lt C 31 51 d_M_cell_28 rfl (by decide) (fun a2 => ?_) (fun a2 => ?_)
    · exact no _ (Or.inr (Or.inl a2))
    refine z_iload_n C 32 d_M_cell_31 rfl rfl ?_
    refine z_aload_n C 33 d_M_cell_32 rfl rfl ?_
    refine zm_get C 36 f_M_291 d_M_cell_33 rfl hn rfl ?_
    refine z_icmp_ge C 39 51 d_M_cell_36 rfl (by decide) (fun a3 => ?_) (fun a3 => ?_)
    · exact no _ (Or.inr (Or.inr (Or.inl a3)))
    refine z_iload_n C 40 d_M_cell_39 rfl rfl ?_
    refine z_if_lt C 43 51 d_M_cell_40 rfl (by decide) (fun a4 => ?_) (fun a4 => ?_)
    · exact no _ (Or.inr (Or.inr (Or.inr (Or.inl a4))))
    refine z_iload_n C 44 d_M_cell_43 rfl rfl ?_
    refine z_aload_n C 45 d_M_cell_44 rfl rfl ?_
    refine zm_get C 48 f_M_294 d_M_cell_45 rfl hn rfl ?_
    refine z_icmp_lt C 51 53 d_M_cell_48 rfl (by decide) (fun a5 => ?_) (fun a5 => ?_)
    · have a1 : ¬ S 46 < 1 := a1
      obtain ⟨h8, h9, hr, hc, hrc⟩ := hA a1
      have a3 : ¬ S 48 ≤ i := a3
      have a5 : mcol S j < S 49 := a5
      have hno : ¬ (S 46 < 1 ∨ i < 0 ∨ S 48 ≤ i ∨ mcol S j < 0 ∨ S 49 ≤ mcol S j) := fun q => q.elim a1 (fun q => q.elim a2 (fun q => q.elim a3 (fun q => q.elim a4 (fun q => Int32.not_le.mpr a5 q))))
      obtain ⟨ii, hi, ei⟩ := nI_of a2
      obtain ⟨jj, hj, ej⟩ := nI_of a4
      have hi2 : ii < r := by
        rw [ei, h8] at a3
        exact Nat.lt_of_not_le (fun q => a3 ((nI_leI (by omega) (by omega)).mpr q))
      have hj2 : jj < c := by
        rw [ej, h9] at a5
        exact (nI_ltI (by omega) (by omega)).mp a5
      have hb : ii * c + jj < 40 := by
        have h1 : (ii + 1) * c ≤ r * c := Nat.mul_le_mul_right c hi2
        rw [Nat.succ_mul] at h1
        omega
      have ex : i * upd S 0 0 49 + mcol S j = nI (ii * c + jj) := by
        rw [show upd S 0 0 49 = nI c from h9, ei, ej, pk_mul, nI_add]
      refine z_aload_n C 54 d_M_cell_53 rfl rfl ?_
      refine zm_get C 57 f_M_98 d_M_cell_54 rfl hn rfl ?_
      refine z_iload_n C 58 d_M_cell_57 rfl rfl ?_
      refine z_aload_n C 59 d_M_cell_58 rfl rfl ?_
      refine zm_get C 62 f_M_294 d_M_cell_59 rfl hn rfl ?_
      refine z_imul C 63 d_M_cell_62 rfl ?_
      refine z_iload_n C 64 d_M_cell_63 rfl rfl ?_
      refine z_iadd C 65 d_M_cell_64 rfl ?_
      refine zm_lald C 66 (ii * c + jj) d_M_cell_65 rfl hn (by decide) (by decide) (by decide) ex (by show ii * c + jj < 40; exact hb) (by decide) ?_
      exact z_lret C rfl d_M_cell_66 (by rw [hpo]; exact ⟨by rw [mcell, if_neg hno, h9, ei, ej, nI_clamp (by omega), nI_clamp (by omega), nI_clamp (by omega)], rfl, rfl⟩) (by rw [hmc]; omega) (by rw [hms]; omega)
    · exact no _ (Or.inr (Or.inr (Or.inr (Or.inr (Int32.not_lt.mp a5)))))
  refine z_aload_n C 1 d_M_cell_0 rfl rfl ?_
  refine z_iconst C 2 d_M_cell_1 rfl 0 (by decide) ?_
  refine zm_puti C 5 p_M_101 d_M_cell_2 rfl hn (by decide) (rfl) rfl rfl ?_
  refine z_aload_n C 6 d_M_cell_5 rfl rfl ?_
  refine zm_get C 9 f_M_95 d_M_cell_6 rfl hn rfl ?_
  refine z_iconst C 10 d_M_cell_9 rfl 1 (by decide) ?_
  refine z_icmp_ne C 13 17 d_M_cell_10 rfl (by decide) (fun hk => ?_) (fun hk => ?_)
  · refine z_iload_n C 18 d_M_cell_17 rfl rfl ?_
    refine z_istore_n C 19 d_M_cell_18 rfl (by decide) ?_
    have e : mcol S j = j := by rw [mcol, if_neg (show ¬ S 46 = 1 from hk)]
    rw [e] at go
    exact go
  · refine z_iconst C 14 d_M_cell_13 rfl 0 (by decide) ?_
    refine z_goto C 18 d_M_cell_14 (by decide) ?_
    refine z_istore_n C 19 d_M_cell_18 rfl (by decide) ?_
    have e : mcol S j = 0 := by rw [mcol, if_pos (show S 46 = 1 from hk)]
    rw [e] at go
    exact go
end MSI
end
section
/-! X: the class's own cells, 0 .. 84. xs: its ints (0 typed, 1 length, 2 defined, 3 resultType, 4 place, 5 begun, 6 updates, 7 framesTaken, 8 made, 9 most, 10 there); xr: result; xa: arrays of ints, chars, booleans by their numbers (1 text, 7 heights, 8 widths, 18 taken); xl: arrays of longs (4 arguments, 10 .. 17 numbers, 20 .. 84 frames); xf: the functions -/
abbrev xF : Type := Nat → Option Nat
def xF0 (xs : mS) (xr : Int64) : List Value := [.ref 1, .ref 2, .ref 3, .ref 4, .ref 5, .int (xs 0), .int (xs 1), .int (xs 2), .int (xs 3), .long xr]
def xF2 (xs : mS) : List Value := [.int (xs 4)]
def xF5 (xs : mS) : List Value := [.ref 6, .int (xs 5), .int (xs 6), .ref 19, .int (xs 7)]
def xF6 (xs : mS) : List Value := [.ref 7, .ref 8, .int (xs 8), .int (xs 9), .ref 9, .ref 18, .int (xs 10)]
def xTy (i : Nat) : Nat := match i with
  | 1 => 2
  | 7 => 0
  | 8 => 0
  | 18 => 3
  | _ => 1
def xLen (i : Nat) : Nat := if i = 1 then 150 else if i = 4 then 4 else if i < 9 then 8 else if i < 18 then 40 else if i = 18 then 8 else 20
def xOv (xs : mS) (xr : Int64) (xa : mA) (xl : mL) (xf : xF) (σ : zS) : zS := fun i =>
  if i = 0 then .inr (0, xF0 xs xr) else if i = 2 then .inr (1, xF2 xs) else if i = 5 then .inr (7, xF5 xs) else if i = 6 then .inr (6, xF6 xs)
  else if i = 3 then .inl (4, 8, .inr (.inr (.inr (.inr xf)))) else if i = 9 then .inl (6, 8, .inr (.inr (.inr (.inr (fun j => if j < 8 then some (9 + 1 + j) else none)))))
  else if i = 19 then .inl (6, 65, .inr (.inr (.inr (.inr (fun j => if j < 65 then some (19 + 1 + j) else none))))) else if 85 ≤ i then σ i
  else if xTy i = 1 then .inl (1, xLen i, .inr (.inl (xl i))) else .inl (xTy i, xLen i, .inl (xa i))
section XS
variable (xs : mS) (xr : Int64) (xa : mA) (xl : mL) (xf : xF) (σ : zS)
theorem xOv_0 {k : Nat} (x : Int32) (r : Int64) (h : k < 4) : va_up (xOv xs xr xa xl xf σ) 0 (.inr (0, xF0 (upd xs k x) r)) = xOv (upd xs k x) r xa xl xf σ := by
  have e2 : xF2 (upd xs k x) = xF2 xs := by simp [xF2, upd, show ¬ 4 = k by omega]
  have e5 : xF5 (upd xs k x) = xF5 xs := by simp [xF5, upd, show ¬ 5 = k by omega, show ¬ 6 = k by omega, show ¬ 7 = k by omega]
  have e6 : xF6 (upd xs k x) = xF6 xs := by simp [xF6, upd, show ¬ 8 = k by omega, show ¬ 9 = k by omega, show ¬ 10 = k by omega]
  funext i
  unfold va_up xOv
  by_cases h : i = 0
  · simp [h]
  · simp [h, e2, e5, e6]
theorem xOv_0r (r : Int64) : va_up (xOv xs xr xa xl xf σ) 0 (.inr (0, xF0 xs r)) = xOv xs r xa xl xf σ := by
  funext i
  unfold va_up xOv
  by_cases h : i = 0
  · simp [h]
  · simp [h]
theorem xOv_2 (x : Int32) : va_up (xOv xs xr xa xl xf σ) 2 (.inr (1, [.int x])) = xOv (upd xs 4 x) xr xa xl xf σ := by
  have e0 : xF0 (upd xs 4 x) xr = xF0 xs xr := rfl
  have e5 : xF5 (upd xs 4 x) = xF5 xs := rfl
  have e6 : xF6 (upd xs 4 x) = xF6 xs := rfl
  have e2 : xF2 (upd xs 4 x) = [.int x] := rfl
  funext i
  unfold va_up xOv
  by_cases h : i = 2
  · simp [h, e2]
  · simp [h, e0, e5, e6]
theorem xOv_5 {k : Nat} (x : Int32) (h : 5 ≤ k) (h' : k < 8) : va_up (xOv xs xr xa xl xf σ) 5 (.inr (7, xF5 (upd xs k x))) = xOv (upd xs k x) xr xa xl xf σ := by
  have e0 : xF0 (upd xs k x) xr = xF0 xs xr := by simp [xF0, upd, show ¬ 0 = k by omega, show ¬ 1 = k by omega, show ¬ 2 = k by omega, show ¬ 3 = k by omega]
  have e2 : xF2 (upd xs k x) = xF2 xs := by simp [xF2, upd, show ¬ 4 = k by omega]
  have e6 : xF6 (upd xs k x) = xF6 xs := by simp [xF6, upd, show ¬ 8 = k by omega, show ¬ 9 = k by omega, show ¬ 10 = k by omega]
  funext i
  unfold va_up xOv
  by_cases h : i = 5
  · simp [h]
  · simp [h, e2, e0, e6]
theorem xOv_6 {k : Nat} (x : Int32) (h : 8 ≤ k) : va_up (xOv xs xr xa xl xf σ) 6 (.inr (6, xF6 (upd xs k x))) = xOv (upd xs k x) xr xa xl xf σ := by
  have e0 : xF0 (upd xs k x) xr = xF0 xs xr := by simp [xF0, upd, show ¬ 0 = k by omega, show ¬ 1 = k by omega, show ¬ 2 = k by omega, show ¬ 3 = k by omega]
  have e2 : xF2 (upd xs k x) = xF2 xs := by simp [xF2, upd, show ¬ 4 = k by omega]
  have e5 : xF5 (upd xs k x) = xF5 xs := by simp [xF5, upd, show ¬ 5 = k by omega, show ¬ 6 = k by omega, show ¬ 7 = k by omega]
  funext i
  unfold va_up xOv
  by_cases h : i = 6
  · simp [h]
  · simp [h, e2, e0, e5]
theorem xOv_f (f : xF) : va_up (xOv xs xr xa xl xf σ) 3 (.inl (4, 8, .inr (.inr (.inr (.inr f))))) = xOv xs xr xa xl f σ := by
  funext i
  unfold va_up xOv
  by_cases h : i = 3
  · simp [h]
  · simp [h]
/-- the numbers of arrays of longs, and of the others -/
def xIsL (i : Nat) : Prop := i = 4 ∨ (10 ≤ i ∧ i < 18) ∨ (20 ≤ i ∧ i < 85)
def xIsA (i : Nat) : Prop := i = 1 ∨ i = 7 ∨ i = 8 ∨ i = 18
theorem xTy_L {i : Nat} (h : xIsL i) : xTy i = 1 := by
  unfold xIsL at h
  unfold xTy
  split <;> first | omega | rfl
theorem xTy_A {i : Nat} (h : xIsA i) : xTy i ≠ 1 := by
  rcases h with rfl | rfl | rfl | rfl <;> decide
theorem xOv_atL {a : Nat} (h : xIsL a) : xOv xs xr xa xl xf σ a = .inl (1, xLen a, .inr (.inl (xl a))) := by
  have e := xTy_L h
  unfold xIsL at h
  unfold xOv
  rw [if_neg (by omega), if_neg (by omega), if_neg (by omega), if_neg (by omega), if_neg (by omega), if_neg (by omega), if_neg (by omega), if_neg (by omega), if_pos e]
theorem xOv_atA {a : Nat} (h : xIsA a) : xOv xs xr xa xl xf σ a = .inl (xTy a, xLen a, .inl (xa a)) := by
  rcases h with rfl | rfl | rfl | rfl <;> rfl
theorem xOv_L {a : Nat} (h : xIsL a) (f : Nat → Int64) : va_up (xOv xs xr xa xl xf σ) a (.inl (1, xLen a, .inr (.inl f))) = xOv xs xr xa (va_up xl a f) xf σ := by
  funext i
  by_cases e : i = a
  · subst e
    rw [va_up_self, xOv_atL _ _ _ _ _ _ h, va_up_self]
  · rw [va_up_ne _ _ e]
    unfold xOv
    rw [va_up_ne _ _ e]
theorem xOv_A {a : Nat} (h : xIsA a) (f : Nat → Int32) : va_up (xOv xs xr xa xl xf σ) a (.inl (xTy a, xLen a, .inl f)) = xOv xs xr (va_up xa a f) xl xf σ := by
  funext i
  by_cases e : i = a
  · subst e
    rw [va_up_self, xOv_atA _ _ _ _ _ _ h, va_up_self]
  · rw [va_up_ne _ _ e]
    unfold xOv
    rw [va_up_ne _ _ e]
theorem xOv_out {i : Nat} (h : 85 ≤ i) : xOv xs xr xa xl xf σ i = σ i := by
  unfold xOv
  rw [if_neg (by omega), if_neg (by omega), if_neg (by omega), if_neg (by omega), if_neg (by omega), if_neg (by omega), if_neg (by omega), if_pos h]
theorem xOv_new {i : Nat} (h : 85 ≤ i) (e : va_E) : va_up (xOv xs xr xa xl xf σ) i e = xOv xs xr xa xl xf (va_up σ i e) := by
  funext j
  by_cases hj : j = i
  · subst hj
    rw [va_up_self, xOv_out _ _ _ _ _ _ h, va_up_self]
  · rw [va_up_ne _ _ hj]
    unfold xOv
    rw [va_up_ne _ _ hj]
/-- the two sides' cells stand apart -/
theorem mx_comm (S : mS) (A : mA) (L : mL) (rn : Int64) : mOv S A L rn (xOv xs xr xa xl xf σ) = xOv xs xr xa xl xf (mOv S A L rn σ) := by
  funext i
  by_cases h : 85 ≤ i
  · rw [xOv_out _ _ _ _ _ _ h]
    unfold mOv
    by_cases h1 : i = 85
    · rw [if_pos h1, if_pos h1]
    · have h3 : ¬ i < 86 := by omega
      rw [xOv_out _ _ _ _ _ _ h]
  · rw [mOv_out _ _ _ _ _ (by omega)]
    unfold xOv
    rw [if_neg h, if_neg h]
end XS
section XR
variable {G : zG} {K : zK} {y : MethodName} {cc : ByteArray} {nL : Nat} {ret : Option FieldType} {hs : List (Nat × Nat × Nat × Nat)} {n k1 k2 pc : Nat} {lv : List (Nat × Value)} {st : List Value} {xs : mS} {xr : Int64} {xa : mA} {xl : mL} {xf : xF} {σ : zS}
theorem zx_put0 (C : zC G K y cc nL ret hs) (pc' : Nat) {idx fk : Nat} (k : Nat) {x : Int32} (hf : zP y.cls idx 0 fk .int) (hd : decode cc pc = .ok (.putfield idx, 3)) (hp : pc + 3 = pc') (hn : 85 ≤ n) (hfk : fk < 10) (hk : k < 4) (hset : (xF0 xs xr).set fk (.int x) = xF0 (upd xs k x) xr)
    (kk : Z G K n (xOv (upd xs k x) xr xa xl xf σ) k1 k2 pc' lv st) : Z G K n (xOv xs xr xa xl xf σ) k1 k2 pc lv (.int x :: .ref 0 :: st) := by
  refine z_put C pc' (fs := xF0 xs xr) hf hd hp (by omega) rfl hfk rfl rfl ?_
  rw [hset, xOv_0 _ _ _ _ _ _ _ _ hk]
  exact kk
theorem zx_put0r (C : zC G K y cc nL ret hs) (pc' : Nat) {idx : Nat} {x : Int64} (hf : zP y.cls idx 0 9 .long) (hd : decode cc pc = .ok (.putfield idx, 3)) (hp : pc + 3 = pc') (hn : 85 ≤ n)
    (kk : Z G K n (xOv xs x xa xl xf σ) k1 k2 pc' lv st) : Z G K n (xOv xs xr xa xl xf σ) k1 k2 pc lv (.long x :: .ref 0 :: st) := by
  refine z_put C pc' (fs := xF0 xs xr) hf hd hp (by omega) rfl (by decide : 9 < 10) rfl rfl ?_
  rw [show (xF0 xs xr).set 9 (.long x) = xF0 xs x from rfl, xOv_0r]
  exact kk
theorem zx_put2 (C : zC G K y cc nL ret hs) (pc' : Nat) {idx : Nat} {x : Int32} (hf : zP y.cls idx 1 0 .int) (hd : decode cc pc = .ok (.putfield idx, 3)) (hp : pc + 3 = pc') (hn : 85 ≤ n)
    (kk : Z G K n (xOv (upd xs 4 x) xr xa xl xf σ) k1 k2 pc' lv st) : Z G K n (xOv xs xr xa xl xf σ) k1 k2 pc lv (.int x :: .ref 2 :: st) := by
  refine z_put C pc' (fs := xF2 xs) hf hd hp (by omega) rfl (by decide : 0 < 1) rfl rfl ?_
  rw [show (xF2 xs).set 0 (.int x) = [.int x] from rfl, xOv_2]
  exact kk
theorem zx_put5 (C : zC G K y cc nL ret hs) (pc' : Nat) {idx fk : Nat} (k : Nat) {x : Int32} (hf : zP y.cls idx 7 fk .int) (hd : decode cc pc = .ok (.putfield idx, 3)) (hp : pc + 3 = pc') (hn : 85 ≤ n) (hfk : fk < 5) (hk : 5 ≤ k) (hk' : k < 8) (hset : (xF5 xs).set fk (.int x) = xF5 (upd xs k x))
    (kk : Z G K n (xOv (upd xs k x) xr xa xl xf σ) k1 k2 pc' lv st) : Z G K n (xOv xs xr xa xl xf σ) k1 k2 pc lv (.int x :: .ref 5 :: st) := by
  refine z_put C pc' (fs := xF5 xs) hf hd hp (by omega) rfl hfk rfl rfl ?_
  rw [hset, xOv_5 _ _ _ _ _ _ _ hk hk']
  exact kk
theorem zx_put6 (C : zC G K y cc nL ret hs) (pc' : Nat) {idx fk : Nat} (k : Nat) {x : Int32} (hf : zP y.cls idx 6 fk .int) (hd : decode cc pc = .ok (.putfield idx, 3)) (hp : pc + 3 = pc') (hn : 85 ≤ n) (hfk : fk < 7) (hk : 8 ≤ k) (hset : (xF6 xs).set fk (.int x) = xF6 (upd xs k x))
    (kk : Z G K n (xOv (upd xs k x) xr xa xl xf σ) k1 k2 pc' lv st) : Z G K n (xOv xs xr xa xl xf σ) k1 k2 pc lv (.int x :: .ref 6 :: st) := by
  refine z_put C pc' (fs := xF6 xs) hf hd hp (by omega) rfl hfk rfl rfl ?_
  rw [hset, xOv_6 _ _ _ _ _ _ _ hk]
  exact kk
theorem zx_last (C : zC G K y cc nL ret hs) (pc' : Nat) {a : Nat} {j : Int32} {x : Int64} (jn : Nat) (hd : decode cc pc = .ok (.lastore, 1)) (hp : pc + 1 = pc') (hn : 85 ≤ n) (ha : xIsL a) (hj : j = nI jn) (hl : jn < xLen a) (hs : xLen a < 2 ^ 31)
    (k : Z G K n (xOv xs xr xa (va_up xl a (vp_updL (xl a) jn x)) xf σ) k1 k2 pc' lv st) : Z G K n (xOv xs xr xa xl xf σ) k1 k2 pc lv (.long x :: .int j :: .ref a :: st) := by
  have h85 : a < 85 := by unfold xIsL at ha; omega
  refine z_last C pc' jn hd hp (by omega) (xOv_atL _ _ _ _ _ _ ha) hj hl hs ?_
  rw [xOv_L _ _ _ _ _ _ ha]
  exact k
theorem zx_lald (C : zC G K y cc nL ret hs) (pc' : Nat) {a : Nat} {j : Int32} (jn : Nat) (hd : decode cc pc = .ok (.laload, 1)) (hp : pc + 1 = pc') (hn : 85 ≤ n) (ha : xIsL a) (hj : j = nI jn) (hl : jn < xLen a) (hs : xLen a < 2 ^ 31)
    (k : Z G K n (xOv xs xr xa xl xf σ) k1 k2 pc' lv (.long (xl a jn) :: st)) : Z G K n (xOv xs xr xa xl xf σ) k1 k2 pc lv (.int j :: .ref a :: st) := by
  have h85 : a < 85 := by unfold xIsL at ha; omega
  exact z_lald C pc' jn hd hp (by omega) (xOv_atL _ _ _ _ _ _ ha) hj hl hs k
theorem zx_iast (C : zC G K y cc nL ret hs) (pc' : Nat) {a : Nat} {j x : Int32} (jn : Nat) (hd : decode cc pc = .ok (.iastore, 1)) (hp : pc + 1 = pc') (hn : 85 ≤ n) (ha : a = 7 ∨ a = 8) (hj : j = nI jn) (hl : jn < 8)
    (k : Z G K n (xOv xs xr (va_up xa a (upd (xa a) jn x)) xl xf σ) k1 k2 pc' lv st) : Z G K n (xOv xs xr xa xl xf σ) k1 k2 pc lv (.int x :: .int j :: .ref a :: st) := by
  have hA : xIsA a := by unfold xIsA; omega
  have e := xOv_A xs xr xa xl xf σ hA (upd (xa a) jn x)
  rcases ha with rfl | rfl
  · refine z_iast C pc' jn hd hp (by omega) rfl hj hl (by decide) ?_
    rw [show va_up (xOv xs xr xa xl xf σ) 7 (.inl (0, xLen 7, .inl (upd (xa 7) jn x))) = _ from e]
    exact k
  · refine z_iast C pc' jn hd hp (by omega) rfl hj hl (by decide) ?_
    rw [show va_up (xOv xs xr xa xl xf σ) 8 (.inl (0, xLen 8, .inl (upd (xa 8) jn x))) = _ from e]
    exact k
theorem zx_cast (C : zC G K y cc nL ret hs) (pc' : Nat) {j x : Int32} (jn : Nat) (x' : Int32) (hd : decode cc pc = .ok (.castore, 1)) (hp : pc + 1 = pc') (hn : 85 ≤ n) (hj : j = nI jn) (hl : jn < 150) (hx : vp_nar .char x = x')
    (k : Z G K n (xOv xs xr (va_up xa 1 (upd (xa 1) jn x')) xl xf σ) k1 k2 pc' lv st) : Z G K n (xOv xs xr xa xl xf σ) k1 k2 pc lv (.int x :: .int j :: .ref 1 :: st) := by
  refine z_cast C pc' jn hd hp (by omega) rfl hj hl (by decide) x' hx ?_
  have e : va_up (xOv xs xr xa xl xf σ) 1 (.inl (2, xLen 1, .inl (upd (xa 1) jn x'))) = _ := xOv_A xs xr xa xl xf σ (Or.inl rfl) (upd (xa 1) jn x')
  rw [e]
  exact k
theorem zx_zast (C : zC G K y cc nL ret hs) (pc' : Nat) {j x : Int32} (jn : Nat) (x' : Int32) (hd : decode cc pc = .ok (.bastore, 1)) (hp : pc + 1 = pc') (hn : 85 ≤ n) (hj : j = nI jn) (hl : jn < 8) (hx : vp_nar .boolean x = x')
    (k : Z G K n (xOv xs xr (va_up xa 18 (upd (xa 18) jn x')) xl xf σ) k1 k2 pc' lv st) : Z G K n (xOv xs xr xa xl xf σ) k1 k2 pc lv (.int x :: .int j :: .ref 18 :: st) := by
  refine z_zast C pc' jn hd hp (by omega) rfl hj hl (by decide) x' hx ?_
  have e : va_up (xOv xs xr xa xl xf σ) 18 (.inl (3, xLen 18, .inl (upd (xa 18) jn x'))) = _ := xOv_A xs xr xa xl xf σ (Or.inr (Or.inr (Or.inr rfl))) (upd (xa 18) jn x')
  rw [e]
  exact k
theorem zx_fnull (C : zC G K y cc nL ret hs) (pc' : Nat) {j : Int32} (jn : Nat) (hd : decode cc pc = .ok (.aastore, 1)) (hp : pc + 1 = pc') (hn : 85 ≤ n) (hj : j = nI jn) (hl : jn < 8)
    (k : Z G K n (xOv xs xr xa xl (va_up xf jn none) σ) k1 k2 pc' lv st) : Z G K n (xOv xs xr xa xl xf σ) k1 k2 pc lv (.null :: .int j :: .ref 3 :: st) := by
  refine z_aastN C pc' (t := 4) jn hd hp (by omega) rfl rfl hj hl (by decide) ?_
  rw [xOv_f]
  exact k
theorem z_aretN (C : zC G K y cc nL ret hs) {D : String} {σ : zS} (hr : ret = some (.object D)) (hd : decode cc pc = .ok (.areturn, 1)) (hq : kpo K (.returned (some .null)) n σ) (hc : k1 ≤ kmc K) (hl : k2 ≤ kms K) : Z G K n σ k1 k2 pc lv [.null] := fun H locs ls h1 h2 h3 =>
  W.widen hc hl (xt_ret (W.aret C.1 C.2.1 (C.2.2.2.1.trans hr) (Or.inl ⟨_, rfl⟩) (Or.inl rfl) (fun t ht hW => ⟨.returned (some .null), n, σ, rfl, hq, by rw [ht]; exact h1⟩) h2 hd C.lk))
end XR
end
section
theorem d_S_type_0 : decode b_S_type 0 = .ok (.iload_n 1, 1) := by decide +kernel
theorem d_S_type_1 : decode b_S_type 1 = .ok (.bipush 32, 2) := by decide +kernel
theorem d_S_type_3 : decode b_S_type 3 = .ok (.if_icmp .lt 19, 3) := by decide +kernel
theorem d_S_type_6 : decode b_S_type 6 = .ok (.iload_n 1, 1) := by decide +kernel
theorem d_S_type_7 : decode b_S_type 7 = .ok (.bipush 126, 2) := by decide +kernel
theorem d_S_type_9 : decode b_S_type 9 = .ok (.if_icmp .gt 13, 3) := by decide +kernel
theorem d_S_type_12 : decode b_S_type 12 = .ok (.aload_n 0, 1) := by decide +kernel
theorem d_S_type_13 : decode b_S_type 13 = .ok (.getfield 37, 3) := by decide +kernel
theorem d_S_type_16 : decode b_S_type 16 = .ok (.sipush 150, 3) := by decide +kernel
theorem d_S_type_19 : decode b_S_type 19 = .ok (.if_icmp .lt 5, 3) := by decide +kernel
theorem d_S_type_22 : decode b_S_type 22 = .ok (.iconst 0, 1) := by decide +kernel
theorem d_S_type_23 : decode b_S_type 23 = .ok (.ireturn, 1) := by decide +kernel
theorem d_S_type_24 : decode b_S_type 24 = .ok (.aload_n 0, 1) := by decide +kernel
theorem d_S_type_25 : decode b_S_type 25 = .ok (.dup, 1) := by decide +kernel
theorem d_S_type_26 : decode b_S_type 26 = .ok (.getfield 37, 3) := by decide +kernel
theorem d_S_type_29 : decode b_S_type 29 = .ok (.iconst 1, 1) := by decide +kernel
theorem d_S_type_30 : decode b_S_type 30 = .ok (.iadd, 1) := by decide +kernel
theorem d_S_type_31 : decode b_S_type 31 = .ok (.putfield 37, 3) := by decide +kernel
theorem d_S_type_34 : decode b_S_type 34 = .ok (.iload_n 1, 1) := by decide +kernel
theorem d_S_type_35 : decode b_S_type 35 = .ok (.bipush 32, 2) := by decide +kernel
theorem d_S_type_37 : decode b_S_type 37 = .ok (.if_icmp .eq 23, 3) := by decide +kernel
theorem d_S_type_40 : decode b_S_type 40 = .ok (.aload_n 0, 1) := by decide +kernel
theorem d_S_type_41 : decode b_S_type 41 = .ok (.getfield 9, 3) := by decide +kernel
theorem d_S_type_44 : decode b_S_type 44 = .ok (.aload_n 0, 1) := by decide +kernel
theorem d_S_type_45 : decode b_S_type 45 = .ok (.getfield 41, 3) := by decide +kernel
theorem d_S_type_48 : decode b_S_type 48 = .ok (.iload_n 1, 1) := by decide +kernel
theorem d_S_type_49 : decode b_S_type 49 = .ok (.castore, 1) := by decide +kernel
theorem d_S_type_50 : decode b_S_type 50 = .ok (.aload_n 0, 1) := by decide +kernel
theorem d_S_type_51 : decode b_S_type 51 = .ok (.dup, 1) := by decide +kernel
theorem d_S_type_52 : decode b_S_type 52 = .ok (.getfield 41, 3) := by decide +kernel
theorem d_S_type_55 : decode b_S_type 55 = .ok (.iconst 1, 1) := by decide +kernel
theorem d_S_type_56 : decode b_S_type 56 = .ok (.iadd, 1) := by decide +kernel
theorem d_S_type_57 : decode b_S_type 57 = .ok (.putfield 41, 3) := by decide +kernel
theorem d_S_type_60 : decode b_S_type 60 = .ok (.iconst 1, 1) := by decide +kernel
theorem d_S_type_61 : decode b_S_type 61 = .ok (.ireturn, 1) := by decide +kernel
theorem d_S_place_0 : decode b_S_place 0 = .ok (.aload_n 0, 1) := by decide +kernel
theorem d_S_place_1 : decode b_S_place 1 = .ok (.getfield 16, 3) := by decide +kernel
theorem d_S_place_4 : decode b_S_place 4 = .ok (.getfield 54, 3) := by decide +kernel
theorem d_S_place_7 : decode b_S_place 7 = .ok (.ireturn, 1) := by decide +kernel
theorem d_S_clear_0 : decode b_S_clear 0 = .ok (.aload_n 0, 1) := by decide +kernel
theorem d_S_clear_1 : decode b_S_clear 1 = .ok (.getfield 44, 3) := by decide +kernel
theorem d_S_clear_4 : decode b_S_clear 4 = .ok (.istore_n 1, 1) := by decide +kernel
theorem d_S_clear_5 : decode b_S_clear 5 = .ok (.iconst 0, 1) := by decide +kernel
theorem d_S_clear_6 : decode b_S_clear 6 = .ok (.istore_n 2, 1) := by decide +kernel
theorem d_S_clear_7 : decode b_S_clear 7 = .ok (.iload_n 2, 1) := by decide +kernel
theorem d_S_clear_8 : decode b_S_clear 8 = .ok (.bipush 8, 2) := by decide +kernel
theorem d_S_clear_10 : decode b_S_clear 10 = .ok (.if_icmp .ge 16, 3) := by decide +kernel
theorem d_S_clear_13 : decode b_S_clear 13 = .ok (.aload_n 0, 1) := by decide +kernel
theorem d_S_clear_14 : decode b_S_clear 14 = .ok (.getfield 22, 3) := by decide +kernel
theorem d_S_clear_17 : decode b_S_clear 17 = .ok (.iload_n 2, 1) := by decide +kernel
theorem d_S_clear_18 : decode b_S_clear 18 = .ok (.aconst_null, 1) := by decide +kernel
theorem d_S_clear_19 : decode b_S_clear 19 = .ok (.aastore, 1) := by decide +kernel
theorem d_S_clear_20 : decode b_S_clear 20 = .ok (.iinc 2 1, 3) := by decide +kernel
theorem d_S_clear_23 : decode b_S_clear 23 = .ok (.goto (-16), 3) := by decide +kernel
theorem d_S_clear_26 : decode b_S_clear 26 = .ok (.aload_n 0, 1) := by decide +kernel
theorem d_S_clear_27 : decode b_S_clear 27 = .ok (.iconst 0, 1) := by decide +kernel
theorem d_S_clear_28 : decode b_S_clear 28 = .ok (.putfield 44, 3) := by decide +kernel
theorem d_S_clear_31 : decode b_S_clear 31 = .ok (.iload_n 1, 1) := by decide +kernel
theorem d_S_clear_32 : decode b_S_clear 32 = .ok (.ireturn, 1) := by decide +kernel
theorem d_S_argument_0 : decode b_S_argument 0 = .ok (.iload_n 1, 1) := by decide +kernel
theorem d_S_argument_1 : decode b_S_argument 1 = .ok (.ifCond .lt 8, 3) := by decide +kernel
theorem d_S_argument_4 : decode b_S_argument 4 = .ok (.iload_n 1, 1) := by decide +kernel
theorem d_S_argument_5 : decode b_S_argument 5 = .ok (.iconst 4, 1) := by decide +kernel
theorem d_S_argument_6 : decode b_S_argument 6 = .ok (.if_icmp .lt 5, 3) := by decide +kernel
theorem d_S_argument_9 : decode b_S_argument 9 = .ok (.iconst 0, 1) := by decide +kernel
theorem d_S_argument_10 : decode b_S_argument 10 = .ok (.ireturn, 1) := by decide +kernel
theorem d_S_argument_11 : decode b_S_argument 11 = .ok (.aload_n 0, 1) := by decide +kernel
theorem d_S_argument_12 : decode b_S_argument 12 = .ok (.getfield 26, 3) := by decide +kernel
theorem d_S_argument_15 : decode b_S_argument 15 = .ok (.iload_n 1, 1) := by decide +kernel
theorem d_S_argument_16 : decode b_S_argument 16 = .ok (.lload_n 2, 1) := by decide +kernel
theorem d_S_argument_17 : decode b_S_argument 17 = .ok (.lastore, 1) := by decide +kernel
theorem d_S_argument_18 : decode b_S_argument 18 = .ok (.iconst 1, 1) := by decide +kernel
theorem d_S_argument_19 : decode b_S_argument 19 = .ok (.ireturn, 1) := by decide +kernel
theorem d_S_kind_0 : decode b_S_kind 0 = .ok (.aload_n 0, 1) := by decide +kernel
theorem d_S_kind_1 : decode b_S_kind 1 = .ok (.getfield 47, 3) := by decide +kernel
theorem d_S_kind_4 : decode b_S_kind 4 = .ok (.ireturn, 1) := by decide +kernel
theorem d_S_value_0 : decode b_S_value 0 = .ok (.aload_n 0, 1) := by decide +kernel
theorem d_S_value_1 : decode b_S_value 1 = .ok (.getfield 47, 3) := by decide +kernel
theorem d_S_value_4 : decode b_S_value 4 = .ok (.ifCond .ne 10, 3) := by decide +kernel
theorem d_S_value_7 : decode b_S_value 7 = .ok (.aload_n 0, 1) := by decide +kernel
theorem d_S_value_8 : decode b_S_value 8 = .ok (.getfield 50, 3) := by decide +kernel
theorem d_S_value_11 : decode b_S_value 11 = .ok (.goto 4, 3) := by decide +kernel
theorem d_S_value_14 : decode b_S_value 14 = .ok (.lconst 0, 1) := by decide +kernel
theorem d_S_value_15 : decode b_S_value 15 = .ok (.lreturn, 1) := by decide +kernel
theorem d_S_size_0 : decode b_S_size 0 = .ok (.iload_n 1, 1) := by decide +kernel
theorem d_S_size_1 : decode b_S_size 1 = .ok (.ifCond .ne 30, 3) := by decide +kernel
theorem d_S_size_4 : decode b_S_size 4 = .ok (.aload_n 0, 1) := by decide +kernel
theorem d_S_size_5 : decode b_S_size 5 = .ok (.getfield 47, 3) := by decide +kernel
theorem d_S_size_8 : decode b_S_size 8 = .ok (.invokestatic 97, 3) := by decide +kernel
theorem d_S_size_11 : decode b_S_size 11 = .ok (.ifCond .eq 20, 3) := by decide +kernel
theorem d_S_size_14 : decode b_S_size 14 = .ok (.aload_n 0, 1) := by decide +kernel
theorem d_S_size_15 : decode b_S_size 15 = .ok (.getfield 33, 3) := by decide +kernel
theorem d_S_size_18 : decode b_S_size 18 = .ok (.getfield 101, 3) := by decide +kernel
theorem d_S_size_21 : decode b_S_size 21 = .ok (.getfield 105, 3) := by decide +kernel
theorem d_S_size_24 : decode b_S_size 24 = .ok (.aload_n 0, 1) := by decide +kernel
theorem d_S_size_25 : decode b_S_size 25 = .ok (.getfield 50, 3) := by decide +kernel
theorem d_S_size_28 : decode b_S_size 28 = .ok (.l2i, 1) := by decide +kernel
theorem d_S_size_29 : decode b_S_size 29 = .ok (.iaload, 1) := by decide +kernel
theorem d_S_size_30 : decode b_S_size 30 = .ok (.ireturn, 1) := by decide +kernel
theorem d_S_size_31 : decode b_S_size 31 = .ok (.iload_n 1, 1) := by decide +kernel
theorem d_S_size_32 : decode b_S_size 32 = .ok (.iconst 1, 1) := by decide +kernel
theorem d_S_size_33 : decode b_S_size 33 = .ok (.if_icmp .ne 28, 3) := by decide +kernel
theorem d_S_size_36 : decode b_S_size 36 = .ok (.aload_n 0, 1) := by decide +kernel
theorem d_S_size_37 : decode b_S_size 37 = .ok (.getfield 47, 3) := by decide +kernel
theorem d_S_size_40 : decode b_S_size 40 = .ok (.iconst 2, 1) := by decide +kernel
theorem d_S_size_41 : decode b_S_size 41 = .ok (.if_icmp .ne 20, 3) := by decide +kernel
theorem d_S_size_44 : decode b_S_size 44 = .ok (.aload_n 0, 1) := by decide +kernel
theorem d_S_size_45 : decode b_S_size 45 = .ok (.getfield 33, 3) := by decide +kernel
theorem d_S_size_48 : decode b_S_size 48 = .ok (.getfield 101, 3) := by decide +kernel
theorem d_S_size_51 : decode b_S_size 51 = .ok (.getfield 111, 3) := by decide +kernel
theorem d_S_size_54 : decode b_S_size 54 = .ok (.aload_n 0, 1) := by decide +kernel
theorem d_S_size_55 : decode b_S_size 55 = .ok (.getfield 50, 3) := by decide +kernel
theorem d_S_size_58 : decode b_S_size 58 = .ok (.l2i, 1) := by decide +kernel
theorem d_S_size_59 : decode b_S_size 59 = .ok (.iaload, 1) := by decide +kernel
theorem d_S_size_60 : decode b_S_size 60 = .ok (.ireturn, 1) := by decide +kernel
theorem d_S_size_61 : decode b_S_size 61 = .ok (.iconst 0, 1) := by decide +kernel
theorem d_S_size_62 : decode b_S_size 62 = .ok (.ireturn, 1) := by decide +kernel
theorem d_S_cell_0 : decode b_S_cell 0 = .ok (.aload_n 0, 1) := by decide +kernel
theorem d_S_cell_1 : decode b_S_cell 1 = .ok (.getfield 47, 3) := by decide +kernel
theorem d_S_cell_4 : decode b_S_cell 4 = .ok (.invokestatic 97, 3) := by decide +kernel
theorem d_S_cell_7 : decode b_S_cell 7 = .ok (.ifCond .ne 5, 3) := by decide +kernel
theorem d_S_cell_10 : decode b_S_cell 10 = .ok (.lconst 0, 1) := by decide +kernel
theorem d_S_cell_11 : decode b_S_cell 11 = .ok (.lreturn, 1) := by decide +kernel
theorem d_S_cell_12 : decode b_S_cell 12 = .ok (.aload_n 0, 1) := by decide +kernel
theorem d_S_cell_13 : decode b_S_cell 13 = .ok (.getfield 50, 3) := by decide +kernel
theorem d_S_cell_16 : decode b_S_cell 16 = .ok (.l2i, 1) := by decide +kernel
theorem d_S_cell_17 : decode b_S_cell 17 = .ok (.istore_n 3, 1) := by decide +kernel
theorem d_S_cell_18 : decode b_S_cell 18 = .ok (.aload_n 0, 1) := by decide +kernel
theorem d_S_cell_19 : decode b_S_cell 19 = .ok (.getfield 47, 3) := by decide +kernel
theorem d_S_cell_22 : decode b_S_cell 22 = .ok (.iconst 1, 1) := by decide +kernel
theorem d_S_cell_23 : decode b_S_cell 23 = .ok (.if_icmp .ne 7, 3) := by decide +kernel
theorem d_S_cell_26 : decode b_S_cell 26 = .ok (.iconst 0, 1) := by decide +kernel
theorem d_S_cell_27 : decode b_S_cell 27 = .ok (.goto 4, 3) := by decide +kernel
theorem d_S_cell_30 : decode b_S_cell 30 = .ok (.iload_n 2, 1) := by decide +kernel
theorem d_S_cell_31 : decode b_S_cell 31 = .ok (.istore 4, 2) := by decide +kernel
theorem d_S_cell_33 : decode b_S_cell 33 = .ok (.aload_n 0, 1) := by decide +kernel
theorem d_S_cell_34 : decode b_S_cell 34 = .ok (.getfield 33, 3) := by decide +kernel
theorem d_S_cell_37 : decode b_S_cell 37 = .ok (.getfield 101, 3) := by decide +kernel
theorem d_S_cell_40 : decode b_S_cell 40 = .ok (.iload_n 3, 1) := by decide +kernel
theorem d_S_cell_41 : decode b_S_cell 41 = .ok (.iload_n 1, 1) := by decide +kernel
theorem d_S_cell_42 : decode b_S_cell 42 = .ok (.i2l, 1) := by decide +kernel
theorem d_S_cell_43 : decode b_S_cell 43 = .ok (.iload 4, 2) := by decide +kernel
theorem d_S_cell_45 : decode b_S_cell 45 = .ok (.i2l, 1) := by decide +kernel
theorem d_S_cell_46 : decode b_S_cell 46 = .ok (.invokevirtual 114, 3) := by decide +kernel
theorem d_S_cell_49 : decode b_S_cell 49 = .ok (.ifCond .eq 22, 3) := by decide +kernel
theorem d_S_cell_52 : decode b_S_cell 52 = .ok (.aload_n 0, 1) := by decide +kernel
theorem d_S_cell_53 : decode b_S_cell 53 = .ok (.getfield 33, 3) := by decide +kernel
theorem d_S_cell_56 : decode b_S_cell 56 = .ok (.getfield 101, 3) := by decide +kernel
theorem d_S_cell_59 : decode b_S_cell 59 = .ok (.iload_n 3, 1) := by decide +kernel
theorem d_S_cell_60 : decode b_S_cell 60 = .ok (.iload_n 1, 1) := by decide +kernel
theorem d_S_cell_61 : decode b_S_cell 61 = .ok (.i2l, 1) := by decide +kernel
theorem d_S_cell_62 : decode b_S_cell 62 = .ok (.iload 4, 2) := by decide +kernel
theorem d_S_cell_64 : decode b_S_cell 64 = .ok (.i2l, 1) := by decide +kernel
theorem d_S_cell_65 : decode b_S_cell 65 = .ok (.invokevirtual 118, 3) := by decide +kernel
theorem d_S_cell_68 : decode b_S_cell 68 = .ok (.goto 4, 3) := by decide +kernel
theorem d_S_cell_71 : decode b_S_cell 71 = .ok (.lconst 0, 1) := by decide +kernel
theorem d_S_cell_72 : decode b_S_cell 72 = .ok (.lreturn, 1) := by decide +kernel
theorem d_S_counted_0 : decode b_S_counted 0 = .ok (.iload_n 1, 1) := by decide +kernel
theorem d_S_counted_1 : decode b_S_counted 1 = .ok (.tableswitch 69 0 3 #[31, 39, 50, 61], 31) := by decide +kernel
theorem d_S_counted_32 : decode b_S_counted 32 = .ok (.aload_n 0, 1) := by decide +kernel
theorem d_S_counted_33 : decode b_S_counted 33 = .ok (.getfield 33, 3) := by decide +kernel
theorem d_S_counted_36 : decode b_S_counted 36 = .ok (.getfield 122, 3) := by decide +kernel
theorem d_S_counted_39 : decode b_S_counted 39 = .ok (.ireturn, 1) := by decide +kernel
theorem d_S_counted_40 : decode b_S_counted 40 = .ok (.aload_n 0, 1) := by decide +kernel
theorem d_S_counted_41 : decode b_S_counted 41 = .ok (.getfield 33, 3) := by decide +kernel
theorem d_S_counted_44 : decode b_S_counted 44 = .ok (.getfield 101, 3) := by decide +kernel
theorem d_S_counted_47 : decode b_S_counted 47 = .ok (.getfield 125, 3) := by decide +kernel
theorem d_S_counted_50 : decode b_S_counted 50 = .ok (.ireturn, 1) := by decide +kernel
theorem d_S_counted_51 : decode b_S_counted 51 = .ok (.aload_n 0, 1) := by decide +kernel
theorem d_S_counted_52 : decode b_S_counted 52 = .ok (.getfield 33, 3) := by decide +kernel
theorem d_S_counted_55 : decode b_S_counted 55 = .ok (.getfield 101, 3) := by decide +kernel
theorem d_S_counted_58 : decode b_S_counted 58 = .ok (.getfield 128, 3) := by decide +kernel
theorem d_S_counted_61 : decode b_S_counted 61 = .ok (.ireturn, 1) := by decide +kernel
theorem d_S_counted_62 : decode b_S_counted 62 = .ok (.aload_n 0, 1) := by decide +kernel
theorem d_S_counted_63 : decode b_S_counted 63 = .ok (.getfield 33, 3) := by decide +kernel
theorem d_S_counted_66 : decode b_S_counted 66 = .ok (.getfield 131, 3) := by decide +kernel
theorem d_S_counted_69 : decode b_S_counted 69 = .ok (.ireturn, 1) := by decide +kernel
theorem d_S_counted_70 : decode b_S_counted 70 = .ok (.iconst 0, 1) := by decide +kernel
theorem d_S_counted_71 : decode b_S_counted 71 = .ok (.ireturn, 1) := by decide +kernel
theorem d_S_isArray_0 : decode b_S_isArray 0 = .ok (.iload_n 0, 1) := by decide +kernel
theorem d_S_isArray_1 : decode b_S_isArray 1 = .ok (.iconst 1, 1) := by decide +kernel
theorem d_S_isArray_2 : decode b_S_isArray 2 = .ok (.if_icmp .eq 8, 3) := by decide +kernel
theorem d_S_isArray_5 : decode b_S_isArray 5 = .ok (.iload_n 0, 1) := by decide +kernel
theorem d_S_isArray_6 : decode b_S_isArray 6 = .ok (.iconst 2, 1) := by decide +kernel
theorem d_S_isArray_7 : decode b_S_isArray 7 = .ok (.if_icmp .ne 7, 3) := by decide +kernel
theorem d_S_isArray_10 : decode b_S_isArray 10 = .ok (.iconst 1, 1) := by decide +kernel
theorem d_S_isArray_11 : decode b_S_isArray 11 = .ok (.goto 4, 3) := by decide +kernel
theorem d_S_isArray_14 : decode b_S_isArray 14 = .ok (.iconst 0, 1) := by decide +kernel
theorem d_S_isArray_15 : decode b_S_isArray 15 = .ok (.ireturn, 1) := by decide +kernel
theorem d_O_has_0 : decode b_O_has 0 = .ok (.lload_n 2, 1) := by decide +kernel
theorem d_O_has_1 : decode b_O_has 1 = .ok (.lconst 0, 1) := by decide +kernel
theorem d_O_has_2 : decode b_O_has 2 = .ok (.lcmp, 1) := by decide +kernel
theorem d_O_has_3 : decode b_O_has 3 = .ok (.ifCond .lt 39, 3) := by decide +kernel
theorem d_O_has_6 : decode b_O_has 6 = .ok (.lload_n 2, 1) := by decide +kernel
theorem d_O_has_7 : decode b_O_has 7 = .ok (.aload_n 0, 1) := by decide +kernel
theorem d_O_has_8 : decode b_O_has 8 = .ok (.getfield 9, 3) := by decide +kernel
theorem d_O_has_11 : decode b_O_has 11 = .ok (.iload_n 1, 1) := by decide +kernel
theorem d_O_has_12 : decode b_O_has 12 = .ok (.iaload, 1) := by decide +kernel
theorem d_O_has_13 : decode b_O_has 13 = .ok (.i2l, 1) := by decide +kernel
theorem d_O_has_14 : decode b_O_has 14 = .ok (.lcmp, 1) := by decide +kernel
theorem d_O_has_15 : decode b_O_has 15 = .ok (.ifCond .ge 27, 3) := by decide +kernel
theorem d_O_has_18 : decode b_O_has 18 = .ok (.lload 4, 2) := by decide +kernel
theorem d_O_has_20 : decode b_O_has 20 = .ok (.lconst 0, 1) := by decide +kernel
theorem d_O_has_21 : decode b_O_has 21 = .ok (.lcmp, 1) := by decide +kernel
theorem d_O_has_22 : decode b_O_has 22 = .ok (.ifCond .lt 20, 3) := by decide +kernel
theorem d_O_has_25 : decode b_O_has 25 = .ok (.lload 4, 2) := by decide +kernel
theorem d_O_has_27 : decode b_O_has 27 = .ok (.aload_n 0, 1) := by decide +kernel
theorem d_O_has_28 : decode b_O_has 28 = .ok (.getfield 15, 3) := by decide +kernel
theorem d_O_has_31 : decode b_O_has 31 = .ok (.iload_n 1, 1) := by decide +kernel
theorem d_O_has_32 : decode b_O_has 32 = .ok (.iaload, 1) := by decide +kernel
theorem d_O_has_33 : decode b_O_has 33 = .ok (.i2l, 1) := by decide +kernel
theorem d_O_has_34 : decode b_O_has 34 = .ok (.lcmp, 1) := by decide +kernel
theorem d_O_has_35 : decode b_O_has 35 = .ok (.ifCond .ge 7, 3) := by decide +kernel
theorem d_O_has_38 : decode b_O_has 38 = .ok (.iconst 1, 1) := by decide +kernel
theorem d_O_has_39 : decode b_O_has 39 = .ok (.goto 4, 3) := by decide +kernel
theorem d_O_has_42 : decode b_O_has 42 = .ok (.iconst 0, 1) := by decide +kernel
theorem d_O_has_43 : decode b_O_has 43 = .ok (.ireturn, 1) := by decide +kernel
theorem d_O_numberAt_0 : decode b_O_numberAt 0 = .ok (.aload_n 0, 1) := by decide +kernel
theorem d_O_numberAt_1 : decode b_O_numberAt 1 = .ok (.getfield 27, 3) := by decide +kernel
theorem d_O_numberAt_4 : decode b_O_numberAt 4 = .ok (.iload_n 1, 1) := by decide +kernel
theorem d_O_numberAt_5 : decode b_O_numberAt 5 = .ok (.aaload, 1) := by decide +kernel
theorem d_O_numberAt_6 : decode b_O_numberAt 6 = .ok (.aload_n 0, 1) := by decide +kernel
theorem d_O_numberAt_7 : decode b_O_numberAt 7 = .ok (.iload_n 1, 1) := by decide +kernel
theorem d_O_numberAt_8 : decode b_O_numberAt 8 = .ok (.lload_n 2, 1) := by decide +kernel
theorem d_O_numberAt_9 : decode b_O_numberAt 9 = .ok (.lload 4, 2) := by decide +kernel
theorem d_O_numberAt_11 : decode b_O_numberAt 11 = .ok (.invokevirtual 79, 3) := by decide +kernel
theorem d_O_numberAt_14 : decode b_O_numberAt 14 = .ok (.laload, 1) := by decide +kernel
theorem d_O_numberAt_15 : decode b_O_numberAt 15 = .ok (.lreturn, 1) := by decide +kernel
theorem d_O_indexOf_0 : decode b_O_indexOf 0 = .ok (.aload_n 0, 1) := by decide +kernel
theorem d_O_indexOf_1 : decode b_O_indexOf 1 = .ok (.iload_n 1, 1) := by decide +kernel
theorem d_O_indexOf_2 : decode b_O_indexOf 2 = .ok (.lload_n 2, 1) := by decide +kernel
theorem d_O_indexOf_3 : decode b_O_indexOf 3 = .ok (.lload 4, 2) := by decide +kernel
theorem d_O_indexOf_5 : decode b_O_indexOf 5 = .ok (.invokevirtual 83, 3) := by decide +kernel
theorem d_O_indexOf_8 : decode b_O_indexOf 8 = .ok (.ifCond .ne 13, 3) := by decide +kernel
theorem d_O_indexOf_11 : decode b_O_indexOf 11 = .ok (.new 87, 3) := by decide +kernel
theorem d_O_indexOf_14 : decode b_O_indexOf 14 = .ok (.dup, 1) := by decide +kernel
theorem d_O_indexOf_15 : decode b_O_indexOf 15 = .ok (.ldc 89, 2) := by decide +kernel
theorem d_O_indexOf_17 : decode b_O_indexOf 17 = .ok (.invokespecial 91, 3) := by decide +kernel
theorem d_O_indexOf_20 : decode b_O_indexOf 20 = .ok (.athrow, 1) := by decide +kernel
theorem d_O_indexOf_21 : decode b_O_indexOf 21 = .ok (.lload_n 2, 1) := by decide +kernel
theorem d_O_indexOf_22 : decode b_O_indexOf 22 = .ok (.aload_n 0, 1) := by decide +kernel
theorem d_O_indexOf_23 : decode b_O_indexOf 23 = .ok (.getfield 15, 3) := by decide +kernel
theorem d_O_indexOf_26 : decode b_O_indexOf 26 = .ok (.iload_n 1, 1) := by decide +kernel
theorem d_O_indexOf_27 : decode b_O_indexOf 27 = .ok (.iaload, 1) := by decide +kernel
theorem d_O_indexOf_28 : decode b_O_indexOf 28 = .ok (.i2l, 1) := by decide +kernel
theorem d_O_indexOf_29 : decode b_O_indexOf 29 = .ok (.lmul, 1) := by decide +kernel
theorem d_O_indexOf_30 : decode b_O_indexOf 30 = .ok (.lload 4, 2) := by decide +kernel
theorem d_O_indexOf_32 : decode b_O_indexOf 32 = .ok (.ladd, 1) := by decide +kernel
theorem d_O_indexOf_33 : decode b_O_indexOf 33 = .ok (.l2i, 1) := by decide +kernel
theorem d_O_indexOf_34 : decode b_O_indexOf 34 = .ok (.ireturn, 1) := by decide +kernel
theorem nm_of {y : MethodName} {cc : ByteArray} {nL : Nat} {ret : Option FieldType} (a : Array Value) (u : State) (h : (zWd y cc nL ret []).before a u = true) : ∃ mk, u.methodNamed? y = some mk := Cond.code_named (show (Cond.code y cc nL ret).before a u = true from h)
theorem nm_S_isArray (a : Array Value) (u : State) (h : (zWd y_S_isArray b_S_isArray 1 (some .boolean) []).before a u = true) : ∃ mk, u.methodNamed? y_S_isArray = some mk := nm_of a u h
section XSI
variable {G : zG} {l : Launch} {n : Nat} {xs : mS} {xr : Int64} {xa : mA} {xl : mL} {xf : xF} {σ : zS}
theorem c_S_place (hn : 85 ≤ n) : MetZ G l y_S_place b_S_place 1 (some .int) [] 0 0 0 [.ref 0] n (xOv xs xr xa xl xf σ) (fun o n' σ' => o = .returned (some (.int (xs 4))) ∧ n' = n ∧ σ' = xOv xs xr xa xl xf σ) := by
  refine MetZ.of (by decide) (Nat.le_of_ble_eq_true rfl) (fun K hK hR hpo hmc hms C => ?_)
  refine z_aload_n C 1 d_S_place_0 rfl rfl ?_
  refine z_get C 4 f_S_16 d_S_place_1 rfl (by omega) rfl rfl ?_
  refine z_get C 7 f_S_54 d_S_place_4 rfl (by omega) rfl rfl ?_
  exact z_iret C rfl d_S_place_7 (by rw [hpo]; exact ⟨rfl, rfl, rfl⟩) (by rw [hmc]; omega) (by rw [hms]; omega)
theorem c_S_kind (hn : 85 ≤ n) : MetZ G l y_S_kind b_S_kind 1 (some .int) [] 0 0 0 [.ref 0] n (xOv xs xr xa xl xf σ) (fun o n' σ' => o = .returned (some (.int (xs 3))) ∧ n' = n ∧ σ' = xOv xs xr xa xl xf σ) := by
  refine MetZ.of (by decide) (Nat.le_of_ble_eq_true rfl) (fun K hK hR hpo hmc hms C => ?_)
  refine z_aload_n C 1 d_S_kind_0 rfl rfl ?_
  refine z_get C 4 f_S_47 d_S_kind_1 rfl (by omega) rfl rfl ?_
  exact z_iret C rfl d_S_kind_4 (by rw [hpo]; exact ⟨rfl, rfl, rfl⟩) (by rw [hmc]; omega) (by rw [hms]; omega)
theorem c_S_value (hn : 85 ≤ n) : MetZ G l y_S_value b_S_value 1 (some .long) [] 0 0 0 [.ref 0] n (xOv xs xr xa xl xf σ) (fun o n' σ' => o = .returned (some (.long (if xs 3 = 0 then xr else 0))) ∧ n' = n ∧ σ' = xOv xs xr xa xl xf σ) := by
  refine MetZ.of (by decide) (Nat.le_of_ble_eq_true rfl) (fun K hK hR hpo hmc hms C => ?_)
  refine z_aload_n C 1 d_S_value_0 rfl rfl ?_
  refine z_get C 4 f_S_47 d_S_value_1 rfl (by omega) rfl rfl ?_
  refine z_if_ne C 7 14 d_S_value_4 rfl (by decide) (fun hc => ?_) (fun hc => ?_)
  · refine z_lconst C 15 d_S_value_14 rfl 0 (by decide) ?_
    exact z_lret C rfl d_S_value_15 (by rw [hpo]; exact ⟨by rw [if_neg (show ¬ xs 3 = 0 from hc)], rfl, rfl⟩) (by rw [hmc]; omega) (by rw [hms]; omega)
  · refine z_aload_n C 8 d_S_value_7 rfl rfl ?_
    refine z_get C 11 f_S_50 d_S_value_8 rfl (by omega) rfl rfl ?_
    refine z_goto C 15 d_S_value_11 (by decide) ?_
    exact z_lret C rfl d_S_value_15 (by rw [hpo]; exact ⟨by rw [if_pos (show xs 3 = 0 from hc)], rfl, rfl⟩) (by rw [hmc]; omega) (by rw [hms]; omega)
theorem c_S_argument (hn : 85 ≤ n) (k : Int32) (v : Int64) : MetZ G l y_S_argument b_S_argument 4 (some .boolean) [] 0 0 0 [.ref 0, .int k, .long v] n (xOv xs xr xa xl xf σ) (fun o n' σ' => o = .returned (some (.int (if k < 0 ∨ 3 < k then 0 else 1))) ∧ n' = n ∧ σ' = xOv xs xr xa (if k < 0 ∨ 3 < k then xl else va_up xl 4 (vp_updL (xl 4) k.toNatClampNeg v)) xf σ) := by
  refine MetZ.of (by decide) (Nat.le_of_ble_eq_true rfl) (fun K hK hR hpo hmc hms C => ?_)
  refine z_iload_n C 1 d_S_argument_0 rfl rfl ?_
  refine z_if_lt C 4 9 d_S_argument_1 rfl (by decide) (fun h0 => ?_) (fun h0 => ?_)
  · refine z_iconst C 10 d_S_argument_9 rfl 0 (by decide) ?_
    exact z_zret C rfl (rfl) d_S_argument_10 (by rw [hpo]; exact ⟨by rw [if_pos (Or.inl h0)], rfl, by rw [if_pos (Or.inl h0)]⟩) (by rw [hmc]; omega) (by rw [hms]; omega)
  · obtain ⟨j, hj, rfl⟩ := nI_of h0
    have e4 : nI j < 4 ↔ j < 4 := nI_ltI (b := 4) hj (by omega)
    have e3 : (3 : Int32) < nI j ↔ 3 < j := nI_ltI (a := 3) (by omega) hj
    refine z_iload_n C 5 d_S_argument_4 rfl rfl ?_
    refine z_iconst C 6 d_S_argument_5 rfl 4 (by decide) ?_
    refine z_icmp_lt C 9 11 d_S_argument_6 rfl (by decide) (fun h1 => ?_) (fun h1 => ?_)
    · have hno : ¬ (nI j < 0 ∨ 3 < nI j) := fun q => q.elim h0 (fun q => absurd (e3.mp q) (by have := e4.mp h1; omega))
      refine z_aload_n C 12 d_S_argument_11 rfl rfl ?_
      refine z_get C 15 f_S_26 d_S_argument_12 rfl (by omega) rfl rfl ?_
      refine z_iload_n C 16 d_S_argument_15 rfl rfl ?_
      refine z_lload_n C 17 d_S_argument_16 rfl rfl ?_
      refine zx_last C 18 j d_S_argument_17 rfl (by omega) (by unfold xIsL; omega) rfl (by show j < 4; exact e4.mp h1) (by decide) ?_
      refine z_iconst C 19 d_S_argument_18 rfl 1 (by decide) ?_
      exact z_zret C rfl (rfl) d_S_argument_19 (by rw [hpo]; exact ⟨by rw [if_neg hno], rfl, by rw [if_neg hno, nI_clamp hj]⟩) (by rw [hmc]; omega) (by rw [hms]; omega)
    · have hyes : (nI j < 0 ∨ 3 < nI j) := Or.inr (e3.mpr (by have : ¬ j < 4 := fun q => h1 (e4.mpr q); omega))
      refine z_iconst C 10 d_S_argument_9 rfl 0 (by decide) ?_
      exact z_zret C rfl (rfl) d_S_argument_10 (by rw [hpo]; exact ⟨by rw [if_pos hyes], rfl, by rw [if_pos hyes]⟩) (by rw [hmc]; omega) (by rw [hms]; omega)
def xcounted (xs : mS) (w : Int32) : Int32 := if w = 0 then xs 5 else if w = 1 then xs 8 else if w = 2 then xs 9 else if w = 3 then xs 6 else 0
theorem c_S_counted (hn : 85 ≤ n) (w : Int32) : MetZ G l y_S_counted b_S_counted 2 (some .int) [] 0 0 0 [.ref 0, .int w] n (xOv xs xr xa xl xf σ) (fun o n' σ' => o = .returned (some (.int (xcounted xs w))) ∧ n' = n ∧ σ' = xOv xs xr xa xl xf σ) := by
  refine MetZ.of (by decide) (Nat.le_of_ble_eq_true rfl) (fun K hK hR hpo hmc hms C => ?_)
  refine z_iload_n C 1 d_S_counted_0 rfl rfl ?_
  by_cases h : w = 0
  · subst h
    refine z_tableIn C 32 d_S_counted_1 (by decide) (by decide) rfl (by decide) ?_
    refine z_aload_n C 33 d_S_counted_32 rfl rfl ?_
    refine z_get C 36 f_S_33 d_S_counted_33 rfl (by omega) rfl rfl ?_
    refine z_get C 39 f_S_122 d_S_counted_36 rfl (by omega) rfl rfl ?_
    exact z_iret C rfl d_S_counted_39 (by rw [hpo]; exact ⟨rfl, rfl, rfl⟩) (by rw [hmc]; omega) (by rw [hms]; omega)
  by_cases h1 : w = 1
  · subst h1
    refine z_tableIn C 40 d_S_counted_1 (by decide) (by decide) rfl (by decide) ?_
    refine z_aload_n C 41 d_S_counted_40 rfl rfl ?_
    refine z_get C 44 f_S_33 d_S_counted_41 rfl (by omega) rfl rfl ?_
    refine z_get C 47 f_S_101 d_S_counted_44 rfl (by omega) rfl rfl ?_
    refine z_get C 50 f_S_125 d_S_counted_47 rfl (by omega) rfl rfl ?_
    exact z_iret C rfl d_S_counted_50 (by rw [hpo]; exact ⟨rfl, rfl, rfl⟩) (by rw [hmc]; omega) (by rw [hms]; omega)
  by_cases h2 : w = 2
  · subst h2
    refine z_tableIn C 51 d_S_counted_1 (by decide) (by decide) rfl (by decide) ?_
    refine z_aload_n C 52 d_S_counted_51 rfl rfl ?_
    refine z_get C 55 f_S_33 d_S_counted_52 rfl (by omega) rfl rfl ?_
    refine z_get C 58 f_S_101 d_S_counted_55 rfl (by omega) rfl rfl ?_
    refine z_get C 61 f_S_128 d_S_counted_58 rfl (by omega) rfl rfl ?_
    exact z_iret C rfl d_S_counted_61 (by rw [hpo]; exact ⟨rfl, rfl, rfl⟩) (by rw [hmc]; omega) (by rw [hms]; omega)
  by_cases h3 : w = 3
  · subst h3
    refine z_tableIn C 62 d_S_counted_1 (by decide) (by decide) rfl (by decide) ?_
    refine z_aload_n C 63 d_S_counted_62 rfl rfl ?_
    refine z_get C 66 f_S_33 d_S_counted_63 rfl (by omega) rfl rfl ?_
    refine z_get C 69 f_S_131 d_S_counted_66 rfl (by omega) rfl rfl ?_
    exact z_iret C rfl d_S_counted_69 (by rw [hpo]; exact ⟨rfl, rfl, rfl⟩) (by rw [hmc]; omega) (by rw [hms]; omega)
  have hout : w.toInt < 0 ∨ 3 < w.toInt := by
    have i0 : w.toInt ≠ 0 := fun q => h (Int32.toInt_inj.mp q)
    have i1 : w.toInt ≠ 1 := fun q => h1 (Int32.toInt_inj.mp q)
    have i2 : w.toInt ≠ 2 := fun q => h2 (Int32.toInt_inj.mp q)
    have i3 : w.toInt ≠ 3 := fun q => h3 (Int32.toInt_inj.mp q)
    omega
  refine z_tableOut C 70 d_S_counted_1 hout (by decide) ?_
  refine z_iconst C 71 d_S_counted_70 rfl 0 (by decide) ?_
  exact z_iret C rfl d_S_counted_71 (by rw [hpo]; exact ⟨by rw [xcounted, if_neg h, if_neg h1, if_neg h2, if_neg h3], rfl, rfl⟩) (by rw [hmc]; omega) (by rw [hms]; omega)
theorem c_S_isArray (w : Int32) : MetZ G l y_S_isArray b_S_isArray 1 (some .boolean) [] 0 0 0 [.int w] n σ (fun o n' σ' => o = .returned (some (.int (if w = 1 ∨ w = 2 then 1 else 0))) ∧ n' = n ∧ σ' = σ) := by
  refine MetZ.of (by decide) (Nat.le_of_ble_eq_true rfl) (fun K hK hR hpo hmc hms C => ?_)
  refine z_iload_n C 1 d_S_isArray_0 rfl rfl ?_
  refine z_iconst C 2 d_S_isArray_1 rfl 1 (by decide) ?_
  refine z_icmp_eq C 5 10 d_S_isArray_2 rfl (by decide) (fun h => ?_) (fun h => ?_)
  · refine z_iconst C 11 d_S_isArray_10 rfl 1 (by decide) ?_
    refine z_goto C 15 d_S_isArray_11 (by decide) ?_
    exact z_zret C rfl (rfl) d_S_isArray_15 (by rw [hpo]; exact ⟨by rw [if_pos (Or.inl h)], rfl, rfl⟩) (by rw [hmc]; omega) (by rw [hms]; omega)
  · refine z_iload_n C 6 d_S_isArray_5 rfl rfl ?_
    refine z_iconst C 7 d_S_isArray_6 rfl 2 (by decide) ?_
    refine z_icmp_ne C 10 14 d_S_isArray_7 rfl (by decide) (fun h2 => ?_) (fun h2 => ?_)
    · refine z_iconst C 15 d_S_isArray_14 rfl 0 (by decide) ?_
      exact z_zret C rfl (rfl) d_S_isArray_15 (by rw [hpo]; exact ⟨by rw [if_neg (fun q => q.elim h h2)], rfl, rfl⟩) (by rw [hmc]; omega) (by rw [hms]; omega)
    · refine z_iconst C 11 d_S_isArray_10 rfl 1 (by decide) ?_
      refine z_goto C 15 d_S_isArray_11 (by decide) ?_
      exact z_zret C rfl (rfl) d_S_isArray_15 (by rw [hpo]; exact ⟨by rw [if_pos (Or.inr h2)], rfl, rfl⟩) (by rw [hmc]; omega) (by rw [hms]; omega)
def xclr (f : xF) (k : Nat) : xF := fun j => if j < k then none else f j
theorem xclr_step (f : xF) (k : Nat) : va_up (xclr f k) k none = xclr f (k + 1) := by
  funext j
  unfold va_up xclr
  by_cases h : j = k
  · subst h; simp
  · by_cases h2 : j < k
    · simp [h2, show j < k + 1 by omega]
    · simp [h, h2, show ¬ j < k + 1 by omega]
theorem c_S_clear (hn : 85 ≤ n) : MetZ G l y_S_clear b_S_clear 3 (some .int) [] 0 0 0 [.ref 0] n (xOv xs xr xa xl xf σ) (fun o n' σ' => o = .returned (some (.int (xs 2))) ∧ n' = n ∧ σ' = xOv (upd xs 2 0) xr xa xl (xclr xf 8) σ) := by
  refine MetZ.of (by decide) (Nat.le_of_ble_eq_true rfl) (fun K hK hR hpo hmc hms C => ?_)
  have loop : ∀ j f : Nat, f + j = 8 → Z G K n (xOv xs xr xa xl (xclr xf f) σ) 0 0 7 [(2, .int (nI f)), (1, .int (xs 2)), (0, .ref 0)] [] := by
    intro j
    induction j with
    | zero =>
      intro f hf
      obtain rfl : f = 8 := by omega
      refine z_iload_n C 8 d_S_clear_7 rfl rfl ?_
      refine z_bipush C 10 d_S_clear_8 rfl 8 (by decide) ?_
      refine z_icmp_ge C 13 26 d_S_clear_10 rfl (by decide) (fun _ => ?_) (fun h9 => absurd (show (8 : Int32) ≤ nI 8 by decide) h9)
      refine z_aload_n C 27 d_S_clear_26 rfl rfl ?_
      refine z_iconst C 28 d_S_clear_27 rfl 0 (by decide) ?_
      refine zx_put0 C 31 2 p_S_44 d_S_clear_28 rfl (by omega) (by decide) (by decide) rfl ?_
      refine z_iload_n C 32 d_S_clear_31 rfl rfl ?_
      exact z_iret C rfl d_S_clear_32 (by rw [hpo]; exact ⟨rfl, rfl, rfl⟩) (by rw [hmc]; omega) (by rw [hms]; omega)
    | succ j ih =>
      intro f hf
      refine z_iload_n C 8 d_S_clear_7 rfl rfl ?_
      refine z_bipush C 10 d_S_clear_8 rfl 8 (by decide) ?_
      refine z_icmp_ge C 13 26 d_S_clear_10 rfl (by decide) (fun h9 => absurd h9 (show ¬ (8 : Int32) ≤ nI f from nI_ge (a := f) (b := 8) (by omega) (by omega))) (fun _ => ?_)
      refine z_aload_n C 14 d_S_clear_13 rfl rfl ?_
      refine z_get C 17 f_S_22 d_S_clear_14 rfl (by omega) rfl rfl ?_
      refine z_iload_n C 18 d_S_clear_17 rfl rfl ?_
      refine z_null C 19 d_S_clear_18 rfl ?_
      refine zx_fnull C 20 f d_S_clear_19 rfl (by omega) rfl (by omega) ?_
      rw [xclr_step]
      refine z_iinc C 23 d_S_clear_20 rfl (nI (f + 1)) rfl (z_inc f) (by decide) ?_
      refine z_goto C 7 d_S_clear_23 (by decide) ?_
      exact ih (f + 1) (by omega)
  refine z_aload_n C 1 d_S_clear_0 rfl rfl ?_
  refine z_get C 4 f_S_44 d_S_clear_1 rfl (by omega) rfl rfl ?_
  refine z_istore_n C 5 d_S_clear_4 rfl (by decide) ?_
  refine z_iconst C 6 d_S_clear_5 rfl 0 (by decide) ?_
  refine z_istore_n C 7 d_S_clear_6 rfl (by decide) ?_
  have h := loop 8 0 rfl
  rw [show xclr xf 0 = xf from funext fun j => by simp [xclr]] at h
  exact h
theorem c_S_type (hn : 85 ≤ n) (c : Int32) (u z : Nat) (h1 : xs 0 = nI u) (h2 : xs 1 = nI z) (hzu : z ≤ u) (hu : u ≤ 150) : MetZ G l y_S_type b_S_type 2 (some .boolean) [] 0 0 0 [.ref 0, .int c] n (xOv xs xr xa xl xf σ) (fun o n' σ' => n' = n ∧
    (((c < 32 ∨ 126 < c ∨ u = 150) ∧ o = .returned (some (.int 0)) ∧ σ' = xOv xs xr xa xl xf σ) ∨ (¬ (c < 32 ∨ 126 < c ∨ u = 150) ∧ c = 32 ∧ o = .returned (some (.int 1)) ∧ σ' = xOv (upd xs 0 (nI (u + 1))) xr xa xl xf σ) ∨
     (¬ (c < 32 ∨ 126 < c ∨ u = 150) ∧ c ≠ 32 ∧ o = .returned (some (.int 1)) ∧ σ' = xOv (upd (upd xs 0 (nI (u + 1))) 1 (nI (z + 1))) xr (va_up xa 1 (upd (xa 1) z c)) xl xf σ))) := by
  refine MetZ.of (by decide) (Nat.le_of_ble_eq_true rfl) (fun K hK hR hpo hmc hms C => ?_)
  have no : (c < 32 ∨ 126 < c ∨ u = 150) → Z G K n (xOv xs xr xa xl xf σ) 0 0 22 (lv_args 0 [.ref 0, .int c]) [] := fun hb => by
    refine z_iconst C 23 d_S_type_22 rfl 0 (by decide) ?_
    exact z_zret C rfl (rfl) d_S_type_23 (by rw [hpo]; exact ⟨rfl, Or.inl ⟨hb, rfl, rfl⟩⟩) (by rw [hmc]; omega) (by rw [hms]; omega)
  refine z_iload_n C 1 d_S_type_0 rfl rfl ?_
  refine z_bipush C 3 d_S_type_1 rfl 32 (by decide) ?_
  refine z_icmp_lt C 6 22 d_S_type_3 rfl (by decide) (fun ha => ?_) (fun ha => ?_)
  · exact no (Or.inl ha)
  refine z_iload_n C 7 d_S_type_6 rfl rfl ?_
  refine z_bipush C 9 d_S_type_7 rfl 126 (by decide) ?_
  refine z_icmp_gt C 12 22 d_S_type_9 rfl (by decide) (fun hb => ?_) (fun hb => ?_)
  · exact no (Or.inr (Or.inl hb))
  refine z_aload_n C 13 d_S_type_12 rfl rfl ?_
  refine z_get C 16 f_S_37 d_S_type_13 rfl (by omega) rfl rfl ?_
  refine z_sipush C 19 d_S_type_16 rfl 150 (by decide) ?_
  have e9 : xs 0 < 150 ↔ u < 150 := by rw [h1]; exact nI_ltI (b := 150) (by omega) (by omega)
  refine z_icmp_lt C 22 24 d_S_type_19 rfl (by decide) (fun hc => ?_) (fun hc => ?_)
  · have hc : u < 150 := e9.mp hc
    have hg : ¬ (c < 32 ∨ 126 < c ∨ u = 150) := fun q => q.elim ha (fun q => q.elim hb (by omega))
    have e1 : xs 0 + 1 = nI (u + 1) := by rw [h1]; exact (nI_succ u).symm
    have e2 : xs 1 + 1 = nI (z + 1) := by rw [h2]; exact (nI_succ z).symm
    refine z_aload_n C 25 d_S_type_24 rfl rfl ?_
    refine z_dup C 26 d_S_type_25 rfl rfl ?_
    refine z_get C 29 f_S_37 d_S_type_26 rfl (by omega) rfl rfl ?_
    refine z_iconst C 30 d_S_type_29 rfl 1 (by decide) ?_
    refine z_iadd C 31 d_S_type_30 rfl ?_
    rw [show (xs 0 + 1 : Int32) = nI (u + 1) from e1]
    refine zx_put0 C 34 0 p_S_37 d_S_type_31 rfl (by omega) (by decide) (by decide) rfl ?_
    refine z_iload_n C 35 d_S_type_34 rfl rfl ?_
    refine z_bipush C 37 d_S_type_35 rfl 32 (by decide) ?_
    refine z_icmp_eq C 40 60 d_S_type_37 rfl (by decide) (fun hd => ?_) (fun hd => ?_)
    · refine z_iconst C 61 d_S_type_60 rfl 1 (by decide) ?_
      exact z_zret C rfl (rfl) d_S_type_61 (by rw [hpo]; exact ⟨rfl, Or.inr (Or.inl ⟨hg, hd, rfl, rfl⟩)⟩) (by rw [hmc]; omega) (by rw [hms]; omega)
    · refine z_aload_n C 41 d_S_type_40 rfl rfl ?_
      refine z_get C 44 f_S_9 d_S_type_41 rfl (by omega) rfl rfl ?_
      refine z_aload_n C 45 d_S_type_44 rfl rfl ?_
      refine z_get C 48 f_S_41 d_S_type_45 rfl (by omega) rfl rfl ?_
      refine z_iload_n C 49 d_S_type_48 rfl rfl ?_
      refine zx_cast C 50 z c d_S_type_49 rfl (by omega) (show xs 1 = nI z from h2) (by omega) (z_char ha hb).2 ?_
      refine z_aload_n C 51 d_S_type_50 rfl rfl ?_
      refine z_dup C 52 d_S_type_51 rfl rfl ?_
      refine z_get C 55 f_S_41 d_S_type_52 rfl (by omega) rfl rfl ?_
      refine z_iconst C 56 d_S_type_55 rfl 1 (by decide) ?_
      refine z_iadd C 57 d_S_type_56 rfl ?_
      rw [show (upd xs 0 (nI (u + 1)) 1 + 1 : Int32) = nI (z + 1) from e2]
      refine zx_put0 C 60 1 p_S_41 d_S_type_57 rfl (by omega) (by decide) (by decide) rfl ?_
      refine z_iconst C 61 d_S_type_60 rfl 1 (by decide) ?_
      exact z_zret C rfl (rfl) d_S_type_61 (by rw [hpo]; exact ⟨rfl, Or.inr (Or.inr ⟨hg, hd, rfl, rfl⟩)⟩) (by rw [hmc]; omega) (by rw [hms]; omega)
  · exact no (Or.inr (Or.inr (by have : ¬ u < 150 := fun q => hc (e9.mpr q); omega)))
end XSI
section XSJ
variable {G : zG} {l : Launch} {n : Nat} {xs : mS} {xr : Int64} {xa : mA} {xl : mL} {xf : xF} {σ : zS}
def xsize (xs : mS) (xa : mA) (a : Nat) (w : Int32) : Int32 := if w = 0 ∧ (xs 3 = 1 ∨ xs 3 = 2) then xa 7 a else if w = 1 ∧ xs 3 = 2 then xa 8 a else 0
theorem c_S_size (hn : 85 ≤ n) (w : Int32) (a : Nat) (ha : (xs 3 = 1 ∨ xs 3 = 2) → xr.toInt32 = nI a ∧ a < 8) : MetZ G l y_S_size b_S_size 2 (some .int) [] 1 0 0 [.ref 0, .int w] n (xOv xs xr xa xl xf σ) (fun o n' σ' => o = .returned (some (.int (xsize xs xa a w))) ∧ n' = n ∧ σ' = xOv xs xr xa xl xf σ) := by
  refine MetZ.of (by decide) (Nat.le_of_ble_eq_true rfl) (fun K hK hR hpo hmc hms C => ?_)
  have tail : ∀ k1 k2, k1 = 0 → k2 = 0 → ¬ (w = 0 ∧ (xs 3 = 1 ∨ xs 3 = 2)) → Z G K n (xOv xs xr xa xl xf σ) k1 k2 31 (lv_args 0 [.ref 0, .int w]) [] := fun k1 k2 e1 e2 h0 => by
    subst e1; subst e2
    refine z_iload_n C 32 d_S_size_31 rfl rfl ?_
    refine z_iconst C 33 d_S_size_32 rfl 1 (by decide) ?_
    refine z_icmp_ne C 36 61 d_S_size_33 rfl (by decide) (fun h1 => ?_) (fun h1 => ?_)
    · refine z_iconst C 62 d_S_size_61 rfl 0 (by decide) ?_
      exact z_iret C rfl d_S_size_62 (by rw [hpo]; exact ⟨by rw [xsize, if_neg h0, if_neg (fun q => h1 q.1)], rfl, rfl⟩) (by rw [hmc]; omega) (by rw [hms]; omega)
    · refine z_aload_n C 37 d_S_size_36 rfl rfl ?_
      refine z_get C 40 f_S_47 d_S_size_37 rfl (by omega) rfl rfl ?_
      refine z_iconst C 41 d_S_size_40 rfl 2 (by decide) ?_
      refine z_icmp_ne C 44 61 d_S_size_41 rfl (by decide) (fun h2 => ?_) (fun h2 => ?_)
      · refine z_iconst C 62 d_S_size_61 rfl 0 (by decide) ?_
        exact z_iret C rfl d_S_size_62 (by rw [hpo]; exact ⟨by rw [xsize, if_neg h0, if_neg (fun q => h2 q.2)], rfl, rfl⟩) (by rw [hmc]; omega) (by rw [hms]; omega)
      · obtain ⟨a1, a2⟩ := ha (Or.inr h2)
        refine z_aload_n C 45 d_S_size_44 rfl rfl ?_
        refine z_get C 48 f_S_33 d_S_size_45 rfl (by omega) rfl rfl ?_
        refine z_get C 51 f_S_101 d_S_size_48 rfl (by omega) rfl rfl ?_
        refine z_get C 54 f_S_111 d_S_size_51 rfl (by omega) rfl rfl ?_
        refine z_aload_n C 55 d_S_size_54 rfl rfl ?_
        refine z_get C 58 f_S_50 d_S_size_55 rfl (by omega) rfl rfl ?_
        refine z_l2i C 59 d_S_size_58 rfl ?_
        refine z_iald C 60 a d_S_size_59 rfl (by omega) rfl a1 (by show a < 8; exact a2) (by decide) ?_
        exact z_iret C rfl d_S_size_60 (by rw [hpo]; exact ⟨by rw [xsize, if_neg h0, if_pos ⟨h1, h2⟩], rfl, rfl⟩) (by rw [hmc]; omega) (by rw [hms]; omega)
  refine z_iload_n C 1 d_S_size_0 rfl rfl ?_
  refine z_if_ne C 4 31 d_S_size_1 rfl (by decide) (fun h0 => ?_) (fun h0 => ?_)
  · exact tail _ _ rfl rfl (fun q => h0 q.1)
  refine z_aload_n C 5 d_S_size_4 rfl rfl ?_
  refine z_get C 8 f_S_47 d_S_size_5 rfl (by omega) rfl rfl ?_
  refine z_call C 11 (c_S_isArray (xs 3)) w_S_isArray ini_S d_S_size_8 rfl (z_goS (As := [.int (xs 3)]) C l_S_97 w_S_isArray nm_S_isArray d_S_size_8 rfl) (Nat.le_of_ble_eq_true rfl) (by rw [hR]; simp only [zRm]; omega) (by rw [hR]; simp only [zRm]; omega) (by rw [hR]; simp only [zRm]; omega) (by rw [hR]; simp only [zRm]; omega) (fun v n' σ' hv => ?_) (fun x n' σ' hv => ?_)
  · obtain ⟨hv, rfl, rfl⟩ := hv
    cases hv
    refine z_if_eq C 14 31 d_S_size_11 rfl (by decide) (fun h1 => ?_) (fun h1 => ?_)
    · refine tail _ _ rfl rfl (fun q => ?_)
      rw [if_pos q.2] at h1
      exact absurd h1 (by decide)
    · have h2 : xs 3 = 1 ∨ xs 3 = 2 := by
        rcases Classical.em (xs 3 = 1 ∨ xs 3 = 2) with h | h
        · exact h
        · rw [if_neg h] at h1
          exact absurd rfl h1
      obtain ⟨a1, a2⟩ := ha h2
      refine z_aload_n C 15 d_S_size_14 rfl rfl ?_
      refine z_get C 18 f_S_33 d_S_size_15 rfl (by omega) rfl rfl ?_
      refine z_get C 21 f_S_101 d_S_size_18 rfl (by omega) rfl rfl ?_
      refine z_get C 24 f_S_105 d_S_size_21 rfl (by omega) rfl rfl ?_
      refine z_aload_n C 25 d_S_size_24 rfl rfl ?_
      refine z_get C 28 f_S_50 d_S_size_25 rfl (by omega) rfl rfl ?_
      refine z_l2i C 29 d_S_size_28 rfl ?_
      refine z_iald C 30 a d_S_size_29 rfl (by omega) rfl a1 (by show a < 8; exact a2) (by decide) ?_
      exact z_iret C rfl d_S_size_30 (by rw [hpo]; exact ⟨by rw [xsize, if_pos ⟨h0, h2⟩], rfl, rfl⟩) (by rw [hmc]; omega) (by rw [hms]; omega)
  · exact absurd hv.1 (by simp)
end XSJ
end
section
theorem aw_int : Cond.arrayClass FieldType.int ∈ zTb := zt1 89 (by decide +kernel) rfl
theorem aw_long : Cond.arrayClass FieldType.long ∈ zTb := zt1 88 (by decide +kernel) rfl
theorem aw_char : Cond.arrayClass FieldType.char ∈ zTb := zt1 43 (by decide +kernel) rfl
theorem aw_boolean : Cond.arrayClass FieldType.boolean ∈ zTb := zt1 90 (by decide +kernel) rfl
theorem ao_fun : Cond.arrayOver (FieldType.object "SoleArrays$Function") ∈ zTb := zt1 45 (by decide +kernel) rfl
theorem ao_row : Cond.arrayOver (FieldType.array FieldType.long) ∈ zTb := zt1 59 (by decide +kernel) rfl
theorem cl_O_25 : Cond.classLink "SoleArrays$Store" 25 "[[J" ∈ zTb := zt1 58 (by decide +kernel) rfl
theorem cl_U_25 : Cond.classLink "SoleArrays$Runner" 25 "[[J" ∈ zTb := zt1 91 (by decide +kernel) rfl
theorem cl_S_20 : Cond.classLink "SoleArrays" 20 "SoleArrays$Function" ∈ zTb := zt1 44 (by decide +kernel) rfl
theorem d_T_init_0 : decode b_T_init 0 = .ok (.aload_n 0, 1) := by decide +kernel
theorem d_T_init_1 : decode b_T_init 1 = .ok (.invokespecial 3, 3) := by decide +kernel
theorem d_T_init_4 : decode b_T_init 4 = .ok (.aload_n 0, 1) := by decide +kernel
theorem d_T_init_5 : decode b_T_init 5 = .ok (.iconst (-1), 1) := by decide +kernel
theorem d_T_init_6 : decode b_T_init 6 = .ok (.putfield 9, 3) := by decide +kernel
theorem d_T_init_9 : decode b_T_init 9 = .ok (.return_, 1) := by decide +kernel
theorem d_O_init_0 : decode b_O_init 0 = .ok (.aload_n 0, 1) := by decide +kernel
theorem d_O_init_1 : decode b_O_init 1 = .ok (.invokespecial 3, 3) := by decide +kernel
theorem d_O_init_4 : decode b_O_init 4 = .ok (.aload_n 0, 1) := by decide +kernel
theorem d_O_init_5 : decode b_O_init 5 = .ok (.bipush 8, 2) := by decide +kernel
theorem d_O_init_7 : decode b_O_init 7 = .ok (.newarray .int, 2) := by decide +kernel
theorem d_O_init_9 : decode b_O_init 9 = .ok (.putfield 9, 3) := by decide +kernel
theorem d_O_init_12 : decode b_O_init 12 = .ok (.aload_n 0, 1) := by decide +kernel
theorem d_O_init_13 : decode b_O_init 13 = .ok (.bipush 8, 2) := by decide +kernel
theorem d_O_init_15 : decode b_O_init 15 = .ok (.newarray .int, 2) := by decide +kernel
theorem d_O_init_17 : decode b_O_init 17 = .ok (.putfield 15, 3) := by decide +kernel
theorem d_O_init_20 : decode b_O_init 20 = .ok (.aload_n 0, 1) := by decide +kernel
theorem d_O_init_21 : decode b_O_init 21 = .ok (.iconst 0, 1) := by decide +kernel
theorem d_O_init_22 : decode b_O_init 22 = .ok (.putfield 18, 3) := by decide +kernel
theorem d_O_init_25 : decode b_O_init 25 = .ok (.aload_n 0, 1) := by decide +kernel
theorem d_O_init_26 : decode b_O_init 26 = .ok (.iconst 0, 1) := by decide +kernel
theorem d_O_init_27 : decode b_O_init 27 = .ok (.putfield 22, 3) := by decide +kernel
theorem d_O_init_30 : decode b_O_init 30 = .ok (.aload_n 0, 1) := by decide +kernel
theorem d_O_init_31 : decode b_O_init 31 = .ok (.bipush 8, 2) := by decide +kernel
theorem d_O_init_33 : decode b_O_init 33 = .ok (.bipush 40, 2) := by decide +kernel
theorem d_O_init_35 : decode b_O_init 35 = .ok (.multianewarray 25 2, 4) := by decide +kernel
theorem d_O_init_39 : decode b_O_init 39 = .ok (.putfield 27, 3) := by decide +kernel
theorem d_O_init_42 : decode b_O_init 42 = .ok (.aload_n 0, 1) := by decide +kernel
theorem d_O_init_43 : decode b_O_init 43 = .ok (.bipush 8, 2) := by decide +kernel
theorem d_O_init_45 : decode b_O_init 45 = .ok (.newarray .boolean, 2) := by decide +kernel
theorem d_O_init_47 : decode b_O_init 47 = .ok (.putfield 30, 3) := by decide +kernel
theorem d_O_init_50 : decode b_O_init 50 = .ok (.aload_n 0, 1) := by decide +kernel
theorem d_O_init_51 : decode b_O_init 51 = .ok (.iconst 0, 1) := by decide +kernel
theorem d_O_init_52 : decode b_O_init 52 = .ok (.putfield 34, 3) := by decide +kernel
theorem d_O_init_55 : decode b_O_init 55 = .ok (.return_, 1) := by decide +kernel
theorem d_U_init_0 : decode b_U_init 0 = .ok (.aload_n 0, 1) := by decide +kernel
theorem d_U_init_1 : decode b_U_init 1 = .ok (.invokespecial 3, 3) := by decide +kernel
theorem d_U_init_4 : decode b_U_init 4 = .ok (.aload_n 0, 1) := by decide +kernel
theorem d_U_init_5 : decode b_U_init 5 = .ok (.new 9, 3) := by decide +kernel
theorem d_U_init_8 : decode b_U_init 8 = .ok (.dup, 1) := by decide +kernel
theorem d_U_init_9 : decode b_U_init 9 = .ok (.invokespecial 11, 3) := by decide +kernel
theorem d_U_init_12 : decode b_U_init 12 = .ok (.putfield 12, 3) := by decide +kernel
theorem d_U_init_15 : decode b_U_init 15 = .ok (.aload_n 0, 1) := by decide +kernel
theorem d_U_init_16 : decode b_U_init 16 = .ok (.iconst 0, 1) := by decide +kernel
theorem d_U_init_17 : decode b_U_init 17 = .ok (.putfield 18, 3) := by decide +kernel
theorem d_U_init_20 : decode b_U_init 20 = .ok (.aload_n 0, 1) := by decide +kernel
theorem d_U_init_21 : decode b_U_init 21 = .ok (.iconst 0, 1) := by decide +kernel
theorem d_U_init_22 : decode b_U_init 22 = .ok (.putfield 22, 3) := by decide +kernel
theorem d_U_init_25 : decode b_U_init 25 = .ok (.aload_n 0, 1) := by decide +kernel
theorem d_U_init_26 : decode b_U_init 26 = .ok (.bipush 65, 2) := by decide +kernel
theorem d_U_init_28 : decode b_U_init 28 = .ok (.bipush 20, 2) := by decide +kernel
theorem d_U_init_30 : decode b_U_init 30 = .ok (.multianewarray 25 2, 4) := by decide +kernel
theorem d_U_init_34 : decode b_U_init 34 = .ok (.putfield 27, 3) := by decide +kernel
theorem d_U_init_37 : decode b_U_init 37 = .ok (.aload_n 0, 1) := by decide +kernel
theorem d_U_init_38 : decode b_U_init 38 = .ok (.iconst 0, 1) := by decide +kernel
theorem d_U_init_39 : decode b_U_init 39 = .ok (.putfield 30, 3) := by decide +kernel
theorem d_U_init_42 : decode b_U_init 42 = .ok (.return_, 1) := by decide +kernel
theorem d_S_init_0 : decode b_S_init 0 = .ok (.aload_n 0, 1) := by decide +kernel
theorem d_S_init_1 : decode b_S_init 1 = .ok (.invokespecial 1, 3) := by decide +kernel
theorem d_S_init_4 : decode b_S_init 4 = .ok (.aload_n 0, 1) := by decide +kernel
theorem d_S_init_5 : decode b_S_init 5 = .ok (.sipush 150, 3) := by decide +kernel
theorem d_S_init_8 : decode b_S_init 8 = .ok (.newarray .char, 2) := by decide +kernel
theorem d_S_init_10 : decode b_S_init 10 = .ok (.putfield 9, 3) := by decide +kernel
theorem d_S_init_13 : decode b_S_init 13 = .ok (.aload_n 0, 1) := by decide +kernel
theorem d_S_init_14 : decode b_S_init 14 = .ok (.new 13, 3) := by decide +kernel
theorem d_S_init_17 : decode b_S_init 17 = .ok (.dup, 1) := by decide +kernel
theorem d_S_init_18 : decode b_S_init 18 = .ok (.invokespecial 15, 3) := by decide +kernel
theorem d_S_init_21 : decode b_S_init 21 = .ok (.putfield 16, 3) := by decide +kernel
theorem d_S_init_24 : decode b_S_init 24 = .ok (.aload_n 0, 1) := by decide +kernel
theorem d_S_init_25 : decode b_S_init 25 = .ok (.bipush 8, 2) := by decide +kernel
theorem d_S_init_27 : decode b_S_init 27 = .ok (.anewarray 20, 3) := by decide +kernel
theorem d_S_init_30 : decode b_S_init 30 = .ok (.putfield 22, 3) := by decide +kernel
theorem d_S_init_33 : decode b_S_init 33 = .ok (.aload_n 0, 1) := by decide +kernel
theorem d_S_init_34 : decode b_S_init 34 = .ok (.iconst 4, 1) := by decide +kernel
theorem d_S_init_35 : decode b_S_init 35 = .ok (.newarray .long, 2) := by decide +kernel
theorem d_S_init_37 : decode b_S_init 37 = .ok (.putfield 26, 3) := by decide +kernel
theorem d_S_init_40 : decode b_S_init 40 = .ok (.aload_n 0, 1) := by decide +kernel
theorem d_S_init_41 : decode b_S_init 41 = .ok (.new 30, 3) := by decide +kernel
theorem d_S_init_44 : decode b_S_init 44 = .ok (.dup, 1) := by decide +kernel
theorem d_S_init_45 : decode b_S_init 45 = .ok (.invokespecial 32, 3) := by decide +kernel
theorem d_S_init_48 : decode b_S_init 48 = .ok (.putfield 33, 3) := by decide +kernel
theorem d_S_init_51 : decode b_S_init 51 = .ok (.aload_n 0, 1) := by decide +kernel
theorem d_S_init_52 : decode b_S_init 52 = .ok (.iconst 0, 1) := by decide +kernel
theorem d_S_init_53 : decode b_S_init 53 = .ok (.putfield 37, 3) := by decide +kernel
theorem d_S_init_56 : decode b_S_init 56 = .ok (.aload_n 0, 1) := by decide +kernel
theorem d_S_init_57 : decode b_S_init 57 = .ok (.iconst 0, 1) := by decide +kernel
theorem d_S_init_58 : decode b_S_init 58 = .ok (.putfield 41, 3) := by decide +kernel
theorem d_S_init_61 : decode b_S_init 61 = .ok (.aload_n 0, 1) := by decide +kernel
theorem d_S_init_62 : decode b_S_init 62 = .ok (.iconst 0, 1) := by decide +kernel
theorem d_S_init_63 : decode b_S_init 63 = .ok (.putfield 44, 3) := by decide +kernel
theorem d_S_init_66 : decode b_S_init 66 = .ok (.aload_n 0, 1) := by decide +kernel
theorem d_S_init_67 : decode b_S_init 67 = .ok (.iconst (-1), 1) := by decide +kernel
theorem d_S_init_68 : decode b_S_init 68 = .ok (.putfield 47, 3) := by decide +kernel
theorem d_S_init_71 : decode b_S_init 71 = .ok (.aload_n 0, 1) := by decide +kernel
theorem d_S_init_72 : decode b_S_init 72 = .ok (.lconst 0, 1) := by decide +kernel
theorem d_S_init_73 : decode b_S_init 73 = .ok (.putfield 50, 3) := by decide +kernel
theorem d_S_init_76 : decode b_S_init 76 = .ok (.return_, 1) := by decide +kernel
theorem z_ltb {a b : Nat} (h : Nat.blt a b = true) : a < b := Nat.le_of_ble_eq_true h
theorem z_rng {N : Nat} {f g : zS} (h : (List.range N).map f = (List.range N).map g) {i : Nat} (hi : i < N) : f i = g i := by
  have h1 := congrArg (fun l => l[i]?) h
  simp only [List.getElem?_map, List.getElem?_range hi, Option.map_some] at h1
  exact Option.some.inj h1
theorem z_rng2 (a N : Nat) {f g : zS} (h : (List.range N).map (fun j => f (a + j)) = (List.range N).map (fun j => g (a + j))) {i : Nat} (h1 : a ≤ i) (h2 : i < a + N) : f i = g i := by
  have h3 := z_rng (f := fun j => f (a + j)) (g := fun j => g (a + j)) h (i := i - a) (by omega)
  have h3 : f (a + (i - a)) = g (a + (i - a)) := h3
  rw [show a + (i - a) = i by omega] at h3
  exact h3
/-- a new object's ints -/
def xs0 : mS := fun k => if k = 3 then -1 else if k = 4 then -1 else 0
def xI (σ : zS) : zS := xOv xs0 0 (fun _ _ => 0) (fun _ _ => 0) (fun _ => none) σ
section XIN
variable {G : zG} {l : Launch} {n : Nat} {σ : zS}
theorem c_T_init {i : Nat} (hi : i < n) (hσ : σ i = .inr (1, [.int 0])) : MetZ G l y_T_init b_T_init 1 none [] 1 0 0 [.ref i] n σ (fun o n' σ' => o = .returned none ∧ n' = n ∧ σ' = va_up σ i (.inr (1, [.int (-1)]))) := by
  refine MetZ.of (by decide) (Nat.le_of_ble_eq_true rfl) (fun K hK hR hpo hmc hms C => ?_)
  refine z_aload_n C 1 d_T_init_0 rfl rfl ?_
  refine z_objinit C 4 d_T_init_1 rfl o_T_3 i_obj w_obj (by rw [hR]; decide) (by rw [hR]; decide) ?_
  refine z_aload_n C 5 d_T_init_4 rfl rfl ?_
  refine z_iconst C 6 d_T_init_5 rfl (-1) (by decide) ?_
  refine z_put C 9 p_T_9 d_T_init_6 rfl hi hσ (by decide) rfl rfl ?_
  exact z_vret C rfl d_T_init_9 (by rw [hpo]; exact ⟨rfl, rfl, rfl⟩) (by rw [hmc]; omega) (by rw [hms]; omega)
theorem c_O_init (hσ : σ 6 = .inr (6, [.null, .null, .int 0, .int 0, .null, .null, .int 0])) : MetZ G l y_O_init b_O_init 1 none [] 1 12 352 [.ref 6] 7 σ (fun o n' σ' => o = .returned none ∧ n' = 19 ∧ (∀ i, i < 6 → σ' i = σ i) ∧ ∀ i, 6 ≤ i → i < 19 → σ' i = xI σ i) := by
  refine MetZ.of (by decide) (Nat.le_of_ble_eq_true rfl) (fun K hK hR hpo hmc hms C => ?_)
  refine Z.same (τ := va_up σ 6 (.inr (6, [.null, .null, .int 0, .int 0, .null, .null, .int 0]))) (fun i _ => by by_cases h : i = 6 <;> simp [va_up, h, hσ]) ?_
  refine z_aload_n C 1 d_O_init_0 rfl rfl ?_
  refine z_objinit C 4 d_O_init_1 rfl o_O_3 i_obj w_obj (by rw [hR]; decide) (by rw [hR]; decide) ?_
  refine z_aload_n C 5 d_O_init_4 rfl rfl ?_
  refine z_bipush C 7 d_O_init_5 rfl 8 (by decide) ?_
  refine z_newa C 9 0 8 (a := (8, .inl (fun _ => 0))) rfl rfl aw_int (fun _ => rfl) (fun h => h) d_O_init_7 rfl (by decide) (by decide) (by decide) (by omega) (by rw [hR]; simp only [zRm]; omega) (by rw [hR]; simp only [zRm]; omega) ?_
  refine z_putF C 12 q_O_9 rfl d_O_init_9 rfl (by omega) rfl (z_ltb rfl) (rfl) rfl ?_
  refine z_aload_n C 13 d_O_init_12 rfl rfl ?_
  refine z_bipush C 15 d_O_init_13 rfl 8 (by decide) ?_
  refine z_newa C 17 0 8 (a := (8, .inl (fun _ => 0))) rfl rfl aw_int (fun _ => rfl) (fun h => h) d_O_init_15 rfl (by decide) (by decide) (by decide) (by omega) (by rw [hR]; simp only [zRm]; omega) (by rw [hR]; simp only [zRm]; omega) ?_
  refine z_putF C 20 q_O_15 rfl d_O_init_17 rfl (by omega) rfl (z_ltb rfl) (rfl) rfl ?_
  refine z_aload_n C 21 d_O_init_20 rfl rfl ?_
  refine z_iconst C 22 d_O_init_21 rfl 0 (by decide) ?_
  refine z_put C 25 p_O_18 d_O_init_22 rfl (by omega) rfl (z_ltb rfl) (rfl) rfl ?_
  refine z_aload_n C 26 d_O_init_25 rfl rfl ?_
  refine z_iconst C 27 d_O_init_26 rfl 0 (by decide) ?_
  refine z_put C 30 p_O_22 d_O_init_27 rfl (by omega) rfl (z_ltb rfl) (rfl) rfl ?_
  refine z_aload_n C 31 d_O_init_30 rfl rfl ?_
  refine z_bipush C 33 d_O_init_31 rfl 8 (by decide) ?_
  refine z_bipush C 35 d_O_init_33 rfl 40 (by decide) ?_
  refine z_mna C 39 8 40 d_O_init_35 rfl cl_O_25 ao_row aw_long (by decide) (by decide) (by decide) (by decide) (by decide) (by rw [hR]; decide) (by rw [hR]; decide) ?_
  refine z_putF C 42 q_O_27 rfl d_O_init_39 rfl (by omega) rfl (z_ltb rfl) (rfl) rfl ?_
  refine z_aload_n C 43 d_O_init_42 rfl rfl ?_
  refine z_bipush C 45 d_O_init_43 rfl 8 (by decide) ?_
  refine z_newa C 47 3 8 (a := (8, .inl (fun _ => 0))) rfl rfl aw_boolean (fun _ => rfl) (fun h => h) d_O_init_45 rfl (by decide) (by decide) (by decide) (by omega) (by rw [hR]; simp only [zRm]; omega) (by rw [hR]; simp only [zRm]; omega) ?_
  refine z_putF C 50 q_O_30 rfl d_O_init_47 rfl (by omega) rfl (z_ltb rfl) (rfl) rfl ?_
  refine z_aload_n C 51 d_O_init_50 rfl rfl ?_
  refine z_iconst C 52 d_O_init_51 rfl 0 (by decide) ?_
  refine z_put C 55 p_O_34 d_O_init_52 rfl (by omega) rfl (z_ltb rfl) (rfl) rfl ?_
  exact z_vret C rfl d_O_init_55 (by rw [hpo]; exact ⟨rfl, rfl, fun i hi => by simp only [va_up, zrow]; repeat (first | rw [if_neg (by omega)] | rw [if_pos (by omega)]), fun i h6 hi => z_rng2 6 13 (by rfl) h6 hi⟩) (by rw [hmc]; omega) (by rw [hms]; omega)
theorem c_U_init (hσ : σ 5 = .inr (7, [.null, .int 0, .int 0, .null, .int 0])) : MetZ G l y_U_init b_U_init 1 none [] 2 79 1724 [.ref 5] 6 σ (fun o n' σ' => o = .returned none ∧ n' = 85 ∧ (∀ i, i < 5 → σ' i = σ i) ∧ ∀ i, 5 ≤ i → i < 85 → σ' i = xI σ i) := by
  refine MetZ.of (by decide) (Nat.le_of_ble_eq_true rfl) (fun K hK hR hpo hmc hms C => ?_)
  refine Z.same (τ := va_up σ 5 (.inr (7, [.null, .int 0, .int 0, .null, .int 0]))) (fun i _ => by by_cases h : i = 5 <;> simp [va_up, h, hσ]) ?_
  refine z_aload_n C 1 d_U_init_0 rfl rfl ?_
  refine z_objinit C 4 d_U_init_1 rfl o_U_3 i_obj w_obj (by rw [hR]; decide) (by rw [hR]; decide) ?_
  refine z_aload_n C 5 d_U_init_4 rfl rfl ?_
  refine z_new C 8 n_U_9 d_U_init_5 rfl (by omega) (by rw [hR]; simp only [zRm]; omega) (by rw [hR]; simp only [zRm]; omega) ?_
  refine z_dup C 9 d_U_init_8 rfl rfl ?_
  refine z_call C 12 (c_O_init (σ := va_up (va_up σ 5 (.inr (7, [.null, .int 0, .int 0, .null, .int 0]))) 6 (.inr (6, [.null, .null, .int 0, .int 0, .null, .null, .int 0]))) rfl) w_O_init ini_O d_U_init_9 rfl (z_goIN (As := []) C l_U_11 w_O_init d_U_init_9 rfl) (Nat.le_of_ble_eq_true rfl) (by rw [hR]; simp only [zRm]; omega) (by rw [hR]; simp only [zRm]; omega) (by rw [hR]; simp only [zRm]; omega) (by rw [hR]; simp only [zRm]; omega) (fun v n' σ' hv => ?_) (fun x n' σ' hv => ?_)
  · obtain ⟨hv, rfl, h1, h2⟩ := hv
    cases hv
    refine Z.same (τ := fun i => if i < 5 then σ i else if i < 6 then .inr (7, [.null, .int 0, .int 0, .null, .int 0]) else xI σ i) (fun i hi => ?_) ?_
    · by_cases a1 : i < 6
      · rw [h1 i a1]
        by_cases a2 : i < 5
        · rw [if_pos a2, va_up_ne _ _ (by omega), va_up_ne _ _ (by omega)]
        · obtain rfl : i = 5 := by omega
          rfl
      · rw [h2 i (by omega) hi, if_neg (by omega), if_neg a1]
        unfold xI xOv
        rw [if_neg (show ¬ 85 ≤ i by omega), if_neg (show ¬ 85 ≤ i by omega)]
    refine z_putF C 15 q_U_12 rfl d_U_init_12 rfl (by omega) rfl (z_ltb rfl) (rfl) rfl ?_
    refine z_aload_n C 16 d_U_init_15 rfl rfl ?_
    refine z_iconst C 17 d_U_init_16 rfl 0 (by decide) ?_
    refine z_put C 20 p_U_18 d_U_init_17 rfl (by omega) rfl (z_ltb rfl) (rfl) rfl ?_
    refine z_aload_n C 21 d_U_init_20 rfl rfl ?_
    refine z_iconst C 22 d_U_init_21 rfl 0 (by decide) ?_
    refine z_put C 25 p_U_22 d_U_init_22 rfl (by omega) rfl (z_ltb rfl) (rfl) rfl ?_
    refine z_aload_n C 26 d_U_init_25 rfl rfl ?_
    refine z_bipush C 28 d_U_init_26 rfl 65 (by decide) ?_
    refine z_bipush C 30 d_U_init_28 rfl 20 (by decide) ?_
    refine z_mna C 34 65 20 d_U_init_30 rfl cl_U_25 ao_row aw_long (by decide) (by decide) (by decide) (by decide) (by decide) (by rw [hR]; decide) (by rw [hR]; decide) ?_
    refine z_putF C 37 q_U_27 rfl d_U_init_34 rfl (by omega) rfl (z_ltb rfl) (rfl) rfl ?_
    refine z_aload_n C 38 d_U_init_37 rfl rfl ?_
    refine z_iconst C 39 d_U_init_38 rfl 0 (by decide) ?_
    refine z_put C 42 p_U_30 d_U_init_39 rfl (by omega) rfl (z_ltb rfl) (rfl) rfl ?_
    exact z_vret C rfl d_U_init_42 (by rw [hpo]; exact ⟨rfl, rfl, fun i hi => by simp only [va_up, zrow]; repeat (first | rw [if_neg (by omega)] | rw [if_pos (by omega)]), fun i h6 hi => z_rng2 5 80 (by rfl) h6 hi⟩) (by rw [hmc]; omega) (by rw [hms]; omega)
  · exact absurd hv.1 (by simp)
theorem c_S_init (hσ : σ 0 = .inr (0, [.null, .null, .null, .null, .null, .int 0, .int 0, .int 0, .int 0, .long 0])) : MetZ G l y_S_init b_S_init 1 none [] 3 84 1892 [.ref 0] 1 σ (fun o n' σ' => o = .returned none ∧ n' = 85 ∧ ∀ i, i < 85 → σ' i = xI σ i) := by
  refine MetZ.of (by decide) (Nat.le_of_ble_eq_true rfl) (fun K hK hR hpo hmc hms C => ?_)
  refine Z.same (τ := va_up σ 0 (.inr (0, [.null, .null, .null, .null, .null, .int 0, .int 0, .int 0, .int 0, .long 0]))) (fun i _ => by by_cases h : i = 0 <;> simp [va_up, h, hσ]) ?_
  refine z_aload_n C 1 d_S_init_0 rfl rfl ?_
  refine z_objinit C 4 d_S_init_1 rfl o_S_1 i_obj w_obj (by rw [hR]; decide) (by rw [hR]; decide) ?_
  refine z_aload_n C 5 d_S_init_4 rfl rfl ?_
  refine z_sipush C 8 d_S_init_5 rfl 150 (by decide) ?_
  refine z_newa C 10 2 150 (a := (150, .inl (fun _ => 0))) rfl rfl aw_char (fun _ => rfl) (fun h => h) d_S_init_8 rfl (by decide) (by decide) (by decide) (by omega) (by rw [hR]; simp only [zRm]; omega) (by rw [hR]; simp only [zRm]; omega) ?_
  refine z_putF C 13 q_S_9 rfl d_S_init_10 rfl (by omega) rfl (z_ltb rfl) (rfl) rfl ?_
  refine z_aload_n C 14 d_S_init_13 rfl rfl ?_
  refine z_new C 17 n_S_13 d_S_init_14 rfl (by omega) (by rw [hR]; simp only [zRm]; omega) (by rw [hR]; simp only [zRm]; omega) ?_
  refine z_dup C 18 d_S_init_17 rfl rfl ?_
  refine z_call C 21 (c_T_init (i := 2) (by decide) rfl) w_T_init ini_T d_S_init_18 rfl (z_goIN (As := []) C l_S_15 w_T_init d_S_init_18 rfl) (Nat.le_of_ble_eq_true rfl) (by rw [hR]; simp only [zRm]; omega) (by rw [hR]; simp only [zRm]; omega) (by rw [hR]; simp only [zRm]; omega) (by rw [hR]; simp only [zRm]; omega) (fun v n' σ' hv => ?_) (fun x n' σ' hv => ?_)
  · obtain ⟨hv, rfl, rfl⟩ := hv
    cases hv
    refine z_putF C 24 q_S_16 rfl d_S_init_21 rfl (by omega) rfl (z_ltb rfl) (rfl) rfl ?_
    refine z_aload_n C 25 d_S_init_24 rfl rfl ?_
    refine z_bipush C 27 d_S_init_25 rfl 8 (by decide) ?_
    refine z_anew C 30 (t := 4) 8 rfl cl_S_20 ao_fun d_S_init_27 rfl (by decide) (by decide) (by decide) (by decide) (by rw [hR]; decide) (by rw [hR]; decide) ?_
    refine z_putF C 33 q_S_22 rfl d_S_init_30 rfl (by omega) rfl (z_ltb rfl) (rfl) rfl ?_
    refine z_aload_n C 34 d_S_init_33 rfl rfl ?_
    refine z_iconst C 35 d_S_init_34 rfl 4 (by decide) ?_
    refine z_newa C 37 1 4 (a := (4, .inr (.inl (fun _ => 0)))) rfl rfl aw_long (fun _ => rfl) (fun h => h) d_S_init_35 rfl (by decide) (by decide) (by decide) (by omega) (by rw [hR]; simp only [zRm]; omega) (by rw [hR]; simp only [zRm]; omega) ?_
    refine z_putF C 40 q_S_26 rfl d_S_init_37 rfl (by omega) rfl (z_ltb rfl) (rfl) rfl ?_
    refine z_aload_n C 41 d_S_init_40 rfl rfl ?_
    refine z_new C 44 n_S_30 d_S_init_41 rfl (by omega) (by rw [hR]; simp only [zRm]; omega) (by rw [hR]; simp only [zRm]; omega) ?_
    refine z_dup C 45 d_S_init_44 rfl rfl ?_
    refine z_call C 48 (c_U_init rfl) w_U_init ini_U d_S_init_45 rfl (z_goIN (As := []) C l_S_32 w_U_init d_S_init_45 rfl) (Nat.le_of_ble_eq_true rfl) (by rw [hR]; simp only [zRm]; omega) (by rw [hR]; simp only [zRm]; omega) (by rw [hR]; simp only [zRm]; omega) (by rw [hR]; simp only [zRm]; omega) (fun v n' σ' hv => ?_) (fun x n' σ' hv => ?_)
    · obtain ⟨hv, rfl, h1, h2⟩ := hv
      cases hv
      refine Z.same (τ := fun i => if i < 1 then .inr (0, [.ref 1, .ref 2, .ref 3, .ref 4, .null, .int 0, .int 0, .int 0, .int 0, .long 0]) else xI σ i) (fun i hi => ?_) ?_
      · by_cases a1 : i < 5
        · rw [h1 i a1]
          exact z_rng2 0 5 (g := fun i => if i < 1 then .inr (0, [.ref 1, .ref 2, .ref 3, .ref 4, .null, .int 0, .int 0, .int 0, .int 0, .long 0]) else xI σ i) (by rfl) (Nat.zero_le _) a1
        · rw [h2 i (by omega) hi, if_neg (by omega)]
          unfold xI xOv
          rw [if_neg (show ¬ 85 ≤ i by omega), if_neg (show ¬ 85 ≤ i by omega)]
      refine z_putF C 51 q_S_33 rfl d_S_init_48 rfl (by omega) rfl (z_ltb rfl) (rfl) rfl ?_
      refine z_aload_n C 52 d_S_init_51 rfl rfl ?_
      refine z_iconst C 53 d_S_init_52 rfl 0 (by decide) ?_
      refine z_put C 56 p_S_37 d_S_init_53 rfl (by omega) rfl (z_ltb rfl) (rfl) rfl ?_
      refine z_aload_n C 57 d_S_init_56 rfl rfl ?_
      refine z_iconst C 58 d_S_init_57 rfl 0 (by decide) ?_
      refine z_put C 61 p_S_41 d_S_init_58 rfl (by omega) rfl (z_ltb rfl) (rfl) rfl ?_
      refine z_aload_n C 62 d_S_init_61 rfl rfl ?_
      refine z_iconst C 63 d_S_init_62 rfl 0 (by decide) ?_
      refine z_put C 66 p_S_44 d_S_init_63 rfl (by omega) rfl (z_ltb rfl) (rfl) rfl ?_
      refine z_aload_n C 67 d_S_init_66 rfl rfl ?_
      refine z_iconst C 68 d_S_init_67 rfl (-1) (by decide) ?_
      refine z_put C 71 p_S_47 d_S_init_68 rfl (by omega) rfl (z_ltb rfl) (rfl) rfl ?_
      refine z_aload_n C 72 d_S_init_71 rfl rfl ?_
      refine z_lconst C 73 d_S_init_72 rfl 0 (by decide) ?_
      refine z_put C 76 p_S_50 d_S_init_73 rfl (by omega) rfl (z_ltb rfl) (rfl) rfl ?_
      exact z_vret C rfl d_S_init_76 (by rw [hpo]; exact ⟨rfl, rfl, fun i hi => z_rng2 0 85 (by rfl) (Nat.zero_le _) (by omega)⟩) (by rw [hmc]; omega) (by rw [hms]; omega)
    · exact absurd hv.1 (by simp)
  · exact absurd hv.1 (by simp)
end XIN
end
section
theorem d_M_init_0 : decode b_M_init 0 = .ok (.aload_n 0, 1) := by decide +kernel
theorem d_M_init_1 : decode b_M_init 1 = .ok (.invokespecial 1, 3) := by decide +kernel
theorem d_M_init_4 : decode b_M_init 4 = .ok (.aload_n 0, 1) := by decide +kernel
theorem d_M_init_5 : decode b_M_init 5 = .ok (.sipush 150, 3) := by decide +kernel
theorem d_M_init_8 : decode b_M_init 8 = .ok (.newarray .char, 2) := by decide +kernel
theorem d_M_init_10 : decode b_M_init 10 = .ok (.putfield 7, 3) := by decide +kernel
theorem d_M_init_13 : decode b_M_init 13 = .ok (.aload_n 0, 1) := by decide +kernel
theorem d_M_init_14 : decode b_M_init 14 = .ok (.iconst (-1), 1) := by decide +kernel
theorem d_M_init_15 : decode b_M_init 15 = .ok (.putfield 13, 3) := by decide +kernel
theorem d_M_init_18 : decode b_M_init 18 = .ok (.aload_n 0, 1) := by decide +kernel
theorem d_M_init_19 : decode b_M_init 19 = .ok (.sipush 1350, 3) := by decide +kernel
theorem d_M_init_22 : decode b_M_init 22 = .ok (.newarray .int, 2) := by decide +kernel
theorem d_M_init_24 : decode b_M_init 24 = .ok (.putfield 17, 3) := by decide +kernel
theorem d_M_init_27 : decode b_M_init 27 = .ok (.aload_n 0, 1) := by decide +kernel
theorem d_M_init_28 : decode b_M_init 28 = .ok (.sipush 1350, 3) := by decide +kernel
theorem d_M_init_31 : decode b_M_init 31 = .ok (.newarray .int, 2) := by decide +kernel
theorem d_M_init_33 : decode b_M_init 33 = .ok (.putfield 21, 3) := by decide +kernel
theorem d_M_init_36 : decode b_M_init 36 = .ok (.aload_n 0, 1) := by decide +kernel
theorem d_M_init_37 : decode b_M_init 37 = .ok (.sipush 1350, 3) := by decide +kernel
theorem d_M_init_40 : decode b_M_init 40 = .ok (.newarray .int, 2) := by decide +kernel
theorem d_M_init_42 : decode b_M_init 42 = .ok (.putfield 24, 3) := by decide +kernel
theorem d_M_init_45 : decode b_M_init 45 = .ok (.aload_n 0, 1) := by decide +kernel
theorem d_M_init_46 : decode b_M_init 46 = .ok (.sipush 1350, 3) := by decide +kernel
theorem d_M_init_49 : decode b_M_init 49 = .ok (.newarray .int, 2) := by decide +kernel
theorem d_M_init_51 : decode b_M_init 51 = .ok (.putfield 27, 3) := by decide +kernel
theorem d_M_init_54 : decode b_M_init 54 = .ok (.aload_n 0, 1) := by decide +kernel
theorem d_M_init_55 : decode b_M_init 55 = .ok (.sipush 1350, 3) := by decide +kernel
theorem d_M_init_58 : decode b_M_init 58 = .ok (.newarray .int, 2) := by decide +kernel
theorem d_M_init_60 : decode b_M_init 60 = .ok (.putfield 30, 3) := by decide +kernel
theorem d_M_init_63 : decode b_M_init 63 = .ok (.aload_n 0, 1) := by decide +kernel
theorem d_M_init_64 : decode b_M_init 64 = .ok (.bipush 9, 2) := by decide +kernel
theorem d_M_init_66 : decode b_M_init 66 = .ok (.newarray .boolean, 2) := by decide +kernel
theorem d_M_init_68 : decode b_M_init 68 = .ok (.putfield 33, 3) := by decide +kernel
theorem d_M_init_71 : decode b_M_init 71 = .ok (.aload_n 0, 1) := by decide +kernel
theorem d_M_init_72 : decode b_M_init 72 = .ok (.bipush 9, 2) := by decide +kernel
theorem d_M_init_74 : decode b_M_init 74 = .ok (.newarray .int, 2) := by decide +kernel
theorem d_M_init_76 : decode b_M_init 76 = .ok (.putfield 37, 3) := by decide +kernel
theorem d_M_init_79 : decode b_M_init 79 = .ok (.aload_n 0, 1) := by decide +kernel
theorem d_M_init_80 : decode b_M_init 80 = .ok (.bipush 9, 2) := by decide +kernel
theorem d_M_init_82 : decode b_M_init 82 = .ok (.newarray .int, 2) := by decide +kernel
theorem d_M_init_84 : decode b_M_init 84 = .ok (.putfield 40, 3) := by decide +kernel
theorem d_M_init_87 : decode b_M_init 87 = .ok (.aload_n 0, 1) := by decide +kernel
theorem d_M_init_88 : decode b_M_init 88 = .ok (.bipush 36, 2) := by decide +kernel
theorem d_M_init_90 : decode b_M_init 90 = .ok (.newarray .int, 2) := by decide +kernel
theorem d_M_init_92 : decode b_M_init 92 = .ok (.putfield 43, 3) := by decide +kernel
theorem d_M_init_95 : decode b_M_init 95 = .ok (.aload_n 0, 1) := by decide +kernel
theorem d_M_init_96 : decode b_M_init 96 = .ok (.bipush 36, 2) := by decide +kernel
theorem d_M_init_98 : decode b_M_init 98 = .ok (.newarray .int, 2) := by decide +kernel
theorem d_M_init_100 : decode b_M_init 100 = .ok (.putfield 46, 3) := by decide +kernel
theorem d_M_init_103 : decode b_M_init 103 = .ok (.aload_n 0, 1) := by decide +kernel
theorem d_M_init_104 : decode b_M_init 104 = .ok (.bipush 36, 2) := by decide +kernel
theorem d_M_init_106 : decode b_M_init 106 = .ok (.newarray .int, 2) := by decide +kernel
theorem d_M_init_108 : decode b_M_init 108 = .ok (.putfield 49, 3) := by decide +kernel
theorem d_M_init_111 : decode b_M_init 111 = .ok (.aload_n 0, 1) := by decide +kernel
theorem d_M_init_112 : decode b_M_init 112 = .ok (.bipush 80, 2) := by decide +kernel
theorem d_M_init_114 : decode b_M_init 114 = .ok (.newarray .int, 2) := by decide +kernel
theorem d_M_init_116 : decode b_M_init 116 = .ok (.putfield 52, 3) := by decide +kernel
theorem d_M_init_119 : decode b_M_init 119 = .ok (.aload_n 0, 1) := by decide +kernel
theorem d_M_init_120 : decode b_M_init 120 = .ok (.bipush 80, 2) := by decide +kernel
theorem d_M_init_122 : decode b_M_init 122 = .ok (.newarray .int, 2) := by decide +kernel
theorem d_M_init_124 : decode b_M_init 124 = .ok (.putfield 55, 3) := by decide +kernel
theorem d_M_init_127 : decode b_M_init 127 = .ok (.aload_n 0, 1) := by decide +kernel
theorem d_M_init_128 : decode b_M_init 128 = .ok (.bipush 80, 2) := by decide +kernel
theorem d_M_init_130 : decode b_M_init 130 = .ok (.newarray .int, 2) := by decide +kernel
theorem d_M_init_132 : decode b_M_init 132 = .ok (.putfield 58, 3) := by decide +kernel
theorem d_M_init_135 : decode b_M_init 135 = .ok (.aload_n 0, 1) := by decide +kernel
theorem d_M_init_136 : decode b_M_init 136 = .ok (.bipush 80, 2) := by decide +kernel
theorem d_M_init_138 : decode b_M_init 138 = .ok (.newarray .int, 2) := by decide +kernel
theorem d_M_init_140 : decode b_M_init 140 = .ok (.putfield 61, 3) := by decide +kernel
theorem d_M_init_143 : decode b_M_init 143 = .ok (.aload_n 0, 1) := by decide +kernel
theorem d_M_init_144 : decode b_M_init 144 = .ok (.bipush 80, 2) := by decide +kernel
theorem d_M_init_146 : decode b_M_init 146 = .ok (.newarray .int, 2) := by decide +kernel
theorem d_M_init_148 : decode b_M_init 148 = .ok (.putfield 64, 3) := by decide +kernel
theorem d_M_init_151 : decode b_M_init 151 = .ok (.aload_n 0, 1) := by decide +kernel
theorem d_M_init_152 : decode b_M_init 152 = .ok (.bipush 20, 2) := by decide +kernel
theorem d_M_init_154 : decode b_M_init 154 = .ok (.newarray .int, 2) := by decide +kernel
theorem d_M_init_156 : decode b_M_init 156 = .ok (.putfield 67, 3) := by decide +kernel
theorem d_M_init_159 : decode b_M_init 159 = .ok (.aload_n 0, 1) := by decide +kernel
theorem d_M_init_160 : decode b_M_init 160 = .ok (.sipush 16080, 3) := by decide +kernel
theorem d_M_init_163 : decode b_M_init 163 = .ok (.newarray .long, 2) := by decide +kernel
theorem d_M_init_165 : decode b_M_init 165 = .ok (.putfield 70, 3) := by decide +kernel
theorem d_M_init_168 : decode b_M_init 168 = .ok (.aload_n 0, 1) := by decide +kernel
theorem d_M_init_169 : decode b_M_init 169 = .ok (.sipush 402, 3) := by decide +kernel
theorem d_M_init_172 : decode b_M_init 172 = .ok (.newarray .int, 2) := by decide +kernel
theorem d_M_init_174 : decode b_M_init 174 = .ok (.putfield 74, 3) := by decide +kernel
theorem d_M_init_177 : decode b_M_init 177 = .ok (.aload_n 0, 1) := by decide +kernel
theorem d_M_init_178 : decode b_M_init 178 = .ok (.sipush 402, 3) := by decide +kernel
theorem d_M_init_181 : decode b_M_init 181 = .ok (.newarray .int, 2) := by decide +kernel
theorem d_M_init_183 : decode b_M_init 183 = .ok (.putfield 77, 3) := by decide +kernel
theorem d_M_init_186 : decode b_M_init 186 = .ok (.aload_n 0, 1) := by decide +kernel
theorem d_M_init_187 : decode b_M_init 187 = .ok (.sipush 160, 3) := by decide +kernel
theorem d_M_init_190 : decode b_M_init 190 = .ok (.newarray .long, 2) := by decide +kernel
theorem d_M_init_192 : decode b_M_init 192 = .ok (.putfield 80, 3) := by decide +kernel
theorem d_M_init_195 : decode b_M_init 195 = .ok (.aload_n 0, 1) := by decide +kernel
theorem d_M_init_196 : decode b_M_init 196 = .ok (.sipush 160, 3) := by decide +kernel
theorem d_M_init_199 : decode b_M_init 199 = .ok (.newarray .int, 2) := by decide +kernel
theorem d_M_init_201 : decode b_M_init 201 = .ok (.putfield 83, 3) := by decide +kernel
theorem d_M_init_204 : decode b_M_init 204 = .ok (.aload_n 0, 1) := by decide +kernel
theorem d_M_init_205 : decode b_M_init 205 = .ok (.sipush 400, 3) := by decide +kernel
theorem d_M_init_208 : decode b_M_init 208 = .ok (.newarray .long, 2) := by decide +kernel
theorem d_M_init_210 : decode b_M_init 210 = .ok (.putfield 86, 3) := by decide +kernel
theorem d_M_init_213 : decode b_M_init 213 = .ok (.aload_n 0, 1) := by decide +kernel
theorem d_M_init_214 : decode b_M_init 214 = .ok (.sipush 400, 3) := by decide +kernel
theorem d_M_init_217 : decode b_M_init 217 = .ok (.newarray .int, 2) := by decide +kernel
theorem d_M_init_219 : decode b_M_init 219 = .ok (.putfield 89, 3) := by decide +kernel
theorem d_M_init_222 : decode b_M_init 222 = .ok (.aload_n 0, 1) := by decide +kernel
theorem d_M_init_223 : decode b_M_init 223 = .ok (.iconst 4, 1) := by decide +kernel
theorem d_M_init_224 : decode b_M_init 224 = .ok (.newarray .long, 2) := by decide +kernel
theorem d_M_init_226 : decode b_M_init 226 = .ok (.putfield 92, 3) := by decide +kernel
theorem d_M_init_229 : decode b_M_init 229 = .ok (.aload_n 0, 1) := by decide +kernel
theorem d_M_init_230 : decode b_M_init 230 = .ok (.iconst (-1), 1) := by decide +kernel
theorem d_M_init_231 : decode b_M_init 231 = .ok (.putfield 95, 3) := by decide +kernel
theorem d_M_init_234 : decode b_M_init 234 = .ok (.aload_n 0, 1) := by decide +kernel
theorem d_M_init_235 : decode b_M_init 235 = .ok (.bipush 40, 2) := by decide +kernel
theorem d_M_init_237 : decode b_M_init 237 = .ok (.newarray .long, 2) := by decide +kernel
theorem d_M_init_239 : decode b_M_init 239 = .ok (.putfield 98, 3) := by decide +kernel
theorem d_M_init_242 : decode b_M_init 242 = .ok (.return_, 1) := by decide +kernel
def mS0 : mS := fun k => if k = 6 then -1 else if k = 46 then -1 else 0
def mI (σ : zS) : zS := mOv mS0 (fun _ _ => 0) (fun _ _ => 0) 0 σ
def mD : List Value := [.int 0, .int 0, .int 0, .null, .int 0, .int 0, .int 0, .null, .null, .null, .null, .null, .int 0, .null, .null, .null, .null, .null, .null, .int 0, .null, .null, .null, .null, .null, .null, .int 0, .int 0, .int 0, .null, .null, .null, .int 0, .int 0, .null, .null, .int 0, .null, .null, .int 0, .int 0, .int 0, .int 0, .int 0, .int 0, .null, .int 0, .long 0, .int 0, .int 0, .null]
set_option maxRecDepth 4000 in
theorem c_M_init {G : zG} {l : Launch} {σ : zS} (hσ : σ 85 = .inr (8, mD)) : MetZ G l y_M_init b_M_init 1 none [] 1 27 25503 [.ref 85] 86 σ (fun o n' σ' => o = .returned none ∧ n' = 113 ∧ (∀ i, i < 85 → σ' i = σ i) ∧ ∀ i, 85 ≤ i → i < 113 → σ' i = mI σ i) := by
  refine MetZ.of (by decide) (Nat.le_of_ble_eq_true rfl) (fun K hK hR hpo hmc hms C => ?_)
  refine Z.same (τ := va_up σ 85 (.inr (8, mD))) (fun i _ => by by_cases h : i = 85 <;> simp [va_up, h, hσ]) ?_
  refine z_aload_n C 1 d_M_init_0 rfl rfl ?_
  refine z_objinit C 4 d_M_init_1 rfl o_M_1 i_obj w_obj (by rw [hR]; decide) (by rw [hR]; decide) ?_
  refine z_aload_n C 5 d_M_init_4 rfl rfl ?_
  refine z_sipush C 8 d_M_init_5 rfl 150 (by decide) ?_
  refine z_newa C 10 2 150 (a := (150, .inl (fun _ => 0))) rfl rfl aw_char (fun _ => rfl) (fun h => h) d_M_init_8 rfl (by decide) (by decide) (by decide) (by omega) (by rw [hR]; simp only [zRm]; omega) (by rw [hR]; simp only [zRm]; omega) ?_
  refine z_putF C 13 q_M_7 rfl d_M_init_10 rfl (by omega) rfl (z_ltb rfl) (rfl) rfl ?_
  refine z_aload_n C 14 d_M_init_13 rfl rfl ?_
  refine z_iconst C 15 d_M_init_14 rfl (-1) (by decide) ?_
  refine z_put C 18 p_M_13 d_M_init_15 rfl (by omega) rfl (z_ltb rfl) (rfl) rfl ?_
  refine z_aload_n C 19 d_M_init_18 rfl rfl ?_
  refine z_sipush C 22 d_M_init_19 rfl 1350 (by decide) ?_
  refine z_newa C 24 0 1350 (a := (1350, .inl (fun _ => 0))) rfl rfl aw_int (fun _ => rfl) (fun h => h) d_M_init_22 rfl (by decide) (by decide) (by decide) (by omega) (by rw [hR]; simp only [zRm]; omega) (by rw [hR]; simp only [zRm]; omega) ?_
  refine z_putF C 27 q_M_17 rfl d_M_init_24 rfl (by omega) rfl (z_ltb rfl) (rfl) rfl ?_
  refine z_aload_n C 28 d_M_init_27 rfl rfl ?_
  refine z_sipush C 31 d_M_init_28 rfl 1350 (by decide) ?_
  refine z_newa C 33 0 1350 (a := (1350, .inl (fun _ => 0))) rfl rfl aw_int (fun _ => rfl) (fun h => h) d_M_init_31 rfl (by decide) (by decide) (by decide) (by omega) (by rw [hR]; simp only [zRm]; omega) (by rw [hR]; simp only [zRm]; omega) ?_
  refine z_putF C 36 q_M_21 rfl d_M_init_33 rfl (by omega) rfl (z_ltb rfl) (rfl) rfl ?_
  refine z_aload_n C 37 d_M_init_36 rfl rfl ?_
  refine z_sipush C 40 d_M_init_37 rfl 1350 (by decide) ?_
  refine z_newa C 42 0 1350 (a := (1350, .inl (fun _ => 0))) rfl rfl aw_int (fun _ => rfl) (fun h => h) d_M_init_40 rfl (by decide) (by decide) (by decide) (by omega) (by rw [hR]; simp only [zRm]; omega) (by rw [hR]; simp only [zRm]; omega) ?_
  refine z_putF C 45 q_M_24 rfl d_M_init_42 rfl (by omega) rfl (z_ltb rfl) (rfl) rfl ?_
  refine z_aload_n C 46 d_M_init_45 rfl rfl ?_
  refine z_sipush C 49 d_M_init_46 rfl 1350 (by decide) ?_
  refine z_newa C 51 0 1350 (a := (1350, .inl (fun _ => 0))) rfl rfl aw_int (fun _ => rfl) (fun h => h) d_M_init_49 rfl (by decide) (by decide) (by decide) (by omega) (by rw [hR]; simp only [zRm]; omega) (by rw [hR]; simp only [zRm]; omega) ?_
  refine z_putF C 54 q_M_27 rfl d_M_init_51 rfl (by omega) rfl (z_ltb rfl) (rfl) rfl ?_
  refine z_aload_n C 55 d_M_init_54 rfl rfl ?_
  refine z_sipush C 58 d_M_init_55 rfl 1350 (by decide) ?_
  refine z_newa C 60 0 1350 (a := (1350, .inl (fun _ => 0))) rfl rfl aw_int (fun _ => rfl) (fun h => h) d_M_init_58 rfl (by decide) (by decide) (by decide) (by omega) (by rw [hR]; simp only [zRm]; omega) (by rw [hR]; simp only [zRm]; omega) ?_
  refine z_putF C 63 q_M_30 rfl d_M_init_60 rfl (by omega) rfl (z_ltb rfl) (rfl) rfl ?_
  refine z_aload_n C 64 d_M_init_63 rfl rfl ?_
  refine z_bipush C 66 d_M_init_64 rfl 9 (by decide) ?_
  refine z_newa C 68 3 9 (a := (9, .inl (fun _ => 0))) rfl rfl aw_boolean (fun _ => rfl) (fun h => h) d_M_init_66 rfl (by decide) (by decide) (by decide) (by omega) (by rw [hR]; simp only [zRm]; omega) (by rw [hR]; simp only [zRm]; omega) ?_
  refine z_putF C 71 q_M_33 rfl d_M_init_68 rfl (by omega) rfl (z_ltb rfl) (rfl) rfl ?_
  refine z_aload_n C 72 d_M_init_71 rfl rfl ?_
  refine z_bipush C 74 d_M_init_72 rfl 9 (by decide) ?_
  refine z_newa C 76 0 9 (a := (9, .inl (fun _ => 0))) rfl rfl aw_int (fun _ => rfl) (fun h => h) d_M_init_74 rfl (by decide) (by decide) (by decide) (by omega) (by rw [hR]; simp only [zRm]; omega) (by rw [hR]; simp only [zRm]; omega) ?_
  refine z_putF C 79 q_M_37 rfl d_M_init_76 rfl (by omega) rfl (z_ltb rfl) (rfl) rfl ?_
  refine z_aload_n C 80 d_M_init_79 rfl rfl ?_
  refine z_bipush C 82 d_M_init_80 rfl 9 (by decide) ?_
  refine z_newa C 84 0 9 (a := (9, .inl (fun _ => 0))) rfl rfl aw_int (fun _ => rfl) (fun h => h) d_M_init_82 rfl (by decide) (by decide) (by decide) (by omega) (by rw [hR]; simp only [zRm]; omega) (by rw [hR]; simp only [zRm]; omega) ?_
  refine z_putF C 87 q_M_40 rfl d_M_init_84 rfl (by omega) rfl (z_ltb rfl) (rfl) rfl ?_
  refine z_aload_n C 88 d_M_init_87 rfl rfl ?_
  refine z_bipush C 90 d_M_init_88 rfl 36 (by decide) ?_
  refine z_newa C 92 0 36 (a := (36, .inl (fun _ => 0))) rfl rfl aw_int (fun _ => rfl) (fun h => h) d_M_init_90 rfl (by decide) (by decide) (by decide) (by omega) (by rw [hR]; simp only [zRm]; omega) (by rw [hR]; simp only [zRm]; omega) ?_
  refine z_putF C 95 q_M_43 rfl d_M_init_92 rfl (by omega) rfl (z_ltb rfl) (rfl) rfl ?_
  refine z_aload_n C 96 d_M_init_95 rfl rfl ?_
  refine z_bipush C 98 d_M_init_96 rfl 36 (by decide) ?_
  refine z_newa C 100 0 36 (a := (36, .inl (fun _ => 0))) rfl rfl aw_int (fun _ => rfl) (fun h => h) d_M_init_98 rfl (by decide) (by decide) (by decide) (by omega) (by rw [hR]; simp only [zRm]; omega) (by rw [hR]; simp only [zRm]; omega) ?_
  refine z_putF C 103 q_M_46 rfl d_M_init_100 rfl (by omega) rfl (z_ltb rfl) (rfl) rfl ?_
  refine z_aload_n C 104 d_M_init_103 rfl rfl ?_
  refine z_bipush C 106 d_M_init_104 rfl 36 (by decide) ?_
  refine z_newa C 108 0 36 (a := (36, .inl (fun _ => 0))) rfl rfl aw_int (fun _ => rfl) (fun h => h) d_M_init_106 rfl (by decide) (by decide) (by decide) (by omega) (by rw [hR]; simp only [zRm]; omega) (by rw [hR]; simp only [zRm]; omega) ?_
  refine z_putF C 111 q_M_49 rfl d_M_init_108 rfl (by omega) rfl (z_ltb rfl) (rfl) rfl ?_
  refine z_aload_n C 112 d_M_init_111 rfl rfl ?_
  refine z_bipush C 114 d_M_init_112 rfl 80 (by decide) ?_
  refine z_newa C 116 0 80 (a := (80, .inl (fun _ => 0))) rfl rfl aw_int (fun _ => rfl) (fun h => h) d_M_init_114 rfl (by decide) (by decide) (by decide) (by omega) (by rw [hR]; simp only [zRm]; omega) (by rw [hR]; simp only [zRm]; omega) ?_
  refine z_putF C 119 q_M_52 rfl d_M_init_116 rfl (by omega) rfl (z_ltb rfl) (rfl) rfl ?_
  refine z_aload_n C 120 d_M_init_119 rfl rfl ?_
  refine z_bipush C 122 d_M_init_120 rfl 80 (by decide) ?_
  refine z_newa C 124 0 80 (a := (80, .inl (fun _ => 0))) rfl rfl aw_int (fun _ => rfl) (fun h => h) d_M_init_122 rfl (by decide) (by decide) (by decide) (by omega) (by rw [hR]; simp only [zRm]; omega) (by rw [hR]; simp only [zRm]; omega) ?_
  refine z_putF C 127 q_M_55 rfl d_M_init_124 rfl (by omega) rfl (z_ltb rfl) (rfl) rfl ?_
  refine z_aload_n C 128 d_M_init_127 rfl rfl ?_
  refine z_bipush C 130 d_M_init_128 rfl 80 (by decide) ?_
  refine z_newa C 132 0 80 (a := (80, .inl (fun _ => 0))) rfl rfl aw_int (fun _ => rfl) (fun h => h) d_M_init_130 rfl (by decide) (by decide) (by decide) (by omega) (by rw [hR]; simp only [zRm]; omega) (by rw [hR]; simp only [zRm]; omega) ?_
  refine z_putF C 135 q_M_58 rfl d_M_init_132 rfl (by omega) rfl (z_ltb rfl) (rfl) rfl ?_
  refine z_aload_n C 136 d_M_init_135 rfl rfl ?_
  refine z_bipush C 138 d_M_init_136 rfl 80 (by decide) ?_
  refine z_newa C 140 0 80 (a := (80, .inl (fun _ => 0))) rfl rfl aw_int (fun _ => rfl) (fun h => h) d_M_init_138 rfl (by decide) (by decide) (by decide) (by omega) (by rw [hR]; simp only [zRm]; omega) (by rw [hR]; simp only [zRm]; omega) ?_
  refine z_putF C 143 q_M_61 rfl d_M_init_140 rfl (by omega) rfl (z_ltb rfl) (rfl) rfl ?_
  refine z_aload_n C 144 d_M_init_143 rfl rfl ?_
  refine z_bipush C 146 d_M_init_144 rfl 80 (by decide) ?_
  refine z_newa C 148 0 80 (a := (80, .inl (fun _ => 0))) rfl rfl aw_int (fun _ => rfl) (fun h => h) d_M_init_146 rfl (by decide) (by decide) (by decide) (by omega) (by rw [hR]; simp only [zRm]; omega) (by rw [hR]; simp only [zRm]; omega) ?_
  refine z_putF C 151 q_M_64 rfl d_M_init_148 rfl (by omega) rfl (z_ltb rfl) (rfl) rfl ?_
  refine z_aload_n C 152 d_M_init_151 rfl rfl ?_
  refine z_bipush C 154 d_M_init_152 rfl 20 (by decide) ?_
  refine z_newa C 156 0 20 (a := (20, .inl (fun _ => 0))) rfl rfl aw_int (fun _ => rfl) (fun h => h) d_M_init_154 rfl (by decide) (by decide) (by decide) (by omega) (by rw [hR]; simp only [zRm]; omega) (by rw [hR]; simp only [zRm]; omega) ?_
  refine z_putF C 159 q_M_67 rfl d_M_init_156 rfl (by omega) rfl (z_ltb rfl) (rfl) rfl ?_
  refine z_aload_n C 160 d_M_init_159 rfl rfl ?_
  refine z_sipush C 163 d_M_init_160 rfl 16080 (by decide) ?_
  refine z_newa C 165 1 16080 (a := (16080, .inr (.inl (fun _ => 0)))) rfl rfl aw_long (fun _ => rfl) (fun h => h) d_M_init_163 rfl (by decide) (by decide) (by decide) (by omega) (by rw [hR]; simp only [zRm]; omega) (by rw [hR]; simp only [zRm]; omega) ?_
  refine z_putF C 168 q_M_70 rfl d_M_init_165 rfl (by omega) rfl (z_ltb rfl) (rfl) rfl ?_
  refine z_aload_n C 169 d_M_init_168 rfl rfl ?_
  refine z_sipush C 172 d_M_init_169 rfl 402 (by decide) ?_
  refine z_newa C 174 0 402 (a := (402, .inl (fun _ => 0))) rfl rfl aw_int (fun _ => rfl) (fun h => h) d_M_init_172 rfl (by decide) (by decide) (by decide) (by omega) (by rw [hR]; simp only [zRm]; omega) (by rw [hR]; simp only [zRm]; omega) ?_
  refine z_putF C 177 q_M_74 rfl d_M_init_174 rfl (by omega) rfl (z_ltb rfl) (rfl) rfl ?_
  refine z_aload_n C 178 d_M_init_177 rfl rfl ?_
  refine z_sipush C 181 d_M_init_178 rfl 402 (by decide) ?_
  refine z_newa C 183 0 402 (a := (402, .inl (fun _ => 0))) rfl rfl aw_int (fun _ => rfl) (fun h => h) d_M_init_181 rfl (by decide) (by decide) (by decide) (by omega) (by rw [hR]; simp only [zRm]; omega) (by rw [hR]; simp only [zRm]; omega) ?_
  refine z_putF C 186 q_M_77 rfl d_M_init_183 rfl (by omega) rfl (z_ltb rfl) (rfl) rfl ?_
  refine z_aload_n C 187 d_M_init_186 rfl rfl ?_
  refine z_sipush C 190 d_M_init_187 rfl 160 (by decide) ?_
  refine z_newa C 192 1 160 (a := (160, .inr (.inl (fun _ => 0)))) rfl rfl aw_long (fun _ => rfl) (fun h => h) d_M_init_190 rfl (by decide) (by decide) (by decide) (by omega) (by rw [hR]; simp only [zRm]; omega) (by rw [hR]; simp only [zRm]; omega) ?_
  refine z_putF C 195 q_M_80 rfl d_M_init_192 rfl (by omega) rfl (z_ltb rfl) (rfl) rfl ?_
  refine z_aload_n C 196 d_M_init_195 rfl rfl ?_
  refine z_sipush C 199 d_M_init_196 rfl 160 (by decide) ?_
  refine z_newa C 201 0 160 (a := (160, .inl (fun _ => 0))) rfl rfl aw_int (fun _ => rfl) (fun h => h) d_M_init_199 rfl (by decide) (by decide) (by decide) (by omega) (by rw [hR]; simp only [zRm]; omega) (by rw [hR]; simp only [zRm]; omega) ?_
  refine z_putF C 204 q_M_83 rfl d_M_init_201 rfl (by omega) rfl (z_ltb rfl) (rfl) rfl ?_
  refine z_aload_n C 205 d_M_init_204 rfl rfl ?_
  refine z_sipush C 208 d_M_init_205 rfl 400 (by decide) ?_
  refine z_newa C 210 1 400 (a := (400, .inr (.inl (fun _ => 0)))) rfl rfl aw_long (fun _ => rfl) (fun h => h) d_M_init_208 rfl (by decide) (by decide) (by decide) (by omega) (by rw [hR]; simp only [zRm]; omega) (by rw [hR]; simp only [zRm]; omega) ?_
  refine z_putF C 213 q_M_86 rfl d_M_init_210 rfl (by omega) rfl (z_ltb rfl) (rfl) rfl ?_
  refine z_aload_n C 214 d_M_init_213 rfl rfl ?_
  refine z_sipush C 217 d_M_init_214 rfl 400 (by decide) ?_
  refine z_newa C 219 0 400 (a := (400, .inl (fun _ => 0))) rfl rfl aw_int (fun _ => rfl) (fun h => h) d_M_init_217 rfl (by decide) (by decide) (by decide) (by omega) (by rw [hR]; simp only [zRm]; omega) (by rw [hR]; simp only [zRm]; omega) ?_
  refine z_putF C 222 q_M_89 rfl d_M_init_219 rfl (by omega) rfl (z_ltb rfl) (rfl) rfl ?_
  refine z_aload_n C 223 d_M_init_222 rfl rfl ?_
  refine z_iconst C 224 d_M_init_223 rfl 4 (by decide) ?_
  refine z_newa C 226 1 4 (a := (4, .inr (.inl (fun _ => 0)))) rfl rfl aw_long (fun _ => rfl) (fun h => h) d_M_init_224 rfl (by decide) (by decide) (by decide) (by omega) (by rw [hR]; simp only [zRm]; omega) (by rw [hR]; simp only [zRm]; omega) ?_
  refine z_putF C 229 q_M_92 rfl d_M_init_226 rfl (by omega) rfl (z_ltb rfl) (rfl) rfl ?_
  refine z_aload_n C 230 d_M_init_229 rfl rfl ?_
  refine z_iconst C 231 d_M_init_230 rfl (-1) (by decide) ?_
  refine z_put C 234 p_M_95 d_M_init_231 rfl (by omega) rfl (z_ltb rfl) (rfl) rfl ?_
  refine z_aload_n C 235 d_M_init_234 rfl rfl ?_
  refine z_bipush C 237 d_M_init_235 rfl 40 (by decide) ?_
  refine z_newa C 239 1 40 (a := (40, .inr (.inl (fun _ => 0)))) rfl rfl aw_long (fun _ => rfl) (fun h => h) d_M_init_237 rfl (by decide) (by decide) (by decide) (by omega) (by rw [hR]; simp only [zRm]; omega) (by rw [hR]; simp only [zRm]; omega) ?_
  refine z_putF C 242 q_M_98 rfl d_M_init_239 rfl (by omega) rfl (z_ltb rfl) (rfl) rfl ?_
  exact z_vret C rfl d_M_init_242 (by rw [hpo]; exact ⟨rfl, rfl, fun i hi => by simp only [va_up]; repeat (first | rw [if_neg (by omega)] | rw [if_pos (by omega)]), fun i h6 hi => z_rng2 85 28 (by rfl) h6 hi⟩) (by rw [hmc]; omega) (by rw [hms]; omega)
end
section
section XCE
variable {G : zG} {l : Launch} {n : Nat} {xs : mS} {xr : Int64} {xa : mA} {xl : mL} {xf : xF} {σ : zS}
/-- is there a number at i, j of the array a -/
def xhas (xa : mA) (a : Nat) (i j : Int64) : Prop := 0 ≤ i ∧ i < (xa 7 a).toInt64 ∧ 0 ≤ j ∧ j < (xa 8 a).toInt64
theorem c_O_has (hn : 85 ≤ n) {a : Nat} (ha : a < 8) (i j : Int64) : MetZ G l y_O_has b_O_has 6 (some .boolean) [] 0 0 0 [.ref 6, .int (nI a), .long i, .long j] n (xOv xs xr xa xl xf σ) (fun o n' σ' => ((xhas xa a i j ∧ o = .returned (some (.int 1))) ∨ (¬ xhas xa a i j ∧ o = .returned (some (.int 0)))) ∧ n' = n ∧ σ' = xOv xs xr xa xl xf σ) := by
  refine MetZ.of (by decide) (Nat.le_of_ble_eq_true rfl) (fun K hK hR hpo hmc hms C => ?_)
  have no : ¬ xhas xa a i j → ∀ lv, Z G K n (xOv xs xr xa xl xf σ) 0 0 42 lv [] := fun h lv => by
    refine z_iconst C 43 d_O_has_42 rfl 0 (by decide) ?_
    exact z_zret C rfl (rfl) d_O_has_43 (by rw [hpo]; exact ⟨Or.inr ⟨h, rfl⟩, rfl, rfl⟩) (by rw [hmc]; omega) (by rw [hms]; omega)
  refine z_lload_n C 1 d_O_has_0 rfl rfl ?_
  refine z_lconst C 2 d_O_has_1 rfl 0 (by decide) ?_
  refine z_lcmp C 3 d_O_has_2 rfl ?_
  refine z_if_lt C 6 42 d_O_has_3 rfl (by decide) (fun h1 => ?_) (fun h1 => ?_)
  · exact no (fun q => Int64.not_lt.mpr q.1 ((lg_cmp_lt _ _).mp h1)) _
  refine z_lload_n C 7 d_O_has_6 rfl rfl ?_
  refine z_aload_n C 8 d_O_has_7 rfl rfl ?_
  refine z_get C 11 f_O_9 d_O_has_8 rfl (by omega) rfl rfl ?_
  refine z_iload_n C 12 d_O_has_11 rfl rfl ?_
  refine z_iald C 13 a d_O_has_12 rfl (by omega) rfl rfl (by show a < 8; exact ha) (by decide) ?_
  refine z_i2l C 14 d_O_has_13 rfl ?_
  refine z_lcmp C 15 d_O_has_14 rfl ?_
  refine z_if_ge C 18 42 d_O_has_15 rfl (by decide) (fun h2 => ?_) (fun h2 => ?_)
  · exact no (fun q => Int64.not_lt.mpr ((lg_cmp_ge _ _).mp h2) q.2.1) _
  refine z_lload C 20 d_O_has_18 rfl rfl ?_
  refine z_lconst C 21 d_O_has_20 rfl 0 (by decide) ?_
  refine z_lcmp C 22 d_O_has_21 rfl ?_
  refine z_if_lt C 25 42 d_O_has_22 rfl (by decide) (fun h3 => ?_) (fun h3 => ?_)
  · exact no (fun q => Int64.not_lt.mpr q.2.2.1 ((lg_cmp_lt _ _).mp h3)) _
  refine z_lload C 27 d_O_has_25 rfl rfl ?_
  refine z_aload_n C 28 d_O_has_27 rfl rfl ?_
  refine z_get C 31 f_O_15 d_O_has_28 rfl (by omega) rfl rfl ?_
  refine z_iload_n C 32 d_O_has_31 rfl rfl ?_
  refine z_iald C 33 a d_O_has_32 rfl (by omega) rfl rfl (by show a < 8; exact ha) (by decide) ?_
  refine z_i2l C 34 d_O_has_33 rfl ?_
  refine z_lcmp C 35 d_O_has_34 rfl ?_
  refine z_if_ge C 38 42 d_O_has_35 rfl (by decide) (fun h4 => ?_) (fun h4 => ?_)
  · exact no (fun q => Int64.not_lt.mpr ((lg_cmp_ge _ _).mp h4) q.2.2.2) _
  refine z_iconst C 39 d_O_has_38 rfl 1 (by decide) ?_
  refine z_goto C 43 d_O_has_39 (by decide) ?_
  exact z_zret C rfl (rfl) d_O_has_43 (by rw [hpo]; exact ⟨Or.inl ⟨⟨Int64.not_lt.mp (fun q => h1 ((lg_cmp_lt _ _).mpr q)), Int64.not_le.mp (fun q => h2 ((lg_cmp_ge _ _).mpr q)), Int64.not_lt.mp (fun q => h3 ((lg_cmp_lt _ _).mpr q)), Int64.not_le.mp (fun q => h4 ((lg_cmp_ge _ _).mpr q))⟩, rfl⟩, rfl, rfl⟩) (by rw [hmc]; omega) (by rw [hms]; omega)
theorem c_O_indexOf (hn : 85 ≤ n) (hn2 : n < 1000000) {a : Nat} (ha : a < 8) (i j : Int64) : MetZ G l y_O_indexOf b_O_indexOf 6 (some .int) [] 6 1 6 [.ref 6, .int (nI a), .long i, .long j] n (xOv xs xr xa xl xf σ) (fun o n' σ' => (xhas xa a i j ∧ o = .returned (some (.int (i * (xa 8 a).toInt64 + j).toInt32)) ∧ n' = n ∧ σ' = xOv xs xr xa xl xf σ) ∨ (¬ xhas xa a i j ∧ o = .threw n ∧ n' = n + 1 ∧ σ' = va_up (xOv xs xr xa xl xf σ) n (.inr (11, [])))) := by
  refine MetZ.of (by decide) (Nat.le_of_ble_eq_true rfl) (fun K hK hR hpo hmc hms C => ?_)
  refine z_aload_n C 1 d_O_indexOf_0 rfl rfl ?_
  refine z_iload_n C 2 d_O_indexOf_1 rfl rfl ?_
  refine z_lload_n C 3 d_O_indexOf_2 rfl rfl ?_
  refine z_lload C 5 d_O_indexOf_3 rfl rfl ?_
  refine z_call C 8 (c_O_has hn ha i j) w_O_has ini_O d_O_indexOf_5 rfl (z_goV (As := [.int (nI a), .long i, .long j]) C l_O_83 w_O_has d_O_indexOf_5 (by omega) rfl rfl rfl) (Nat.le_of_ble_eq_true rfl) (by rw [hR]; simp only [zRm]; omega) (by rw [hR]; simp only [zRm]; omega) (by rw [hR]; simp only [zRm]; omega) (by rw [hR]; simp only [zRm]; omega) (fun v n' σ' hv => ?_) (fun x n' σ' hv => ?_)
  · obtain ⟨hv, rfl, rfl⟩ := hv
    rcases hv with ⟨hh, hv⟩ | ⟨hh, hv⟩
    · cases hv
      refine z_if_ne C 11 21 d_O_indexOf_8 rfl (by decide) (fun _ => ?_) (fun h9 => absurd h9 (show ¬ (1 : Int32) = 0 by decide))
      refine z_lload_n C 22 d_O_indexOf_21 rfl rfl ?_
      refine z_aload_n C 23 d_O_indexOf_22 rfl rfl ?_
      refine z_get C 26 f_O_15 d_O_indexOf_23 rfl (by omega) rfl rfl ?_
      refine z_iload_n C 27 d_O_indexOf_26 rfl rfl ?_
      refine z_iald C 28 a d_O_indexOf_27 rfl (by omega) rfl rfl (by show a < 8; exact ha) (by decide) ?_
      refine z_i2l C 29 d_O_indexOf_28 rfl ?_
      refine z_lmul C 30 d_O_indexOf_29 rfl ?_
      refine z_lload C 32 d_O_indexOf_30 rfl rfl ?_
      refine z_ladd C 33 d_O_indexOf_32 rfl ?_
      refine z_l2i C 34 d_O_indexOf_33 rfl ?_
      exact z_iret C rfl d_O_indexOf_34 (by rw [hpo]; exact Or.inl ⟨hh, rfl, rfl, rfl⟩) (by rw [hmc]; omega) (by rw [hms]; omega)
    · cases hv
      refine z_if_ne C 11 21 d_O_indexOf_8 rfl (by decide) (fun h9 => absurd (show (0 : Int32) = 0 from rfl) h9) (fun _ => ?_)
      exact z_throwS C (ci := 11) (names := zNm) (text := "no number there") rfl (by decide) zNm_fit cl_O_87 ini_e3 (by decide) at_O_91 d_O_indexOf_11 d_O_indexOf_14 d_O_indexOf_15 d_O_indexOf_17 d_O_indexOf_20 (fun h hh => nomatch hh) (by rw [hR]; show 2 + 3 < _; simp only [zRm]; omega) (by rw [hR]; show _ + (13 * (2 + 1) + 43) ≤ _; simp only [zRm]; exact Nat.le_of_ble_eq_true rfl) (by omega) (by rw [hR]; simp only [zRm]; omega) (by rw [hR]; simp only [zRm]; omega) (by rw [hmc]; omega) (by rw [hms]; omega) (by rw [hpo]; exact Or.inr ⟨hh, rfl, rfl, rfl⟩)
  · obtain ⟨hv, -⟩ := hv
    rcases hv with ⟨-, hv⟩ | ⟨-, hv⟩ <;> cases hv
/-- a row's or table's cells -/
theorem c_O_numberAt (hn : 85 ≤ n) (hn2 : n < 1000000) {a k : Nat} (ha : a < 8) (i j : Int64) (hh : xhas xa a i j) (hk : (i * (xa 8 a).toInt64 + j).toInt32 = nI k) (hk2 : k < 40) : MetZ G l y_O_numberAt b_O_numberAt 6 (some .long) [] 7 1 6 [.ref 6, .int (nI a), .long i, .long j] n (xOv xs xr xa xl xf σ) (fun o n' σ' => o = .returned (some (.long (xl (10 + a) k))) ∧ n' = n ∧ σ' = xOv xs xr xa xl xf σ) := by
  refine MetZ.of (by decide) (Nat.le_of_ble_eq_true rfl) (fun K hK hR hpo hmc hms C => ?_)
  refine z_aload_n C 1 d_O_numberAt_0 rfl rfl ?_
  refine z_get C 4 f_O_27 d_O_numberAt_1 rfl (by omega) rfl rfl ?_
  refine z_iload_n C 5 d_O_numberAt_4 rfl rfl ?_
  refine z_aald C 6 a (ty := .array .long) (some (10 + a)) d_O_numberAt_5 rfl (by omega) rfl rfl rfl rfl (by omega) (by decide) (by rw [if_pos ha]) ?_
  refine z_aload_n C 7 d_O_numberAt_6 rfl rfl ?_
  refine z_iload_n C 8 d_O_numberAt_7 rfl rfl ?_
  refine z_lload_n C 9 d_O_numberAt_8 rfl rfl ?_
  refine z_lload C 11 d_O_numberAt_9 rfl rfl ?_
  refine z_call C 14 (c_O_indexOf hn hn2 ha i j) w_O_indexOf ini_O d_O_numberAt_11 rfl (z_goV (As := [.int (nI a), .long i, .long j]) C l_O_79 w_O_indexOf d_O_numberAt_11 (by omega) rfl rfl rfl) (Nat.le_of_ble_eq_true rfl) (by rw [hR]; simp only [zRm]; omega) (by rw [hR]; simp only [zRm]; omega) (by rw [hR]; simp only [zRm]; omega) (by rw [hR]; simp only [zRm]; omega) (fun v n' σ' hv => ?_) (fun x n' σ' hv => ?_)
  · rcases hv with ⟨-, hv, rfl, rfl⟩ | ⟨q, -⟩
    · cases hv
      have hL : xIsL (10 + a) := by unfold xIsL; omega
      have hlen : xLen (10 + a) = 40 := by unfold xLen; rw [if_neg (by omega), if_neg (by omega), if_neg (by omega), if_pos (by omega)]
      refine zx_lald C 15 k d_O_numberAt_14 rfl (by omega) hL hk (by rw [hlen]; exact hk2) (by rw [hlen]; decide) ?_
      exact z_lret C rfl d_O_numberAt_15 (by rw [hpo]; exact ⟨rfl, rfl, rfl⟩) (by rw [hmc]; omega) (by rw [hms]; omega)
    · exact absurd hh q
  · rcases hv with ⟨-, hv, -⟩ | ⟨q, -⟩
    · cases hv
    · exact absurd hh q
end XCE
end
section
section XC2
variable {G : zG} {l : Launch} {n : Nat} {xs : mS} {xr : Int64} {xa : mA} {xl : mL} {xf : xF} {σ : zS}
/-- the result's array: which it is, its sizes -/
def xRes (xs : mS) (xr : Int64) (xa : mA) (a r c : Nat) : Prop := xr.toInt32 = nI a ∧ a < 8 ∧ xa 7 a = nI r ∧ xa 8 a = nI c ∧ r ≤ 40 ∧ c ≤ 40 ∧ r * c ≤ 40
def xcol (xs : mS) (j : Int32) : Int32 := if xs 3 = 1 then 0 else j
def xcellP (xs : mS) (r c : Nat) (i j : Int32) : Prop := (xs 3 = 1 ∨ xs 3 = 2) ∧ ¬ i < 0 ∧ i < nI r ∧ ¬ xcol xs j < 0 ∧ xcol xs j < nI c
theorem z_i64 {x y : Int32} : x.toInt64 < y.toInt64 ↔ x < y := by
  rw [Int64.lt_iff_toInt_lt, Int32.lt_iff_toInt_lt, Int32.toInt_toInt64, Int32.toInt_toInt64]
theorem z_i64le {x y : Int32} : x.toInt64 ≤ y.toInt64 ↔ x ≤ y := by
  rw [Int64.le_iff_toInt_le, Int32.le_iff_toInt_le, Int32.toInt_toInt64, Int32.toInt_toInt64]
theorem c_S_cell (hn : 85 ≤ n) (hn2 : n < 1000000) (i j : Int32) (a r c : Nat) (hA : (xs 3 = 1 ∨ xs 3 = 2) → xRes xs xr xa a r c) : MetZ G l y_S_cell b_S_cell 5 (some .long) [] 8 1 6 [.ref 0, .int i, .int j] n (xOv xs xr xa xl xf σ) (fun o n' σ' => ((xcellP xs r c i j ∧ o = .returned (some (.long (xl (10 + a) (i.toNatClampNeg * c + (xcol xs j).toNatClampNeg))))) ∨ (¬ xcellP xs r c i j ∧ o = .returned (some (.long 0)))) ∧ n' = n ∧ σ' = xOv xs xr xa xl xf σ) := by
  refine MetZ.of (by decide) (Nat.le_of_ble_eq_true rfl) (fun K hK hR hpo hmc hms C => ?_)
  refine z_aload_n C 1 d_S_cell_0 rfl rfl ?_
  refine z_get C 4 f_S_47 d_S_cell_1 rfl (by omega) rfl rfl ?_
  refine z_call C 7 (c_S_isArray (xs 3)) w_S_isArray ini_S d_S_cell_4 rfl (z_goS (As := [.int (xs 3)]) C l_S_97 w_S_isArray nm_S_isArray d_S_cell_4 rfl) (Nat.le_of_ble_eq_true rfl) (by rw [hR]; simp only [zRm]; omega) (by rw [hR]; simp only [zRm]; omega) (by rw [hR]; simp only [zRm]; omega) (by rw [hR]; simp only [zRm]; omega) (fun v n' σ' hv => ?_) (fun x n' σ' hv => ?_)
  · obtain ⟨hv, e1, rfl⟩ := hv
    obtain rfl : n = n' := e1.symm
    cases hv
    refine z_if_ne C 10 12 d_S_cell_7 rfl (by decide) (fun h1 => ?_) (fun h1 => ?_)
    · have h2 : xs 3 = 1 ∨ xs 3 = 2 := by
        rcases Classical.em (xs 3 = 1 ∨ xs 3 = 2) with h | h
        · exact h
        · rw [if_neg h] at h1
          exact absurd rfl h1
      obtain ⟨a1, a2, a3, a4, a5, a6, a7⟩ := hA h2
      have go : Z G K n (xOv xs xr xa xl xf σ) 0 0 33 [(4, .int (xcol xs j)), (3, .int xr.toInt32), (0, .ref 0), (1, .int i), (2, .int j)] [] := by
        rw [a1]
        have hP : xhas xa a i.toInt64 (xcol xs j).toInt64 ↔ (¬ i < 0 ∧ i < nI r ∧ ¬ xcol xs j < 0 ∧ xcol xs j < nI c) := by
          unfold xhas
          rw [a3, a4, show (0 : Int64) = (0 : Int32).toInt64 from rfl, z_i64le, z_i64le, z_i64, z_i64, Int32.not_lt, Int32.not_lt]
        refine z_aload_n C 34 d_S_cell_33 rfl rfl ?_
        refine z_get C 37 f_S_33 d_S_cell_34 rfl (by omega) rfl rfl ?_
        refine z_get C 40 f_S_101 d_S_cell_37 rfl (by omega) rfl rfl ?_
        refine z_iload_n C 41 d_S_cell_40 rfl rfl ?_
        refine z_iload_n C 42 d_S_cell_41 rfl rfl ?_
        refine z_i2l C 43 d_S_cell_42 rfl ?_
        refine z_iload C 45 d_S_cell_43 rfl rfl ?_
        refine z_i2l C 46 d_S_cell_45 rfl ?_
        refine z_call C 49 (c_O_has hn a2 _ _) w_O_has ini_O d_S_cell_46 rfl (z_goV (As := [.int (nI a), .long i.toInt64, .long (xcol xs j).toInt64]) C l_S_114 w_O_has d_S_cell_46 (by omega) rfl rfl rfl) (Nat.le_of_ble_eq_true rfl) (by rw [hR]; simp only [zRm]; omega) (by rw [hR]; simp only [zRm]; omega) (by rw [hR]; simp only [zRm]; omega) (by rw [hR]; simp only [zRm]; omega) (fun v n' σ' hv => ?_) (fun x n' σ' hv => ?_)
        · obtain ⟨hv, e1, rfl⟩ := hv
          obtain rfl : n = n' := e1.symm
          rcases hv with ⟨hh, hv⟩ | ⟨hh, hv⟩
          · cases hv
            refine z_if_eq C 52 71 d_S_cell_49 rfl (by decide) (fun h9 => absurd h9 (show ¬ (1 : Int32) = 0 by decide)) (fun _ => ?_)
            obtain ⟨b1, b2, b3, b4⟩ := hP.mp hh
            obtain ⟨ii, hi, ei⟩ := nI_of b1
            obtain ⟨jj, hj, ej⟩ := nI_of b3
            have hi2 : ii < r := by rw [ei] at b2; exact (nI_ltI hi (by omega)).mp b2
            have hj2 : jj < c := by rw [ej] at b4; exact (nI_ltI hj (by omega)).mp b4
            have hb : ii * c + jj < 40 := by
              have h1 : (ii + 1) * c ≤ r * c := Nat.mul_le_mul_right c hi2
              rw [Nat.succ_mul] at h1
              omega
            have ek : (i.toInt64 * (xa 8 a).toInt64 + (xcol xs j).toInt64).toInt32 = nI (ii * c + jj) := by
              rw [a4, ei, ej, nI_l hi, nI_l (by omega), nI_l hj, lN_mul, lN_add, lN_i]
            refine z_aload_n C 53 d_S_cell_52 rfl rfl ?_
            refine z_get C 56 f_S_33 d_S_cell_53 rfl (by omega) rfl rfl ?_
            refine z_get C 59 f_S_101 d_S_cell_56 rfl (by omega) rfl rfl ?_
            refine z_iload_n C 60 d_S_cell_59 rfl rfl ?_
            refine z_iload_n C 61 d_S_cell_60 rfl rfl ?_
            refine z_i2l C 62 d_S_cell_61 rfl ?_
            refine z_iload C 64 d_S_cell_62 rfl rfl ?_
            refine z_i2l C 65 d_S_cell_64 rfl ?_
            refine z_call C 68 (c_O_numberAt hn hn2 a2 _ _ hh ek hb) w_O_numberAt ini_O d_S_cell_65 rfl (z_goV (As := [.int (nI a), .long i.toInt64, .long (xcol xs j).toInt64]) C l_S_118 w_O_numberAt d_S_cell_65 (by omega) rfl rfl rfl) (Nat.le_of_ble_eq_true rfl) (by rw [hR]; simp only [zRm]; omega) (by rw [hR]; simp only [zRm]; omega) (by rw [hR]; simp only [zRm]; omega) (by rw [hR]; simp only [zRm]; omega) (fun v n' σ' hv => ?_) (fun x n' σ' hv => ?_)
            · obtain ⟨hv, e1, rfl⟩ := hv
              obtain rfl : n = n' := e1.symm
              cases hv
              refine z_goto C 72 d_S_cell_68 (by decide) ?_
              exact z_lret C rfl d_S_cell_72 (by rw [hpo]; exact ⟨Or.inl ⟨⟨h2, b1, b2, b3, b4⟩, by rw [ei, ej, nI_clamp hi, nI_clamp hj]⟩, rfl, rfl⟩) (by rw [hmc]; omega) (by rw [hms]; omega)
            · exact absurd hv.1 (by simp)
          · cases hv
            refine z_if_eq C 52 71 d_S_cell_49 rfl (by decide) (fun _ => ?_) (fun h9 => absurd (show (0 : Int32) = 0 from rfl) h9)
            refine z_lconst C 72 d_S_cell_71 rfl 0 (by decide) ?_
            exact z_lret C rfl d_S_cell_72 (by rw [hpo]; exact ⟨Or.inr ⟨fun q => hh (hP.mpr q.2), rfl⟩, rfl, rfl⟩) (by rw [hmc]; omega) (by rw [hms]; omega)
        · obtain ⟨hv, -⟩ := hv
          rcases hv with ⟨-, hv⟩ | ⟨-, hv⟩ <;> cases hv
      refine z_aload_n C 13 d_S_cell_12 rfl rfl ?_
      refine z_get C 16 f_S_50 d_S_cell_13 rfl (by omega) rfl rfl ?_
      refine z_l2i C 17 d_S_cell_16 rfl ?_
      refine z_istore_n C 18 d_S_cell_17 rfl (by decide) ?_
      refine z_aload_n C 19 d_S_cell_18 rfl rfl ?_
      refine z_get C 22 f_S_47 d_S_cell_19 rfl (by omega) rfl rfl ?_
      refine z_iconst C 23 d_S_cell_22 rfl 1 (by decide) ?_
      refine z_icmp_ne C 26 30 d_S_cell_23 rfl (by decide) (fun hk => ?_) (fun hk => ?_)
      · refine z_iload_n C 31 d_S_cell_30 rfl rfl ?_
        refine z_istore C 33 d_S_cell_31 rfl (by decide) ?_
        rw [show xcol xs j = j from if_neg hk] at go
        exact go
      · refine z_iconst C 27 d_S_cell_26 rfl 0 (by decide) ?_
        refine z_goto C 31 d_S_cell_27 (by decide) ?_
        refine z_istore C 33 d_S_cell_31 rfl (by decide) ?_
        rw [show xcol xs j = 0 from if_pos hk] at go
        exact go
    · refine z_lconst C 11 d_S_cell_10 rfl 0 (by decide) ?_
      exact z_lret C rfl d_S_cell_11 (by rw [hpo]; exact ⟨Or.inr ⟨fun q => by rw [if_pos q.1] at h1; exact absurd h1 (by decide), rfl⟩, rfl, rfl⟩) (by rw [hmc]; omega) (by rw [hms]; omega)
  · exact absurd hv.1 (by simp)
end XC2
end
section
theorem d_L_define_0 : decode b_L_define 0 = .ok (.aload_n 1, 1) := by decide +kernel
theorem d_L_define_1 : decode b_L_define 1 = .ok (.iconst 0, 1) := by decide +kernel
theorem d_L_define_2 : decode b_L_define 2 = .ok (.aload_n 0, 1) := by decide +kernel
theorem d_L_define_3 : decode b_L_define 3 = .ok (.invokevirtual 7, 3) := by decide +kernel
theorem d_L_define_6 : decode b_L_define 6 = .ok (.i2l, 1) := by decide +kernel
theorem d_L_define_7 : decode b_L_define 7 = .ok (.lastore, 1) := by decide +kernel
theorem d_L_define_8 : decode b_L_define 8 = .ok (.goto 9, 3) := by decide +kernel
theorem d_L_define_11 : decode b_L_define 11 = .ok (.astore_n 2, 1) := by decide +kernel
theorem d_L_define_12 : decode b_L_define 12 = .ok (.iconst 1, 1) := by decide +kernel
theorem d_L_define_13 : decode b_L_define 13 = .ok (.ireturn, 1) := by decide +kernel
theorem d_L_define_14 : decode b_L_define 14 = .ok (.astore_n 2, 1) := by decide +kernel
theorem d_L_define_15 : decode b_L_define 15 = .ok (.iconst 2, 1) := by decide +kernel
theorem d_L_define_16 : decode b_L_define 16 = .ok (.ireturn, 1) := by decide +kernel
theorem d_L_define_17 : decode b_L_define 17 = .ok (.iconst 0, 1) := by decide +kernel
theorem d_L_define_18 : decode b_L_define 18 = .ok (.ireturn, 1) := by decide +kernel
theorem d_L_run_0 : decode b_L_run 0 = .ok (.aload_n 2, 1) := by decide +kernel
theorem d_L_run_1 : decode b_L_run 1 = .ok (.iconst 0, 1) := by decide +kernel
theorem d_L_run_2 : decode b_L_run 2 = .ok (.aload_n 0, 1) := by decide +kernel
theorem d_L_run_3 : decode b_L_run 3 = .ok (.iload_n 1, 1) := by decide +kernel
theorem d_L_run_4 : decode b_L_run 4 = .ok (.invokevirtual 17, 3) := by decide +kernel
theorem d_L_run_7 : decode b_L_run 7 = .ok (.i2l, 1) := by decide +kernel
theorem d_L_run_8 : decode b_L_run 8 = .ok (.lastore, 1) := by decide +kernel
theorem d_L_run_9 : decode b_L_run 9 = .ok (.goto 18, 3) := by decide +kernel
theorem d_L_run_12 : decode b_L_run 12 = .ok (.astore_n 3, 1) := by decide +kernel
theorem d_L_run_13 : decode b_L_run 13 = .ok (.iconst 1, 1) := by decide +kernel
theorem d_L_run_14 : decode b_L_run 14 = .ok (.ireturn, 1) := by decide +kernel
theorem d_L_run_15 : decode b_L_run 15 = .ok (.astore_n 3, 1) := by decide +kernel
theorem d_L_run_16 : decode b_L_run 16 = .ok (.iconst 2, 1) := by decide +kernel
theorem d_L_run_17 : decode b_L_run 17 = .ok (.ireturn, 1) := by decide +kernel
theorem d_L_run_18 : decode b_L_run 18 = .ok (.astore_n 3, 1) := by decide +kernel
theorem d_L_run_19 : decode b_L_run 19 = .ok (.iconst 3, 1) := by decide +kernel
theorem d_L_run_20 : decode b_L_run 20 = .ok (.ireturn, 1) := by decide +kernel
theorem d_L_run_21 : decode b_L_run 21 = .ok (.astore_n 3, 1) := by decide +kernel
theorem d_L_run_22 : decode b_L_run 22 = .ok (.iconst 4, 1) := by decide +kernel
theorem d_L_run_23 : decode b_L_run 23 = .ok (.ireturn, 1) := by decide +kernel
theorem d_L_run_24 : decode b_L_run 24 = .ok (.astore_n 3, 1) := by decide +kernel
theorem d_L_run_25 : decode b_L_run 25 = .ok (.iconst 5, 1) := by decide +kernel
theorem d_L_run_26 : decode b_L_run 26 = .ok (.ireturn, 1) := by decide +kernel
theorem d_L_run_27 : decode b_L_run 27 = .ok (.iconst 0, 1) := by decide +kernel
theorem d_L_run_28 : decode b_L_run 28 = .ok (.ireturn, 1) := by decide +kernel
theorem cl_L_13 : Cond.classLink "SoleArraysLaw" 13 "java/lang/IllegalArgumentException" ∈ zTb := zt2 27 (by decide +kernel) rfl
theorem cl_L_15 : Cond.classLink "SoleArraysLaw" 15 "java/lang/IllegalStateException" ∈ zTb := zt2 28 (by decide +kernel) rfl
theorem cl_L_21 : Cond.classLink "SoleArraysLaw" 21 "java/lang/IndexOutOfBoundsException" ∈ zTb := zt3 167 (by decide +kernel) rfl
theorem cl_L_23 : Cond.classLink "SoleArraysLaw" 23 "java/lang/ArithmeticException" ∈ zTb := zt3 168 (by decide +kernel) rfl
theorem cl_L_25 : Cond.classLink "SoleArraysLaw" 25 "java/lang/UnsupportedOperationException" ∈ zTb := zt3 169 (by decide +kernel) rfl
theorem cs_1 : Cond.castable "java/lang/IllegalArgumentException" "java/lang/IllegalArgumentException" ∈ zTb := zt2 72 (by decide +kernel) rfl
theorem cs_2 : Cond.castable "java/lang/IllegalStateException" "java/lang/IllegalStateException" ∈ zTb := zt3 90 (by decide +kernel) rfl
theorem cs_3 : Cond.castable "java/lang/IndexOutOfBoundsException" "java/lang/IndexOutOfBoundsException" ∈ zTb := zt1 192 (by decide +kernel) rfl
theorem cs_4 : Cond.castable "java/lang/ArithmeticException" "java/lang/ArithmeticException" ∈ zTb := zt3 223 (by decide +kernel) rfl
theorem cs_5 : Cond.castable "java/lang/UnsupportedOperationException" "java/lang/UnsupportedOperationException" ∈ zTb := zt3 199 (by decide +kernel) rfl
section LC
variable {G : zG} {l : Launch} {n : Nat} {σ : zS} {d mc ms : Nat} {post : zPost}
/-- what a call that may throw leaves for the law: the cell 'out', an answer, or an exception of one of the classes 9 .. -/
def lOk (post : zPost) (m : Nat) : Prop := ∀ o n' σ', post o n' σ' → 114 ≤ n' ∧ (∃ g, σ' 113 = .inl (1, 1, .inr (.inl g))) ∧ ((∃ v, o = .returned (some (.int v))) ∨ ∃ x c, o = .threw x ∧ x < n' ∧ c < m ∧ σ' x = .inr (9 + c, []))
/-- .. and what the law's helper makes of it: 0 and the answer in 'out', or the number of the exception -/
def lPost (post : zPost) : zPost := fun o n' σ' => (∃ v σ0 g, post (.returned (some (.int v))) n' σ0 ∧ σ0 113 = .inl (1, 1, .inr (.inl g)) ∧ o = .returned (some (.int 0)) ∧ σ' = va_up σ0 113 (.inl (1, 1, .inr (.inl (vp_updL g 0 v.toInt64))))) ∨ (∃ x c, post (.threw x) n' σ' ∧ σ' x = .inr (9 + c, []) ∧ o = .returned (some (.int (nI (c + 1)))))
theorem c_L_define (hM : MetZ G l y_S_define b_S_define 3 (some .int) [] d mc ms [.ref 0] n σ post) (hok : lOk post 2) (hn : 1 ≤ n) (hσ : ∃ fs, σ 0 = .inr (0, fs)) : MetZ G l y_L_define b_L_define 3 (some .int) [(0, 8, 11, 13), (0, 8, 14, 15)] (d + 1) mc ms [.ref 0, .ref 113] n σ (lPost post) := by
  refine MetZ.of (by decide) (Nat.le_of_ble_eq_true rfl) (fun K hK hR hpo hmc hms C => ?_)
  obtain ⟨fs, hσ⟩ := hσ
  refine z_aload_n C 1 d_L_define_0 rfl rfl ?_
  refine z_iconst C 2 d_L_define_1 rfl 0 (by decide) ?_
  refine z_aload_n C 3 d_L_define_2 rfl rfl ?_
  refine z_call C 6 (hK ▸ hM) w_S_define ini_S d_L_define_3 rfl (z_goV (As := []) C l_L_7 w_S_define d_L_define_3 (by omega) hσ rfl rfl) (Nat.le_of_ble_eq_true rfl) (by rw [hR]; simp only [zRm]; omega) (by rw [hR]; simp only [zRm]; omega) (by rw [hR]; simp only [zRm]; omega) (by rw [hR]; simp only [zRm]; omega) (fun v n' σ' hv => ?_) (fun x n' σ' hv => ?_)
  · obtain ⟨h1, ⟨g, h2⟩, h3⟩ := hok _ _ _ hv
    rcases h3 with ⟨v0, h3⟩ | ⟨x, c, h3, -⟩
    · cases h3
      refine z_i2l C 7 d_L_define_6 rfl ?_
      refine z_last C 8 0 d_L_define_7 rfl (by omega) h2 rfl (by decide) (by decide) ?_
      refine z_goto C 17 d_L_define_8 (by decide) ?_
      refine z_iconst C 18 d_L_define_17 rfl 0 (by decide) ?_
      exact z_iret C rfl d_L_define_18 (by rw [hpo]; exact Or.inl ⟨v0, σ', g, hv, h2, rfl, rfl⟩) (by rw [hmc]; omega) (by rw [hms]; omega)
    · cases h3
  · obtain ⟨h1, ⟨g, h2⟩, h3⟩ := hok _ _ _ hv
    rcases h3 with ⟨v0, h3⟩ | ⟨x', c, h3, hx, hc, hcell⟩
    · cases h3
    · cases h3
      rcases (show c = 0 ∨ c = 1 by omega) with rfl | rfl
      · refine zx_catch C [] (0, 8, 11, 13) [(0, 8, 14, 15)] rfl hx hcell rfl (fun z hz => nomatch hz) rfl (by decide) cl_L_13 cs_1 ?_
        refine z_astore_n C 12 d_L_define_11 rfl (by decide) ?_
        refine z_iconst C 13 d_L_define_12 rfl 1 (by decide) ?_
        exact z_iret C rfl d_L_define_13 (by rw [hpo]; exact Or.inr ⟨x, 0, hv, hcell, rfl⟩) (by rw [hmc]; omega) (by rw [hms]; omega)
      · refine zx_catch C [(0, 8, 11, 13)] (0, 8, 14, 15) [] rfl hx hcell rfl (fun z hz => Or.inr ?_) rfl (by decide) cl_L_15 cs_2 ?_
        · rw [List.mem_singleton.mp hz]
          exact ⟨by decide, _, cl_L_13, by decide⟩
        refine z_astore_n C 15 d_L_define_14 rfl (by decide) ?_
        refine z_iconst C 16 d_L_define_15 rfl 2 (by decide) ?_
        exact z_iret C rfl d_L_define_16 (by rw [hpo]; exact Or.inr ⟨x, 1, hv, hcell, rfl⟩) (by rw [hmc]; omega) (by rw [hms]; omega)
theorem c_L_run {a : Int32} (hM : MetZ G l y_S_run b_S_run 3 (some .int) [] d mc ms [.ref 0, .int a] n σ post) (hok : lOk post 5) (hn : 1 ≤ n) (hσ : ∃ fs, σ 0 = .inr (0, fs)) : MetZ G l y_L_run b_L_run 4 (some .int) [(0, 9, 12, 13), (0, 9, 15, 15), (0, 9, 18, 21), (0, 9, 21, 23), (0, 9, 24, 25)] (d + 1) mc ms [.ref 0, .int a, .ref 113] n σ (lPost post) := by
  refine MetZ.of (by decide) (Nat.le_of_ble_eq_true rfl) (fun K hK hR hpo hmc hms C => ?_)
  obtain ⟨fs, hσ⟩ := hσ
  refine z_aload_n C 1 d_L_run_0 rfl rfl ?_
  refine z_iconst C 2 d_L_run_1 rfl 0 (by decide) ?_
  refine z_aload_n C 3 d_L_run_2 rfl rfl ?_
  refine z_iload_n C 4 d_L_run_3 rfl rfl ?_
  refine z_call C 7 (hK ▸ hM) w_S_run ini_S d_L_run_4 rfl (z_goV (As := [.int a]) C l_L_17 w_S_run d_L_run_4 (by omega) hσ rfl rfl) (Nat.le_of_ble_eq_true rfl) (by rw [hR]; simp only [zRm]; omega) (by rw [hR]; simp only [zRm]; omega) (by rw [hR]; simp only [zRm]; omega) (by rw [hR]; simp only [zRm]; omega) (fun v n' σ' hv => ?_) (fun x n' σ' hv => ?_)
  · obtain ⟨h1, ⟨g, h2⟩, h3⟩ := hok _ _ _ hv
    rcases h3 with ⟨v0, h3⟩ | ⟨x, c, h3, -⟩
    · cases h3
      refine z_i2l C 8 d_L_run_7 rfl ?_
      refine z_last C 9 0 d_L_run_8 rfl (by omega) h2 rfl (by decide) (by decide) ?_
      refine z_goto C 27 d_L_run_9 (by decide) ?_
      refine z_iconst C 28 d_L_run_27 rfl 0 (by decide) ?_
      exact z_iret C rfl d_L_run_28 (by rw [hpo]; exact Or.inl ⟨v0, σ', g, hv, h2, rfl, rfl⟩) (by rw [hmc]; omega) (by rw [hms]; omega)
    · cases h3
  · obtain ⟨h1, ⟨g, h2⟩, h3⟩ := hok _ _ _ hv
    rcases h3 with ⟨v0, h3⟩ | ⟨x', c, h3, hx, hc, hcell⟩
    · cases h3
    · cases h3
      have p1 : (((0, 9, 12, 13) : Nat × Nat × Nat × Nat).2.2.2 ≠ 0) := by decide
      rcases (show c = 0 ∨ c = 1 ∨ c = 2 ∨ c = 3 ∨ c = 4 by omega) with rfl | rfl | rfl | rfl | rfl
      · refine zx_catch C [] (0, 9, 12, 13) [(0, 9, 15, 15), (0, 9, 18, 21), (0, 9, 21, 23), (0, 9, 24, 25)] rfl hx hcell rfl (fun z hz => nomatch hz) rfl (by decide) cl_L_13 cs_1 ?_
        refine z_astore_n C 13 d_L_run_12 rfl (by decide) ?_
        refine z_iconst C 14 d_L_run_13 rfl 1 (by decide) ?_
        exact z_iret C rfl d_L_run_14 (by rw [hpo]; exact Or.inr ⟨x, 0, hv, hcell, rfl⟩) (by rw [hmc]; omega) (by rw [hms]; omega)
      · refine zx_catch C [(0, 9, 12, 13)] (0, 9, 15, 15) [(0, 9, 18, 21), (0, 9, 21, 23), (0, 9, 24, 25)] rfl hx hcell rfl (fun z hz => Or.inr ?_) rfl (by decide) cl_L_15 cs_2 ?_
        · rw [List.mem_singleton.mp hz]
          exact ⟨by decide, _, cl_L_13, by decide⟩
        refine z_astore_n C 16 d_L_run_15 rfl (by decide) ?_
        refine z_iconst C 17 d_L_run_16 rfl 2 (by decide) ?_
        exact z_iret C rfl d_L_run_17 (by rw [hpo]; exact Or.inr ⟨x, 1, hv, hcell, rfl⟩) (by rw [hmc]; omega) (by rw [hms]; omega)
      · refine zx_catch C [(0, 9, 12, 13), (0, 9, 15, 15)] (0, 9, 18, 21) [(0, 9, 21, 23), (0, 9, 24, 25)] rfl hx hcell rfl (fun z hz => Or.inr ?_) rfl (by decide) cl_L_21 cs_3 ?_
        · rcases List.mem_cons.mp hz with rfl | hz
          · exact ⟨by decide, _, cl_L_13, by decide⟩
          rw [List.mem_singleton.mp hz]
          exact ⟨by decide, _, cl_L_15, by decide⟩
        refine z_astore_n C 19 d_L_run_18 rfl (by decide) ?_
        refine z_iconst C 20 d_L_run_19 rfl 3 (by decide) ?_
        exact z_iret C rfl d_L_run_20 (by rw [hpo]; exact Or.inr ⟨x, 2, hv, hcell, rfl⟩) (by rw [hmc]; omega) (by rw [hms]; omega)
      · refine zx_catch C [(0, 9, 12, 13), (0, 9, 15, 15), (0, 9, 18, 21)] (0, 9, 21, 23) [(0, 9, 24, 25)] rfl hx hcell rfl (fun z hz => Or.inr ?_) rfl (by decide) cl_L_23 cs_4 ?_
        · rcases List.mem_cons.mp hz with rfl | hz
          · exact ⟨by decide, _, cl_L_13, by decide⟩
          rcases List.mem_cons.mp hz with rfl | hz
          · exact ⟨by decide, _, cl_L_15, by decide⟩
          rw [List.mem_singleton.mp hz]
          exact ⟨by decide, _, cl_L_21, by decide⟩
        refine z_astore_n C 22 d_L_run_21 rfl (by decide) ?_
        refine z_iconst C 23 d_L_run_22 rfl 4 (by decide) ?_
        exact z_iret C rfl d_L_run_23 (by rw [hpo]; exact Or.inr ⟨x, 3, hv, hcell, rfl⟩) (by rw [hmc]; omega) (by rw [hms]; omega)
      · refine zx_catch C [(0, 9, 12, 13), (0, 9, 15, 15), (0, 9, 18, 21), (0, 9, 21, 23)] (0, 9, 24, 25) [] rfl hx hcell rfl (fun z hz => Or.inr ?_) rfl (by decide) cl_L_25 cs_5 ?_
        · rcases List.mem_cons.mp hz with rfl | hz
          · exact ⟨by decide, _, cl_L_13, by decide⟩
          rcases List.mem_cons.mp hz with rfl | hz
          · exact ⟨by decide, _, cl_L_15, by decide⟩
          rcases List.mem_cons.mp hz with rfl | hz
          · exact ⟨by decide, _, cl_L_21, by decide⟩
          rw [List.mem_singleton.mp hz]
          exact ⟨by decide, _, cl_L_23, by decide⟩
        refine z_astore_n C 25 d_L_run_24 rfl (by decide) ?_
        refine z_iconst C 26 d_L_run_25 rfl 5 (by decide) ?_
        exact z_iret C rfl d_L_run_26 (by rw [hpo]; exact Or.inr ⟨x, 4, hv, hcell, rfl⟩) (by rw [hmc]; omega) (by rw [hms]; omega)
end LC
end
section
/-! what ties the class's state to the reference's; FR: what ties their functions -/
abbrev rFR : Type := Nat → zS → xF → mA → Prop
def rTx (xs : mS) (xa : mA) (S : mS) (A : mA) (u z : Nat) : Prop := xs 0 = nI u ∧ xs 1 = nI z ∧ S 1 = nI u ∧ S 2 = nI z ∧ z ≤ u ∧ u ≤ 150 ∧ (∀ i, i < z → xa 1 i = A 86 i ∧ ¬ A 86 i < 33 ∧ ¬ 126 < A 86 i) ∧ (∀ i, i < 150 → narrow .char (.int (A 86 i)) = .int (A 86 i)) ∧ ∀ i, i < 150 → narrow .char (.int (xa 1 i)) = .int (xa 1 i)
def rRs (xs : mS) (xr : Int64) (xa : mA) (xl : mL) (S : mS) (L : mL) (rn : Int64) : Prop := xs 3 = S 46 ∧ (S 46 = -1 ∨ (S 46 = 0 ∧ xr = rn) ∨ ((S 46 = 1 ∨ S 46 = 2) ∧ ∃ a r c, xRes xs xr xa a r c ∧ S 48 = nI r ∧ S 49 = nI c ∧ (S 46 = 1 → c = 1) ∧ ∀ k, k < r * c → xl (10 + a) k = L 112 k))
def rCn (xs S : mS) : Prop := xs 5 = S 39 ∧ xs 8 = S 40 ∧ xs 9 = S 42 ∧ xs 6 = S 43
def rAr (xl L : mL) : Prop := ∀ k, k < 4 → xl 4 k = L 111 k
def rFn (FR : rFR) (n : Nat) (σ : zS) (xs : mS) (xf : xF) (A : mA) : Prop := xs 2 = nI (mcnt (A 92) 8) ∧ (∀ f, f < 8 → (xf f = none ↔ A 92 f = 0)) ∧ FR n σ xf A
def Rel (FR : rFR) (n : Nat) (σ : zS) (xs : mS) (xr : Int64) (xa : mA) (xl : mL) (xf : xF) (S : mS) (A : mA) (L : mL) (rn : Int64) : Prop :=
  (∃ u z, rTx xs xa S A u z) ∧ xs 4 = S 6 ∧ rFn FR n σ xs xf A ∧ rAr xl L ∧ rRs xs xr xa xl S L rn ∧ rCn xs S
/-- FR looks only at what is kept of the functions: not at the text, at 'out', at the function under way, nor at what has come since -/
def mKept (a k : Nat) : Prop := (92 ≤ a ∧ a ≤ 94 ∧ k < 8) ∨ (95 ≤ a ∧ a ≤ 97 ∧ k < 32) ∨ (87 ≤ a ∧ a ≤ 91 ∧ k < 1200)
def rFRok (FR : rFR) : Prop := (∀ n σ xf A A', (∀ a k, mKept a k → A' a k = A a k) → FR n σ xf A → FR n σ xf A') ∧ (∀ n σ A, FR n σ (fun _ => none) A) ∧ (∀ n σ xf A, (∀ f, f < 8 → xf f = none) → FR n σ xf A) ∧ ∀ n σ n' σ' xf A, n ≤ n' → (∀ i, 114 ≤ i → i < n → σ' i = σ i) → FR n σ xf A → FR n' σ' xf A
section RL
variable {FR : rFR} {n : Nat} {σ : zS} {xs : mS} {xr : Int64} {xa : mA} {xl : mL} {xf : xF} {S : mS} {A : mA} {L : mL} {rn : Int64}
theorem Rel.code (x : Int32) (h : Rel FR n σ xs xr xa xl xf S A L rn) : Rel FR n σ xs xr xa xl xf (upd S 0 x) A L rn := h
theorem Rel.space {u z : Nat} (h : Rel FR n σ xs xr xa xl xf S A L rn) (ht : rTx xs xa S A u z) (hu : u < 150) : Rel FR n σ (upd xs 0 (nI (u + 1))) xr xa xl xf (upd S 1 (nI (u + 1))) A L rn := by
  obtain ⟨-, h2, h3, h4, h5, h6⟩ := h
  obtain ⟨t1, t2, t3, t4, t5, t6, t7⟩ := ht
  exact ⟨⟨u + 1, z, rfl, t2, rfl, t4, by omega, by omega, t7⟩, h2, h3, h4, h5, h6⟩
theorem Rel.char {u z : Nat} {c : Int32} (hF : rFRok FR) (h : Rel FR n σ xs xr xa xl xf S A L rn) (ht : rTx xs xa S A u z) (hu : u < 150) (h0 : ¬ c < 32) (h1 : ¬ 126 < c) (h2 : c ≠ 32) :
    Rel FR n σ (upd (upd xs 0 (nI (u + 1))) 1 (nI (z + 1))) xr (va_up xa 1 (upd (xa 1) z c)) xl xf (upd (upd S 1 (nI (u + 1))) 2 (nI (z + 1))) (va_up A 86 (upd (A 86) z c)) L rn := by
  obtain ⟨-, h2', h3, h4, h5, h6⟩ := h
  obtain ⟨t1, t2, t3, t4, t5, t6, t7, t8, t9⟩ := ht
  have hc33 : ¬ c < 33 := fun q => by
    have q1 := Int32.lt_iff_toInt_lt.mp q
    have q2 : ¬ c.toInt < 32 := fun w => h0 (Int32.lt_iff_toInt_lt.mpr w)
    have q3 : c.toInt ≠ 32 := fun w => h2 (Int32.toInt_inj.mp w)
    have q4 : (33 : Int32).toInt = 33 := rfl
    omega
  refine ⟨⟨u + 1, z + 1, rfl, rfl, rfl, rfl, by omega, by omega, fun i hi => ?_, fun i hi => ?_, fun i hi => ?_⟩, h2', ⟨h3.1, h3.2.1, hF.1 _ _ _ _ _ (fun a k hk => by unfold mKept at hk; rw [va_up_ne _ _ (by omega)]) h3.2.2⟩, h4, h5, h6⟩
  · rw [va_up_self, va_up_self]
    by_cases e : i = z
    · subst e
      rw [show upd (xa 1) i c i = c from if_pos rfl, show upd (A 86) i c i = c from if_pos rfl]
      exact ⟨rfl, hc33, h1⟩
    · simp only [upd, if_neg e]
      exact t7 i (by omega)
  · rw [va_up_self]
    by_cases e : i = z
    · subst e
      simp only [upd, if_true]
      exact (z_char h0 h1).1
    · simp only [upd, if_neg e]
      exact t8 i hi
  · rw [va_up_self]
    by_cases e : i = z
    · subst e
      simp only [upd, if_true]
      exact (z_char h0 h1).1
    · simp only [upd, if_neg e]
      exact t9 i hi
theorem mcnt_0 {f : Nat → Int32} : ∀ k, (∀ j, j < k → f j = 0) → mcnt f k = 0
  | 0, _ => rfl
  | k + 1, h => by
    unfold mcnt
    rw [mcnt_0 k (fun j hj => h j (by omega)), if_pos (h k (by omega))]
theorem Rel.clear (hF : rFRok FR) (h : Rel FR n σ xs xr xa xl xf S A L rn) : Rel FR n σ (upd xs 2 0) xr xa xl (xclr xf 8) S (va_up A 92 (mclr (A 92) 8)) L rn := by
  obtain ⟨⟨u, z, t⟩, h2, h3, h4, h5, h6⟩ := h
  refine ⟨⟨u, z, t⟩, h2, ⟨?_, fun f hf => ?_, hF.2.2.1 _ _ _ _ (fun f hf => by simp [xclr, hf])⟩, h4, h5, h6⟩
  · rw [va_up_self, mcnt_0 8 (fun j hj => by simp [mclr, hj])]
    rfl
  · rw [va_up_self]
    simp [xclr, mclr, hf]
theorem Rel.arg {k : Nat} {v : Int64} (h : Rel FR n σ xs xr xa xl xf S A L rn) (hk : k < 4) : Rel FR n σ xs xr xa (va_up xl 4 (vp_updL (xl 4) k v)) xf S A (va_up L 111 (vp_updL (L 111) k v)) rn := by
  obtain ⟨h1, h2, h3, h4, h5, h6⟩ := h
  refine ⟨h1, h2, h3, fun j hj => ?_, ?_, h6⟩
  · rw [va_up_self, va_up_self]
    unfold vp_updL
    by_cases e : j = k
    · rw [if_pos e, if_pos e]
    · rw [if_neg e, if_neg e]
      exact h4 j hj
  · obtain ⟨g1, g2⟩ := h5
    refine ⟨g1, ?_⟩
    rcases g2 with g2 | g2 | ⟨g2, a, r, c, g3, g4, g5, g6, g7⟩
    · exact Or.inl g2
    · exact Or.inr (Or.inl g2)
    · refine Or.inr (Or.inr ⟨g2, a, r, c, g3, g4, g5, g6, fun j hj => ?_⟩)
      rw [va_up_ne _ _ (by omega), va_up_ne _ _ (by decide)]
      exact g7 j hj
end RL
end
section
theorem d_L_law_0 : decode b_L_law 0 = .ok (.new 8, 3) := by decide +kernel
theorem d_L_law_3 : decode b_L_law 3 = .ok (.dup, 1) := by decide +kernel
theorem d_L_law_4 : decode b_L_law 4 = .ok (.invokespecial 27, 3) := by decide +kernel
theorem d_L_law_7 : decode b_L_law 7 = .ok (.astore_n 1, 1) := by decide +kernel
theorem d_L_law_8 : decode b_L_law 8 = .ok (.new 28, 3) := by decide +kernel
theorem d_L_law_11 : decode b_L_law 11 = .ok (.dup, 1) := by decide +kernel
theorem d_L_law_12 : decode b_L_law 12 = .ok (.invokespecial 30, 3) := by decide +kernel
theorem d_L_law_15 : decode b_L_law 15 = .ok (.astore_n 2, 1) := by decide +kernel
theorem d_L_law_16 : decode b_L_law 16 = .ok (.iconst 1, 1) := by decide +kernel
theorem d_L_law_17 : decode b_L_law 17 = .ok (.newarray .long, 2) := by decide +kernel
theorem d_L_law_19 : decode b_L_law 19 = .ok (.astore_n 3, 1) := by decide +kernel
theorem d_L_law_20 : decode b_L_law 20 = .ok (.iconst 0, 1) := by decide +kernel
theorem d_L_law_21 : decode b_L_law 21 = .ok (.istore 4, 2) := by decide +kernel
theorem d_L_law_23 : decode b_L_law 23 = .ok (.iload 4, 2) := by decide +kernel
theorem d_L_law_25 : decode b_L_law 25 = .ok (.aload_n 0, 1) := by decide +kernel
theorem d_L_law_26 : decode b_L_law 26 = .ok (.arraylength, 1) := by decide +kernel
theorem d_L_law_27 : decode b_L_law 27 = .ok (.iconst 4, 1) := by decide +kernel
theorem d_L_law_28 : decode b_L_law 28 = .ok (.isub, 1) := by decide +kernel
theorem d_L_law_29 : decode b_L_law 29 = .ok (.if_icmp .gt 412, 3) := by decide +kernel
theorem d_L_law_32 : decode b_L_law 32 = .ok (.aload_n 0, 1) := by decide +kernel
theorem d_L_law_33 : decode b_L_law 33 = .ok (.iload 4, 2) := by decide +kernel
theorem d_L_law_35 : decode b_L_law 35 = .ok (.iaload, 1) := by decide +kernel
theorem d_L_law_36 : decode b_L_law 36 = .ok (.bipush 15, 2) := by decide +kernel
theorem d_L_law_38 : decode b_L_law 38 = .ok (.iand, 1) := by decide +kernel
theorem d_L_law_39 : decode b_L_law 39 = .ok (.tableswitch 396 0 10 #[57, 84, 128, 141, 154, 223, 281, 294, 308, 333, 371], 57) := by decide +kernel
theorem d_L_law_96 : decode b_L_law 96 = .ok (.aload_n 1, 1) := by decide +kernel
theorem d_L_law_97 : decode b_L_law 97 = .ok (.aload_n 0, 1) := by decide +kernel
theorem d_L_law_98 : decode b_L_law 98 = .ok (.iload 4, 2) := by decide +kernel
theorem d_L_law_100 : decode b_L_law 100 = .ok (.iconst 1, 1) := by decide +kernel
theorem d_L_law_101 : decode b_L_law 101 = .ok (.iadd, 1) := by decide +kernel
theorem d_L_law_102 : decode b_L_law 102 = .ok (.iaload, 1) := by decide +kernel
theorem d_L_law_103 : decode b_L_law 103 = .ok (.i2c, 1) := by decide +kernel
theorem d_L_law_104 : decode b_L_law 104 = .ok (.invokevirtual 31, 3) := by decide +kernel
theorem d_L_law_107 : decode b_L_law 107 = .ok (.aload_n 2, 1) := by decide +kernel
theorem d_L_law_108 : decode b_L_law 108 = .ok (.aload_n 0, 1) := by decide +kernel
theorem d_L_law_109 : decode b_L_law 109 = .ok (.iload 4, 2) := by decide +kernel
theorem d_L_law_111 : decode b_L_law 111 = .ok (.iconst 1, 1) := by decide +kernel
theorem d_L_law_112 : decode b_L_law 112 = .ok (.iadd, 1) := by decide +kernel
theorem d_L_law_113 : decode b_L_law 113 = .ok (.iaload, 1) := by decide +kernel
theorem d_L_law_114 : decode b_L_law 114 = .ok (.i2c, 1) := by decide +kernel
theorem d_L_law_115 : decode b_L_law 115 = .ok (.invokevirtual 35, 3) := by decide +kernel
theorem d_L_law_118 : decode b_L_law 118 = .ok (.if_icmp .eq 317, 3) := by decide +kernel
theorem d_L_law_121 : decode b_L_law 121 = .ok (.iconst 0, 1) := by decide +kernel
theorem d_L_law_122 : decode b_L_law 122 = .ok (.ireturn, 1) := by decide +kernel
theorem d_L_law_123 : decode b_L_law 123 = .ok (.aload_n 1, 1) := by decide +kernel
theorem d_L_law_124 : decode b_L_law 124 = .ok (.aload_n 3, 1) := by decide +kernel
theorem d_L_law_125 : decode b_L_law 125 = .ok (.invokestatic 36, 3) := by decide +kernel
theorem d_L_law_128 : decode b_L_law 128 = .ok (.istore 5, 2) := by decide +kernel
theorem d_L_law_130 : decode b_L_law 130 = .ok (.aload_n 2, 1) := by decide +kernel
theorem d_L_law_131 : decode b_L_law 131 = .ok (.invokevirtual 41, 3) := by decide +kernel
theorem d_L_law_134 : decode b_L_law 134 = .ok (.istore 6, 2) := by decide +kernel
theorem d_L_law_136 : decode b_L_law 136 = .ok (.aload_n 2, 1) := by decide +kernel
theorem d_L_law_137 : decode b_L_law 137 = .ok (.invokevirtual 42, 3) := by decide +kernel
theorem d_L_law_140 : decode b_L_law 140 = .ok (.iload 5, 2) := by decide +kernel
theorem d_L_law_142 : decode b_L_law 142 = .ok (.if_icmp .eq 5, 3) := by decide +kernel
theorem d_L_law_145 : decode b_L_law 145 = .ok (.iconst 0, 1) := by decide +kernel
theorem d_L_law_146 : decode b_L_law 146 = .ok (.ireturn, 1) := by decide +kernel
theorem d_L_law_147 : decode b_L_law 147 = .ok (.iload 5, 2) := by decide +kernel
theorem d_L_law_149 : decode b_L_law 149 = .ok (.ifCond .ne 15, 3) := by decide +kernel
theorem d_L_law_152 : decode b_L_law 152 = .ok (.aload_n 3, 1) := by decide +kernel
theorem d_L_law_153 : decode b_L_law 153 = .ok (.iconst 0, 1) := by decide +kernel
theorem d_L_law_154 : decode b_L_law 154 = .ok (.laload, 1) := by decide +kernel
theorem d_L_law_155 : decode b_L_law 155 = .ok (.iload 6, 2) := by decide +kernel
theorem d_L_law_157 : decode b_L_law 157 = .ok (.i2l, 1) := by decide +kernel
theorem d_L_law_158 : decode b_L_law 158 = .ok (.lcmp, 1) := by decide +kernel
theorem d_L_law_159 : decode b_L_law 159 = .ok (.ifCond .eq 5, 3) := by decide +kernel
theorem d_L_law_162 : decode b_L_law 162 = .ok (.iconst 0, 1) := by decide +kernel
theorem d_L_law_163 : decode b_L_law 163 = .ok (.ireturn, 1) := by decide +kernel
theorem d_L_law_164 : decode b_L_law 164 = .ok (.goto 271, 3) := by decide +kernel
theorem d_L_law_167 : decode b_L_law 167 = .ok (.aload_n 1, 1) := by decide +kernel
theorem d_L_law_168 : decode b_L_law 168 = .ok (.invokevirtual 45, 3) := by decide +kernel
theorem d_L_law_171 : decode b_L_law 171 = .ok (.aload_n 2, 1) := by decide +kernel
theorem d_L_law_172 : decode b_L_law 172 = .ok (.invokevirtual 48, 3) := by decide +kernel
theorem d_L_law_175 : decode b_L_law 175 = .ok (.if_icmp .eq 260, 3) := by decide +kernel
theorem d_L_law_178 : decode b_L_law 178 = .ok (.iconst 0, 1) := by decide +kernel
theorem d_L_law_179 : decode b_L_law 179 = .ok (.ireturn, 1) := by decide +kernel
theorem d_L_law_180 : decode b_L_law 180 = .ok (.aload_n 1, 1) := by decide +kernel
theorem d_L_law_181 : decode b_L_law 181 = .ok (.invokevirtual 49, 3) := by decide +kernel
theorem d_L_law_184 : decode b_L_law 184 = .ok (.aload_n 2, 1) := by decide +kernel
theorem d_L_law_185 : decode b_L_law 185 = .ok (.invokevirtual 52, 3) := by decide +kernel
theorem d_L_law_188 : decode b_L_law 188 = .ok (.if_icmp .eq 247, 3) := by decide +kernel
theorem d_L_law_191 : decode b_L_law 191 = .ok (.iconst 0, 1) := by decide +kernel
theorem d_L_law_192 : decode b_L_law 192 = .ok (.ireturn, 1) := by decide +kernel
theorem d_L_law_193 : decode b_L_law 193 = .ok (.aload_n 1, 1) := by decide +kernel
theorem d_L_law_194 : decode b_L_law 194 = .ok (.aload_n 0, 1) := by decide +kernel
theorem d_L_law_195 : decode b_L_law 195 = .ok (.iload 4, 2) := by decide +kernel
theorem d_L_law_197 : decode b_L_law 197 = .ok (.iconst 1, 1) := by decide +kernel
theorem d_L_law_198 : decode b_L_law 198 = .ok (.iadd, 1) := by decide +kernel
theorem d_L_law_199 : decode b_L_law 199 = .ok (.iaload, 1) := by decide +kernel
theorem d_L_law_200 : decode b_L_law 200 = .ok (.aload_n 0, 1) := by decide +kernel
theorem d_L_law_201 : decode b_L_law 201 = .ok (.iload 4, 2) := by decide +kernel
theorem d_L_law_203 : decode b_L_law 203 = .ok (.iconst 2, 1) := by decide +kernel
theorem d_L_law_204 : decode b_L_law 204 = .ok (.iadd, 1) := by decide +kernel
theorem d_L_law_205 : decode b_L_law 205 = .ok (.iaload, 1) := by decide +kernel
theorem d_L_law_206 : decode b_L_law 206 = .ok (.i2l, 1) := by decide +kernel
theorem d_L_law_207 : decode b_L_law 207 = .ok (.bipush 32, 2) := by decide +kernel
theorem d_L_law_209 : decode b_L_law 209 = .ok (.lshl, 1) := by decide +kernel
theorem d_L_law_210 : decode b_L_law 210 = .ok (.aload_n 0, 1) := by decide +kernel
theorem d_L_law_211 : decode b_L_law 211 = .ok (.iload 4, 2) := by decide +kernel
theorem d_L_law_213 : decode b_L_law 213 = .ok (.iconst 3, 1) := by decide +kernel
theorem d_L_law_214 : decode b_L_law 214 = .ok (.iadd, 1) := by decide +kernel
theorem d_L_law_215 : decode b_L_law 215 = .ok (.iaload, 1) := by decide +kernel
theorem d_L_law_216 : decode b_L_law 216 = .ok (.i2l, 1) := by decide +kernel
theorem d_L_law_217 : decode b_L_law 217 = .ok (.ldc2_w 53, 3) := by decide +kernel
theorem d_L_law_220 : decode b_L_law 220 = .ok (.land, 1) := by decide +kernel
theorem d_L_law_221 : decode b_L_law 221 = .ok (.lor, 1) := by decide +kernel
theorem d_L_law_222 : decode b_L_law 222 = .ok (.invokevirtual 55, 3) := by decide +kernel
theorem d_L_law_225 : decode b_L_law 225 = .ok (.aload_n 2, 1) := by decide +kernel
theorem d_L_law_226 : decode b_L_law 226 = .ok (.aload_n 0, 1) := by decide +kernel
theorem d_L_law_227 : decode b_L_law 227 = .ok (.iload 4, 2) := by decide +kernel
theorem d_L_law_229 : decode b_L_law 229 = .ok (.iconst 1, 1) := by decide +kernel
theorem d_L_law_230 : decode b_L_law 230 = .ok (.iadd, 1) := by decide +kernel
theorem d_L_law_231 : decode b_L_law 231 = .ok (.iaload, 1) := by decide +kernel
theorem d_L_law_232 : decode b_L_law 232 = .ok (.aload_n 0, 1) := by decide +kernel
theorem d_L_law_233 : decode b_L_law 233 = .ok (.iload 4, 2) := by decide +kernel
theorem d_L_law_235 : decode b_L_law 235 = .ok (.iconst 2, 1) := by decide +kernel
theorem d_L_law_236 : decode b_L_law 236 = .ok (.iadd, 1) := by decide +kernel
theorem d_L_law_237 : decode b_L_law 237 = .ok (.iaload, 1) := by decide +kernel
theorem d_L_law_238 : decode b_L_law 238 = .ok (.i2l, 1) := by decide +kernel
theorem d_L_law_239 : decode b_L_law 239 = .ok (.bipush 32, 2) := by decide +kernel
theorem d_L_law_241 : decode b_L_law 241 = .ok (.lshl, 1) := by decide +kernel
theorem d_L_law_242 : decode b_L_law 242 = .ok (.aload_n 0, 1) := by decide +kernel
theorem d_L_law_243 : decode b_L_law 243 = .ok (.iload 4, 2) := by decide +kernel
theorem d_L_law_245 : decode b_L_law 245 = .ok (.iconst 3, 1) := by decide +kernel
theorem d_L_law_246 : decode b_L_law 246 = .ok (.iadd, 1) := by decide +kernel
theorem d_L_law_247 : decode b_L_law 247 = .ok (.iaload, 1) := by decide +kernel
theorem d_L_law_248 : decode b_L_law 248 = .ok (.i2l, 1) := by decide +kernel
theorem d_L_law_249 : decode b_L_law 249 = .ok (.ldc2_w 53, 3) := by decide +kernel
theorem d_L_law_252 : decode b_L_law 252 = .ok (.land, 1) := by decide +kernel
theorem d_L_law_253 : decode b_L_law 253 = .ok (.lor, 1) := by decide +kernel
theorem d_L_law_254 : decode b_L_law 254 = .ok (.invokevirtual 59, 3) := by decide +kernel
theorem d_L_law_257 : decode b_L_law 257 = .ok (.if_icmp .eq 178, 3) := by decide +kernel
theorem d_L_law_260 : decode b_L_law 260 = .ok (.iconst 0, 1) := by decide +kernel
theorem d_L_law_261 : decode b_L_law 261 = .ok (.ireturn, 1) := by decide +kernel
theorem d_L_law_262 : decode b_L_law 262 = .ok (.aload_n 1, 1) := by decide +kernel
theorem d_L_law_263 : decode b_L_law 263 = .ok (.aload_n 0, 1) := by decide +kernel
theorem d_L_law_264 : decode b_L_law 264 = .ok (.iload 4, 2) := by decide +kernel
theorem d_L_law_266 : decode b_L_law 266 = .ok (.iconst 1, 1) := by decide +kernel
theorem d_L_law_267 : decode b_L_law 267 = .ok (.iadd, 1) := by decide +kernel
theorem d_L_law_268 : decode b_L_law 268 = .ok (.iaload, 1) := by decide +kernel
theorem d_L_law_269 : decode b_L_law 269 = .ok (.i2c, 1) := by decide +kernel
theorem d_L_law_270 : decode b_L_law 270 = .ok (.aload_n 3, 1) := by decide +kernel
theorem d_L_law_271 : decode b_L_law 271 = .ok (.invokestatic 60, 3) := by decide +kernel
theorem d_L_law_274 : decode b_L_law 274 = .ok (.istore 5, 2) := by decide +kernel
theorem d_L_law_276 : decode b_L_law 276 = .ok (.aload_n 2, 1) := by decide +kernel
theorem d_L_law_277 : decode b_L_law 277 = .ok (.aload_n 0, 1) := by decide +kernel
theorem d_L_law_278 : decode b_L_law 278 = .ok (.iload 4, 2) := by decide +kernel
theorem d_L_law_280 : decode b_L_law 280 = .ok (.iconst 1, 1) := by decide +kernel
theorem d_L_law_281 : decode b_L_law 281 = .ok (.iadd, 1) := by decide +kernel
theorem d_L_law_282 : decode b_L_law 282 = .ok (.iaload, 1) := by decide +kernel
theorem d_L_law_283 : decode b_L_law 283 = .ok (.i2c, 1) := by decide +kernel
theorem d_L_law_284 : decode b_L_law 284 = .ok (.invokevirtual 63, 3) := by decide +kernel
theorem d_L_law_287 : decode b_L_law 287 = .ok (.istore 6, 2) := by decide +kernel
theorem d_L_law_289 : decode b_L_law 289 = .ok (.aload_n 2, 1) := by decide +kernel
theorem d_L_law_290 : decode b_L_law 290 = .ok (.invokevirtual 42, 3) := by decide +kernel
theorem d_L_law_293 : decode b_L_law 293 = .ok (.iload 5, 2) := by decide +kernel
theorem d_L_law_295 : decode b_L_law 295 = .ok (.if_icmp .eq 5, 3) := by decide +kernel
theorem d_L_law_298 : decode b_L_law 298 = .ok (.iconst 0, 1) := by decide +kernel
theorem d_L_law_299 : decode b_L_law 299 = .ok (.ireturn, 1) := by decide +kernel
theorem d_L_law_300 : decode b_L_law 300 = .ok (.iload 5, 2) := by decide +kernel
theorem d_L_law_302 : decode b_L_law 302 = .ok (.ifCond .ne 15, 3) := by decide +kernel
theorem d_L_law_305 : decode b_L_law 305 = .ok (.aload_n 3, 1) := by decide +kernel
theorem d_L_law_306 : decode b_L_law 306 = .ok (.iconst 0, 1) := by decide +kernel
theorem d_L_law_307 : decode b_L_law 307 = .ok (.laload, 1) := by decide +kernel
theorem d_L_law_308 : decode b_L_law 308 = .ok (.iload 6, 2) := by decide +kernel
theorem d_L_law_310 : decode b_L_law 310 = .ok (.i2l, 1) := by decide +kernel
theorem d_L_law_311 : decode b_L_law 311 = .ok (.lcmp, 1) := by decide +kernel
theorem d_L_law_312 : decode b_L_law 312 = .ok (.ifCond .eq 5, 3) := by decide +kernel
theorem d_L_law_315 : decode b_L_law 315 = .ok (.iconst 0, 1) := by decide +kernel
theorem d_L_law_316 : decode b_L_law 316 = .ok (.ireturn, 1) := by decide +kernel
theorem d_L_law_317 : decode b_L_law 317 = .ok (.goto 118, 3) := by decide +kernel
theorem d_L_law_320 : decode b_L_law 320 = .ok (.aload_n 1, 1) := by decide +kernel
theorem d_L_law_321 : decode b_L_law 321 = .ok (.invokevirtual 64, 3) := by decide +kernel
theorem d_L_law_324 : decode b_L_law 324 = .ok (.aload_n 2, 1) := by decide +kernel
theorem d_L_law_325 : decode b_L_law 325 = .ok (.invokevirtual 67, 3) := by decide +kernel
theorem d_L_law_328 : decode b_L_law 328 = .ok (.if_icmp .eq 107, 3) := by decide +kernel
theorem d_L_law_331 : decode b_L_law 331 = .ok (.iconst 0, 1) := by decide +kernel
theorem d_L_law_332 : decode b_L_law 332 = .ok (.ireturn, 1) := by decide +kernel
theorem d_L_law_333 : decode b_L_law 333 = .ok (.aload_n 1, 1) := by decide +kernel
theorem d_L_law_334 : decode b_L_law 334 = .ok (.invokevirtual 68, 3) := by decide +kernel
theorem d_L_law_337 : decode b_L_law 337 = .ok (.aload_n 2, 1) := by decide +kernel
theorem d_L_law_338 : decode b_L_law 338 = .ok (.invokevirtual 72, 3) := by decide +kernel
theorem d_L_law_341 : decode b_L_law 341 = .ok (.lcmp, 1) := by decide +kernel
theorem d_L_law_342 : decode b_L_law 342 = .ok (.ifCond .eq 93, 3) := by decide +kernel
theorem d_L_law_345 : decode b_L_law 345 = .ok (.iconst 0, 1) := by decide +kernel
theorem d_L_law_346 : decode b_L_law 346 = .ok (.ireturn, 1) := by decide +kernel
theorem d_L_law_347 : decode b_L_law 347 = .ok (.aload_n 1, 1) := by decide +kernel
theorem d_L_law_348 : decode b_L_law 348 = .ok (.aload_n 0, 1) := by decide +kernel
theorem d_L_law_349 : decode b_L_law 349 = .ok (.iload 4, 2) := by decide +kernel
theorem d_L_law_351 : decode b_L_law 351 = .ok (.iconst 1, 1) := by decide +kernel
theorem d_L_law_352 : decode b_L_law 352 = .ok (.iadd, 1) := by decide +kernel
theorem d_L_law_353 : decode b_L_law 353 = .ok (.iaload, 1) := by decide +kernel
theorem d_L_law_354 : decode b_L_law 354 = .ok (.invokevirtual 73, 3) := by decide +kernel
theorem d_L_law_357 : decode b_L_law 357 = .ok (.aload_n 2, 1) := by decide +kernel
theorem d_L_law_358 : decode b_L_law 358 = .ok (.aload_n 0, 1) := by decide +kernel
theorem d_L_law_359 : decode b_L_law 359 = .ok (.iload 4, 2) := by decide +kernel
theorem d_L_law_361 : decode b_L_law 361 = .ok (.iconst 1, 1) := by decide +kernel
theorem d_L_law_362 : decode b_L_law 362 = .ok (.iadd, 1) := by decide +kernel
theorem d_L_law_363 : decode b_L_law 363 = .ok (.iaload, 1) := by decide +kernel
theorem d_L_law_364 : decode b_L_law 364 = .ok (.invokevirtual 77, 3) := by decide +kernel
theorem d_L_law_367 : decode b_L_law 367 = .ok (.if_icmp .eq 68, 3) := by decide +kernel
theorem d_L_law_370 : decode b_L_law 370 = .ok (.iconst 0, 1) := by decide +kernel
theorem d_L_law_371 : decode b_L_law 371 = .ok (.ireturn, 1) := by decide +kernel
theorem d_L_law_372 : decode b_L_law 372 = .ok (.aload_n 1, 1) := by decide +kernel
theorem d_L_law_373 : decode b_L_law 373 = .ok (.aload_n 0, 1) := by decide +kernel
theorem d_L_law_374 : decode b_L_law 374 = .ok (.iload 4, 2) := by decide +kernel
theorem d_L_law_376 : decode b_L_law 376 = .ok (.iconst 1, 1) := by decide +kernel
theorem d_L_law_377 : decode b_L_law 377 = .ok (.iadd, 1) := by decide +kernel
theorem d_L_law_378 : decode b_L_law 378 = .ok (.iaload, 1) := by decide +kernel
theorem d_L_law_379 : decode b_L_law 379 = .ok (.aload_n 0, 1) := by decide +kernel
theorem d_L_law_380 : decode b_L_law 380 = .ok (.iload 4, 2) := by decide +kernel
theorem d_L_law_382 : decode b_L_law 382 = .ok (.iconst 2, 1) := by decide +kernel
theorem d_L_law_383 : decode b_L_law 383 = .ok (.iadd, 1) := by decide +kernel
theorem d_L_law_384 : decode b_L_law 384 = .ok (.iaload, 1) := by decide +kernel
theorem d_L_law_385 : decode b_L_law 385 = .ok (.invokevirtual 78, 3) := by decide +kernel
theorem d_L_law_388 : decode b_L_law 388 = .ok (.aload_n 2, 1) := by decide +kernel
theorem d_L_law_389 : decode b_L_law 389 = .ok (.aload_n 0, 1) := by decide +kernel
theorem d_L_law_390 : decode b_L_law 390 = .ok (.iload 4, 2) := by decide +kernel
theorem d_L_law_392 : decode b_L_law 392 = .ok (.iconst 1, 1) := by decide +kernel
theorem d_L_law_393 : decode b_L_law 393 = .ok (.iadd, 1) := by decide +kernel
theorem d_L_law_394 : decode b_L_law 394 = .ok (.iaload, 1) := by decide +kernel
theorem d_L_law_395 : decode b_L_law 395 = .ok (.aload_n 0, 1) := by decide +kernel
theorem d_L_law_396 : decode b_L_law 396 = .ok (.iload 4, 2) := by decide +kernel
theorem d_L_law_398 : decode b_L_law 398 = .ok (.iconst 2, 1) := by decide +kernel
theorem d_L_law_399 : decode b_L_law 399 = .ok (.iadd, 1) := by decide +kernel
theorem d_L_law_400 : decode b_L_law 400 = .ok (.iaload, 1) := by decide +kernel
theorem d_L_law_401 : decode b_L_law 401 = .ok (.invokevirtual 82, 3) := by decide +kernel
theorem d_L_law_404 : decode b_L_law 404 = .ok (.lcmp, 1) := by decide +kernel
theorem d_L_law_405 : decode b_L_law 405 = .ok (.ifCond .eq 30, 3) := by decide +kernel
theorem d_L_law_408 : decode b_L_law 408 = .ok (.iconst 0, 1) := by decide +kernel
theorem d_L_law_409 : decode b_L_law 409 = .ok (.ireturn, 1) := by decide +kernel
theorem d_L_law_410 : decode b_L_law 410 = .ok (.aload_n 1, 1) := by decide +kernel
theorem d_L_law_411 : decode b_L_law 411 = .ok (.aload_n 0, 1) := by decide +kernel
theorem d_L_law_412 : decode b_L_law 412 = .ok (.iload 4, 2) := by decide +kernel
theorem d_L_law_414 : decode b_L_law 414 = .ok (.iconst 1, 1) := by decide +kernel
theorem d_L_law_415 : decode b_L_law 415 = .ok (.iadd, 1) := by decide +kernel
theorem d_L_law_416 : decode b_L_law 416 = .ok (.iaload, 1) := by decide +kernel
theorem d_L_law_417 : decode b_L_law 417 = .ok (.invokevirtual 83, 3) := by decide +kernel
theorem d_L_law_420 : decode b_L_law 420 = .ok (.aload_n 2, 1) := by decide +kernel
theorem d_L_law_421 : decode b_L_law 421 = .ok (.aload_n 0, 1) := by decide +kernel
theorem d_L_law_422 : decode b_L_law 422 = .ok (.iload 4, 2) := by decide +kernel
theorem d_L_law_424 : decode b_L_law 424 = .ok (.iconst 1, 1) := by decide +kernel
theorem d_L_law_425 : decode b_L_law 425 = .ok (.iadd, 1) := by decide +kernel
theorem d_L_law_426 : decode b_L_law 426 = .ok (.iaload, 1) := by decide +kernel
theorem d_L_law_427 : decode b_L_law 427 = .ok (.invokevirtual 86, 3) := by decide +kernel
theorem d_L_law_430 : decode b_L_law 430 = .ok (.if_icmp .eq 5, 3) := by decide +kernel
theorem d_L_law_433 : decode b_L_law 433 = .ok (.iconst 0, 1) := by decide +kernel
theorem d_L_law_434 : decode b_L_law 434 = .ok (.ireturn, 1) := by decide +kernel
theorem d_L_law_435 : decode b_L_law 435 = .ok (.iinc 4 4, 3) := by decide +kernel
theorem d_L_law_438 : decode b_L_law 438 = .ok (.goto (-415), 3) := by decide +kernel
theorem d_L_law_441 : decode b_L_law 441 = .ok (.iconst 1, 1) := by decide +kernel
theorem d_L_law_442 : decode b_L_law 442 = .ok (.ireturn, 1) := by decide +kernel
theorem nm_L_define (a : Array Value) (u : State) (h : (zWd y_L_define b_L_define 3 (some .int) [(0, 8, 11, 13), (0, 8, 14, 15)]).before a u = true) : ∃ mk, u.methodNamed? y_L_define = some mk := (Cond.codeWith_spec h).elim fun m hm => hm.elim fun _ hm => hm.elim fun _ hm => ⟨m, hm.1⟩
theorem nm_L_run (a : Array Value) (u : State) (h : (zWd y_L_run b_L_run 4 (some .int) [(0, 9, 12, 13), (0, 9, 15, 15), (0, 9, 18, 21), (0, 9, 21, 23), (0, 9, 24, 25)]).before a u = true) : ∃ mk, u.methodNamed? y_L_run = some mk := (Cond.codeWith_spec h).elim fun m hm => hm.elim fun _ hm => hm.elim fun _ hm => ⟨m, hm.1⟩
theorem cl_L_53 : Cond.constantLong "SoleArraysLaw" 53 4294967295 ∈ zTb := zt5 166 (by decide +kernel) rfl
/-- the script: an elder cell, by the name 1000000 -/
def zOld (G : zG) (K : zK) (Ls : Nat) (f : Nat → Int32) : Prop := va_X (zo G 1000000) Ls f (ks K) (zH0 G) ∧ zo G 1000000 < zz G ∧ Ls ≤ 2048
section LZ
variable {G : zG} {K : zK} {y : MethodName} {cc : ByteArray} {nL : Nat} {ret : Option FieldType} {hs : List (Nat × Nat × Nat × Nat)} {n k1 k2 pc : Nat} {σ : zS} {lv : List (Nat × Value)} {st : List Value} {Ls : Nat} {f : Nat → Int32}
theorem z_iald0 (C : zC G K y cc nL ret hs) (pc' : Nat) {j : Int32} (jn : Nat) (hd : decode cc pc = .ok (.iaload, 1)) (hp : pc + 1 = pc') (hX : zOld G K Ls f) (hj : j = nI jn) (hl : jn < Ls) (k : Z G K n σ k1 k2 pc' lv (.int (f jn) :: st)) : Z G K n σ k1 k2 pc lv (.int j :: .ref 1000000 :: st) := by
  subst hp; subst hj
  intro H locs ls h1 h2 h3
  obtain ⟨⟨scr, a1, a2, a3, a4, a5⟩, hb, hL⟩ := hX
  have kk := k H locs ls h1 h2 h3
  show W _ _ _ _ _ _ _ _ _ _ H locs k1 k2 _ (F0 _ pc ls (.int (nI jn) :: .ref (zo G 1000000) :: st.map (zV G)))
  have hcl : (nI jn).toNatClampNeg = jn := nI_clamp (by omega)
  exact W.iald (v := .int (f jn)) C.1 C.2.1 (by rw [h1.2.2.1 _ hb]; exact a1) a2 a3 (by rw [a4]; exact vp_in_nI hl (by omega)) (by rw [hcl]; exact a5 _ hl) rfl rfl hd kk
theorem z_alen0 (C : zC G K y cc nL ret hs) (pc' : Nat) (hd : decode cc pc = .ok (.arraylength, 1)) (hp : pc + 1 = pc') (hX : zOld G K Ls f) (k : Z G K n σ k1 k2 pc' lv (.int (nI Ls) :: st)) : Z G K n σ k1 k2 pc lv (.ref 1000000 :: st) := by
  subst hp
  intro H locs ls h1 h2 h3
  obtain ⟨⟨scr, a1, a2, a3, a4, a5⟩, hb, hL⟩ := hX
  have kk := k H locs ls h1 h2 h3
  show W _ _ _ _ _ _ _ _ _ _ H locs k1 k2 _ (F0 _ pc ls (.ref (zo G 1000000) :: st.map (zV G)))
  exact W.alen (n := nI Ls) C.1 C.2.1 (by rw [h1.2.2.1 _ hb]; exact a1) a2 (by rw [a4] <;> rfl) rfl rfl hd kk
end LZ
def lRoom (K : zK) (Ls : Nat) : Prop := 1400 ≤ (kR K).frames ∧ 84000 ≤ (kR K).locals ∧ 114 + 250 * Ls ≤ (kR K).cells ∧ 27457 + 3500 * Ls ≤ (kR K).slots
abbrev lv0 (t : Nat) : List (Nat × Value) := [(0, .ref 1000000), (1, .ref 0), (2, .ref 85), (3, .ref 113), (4, .int (nI (4 * t)))]
def lOut (σ : zS) : Prop := ∃ g, σ 113 = .inl (1, 1, .inr (.inl g))
def lFin (G : zG) (K : zK) (FR : rFR) (t : Nat) : Prop := ∀ (n : Nat) (σ : zS) (xs : mS) (xr : Int64) (xa : mA) (xl : mL) (xf : xF) (S : mS) (A : mA) (L : mL) (rn : Int64) (k1 k2 : Nat), 114 ≤ n → n ≤ 114 + 1000 * (t + 1) → lOut σ → Rel FR n σ xs xr xa xl xf S A L rn → k1 ≤ 114 + 1000 * (t + 1) → k2 ≤ 27457 + 14000 * (t + 1) → Z G K n (xOv xs xr xa xl xf (mOv S A L rn σ)) k1 k2 435 (lv0 t) []
def lAt (FR : rFR) (Ls t n : Nat) (σ : zS) (xs : mS) (xr : Int64) (xa : mA) (xl : mL) (xf : xF) (S : mS) (A : mA) (L : mL) (rn : Int64) (k1 k2 : Nat) : Prop := 4 * t + 4 ≤ Ls ∧ 114 ≤ n ∧ n ≤ 114 + 1000 * t ∧ lOut σ ∧ k1 ≤ 114 + 1000 * t ∧ k2 ≤ 27457 + 14000 * t ∧ Rel FR n σ xs xr xa xl xf S A L rn
section LW
variable {G : zG} {K : zK} {FR : rFR} {n k1 k2 t Ls : Nat} {f : Nat → Int32} {σ : zS} {xs : mS} {xr : Int64} {xa : mA} {xl : mL} {xf : xF} {S : mS} {A : mA} {L : mL} {rn : Int64}
theorem Rel.value (h : Rel FR n σ xs xr xa xl xf S A L rn) : (if xs 3 = 0 then xr else 0) = (if S 46 = 0 then rn else (0 : Int64)) := by
  obtain ⟨-, -, -, -, ⟨h1, h2⟩, -⟩ := h
  rw [h1]
  by_cases e : S 46 = 0
  · rw [if_pos e, if_pos e]
    rcases h2 with h2 | ⟨-, h2⟩ | ⟨h2, -⟩
    · rw [e] at h2; exact absurd h2 (by decide)
    · exact h2
    · rw [e] at h2; exact absurd h2 (by decide)
  · rw [if_neg e, if_neg e]
theorem Rel.size (h : Rel FR n σ xs xr xa xl xf S A L rn) (w : Int32) : ∃ a : Nat, ((xs 3 = 1 ∨ xs 3 = 2) → xr.toInt32 = nI a ∧ a < 8) ∧ xsize xs xa a w = msize S w := by
  obtain ⟨-, -, -, -, ⟨h1, h2⟩, -⟩ := h
  unfold xsize msize
  rw [h1]
  rcases h2 with h2 | ⟨h2, -⟩ | ⟨h2, a, r, c, ⟨h3, h4, h5, h6, -⟩, h7, h8, h9, -⟩
  · refine ⟨0, fun q => ?_, ?_⟩
    · rw [h2] at q; exact absurd q (by decide)
    · rw [h2, if_neg (fun q => absurd q.2 (by decide)), if_neg (fun q => absurd q.2 (by decide)), if_neg (fun q => absurd q.2 (by decide)), if_neg (fun q => absurd q.2 (by decide))]
  · refine ⟨0, fun q => ?_, ?_⟩
    · rw [h2] at q; exact absurd q (by decide)
    · rw [h2, if_neg (fun q => absurd q.2 (by decide)), if_neg (fun q => absurd q.2 (by decide)), if_neg (fun q => absurd q.2 (by decide)), if_neg (fun q => absurd q.2 (by decide))]
  · refine ⟨a, fun _ => ⟨h3, h4⟩, ?_⟩
    rw [h5, h6, ← h7, ← h8]
    have hp : 0 < S 46 := by rcases h2 with h2 | h2 <;> rw [h2] <;> decide
    by_cases e : w = 0
    · rw [if_pos ⟨e, h2⟩, if_pos ⟨e, hp⟩]
    · rw [if_neg (show ¬ (w = 0 ∧ (S 46 = 1 ∨ S 46 = 2)) from fun q => e q.1), if_neg (show ¬ (w = 0 ∧ 0 < S 46) from fun q => e q.1)]
theorem Rel.counted (h : Rel FR n σ xs xr xa xl xf S A L rn) (w : Int32) : xcounted xs w = mcounted S w := by
  obtain ⟨-, -, -, -, -, h1, h2, h3, h4⟩ := h
  unfold xcounted mcounted
  rw [h1, h2, h3, h4]
theorem l_c2 (C : zC G K y_L_law b_L_law 7 (some .boolean) []) (hr : lRoom K Ls) (hF : lFin G K FR t) (a : lAt FR Ls t n σ xs xr xa xl xf S A L rn k1 k2) : Z G K n (xOv xs xr xa xl xf (mOv S A L rn σ)) k1 k2 167 (lv0 t) [] := by
  obtain ⟨ht, hn, hn2, ho, hk1, hk2, h⟩ := a
  obtain ⟨r1, r2, r3, r4⟩ := hr
  refine z_aload_n C 168 d_L_law_167 rfl rfl ?_
  refine z_call C 171 (c_S_place (by omega)) w_S_place ini_S d_L_law_168 rfl (z_goV (As := []) C l_L_45 w_S_place d_L_law_168 (by omega) rfl rfl rfl) (Nat.le_of_ble_eq_true rfl) (by omega) (by omega) (by omega) (by omega) (fun v n' σ' hv => ?_) (fun x n' σ' hv => ?_)
  · obtain ⟨e0, e1, rfl⟩ := hv
    cases e0
    obtain rfl : n = n' := e1.symm
    rw [← mx_comm]
    refine z_aload_n C 172 d_L_law_171 rfl rfl ?_
    refine z_call C 175 (c_M_place (by omega)) w_M_place ini_M d_L_law_172 rfl (z_goV (As := []) C l_L_48 w_M_place d_L_law_172 (by omega) rfl rfl rfl) (Nat.le_of_ble_eq_true rfl) (by omega) (by omega) (by omega) (by omega) (fun v n' σ' hv => ?_) (fun x n' σ' hv => ?_)
    · obtain ⟨e0, e1, rfl⟩ := hv
      cases e0
      obtain rfl : n = n' := e1.symm
      rw [mx_comm]
      refine z_icmp_eq C 178 435 d_L_law_175 rfl (by decide) (fun _ => ?_) (fun h9 => absurd h.2.1 h9)
      exact hF _ _ _ _ _ _ _ _ _ _ _ _ _ (by omega) (by omega) ho (h.code 0) (by omega) (by omega)
    · cases hv.1
  · cases hv.1
theorem l_c6 (C : zC G K y_L_law b_L_law 7 (some .boolean) []) (hr : lRoom K Ls) (hF : lFin G K FR t) (a : lAt FR Ls t n σ xs xr xa xl xf S A L rn k1 k2) : Z G K n (xOv xs xr xa xl xf (mOv S A L rn σ)) k1 k2 320 (lv0 t) [] := by
  obtain ⟨ht, hn, hn2, ho, hk1, hk2, h⟩ := a
  obtain ⟨r1, r2, r3, r4⟩ := hr
  refine z_aload_n C 321 d_L_law_320 rfl rfl ?_
  refine z_call C 324 (c_S_kind (by omega)) w_S_kind ini_S d_L_law_321 rfl (z_goV (As := []) C l_L_64 w_S_kind d_L_law_321 (by omega) rfl rfl rfl) (Nat.le_of_ble_eq_true rfl) (by omega) (by omega) (by omega) (by omega) (fun v n' σ' hv => ?_) (fun x n' σ' hv => ?_)
  · obtain ⟨e0, e1, rfl⟩ := hv
    cases e0
    obtain rfl : n = n' := e1.symm
    rw [← mx_comm]
    refine z_aload_n C 325 d_L_law_324 rfl rfl ?_
    refine z_call C 328 (c_M_kind (by omega)) w_M_kind ini_M d_L_law_325 rfl (z_goV (As := []) C l_L_67 w_M_kind d_L_law_325 (by omega) rfl rfl rfl) (Nat.le_of_ble_eq_true rfl) (by omega) (by omega) (by omega) (by omega) (fun v n' σ' hv => ?_) (fun x n' σ' hv => ?_)
    · obtain ⟨e0, e1, rfl⟩ := hv
      cases e0
      obtain rfl : n = n' := e1.symm
      rw [mx_comm]
      refine z_icmp_eq C 331 435 d_L_law_328 rfl (by decide) (fun _ => ?_) (fun h9 => absurd h.2.2.2.2.1.1 h9)
      exact hF _ _ _ _ _ _ _ _ _ _ _ _ _ (by omega) (by omega) ho (h.code 0) (by omega) (by omega)
    · cases hv.1
  · cases hv.1
theorem l_c7 (C : zC G K y_L_law b_L_law 7 (some .boolean) []) (hr : lRoom K Ls) (hF : lFin G K FR t) (a : lAt FR Ls t n σ xs xr xa xl xf S A L rn k1 k2) : Z G K n (xOv xs xr xa xl xf (mOv S A L rn σ)) k1 k2 333 (lv0 t) [] := by
  obtain ⟨ht, hn, hn2, ho, hk1, hk2, h⟩ := a
  obtain ⟨r1, r2, r3, r4⟩ := hr
  refine z_aload_n C 334 d_L_law_333 rfl rfl ?_
  refine z_call C 337 (c_S_value (by omega)) w_S_value ini_S d_L_law_334 rfl (z_goV (As := []) C l_L_68 w_S_value d_L_law_334 (by omega) rfl rfl rfl) (Nat.le_of_ble_eq_true rfl) (by omega) (by omega) (by omega) (by omega) (fun v n' σ' hv => ?_) (fun x n' σ' hv => ?_)
  · obtain ⟨e0, e1, rfl⟩ := hv
    cases e0
    obtain rfl : n = n' := e1.symm
    rw [← mx_comm]
    refine z_aload_n C 338 d_L_law_337 rfl rfl ?_
    refine z_call C 341 (c_M_value (by omega)) w_M_value ini_M d_L_law_338 rfl (z_goV (As := []) C l_L_72 w_M_value d_L_law_338 (by omega) rfl rfl rfl) (Nat.le_of_ble_eq_true rfl) (by omega) (by omega) (by omega) (by omega) (fun v n' σ' hv => ?_) (fun x n' σ' hv => ?_)
    · obtain ⟨e0, e1, rfl⟩ := hv
      cases e0
      obtain rfl : n = n' := e1.symm
      rw [mx_comm]
      refine z_lcmp C 342 d_L_law_341 rfl ?_
      refine z_if_eq C 345 435 d_L_law_342 rfl (by decide) (fun _ => ?_) (fun h9 => absurd ((lg_cmp_eq _ _).mpr h.value) h9)
      exact hF _ _ _ _ _ _ _ _ _ _ _ _ _ (by omega) (by omega) ho (h.code 0) (by omega) (by omega)
    · cases hv.1
  · cases hv.1
theorem l_c8 (C : zC G K y_L_law b_L_law 7 (some .boolean) []) (hX : zOld G K Ls f) (hr : lRoom K Ls) (hF : lFin G K FR t) (a : lAt FR Ls t n σ xs xr xa xl xf S A L rn k1 k2) : Z G K n (xOv xs xr xa xl xf (mOv S A L rn σ)) k1 k2 347 (lv0 t) [] := by
  obtain ⟨ht, hn, hn2, ho, hk1, hk2, h⟩ := a
  obtain ⟨r1, r2, r3, r4⟩ := hr
  obtain ⟨ar, ha, hs⟩ := h.size (f (4 * t + 1))
  refine z_aload_n C 348 d_L_law_347 rfl rfl ?_
  refine z_aload_n C 349 d_L_law_348 rfl rfl ?_
  refine z_iload C 351 d_L_law_349 rfl rfl ?_
  refine z_iconst C 352 d_L_law_351 rfl 1 (by decide) ?_
  refine z_iadd C 353 d_L_law_352 rfl ?_
  refine z_iald0 C 354 (4 * t + 1) d_L_law_353 rfl hX (nI_add _ 1) (by omega) ?_
  refine z_call C 357 (c_S_size (by omega) _ ar ha) w_S_size ini_S d_L_law_354 rfl (z_goV (As := [.int (f (4 * t + 1))]) C l_L_73 w_S_size d_L_law_354 (by omega) rfl rfl rfl) (Nat.le_of_ble_eq_true rfl) (by omega) (by omega) (by omega) (by omega) (fun v n' σ' hv => ?_) (fun x n' σ' hv => ?_)
  · obtain ⟨e0, e1, rfl⟩ := hv
    cases e0
    obtain rfl : n = n' := e1.symm
    rw [← mx_comm]
    refine z_aload_n C 358 d_L_law_357 rfl rfl ?_
    refine z_aload_n C 359 d_L_law_358 rfl rfl ?_
    refine z_iload C 361 d_L_law_359 rfl rfl ?_
    refine z_iconst C 362 d_L_law_361 rfl 1 (by decide) ?_
    refine z_iadd C 363 d_L_law_362 rfl ?_
    refine z_iald0 C 364 (4 * t + 1) d_L_law_363 rfl hX (nI_add _ 1) (by omega) ?_
    refine z_call C 367 (c_M_size (by omega) _) w_M_size ini_M d_L_law_364 rfl (z_goV (As := [.int (f (4 * t + 1))]) C l_L_77 w_M_size d_L_law_364 (by omega) rfl rfl rfl) (Nat.le_of_ble_eq_true rfl) (by omega) (by omega) (by omega) (by omega) (fun v n' σ' hv => ?_) (fun x n' σ' hv => ?_)
    · obtain ⟨e0, e1, rfl⟩ := hv
      cases e0
      obtain rfl : n = n' := e1.symm
      rw [mx_comm]
      refine z_icmp_eq C 370 435 d_L_law_367 rfl (by decide) (fun _ => ?_) (fun h9 => absurd hs h9)
      exact hF _ _ _ _ _ _ _ _ _ _ _ _ _ (by omega) (by omega) ho (h.code 0) (by omega) (by omega)
    · cases hv.1
  · cases hv.1
theorem l_c10 (C : zC G K y_L_law b_L_law 7 (some .boolean) []) (hX : zOld G K Ls f) (hr : lRoom K Ls) (hF : lFin G K FR t) (a : lAt FR Ls t n σ xs xr xa xl xf S A L rn k1 k2) : Z G K n (xOv xs xr xa xl xf (mOv S A L rn σ)) k1 k2 410 (lv0 t) [] := by
  obtain ⟨ht, hn, hn2, ho, hk1, hk2, h⟩ := a
  obtain ⟨r1, r2, r3, r4⟩ := hr
  refine z_aload_n C 411 d_L_law_410 rfl rfl ?_
  refine z_aload_n C 412 d_L_law_411 rfl rfl ?_
  refine z_iload C 414 d_L_law_412 rfl rfl ?_
  refine z_iconst C 415 d_L_law_414 rfl 1 (by decide) ?_
  refine z_iadd C 416 d_L_law_415 rfl ?_
  refine z_iald0 C 417 (4 * t + 1) d_L_law_416 rfl hX (nI_add _ 1) (by omega) ?_
  refine z_call C 420 (c_S_counted (by omega) _) w_S_counted ini_S d_L_law_417 rfl (z_goV (As := [.int (f (4 * t + 1))]) C l_L_83 w_S_counted d_L_law_417 (by omega) rfl rfl rfl) (Nat.le_of_ble_eq_true rfl) (by omega) (by omega) (by omega) (by omega) (fun v n' σ' hv => ?_) (fun x n' σ' hv => ?_)
  · obtain ⟨e0, e1, rfl⟩ := hv
    cases e0
    obtain rfl : n = n' := e1.symm
    rw [← mx_comm]
    refine z_aload_n C 421 d_L_law_420 rfl rfl ?_
    refine z_aload_n C 422 d_L_law_421 rfl rfl ?_
    refine z_iload C 424 d_L_law_422 rfl rfl ?_
    refine z_iconst C 425 d_L_law_424 rfl 1 (by decide) ?_
    refine z_iadd C 426 d_L_law_425 rfl ?_
    refine z_iald0 C 427 (4 * t + 1) d_L_law_426 rfl hX (nI_add _ 1) (by omega) ?_
    refine z_call C 430 (c_M_counted (by omega) _) w_M_counted ini_M d_L_law_427 rfl (z_goV (As := [.int (f (4 * t + 1))]) C l_L_86 w_M_counted d_L_law_427 (by omega) rfl rfl rfl) (Nat.le_of_ble_eq_true rfl) (by omega) (by omega) (by omega) (by omega) (fun v n' σ' hv => ?_) (fun x n' σ' hv => ?_)
    · obtain ⟨e0, e1, rfl⟩ := hv
      cases e0
      obtain rfl : n = n' := e1.symm
      rw [mx_comm]
      refine z_icmp_eq C 433 435 d_L_law_430 rfl (by decide) (fun _ => ?_) (fun h9 => absurd (h.counted _) h9)
      exact hF _ _ _ _ _ _ _ _ _ _ _ _ _ (by omega) (by omega) ho (h.code 0) (by omega) (by omega)
    · cases hv.1
  · cases hv.1
theorem l_c3 (C : zC G K y_L_law b_L_law 7 (some .boolean) []) (hr : lRoom K Ls) (hO : rFRok FR) (hF : lFin G K FR t) (a : lAt FR Ls t n σ xs xr xa xl xf S A L rn k1 k2) : Z G K n (xOv xs xr xa xl xf (mOv S A L rn σ)) k1 k2 180 (lv0 t) [] := by
  obtain ⟨ht, hn, hn2, ho, hk1, hk2, h⟩ := a
  obtain ⟨r1, r2, r3, r4⟩ := hr
  refine z_aload_n C 181 d_L_law_180 rfl rfl ?_
  refine z_call C 184 (c_S_clear (by omega)) w_S_clear ini_S d_L_law_181 rfl (z_goV (As := []) C l_L_49 w_S_clear d_L_law_181 (by omega) rfl rfl rfl) (Nat.le_of_ble_eq_true rfl) (by omega) (by omega) (by omega) (by omega) (fun v n' σ' hv => ?_) (fun x n' σ' hv => ?_)
  · obtain ⟨e0, e1, rfl⟩ := hv
    cases e0
    obtain rfl : n = n' := e1.symm
    rw [← mx_comm]
    refine z_aload_n C 185 d_L_law_184 rfl rfl ?_
    refine z_call C 188 (c_M_clear (by omega)) w_M_clear ini_M d_L_law_185 rfl (z_goV (As := []) C l_L_52 w_M_clear d_L_law_185 (by omega) rfl rfl rfl) (Nat.le_of_ble_eq_true rfl) (by omega) (by omega) (by omega) (by omega) (fun v n' σ' hv => ?_) (fun x n' σ' hv => ?_)
    · obtain ⟨e0, e1, rfl⟩ := hv
      cases e0
      obtain rfl : n = n' := e1.symm
      rw [mx_comm]
      refine z_icmp_eq C 191 435 d_L_law_188 rfl (by decide) (fun _ => ?_) (fun h9 => absurd h.2.2.1.1 h9)
      exact hF _ _ _ _ _ _ _ _ _ _ _ _ _ (by omega) (by omega) ho (Rel.clear hO (h.code 0)) (by omega) (by omega)
    · cases hv.1
  · cases hv.1
end LW
end
section
section LW2
variable {G : zG} {K : zK} {FR : rFR} {n k1 k2 t Ls : Nat} {f : Nat → Int32} {σ : zS} {xs : mS} {xr : Int64} {xa : mA} {xl : mL} {xf : xF} {S : mS} {A : mA} {L : mL} {rn : Int64}
theorem Rel.cell (h : Rel FR n σ xs xr xa xl xf S A L rn) (i j : Int32) : ∃ a r c : Nat, ((xs 3 = 1 ∨ xs 3 = 2) → xRes xs xr xa a r c) ∧ (¬ S 46 < 1 → S 48 = nI r ∧ S 49 = nI c ∧ r ≤ 40 ∧ c ≤ 40 ∧ r * c ≤ 40) ∧ (xcellP xs r c i j → xl (10 + a) (i.toNatClampNeg * c + (xcol xs j).toNatClampNeg) = mcell S L i j) ∧ (¬ xcellP xs r c i j → 0 = mcell S L i j) := by
  obtain ⟨-, -, -, -, ⟨h1, h2⟩, -⟩ := h
  have no : S 46 < 1 → ¬ (S 46 = 1 ∨ S 46 = 2) → ∃ a r c : Nat, ((xs 3 = 1 ∨ xs 3 = 2) → xRes xs xr xa a r c) ∧ (¬ S 46 < 1 → S 48 = nI r ∧ S 49 = nI c ∧ r ≤ 40 ∧ c ≤ 40 ∧ r * c ≤ 40) ∧ (xcellP xs r c i j → xl (10 + a) (i.toNatClampNeg * c + (xcol xs j).toNatClampNeg) = mcell S L i j) ∧ (¬ xcellP xs r c i j → 0 = mcell S L i j) := fun a b =>
    ⟨0, 0, 0, fun q => absurd (h1 ▸ q) b, fun q => absurd a q, fun q => absurd (h1 ▸ q.1) b, fun _ => by rw [mcell, if_pos (Or.inl a)]⟩
  rcases h2 with h2 | ⟨h2, -⟩ | ⟨h2, a, r, c, hx, h7, h8, h9, h10⟩
  · exact no (by rw [h2]; decide) (by rw [h2]; decide)
  · exact no (by rw [h2]; decide) (by rw [h2]; decide)
  · have hlt : ¬ S 46 < 1 := by rcases h2 with h2 | h2 <;> rw [h2] <;> decide
    have ec : xcol xs j = mcol S j := by unfold xcol mcol; rw [h1]
    have hx0 := hx
    obtain ⟨q1, q2, q3, q4, q5, q6, q7⟩ := hx
    refine ⟨a, r, c, fun _ => hx0, fun _ => ⟨h7, h8, q5, q6, q7⟩, fun w => ?_, fun w => ?_⟩
    · obtain ⟨-, w1, w2, w3, w4⟩ := w
      rw [ec] at w3 w4 ⊢
      obtain ⟨ii, hi, ei⟩ := nI_of w1
      obtain ⟨jj, hj, ej⟩ := nI_of w3
      rw [ei] at w2
      rw [ej] at w4
      have b1 : ii < r := (nI_ltI hi (by omega)).mp w2
      have b2 : jj < c := (nI_ltI hj (by omega)).mp w4
      have hb : ii * c + jj < r * c := by
        have b3 : (ii + 1) * c ≤ r * c := Nat.mul_le_mul_right c b1
        rw [Nat.succ_mul] at b3
        omega
      rw [mcell, if_neg, h8, ej, ei, nI_clamp (by omega), nI_clamp (by omega), nI_clamp (by omega)]
      · exact h10 _ hb
      · rw [h7, h8, ej, ei]
        exact fun q => q.elim hlt (fun q => q.elim (nI_pos hi) (fun q => q.elim (fun q => absurd ((nI_leI (by omega) hi).mp q) (by omega)) (fun q => q.elim (nI_pos hj) (fun q => absurd ((nI_leI (by omega) hj).mp q) (by omega)))))
    · rw [mcell, if_pos]
      rw [h7, h8]
      refine Decidable.byContradiction fun q => w ⟨h1 ▸ h2, ?_, ?_, ?_, ?_⟩
      · exact fun z => q (Or.inr (Or.inl z))
      · exact Int32.not_le.mp fun z => q (Or.inr (Or.inr (Or.inl z)))
      · rw [ec]; exact fun z => q (Or.inr (Or.inr (Or.inr (Or.inl z))))
      · rw [ec]; exact Int32.not_le.mp fun z => q (Or.inr (Or.inr (Or.inr (Or.inr z))))
theorem l_c9 (C : zC G K y_L_law b_L_law 7 (some .boolean) []) (hX : zOld G K Ls f) (hr : lRoom K Ls) (hF : lFin G K FR t) (a : lAt FR Ls t n σ xs xr xa xl xf S A L rn k1 k2) : Z G K n (xOv xs xr xa xl xf (mOv S A L rn σ)) k1 k2 372 (lv0 t) [] := by
  obtain ⟨ht, hn, hn2, ho, hk1, hk2, h⟩ := a
  obtain ⟨r1, r2, r3, r4⟩ := hr
  have hLs := hX.2.2
  obtain ⟨ar, r, c, ha, hb, h1, h0⟩ := h.cell (f (4 * t + 1)) (f (4 * t + 2))
  refine z_aload_n C 373 d_L_law_372 rfl rfl ?_
  refine z_aload_n C 374 d_L_law_373 rfl rfl ?_
  refine z_iload C 376 d_L_law_374 rfl rfl ?_
  refine z_iconst C 377 d_L_law_376 rfl 1 (by decide) ?_
  refine z_iadd C 378 d_L_law_377 rfl ?_
  refine z_iald0 C 379 (4 * t + 1) d_L_law_378 rfl hX (nI_add _ 1) (by omega) ?_
  refine z_aload_n C 380 d_L_law_379 rfl rfl ?_
  refine z_iload C 382 d_L_law_380 rfl rfl ?_
  refine z_iconst C 383 d_L_law_382 rfl 2 (by decide) ?_
  refine z_iadd C 384 d_L_law_383 rfl ?_
  refine z_iald0 C 385 (4 * t + 2) d_L_law_384 rfl hX (nI_add _ 2) (by omega) ?_
  refine z_call C 388 (c_S_cell (by omega) (by omega) _ _ ar r c ha) w_S_cell ini_S d_L_law_385 rfl (z_goV (As := [.int (f (4 * t + 1)), .int (f (4 * t + 2))]) C l_L_78 w_S_cell d_L_law_385 (by omega) rfl rfl rfl) (Nat.le_of_ble_eq_true rfl) (by omega) (by omega) (by omega) (by omega) (fun v n' σ' hv => ?_) (fun x n' σ' hv => ?_)
  · obtain ⟨e0, e1, rfl⟩ := hv
    obtain rfl : n = n' := e1.symm
    obtain ⟨v0, rfl, hv0⟩ : ∃ v0, v = some (.long v0) ∧ v0 = mcell S L (f (4 * t + 1)) (f (4 * t + 2)) := by
      rcases e0 with ⟨q, e0⟩ | ⟨q, e0⟩ <;> cases e0
      · exact ⟨_, rfl, h1 q⟩
      · exact ⟨_, rfl, h0 q⟩
    rw [← mx_comm]
    refine z_aload_n C 389 d_L_law_388 rfl rfl ?_
    refine z_aload_n C 390 d_L_law_389 rfl rfl ?_
    refine z_iload C 392 d_L_law_390 rfl rfl ?_
    refine z_iconst C 393 d_L_law_392 rfl 1 (by decide) ?_
    refine z_iadd C 394 d_L_law_393 rfl ?_
    refine z_iald0 C 395 (4 * t + 1) d_L_law_394 rfl hX (nI_add _ 1) (by omega) ?_
    refine z_aload_n C 396 d_L_law_395 rfl rfl ?_
    refine z_iload C 398 d_L_law_396 rfl rfl ?_
    refine z_iconst C 399 d_L_law_398 rfl 2 (by decide) ?_
    refine z_iadd C 400 d_L_law_399 rfl ?_
    refine z_iald0 C 401 (4 * t + 2) d_L_law_400 rfl hX (nI_add _ 2) (by omega) ?_
    refine z_call C 404 (c_M_cell (by omega) _ _ r c hb) w_M_cell ini_M d_L_law_401 rfl (z_goV (As := [.int (f (4 * t + 1)), .int (f (4 * t + 2))]) C l_L_82 w_M_cell d_L_law_401 (by omega) rfl rfl rfl) (Nat.le_of_ble_eq_true rfl) (by omega) (by omega) (by omega) (by omega) (fun v n' σ' hv => ?_) (fun x n' σ' hv => ?_)
    · obtain ⟨e0, e1, rfl⟩ := hv
      cases e0
      obtain rfl : n = n' := e1.symm
      rw [mx_comm]
      refine z_lcmp C 405 d_L_law_404 rfl ?_
      refine z_if_eq C 408 435 d_L_law_405 rfl (by decide) (fun _ => ?_) (fun h9 => absurd ((lg_cmp_eq _ _).mpr hv0) h9)
      exact hF _ _ _ _ _ _ _ _ _ _ _ _ _ (by omega) (by omega) ho (h.code 0) (by omega) (by omega)
    · cases hv.1
  · rcases hv.1 with ⟨_, e0⟩ | ⟨_, e0⟩ <;> cases e0
theorem l_c4 (C : zC G K y_L_law b_L_law 7 (some .boolean) []) (hX : zOld G K Ls f) (hr : lRoom K Ls) (hF : lFin G K FR t) (a : lAt FR Ls t n σ xs xr xa xl xf S A L rn k1 k2) : Z G K n (xOv xs xr xa xl xf (mOv S A L rn σ)) k1 k2 193 (lv0 t) [] := by
  obtain ⟨ht, hn, hn2, ho, hk1, hk2, h⟩ := a
  obtain ⟨r1, r2, r3, r4⟩ := hr
  have hrel : ∀ v : Int64, Rel FR n σ xs xr xa (if f (4 * t + 1) < 0 ∨ 3 < f (4 * t + 1) then xl else va_up xl 4 (vp_updL (xl 4) (f (4 * t + 1)).toNatClampNeg v)) xf S A (if f (4 * t + 1) < 0 ∨ 3 < f (4 * t + 1) then L else va_up L 111 (vp_updL (L 111) (f (4 * t + 1)).toNatClampNeg v)) rn := fun v => by
    by_cases q : f (4 * t + 1) < 0 ∨ 3 < f (4 * t + 1)
    · rw [if_pos q, if_pos q]; exact h
    · rw [if_neg q, if_neg q]
      refine h.arg ?_
      obtain ⟨jj, hj, ej⟩ := nI_of2 (n := 3) (M := 3) rfl (fun z => q (Or.inl z)) (Int32.not_lt.mp (fun z => q (Or.inr z)))
      rw [ej, nI_clamp (by omega)]
      omega
  refine z_aload_n C 194 d_L_law_193 rfl rfl ?_
  refine z_aload_n C 195 d_L_law_194 rfl rfl ?_
  refine z_iload C 197 d_L_law_195 rfl rfl ?_
  refine z_iconst C 198 d_L_law_197 rfl 1 (by decide) ?_
  refine z_iadd C 199 d_L_law_198 rfl ?_
  refine z_iald0 C 200 (4 * t + 1) d_L_law_199 rfl hX (nI_add _ 1) (by omega) ?_
  refine z_aload_n C 201 d_L_law_200 rfl rfl ?_
  refine z_iload C 203 d_L_law_201 rfl rfl ?_
  refine z_iconst C 204 d_L_law_203 rfl 2 (by decide) ?_
  refine z_iadd C 205 d_L_law_204 rfl ?_
  refine z_iald0 C 206 (4 * t + 2) d_L_law_205 rfl hX (nI_add _ 2) (by omega) ?_
  refine z_i2l C 207 d_L_law_206 rfl ?_
  refine z_bipush C 209 d_L_law_207 rfl 32 (by decide) ?_
  refine z_lshl C 210 d_L_law_209 rfl ?_
  refine z_aload_n C 211 d_L_law_210 rfl rfl ?_
  refine z_iload C 213 d_L_law_211 rfl rfl ?_
  refine z_iconst C 214 d_L_law_213 rfl 3 (by decide) ?_
  refine z_iadd C 215 d_L_law_214 rfl ?_
  refine z_iald0 C 216 (4 * t + 3) d_L_law_215 rfl hX (nI_add _ 3) (by omega) ?_
  refine z_i2l C 217 d_L_law_216 rfl ?_
  refine z_ldc2 C 220 4294967295 d_L_law_217 rfl cl_L_53 ?_
  refine z_land C 221 d_L_law_220 rfl ?_
  refine z_lor C 222 d_L_law_221 rfl ?_
  generalize hvv : ((f (4 * t + 2)).toInt64 <<< ((32 : Int32).toInt64 &&& 63) ||| ((f (4 * t + 3)).toInt64 &&& 4294967295)) = vv
  refine z_call C 225 (c_S_argument (by omega) _ _) w_S_argument ini_S d_L_law_222 rfl (z_goV (As := [.int (f (4 * t + 1)), .long vv]) C l_L_55 w_S_argument d_L_law_222 (by omega) rfl rfl rfl) (Nat.le_of_ble_eq_true rfl) (by omega) (by omega) (by omega) (by omega) (fun v n' σ' hv => ?_) (fun x n' σ' hv => ?_)
  · obtain ⟨e0, e1, rfl⟩ := hv
    cases e0
    obtain rfl : n = n' := e1.symm
    rw [← mx_comm]
    refine z_aload_n C 226 d_L_law_225 rfl rfl ?_
    refine z_aload_n C 227 d_L_law_226 rfl rfl ?_
    refine z_iload C 229 d_L_law_227 rfl rfl ?_
    refine z_iconst C 230 d_L_law_229 rfl 1 (by decide) ?_
    refine z_iadd C 231 d_L_law_230 rfl ?_
    refine z_iald0 C 232 (4 * t + 1) d_L_law_231 rfl hX (nI_add _ 1) (by omega) ?_
    refine z_aload_n C 233 d_L_law_232 rfl rfl ?_
    refine z_iload C 235 d_L_law_233 rfl rfl ?_
    refine z_iconst C 236 d_L_law_235 rfl 2 (by decide) ?_
    refine z_iadd C 237 d_L_law_236 rfl ?_
    refine z_iald0 C 238 (4 * t + 2) d_L_law_237 rfl hX (nI_add _ 2) (by omega) ?_
    refine z_i2l C 239 d_L_law_238 rfl ?_
    refine z_bipush C 241 d_L_law_239 rfl 32 (by decide) ?_
    refine z_lshl C 242 d_L_law_241 rfl ?_
    refine z_aload_n C 243 d_L_law_242 rfl rfl ?_
    refine z_iload C 245 d_L_law_243 rfl rfl ?_
    refine z_iconst C 246 d_L_law_245 rfl 3 (by decide) ?_
    refine z_iadd C 247 d_L_law_246 rfl ?_
    refine z_iald0 C 248 (4 * t + 3) d_L_law_247 rfl hX (nI_add _ 3) (by omega) ?_
    refine z_i2l C 249 d_L_law_248 rfl ?_
    refine z_ldc2 C 252 4294967295 d_L_law_249 rfl cl_L_53 ?_
    refine z_land C 253 d_L_law_252 rfl ?_
    refine z_lor C 254 d_L_law_253 rfl ?_
    rw [hvv]
    refine z_call C 257 (c_M_argument (by omega) _ _) w_M_argument ini_M d_L_law_254 rfl (z_goV (As := [.int (f (4 * t + 1)), .long vv]) C l_L_59 w_M_argument d_L_law_254 (by omega) rfl rfl rfl) (Nat.le_of_ble_eq_true rfl) (by omega) (by omega) (by omega) (by omega) (fun v n' σ' hv => ?_) (fun x n' σ' hv => ?_)
    · obtain ⟨e0, e1, rfl⟩ := hv
      cases e0
      obtain rfl : n = n' := e1.symm
      rw [mx_comm]
      refine z_icmp_eq C 260 435 d_L_law_257 rfl (by decide) (fun _ => ?_) (fun h9 => absurd rfl h9)
      exact hF _ _ _ _ _ _ _ _ _ _ _ _ _ (by omega) (by omega) ho ((hrel vv).code 0) (by omega) (by omega)
    · cases hv.1
  · cases hv.1
theorem l_c0 (C : zC G K y_L_law b_L_law 7 (some .boolean) []) (hX : zOld G K Ls f) (hr : lRoom K Ls) (hO : rFRok FR) (hF : lFin G K FR t) (a : lAt FR Ls t n σ xs xr xa xl xf S A L rn k1 k2) : Z G K n (xOv xs xr xa xl xf (mOv S A L rn σ)) k1 k2 96 (lv0 t) [] := by
  obtain ⟨ht, hn, hn2, ho, hk1, hk2, h⟩ := a
  obtain ⟨r1, r2, r3, r4⟩ := hr
  obtain ⟨⟨u, z, hT⟩, -⟩ := id h
  have hT' : rTx xs xa (upd S 0 0) A u z := hT
  obtain ⟨t1, t2, t3, t4, t5, t6, -⟩ := id hT
  refine z_aload_n C 97 d_L_law_96 rfl rfl ?_
  refine z_aload_n C 98 d_L_law_97 rfl rfl ?_
  refine z_iload C 100 d_L_law_98 rfl rfl ?_
  refine z_iconst C 101 d_L_law_100 rfl 1 (by decide) ?_
  refine z_iadd C 102 d_L_law_101 rfl ?_
  refine z_iald0 C 103 (4 * t + 1) d_L_law_102 rfl hX (nI_add _ 1) (by omega) ?_
  refine z_i2c C 104 d_L_law_103 rfl ?_
  generalize hcc : ((f (4 * t + 1)).toUInt32 % 65536).toInt32 = c
  have hbd : mbad S c ↔ (c < 32 ∨ 126 < c ∨ u = 150) := by
    unfold mbad
    rw [t3]
    have e : nI u = 150 ↔ u = 150 := nI_eq (b := 150) (by omega) (by omega)
    rw [e]
  have hu : ¬ (c < 32 ∨ 126 < c ∨ u = 150) → u < 150 := fun q => Nat.lt_of_le_of_ne t6 (fun e => q (Or.inr (Or.inr e)))
  refine z_call C 107 (c_S_type (by omega) _ u z t1 t2 t5 t6) w_S_type ini_S d_L_law_104 rfl (z_goV (As := [.int c]) C l_L_31 w_S_type d_L_law_104 (by omega) rfl rfl rfl) (Nat.le_of_ble_eq_true rfl) (by omega) (by omega) (by omega) (by omega) (fun v n' σ' hv => ?_) (fun x n' σ' hv => ?_)
  · obtain ⟨e1, hv⟩ := hv
    obtain rfl : n = n' := e1.symm
    rcases hv with ⟨b, e0, rfl⟩ | ⟨b, b2, e0, rfl⟩ | ⟨b, b2, e0, rfl⟩
    · cases e0
      rw [← mx_comm]
      refine z_aload_n C 108 d_L_law_107 rfl rfl ?_
      refine z_aload_n C 109 d_L_law_108 rfl rfl ?_
      refine z_iload C 111 d_L_law_109 rfl rfl ?_
      refine z_iconst C 112 d_L_law_111 rfl 1 (by decide) ?_
      refine z_iadd C 113 d_L_law_112 rfl ?_
      refine z_iald0 C 114 (4 * t + 1) d_L_law_113 rfl hX (nI_add _ 1) (by omega) ?_
      refine z_i2c C 115 d_L_law_114 rfl ?_
      rw [hcc]
      refine z_call C 118 (c_M_type (by omega) _ u z t3 t4 t5 t6) w_M_type ini_M d_L_law_115 rfl (z_goV (As := [.int c]) C l_L_35 w_M_type d_L_law_115 (by omega) rfl rfl rfl) (Nat.le_of_ble_eq_true rfl) (by omega) (by omega) (by omega) (by omega) (fun v n' σ' hv => ?_) (fun x n' σ' hv => ?_)
      · obtain ⟨e1, hv⟩ := hv
        obtain rfl : n = n' := e1.symm
        rcases hv with ⟨d, e0, rfl⟩ | ⟨d, -⟩ | ⟨d, -⟩
        · cases e0
          rw [mx_comm]
          refine z_icmp_eq C 121 435 d_L_law_118 rfl (by decide) (fun _ => ?_) (fun h9 => absurd rfl h9)
          exact hF _ _ _ _ _ _ _ _ _ _ _ _ _ (by omega) (by omega) ho (h.code 0) (by omega) (by omega)
        · exact absurd (hbd.mpr b) d
        · exact absurd (hbd.mpr b) d
      · rcases hv.2 with ⟨_, e0, _⟩ | ⟨_, _, e0, _⟩ | ⟨_, _, e0, _⟩ <;> cases e0
    · cases e0
      rw [← mx_comm]
      refine z_aload_n C 108 d_L_law_107 rfl rfl ?_
      refine z_aload_n C 109 d_L_law_108 rfl rfl ?_
      refine z_iload C 111 d_L_law_109 rfl rfl ?_
      refine z_iconst C 112 d_L_law_111 rfl 1 (by decide) ?_
      refine z_iadd C 113 d_L_law_112 rfl ?_
      refine z_iald0 C 114 (4 * t + 1) d_L_law_113 rfl hX (nI_add _ 1) (by omega) ?_
      refine z_i2c C 115 d_L_law_114 rfl ?_
      rw [hcc]
      refine z_call C 118 (c_M_type (by omega) _ u z t3 t4 t5 t6) w_M_type ini_M d_L_law_115 rfl (z_goV (As := [.int c]) C l_L_35 w_M_type d_L_law_115 (by omega) rfl rfl rfl) (Nat.le_of_ble_eq_true rfl) (by omega) (by omega) (by omega) (by omega) (fun v n' σ' hv => ?_) (fun x n' σ' hv => ?_)
      · obtain ⟨e1, hv⟩ := hv
        obtain rfl : n = n' := e1.symm
        rcases hv with ⟨d, -⟩ | ⟨d, -, e0, rfl⟩ | ⟨d, d2, -⟩
        · exact absurd (hbd.mp d) b
        · cases e0
          rw [mx_comm]
          refine z_icmp_eq C 121 435 d_L_law_118 rfl (by decide) (fun _ => ?_) (fun h9 => absurd rfl h9)
          exact hF _ _ _ _ _ _ _ _ _ _ _ _ _ (by omega) (by omega) ho (Rel.space (h.code 0) hT' (hu b)) (by omega) (by omega)
        · exact absurd b2 d2
      · rcases hv.2 with ⟨_, e0, _⟩ | ⟨_, _, e0, _⟩ | ⟨_, _, e0, _⟩ <;> cases e0
    · cases e0
      rw [← mx_comm]
      refine z_aload_n C 108 d_L_law_107 rfl rfl ?_
      refine z_aload_n C 109 d_L_law_108 rfl rfl ?_
      refine z_iload C 111 d_L_law_109 rfl rfl ?_
      refine z_iconst C 112 d_L_law_111 rfl 1 (by decide) ?_
      refine z_iadd C 113 d_L_law_112 rfl ?_
      refine z_iald0 C 114 (4 * t + 1) d_L_law_113 rfl hX (nI_add _ 1) (by omega) ?_
      refine z_i2c C 115 d_L_law_114 rfl ?_
      rw [hcc]
      refine z_call C 118 (c_M_type (by omega) _ u z t3 t4 t5 t6) w_M_type ini_M d_L_law_115 rfl (z_goV (As := [.int c]) C l_L_35 w_M_type d_L_law_115 (by omega) rfl rfl rfl) (Nat.le_of_ble_eq_true rfl) (by omega) (by omega) (by omega) (by omega) (fun v n' σ' hv => ?_) (fun x n' σ' hv => ?_)
      · obtain ⟨e1, hv⟩ := hv
        obtain rfl : n = n' := e1.symm
        rcases hv with ⟨d, -⟩ | ⟨d, d2, -⟩ | ⟨d, -, e0, rfl⟩
        · exact absurd (hbd.mp d) b
        · exact absurd d2 b2
        · cases e0
          rw [mx_comm]
          refine z_icmp_eq C 121 435 d_L_law_118 rfl (by decide) (fun _ => ?_) (fun h9 => absurd rfl h9)
          exact hF _ _ _ _ _ _ _ _ _ _ _ _ _ (by omega) (by omega) ho (Rel.char hO (h.code 0) hT' (hu b) (fun q => b (Or.inl q)) (fun q => b (Or.inr (Or.inl q))) b2) (by omega) (by omega)
      · rcases hv.2 with ⟨_, e0, _⟩ | ⟨_, _, e0, _⟩ | ⟨_, _, e0, _⟩ <;> cases e0
  · rcases hv.2 with ⟨_, e0, _⟩ | ⟨_, _, e0, _⟩ | ⟨_, _, e0, _⟩ <;> cases e0
end LW2
end
section
/-- what a call of the class that may throw, and the reference's after it, give: the law needs no more of define and of run -/
def lCall (G : zG) (l : Launch) (FR : rFR) (m : Nat) (yS : MethodName) (bS : ByteArray) (nS : Nat) (avS : List Value) (yM : MethodName) (bM : ByteArray) (nM : Nat) (avM : List Value) (n : Nat) (σ : zS) (xs : mS) (xr : Int64) (xa : mA) (xl : mL) (xf : xF) (S : mS) (A : mA) (L : mL) (rn : Int64) : Prop :=
  ∃ (d mc ms dM : Nat), d ≤ 1300 ∧ dM ≤ 1300 ∧ mc ≤ 1000 ∧ ms ≤ 14000 ∧ ∃ post : zPost, MetZ G l yS bS nS (some .int) [] d mc ms avS n (xOv xs xr xa xl xf (mOv S A L rn σ)) post ∧
    ∀ o n' σ', post o n' σ' → n ≤ n' ∧ n' ≤ n + 1000 ∧ ∃ (xs' : mS) (xr' : Int64) (xa' : mA) (xl' : mL) (xf' : xF) (σ1 : zS) (code : Nat) (v : Int32), σ' = xOv xs' xr' xa' xl' xf' (mOv S A L rn σ1) ∧ σ1 113 = σ 113 ∧
      ((code = 0 ∧ o = .returned (some (.int v))) ∨ ∃ x c, code = c + 1 ∧ c < m ∧ 114 ≤ x ∧ x < n' ∧ o = .threw x ∧ σ1 x = .inr (9 + c, [])) ∧
      ∀ σ2 τ : zS, (∀ i, i ≠ 113 → σ2 i = σ1 i) → MetZ G l yM bM nM (some .int) [] dM 0 0 avM n' (mOv S A L rn τ) (fun o n'' σ'' => ∃ (S' : mS) (A' : mA) (L' : mL) (rn' : Int64) (v' : Int32), o = .returned (some (.int v')) ∧ n'' = n' ∧ σ'' = mOv S' A' L' rn' τ ∧ S' 0 = nI code ∧ (code = 0 → v' = v) ∧ Rel FR n' σ2 xs' xr' xa' xl' xf' S' A' L' rn')
section LW3
variable {G : zG} {K : zK} {FR : rFR} {n k1 k2 t Ls : Nat} {f : Nat → Int32} {σ : zS} {xs : mS} {xr : Int64} {xa : mA} {xl : mL} {xf : xF} {S : mS} {A : mA} {L : mL} {rn : Int64}
theorem l_at {x : Nat} (h : 113 ≤ x) : xOv xs xr xa xl xf (mOv S A L rn σ) x = σ x := by
  unfold xOv mOv
  rw [if_neg (by omega), if_neg (by omega), if_neg (by omega), if_neg (by omega), if_neg (by omega), if_neg (by omega), if_neg (by omega), if_pos (by omega), if_neg (by omega), if_neg (by omega), if_pos h]
theorem l_up (e : va_E) : va_up (xOv xs xr xa xl xf (mOv S A L rn σ)) 113 e = xOv xs xr xa xl xf (mOv S A L rn (va_up σ 113 e)) := by
  funext i
  by_cases h : i = 113
  · subst h
    rw [va_up_self, l_at (Nat.le_refl _), va_up_self]
  · rw [va_up_ne _ _ h]
    unfold xOv mOv
    rw [va_up_ne _ _ h]
theorem l_1d (C : zC G K y_L_law b_L_law 7 (some .boolean) []) (hr : lRoom K Ls) (hF : lFin G K FR t) (ht : 4 * t + 4 ≤ Ls) (hn : 114 ≤ n) (hn2 : n ≤ 114 + 1000 * (t + 1)) (ho : lOut σ) (hk1 : k1 ≤ 114 + 1000 * (t + 1)) (hk2 : k2 ≤ 27457 + 14000 * (t + 1)) {code dM : Nat} {v : Int32} (hcd : code < 6) (hdM : dM ≤ 1300) (hv0 : code = 0 → ∃ g, σ 113 = .inl (1, 1, .inr (.inl g)) ∧ g 0 = v.toInt64)
    (hM : MetZ G (kl K) y_M_define b_M_define 4 (some .int) [] dM 0 0 [.ref 85] n (mOv S A L rn (xOv xs xr xa xl xf σ)) (fun o n'' σ'' => ∃ (S' : mS) (A' : mA) (L' : mL) (rn' : Int64) (v' : Int32), o = .returned (some (.int v')) ∧ n'' = n ∧ σ'' = mOv S' A' L' rn' (xOv xs xr xa xl xf σ) ∧ S' 0 = nI code ∧ (code = 0 → v' = v) ∧ Rel FR n σ xs xr xa xl xf S' A' L' rn')) :
    Z G K n (xOv xs xr xa xl xf (mOv S A L rn σ)) k1 k2 128 (lv0 t) [.int (nI code)] := by
  obtain ⟨r1, r2, r3, r4⟩ := hr
  rw [← mx_comm]
  refine z_istore C 130 d_L_law_128 rfl (by decide) ?_
  refine z_aload_n C 131 d_L_law_130 rfl rfl ?_
  refine z_call C 134 (hM) w_M_define ini_M d_L_law_131 rfl (z_goV (As := []) C l_L_41 w_M_define d_L_law_131 (by omega) rfl rfl rfl) (Nat.le_of_ble_eq_true rfl) (by omega) (by omega) (by omega) (by omega) (fun v n' σ' hv => ?_) (fun x n' σ' hv => ?_)
  · obtain ⟨S', A', L', rn', v', e0, e1, rfl, hc, hvv, h⟩ := hv
    cases e0
    obtain rfl : n = n' := e1.symm
    refine z_istore C 136 d_L_law_134 rfl (by decide) ?_
    refine z_aload_n C 137 d_L_law_136 rfl rfl ?_
    refine z_call C 140 (c_M_thrown (by omega)) w_M_thrown ini_M d_L_law_137 rfl (z_goV (As := []) C l_L_42 w_M_thrown d_L_law_137 (by omega) rfl rfl rfl) (Nat.le_of_ble_eq_true rfl) (by omega) (by omega) (by omega) (by omega) (fun v n' σ' hv => ?_) (fun x n' σ' hv => ?_)
    · obtain ⟨e0, e1, rfl⟩ := hv
      cases e0
      obtain rfl : n = n' := e1.symm
      rw [mx_comm]
      refine z_iload C 142 d_L_law_140 rfl rfl ?_
      refine z_icmp_eq C 145 147 d_L_law_142 rfl (by decide) (fun _ => ?_) (fun h9 => absurd hc h9)
      refine z_iload C 149 d_L_law_147 rfl rfl ?_
      refine z_if_ne C 152 164 d_L_law_149 rfl (by decide) (fun hz => ?_) (fun hz => ?_)
      · refine z_goto C 435 d_L_law_164 (by decide) ?_
        exact Z.lvs (lv' := lv0 t) (fun q hq => List.mem_cons_of_mem _ (List.mem_cons_of_mem _ hq)) (hF _ _ _ _ _ _ _ _ _ _ _ _ _ (by omega) (by omega) ho h (by omega) (by omega))
      · have hc0 : code = 0 := Decidable.byContradiction fun q => absurd hz (nI_ne0 (by omega) (by omega))
        obtain ⟨g, hg, hg0⟩ := hv0 hc0
        refine z_aload_n C 153 d_L_law_152 rfl rfl ?_
        refine z_iconst C 154 d_L_law_153 rfl 0 (by decide) ?_
        refine z_lald C 155 0 d_L_law_154 rfl (by omega) ((l_at (by decide)).trans hg) rfl (by decide) (by decide) ?_
        refine z_iload C 157 d_L_law_155 rfl rfl ?_
        refine z_i2l C 158 d_L_law_157 rfl ?_
        refine z_lcmp C 159 d_L_law_158 rfl ?_
        refine z_if_eq C 162 164 d_L_law_159 rfl (by decide) (fun _ => ?_) (fun h9 => absurd ((lg_cmp_eq _ _).mpr (by rw [hvv hc0]; exact hg0)) h9)
        refine z_goto C 435 d_L_law_164 (by decide) ?_
        exact Z.lvs (lv' := lv0 t) (fun q hq => List.mem_cons_of_mem _ (List.mem_cons_of_mem _ hq)) (hF _ _ _ _ _ _ _ _ _ _ _ _ _ (by omega) (by omega) ho h (by omega) (by omega))
    · cases hv.1
  · obtain ⟨S', A', L', rn', v', e0, -⟩ := hv
    cases e0
theorem l_1r (C : zC G K y_L_law b_L_law 7 (some .boolean) []) (hX : zOld G K Ls f) (hr : lRoom K Ls) (hF : lFin G K FR t) (ht : 4 * t + 4 ≤ Ls) (hn : 114 ≤ n) (hn2 : n ≤ 114 + 1000 * (t + 1)) (ho : lOut σ) (hk1 : k1 ≤ 114 + 1000 * (t + 1)) (hk2 : k2 ≤ 27457 + 14000 * (t + 1)) {code dM : Nat} {v : Int32} (hcd : code < 6) (hdM : dM ≤ 1300) (hv0 : code = 0 → ∃ g, σ 113 = .inl (1, 1, .inr (.inl g)) ∧ g 0 = v.toInt64)
    (hM : MetZ G (kl K) y_M_run b_M_run 5 (some .int) [] dM 0 0 [.ref 85, .int ((f (4 * t + 1)).toUInt32 % 65536).toInt32] n (mOv S A L rn (xOv xs xr xa xl xf σ)) (fun o n'' σ'' => ∃ (S' : mS) (A' : mA) (L' : mL) (rn' : Int64) (v' : Int32), o = .returned (some (.int v')) ∧ n'' = n ∧ σ'' = mOv S' A' L' rn' (xOv xs xr xa xl xf σ) ∧ S' 0 = nI code ∧ (code = 0 → v' = v) ∧ Rel FR n σ xs xr xa xl xf S' A' L' rn')) :
    Z G K n (xOv xs xr xa xl xf (mOv S A L rn σ)) k1 k2 274 (lv0 t) [.int (nI code)] := by
  obtain ⟨r1, r2, r3, r4⟩ := hr
  rw [← mx_comm]
  refine z_istore C 276 d_L_law_274 rfl (by decide) ?_
  refine z_aload_n C 277 d_L_law_276 rfl rfl ?_
  refine z_aload_n C 278 d_L_law_277 rfl rfl ?_
  refine z_iload C 280 d_L_law_278 rfl rfl ?_
  refine z_iconst C 281 d_L_law_280 rfl 1 (by decide) ?_
  refine z_iadd C 282 d_L_law_281 rfl ?_
  refine z_iald0 C 283 (4 * t + 1) d_L_law_282 rfl hX (nI_add _ 1) (by omega) ?_
  refine z_i2c C 284 d_L_law_283 rfl ?_
  refine z_call C 287 (hM) w_M_run ini_M d_L_law_284 rfl (z_goV (As := [.int ((f (4 * t + 1)).toUInt32 % 65536).toInt32]) C l_L_63 w_M_run d_L_law_284 (by omega) rfl rfl rfl) (Nat.le_of_ble_eq_true rfl) (by omega) (by omega) (by omega) (by omega) (fun v n' σ' hv => ?_) (fun x n' σ' hv => ?_)
  · obtain ⟨S', A', L', rn', v', e0, e1, rfl, hc, hvv, h⟩ := hv
    cases e0
    obtain rfl : n = n' := e1.symm
    refine z_istore C 289 d_L_law_287 rfl (by decide) ?_
    refine z_aload_n C 290 d_L_law_289 rfl rfl ?_
    refine z_call C 293 (c_M_thrown (by omega)) w_M_thrown ini_M d_L_law_290 rfl (z_goV (As := []) C l_L_42 w_M_thrown d_L_law_290 (by omega) rfl rfl rfl) (Nat.le_of_ble_eq_true rfl) (by omega) (by omega) (by omega) (by omega) (fun v n' σ' hv => ?_) (fun x n' σ' hv => ?_)
    · obtain ⟨e0, e1, rfl⟩ := hv
      cases e0
      obtain rfl : n = n' := e1.symm
      rw [mx_comm]
      refine z_iload C 295 d_L_law_293 rfl rfl ?_
      refine z_icmp_eq C 298 300 d_L_law_295 rfl (by decide) (fun _ => ?_) (fun h9 => absurd hc h9)
      refine z_iload C 302 d_L_law_300 rfl rfl ?_
      refine z_if_ne C 305 317 d_L_law_302 rfl (by decide) (fun hz => ?_) (fun hz => ?_)
      · refine z_goto C 435 d_L_law_317 (by decide) ?_
        exact Z.lvs (lv' := lv0 t) (fun q hq => List.mem_cons_of_mem _ (List.mem_cons_of_mem _ hq)) (hF _ _ _ _ _ _ _ _ _ _ _ _ _ (by omega) (by omega) ho h (by omega) (by omega))
      · have hc0 : code = 0 := Decidable.byContradiction fun q => absurd hz (nI_ne0 (by omega) (by omega))
        obtain ⟨g, hg, hg0⟩ := hv0 hc0
        refine z_aload_n C 306 d_L_law_305 rfl rfl ?_
        refine z_iconst C 307 d_L_law_306 rfl 0 (by decide) ?_
        refine z_lald C 308 0 d_L_law_307 rfl (by omega) ((l_at (by decide)).trans hg) rfl (by decide) (by decide) ?_
        refine z_iload C 310 d_L_law_308 rfl rfl ?_
        refine z_i2l C 311 d_L_law_310 rfl ?_
        refine z_lcmp C 312 d_L_law_311 rfl ?_
        refine z_if_eq C 315 317 d_L_law_312 rfl (by decide) (fun _ => ?_) (fun h9 => absurd ((lg_cmp_eq _ _).mpr (by rw [hvv hc0]; exact hg0)) h9)
        refine z_goto C 435 d_L_law_317 (by decide) ?_
        exact Z.lvs (lv' := lv0 t) (fun q hq => List.mem_cons_of_mem _ (List.mem_cons_of_mem _ hq)) (hF _ _ _ _ _ _ _ _ _ _ _ _ _ (by omega) (by omega) ho h (by omega) (by omega))
    · cases hv.1
  · obtain ⟨S', A', L', rn', v', e0, -⟩ := hv
    cases e0
theorem l_c1 (C : zC G K y_L_law b_L_law 7 (some .boolean) []) (hr : lRoom K Ls) (hF : lFin G K FR t) (a : lAt FR Ls t n σ xs xr xa xl xf S A L rn k1 k2) (hC : lCall G (kl K) FR 2 y_S_define b_S_define 3 [.ref 0] y_M_define b_M_define 4 [.ref 85] n σ xs xr xa xl xf S A L rn) : Z G K n (xOv xs xr xa xl xf (mOv S A L rn σ)) k1 k2 123 (lv0 t) [] := by
  obtain ⟨ht, hn, hn2, ho, hk1, hk2, h⟩ := a
  have hr' := hr
  obtain ⟨r1, r2, r3, r4⟩ := hr
  obtain ⟨d, mc, ms, dM, hd, hdM, hmc, hms, post, hM, hpost⟩ := hC
  have hok : lOk post 2 := fun o n' σ' hp => by
    obtain ⟨p1, p2, xs', xr', xa', xl', xf', σ1, code, v, rfl, p3, p4, -⟩ := hpost o n' σ' hp
    refine ⟨by omega, ?_, ?_⟩
    · obtain ⟨g, hg⟩ := ho
      exact ⟨g, (l_at (by decide)).trans (p3.trans hg)⟩
    · rcases p4 with ⟨-, rfl⟩ | ⟨x, c, -, hc, hx, hx2, rfl, hcell⟩
      · exact Or.inl ⟨v, rfl⟩
      · exact Or.inr ⟨x, c, rfl, hx2, hc, (l_at (by omega)).trans hcell⟩
  refine z_aload_n C 124 d_L_law_123 rfl rfl ?_
  refine z_aload_n C 125 d_L_law_124 rfl rfl ?_
  refine z_call C 128 (c_L_define hM hok (by omega) ⟨_, rfl⟩) w_L_define ini_L d_L_law_125 rfl (z_goS (As := [.ref 0, .ref 113]) C l_L_36 w_L_define nm_L_define d_L_law_125 rfl) (Nat.le_of_ble_eq_true rfl) (by omega) (by omega) (by omega) (by omega) (fun v n' σ' hv => ?_) (fun x n' σ' hv => ?_)
  · rcases hv with ⟨v0, σ0, g, hp, hg, e0, rfl⟩ | ⟨x, c, hp, hcx, e0⟩
    · cases e0
      obtain ⟨p1, p2, xs', xr', xa', xl', xf', σ1, code, v, rfl, p3, p4, p5⟩ := hpost _ _ _ hp
      have b1 : n' ≤ 114 + 1000 * (t + 1) := Nat.le_trans p2 (by rw [Nat.mul_succ, ← Nat.add_assoc]; exact Nat.add_le_add_right hn2 1000)
      have b2 : k1 + mc ≤ 114 + 1000 * (t + 1) := by rw [Nat.mul_succ, ← Nat.add_assoc]; exact Nat.add_le_add hk1 hmc
      have b3 : k2 + ms ≤ 27457 + 14000 * (t + 1) := by rw [Nat.mul_succ, ← Nat.add_assoc]; exact Nat.add_le_add hk2 hms
      rcases p4 with ⟨rfl, p4⟩ | ⟨x, c, -, -, -, -, p4, -⟩
      · cases p4
        rw [l_up]
        refine l_1d (code := 0) C hr' hF ht (Nat.le_trans hn p1) b1 ⟨_, va_up_self _ _ _⟩ b2 b3 (by decide) hdM (fun _ => ⟨_, va_up_self _ _ _, ?_⟩) (p5 _ _ (fun i hi => va_up_ne _ _ hi))
        exact if_pos rfl
      · cases p4
    · cases e0
      obtain ⟨p1, p2, xs', xr', xa', xl', xf', σ1, code, v, rfl, p3, p4, p5⟩ := hpost _ _ _ hp
      have b1 : n' ≤ 114 + 1000 * (t + 1) := Nat.le_trans p2 (by rw [Nat.mul_succ, ← Nat.add_assoc]; exact Nat.add_le_add_right hn2 1000)
      have b2 : k1 + mc ≤ 114 + 1000 * (t + 1) := by rw [Nat.mul_succ, ← Nat.add_assoc]; exact Nat.add_le_add hk1 hmc
      have b3 : k2 + ms ≤ 27457 + 14000 * (t + 1) := by rw [Nat.mul_succ, ← Nat.add_assoc]; exact Nat.add_le_add hk2 hms
      rcases p4 with ⟨-, p4⟩ | ⟨x', c', rfl, hc, hx, hx2, p4, hcell⟩
      · cases p4
      · cases p4
        rw [l_at (by omega), hcell] at hcx
        have hcc : c' = c := by
          have q := congrArg Prod.fst (Sum.inr.inj hcx)
          have q : 9 + c' = 9 + c := q
          omega
        subst hcc
        exact l_1d (code := c' + 1) C hr' hF ht (Nat.le_trans hn p1) b1 (ho.elim fun g hg => ⟨g, p3.trans hg⟩) b2 b3 (by omega) hdM (fun q => absurd q (by omega)) (p5 _ _ (fun i _ => rfl))
  · rcases hv with ⟨v0, σ0, g, hp, hg, e0, -⟩ | ⟨x, c, hp, hcx, e0⟩ <;> cases e0
theorem l_c5 (C : zC G K y_L_law b_L_law 7 (some .boolean) []) (hX : zOld G K Ls f) (hr : lRoom K Ls) (hF : lFin G K FR t) (a : lAt FR Ls t n σ xs xr xa xl xf S A L rn k1 k2) (hC : lCall G (kl K) FR 5 y_S_run b_S_run 3 [.ref 0, .int ((f (4 * t + 1)).toUInt32 % 65536).toInt32] y_M_run b_M_run 5 [.ref 85, .int ((f (4 * t + 1)).toUInt32 % 65536).toInt32] n σ xs xr xa xl xf S A L rn) : Z G K n (xOv xs xr xa xl xf (mOv S A L rn σ)) k1 k2 262 (lv0 t) [] := by
  obtain ⟨ht, hn, hn2, ho, hk1, hk2, h⟩ := a
  have hr' := hr
  obtain ⟨r1, r2, r3, r4⟩ := hr
  obtain ⟨d, mc, ms, dM, hd, hdM, hmc, hms, post, hM, hpost⟩ := hC
  have hok : lOk post 5 := fun o n' σ' hp => by
    obtain ⟨p1, p2, xs', xr', xa', xl', xf', σ1, code, v, rfl, p3, p4, -⟩ := hpost o n' σ' hp
    refine ⟨by omega, ?_, ?_⟩
    · obtain ⟨g, hg⟩ := ho
      exact ⟨g, (l_at (by decide)).trans (p3.trans hg)⟩
    · rcases p4 with ⟨-, rfl⟩ | ⟨x, c, -, hc, hx, hx2, rfl, hcell⟩
      · exact Or.inl ⟨v, rfl⟩
      · exact Or.inr ⟨x, c, rfl, hx2, hc, (l_at (by omega)).trans hcell⟩
  refine z_aload_n C 263 d_L_law_262 rfl rfl ?_
  refine z_aload_n C 264 d_L_law_263 rfl rfl ?_
  refine z_iload C 266 d_L_law_264 rfl rfl ?_
  refine z_iconst C 267 d_L_law_266 rfl 1 (by decide) ?_
  refine z_iadd C 268 d_L_law_267 rfl ?_
  refine z_iald0 C 269 (4 * t + 1) d_L_law_268 rfl hX (nI_add _ 1) (by omega) ?_
  refine z_i2c C 270 d_L_law_269 rfl ?_
  refine z_aload_n C 271 d_L_law_270 rfl rfl ?_
  refine z_call C 274 (c_L_run hM hok (by omega) ⟨_, rfl⟩) w_L_run ini_L d_L_law_271 rfl (z_goS (As := [.ref 0, .int ((f (4 * t + 1)).toUInt32 % 65536).toInt32, .ref 113]) C l_L_60 w_L_run nm_L_run d_L_law_271 rfl) (Nat.le_of_ble_eq_true rfl) (by omega) (by omega) (by omega) (by omega) (fun v n' σ' hv => ?_) (fun x n' σ' hv => ?_)
  · rcases hv with ⟨v0, σ0, g, hp, hg, e0, rfl⟩ | ⟨x, c, hp, hcx, e0⟩
    · cases e0
      obtain ⟨p1, p2, xs', xr', xa', xl', xf', σ1, code, v, rfl, p3, p4, p5⟩ := hpost _ _ _ hp
      have b1 : n' ≤ 114 + 1000 * (t + 1) := Nat.le_trans p2 (by rw [Nat.mul_succ, ← Nat.add_assoc]; exact Nat.add_le_add_right hn2 1000)
      have b2 : k1 + mc ≤ 114 + 1000 * (t + 1) := by rw [Nat.mul_succ, ← Nat.add_assoc]; exact Nat.add_le_add hk1 hmc
      have b3 : k2 + ms ≤ 27457 + 14000 * (t + 1) := by rw [Nat.mul_succ, ← Nat.add_assoc]; exact Nat.add_le_add hk2 hms
      rcases p4 with ⟨rfl, p4⟩ | ⟨x, c, -, -, -, -, p4, -⟩
      · cases p4
        rw [l_up]
        refine l_1r (code := 0) C hX hr' hF ht (Nat.le_trans hn p1) b1 ⟨_, va_up_self _ _ _⟩ b2 b3 (by decide) hdM (fun _ => ⟨_, va_up_self _ _ _, ?_⟩) (p5 _ _ (fun i hi => va_up_ne _ _ hi))
        exact if_pos rfl
      · cases p4
    · cases e0
      obtain ⟨p1, p2, xs', xr', xa', xl', xf', σ1, code, v, rfl, p3, p4, p5⟩ := hpost _ _ _ hp
      have b1 : n' ≤ 114 + 1000 * (t + 1) := Nat.le_trans p2 (by rw [Nat.mul_succ, ← Nat.add_assoc]; exact Nat.add_le_add_right hn2 1000)
      have b2 : k1 + mc ≤ 114 + 1000 * (t + 1) := by rw [Nat.mul_succ, ← Nat.add_assoc]; exact Nat.add_le_add hk1 hmc
      have b3 : k2 + ms ≤ 27457 + 14000 * (t + 1) := by rw [Nat.mul_succ, ← Nat.add_assoc]; exact Nat.add_le_add hk2 hms
      rcases p4 with ⟨-, p4⟩ | ⟨x', c', rfl, hc, hx, hx2, p4, hcell⟩
      · cases p4
      · cases p4
        rw [l_at (by omega), hcell] at hcx
        have hcc : c' = c := by
          have q := congrArg Prod.fst (Sum.inr.inj hcx)
          have q : 9 + c' = 9 + c := q
          omega
        subst hcc
        exact l_1r (code := c' + 1) C hX hr' hF ht (Nat.le_trans hn p1) b1 (ho.elim fun g hg => ⟨g, p3.trans hg⟩) b2 b3 (by omega) hdM (fun q => absurd q (by omega)) (p5 _ _ (fun i _ => rfl))
  · rcases hv with ⟨v0, σ0, g, hp, hg, e0, -⟩ | ⟨x, c, hp, hcx, e0⟩ <;> cases e0
end LW3
end
section
theorem l_and (x : Int32) : ∃ j, j < 16 ∧ x &&& 15 = nI j := by
  refine ⟨(x &&& 15).toBitVec.toNat, ?_, ?_⟩
  · rw [Int32.toBitVec_and, BitVec.toNat_and]
    exact Nat.lt_succ_of_le Nat.and_le_right
  · refine Int32.toBitVec_inj.mp ?_
    show _ = (Int32.ofNat _).toBitVec
    rw [Int32.toBitVec_ofNat']
    simp
theorem l_gt {a b : Nat} (ha : a ≤ 2048) (hb : b ≤ 2048) (h : b ≤ a) : (nI a - 4 < nI b) ↔ a < b + 4 := by
  by_cases q : 4 ≤ a
  · have e : nI a - 4 = nI (a - 4) := by
      have e1 : nI a = nI (a - 4) + 4 := by
        rw [show nI (a - 4) + 4 = nI (a - 4 + 4) from nI_add _ 4, Nat.sub_add_cancel q]
      rw [e1, Int32.add_sub_cancel]
    rw [e, nI_ltI (by omega) (by omega)]
    omega
  · have hh : (a = 0 ∨ a = 1 ∨ a = 2 ∨ a = 3) ∧ (b = 0 ∨ b = 1 ∨ b = 2 ∨ b = 3) := by omega
    obtain ⟨ha', hb'⟩ := hh
    rcases ha' with rfl | rfl | rfl | rfl <;> rcases hb' with rfl | rfl | rfl | rfl <;> decide
/-- the two objects as they are made -/
def lFr (n : Nat) (xs : mS) (xr : Int64) (xa : mA) (xl : mL) (xf : xF) (S : mS) (A : mA) (L : mL) (rn : Int64) : Prop := n = 114 ∧ xs = xs0 ∧ xr = 0 ∧ xa = (fun _ _ => 0) ∧ xl = (fun _ _ => 0) ∧ xf = (fun _ => none) ∧ S = mS0 ∧ A = (fun _ _ => 0) ∧ L = (fun _ _ => 0) ∧ rn = 0
def lHD (G : zG) (l : Launch) (FR : rFR) (Ls : Nat) : Prop := ∀ (t n : Nat) (σ : zS) (xs : mS) (xr : Int64) (xa : mA) (xl : mL) (xf : xF) (S : mS) (A : mA) (L : mL) (rn : Int64), 4 * t + 4 ≤ Ls → Ls ≤ 2048 → (t = 0 → lFr n xs xr xa xl xf S A L rn) → 114 ≤ n → n ≤ 114 + 1000 * t → Rel FR n σ xs xr xa xl xf S A L rn →
  lCall G l FR 2 y_S_define b_S_define 3 [.ref 0] y_M_define b_M_define 4 [.ref 85] n σ xs xr xa xl xf S A L rn
def lHR (G : zG) (l : Launch) (FR : rFR) (Ls : Nat) : Prop := ∀ (t n : Nat) (σ : zS) (xs : mS) (xr : Int64) (xa : mA) (xl : mL) (xf : xF) (S : mS) (A : mA) (L : mL) (rn : Int64) (x : Int32), 4 * t + 4 ≤ Ls → Ls ≤ 2048 → (t = 0 → lFr n xs xr xa xl xf S A L rn) → 114 ≤ n → n ≤ 114 + 1000 * t → Rel FR n σ xs xr xa xl xf S A L rn →
  lCall G l FR 5 y_S_run b_S_run 3 [.ref 0, .int (x.toUInt32 % 65536).toInt32] y_M_run b_M_run 5 [.ref 85, .int (x.toUInt32 % 65536).toInt32] n σ xs xr xa xl xf S A L rn
section LW4
variable {G : zG} {K : zK} {FR : rFR} {Ls : Nat} {f : Nat → Int32}
theorem l_loop (C : zC G K y_L_law b_L_law 7 (some .boolean) []) (hX : zOld G K Ls f) (hr : lRoom K Ls) (hmc : (kR K).cells ≤ kmc K) (hms : (kR K).slots ≤ kms K) (hpo : ∀ n σ, kpo K (.returned (some (.int 1))) n σ) (hO : rFRok FR) (HD : lHD G (kl K) FR Ls) (HR : lHR G (kl K) FR Ls) :
    ∀ (r t n : Nat) (σ : zS) (xs : mS) (xr : Int64) (xa : mA) (xl : mL) (xf : xF) (S : mS) (A : mA) (L : mL) (rn : Int64) (k1 k2 : Nat), Ls / 4 = t + r → (t = 0 → lFr n xs xr xa xl xf S A L rn) → 114 ≤ n → n ≤ 114 + 1000 * t → lOut σ → k1 ≤ 114 + 1000 * t → k2 ≤ 27457 + 14000 * t → Rel FR n σ xs xr xa xl xf S A L rn → Z G K n (xOv xs xr xa xl xf (mOv S A L rn σ)) k1 k2 23 (lv0 t) []
  | 0, t, n, σ, xs, xr, xa, xl, xf, S, A, L, rn, k1, k2, e, _, _, _, _, b1, b2, _ => by
    have hLs := hX.2.2
    obtain ⟨r1, r2, r3, r4⟩ := hr
    refine z_iload C 25 d_L_law_23 rfl rfl ?_
    refine z_aload_n C 26 d_L_law_25 rfl rfl ?_
    refine z_alen0 C 27 d_L_law_26 rfl hX ?_
    refine z_iconst C 28 d_L_law_27 rfl 4 (by decide) ?_
    refine z_isub C 29 d_L_law_28 rfl ?_
    refine z_icmp_gt C 32 441 d_L_law_29 rfl (by decide) (fun _ => ?_) (fun h9 => absurd ((l_gt hLs (by omega) (by omega)).mpr (by omega)) h9)
    refine z_iconst C 442 d_L_law_441 rfl 1 (by decide) ?_
    exact z_zret C rfl rfl d_L_law_442 (hpo _ _) (by omega) (by omega)
  | r + 1, t, n, σ, xs, xr, xa, xl, xf, S, A, L, rn, k1, k2, e, hz, a1, a2, a3, b1, b2, h => by
    have hLs := hX.2.2
    have ht : 4 * t + 4 ≤ Ls := by omega
    have a : lAt FR Ls t n σ xs xr xa xl xf S A L rn k1 k2 := ⟨ht, a1, a2, a3, b1, b2, h⟩
    have hF : lFin G K FR t := fun n' σ' xs' xr' xa' xl' xf' S' A' L' rn' k1' k2' c1 c2 c3 c4 c5 c6 => by
      refine z_iinc C 438 d_L_law_435 rfl (nI (4 * (t + 1))) rfl (nI_add _ 4) (by decide) ?_
      refine z_goto C 23 d_L_law_438 (by decide) ?_
      refine Z.lvs (lv' := lv0 (t + 1)) (fun q hq => ?_) (l_loop C hX hr hmc hms hpo hO HD HR r (t + 1) n' σ' xs' xr' xa' xl' xf' S' A' L' rn' k1' k2' (by omega) (fun z => absurd z (Nat.succ_ne_zero t)) c1 c2 c3 c5 c6 c4)
      show q ∈ ((4, .int (nI (4 * (t + 1)))) :: [(0, .ref 1000000), (1, .ref 0), (2, .ref 85), (3, .ref 113)] : List (Nat × Value))
      have hq' : q ∈ ([(0, .ref 1000000), (1, .ref 0), (2, .ref 85), (3, .ref 113)] ++ [(4, .int (nI (4 * (t + 1))))] : List (Nat × Value)) := hq
      rcases List.mem_append.mp hq' with w | w
      · exact List.mem_cons_of_mem _ w
      · rw [List.mem_singleton.mp w]
        exact List.mem_cons_self
    refine z_iload C 25 d_L_law_23 rfl rfl ?_
    refine z_aload_n C 26 d_L_law_25 rfl rfl ?_
    refine z_alen0 C 27 d_L_law_26 rfl hX ?_
    refine z_iconst C 28 d_L_law_27 rfl 4 (by decide) ?_
    refine z_isub C 29 d_L_law_28 rfl ?_
    refine z_icmp_gt C 32 441 d_L_law_29 rfl (by decide) (fun h9 => absurd h9 (fun q => absurd ((l_gt hLs (by omega) (by omega)).mp q) (by omega))) (fun _ => ?_)
    refine z_aload_n C 33 d_L_law_32 rfl rfl ?_
    refine z_iload C 35 d_L_law_33 rfl rfl ?_
    refine z_iald0 C 36 (4 * t) d_L_law_35 rfl hX rfl (by omega) ?_
    refine z_bipush C 38 d_L_law_36 rfl 15 (by decide) ?_
    refine z_iand C 39 d_L_law_38 rfl ?_
    obtain ⟨j, hj, ej⟩ := l_and (f (4 * t))
    rw [ej]
    rcases (show j = 0 ∨ j = 1 ∨ j = 2 ∨ j = 3 ∨ j = 4 ∨ j = 5 ∨ j = 6 ∨ j = 7 ∨ j = 8 ∨ j = 9 ∨ j = 10 ∨ 11 ≤ j by omega) with rfl | rfl | rfl | rfl | rfl | rfl | rfl | rfl | rfl | rfl | rfl | hj2
    · exact z_tableIn C 96 d_L_law_39 (by decide) (by decide) (off := 57) (by decide) (by decide) (l_c0 C hX hr hO hF a)
    · exact z_tableIn C 123 d_L_law_39 (by decide) (by decide) (off := 84) (by decide) (by decide) (l_c1 C hr hF a (HD t n σ xs xr xa xl xf S A L rn ht hLs hz a1 a2 h))
    · exact z_tableIn C 167 d_L_law_39 (by decide) (by decide) (off := 128) (by decide) (by decide) (l_c2 C hr hF a)
    · exact z_tableIn C 180 d_L_law_39 (by decide) (by decide) (off := 141) (by decide) (by decide) (l_c3 C hr hO hF a)
    · exact z_tableIn C 193 d_L_law_39 (by decide) (by decide) (off := 154) (by decide) (by decide) (l_c4 C hX hr hF a)
    · exact z_tableIn C 262 d_L_law_39 (by decide) (by decide) (off := 223) (by decide) (by decide) (l_c5 C hX hr hF a (HR t n σ xs xr xa xl xf S A L rn _ ht hLs hz a1 a2 h))
    · exact z_tableIn C 320 d_L_law_39 (by decide) (by decide) (off := 281) (by decide) (by decide) (l_c6 C hr hF a)
    · exact z_tableIn C 333 d_L_law_39 (by decide) (by decide) (off := 294) (by decide) (by decide) (l_c7 C hr hF a)
    · exact z_tableIn C 347 d_L_law_39 (by decide) (by decide) (off := 308) (by decide) (by decide) (l_c8 C hX hr hF a)
    · exact z_tableIn C 372 d_L_law_39 (by decide) (by decide) (off := 333) (by decide) (by decide) (l_c9 C hX hr hF a)
    · exact z_tableIn C 410 d_L_law_39 (by decide) (by decide) (off := 371) (by decide) (by decide) (l_c10 C hX hr hF a)
    · exact z_tableOut C 435 d_L_law_39 (Or.inr (by rw [nI_toInt (by omega)]; omega)) (by decide) (hF n σ xs xr xa xl xf S A L rn k1 k2 a1 (by omega) a3 h (by omega) (by omega))
theorem Rel.fresh (hO : rFRok FR) (n : Nat) (σ : zS) : Rel FR n σ xs0 0 (fun _ _ => 0) (fun _ _ => 0) (fun _ => none) mS0 (fun _ _ => 0) (fun _ _ => 0) 0 := by
  refine ⟨⟨0, 0, rfl, rfl, rfl, rfl, by omega, by omega, fun i hi => absurd hi (by omega), fun i _ => rfl, fun i _ => rfl⟩, rfl, ⟨?_, fun f _ => ⟨fun _ => rfl, fun _ => rfl⟩, hO.2.1 _ _ _⟩, fun k _ => rfl, ⟨rfl, Or.inl rfl⟩, rfl, rfl, rfl, rfl⟩
  rw [mcnt_0 8 (fun j _ => rfl)]
  rfl
theorem l_start (C : zC G K y_L_law b_L_law 7 (some .boolean) []) (hX : zOld G K Ls f) (hr : lRoom K Ls) (hmc : (kR K).cells ≤ kmc K) (hms : (kR K).slots ≤ kms K) (hpo : ∀ n σ, kpo K (.returned (some (.int 1))) n σ) (hO : rFRok FR) (HD : lHD G (kl K) FR Ls) (HR : lHR G (kl K) FR Ls) (σ : zS) : Z G K 0 σ 0 0 0 [(0, .ref 1000000)] [] := by
  have hLs := hX.2.2
  have hr' := hr
  obtain ⟨r1, r2, r3, r4⟩ := hr
  refine z_new C 3 n_L_8 d_L_law_0 rfl (by omega) (by omega) (by omega) ?_
  refine z_dup C 4 d_L_law_3 rfl rfl ?_
  refine z_call C 7 (c_S_init rfl) w_S_init ini_S d_L_law_4 rfl (z_goI (As := []) C l_L_27 w_S_init d_L_law_4 rfl) (Nat.le_of_ble_eq_true rfl) (by omega) (by omega) (by omega) (by omega) (fun v n' σ' hv => ?_) (fun x n' σ' hv => ?_)
  · obtain ⟨hv, rfl, h1⟩ := hv
    cases hv
    refine Z.same h1 ?_
    refine z_astore_n C 8 d_L_law_7 rfl (by decide) ?_
    refine z_new C 11 n_L_28 d_L_law_8 rfl (by omega) (by omega) (by omega) ?_
    refine z_dup C 12 d_L_law_11 rfl rfl ?_
    refine z_call C 15 (c_M_init rfl) w_M_init ini_M d_L_law_12 rfl (z_goI (As := []) C l_L_30 w_M_init d_L_law_12 rfl) (Nat.le_of_ble_eq_true rfl) (by omega) (by omega) (by omega) (by omega) (fun v n' σ' hv => ?_) (fun x n' σ' hv => ?_)
    · obtain ⟨hv, rfl, h2, h3⟩ := hv
      cases hv
      refine Z.same (τ := xOv xs0 0 (fun _ _ => 0) (fun _ _ => 0) (fun _ => none) (mOv mS0 (fun _ _ => 0) (fun _ _ => 0) 0 σ)) (fun i hi => ?_) ?_
      · by_cases q : i < 85
        · rw [h2 i q, va_up_ne _ _ (by omega)]
          unfold xI xOv
          rw [if_neg (show ¬ 85 ≤ i by omega), if_neg (show ¬ 85 ≤ i by omega)]
        · rw [h3 i (by omega) hi]
          unfold mI xOv mOv
          rw [if_neg (show ¬ i = 0 by omega), if_neg (show ¬ i = 2 by omega), if_neg (show ¬ i = 5 by omega), if_neg (show ¬ i = 6 by omega), if_neg (show ¬ i = 3 by omega), if_neg (show ¬ i = 9 by omega), if_neg (show ¬ i = 19 by omega), if_pos (show 85 ≤ i by omega)]
          by_cases q5 : i = 85
          · rw [if_pos q5, if_pos q5]
          · rw [if_neg q5, if_neg q5, if_neg (show ¬ i < 86 by omega), if_neg (show ¬ i < 86 by omega), if_neg (show ¬ 113 ≤ i by omega), if_neg (show ¬ 113 ≤ i by omega)]
      refine z_astore_n C 16 d_L_law_15 rfl (by decide) ?_
      refine z_iconst C 17 d_L_law_16 rfl 1 (by decide) ?_
      refine z_newa C 19 1 1 (a := (1, .inr (.inl (fun _ => 0)))) rfl rfl aw_long (fun _ => rfl) (fun h => h) d_L_law_17 rfl (by decide) (by decide) (by decide) (by omega) (by omega) (by omega) ?_
      refine z_astore_n C 20 d_L_law_19 rfl (by decide) ?_
      refine z_iconst C 21 d_L_law_20 rfl 0 (by decide) ?_
      refine z_istore C 23 d_L_law_21 rfl (by decide) ?_
      rw [l_up]
      refine Z.lvs (lv' := lv0 0) (fun q hq => ?_) (l_loop C hX hr' hmc hms hpo hO HD HR (Ls / 4) 0 114 _ _ _ _ _ _ _ _ _ _ _ _ (by omega) (fun _ => ⟨rfl, rfl, rfl, rfl, rfl, rfl, rfl, rfl, rfl, rfl⟩) (by omega) (by omega) ⟨_, va_up_self _ _ _⟩ (by omega) (by omega) (Rel.fresh hO _ _))
      show q ∈ ([(4, .int 0), (3, .ref 113), (2, .ref 85), (1, .ref 0), (0, .ref 1000000)] : List (Nat × Value))
      have hq' : q ∈ ([(0, .ref 1000000), (1, .ref 0), (2, .ref 85), (3, .ref 113), (4, .int 0)] : List (Nat × Value)) := hq
      rw [show ([(4, .int 0), (3, .ref 113), (2, .ref 85), (1, .ref 0), (0, .ref 1000000)] : List (Nat × Value)) = ([(0, .ref 1000000), (1, .ref 0), (2, .ref 85), (3, .ref 113), (4, .int 0)] : List (Nat × Value)).reverse from rfl]
      exact List.mem_reverse.mpr hq'
    · cases hv.1
  · cases hv.1
end LW4
end
section
theorem tl1 (i : Nat) {w : Cond} (h : tables_1_1[i]? = some w) : w ∈ lw_tbl := List.mem_append_right _ (show w ∈ tables_1 from (List.mem_append_left _ (List.mem_of_getElem? h)))
theorem tl2 (i : Nat) {w : Cond} (h : tables_1_2[i]? = some w) : w ∈ lw_tbl := List.mem_append_right _ (show w ∈ tables_1 from (List.mem_append_right _ (List.mem_append_left _ (List.mem_of_getElem? h))))
theorem tl3 (i : Nat) {w : Cond} (h : tables_1_3[i]? = some w) : w ∈ lw_tbl := List.mem_append_right _ (show w ∈ tables_1 from (List.mem_append_right _ (List.mem_append_right _ (List.mem_append_left _ (List.mem_of_getElem? h)))))
theorem tl4 (i : Nat) {w : Cond} (h : tables_1_4[i]? = some w) : w ∈ lw_tbl := List.mem_append_right _ (show w ∈ tables_1 from (List.mem_append_right _ (List.mem_append_right _ (List.mem_append_right _ (List.mem_append_left _ (List.mem_of_getElem? h))))))
theorem iw_S : Cond.instantiable "SoleArrays" 10 ∈ zTb := zt1 25 (by decide +kernel) rfl
theorem iw_T : Cond.instantiable "SoleArrays$Fault" 1 ∈ zTb := zt1 33 (by decide +kernel) rfl
theorem iw_F : Cond.instantiable "SoleArrays$Function" 7 ∈ zTb := zt2 57 (by decide +kernel) rfl
theorem iw_E : Cond.instantiable "SoleArrays$Expression" 10 ∈ zTb := zt2 159 (by decide +kernel) rfl
theorem iw_R : Cond.instantiable "SoleArrays$Reader" 4 ∈ zTb := zt2 34 (by decide +kernel) rfl
theorem iw_C : Cond.instantiable "SoleArrays$Checker" 5 ∈ zTb := zt3 59 (by decide +kernel) rfl
theorem iw_O : Cond.instantiable "SoleArrays$Store" 7 ∈ zTb := zt1 53 (by decide +kernel) rfl
theorem iw_U : Cond.instantiable "SoleArrays$Runner" 5 ∈ zTb := zt1 47 (by decide +kernel) rfl
theorem iw_M : Cond.instantiable "SoleArraysModel" 51 ∈ zTb := zt4 54 (by decide +kernel) rfl
theorem iw_1 : Cond.instantiable "java/lang/IllegalArgumentException" 6 ∈ zTb := zt2 71 (by decide +kernel) rfl
theorem iw_2 : Cond.instantiable "java/lang/IllegalStateException" 6 ∈ zTb := zt3 89 (by decide +kernel) rfl
theorem iw_3 : Cond.instantiable "java/lang/IndexOutOfBoundsException" 6 ∈ zTb := zt1 191 (by decide +kernel) rfl
theorem iw_4 : Cond.instantiable "java/lang/ArithmeticException" 6 ∈ zTb := zt3 222 (by decide +kernel) rfl
theorem iw_5 : Cond.instantiable "java/lang/UnsupportedOperationException" 6 ∈ zTb := zt3 198 (by decide +kernel) rfl
theorem ao_exp : Cond.arrayOver (FieldType.object "SoleArrays$Expression") ∈ zTb := zt2 167 (by decide +kernel) rfl
theorem ls_U : Cond.laysStatic "java/lang/Throwable" "UNASSIGNED_STACK" "[Ljava/lang/StackTraceElement;" ∈ lw_tbl := tl1 217 (by decide +kernel)
theorem ls_Q : Cond.laysStatic "java/lang/Throwable" "SUPPRESSED_SENTINEL" "Ljava/util/List;" ∈ lw_tbl := tl1 219 (by decide +kernel)
theorem ini_T0 : Cond.initialized "java/lang/Throwable" ∈ zTb := zt1 8 (by decide +kernel) rfl
theorem sr_0 : Cond.stringRef "SoleArrays$Store" 89 "no number there" ∈ lw_tbl := tl1 233 (by decide +kernel)
theorem sr_1 : Cond.stringRef "SoleArrays$Fault" 17 "the text is ill" ∈ lw_tbl := tl2 79 (by decide +kernel)
theorem sr_2 : Cond.stringRef "SoleArrays$Fault" 24 "the function is wrong" ∈ lw_tbl := tl3 97 (by decide +kernel)
theorem sr_3 : Cond.stringRef "SoleArrays" 87 "no such function, or one that takes more than numbers" ∈ lw_tbl := tl3 183 (by decide +kernel)
theorem sr_4 : Cond.stringRef "SoleArrays$Runner" 55 "too many expressions" ∈ lw_tbl := tl3 206 (by decide +kernel)
theorem sr_5 : Cond.stringRef "SoleArrays$Runner" 133 "divided by 0" ∈ lw_tbl := tl3 230 (by decide +kernel)
theorem sr_6 : Cond.stringRef "SoleArrays$Store" 39 "a size below 0" ∈ lw_tbl := tl4 2 (by decide +kernel)
theorem sr_7 : Cond.stringRef "SoleArrays$Store" 48 "too many numbers, rows or columns" ∈ lw_tbl := tl4 6 (by decide +kernel)
theorem sr_8 : Cond.stringRef "SoleArrays$Store" 55 "too many arrays" ∈ lw_tbl := tl4 12 (by decide +kernel)
theorem sr_9 : Cond.stringRef "SoleArrays$Runner" 151 "too many calls in one another" ∈ lw_tbl := tl4 52 (by decide +kernel)
theorem st_D {args : Array Value} {s : State} (hts : ∀ w ∈ zTb, w.before args s = true) : ∃ D : va_G, ∀ (c : Nat) (q : vw_C), zCl[c]? = some q → u_Kn s q.1 q.2.1 q.2.2 (D.1 c) (D.2 c) := by
  have one : ∀ (C : String) (T : u_T) (N n : Nat), (∀ w ∈ u_ws C T N, w ∈ zTb) → Cond.instantiable C n ∈ zTb → ∃ r : ClassId × (Nat → Nat), ∀ q : vw_C, some (C, T, N) = some q → u_Kn s q.1 q.2.1 q.2.2 r.1 r.2 := fun C T N n h1 h2 => by
    obtain ⟨cC, iS, h⟩ := u_known hts h1 (hts _ h2)
    exact ⟨(cC, iS), fun q hq => by cases hq; exact h⟩
  have x0 : ∀ C : String, ∀ w ∈ u_ws C F_X 0, w ∈ zTb := fun C w hw => nomatch hw
  have h : ∀ c : Nat, ∃ r : ClassId × (Nat → Nat), ∀ q : vw_C, zCl[c]? = some q → u_Kn s q.1 q.2.1 q.2.2 r.1 r.2 := fun c => by
    match c with
    | 0 => exact one _ _ _ _ in_S iw_S
    | 1 => exact one _ _ _ _ in_T iw_T
    | 2 => exact one _ _ _ _ in_F iw_F
    | 3 => exact one _ _ _ _ in_E iw_E
    | 4 => exact one _ _ _ _ in_R iw_R
    | 5 => exact one _ _ _ _ in_C iw_C
    | 6 => exact one _ _ _ _ in_O iw_O
    | 7 => exact one _ _ _ _ in_U iw_U
    | 8 => exact one _ _ _ _ in_M iw_M
    | 9 => exact one _ _ _ _ (x0 _) iw_1
    | 10 => exact one _ _ _ _ (x0 _) iw_2
    | 11 => exact one _ _ _ _ (x0 _) iw_3
    | 12 => exact one _ _ _ _ (x0 _) iw_4
    | 13 => exact one _ _ _ _ (x0 _) iw_5
    | n + 14 => exact ⟨(0, fun _ => 0), fun q hq => nomatch hq⟩
  obtain ⟨g, hg⟩ := Classical.axiomOfChoice h
  exact ⟨(fun c => (g c).1, fun c => (g c).2), hg⟩
theorem st_A {args : Array Value} {s : State} (hts : ∀ w ∈ zTb, w.before args s = true) : ∃ cA : Nat → ClassId, ∀ (k : Nat) (ty : FieldType), zTy[k]? = some ty → ArrOfT s (cA k) ty ∧ va_RA s (cA k) ty := by
  have h : ∀ k : Nat, ∃ c : ClassId, ∀ ty : FieldType, zTy[k]? = some ty → ArrOfT s c ty ∧ va_RA s c ty := fun k => by
    match k with
    | 0 =>
      obtain ⟨c, kA, comp, h1, h2, h3⟩ := Cond.arrayClass_spec (hts _ aw_int)
      exact ⟨c, fun ty ht => by cases ht; exact ⟨fun n z => ⟨fun k h => (by cases h), kA, h2, comp, h3⟩, h1⟩⟩
    | 1 =>
      obtain ⟨c, kA, comp, h1, h2, h3⟩ := Cond.arrayClass_spec (hts _ aw_long)
      exact ⟨c, fun ty ht => by cases ht; exact ⟨fun n z => ⟨fun k h => (by cases h), kA, h2, comp, h3⟩, h1⟩⟩
    | 2 =>
      obtain ⟨c, kA, comp, h1, h2, h3⟩ := Cond.arrayClass_spec (hts _ aw_char)
      exact ⟨c, fun ty ht => by cases ht; exact ⟨fun n z => ⟨fun k h => (by cases h), kA, h2, comp, h3⟩, h1⟩⟩
    | 3 =>
      obtain ⟨c, kA, comp, h1, h2, h3⟩ := Cond.arrayClass_spec (hts _ aw_boolean)
      exact ⟨c, fun ty ht => by cases ht; exact ⟨fun n z => ⟨fun k h => (by cases h), kA, h2, comp, h3⟩, h1⟩⟩
    | 4 =>
      obtain ⟨comp, c, kA, h0, -, h2, h3, h1⟩ := Cond.arrayOver_spec (hts _ ao_fun)
      exact ⟨c, fun ty ht => by cases ht; exact ⟨fun n z => ⟨fun k h => (by cases h), kA, h2, comp, h3⟩, kA, comp, h2, h3, h0, h1⟩⟩
    | 5 =>
      obtain ⟨comp, c, kA, h0, -, h2, h3, h1⟩ := Cond.arrayOver_spec (hts _ ao_exp)
      exact ⟨c, fun ty ht => by cases ht; exact ⟨fun n z => ⟨fun k h => (by cases h), kA, h2, comp, h3⟩, kA, comp, h2, h3, h0, h1⟩⟩
    | 6 =>
      obtain ⟨comp, c, kA, h0, h2, h3, h1⟩ := Cond.arrayOver_specA (hts _ ao_row)
      exact ⟨c, fun ty ht => by cases ht; exact ⟨fun n z => ⟨fun k h => (by cases h), kA, h2, comp, h3⟩, h1⟩⟩
    | n + 7 => exact ⟨0, fun ty hq => nomatch hq⟩
  obtain ⟨g, hg⟩ := Classical.axiomOfChoice h
  exact ⟨g, hg⟩
def gvn (args : Array Value) (s : State) : Prop := (Jvm.Cond.and given_1 narrow_1).before args s = true
theorem st_s {own tx : String} {k : Nat} {args : Array Value} {s : State} (h : (Cond.exactly (Term.string own k) "java/lang/String").before args s = true) (h1 : (Cond.stringRef own k tx).before args s = true) : ∃ a, vk_R own k tx a s := by
  obtain ⟨a, c, cell, kC, he, -⟩ := Cond.exactly_spec h
  exact ⟨a, vk_R.of h1 he⟩
theorem st_str {args : Array Value} {s : State} (hts : ∀ w ∈ lw_tbl, w.before args s = true) (hgv : gvn args s) : ∀ q ∈ zStr, ∃ a, vk_R q.1 q.2.1 q.2.2 a s := by
  have hf := flat_of_before _ hgv
  refine List.forall_mem_cons.mpr ⟨st_s (hf _ (by decide +kernel)) (hts _ sr_0), ?_⟩
  refine List.forall_mem_cons.mpr ⟨st_s (hf _ (by decide +kernel)) (hts _ sr_1), ?_⟩
  refine List.forall_mem_cons.mpr ⟨st_s (hf _ (by decide +kernel)) (hts _ sr_2), ?_⟩
  refine List.forall_mem_cons.mpr ⟨st_s (hf _ (by decide +kernel)) (hts _ sr_3), ?_⟩
  refine List.forall_mem_cons.mpr ⟨st_s (hf _ (by decide +kernel)) (hts _ sr_4), ?_⟩
  refine List.forall_mem_cons.mpr ⟨st_s (hf _ (by decide +kernel)) (hts _ sr_5), ?_⟩
  refine List.forall_mem_cons.mpr ⟨st_s (hf _ (by decide +kernel)) (hts _ sr_6), ?_⟩
  refine List.forall_mem_cons.mpr ⟨st_s (hf _ (by decide +kernel)) (hts _ sr_7), ?_⟩
  refine List.forall_mem_cons.mpr ⟨st_s (hf _ (by decide +kernel)) (hts _ sr_8), ?_⟩
  refine List.forall_mem_cons.mpr ⟨st_s (hf _ (by decide +kernel)) (hts _ sr_9), fun _ h => nomatch h⟩
theorem st_ncs {args : Array Value} {s : State} (hgv : gvn args s) : ∀ q ∈ zNcs, va_Nc q.1 q.2 s := by
  have hf := flat_of_before _ hgv
  have hall : ∀ q ∈ zNcs, Cond.not (.castable q.1 q.2) ∈ flatC (Jvm.Cond.and given_1 narrow_1) := by decide +kernel
  exact fun q hq => va_Nc.of (hf _ (hall q hq))
theorem ini_Fm : Cond.initialized "SoleArrays$Form" ∈ zTb := zt1 14 (by decide +kernel) rfl
theorem ini_S1 : Cond.initialized "SoleArrays$1" ∈ zTb := zt1 18 (by decide +kernel) rfl
theorem ls_M : Cond.laysStatic "SoleArrays$1" "$SwitchMap$SoleArrays$Form" "[I" ∈ lw_tbl := tl3 121 (by decide +kernel)
theorem ls_Fm : ∀ j ∈ List.range 14, Cond.laysStatic "SoleArrays$Form" (zFm j) "LSoleArrays$Form;" ∈ lw_tbl := by decide +kernel
abbrev stF (j : Nat) : Term := .static "SoleArrays$Form" (zFm j) "LSoleArrays$Form;"
abbrev stM : Term := .static "SoleArrays$1" "$SwitchMap$SoleArrays$Form" "[I"
/-- what the start gives of form j: its cell a, with its ordinal -/
def stP (s : State) (args : Array Value) (j a : Nat) : Prop := (stF j).eval args s none [] s = some (.ref a) ∧ ∃ (cell : Cell) (cf i : Nat) (kf : Class) (fd : Field), s.heap[a]? = some cell ∧ cell.vm ≠ .unknown ∧ cell.vm.isStatics = false ∧ s.vm.findClass "SoleArrays$Form" = some cell.cls ∧ s.fieldFound? "java/lang/Enum" "ordinal" "I" = some (cf, kf, i, fd) ∧ fd.isStatic = false ∧ cell.slots[fd.slot]? = some (.int (nI j))
theorem st_ff {args : Array Value} {s : State} {t : Term} {a : Nat} {o n d : String} {v : Value} (he : t.eval args s none [] s = some (.ref a)) (hv : (Term.field t o n d).eval args s none [] s = some v) : ∃ x, s.fieldFound? o n d = some x := by
  cases hi : s.fieldFound? o n d with
  | none => simp [Term.eval, he, State.fieldOf?, State.fieldNamed?, hi] at hv
  | some x => exact ⟨x, rfl⟩
theorem st_form {args : Array Value} {s : State} (hgv : gvn args s) : ∃ g : Nat → Nat, ∀ j, j < 14 → stP s args j (g j) := by
  have hf := flat_of_before _ hgv
  have a1 : ∀ j ∈ List.range 14, Cond.exactly (stF j) "SoleArrays$Form" ∈ flatC (Jvm.Cond.and given_1 narrow_1) := by decide +kernel
  have a2 : ∀ j ∈ List.range 14, Cond.eq (.field (stF j) "java/lang/Enum" "ordinal" "I") (.int (nI j)) ∈ flatC (Jvm.Cond.and given_1 narrow_1) := by decide +kernel
  have h : ∀ j : Nat, ∃ a : Nat, j < 14 → stP s args j a := fun j => by
    by_cases hj : j < 14
    · obtain ⟨a, c, cell, kC, he, q1, q2, q3, q4, q5, -⟩ := Cond.exactly_spec (hf _ (a1 j (List.mem_range.mpr hj)))
      have hv := va_eqt (hf _ (a2 j (List.mem_range.mpr hj)))
      refine ⟨a, fun _ => ⟨he, ?_⟩⟩
      obtain ⟨⟨cf, kf, i, fd⟩, hi⟩ := st_ff he hv
      obtain ⟨f1, cell', f2, f3, f4, -, f6⟩ := Term.field_spec hi he hv
      cases q2.symm.trans f2
      exact ⟨cell, cf, i, kf, fd, q2, f3, f4, by rw [q5]; exact q1, hi, f1, f6⟩
    · exact ⟨0, fun q => absurd q hj⟩
  obtain ⟨g, hg⟩ := Classical.axiomOfChoice h
  exact ⟨g, hg⟩
theorem st_map {args : Array Value} {s : State} (hgv : gvn args s) {A : Nat → Prop} (hA : ∀ a : Nat, a < s.heap.size → ¬ A a) : ∃ t : Nat, stM.eval args s none [] s = some (.ref t) ∧ va_T .int t 14 (fun j => .int (zSw j)) A s s.heap := by
  have hf := flat_of_before _ hgv
  have a2 : ∀ j ∈ List.range 14, Cond.eq (.elem stM (.int (Int32.ofNat j))) (.int (zSw j)) ∈ flatC (Jvm.Cond.and given_1 narrow_1) := by decide +kernel
  exact va_Tof (by decide) (hf _ (by decide +kernel)) (va_eqt (z := Int32.ofNat 14) (hf _ (by decide +kernel))) (fun j hj => va_eqt (hf _ (a2 j (List.mem_range.mpr hj)))) hA
theorem st_stat {args : Array Value} {s : State} {G : zG} (hG : zz G = s.heap.size) (hH : zH0 G = s.heap) (hts : ∀ w ∈ lw_tbl, w.before args s = true) (hgv : gvn args s) (hg : ∀ j, j < 14 → stP s args j (zo G (1000001 + j))) (hm : stM.eval args s none [] s = some (.ref (zo G 1000015)) ∧ va_T .int (zo G 1000015) 14 (fun j => .int (zSw j)) (fun q => zz G ≤ q) s s.heap) : zStat G s := by
  have hf := flat_of_before _ hgv
  have hA : ∀ a : Nat, a < s.heap.size → ¬ zz G ≤ a := fun a ha => by rw [hG]; omega
  refine ⟨fun q _ => by rw [hH], vx_Zqof (hts _ ls_U) (hts _ (zt_in _ ini_T0)) (hf _ (by decide +kernel)) hA, vx_Zqof (hts _ ls_Q) (hts _ (zt_in _ ini_T0)) (hf _ (by decide +kernel)) hA, st_str hts hgv, st_ncs hgv, fun j hj => ?_, va_Zof (hts _ ls_M) (hts _ (zt_in _ ini_S1)) hm.1 hA, hm.2⟩
  obtain ⟨h1, cell, cf, i, kf, fd, h2, h3⟩ := hg j hj
  exact ⟨va_Zof (hts _ (ls_Fm j (List.mem_range.mpr hj))) (hts _ (zt_in _ ini_Fm)) h1 hA, by rw [hG]; exact (Array.getElem?_eq_some_iff.mp h2).1, cell, cf, i, kf, fd, h2, h3⟩
def R_law : String := "SoleArraysLaw"
def lw_P (b : Addr) (xs : List Int32) (args : Array Value) (s : State) : Prop := args = #[.ref b] ∧ s.IntsAt b xs ∧ xs.length ≤ 2048 ∧ gvn args s
def lw_Q (_ : Array Value) (s : State) (o : Outcome) (t : State) : Prop := o = .returned (some (.int 1)) ∧ Framed s o t [] 601024 7293034
def lw_Z (below : List Frame) (a : Array Value) (s : State) : State → Prop := fun t => ∃ o, t.status = .running ∧ Ended t below o ∧ lw_Q a s o t
def lw_At (p : Program) (s : State) (m : MethodId) (meth : Method) (c : Code) (b L : Nat) (xs : Nat → Int32) : Prop :=
  p.tables.exec = Jvm.exec ∧ c.code = code ∧ meth.sig.returnType = ret ∧ c.maxLocals = 7 ∧ s.vm.findClass R_law = some m.cls ∧ (∀ w ∈ lw_tbl, w.before #[Value.ref b] s = true) ∧ va_X b L xs s s.heap ∧ b < s.heap.size ∧ meth.locks = false ∧ gvn #[Value.ref b] s ∧ c.exceptionTable.toList = [] ∧ meth.name = "law"
theorem st_walk {FR : rFR} (hO : rFRok FR) {p : Program} {e : Env} {s : State} {m : MethodId} {below : List Frame} {meth : Method} {c : Code} (l : Launch) (htr : l.stackTraces = false) {b L : Nat} {xs : Nat → Int32} (hL : L ≤ 2048) (HD : ∀ G : zG, lHD G l FR L) (HR : ∀ G : zG, lHR G l FR L) (C0 : lw_At p s m meth c b L xs) :
    W p l e room_1 s m #[Value.ref b] below meth c s.heap [] 0 0 (lw_Z below #[Value.ref b] s) (entryFrame m ([Value.ref b] : List Value).toArray 7) := by
  obtain ⟨c1, c2, c3, c4, c5, c6, c7, c8, c9, c10, c11, c12⟩ := C0
  have hts : ∀ w ∈ zTb, w.before #[Value.ref b] s = true := fun w hw => c6 w (List.mem_filter.mp hw).1
  obtain ⟨D, hD⟩ := st_D hts
  obtain ⟨cA, hA⟩ := st_A hts
  obtain ⟨gf, hgf⟩ := st_form c10
  obtain ⟨tm, htm, hTm⟩ := st_map c10 (A := fun q => s.heap.size ≤ q) (fun a ha => by omega)
  let G : zG := (s.heap.size, fun i => if i = 1000000 then b else if i = 1000015 then tm else gf (i - 1000001), D, cA, s.heap)
  have zoF : ∀ j, j < 14 → zo G (1000001 + j) = gf j := fun j hj => by
    show (if 1000001 + j = 1000000 then b else if 1000001 + j = 1000015 then tm else gf (1000001 + j - 1000001)) = gf j
    rw [if_neg (by omega), if_neg (by omega), Nat.add_sub_cancel_left]
  let K : zK := (p, l, e, room_1, s, m, #[Value.ref b], below, meth, c, fun o _ _ => o = .returned (some (.int 1)), 601024, 7293034)
  have hK : va_K (zD G) zCl (zT G) s := ⟨hD, fun k q hk => by
    unfold zT at hk
    rw [List.getElem?_map, List.getElem?_zipIdx] at hk
    cases ht : zTy[k]? with
    | none => rw [ht] at hk; cases hk
    | some ty =>
      rw [ht] at hk
      cases hk
      rw [Nat.zero_add]
      exact hA k ty ht⟩
  have C : zC G K y_L_law b_L_law 7 (some .boolean) [] := ⟨c1, c2, c4, c3, c5, hts, hK, c9, by show c.exceptionTable.toList.map _ = []; rw [c11]; rfl, c12, htr, st_stat rfl rfl c6 c10 (fun j hj => by rw [zoF j hj]; exact hgf j hj) ⟨htm, hTm⟩⟩
  have hX : zOld G K L xs := ⟨c7, c8, hL⟩
  have k := l_start (G := G) (K := K) C hX ⟨by show 1400 ≤ 2048; decide, by show 84000 ≤ 84000; decide, by show 114 + 250 * L ≤ 601024; omega, by show 27457 + 3500 * L ≤ 7293034; omega⟩ (Nat.le_refl _) (Nat.le_refl _) (fun _ _ => rfl) hO (HD G) (HR G) (fun _ => .inr (0, []))
  have hle := lv_entry ([Value.ref b]) (n := 7) (by show 1 ≤ 7; decide)
  rw [lg_entry_eq]
  refine xt_post (fun t ht => ?_) (k s.heap [] _ ⟨rfl, by decide, fun q _ => rfl, fun i hi => absurd hi (Nat.not_lt_zero i)⟩ (fun q hq => nomatch hq) ?_)
  · obtain ⟨o, h1, h2, ⟨o', n', σ', rfl, h3, -⟩, Lc, ⟨h4, h5⟩, h6⟩ := ht
    have h3 : o' = .returned (some (.int 1)) := h3
    subst h3
    exact ⟨_, h1, h2, rfl, ⟨_, rfl⟩, h4, h5.weaken (fun x hx hb => absurd (h6 x hx) (Nat.not_le.mpr hb)) (Nat.le_refl _) (Nat.le_refl _)⟩
  · show lv_has _ c.maxLocals _
    rw [c4]
    exact hle
end
section
theorem d_T_ill_0 : decode b_T_ill 0 = .ok (.aload_n 0, 1) := by decide +kernel
theorem d_T_ill_1 : decode b_T_ill 1 = .ok (.iload_n 1, 1) := by decide +kernel
theorem d_T_ill_2 : decode b_T_ill 2 = .ok (.putfield 9, 3) := by decide +kernel
theorem d_T_ill_5 : decode b_T_ill 5 = .ok (.new 15, 3) := by decide +kernel
theorem d_T_ill_8 : decode b_T_ill 8 = .ok (.dup, 1) := by decide +kernel
theorem d_T_ill_9 : decode b_T_ill 9 = .ok (.ldc 17, 2) := by decide +kernel
theorem d_T_ill_11 : decode b_T_ill 11 = .ok (.invokespecial 19, 3) := by decide +kernel
theorem d_T_ill_14 : decode b_T_ill 14 = .ok (.athrow, 1) := by decide +kernel
theorem d_R_init_0 : decode b_R_init 0 = .ok (.aload_n 0, 1) := by decide +kernel
theorem d_R_init_1 : decode b_R_init 1 = .ok (.invokespecial 3, 3) := by decide +kernel
theorem d_R_init_4 : decode b_R_init 4 = .ok (.aload_n 0, 1) := by decide +kernel
theorem d_R_init_5 : decode b_R_init 5 = .ok (.iconst 0, 1) := by decide +kernel
theorem d_R_init_6 : decode b_R_init 6 = .ok (.putfield 9, 3) := by decide +kernel
theorem d_R_init_9 : decode b_R_init 9 = .ok (.aload_n 0, 1) := by decide +kernel
theorem d_R_init_10 : decode b_R_init 10 = .ok (.aload_n 1, 1) := by decide +kernel
theorem d_R_init_11 : decode b_R_init 11 = .ok (.putfield 15, 3) := by decide +kernel
theorem d_R_init_14 : decode b_R_init 14 = .ok (.aload_n 0, 1) := by decide +kernel
theorem d_R_init_15 : decode b_R_init 15 = .ok (.iload_n 2, 1) := by decide +kernel
theorem d_R_init_16 : decode b_R_init 16 = .ok (.putfield 19, 3) := by decide +kernel
theorem d_R_init_19 : decode b_R_init 19 = .ok (.aload_n 0, 1) := by decide +kernel
theorem d_R_init_20 : decode b_R_init 20 = .ok (.aload_n 3, 1) := by decide +kernel
theorem d_R_init_21 : decode b_R_init 21 = .ok (.putfield 22, 3) := by decide +kernel
theorem d_R_init_24 : decode b_R_init 24 = .ok (.return_, 1) := by decide +kernel
theorem d_R_next_0 : decode b_R_next 0 = .ok (.aload_n 0, 1) := by decide +kernel
theorem d_R_next_1 : decode b_R_next 1 = .ok (.getfield 9, 3) := by decide +kernel
theorem d_R_next_4 : decode b_R_next 4 = .ok (.aload_n 0, 1) := by decide +kernel
theorem d_R_next_5 : decode b_R_next 5 = .ok (.getfield 19, 3) := by decide +kernel
theorem d_R_next_8 : decode b_R_next 8 = .ok (.if_icmp .ge 15, 3) := by decide +kernel
theorem d_R_next_11 : decode b_R_next 11 = .ok (.aload_n 0, 1) := by decide +kernel
theorem d_R_next_12 : decode b_R_next 12 = .ok (.getfield 15, 3) := by decide +kernel
theorem d_R_next_15 : decode b_R_next 15 = .ok (.aload_n 0, 1) := by decide +kernel
theorem d_R_next_16 : decode b_R_next 16 = .ok (.getfield 9, 3) := by decide +kernel
theorem d_R_next_19 : decode b_R_next 19 = .ok (.caload, 1) := by decide +kernel
theorem d_R_next_20 : decode b_R_next 20 = .ok (.goto 4, 3) := by decide +kernel
theorem d_R_next_23 : decode b_R_next 23 = .ok (.iconst 0, 1) := by decide +kernel
theorem d_R_next_24 : decode b_R_next 24 = .ok (.ireturn, 1) := by decide +kernel
theorem d_R_nextIsOneOf_0 : decode b_R_nextIsOneOf 0 = .ok (.aload_n 0, 1) := by decide +kernel
theorem d_R_nextIsOneOf_1 : decode b_R_nextIsOneOf 1 = .ok (.invokevirtual 39, 3) := by decide +kernel
theorem d_R_nextIsOneOf_4 : decode b_R_nextIsOneOf 4 = .ok (.iload_n 1, 1) := by decide +kernel
theorem d_R_nextIsOneOf_5 : decode b_R_nextIsOneOf 5 = .ok (.if_icmp .lt 15, 3) := by decide +kernel
theorem d_R_nextIsOneOf_8 : decode b_R_nextIsOneOf 8 = .ok (.aload_n 0, 1) := by decide +kernel
theorem d_R_nextIsOneOf_9 : decode b_R_nextIsOneOf 9 = .ok (.invokevirtual 39, 3) := by decide +kernel
theorem d_R_nextIsOneOf_12 : decode b_R_nextIsOneOf 12 = .ok (.iload_n 2, 1) := by decide +kernel
theorem d_R_nextIsOneOf_13 : decode b_R_nextIsOneOf 13 = .ok (.if_icmp .gt 7, 3) := by decide +kernel
theorem d_R_nextIsOneOf_16 : decode b_R_nextIsOneOf 16 = .ok (.iconst 1, 1) := by decide +kernel
theorem d_R_nextIsOneOf_17 : decode b_R_nextIsOneOf 17 = .ok (.goto 4, 3) := by decide +kernel
theorem d_R_nextIsOneOf_20 : decode b_R_nextIsOneOf 20 = .ok (.iconst 0, 1) := by decide +kernel
theorem d_R_nextIsOneOf_21 : decode b_R_nextIsOneOf 21 = .ok (.ireturn, 1) := by decide +kernel
theorem d_R_takeOneOf_0 : decode b_R_takeOneOf 0 = .ok (.aload_n 0, 1) := by decide +kernel
theorem d_R_takeOneOf_1 : decode b_R_takeOneOf 1 = .ok (.invokevirtual 39, 3) := by decide +kernel
theorem d_R_takeOneOf_4 : decode b_R_takeOneOf 4 = .ok (.istore_n 3, 1) := by decide +kernel
theorem d_R_takeOneOf_5 : decode b_R_takeOneOf 5 = .ok (.iload_n 3, 1) := by decide +kernel
theorem d_R_takeOneOf_6 : decode b_R_takeOneOf 6 = .ok (.iload_n 1, 1) := by decide +kernel
theorem d_R_takeOneOf_7 : decode b_R_takeOneOf 7 = .ok (.if_icmp .lt 8, 3) := by decide +kernel
theorem d_R_takeOneOf_10 : decode b_R_takeOneOf 10 = .ok (.iload_n 3, 1) := by decide +kernel
theorem d_R_takeOneOf_11 : decode b_R_takeOneOf 11 = .ok (.iload_n 2, 1) := by decide +kernel
theorem d_R_takeOneOf_12 : decode b_R_takeOneOf 12 = .ok (.if_icmp .le 14, 3) := by decide +kernel
theorem d_R_takeOneOf_15 : decode b_R_takeOneOf 15 = .ok (.aload_n 0, 1) := by decide +kernel
theorem d_R_takeOneOf_16 : decode b_R_takeOneOf 16 = .ok (.getfield 22, 3) := by decide +kernel
theorem d_R_takeOneOf_19 : decode b_R_takeOneOf 19 = .ok (.aload_n 0, 1) := by decide +kernel
theorem d_R_takeOneOf_20 : decode b_R_takeOneOf 20 = .ok (.getfield 9, 3) := by decide +kernel
theorem d_R_takeOneOf_23 : decode b_R_takeOneOf 23 = .ok (.invokevirtual 61, 3) := by decide +kernel
theorem d_R_takeOneOf_26 : decode b_R_takeOneOf 26 = .ok (.aload_n 0, 1) := by decide +kernel
theorem d_R_takeOneOf_27 : decode b_R_takeOneOf 27 = .ok (.dup, 1) := by decide +kernel
theorem d_R_takeOneOf_28 : decode b_R_takeOneOf 28 = .ok (.getfield 9, 3) := by decide +kernel
theorem d_R_takeOneOf_31 : decode b_R_takeOneOf 31 = .ok (.iconst 1, 1) := by decide +kernel
theorem d_R_takeOneOf_32 : decode b_R_takeOneOf 32 = .ok (.iadd, 1) := by decide +kernel
theorem d_R_takeOneOf_33 : decode b_R_takeOneOf 33 = .ok (.putfield 9, 3) := by decide +kernel
theorem d_R_takeOneOf_36 : decode b_R_takeOneOf 36 = .ok (.iload_n 3, 1) := by decide +kernel
theorem d_R_takeOneOf_37 : decode b_R_takeOneOf 37 = .ok (.iload_n 1, 1) := by decide +kernel
theorem d_R_takeOneOf_38 : decode b_R_takeOneOf 38 = .ok (.isub, 1) := by decide +kernel
theorem d_R_takeOneOf_39 : decode b_R_takeOneOf 39 = .ok (.ireturn, 1) := by decide +kernel
theorem va_up2 {α : Type} (f : Nat → α) (i : Nat) (a b : α) : va_up (va_up f i a) i b = va_up f i b := by
  funext j
  by_cases h : j = i
  · subst h; rw [va_up_self, va_up_self]
  · rw [va_up_ne _ _ h, va_up_ne _ _ h, va_up_ne _ _ h]
section RD0
variable {G : zG} {K : zK} {y : MethodName} {cc : ByteArray} {nL : Nat} {ret : Option FieldType} {hs : List (Nat × Nat × Nat × Nat)} {n k1 k2 pc : Nat} {σ : zS} {lv : List (Nat × Value)} {st : List Value}
theorem z_putS (C : zC G K y cc nL ret hs) (pc' : Nat) {i ci idx fk : Nat} {ty : FieldType} {fs : List Value} {v : Value} (hf : zP y.cls idx ci fk ty) (hd : decode cc pc = .ok (.putfield idx, 3)) (hp : pc + 3 = pc') (hi : i < n) (hl : fk < fs.length) (hn : narrow ty v = v) (hfit : fits ty v = true)
    (k : Z G K n (va_up σ i (.inr (ci, fs.set fk v))) k1 k2 pc' lv st) : Z G K n (va_up σ i (.inr (ci, fs))) k1 k2 pc lv (v :: .ref i :: st) := z_put C pc' hf hd hp hi (va_up_self _ _ _) hl hn hfit (by rw [va_up2]; exact k)
theorem z_putFS (C : zC G K y cc nL ret hs) (pc' : Nat) {i ci idx fk : Nat} {ty : FieldType} {fs : List Value} {v : Value} (hf : zPF y.cls idx ci fk ty) (hin : y.name = "<init>") (hd : decode cc pc = .ok (.putfield idx, 3)) (hp : pc + 3 = pc') (hi : i < n) (hl : fk < fs.length) (hn : narrow ty v = v) (hfit : fits ty v = true)
    (k : Z G K n (va_up σ i (.inr (ci, fs.set fk v))) k1 k2 pc' lv st) : Z G K n (va_up σ i (.inr (ci, fs))) k1 k2 pc lv (v :: .ref i :: st) := z_putF C pc' hf hin hd hp hi (va_up_self _ _ _) hl hn hfit (by rw [va_up2]; exact k)
end RD0
/-- the Reader's cell: text, length, fault, at -/
def rdC (p z : Nat) : va_E := .inr (4, [.ref 1, .int (nI z), .ref 2, .int (nI p)])
/-- the next character, 0 at the text's end -/
def xlk (xa : mA) (p z : Nat) : Int32 := if p < z then xa 1 p else 0
section RD
variable {G : zG} {l : Launch} {n r p z : Nat} {σ : zS} {xs : mS} {xr : Int64} {xa : mA} {xl : mL} {xf : xF}
theorem xOv_at {i : Nat} (h : 85 ≤ i) : xOv xs xr xa xl xf σ i = σ i := by
  unfold xOv
  rw [if_neg (by omega), if_neg (by omega), if_neg (by omega), if_neg (by omega), if_neg (by omega), if_neg (by omega), if_neg (by omega), if_pos h]
theorem xOv_up {i : Nat} (h : 85 ≤ i) (e : va_E) : va_up (xOv xs xr xa xl xf σ) i e = xOv xs xr xa xl xf (va_up σ i e) := by
  funext j
  by_cases q : j = i
  · subst q
    rw [va_up_self, xOv_at h, va_up_self]
  · rw [va_up_ne _ _ q]
    unfold xOv
    rw [va_up_ne _ _ q]
theorem c_T_ill (hn : 85 ≤ n) (hn2 : n < 1000000) (q : Int32) : MetZ G l y_T_ill b_T_ill 2 none [] 6 1 6 [.ref 2, .int q] n (xOv xs xr xa xl xf σ) (fun o n' σ' => o = .threw n ∧ n' = n + 1 ∧ σ' = xOv (upd xs 4 q) xr xa xl xf (va_up σ n (.inr (9, [])))) := by
  refine MetZ.of (by decide) (Nat.le_of_ble_eq_true rfl) (fun K hK hR hpo hmc hms C => ?_)
  refine z_aload_n C 1 d_T_ill_0 rfl rfl ?_
  refine z_iload_n C 2 d_T_ill_1 rfl rfl ?_
  refine zx_put2 C 5 p_T_9 d_T_ill_2 rfl (by omega) ?_
  exact z_throwS C (ci := 9) (names := zNm) (text := "the text is ill") rfl (by decide) zNm_fit cl_T_15 ini_e1 (by decide) at_T_19 d_T_ill_5 d_T_ill_8 d_T_ill_9 d_T_ill_11 d_T_ill_14 (fun h hh => nomatch hh) (by rw [hR]; show 2 + 3 < _; simp only [zRm]; omega) (by rw [hR]; show _ + (13 * (2 + 1) + 43) ≤ _; simp only [zRm]; exact Nat.le_of_ble_eq_true rfl) (by omega) (by rw [hR]; simp only [zRm]; omega) (by rw [hR]; simp only [zRm]; omega) (by rw [hmc]; omega) (by rw [hms]; omega) (by rw [hpo]; exact ⟨rfl, rfl, xOv_up hn _⟩)
theorem c_R_init (hr : r < n) (x : Int32) : MetZ G l y_R_init b_R_init 4 none [] 1 0 0 [.ref r, .ref 1, .int x, .ref 2] n (va_up σ r (.inr (4, [.null, .int 0, .null, .int 0]))) (fun o n' σ' => o = .returned none ∧ n' = n ∧ σ' = va_up σ r (.inr (4, [.ref 1, .int x, .ref 2, .int 0]))) := by
  refine MetZ.of (by decide) (Nat.le_of_ble_eq_true rfl) (fun K hK hR hpo hmc hms C => ?_)
  refine z_aload_n C 1 d_R_init_0 rfl rfl ?_
  refine z_objinit C 4 d_R_init_1 rfl o_R_3 i_obj w_obj (by rw [hR]; decide) (by rw [hR]; decide) ?_
  refine z_aload_n C 5 d_R_init_4 rfl rfl ?_
  refine z_iconst C 6 d_R_init_5 rfl 0 (by decide) ?_
  refine z_putS C 9 p_R_9 d_R_init_6 rfl hr (by decide) rfl rfl ?_
  refine z_aload_n C 10 d_R_init_9 rfl rfl ?_
  refine z_aload_n C 11 d_R_init_10 rfl rfl ?_
  refine z_putFS C 14 q_R_15 rfl d_R_init_11 rfl hr (by decide) rfl rfl ?_
  refine z_aload_n C 15 d_R_init_14 rfl rfl ?_
  refine z_iload_n C 16 d_R_init_15 rfl rfl ?_
  refine z_putFS C 19 q_R_19 rfl d_R_init_16 rfl hr (by decide) rfl rfl ?_
  refine z_aload_n C 20 d_R_init_19 rfl rfl ?_
  refine z_aload_n C 21 d_R_init_20 rfl rfl ?_
  refine z_putFS C 24 q_R_22 rfl d_R_init_21 rfl hr (z_ltb rfl) rfl rfl ?_
  exact z_vret C rfl d_R_init_24 (by rw [hpo]; exact ⟨rfl, rfl, rfl⟩) (by rw [hmc]; omega) (by rw [hms]; omega)
theorem c_R_next (hn : 85 ≤ n) (hr : 85 ≤ r) (hrn : r < n) (hrd0 : σ r = rdC p z) (hz : z ≤ 150) (hp : p ≤ 150) (hc : ∀ i, i < 150 → narrow .char (.int (xa 1 i)) = .int (xa 1 i)) : MetZ G l y_R_next b_R_next 1 (some .char) [] 0 0 0 [.ref r] n (xOv xs xr xa xl xf σ) (fun o n' σ' => o = .returned (some (.int (xlk xa p z))) ∧ n' = n ∧ σ' = xOv xs xr xa xl xf σ) := by
  have hrd : xOv xs xr xa xl xf σ r = .inr (4, [.ref 1, .int (nI z), .ref 2, .int (nI p)]) := (xOv_at hr).trans hrd0
  refine MetZ.of (by decide) (Nat.le_of_ble_eq_true rfl) (fun K hK hR hpo hmc hms C => ?_)
  refine z_aload_n C 1 d_R_next_0 rfl rfl ?_
  refine z_get C 4 f_R_9 d_R_next_1 rfl (by omega) hrd rfl ?_
  refine z_aload_n C 5 d_R_next_4 rfl rfl ?_
  refine z_get C 8 f_R_19 d_R_next_5 rfl (by omega) hrd rfl ?_
  refine z_icmp_ge C 11 23 d_R_next_8 rfl (by decide) (fun h1 => ?_) (fun h1 => ?_)
  · have h2 : ¬ p < z := fun q => absurd h1 (nI_ge q (by omega))
    refine z_iconst C 24 d_R_next_23 rfl 0 (by decide) ?_
    exact z_zret C rfl (rfl) d_R_next_24 (by rw [hpo]; exact ⟨by rw [xlk, if_neg h2], rfl, rfl⟩) (by rw [hmc]; omega) (by rw [hms]; omega)
  · have h2 : p < z := Nat.lt_of_not_le fun q => h1 (nI_le q (by omega))
    refine z_aload_n C 12 d_R_next_11 rfl rfl ?_
    refine z_get C 15 f_R_15 d_R_next_12 rfl (by omega) hrd rfl ?_
    refine z_aload_n C 16 d_R_next_15 rfl rfl ?_
    refine z_get C 19 f_R_9 d_R_next_16 rfl (by omega) hrd rfl ?_
    refine z_cald C 20 p d_R_next_19 rfl (by omega) rfl rfl (by show p < 150; omega) (by decide) ?_
    refine z_goto C 24 d_R_next_20 (by decide) ?_
    exact z_zret C rfl ((hc p (by omega))) d_R_next_24 (by rw [hpo]; exact ⟨by rw [xlk, if_pos h2], rfl, rfl⟩) (by rw [hmc]; omega) (by rw [hms]; omega)
theorem c_R_takeOneOf (hn : 85 ≤ n) (hn2 : n < 1000000) (hr : 85 ≤ r) (hrn : r < n) (hrd0 : σ r = rdC p z) (hz : z ≤ 150) (hp : p ≤ 150) (hc : ∀ i, i < 150 → narrow .char (.int (xa 1 i)) = .int (xa 1 i)) (lo hi : Int32) {mc ms : Nat} (hm : ¬ (lo ≤ xlk xa p z ∧ xlk xa p z ≤ hi) → 1 ≤ mc ∧ 6 ≤ ms) : MetZ G l y_R_takeOneOf b_R_takeOneOf 4 (some .int) [] 7 mc ms [.ref r, .int lo, .int hi] n (xOv xs xr xa xl xf σ)
    (fun o n' σ' => ((lo ≤ xlk xa p z ∧ xlk xa p z ≤ hi) ∧ o = .returned (some (.int (xlk xa p z - lo))) ∧ n' = n ∧ σ' = xOv xs xr xa xl xf (va_up σ r (rdC (p + 1) z))) ∨ (¬ (lo ≤ xlk xa p z ∧ xlk xa p z ≤ hi) ∧ o = .threw n ∧ n' = n + 1 ∧ σ' = xOv (upd xs 4 (nI p)) xr xa xl xf (va_up σ n (.inr (9, []))))) := by
  have hrd : xOv xs xr xa xl xf σ r = .inr (4, [.ref 1, .int (nI z), .ref 2, .int (nI p)]) := (xOv_at hr).trans hrd0
  refine MetZ.of (by decide) (Nat.le_of_ble_eq_true rfl) (fun K hK hR hpo hmc hms C => ?_)
  have bad : ∀ lv, zl lv 0 = some (.ref r) → ¬ (lo ≤ xlk xa p z ∧ xlk xa p z ≤ hi) → Z G K n (xOv xs xr xa xl xf σ) 0 0 15 lv [] := fun lv hl hb => by
    have hm' := hm hb
    refine z_aload_n C 16 d_R_takeOneOf_15 rfl hl ?_
    refine z_get C 19 f_R_22 d_R_takeOneOf_16 rfl (by omega) hrd rfl ?_
    refine z_aload_n C 20 d_R_takeOneOf_19 rfl hl ?_
    refine z_get C 23 f_R_9 d_R_takeOneOf_20 rfl (by omega) hrd rfl ?_
    refine z_call C 26 (c_T_ill hn hn2 (nI p)) w_T_ill ini_T d_R_takeOneOf_23 rfl (z_goV (As := [.int (nI p)]) C l_R_61 w_T_ill d_R_takeOneOf_23 (by omega) rfl rfl rfl) (Nat.le_of_ble_eq_true rfl) (by rw [hR]; simp only [zRm]; omega) (by rw [hR]; simp only [zRm]; omega) (by rw [hR]; simp only [zRm]; omega) (by rw [hR]; simp only [zRm]; omega) (fun v n' σ' hv => ?_) (fun x n' σ' hv => ?_)
    · cases hv.1
    · obtain ⟨e0, rfl, rfl⟩ := hv
      cases e0
      exact zx_out C (fun h hh => nomatch hh) (by rw [hpo]; exact Or.inr ⟨hb, rfl, rfl, rfl⟩) (by rw [hmc]; omega) (by rw [hms]; omega)
  refine z_aload_n C 1 d_R_takeOneOf_0 rfl rfl ?_
  refine z_call C 4 (c_R_next hn hr hrn hrd0 hz hp hc) w_R_next ini_R d_R_takeOneOf_1 rfl (z_goV (As := []) C l_R_39 w_R_next d_R_takeOneOf_1 (by omega) (hrd) rfl rfl) (Nat.le_of_ble_eq_true rfl) (by rw [hR]; simp only [zRm]; omega) (by rw [hR]; simp only [zRm]; omega) (by rw [hR]; simp only [zRm]; omega) (by rw [hR]; simp only [zRm]; omega) (fun v n' σ' hv => ?_) (fun x n' σ' hv => ?_)
  · obtain ⟨e0, e1, rfl⟩ := hv
    cases e0
    obtain rfl : n = n' := e1.symm
    refine z_istore_n C 5 d_R_takeOneOf_4 rfl (by decide) ?_
    refine z_iload_n C 6 d_R_takeOneOf_5 rfl rfl ?_
    refine z_iload_n C 7 d_R_takeOneOf_6 rfl rfl ?_
    refine z_icmp_lt C 10 15 d_R_takeOneOf_7 rfl (by decide) (fun h1 => ?_) (fun h1 => ?_)
    · exact bad _ rfl (fun q => Int32.not_le.mpr h1 q.1)
    · refine z_iload_n C 11 d_R_takeOneOf_10 rfl rfl ?_
      refine z_iload_n C 12 d_R_takeOneOf_11 rfl rfl ?_
      refine z_icmp_le C 15 26 d_R_takeOneOf_12 rfl (by decide) (fun h2 => ?_) (fun h2 => ?_)
      · refine z_aload_n C 27 d_R_takeOneOf_26 rfl rfl ?_
        refine z_dup C 28 d_R_takeOneOf_27 rfl rfl ?_
        refine z_get C 31 f_R_9 d_R_takeOneOf_28 rfl (by omega) hrd rfl ?_
        refine z_iconst C 32 d_R_takeOneOf_31 rfl 1 (by decide) ?_
        refine z_iadd C 33 d_R_takeOneOf_32 rfl ?_
        refine z_put C 36 p_R_9 d_R_takeOneOf_33 rfl hrn hrd (z_ltb rfl) rfl rfl ?_
        refine z_iload_n C 37 d_R_takeOneOf_36 rfl rfl ?_
        refine z_iload_n C 38 d_R_takeOneOf_37 rfl rfl ?_
        refine z_isub C 39 d_R_takeOneOf_38 rfl ?_
        exact z_iret C rfl d_R_takeOneOf_39 (by rw [hpo]; exact Or.inl ⟨⟨Int32.not_lt.mp h1, h2⟩, rfl, rfl, by rw [xOv_up hr]; show xOv _ _ _ _ _ (va_up σ r (.inr (4, [.ref 1, .int (nI z), .ref 2, .int (nI p + 1)]))) = _; rw [nI_1]; rfl⟩) (by rw [hmc]; omega) (by rw [hms]; omega)
      · exact bad _ rfl (fun q => h2 q.2)
  · cases hv.1
end RD
end
section
theorem d_S_define_0 : decode b_S_define 0 = .ok (.aload_n 0, 1) := by decide +kernel
theorem d_S_define_1 : decode b_S_define 1 = .ok (.getfield 41, 3) := by decide +kernel
theorem d_S_define_4 : decode b_S_define 4 = .ok (.istore_n 1, 1) := by decide +kernel
theorem d_S_define_5 : decode b_S_define 5 = .ok (.aload_n 0, 1) := by decide +kernel
theorem d_S_define_6 : decode b_S_define 6 = .ok (.iconst 0, 1) := by decide +kernel
theorem d_S_define_7 : decode b_S_define 7 = .ok (.putfield 37, 3) := by decide +kernel
theorem d_S_define_10 : decode b_S_define 10 = .ok (.aload_n 0, 1) := by decide +kernel
theorem d_S_define_11 : decode b_S_define 11 = .ok (.iconst 0, 1) := by decide +kernel
theorem d_S_define_12 : decode b_S_define 12 = .ok (.putfield 41, 3) := by decide +kernel
theorem d_S_define_15 : decode b_S_define 15 = .ok (.aload_n 0, 1) := by decide +kernel
theorem d_S_define_16 : decode b_S_define 16 = .ok (.getfield 16, 3) := by decide +kernel
theorem d_S_define_19 : decode b_S_define 19 = .ok (.iconst (-1), 1) := by decide +kernel
theorem d_S_define_20 : decode b_S_define 20 = .ok (.putfield 54, 3) := by decide +kernel
theorem d_S_define_23 : decode b_S_define 23 = .ok (.new 57, 3) := by decide +kernel
theorem d_S_define_26 : decode b_S_define 26 = .ok (.dup, 1) := by decide +kernel
theorem d_S_define_27 : decode b_S_define 27 = .ok (.aload_n 0, 1) := by decide +kernel
theorem d_S_define_28 : decode b_S_define 28 = .ok (.getfield 9, 3) := by decide +kernel
theorem d_S_define_31 : decode b_S_define 31 = .ok (.iload_n 1, 1) := by decide +kernel
theorem d_S_define_32 : decode b_S_define 32 = .ok (.aload_n 0, 1) := by decide +kernel
theorem d_S_define_33 : decode b_S_define 33 = .ok (.getfield 16, 3) := by decide +kernel
theorem d_S_define_36 : decode b_S_define 36 = .ok (.invokespecial 59, 3) := by decide +kernel
theorem d_S_define_39 : decode b_S_define 39 = .ok (.invokevirtual 62, 3) := by decide +kernel
theorem d_S_define_42 : decode b_S_define 42 = .ok (.astore_n 2, 1) := by decide +kernel
theorem d_S_define_43 : decode b_S_define 43 = .ok (.new 66, 3) := by decide +kernel
theorem d_S_define_46 : decode b_S_define 46 = .ok (.dup, 1) := by decide +kernel
theorem d_S_define_47 : decode b_S_define 47 = .ok (.aload_n 2, 1) := by decide +kernel
theorem d_S_define_48 : decode b_S_define 48 = .ok (.aload_n 0, 1) := by decide +kernel
theorem d_S_define_49 : decode b_S_define 49 = .ok (.getfield 22, 3) := by decide +kernel
theorem d_S_define_52 : decode b_S_define 52 = .ok (.aload_n 0, 1) := by decide +kernel
theorem d_S_define_53 : decode b_S_define 53 = .ok (.getfield 16, 3) := by decide +kernel
theorem d_S_define_56 : decode b_S_define 56 = .ok (.invokespecial 68, 3) := by decide +kernel
theorem d_S_define_59 : decode b_S_define 59 = .ok (.invokevirtual 71, 3) := by decide +kernel
theorem d_S_define_62 : decode b_S_define 62 = .ok (.aload_n 0, 1) := by decide +kernel
theorem d_S_define_63 : decode b_S_define 63 = .ok (.getfield 22, 3) := by decide +kernel
theorem d_S_define_66 : decode b_S_define 66 = .ok (.aload_n 2, 1) := by decide +kernel
theorem d_S_define_67 : decode b_S_define 67 = .ok (.getfield 74, 3) := by decide +kernel
theorem d_S_define_70 : decode b_S_define 70 = .ok (.aload_n 2, 1) := by decide +kernel
theorem d_S_define_71 : decode b_S_define 71 = .ok (.aastore, 1) := by decide +kernel
theorem d_S_define_72 : decode b_S_define 72 = .ok (.aload_n 0, 1) := by decide +kernel
theorem d_S_define_73 : decode b_S_define 73 = .ok (.dup, 1) := by decide +kernel
theorem d_S_define_74 : decode b_S_define 74 = .ok (.getfield 44, 3) := by decide +kernel
theorem d_S_define_77 : decode b_S_define 77 = .ok (.iconst 1, 1) := by decide +kernel
theorem d_S_define_78 : decode b_S_define 78 = .ok (.iadd, 1) := by decide +kernel
theorem d_S_define_79 : decode b_S_define 79 = .ok (.putfield 44, 3) := by decide +kernel
theorem d_S_define_82 : decode b_S_define 82 = .ok (.aload_n 0, 1) := by decide +kernel
theorem d_S_define_83 : decode b_S_define 83 = .ok (.getfield 44, 3) := by decide +kernel
theorem d_S_define_86 : decode b_S_define 86 = .ok (.ireturn, 1) := by decide +kernel
theorem d_S_functionNamed_0 : decode b_S_functionNamed 0 = .ok (.iload_n 1, 1) := by decide +kernel
theorem d_S_functionNamed_1 : decode b_S_functionNamed 1 = .ok (.bipush 65, 2) := by decide +kernel
theorem d_S_functionNamed_3 : decode b_S_functionNamed 3 = .ok (.if_icmp .lt 21, 3) := by decide +kernel
theorem d_S_functionNamed_6 : decode b_S_functionNamed 6 = .ok (.iload_n 1, 1) := by decide +kernel
theorem d_S_functionNamed_7 : decode b_S_functionNamed 7 = .ok (.bipush 72, 2) := by decide +kernel
theorem d_S_functionNamed_9 : decode b_S_functionNamed 9 = .ok (.if_icmp .gt 15, 3) := by decide +kernel
theorem d_S_functionNamed_12 : decode b_S_functionNamed 12 = .ok (.aload_n 0, 1) := by decide +kernel
theorem d_S_functionNamed_13 : decode b_S_functionNamed 13 = .ok (.getfield 22, 3) := by decide +kernel
theorem d_S_functionNamed_16 : decode b_S_functionNamed 16 = .ok (.iload_n 1, 1) := by decide +kernel
theorem d_S_functionNamed_17 : decode b_S_functionNamed 17 = .ok (.bipush 65, 2) := by decide +kernel
theorem d_S_functionNamed_19 : decode b_S_functionNamed 19 = .ok (.isub, 1) := by decide +kernel
theorem d_S_functionNamed_20 : decode b_S_functionNamed 20 = .ok (.aaload, 1) := by decide +kernel
theorem d_S_functionNamed_21 : decode b_S_functionNamed 21 = .ok (.goto 4, 3) := by decide +kernel
theorem d_S_functionNamed_24 : decode b_S_functionNamed 24 = .ok (.aconst_null, 1) := by decide +kernel
theorem d_S_functionNamed_25 : decode b_S_functionNamed 25 = .ok (.areturn, 1) := by decide +kernel
theorem d_S_run_0 : decode b_S_run 0 = .ok (.aload_n 0, 1) := by decide +kernel
theorem d_S_run_1 : decode b_S_run 1 = .ok (.iload_n 1, 1) := by decide +kernel
theorem d_S_run_2 : decode b_S_run 2 = .ok (.invokevirtual 77, 3) := by decide +kernel
theorem d_S_run_5 : decode b_S_run 5 = .ok (.astore_n 2, 1) := by decide +kernel
theorem d_S_run_6 : decode b_S_run 6 = .ok (.aload_n 2, 1) := by decide +kernel
theorem d_S_run_7 : decode b_S_run 7 = .ok (.ifnull 10, 3) := by decide +kernel
theorem d_S_run_10 : decode b_S_run 10 = .ok (.aload_n 2, 1) := by decide +kernel
theorem d_S_run_11 : decode b_S_run 11 = .ok (.invokevirtual 81, 3) := by decide +kernel
theorem d_S_run_14 : decode b_S_run 14 = .ok (.ifCond .ne 13, 3) := by decide +kernel
theorem d_S_run_17 : decode b_S_run 17 = .ok (.new 85, 3) := by decide +kernel
theorem d_S_run_20 : decode b_S_run 20 = .ok (.dup, 1) := by decide +kernel
theorem d_S_run_21 : decode b_S_run 21 = .ok (.ldc 87, 2) := by decide +kernel
theorem d_S_run_23 : decode b_S_run 23 = .ok (.invokespecial 89, 3) := by decide +kernel
theorem d_S_run_26 : decode b_S_run 26 = .ok (.athrow, 1) := by decide +kernel
theorem d_S_run_27 : decode b_S_run 27 = .ok (.aload_n 0, 1) := by decide +kernel
theorem d_S_run_28 : decode b_S_run 28 = .ok (.iconst (-1), 1) := by decide +kernel
theorem d_S_run_29 : decode b_S_run 29 = .ok (.putfield 47, 3) := by decide +kernel
theorem d_S_run_32 : decode b_S_run 32 = .ok (.aload_n 0, 1) := by decide +kernel
theorem d_S_run_33 : decode b_S_run 33 = .ok (.aload_n 0, 1) := by decide +kernel
theorem d_S_run_34 : decode b_S_run 34 = .ok (.getfield 33, 3) := by decide +kernel
theorem d_S_run_37 : decode b_S_run 37 = .ok (.aload_n 2, 1) := by decide +kernel
theorem d_S_run_38 : decode b_S_run 38 = .ok (.aload_n 0, 1) := by decide +kernel
theorem d_S_run_39 : decode b_S_run 39 = .ok (.getfield 26, 3) := by decide +kernel
theorem d_S_run_42 : decode b_S_run 42 = .ok (.invokevirtual 92, 3) := by decide +kernel
theorem d_S_run_45 : decode b_S_run 45 = .ok (.putfield 50, 3) := by decide +kernel
theorem d_S_run_48 : decode b_S_run 48 = .ok (.aload_n 0, 1) := by decide +kernel
theorem d_S_run_49 : decode b_S_run 49 = .ok (.aload_n 2, 1) := by decide +kernel
theorem d_S_run_50 : decode b_S_run 50 = .ok (.getfield 96, 3) := by decide +kernel
theorem d_S_run_53 : decode b_S_run 53 = .ok (.putfield 47, 3) := by decide +kernel
theorem d_S_run_56 : decode b_S_run 56 = .ok (.aload_n 0, 1) := by decide +kernel
theorem d_S_run_57 : decode b_S_run 57 = .ok (.getfield 47, 3) := by decide +kernel
theorem d_S_run_60 : decode b_S_run 60 = .ok (.ireturn, 1) := by decide +kernel
theorem d_R_readFunction_0 : decode b_R_readFunction 0 = .ok (.new 26, 3) := by decide +kernel
theorem d_R_readFunction_3 : decode b_R_readFunction 3 = .ok (.dup, 1) := by decide +kernel
theorem d_R_readFunction_4 : decode b_R_readFunction 4 = .ok (.aload_n 0, 1) := by decide +kernel
theorem d_R_readFunction_5 : decode b_R_readFunction 5 = .ok (.bipush 65, 2) := by decide +kernel
theorem d_R_readFunction_7 : decode b_R_readFunction 7 = .ok (.bipush 72, 2) := by decide +kernel
theorem d_R_readFunction_9 : decode b_R_readFunction 9 = .ok (.invokevirtual 28, 3) := by decide +kernel
theorem d_R_readFunction_12 : decode b_R_readFunction 12 = .ok (.invokespecial 32, 3) := by decide +kernel
theorem d_R_readFunction_15 : decode b_R_readFunction 15 = .ok (.astore_n 1, 1) := by decide +kernel
theorem d_R_readFunction_16 : decode b_R_readFunction 16 = .ok (.aload_n 0, 1) := by decide +kernel
theorem d_R_readFunction_17 : decode b_R_readFunction 17 = .ok (.bipush 40, 2) := by decide +kernel
theorem d_R_readFunction_19 : decode b_R_readFunction 19 = .ok (.invokevirtual 35, 3) := by decide +kernel
theorem d_R_readFunction_22 : decode b_R_readFunction 22 = .ok (.iconst 0, 1) := by decide +kernel
theorem d_R_readFunction_23 : decode b_R_readFunction 23 = .ok (.istore_n 2, 1) := by decide +kernel
theorem d_R_readFunction_24 : decode b_R_readFunction 24 = .ok (.iload_n 2, 1) := by decide +kernel
theorem d_R_readFunction_25 : decode b_R_readFunction 25 = .ok (.iconst 4, 1) := by decide +kernel
theorem d_R_readFunction_26 : decode b_R_readFunction 26 = .ok (.if_icmp .ge 28, 3) := by decide +kernel
theorem d_R_readFunction_29 : decode b_R_readFunction 29 = .ok (.aload_n 0, 1) := by decide +kernel
theorem d_R_readFunction_30 : decode b_R_readFunction 30 = .ok (.invokevirtual 39, 3) := by decide +kernel
theorem d_R_readFunction_33 : decode b_R_readFunction 33 = .ok (.bipush 41, 2) := by decide +kernel
theorem d_R_readFunction_35 : decode b_R_readFunction 35 = .ok (.if_icmp .eq 19, 3) := by decide +kernel
theorem d_R_readFunction_38 : decode b_R_readFunction 38 = .ok (.aload_n 0, 1) := by decide +kernel
theorem d_R_readFunction_39 : decode b_R_readFunction 39 = .ok (.iload_n 2, 1) := by decide +kernel
theorem d_R_readFunction_40 : decode b_R_readFunction 40 = .ok (.invokevirtual 43, 3) := by decide +kernel
theorem d_R_readFunction_43 : decode b_R_readFunction 43 = .ok (.aload_n 0, 1) := by decide +kernel
theorem d_R_readFunction_44 : decode b_R_readFunction 44 = .ok (.aload_n 1, 1) := by decide +kernel
theorem d_R_readFunction_45 : decode b_R_readFunction 45 = .ok (.invokevirtual 46, 3) := by decide +kernel
theorem d_R_readFunction_48 : decode b_R_readFunction 48 = .ok (.iinc 2 1, 3) := by decide +kernel
theorem d_R_readFunction_51 : decode b_R_readFunction 51 = .ok (.goto (-27), 3) := by decide +kernel
theorem d_R_readFunction_54 : decode b_R_readFunction 54 = .ok (.aload_n 0, 1) := by decide +kernel
theorem d_R_readFunction_55 : decode b_R_readFunction 55 = .ok (.bipush 41, 2) := by decide +kernel
theorem d_R_readFunction_57 : decode b_R_readFunction 57 = .ok (.invokevirtual 35, 3) := by decide +kernel
theorem d_R_readFunction_60 : decode b_R_readFunction 60 = .ok (.aload_n 1, 1) := by decide +kernel
theorem d_R_readFunction_61 : decode b_R_readFunction 61 = .ok (.aload_n 0, 1) := by decide +kernel
theorem d_R_readFunction_62 : decode b_R_readFunction 62 = .ok (.bipush 48, 2) := by decide +kernel
theorem d_R_readFunction_64 : decode b_R_readFunction 64 = .ok (.bipush 50, 2) := by decide +kernel
theorem d_R_readFunction_66 : decode b_R_readFunction 66 = .ok (.invokevirtual 28, 3) := by decide +kernel
theorem d_R_readFunction_69 : decode b_R_readFunction 69 = .ok (.putfield 50, 3) := by decide +kernel
theorem d_R_readFunction_72 : decode b_R_readFunction 72 = .ok (.aload_n 0, 1) := by decide +kernel
theorem d_R_readFunction_73 : decode b_R_readFunction 73 = .ok (.bipush 61, 2) := by decide +kernel
theorem d_R_readFunction_75 : decode b_R_readFunction 75 = .ok (.invokevirtual 35, 3) := by decide +kernel
theorem d_R_readFunction_78 : decode b_R_readFunction 78 = .ok (.aload_n 1, 1) := by decide +kernel
theorem d_R_readFunction_79 : decode b_R_readFunction 79 = .ok (.aload_n 0, 1) := by decide +kernel
theorem d_R_readFunction_80 : decode b_R_readFunction 80 = .ok (.iconst 1, 1) := by decide +kernel
theorem d_R_readFunction_81 : decode b_R_readFunction 81 = .ok (.invokevirtual 53, 3) := by decide +kernel
theorem d_R_readFunction_84 : decode b_R_readFunction 84 = .ok (.putfield 57, 3) := by decide +kernel
theorem d_R_readFunction_87 : decode b_R_readFunction 87 = .ok (.aload_n 0, 1) := by decide +kernel
theorem d_R_readFunction_88 : decode b_R_readFunction 88 = .ok (.getfield 9, 3) := by decide +kernel
theorem d_R_readFunction_91 : decode b_R_readFunction 91 = .ok (.aload_n 0, 1) := by decide +kernel
theorem d_R_readFunction_92 : decode b_R_readFunction 92 = .ok (.getfield 19, 3) := by decide +kernel
theorem d_R_readFunction_95 : decode b_R_readFunction 95 = .ok (.if_icmp .ge 14, 3) := by decide +kernel
theorem d_R_readFunction_98 : decode b_R_readFunction 98 = .ok (.aload_n 0, 1) := by decide +kernel
theorem d_R_readFunction_99 : decode b_R_readFunction 99 = .ok (.getfield 22, 3) := by decide +kernel
theorem d_R_readFunction_102 : decode b_R_readFunction 102 = .ok (.aload_n 0, 1) := by decide +kernel
theorem d_R_readFunction_103 : decode b_R_readFunction 103 = .ok (.getfield 9, 3) := by decide +kernel
theorem d_R_readFunction_106 : decode b_R_readFunction 106 = .ok (.invokevirtual 61, 3) := by decide +kernel
theorem d_R_readFunction_109 : decode b_R_readFunction 109 = .ok (.aload_n 1, 1) := by decide +kernel
theorem d_R_readFunction_110 : decode b_R_readFunction 110 = .ok (.areturn, 1) := by decide +kernel
section BX
variable {G : zG} {l : Launch} {n r p z : Nat} {σ : zS} {xs : mS} {xr : Int64} {xa : mA} {xl : mL} {xf : xF}
/-- the text begins with no function's letter -/
def xBad (xa : mA) (z : Nat) : Prop := ¬ (65 ≤ xlk xa 0 z ∧ xlk xa 0 z ≤ 72)
def fnC0 : va_E := .inr (2, [.int 0, .null, .null, .null, .int 0, .int 0, .null])
theorem c_R_readFunction_bad (hn : 85 ≤ n) (hn2 : n < 999000) (hr : 85 ≤ r) (hrn : r < n) (hrd0 : σ r = rdC 0 z) (hz : z ≤ 150) (hc : ∀ i, i < 150 → narrow .char (.int (xa 1 i)) = .int (xa 1 i)) (hb : xBad xa z) : MetZ G l y_R_readFunction b_R_readFunction 3 (some (.object "SoleArrays$Function")) [] 8 2 13 [.ref r] n (xOv xs xr xa xl xf σ)
    (fun o n' σ' => o = .threw (n + 1) ∧ n' = n + 2 ∧ σ' = xOv (upd xs 4 0) xr xa xl xf (va_up (va_up σ n fnC0) (n + 1) (.inr (9, [])))) := by
  have hrd : xOv xs xr xa xl xf (va_up σ n fnC0) r = .inr (4, [.ref 1, .int (nI z), .ref 2, .int (nI 0)]) := (xOv_at hr).trans ((va_up_ne _ _ (by omega)).trans hrd0)
  refine MetZ.of (by decide) (Nat.le_of_ble_eq_true rfl) (fun K hK hR hpo hmc hms C => ?_)
  refine z_new C 3 n_R_26 d_R_readFunction_0 rfl (by omega) (by rw [hR]; simp only [zRm]; omega) (by rw [hR]; simp only [zRm]; omega) ?_
  rw [xOv_up hn]
  refine z_dup C 4 d_R_readFunction_3 rfl rfl ?_
  refine z_aload_n C 5 d_R_readFunction_4 rfl rfl ?_
  refine z_bipush C 7 d_R_readFunction_5 rfl 65 (by decide) ?_
  refine z_bipush C 9 d_R_readFunction_7 rfl 72 (by decide) ?_
  refine z_call C 12 (c_R_takeOneOf (p := 0) (z := z) (by omega) (by omega) hr (by omega) ((va_up_ne _ _ (by omega)).trans hrd0) hz (by omega) hc 65 72 (mc := 1) (ms := 6) (fun _ => ⟨by omega, by omega⟩)) w_R_takeOneOf ini_R d_R_readFunction_9 rfl (z_goV (As := [.int 65, .int 72]) C l_R_28 w_R_takeOneOf d_R_readFunction_9 (by omega) (hrd) rfl rfl) (Nat.le_of_ble_eq_true rfl) (by rw [hR]; simp only [zRm]; omega) (by rw [hR]; simp only [zRm]; omega) (by rw [hR]; simp only [zRm]; omega) (by rw [hR]; simp only [zRm]; omega) (fun v n' σ' hv => ?_) (fun x n' σ' hv => ?_)
  · rcases hv with ⟨q, -⟩ | ⟨-, e0, -⟩
    · exact absurd q hb
    · cases e0
  · rcases hv with ⟨q, -⟩ | ⟨-, e0, rfl, rfl⟩
    · exact absurd q hb
    · cases e0
      exact zx_out C (fun h hh => nomatch hh) (by rw [hpo]; exact ⟨rfl, rfl, rfl⟩) (by rw [hmc]; omega) (by rw [hms]; omega)
theorem c_S_define_bad (hn : 85 ≤ n) (hn2 : n < 998000) (h1 : xs 1 = nI z) (hz : z ≤ 150) (hc : ∀ i, i < 150 → narrow .char (.int (xa 1 i)) = .int (xa 1 i)) (hb : xBad xa z) : MetZ G l y_S_define b_S_define 3 (some .int) [] 9 3 17 [.ref 0] n (xOv xs xr xa xl xf σ)
    (fun o n' σ' => o = .threw (n + 2) ∧ n' = n + 3 ∧ σ' = xOv (upd (upd (upd (upd xs 0 0) 1 0) 4 (-1)) 4 0) xr xa xl xf (va_up (va_up (va_up σ n (rdC 0 z)) (n + 1) fnC0) (n + 2) (.inr (9, [])))) := by
  refine MetZ.of (by decide) (Nat.le_of_ble_eq_true rfl) (fun K hK hR hpo hmc hms C => ?_)
  refine z_aload_n C 1 d_S_define_0 rfl rfl ?_
  refine z_get C 4 f_S_41 d_S_define_1 rfl (by omega) rfl rfl ?_
  refine z_istore_n C 5 d_S_define_4 rfl (by decide) ?_
  refine z_aload_n C 6 d_S_define_5 rfl rfl ?_
  refine z_iconst C 7 d_S_define_6 rfl 0 (by decide) ?_
  refine zx_put0 C 10 0 p_S_37 d_S_define_7 rfl (by omega) (by decide) (by decide) rfl ?_
  refine z_aload_n C 11 d_S_define_10 rfl rfl ?_
  refine z_iconst C 12 d_S_define_11 rfl 0 (by decide) ?_
  refine zx_put0 C 15 1 p_S_41 d_S_define_12 rfl (by omega) (by decide) (by decide) rfl ?_
  refine z_aload_n C 16 d_S_define_15 rfl rfl ?_
  refine z_get C 19 f_S_16 d_S_define_16 rfl (by omega) rfl rfl ?_
  refine z_iconst C 20 d_S_define_19 rfl (-1) (by decide) ?_
  refine zx_put2 C 23 p_S_54 d_S_define_20 rfl (by omega) ?_
  refine z_new C 26 n_S_57 d_S_define_23 rfl (by omega) (by rw [hR]; simp only [zRm]; omega) (by rw [hR]; simp only [zRm]; omega) ?_
  rw [xOv_up hn]
  refine z_dup C 27 d_S_define_26 rfl rfl ?_
  refine z_aload_n C 28 d_S_define_27 rfl rfl ?_
  refine z_get C 31 f_S_9 d_S_define_28 rfl (by omega) rfl rfl ?_
  refine z_iload_n C 32 d_S_define_31 rfl rfl ?_
  refine z_aload_n C 33 d_S_define_32 rfl rfl ?_
  refine z_get C 36 f_S_16 d_S_define_33 rfl (by omega) rfl rfl ?_
  rw [← xOv_up hn, h1]
  refine z_call C 39 (c_R_init (by omega) (nI z)) w_R_init ini_R d_S_define_36 rfl (z_goI (As := [.ref 1, .int (nI z), .ref 2]) C l_S_59 w_R_init d_S_define_36 rfl) (Nat.le_of_ble_eq_true rfl) (by rw [hR]; simp only [zRm]; omega) (by rw [hR]; simp only [zRm]; omega) (by rw [hR]; simp only [zRm]; omega) (by rw [hR]; simp only [zRm]; omega) (fun v n' σ' hv => ?_) (fun x n' σ' hv => ?_)
  · obtain ⟨e0, rfl, rfl⟩ := hv
    cases e0
    rw [xOv_up hn]
    refine z_call C 42 (c_R_readFunction_bad (z := z) (by omega) (by omega) hn (by omega) (va_up_self _ _ _) hz hc hb) w_R_readFunction ini_R d_S_define_39 rfl (z_goV (As := []) C l_S_62 w_R_readFunction d_S_define_39 (by omega) ((xOv_at hn).trans (va_up_self _ _ _)) rfl rfl) (Nat.le_of_ble_eq_true rfl) (by rw [hR]; simp only [zRm]; omega) (by rw [hR]; simp only [zRm]; omega) (by rw [hR]; simp only [zRm]; omega) (by rw [hR]; simp only [zRm]; omega) (fun v n' σ' hv => ?_) (fun x n' σ' hv => ?_)
    · cases hv.1
    · obtain ⟨e0, rfl, rfl⟩ := hv
      cases e0
      exact zx_out C (fun h hh => nomatch hh) (by rw [hpo]; exact ⟨rfl, rfl, rfl⟩) (by rw [hmc]; omega) (by rw [hms]; omega)
  · cases hv.1
def xfn (xf : xF) (c : Int32) : Option Nat := if 65 ≤ c ∧ c ≤ 72 then xf (c - 65).toNatClampNeg else none
theorem xfn_c {c : Int32} (h1 : 65 ≤ c) (h2 : c ≤ 72) : ∃ k, k < 8 ∧ c = nI (65 + k) ∧ c - 65 = nI k := by
  have a1 := Int32.le_iff_toInt_le.mp h1
  have a2 := Int32.le_iff_toInt_le.mp h2
  have e1 : (65 : Int32).toInt = 65 := rfl
  have e2 : (72 : Int32).toInt = 72 := rfl
  rw [e1] at a1
  rw [e2] at a2
  refine ⟨c.toInt.toNat - 65, by omega, ?_, ?_⟩
  · refine Int32.toInt_inj.mp ?_
    rw [nI_toInt (by omega)]
    omega
  · have e : c = nI (c.toInt.toNat - 65) + 65 := by
      rw [show nI (c.toInt.toNat - 65) + 65 = nI (c.toInt.toNat - 65 + 65) from nI_add _ 65]
      refine Int32.toInt_inj.mp ?_
      rw [nI_toInt (by omega)]
      omega
    rw [e, Int32.add_sub_cancel, ← e]
theorem c_S_functionNamed (hn : 85 ≤ n) (c : Int32) : MetZ G l y_S_functionNamed b_S_functionNamed 2 (some (.object "SoleArrays$Function")) [] 0 0 0 [.ref 0, .int c] n (xOv xs xr xa xl xf σ) (fun o n' σ' => o = .returned (some (va_rf (xfn xf c))) ∧ n' = n ∧ σ' = xOv xs xr xa xl xf σ) := by
  refine MetZ.of (by decide) (Nat.le_of_ble_eq_true rfl) (fun K hK hR hpo hmc hms C => ?_)
  refine z_iload_n C 1 d_S_functionNamed_0 rfl rfl ?_
  refine z_bipush C 3 d_S_functionNamed_1 rfl 65 (by decide) ?_
  refine z_icmp_lt C 6 24 d_S_functionNamed_3 rfl (by decide) (fun h1 => ?_) (fun h1 => ?_)
  · refine z_null C 25 d_S_functionNamed_24 rfl ?_
    exact z_aretN C rfl d_S_functionNamed_25 (by rw [hpo]; exact ⟨by rw [xfn, if_neg (fun q => Int32.not_le.mpr h1 q.1)]; rfl, rfl, rfl⟩) (by rw [hmc]; omega) (by rw [hms]; omega)
  refine z_iload_n C 7 d_S_functionNamed_6 rfl rfl ?_
  refine z_bipush C 9 d_S_functionNamed_7 rfl 72 (by decide) ?_
  refine z_icmp_gt C 12 24 d_S_functionNamed_9 rfl (by decide) (fun h2 => ?_) (fun h2 => ?_)
  · refine z_null C 25 d_S_functionNamed_24 rfl ?_
    exact z_aretN C rfl d_S_functionNamed_25 (by rw [hpo]; exact ⟨by rw [xfn, if_neg (fun q => Int32.not_le.mpr h2 q.2)]; rfl, rfl, rfl⟩) (by rw [hmc]; omega) (by rw [hms]; omega)
  refine z_aload_n C 13 d_S_functionNamed_12 rfl rfl ?_
  refine z_get C 16 f_S_22 d_S_functionNamed_13 rfl (by omega) rfl rfl ?_
  refine z_iload_n C 17 d_S_functionNamed_16 rfl rfl ?_
  refine z_bipush C 19 d_S_functionNamed_17 rfl 65 (by decide) ?_
  refine z_isub C 20 d_S_functionNamed_19 rfl ?_
  obtain ⟨k, hk, -, ek⟩ := xfn_c (Int32.not_lt.mp h1) (Int32.not_lt.mp h2)
  refine z_aald C 21 (t := 4) k (xf k) d_S_functionNamed_20 rfl (by omega) rfl rfl rfl ek hk (by decide) rfl ?_
  refine z_goto C 25 d_S_functionNamed_21 (by decide) ?_
  have e : xfn xf c = xf k := by rw [xfn, if_pos ⟨Int32.not_lt.mp h1, Int32.not_lt.mp h2⟩, ek, nI_clamp (by omega)]
  cases hx : xf k with
  | none => exact z_aretN C rfl d_S_functionNamed_25 (by rw [hpo]; exact ⟨by rw [e, hx]; rfl, rfl, rfl⟩) (by rw [hmc]; omega) (by rw [hms]; omega)
  | some q => exact z_aret C rfl d_S_functionNamed_25 (by rw [hpo]; exact ⟨by rw [e, hx]; rfl, rfl, rfl⟩) (by rw [hmc]; omega) (by rw [hms]; omega)
theorem c_S_run_none (hn : 85 ≤ n) (hn2 : n < 1000000) (c : Int32) (hx : xfn xf c = none) : MetZ G l y_S_run b_S_run 3 (some .int) [] 6 1 6 [.ref 0, .int c] n (xOv xs xr xa xl xf σ) (fun o n' σ' => o = .threw n ∧ n' = n + 1 ∧ σ' = xOv xs xr xa xl xf (va_up σ n (.inr (9, [])))) := by
  refine MetZ.of (by decide) (Nat.le_of_ble_eq_true rfl) (fun K hK hR hpo hmc hms C => ?_)
  refine z_aload_n C 1 d_S_run_0 rfl rfl ?_
  refine z_iload_n C 2 d_S_run_1 rfl rfl ?_
  refine z_call C 5 (c_S_functionNamed hn c) w_S_functionNamed ini_S d_S_run_2 rfl (z_goV (As := [.int c]) C l_S_77 w_S_functionNamed d_S_run_2 (by omega) rfl rfl rfl) (Nat.le_of_ble_eq_true rfl) (by rw [hR]; simp only [zRm]; omega) (by rw [hR]; simp only [zRm]; omega) (by rw [hR]; simp only [zRm]; omega) (by rw [hR]; simp only [zRm]; omega) (fun v n' σ' hv => ?_) (fun x n' σ' hv => ?_)
  · rw [hx] at hv
    obtain ⟨e0, e1, rfl⟩ := hv
    cases e0
    obtain rfl : n = n' := e1.symm
    refine z_astore_nN C 6 d_S_run_5 rfl (by decide) ?_
    refine z_aload_nN C 7 d_S_run_6 rfl rfl ?_
    refine z_ifnullN C 17 d_S_run_7 (by decide) ?_
    exact z_throwS C (ci := 9) (names := zNm) (text := "no such function, or one that takes more than numbers") rfl (by decide) zNm_fit cl_S_85 ini_e1 (by decide) at_S_89 d_S_run_17 d_S_run_20 d_S_run_21 d_S_run_23 d_S_run_26 (fun h hh => nomatch hh) (by rw [hR]; show 2 + 3 < _; simp only [zRm]; omega) (by rw [hR]; show _ + (13 * (2 + 1) + 43) ≤ _; simp only [zRm]; exact Nat.le_of_ble_eq_true rfl) (by omega) (by rw [hR]; simp only [zRm]; omega) (by rw [hR]; simp only [zRm]; omega) (by rw [hmc]; omega) (by rw [hms]; omega) (by rw [hpo]; exact ⟨rfl, rfl, xOv_up hn _⟩)
  · cases hv.1
end BX
end
section
theorem d_M_readFunction_0 : decode b_M_readFunction 0 = .ok (.aload_n 0, 1) := by decide +kernel
theorem d_M_readFunction_1 : decode b_M_readFunction 1 = .ok (.iconst 0, 1) := by decide +kernel
theorem d_M_readFunction_2 : decode b_M_readFunction 2 = .ok (.putfield 126, 3) := by decide +kernel
theorem d_M_readFunction_5 : decode b_M_readFunction 5 = .ok (.aload_n 0, 1) := by decide +kernel
theorem d_M_readFunction_6 : decode b_M_readFunction 6 = .ok (.getfield 37, 3) := by decide +kernel
theorem d_M_readFunction_9 : decode b_M_readFunction 9 = .ok (.bipush 8, 2) := by decide +kernel
theorem d_M_readFunction_11 : decode b_M_readFunction 11 = .ok (.iconst 0, 1) := by decide +kernel
theorem d_M_readFunction_12 : decode b_M_readFunction 12 = .ok (.iastore, 1) := by decide +kernel
theorem d_M_readFunction_13 : decode b_M_readFunction 13 = .ok (.aload_n 0, 1) := by decide +kernel
theorem d_M_readFunction_14 : decode b_M_readFunction 14 = .ok (.bipush 65, 2) := by decide +kernel
theorem d_M_readFunction_16 : decode b_M_readFunction 16 = .ok (.bipush 72, 2) := by decide +kernel
theorem d_M_readFunction_18 : decode b_M_readFunction 18 = .ok (.invokevirtual 132, 3) := by decide +kernel
theorem d_M_readFunction_21 : decode b_M_readFunction 21 = .ok (.istore_n 1, 1) := by decide +kernel
theorem d_M_readFunction_22 : decode b_M_readFunction 22 = .ok (.aload_n 0, 1) := by decide +kernel
theorem d_M_readFunction_23 : decode b_M_readFunction 23 = .ok (.aload_n 0, 1) := by decide +kernel
theorem d_M_readFunction_24 : decode b_M_readFunction 24 = .ok (.bipush 40, 2) := by decide +kernel
theorem d_M_readFunction_26 : decode b_M_readFunction 26 = .ok (.invokevirtual 140, 3) := by decide +kernel
theorem d_M_readFunction_29 : decode b_M_readFunction 29 = .ok (.invokevirtual 122, 3) := by decide +kernel
theorem d_M_readFunction_32 : decode b_M_readFunction 32 = .ok (.aload_n 0, 1) := by decide +kernel
theorem d_M_readFunction_33 : decode b_M_readFunction 33 = .ok (.bipush 41, 2) := by decide +kernel
theorem d_M_readFunction_35 : decode b_M_readFunction 35 = .ok (.invokevirtual 140, 3) := by decide +kernel
theorem d_M_readFunction_38 : decode b_M_readFunction 38 = .ok (.ifCond .ne 126, 3) := by decide +kernel
theorem d_M_readFunction_41 : decode b_M_readFunction 41 = .ok (.aload_n 0, 1) := by decide +kernel
theorem d_M_readFunction_42 : decode b_M_readFunction 42 = .ok (.getfield 104, 3) := by decide +kernel
theorem d_M_readFunction_45 : decode b_M_readFunction 45 = .ok (.ifCond .ne 7, 3) := by decide +kernel
theorem d_M_readFunction_48 : decode b_M_readFunction 48 = .ok (.iconst 1, 1) := by decide +kernel
theorem d_M_readFunction_49 : decode b_M_readFunction 49 = .ok (.goto 4, 3) := by decide +kernel
theorem d_M_readFunction_52 : decode b_M_readFunction 52 = .ok (.iconst 0, 1) := by decide +kernel
theorem d_M_readFunction_53 : decode b_M_readFunction 53 = .ok (.istore_n 2, 1) := by decide +kernel
theorem d_M_readFunction_54 : decode b_M_readFunction 54 = .ok (.iload_n 2, 1) := by decide +kernel
theorem d_M_readFunction_55 : decode b_M_readFunction 55 = .ok (.ifCond .eq 99, 3) := by decide +kernel
theorem d_M_readFunction_58 : decode b_M_readFunction 58 = .ok (.bipush 32, 2) := by decide +kernel
theorem d_M_readFunction_60 : decode b_M_readFunction 60 = .ok (.aload_n 0, 1) := by decide +kernel
theorem d_M_readFunction_61 : decode b_M_readFunction 61 = .ok (.getfield 37, 3) := by decide +kernel
theorem d_M_readFunction_64 : decode b_M_readFunction 64 = .ok (.bipush 8, 2) := by decide +kernel
theorem d_M_readFunction_66 : decode b_M_readFunction 66 = .ok (.iaload, 1) := by decide +kernel
theorem d_M_readFunction_67 : decode b_M_readFunction 67 = .ok (.iadd, 1) := by decide +kernel
theorem d_M_readFunction_68 : decode b_M_readFunction 68 = .ok (.istore_n 3, 1) := by decide +kernel
theorem d_M_readFunction_69 : decode b_M_readFunction 69 = .ok (.aload_n 0, 1) := by decide +kernel
theorem d_M_readFunction_70 : decode b_M_readFunction 70 = .ok (.getfield 49, 3) := by decide +kernel
theorem d_M_readFunction_73 : decode b_M_readFunction 73 = .ok (.iload_n 3, 1) := by decide +kernel
theorem d_M_readFunction_74 : decode b_M_readFunction 74 = .ok (.aload_n 0, 1) := by decide +kernel
theorem d_M_readFunction_75 : decode b_M_readFunction 75 = .ok (.getfield 108, 3) := by decide +kernel
theorem d_M_readFunction_78 : decode b_M_readFunction 78 = .ok (.iastore, 1) := by decide +kernel
theorem d_M_readFunction_79 : decode b_M_readFunction 79 = .ok (.aload_n 0, 1) := by decide +kernel
theorem d_M_readFunction_80 : decode b_M_readFunction 80 = .ok (.getfield 43, 3) := by decide +kernel
theorem d_M_readFunction_83 : decode b_M_readFunction 83 = .ok (.iload_n 3, 1) := by decide +kernel
theorem d_M_readFunction_84 : decode b_M_readFunction 84 = .ok (.aload_n 0, 1) := by decide +kernel
theorem d_M_readFunction_85 : decode b_M_readFunction 85 = .ok (.bipush 97, 2) := by decide +kernel
theorem d_M_readFunction_87 : decode b_M_readFunction 87 = .ok (.bipush 116, 2) := by decide +kernel
theorem d_M_readFunction_89 : decode b_M_readFunction 89 = .ok (.invokevirtual 132, 3) := by decide +kernel
theorem d_M_readFunction_92 : decode b_M_readFunction 92 = .ok (.iastore, 1) := by decide +kernel
theorem d_M_readFunction_93 : decode b_M_readFunction 93 = .ok (.aload_n 0, 1) := by decide +kernel
theorem d_M_readFunction_94 : decode b_M_readFunction 94 = .ok (.getfield 46, 3) := by decide +kernel
theorem d_M_readFunction_97 : decode b_M_readFunction 97 = .ok (.iload_n 3, 1) := by decide +kernel
theorem d_M_readFunction_98 : decode b_M_readFunction 98 = .ok (.aload_n 0, 1) := by decide +kernel
theorem d_M_readFunction_99 : decode b_M_readFunction 99 = .ok (.bipush 48, 2) := by decide +kernel
theorem d_M_readFunction_101 : decode b_M_readFunction 101 = .ok (.bipush 50, 2) := by decide +kernel
theorem d_M_readFunction_103 : decode b_M_readFunction 103 = .ok (.invokevirtual 132, 3) := by decide +kernel
theorem d_M_readFunction_106 : decode b_M_readFunction 106 = .ok (.iastore, 1) := by decide +kernel
theorem d_M_readFunction_107 : decode b_M_readFunction 107 = .ok (.aload_n 0, 1) := by decide +kernel
theorem d_M_readFunction_108 : decode b_M_readFunction 108 = .ok (.getfield 37, 3) := by decide +kernel
theorem d_M_readFunction_111 : decode b_M_readFunction 111 = .ok (.bipush 8, 2) := by decide +kernel
theorem d_M_readFunction_113 : decode b_M_readFunction 113 = .ok (.dup2, 1) := by decide +kernel
theorem d_M_readFunction_114 : decode b_M_readFunction 114 = .ok (.iaload, 1) := by decide +kernel
theorem d_M_readFunction_115 : decode b_M_readFunction 115 = .ok (.iconst 1, 1) := by decide +kernel
theorem d_M_readFunction_116 : decode b_M_readFunction 116 = .ok (.iadd, 1) := by decide +kernel
theorem d_M_readFunction_117 : decode b_M_readFunction 117 = .ok (.iastore, 1) := by decide +kernel
theorem d_M_readFunction_118 : decode b_M_readFunction 118 = .ok (.aload_n 0, 1) := by decide +kernel
theorem d_M_readFunction_119 : decode b_M_readFunction 119 = .ok (.getfield 104, 3) := by decide +kernel
theorem d_M_readFunction_122 : decode b_M_readFunction 122 = .ok (.ifCond .ne 27, 3) := by decide +kernel
theorem d_M_readFunction_125 : decode b_M_readFunction 125 = .ok (.aload_n 0, 1) := by decide +kernel
theorem d_M_readFunction_126 : decode b_M_readFunction 126 = .ok (.getfield 37, 3) := by decide +kernel
theorem d_M_readFunction_129 : decode b_M_readFunction 129 = .ok (.bipush 8, 2) := by decide +kernel
theorem d_M_readFunction_131 : decode b_M_readFunction 131 = .ok (.iaload, 1) := by decide +kernel
theorem d_M_readFunction_132 : decode b_M_readFunction 132 = .ok (.iconst 4, 1) := by decide +kernel
theorem d_M_readFunction_133 : decode b_M_readFunction 133 = .ok (.if_icmp .ge 16, 3) := by decide +kernel
theorem d_M_readFunction_136 : decode b_M_readFunction 136 = .ok (.aload_n 0, 1) := by decide +kernel
theorem d_M_readFunction_137 : decode b_M_readFunction 137 = .ok (.bipush 44, 2) := by decide +kernel
theorem d_M_readFunction_139 : decode b_M_readFunction 139 = .ok (.invokevirtual 140, 3) := by decide +kernel
theorem d_M_readFunction_142 : decode b_M_readFunction 142 = .ok (.ifCond .eq 7, 3) := by decide +kernel
theorem d_M_readFunction_145 : decode b_M_readFunction 145 = .ok (.iconst 1, 1) := by decide +kernel
theorem d_M_readFunction_146 : decode b_M_readFunction 146 = .ok (.goto 4, 3) := by decide +kernel
theorem d_M_readFunction_149 : decode b_M_readFunction 149 = .ok (.iconst 0, 1) := by decide +kernel
theorem d_M_readFunction_150 : decode b_M_readFunction 150 = .ok (.istore_n 2, 1) := by decide +kernel
theorem d_M_readFunction_151 : decode b_M_readFunction 151 = .ok (.goto (-97), 3) := by decide +kernel
theorem d_M_readFunction_154 : decode b_M_readFunction 154 = .ok (.aload_n 0, 1) := by decide +kernel
theorem d_M_readFunction_155 : decode b_M_readFunction 155 = .ok (.aload_n 0, 1) := by decide +kernel
theorem d_M_readFunction_156 : decode b_M_readFunction 156 = .ok (.bipush 41, 2) := by decide +kernel
theorem d_M_readFunction_158 : decode b_M_readFunction 158 = .ok (.invokevirtual 140, 3) := by decide +kernel
theorem d_M_readFunction_161 : decode b_M_readFunction 161 = .ok (.invokevirtual 122, 3) := by decide +kernel
theorem d_M_readFunction_164 : decode b_M_readFunction 164 = .ok (.aload_n 0, 1) := by decide +kernel
theorem d_M_readFunction_165 : decode b_M_readFunction 165 = .ok (.getfield 40, 3) := by decide +kernel
theorem d_M_readFunction_168 : decode b_M_readFunction 168 = .ok (.bipush 8, 2) := by decide +kernel
theorem d_M_readFunction_170 : decode b_M_readFunction 170 = .ok (.aload_n 0, 1) := by decide +kernel
theorem d_M_readFunction_171 : decode b_M_readFunction 171 = .ok (.bipush 48, 2) := by decide +kernel
theorem d_M_readFunction_173 : decode b_M_readFunction 173 = .ok (.bipush 50, 2) := by decide +kernel
theorem d_M_readFunction_175 : decode b_M_readFunction 175 = .ok (.invokevirtual 132, 3) := by decide +kernel
theorem d_M_readFunction_178 : decode b_M_readFunction 178 = .ok (.iastore, 1) := by decide +kernel
theorem d_M_readFunction_179 : decode b_M_readFunction 179 = .ok (.aload_n 0, 1) := by decide +kernel
theorem d_M_readFunction_180 : decode b_M_readFunction 180 = .ok (.aload_n 0, 1) := by decide +kernel
theorem d_M_readFunction_181 : decode b_M_readFunction 181 = .ok (.bipush 61, 2) := by decide +kernel
theorem d_M_readFunction_183 : decode b_M_readFunction 183 = .ok (.invokevirtual 140, 3) := by decide +kernel
theorem d_M_readFunction_186 : decode b_M_readFunction 186 = .ok (.invokevirtual 122, 3) := by decide +kernel
theorem d_M_readFunction_189 : decode b_M_readFunction 189 = .ok (.aload_n 0, 1) := by decide +kernel
theorem d_M_readFunction_190 : decode b_M_readFunction 190 = .ok (.getfield 104, 3) := by decide +kernel
theorem d_M_readFunction_193 : decode b_M_readFunction 193 = .ok (.ifCond .ne 7, 3) := by decide +kernel
theorem d_M_readFunction_196 : decode b_M_readFunction 196 = .ok (.aload_n 0, 1) := by decide +kernel
theorem d_M_readFunction_197 : decode b_M_readFunction 197 = .ok (.invokevirtual 159, 3) := by decide +kernel
theorem d_M_readFunction_200 : decode b_M_readFunction 200 = .ok (.aload_n 0, 1) := by decide +kernel
theorem d_M_readFunction_201 : decode b_M_readFunction 201 = .ok (.aload_n 0, 1) := by decide +kernel
theorem d_M_readFunction_202 : decode b_M_readFunction 202 = .ok (.getfield 108, 3) := by decide +kernel
theorem d_M_readFunction_205 : decode b_M_readFunction 205 = .ok (.aload_n 0, 1) := by decide +kernel
theorem d_M_readFunction_206 : decode b_M_readFunction 206 = .ok (.getfield 111, 3) := by decide +kernel
theorem d_M_readFunction_209 : decode b_M_readFunction 209 = .ok (.if_icmp .ne 7, 3) := by decide +kernel
theorem d_M_readFunction_212 : decode b_M_readFunction 212 = .ok (.iconst 1, 1) := by decide +kernel
theorem d_M_readFunction_213 : decode b_M_readFunction 213 = .ok (.goto 4, 3) := by decide +kernel
theorem d_M_readFunction_216 : decode b_M_readFunction 216 = .ok (.iconst 0, 1) := by decide +kernel
theorem d_M_readFunction_217 : decode b_M_readFunction 217 = .ok (.invokevirtual 122, 3) := by decide +kernel
theorem d_M_readFunction_220 : decode b_M_readFunction 220 = .ok (.iload_n 1, 1) := by decide +kernel
theorem d_M_readFunction_221 : decode b_M_readFunction 221 = .ok (.ireturn, 1) := by decide +kernel
theorem d_M_define_0 : decode b_M_define 0 = .ok (.aload_n 0, 1) := by decide +kernel
theorem d_M_define_1 : decode b_M_define 1 = .ok (.iconst 0, 1) := by decide +kernel
theorem d_M_define_2 : decode b_M_define 2 = .ok (.putfield 108, 3) := by decide +kernel
theorem d_M_define_5 : decode b_M_define 5 = .ok (.aload_n 0, 1) := by decide +kernel
theorem d_M_define_6 : decode b_M_define 6 = .ok (.iconst 0, 1) := by decide +kernel
theorem d_M_define_7 : decode b_M_define 7 = .ok (.putfield 104, 3) := by decide +kernel
theorem d_M_define_10 : decode b_M_define 10 = .ok (.aload_n 0, 1) := by decide +kernel
theorem d_M_define_11 : decode b_M_define 11 = .ok (.invokevirtual 210, 3) := by decide +kernel
theorem d_M_define_14 : decode b_M_define 14 = .ok (.istore_n 1, 1) := by decide +kernel
theorem d_M_define_15 : decode b_M_define 15 = .ok (.aload_n 0, 1) := by decide +kernel
theorem d_M_define_16 : decode b_M_define 16 = .ok (.aload_n 0, 1) := by decide +kernel
theorem d_M_define_17 : decode b_M_define 17 = .ok (.getfield 104, 3) := by decide +kernel
theorem d_M_define_20 : decode b_M_define 20 = .ok (.ifCond .eq 10, 3) := by decide +kernel
theorem d_M_define_23 : decode b_M_define 23 = .ok (.aload_n 0, 1) := by decide +kernel
theorem d_M_define_24 : decode b_M_define 24 = .ok (.getfield 108, 3) := by decide +kernel
theorem d_M_define_27 : decode b_M_define 27 = .ok (.goto 4, 3) := by decide +kernel
theorem d_M_define_30 : decode b_M_define 30 = .ok (.iconst (-1), 1) := by decide +kernel
theorem d_M_define_31 : decode b_M_define 31 = .ok (.putfield 13, 3) := by decide +kernel
theorem d_M_define_34 : decode b_M_define 34 = .ok (.aload_n 0, 1) := by decide +kernel
theorem d_M_define_35 : decode b_M_define 35 = .ok (.iconst 0, 1) := by decide +kernel
theorem d_M_define_36 : decode b_M_define 36 = .ok (.putfield 111, 3) := by decide +kernel
theorem d_M_define_39 : decode b_M_define 39 = .ok (.aload_n 0, 1) := by decide +kernel
theorem d_M_define_40 : decode b_M_define 40 = .ok (.iconst 0, 1) := by decide +kernel
theorem d_M_define_41 : decode b_M_define 41 = .ok (.putfield 207, 3) := by decide +kernel
theorem d_M_define_44 : decode b_M_define 44 = .ok (.aload_n 0, 1) := by decide +kernel
theorem d_M_define_45 : decode b_M_define 45 = .ok (.aload_n 0, 1) := by decide +kernel
theorem d_M_define_46 : decode b_M_define 46 = .ok (.getfield 104, 3) := by decide +kernel
theorem d_M_define_49 : decode b_M_define 49 = .ok (.ifCond .eq 7, 3) := by decide +kernel
theorem d_M_define_52 : decode b_M_define 52 = .ok (.iconst 1, 1) := by decide +kernel
theorem d_M_define_53 : decode b_M_define 53 = .ok (.goto 4, 3) := by decide +kernel
theorem d_M_define_56 : decode b_M_define 56 = .ok (.iconst 0, 1) := by decide +kernel
theorem d_M_define_57 : decode b_M_define 57 = .ok (.putfield 101, 3) := by decide +kernel
theorem d_M_define_60 : decode b_M_define 60 = .ok (.aload_n 0, 1) := by decide +kernel
theorem d_M_define_61 : decode b_M_define 61 = .ok (.getfield 104, 3) := by decide +kernel
theorem d_M_define_64 : decode b_M_define 64 = .ok (.ifCond .eq 5, 3) := by decide +kernel
theorem d_M_define_67 : decode b_M_define 67 = .ok (.iconst 0, 1) := by decide +kernel
theorem d_M_define_68 : decode b_M_define 68 = .ok (.ireturn, 1) := by decide +kernel
theorem d_M_define_69 : decode b_M_define 69 = .ok (.aload_n 0, 1) := by decide +kernel
theorem d_M_define_70 : decode b_M_define 70 = .ok (.iload_n 1, 1) := by decide +kernel
theorem d_M_define_71 : decode b_M_define 71 = .ok (.invokevirtual 213, 3) := by decide +kernel
theorem d_M_define_74 : decode b_M_define 74 = .ok (.aload_n 0, 1) := by decide +kernel
theorem d_M_define_75 : decode b_M_define 75 = .ok (.aload_n 0, 1) := by decide +kernel
theorem d_M_define_76 : decode b_M_define 76 = .ok (.getfield 162, 3) := by decide +kernel
theorem d_M_define_79 : decode b_M_define 79 = .ok (.putfield 13, 3) := by decide +kernel
theorem d_M_define_82 : decode b_M_define 82 = .ok (.aload_n 0, 1) := by decide +kernel
theorem d_M_define_83 : decode b_M_define 83 = .ok (.aload_n 0, 1) := by decide +kernel
theorem d_M_define_84 : decode b_M_define 84 = .ok (.getfield 162, 3) := by decide +kernel
theorem d_M_define_87 : decode b_M_define 87 = .ok (.ifCond .lt 7, 3) := by decide +kernel
theorem d_M_define_90 : decode b_M_define 90 = .ok (.iconst 2, 1) := by decide +kernel
theorem d_M_define_91 : decode b_M_define 91 = .ok (.goto 4, 3) := by decide +kernel
theorem d_M_define_94 : decode b_M_define 94 = .ok (.iconst 0, 1) := by decide +kernel
theorem d_M_define_95 : decode b_M_define 95 = .ok (.putfield 101, 3) := by decide +kernel
theorem d_M_define_98 : decode b_M_define 98 = .ok (.aload_n 0, 1) := by decide +kernel
theorem d_M_define_99 : decode b_M_define 99 = .ok (.getfield 162, 3) := by decide +kernel
theorem d_M_define_102 : decode b_M_define 102 = .ok (.ifCond .lt 5, 3) := by decide +kernel
theorem d_M_define_105 : decode b_M_define 105 = .ok (.iconst 0, 1) := by decide +kernel
theorem d_M_define_106 : decode b_M_define 106 = .ok (.ireturn, 1) := by decide +kernel
theorem d_M_define_107 : decode b_M_define 107 = .ok (.aload_n 0, 1) := by decide +kernel
theorem d_M_define_108 : decode b_M_define 108 = .ok (.getfield 33, 3) := by decide +kernel
theorem d_M_define_111 : decode b_M_define 111 = .ok (.iload_n 1, 1) := by decide +kernel
theorem d_M_define_112 : decode b_M_define 112 = .ok (.iconst 1, 1) := by decide +kernel
theorem d_M_define_113 : decode b_M_define 113 = .ok (.bastore, 1) := by decide +kernel
theorem d_M_define_114 : decode b_M_define 114 = .ok (.aload_n 0, 1) := by decide +kernel
theorem d_M_define_115 : decode b_M_define 115 = .ok (.getfield 37, 3) := by decide +kernel
theorem d_M_define_118 : decode b_M_define 118 = .ok (.iload_n 1, 1) := by decide +kernel
theorem d_M_define_119 : decode b_M_define 119 = .ok (.aload_n 0, 1) := by decide +kernel
theorem d_M_define_120 : decode b_M_define 120 = .ok (.getfield 37, 3) := by decide +kernel
theorem d_M_define_123 : decode b_M_define 123 = .ok (.bipush 8, 2) := by decide +kernel
theorem d_M_define_125 : decode b_M_define 125 = .ok (.iaload, 1) := by decide +kernel
theorem d_M_define_126 : decode b_M_define 126 = .ok (.iastore, 1) := by decide +kernel
theorem d_M_define_127 : decode b_M_define 127 = .ok (.aload_n 0, 1) := by decide +kernel
theorem d_M_define_128 : decode b_M_define 128 = .ok (.getfield 40, 3) := by decide +kernel
theorem d_M_define_131 : decode b_M_define 131 = .ok (.iload_n 1, 1) := by decide +kernel
theorem d_M_define_132 : decode b_M_define 132 = .ok (.aload_n 0, 1) := by decide +kernel
theorem d_M_define_133 : decode b_M_define 133 = .ok (.getfield 40, 3) := by decide +kernel
theorem d_M_define_136 : decode b_M_define 136 = .ok (.bipush 8, 2) := by decide +kernel
theorem d_M_define_138 : decode b_M_define 138 = .ok (.iaload, 1) := by decide +kernel
theorem d_M_define_139 : decode b_M_define 139 = .ok (.iastore, 1) := by decide +kernel
theorem d_M_define_140 : decode b_M_define 140 = .ok (.iconst 0, 1) := by decide +kernel
theorem d_M_define_141 : decode b_M_define 141 = .ok (.istore_n 2, 1) := by decide +kernel
theorem d_M_define_142 : decode b_M_define 142 = .ok (.iload_n 2, 1) := by decide +kernel
theorem d_M_define_143 : decode b_M_define 143 = .ok (.iconst 4, 1) := by decide +kernel
theorem d_M_define_144 : decode b_M_define 144 = .ok (.if_icmp .ge 47, 3) := by decide +kernel
theorem d_M_define_147 : decode b_M_define 147 = .ok (.aload_n 0, 1) := by decide +kernel
theorem d_M_define_148 : decode b_M_define 148 = .ok (.getfield 43, 3) := by decide +kernel
theorem d_M_define_151 : decode b_M_define 151 = .ok (.iconst 4, 1) := by decide +kernel
theorem d_M_define_152 : decode b_M_define 152 = .ok (.iload_n 1, 1) := by decide +kernel
theorem d_M_define_153 : decode b_M_define 153 = .ok (.imul, 1) := by decide +kernel
theorem d_M_define_154 : decode b_M_define 154 = .ok (.iload_n 2, 1) := by decide +kernel
theorem d_M_define_155 : decode b_M_define 155 = .ok (.iadd, 1) := by decide +kernel
theorem d_M_define_156 : decode b_M_define 156 = .ok (.aload_n 0, 1) := by decide +kernel
theorem d_M_define_157 : decode b_M_define 157 = .ok (.getfield 43, 3) := by decide +kernel
theorem d_M_define_160 : decode b_M_define 160 = .ok (.bipush 32, 2) := by decide +kernel
theorem d_M_define_162 : decode b_M_define 162 = .ok (.iload_n 2, 1) := by decide +kernel
theorem d_M_define_163 : decode b_M_define 163 = .ok (.iadd, 1) := by decide +kernel
theorem d_M_define_164 : decode b_M_define 164 = .ok (.iaload, 1) := by decide +kernel
theorem d_M_define_165 : decode b_M_define 165 = .ok (.iastore, 1) := by decide +kernel
theorem d_M_define_166 : decode b_M_define 166 = .ok (.aload_n 0, 1) := by decide +kernel
theorem d_M_define_167 : decode b_M_define 167 = .ok (.getfield 46, 3) := by decide +kernel
theorem d_M_define_170 : decode b_M_define 170 = .ok (.iconst 4, 1) := by decide +kernel
theorem d_M_define_171 : decode b_M_define 171 = .ok (.iload_n 1, 1) := by decide +kernel
theorem d_M_define_172 : decode b_M_define 172 = .ok (.imul, 1) := by decide +kernel
theorem d_M_define_173 : decode b_M_define 173 = .ok (.iload_n 2, 1) := by decide +kernel
theorem d_M_define_174 : decode b_M_define 174 = .ok (.iadd, 1) := by decide +kernel
theorem d_M_define_175 : decode b_M_define 175 = .ok (.aload_n 0, 1) := by decide +kernel
theorem d_M_define_176 : decode b_M_define 176 = .ok (.getfield 46, 3) := by decide +kernel
theorem d_M_define_179 : decode b_M_define 179 = .ok (.bipush 32, 2) := by decide +kernel
theorem d_M_define_181 : decode b_M_define 181 = .ok (.iload_n 2, 1) := by decide +kernel
theorem d_M_define_182 : decode b_M_define 182 = .ok (.iadd, 1) := by decide +kernel
theorem d_M_define_183 : decode b_M_define 183 = .ok (.iaload, 1) := by decide +kernel
theorem d_M_define_184 : decode b_M_define 184 = .ok (.iastore, 1) := by decide +kernel
theorem d_M_define_185 : decode b_M_define 185 = .ok (.iinc 2 1, 3) := by decide +kernel
theorem d_M_define_188 : decode b_M_define 188 = .ok (.goto (-46), 3) := by decide +kernel
theorem d_M_define_191 : decode b_M_define 191 = .ok (.iconst 0, 1) := by decide +kernel
theorem d_M_define_192 : decode b_M_define 192 = .ok (.istore_n 2, 1) := by decide +kernel
theorem d_M_define_193 : decode b_M_define 193 = .ok (.iload_n 2, 1) := by decide +kernel
theorem d_M_define_194 : decode b_M_define 194 = .ok (.aload_n 0, 1) := by decide +kernel
theorem d_M_define_195 : decode b_M_define 195 = .ok (.getfield 126, 3) := by decide +kernel
theorem d_M_define_198 : decode b_M_define 198 = .ok (.if_icmp .ge 91, 3) := by decide +kernel
theorem d_M_define_201 : decode b_M_define 201 = .ok (.sipush 150, 3) := by decide +kernel
theorem d_M_define_204 : decode b_M_define 204 = .ok (.iload_n 1, 1) := by decide +kernel
theorem d_M_define_205 : decode b_M_define 205 = .ok (.imul, 1) := by decide +kernel
theorem d_M_define_206 : decode b_M_define 206 = .ok (.iload_n 2, 1) := by decide +kernel
theorem d_M_define_207 : decode b_M_define 207 = .ok (.iadd, 1) := by decide +kernel
theorem d_M_define_208 : decode b_M_define 208 = .ok (.istore_n 3, 1) := by decide +kernel
theorem d_M_define_209 : decode b_M_define 209 = .ok (.aload_n 0, 1) := by decide +kernel
theorem d_M_define_210 : decode b_M_define 210 = .ok (.getfield 17, 3) := by decide +kernel
theorem d_M_define_213 : decode b_M_define 213 = .ok (.iload_n 3, 1) := by decide +kernel
theorem d_M_define_214 : decode b_M_define 214 = .ok (.aload_n 0, 1) := by decide +kernel
theorem d_M_define_215 : decode b_M_define 215 = .ok (.getfield 17, 3) := by decide +kernel
theorem d_M_define_218 : decode b_M_define 218 = .ok (.sipush 1200, 3) := by decide +kernel
theorem d_M_define_221 : decode b_M_define 221 = .ok (.iload_n 2, 1) := by decide +kernel
theorem d_M_define_222 : decode b_M_define 222 = .ok (.iadd, 1) := by decide +kernel
theorem d_M_define_223 : decode b_M_define 223 = .ok (.iaload, 1) := by decide +kernel
theorem d_M_define_224 : decode b_M_define 224 = .ok (.iastore, 1) := by decide +kernel
theorem d_M_define_225 : decode b_M_define 225 = .ok (.aload_n 0, 1) := by decide +kernel
theorem d_M_define_226 : decode b_M_define 226 = .ok (.getfield 21, 3) := by decide +kernel
theorem d_M_define_229 : decode b_M_define 229 = .ok (.iload_n 3, 1) := by decide +kernel
theorem d_M_define_230 : decode b_M_define 230 = .ok (.aload_n 0, 1) := by decide +kernel
theorem d_M_define_231 : decode b_M_define 231 = .ok (.getfield 21, 3) := by decide +kernel
theorem d_M_define_234 : decode b_M_define 234 = .ok (.sipush 1200, 3) := by decide +kernel
theorem d_M_define_237 : decode b_M_define 237 = .ok (.iload_n 2, 1) := by decide +kernel
theorem d_M_define_238 : decode b_M_define 238 = .ok (.iadd, 1) := by decide +kernel
theorem d_M_define_239 : decode b_M_define 239 = .ok (.iaload, 1) := by decide +kernel
theorem d_M_define_240 : decode b_M_define 240 = .ok (.iastore, 1) := by decide +kernel
theorem d_M_define_241 : decode b_M_define 241 = .ok (.aload_n 0, 1) := by decide +kernel
theorem d_M_define_242 : decode b_M_define 242 = .ok (.getfield 27, 3) := by decide +kernel
theorem d_M_define_245 : decode b_M_define 245 = .ok (.iload_n 3, 1) := by decide +kernel
theorem d_M_define_246 : decode b_M_define 246 = .ok (.aload_n 0, 1) := by decide +kernel
theorem d_M_define_247 : decode b_M_define 247 = .ok (.getfield 27, 3) := by decide +kernel
theorem d_M_define_250 : decode b_M_define 250 = .ok (.sipush 1200, 3) := by decide +kernel
theorem d_M_define_253 : decode b_M_define 253 = .ok (.iload_n 2, 1) := by decide +kernel
theorem d_M_define_254 : decode b_M_define 254 = .ok (.iadd, 1) := by decide +kernel
theorem d_M_define_255 : decode b_M_define 255 = .ok (.iaload, 1) := by decide +kernel
theorem d_M_define_256 : decode b_M_define 256 = .ok (.iastore, 1) := by decide +kernel
theorem d_M_define_257 : decode b_M_define 257 = .ok (.aload_n 0, 1) := by decide +kernel
theorem d_M_define_258 : decode b_M_define 258 = .ok (.getfield 30, 3) := by decide +kernel
theorem d_M_define_261 : decode b_M_define 261 = .ok (.iload_n 3, 1) := by decide +kernel
theorem d_M_define_262 : decode b_M_define 262 = .ok (.aload_n 0, 1) := by decide +kernel
theorem d_M_define_263 : decode b_M_define 263 = .ok (.getfield 30, 3) := by decide +kernel
theorem d_M_define_266 : decode b_M_define 266 = .ok (.sipush 1200, 3) := by decide +kernel
theorem d_M_define_269 : decode b_M_define 269 = .ok (.iload_n 2, 1) := by decide +kernel
theorem d_M_define_270 : decode b_M_define 270 = .ok (.iadd, 1) := by decide +kernel
theorem d_M_define_271 : decode b_M_define 271 = .ok (.iaload, 1) := by decide +kernel
theorem d_M_define_272 : decode b_M_define 272 = .ok (.sipush 1200, 3) := by decide +kernel
theorem d_M_define_275 : decode b_M_define 275 = .ok (.isub, 1) := by decide +kernel
theorem d_M_define_276 : decode b_M_define 276 = .ok (.sipush 150, 3) := by decide +kernel
theorem d_M_define_279 : decode b_M_define 279 = .ok (.iload_n 1, 1) := by decide +kernel
theorem d_M_define_280 : decode b_M_define 280 = .ok (.imul, 1) := by decide +kernel
theorem d_M_define_281 : decode b_M_define 281 = .ok (.iadd, 1) := by decide +kernel
theorem d_M_define_282 : decode b_M_define 282 = .ok (.iastore, 1) := by decide +kernel
theorem d_M_define_283 : decode b_M_define 283 = .ok (.iinc 2 1, 3) := by decide +kernel
theorem d_M_define_286 : decode b_M_define 286 = .ok (.goto (-93), 3) := by decide +kernel
theorem d_M_define_289 : decode b_M_define 289 = .ok (.aload_n 0, 1) := by decide +kernel
theorem d_M_define_290 : decode b_M_define 290 = .ok (.invokevirtual 216, 3) := by decide +kernel
theorem d_M_define_293 : decode b_M_define 293 = .ok (.ireturn, 1) := by decide +kernel
theorem d_M_isRun_0 : decode b_M_isRun 0 = .ok (.iload_n 1, 1) := by decide +kernel
theorem d_M_isRun_1 : decode b_M_isRun 1 = .ok (.ifCond .lt 18, 3) := by decide +kernel
theorem d_M_isRun_4 : decode b_M_isRun 4 = .ok (.iload_n 1, 1) := by decide +kernel
theorem d_M_isRun_5 : decode b_M_isRun 5 = .ok (.bipush 7, 2) := by decide +kernel
theorem d_M_isRun_7 : decode b_M_isRun 7 = .ok (.if_icmp .gt 12, 3) := by decide +kernel
theorem d_M_isRun_10 : decode b_M_isRun 10 = .ok (.aload_n 0, 1) := by decide +kernel
theorem d_M_isRun_11 : decode b_M_isRun 11 = .ok (.getfield 33, 3) := by decide +kernel
theorem d_M_isRun_14 : decode b_M_isRun 14 = .ok (.iload_n 1, 1) := by decide +kernel
theorem d_M_isRun_15 : decode b_M_isRun 15 = .ok (.baload, 1) := by decide +kernel
theorem d_M_isRun_16 : decode b_M_isRun 16 = .ok (.ifCond .ne 5, 3) := by decide +kernel
theorem d_M_isRun_19 : decode b_M_isRun 19 = .ok (.iconst 0, 1) := by decide +kernel
theorem d_M_isRun_20 : decode b_M_isRun 20 = .ok (.ireturn, 1) := by decide +kernel
theorem d_M_isRun_21 : decode b_M_isRun 21 = .ok (.iconst 1, 1) := by decide +kernel
theorem d_M_isRun_22 : decode b_M_isRun 22 = .ok (.istore_n 2, 1) := by decide +kernel
theorem d_M_isRun_23 : decode b_M_isRun 23 = .ok (.iconst 0, 1) := by decide +kernel
theorem d_M_isRun_24 : decode b_M_isRun 24 = .ok (.istore_n 3, 1) := by decide +kernel
theorem d_M_isRun_25 : decode b_M_isRun 25 = .ok (.iload_n 3, 1) := by decide +kernel
theorem d_M_isRun_26 : decode b_M_isRun 26 = .ok (.aload_n 0, 1) := by decide +kernel
theorem d_M_isRun_27 : decode b_M_isRun 27 = .ok (.getfield 37, 3) := by decide +kernel
theorem d_M_isRun_30 : decode b_M_isRun 30 = .ok (.iload_n 1, 1) := by decide +kernel
theorem d_M_isRun_31 : decode b_M_isRun 31 = .ok (.iaload, 1) := by decide +kernel
theorem d_M_isRun_32 : decode b_M_isRun 32 = .ok (.if_icmp .ge 32, 3) := by decide +kernel
theorem d_M_isRun_35 : decode b_M_isRun 35 = .ok (.iload_n 2, 1) := by decide +kernel
theorem d_M_isRun_36 : decode b_M_isRun 36 = .ok (.ifCond .eq 20, 3) := by decide +kernel
theorem d_M_isRun_39 : decode b_M_isRun 39 = .ok (.aload_n 0, 1) := by decide +kernel
theorem d_M_isRun_40 : decode b_M_isRun 40 = .ok (.getfield 46, 3) := by decide +kernel
theorem d_M_isRun_43 : decode b_M_isRun 43 = .ok (.iconst 4, 1) := by decide +kernel
theorem d_M_isRun_44 : decode b_M_isRun 44 = .ok (.iload_n 1, 1) := by decide +kernel
theorem d_M_isRun_45 : decode b_M_isRun 45 = .ok (.imul, 1) := by decide +kernel
theorem d_M_isRun_46 : decode b_M_isRun 46 = .ok (.iload_n 3, 1) := by decide +kernel
theorem d_M_isRun_47 : decode b_M_isRun 47 = .ok (.iadd, 1) := by decide +kernel
theorem d_M_isRun_48 : decode b_M_isRun 48 = .ok (.iaload, 1) := by decide +kernel
theorem d_M_isRun_49 : decode b_M_isRun 49 = .ok (.ifCond .ne 7, 3) := by decide +kernel
theorem d_M_isRun_52 : decode b_M_isRun 52 = .ok (.iconst 1, 1) := by decide +kernel
theorem d_M_isRun_53 : decode b_M_isRun 53 = .ok (.goto 4, 3) := by decide +kernel
theorem d_M_isRun_56 : decode b_M_isRun 56 = .ok (.iconst 0, 1) := by decide +kernel
theorem d_M_isRun_57 : decode b_M_isRun 57 = .ok (.istore_n 2, 1) := by decide +kernel
theorem d_M_isRun_58 : decode b_M_isRun 58 = .ok (.iinc 3 1, 3) := by decide +kernel
theorem d_M_isRun_61 : decode b_M_isRun 61 = .ok (.goto (-36), 3) := by decide +kernel
theorem d_M_isRun_64 : decode b_M_isRun 64 = .ok (.iload_n 2, 1) := by decide +kernel
theorem d_M_isRun_65 : decode b_M_isRun 65 = .ok (.ireturn, 1) := by decide +kernel
theorem d_M_run_0 : decode b_M_run 0 = .ok (.iload_n 1, 1) := by decide +kernel
theorem d_M_run_1 : decode b_M_run 1 = .ok (.bipush 65, 2) := by decide +kernel
theorem d_M_run_3 : decode b_M_run 3 = .ok (.isub, 1) := by decide +kernel
theorem d_M_run_4 : decode b_M_run 4 = .ok (.istore_n 2, 1) := by decide +kernel
theorem d_M_run_5 : decode b_M_run 5 = .ok (.aload_n 0, 1) := by decide +kernel
theorem d_M_run_6 : decode b_M_run 6 = .ok (.aload_n 0, 1) := by decide +kernel
theorem d_M_run_7 : decode b_M_run 7 = .ok (.iload_n 2, 1) := by decide +kernel
theorem d_M_run_8 : decode b_M_run 8 = .ok (.invokevirtual 281, 3) := by decide +kernel
theorem d_M_run_11 : decode b_M_run 11 = .ok (.ifCond .eq 7, 3) := by decide +kernel
theorem d_M_run_14 : decode b_M_run 14 = .ok (.iconst 0, 1) := by decide +kernel
theorem d_M_run_15 : decode b_M_run 15 = .ok (.goto 4, 3) := by decide +kernel
theorem d_M_run_18 : decode b_M_run 18 = .ok (.iconst 1, 1) := by decide +kernel
theorem d_M_run_19 : decode b_M_run 19 = .ok (.putfield 101, 3) := by decide +kernel
theorem d_M_run_22 : decode b_M_run 22 = .ok (.aload_n 0, 1) := by decide +kernel
theorem d_M_run_23 : decode b_M_run 23 = .ok (.getfield 101, 3) := by decide +kernel
theorem d_M_run_26 : decode b_M_run 26 = .ok (.ifCond .eq 5, 3) := by decide +kernel
theorem d_M_run_29 : decode b_M_run 29 = .ok (.iconst 0, 1) := by decide +kernel
theorem d_M_run_30 : decode b_M_run 30 = .ok (.ireturn, 1) := by decide +kernel
theorem d_M_run_31 : decode b_M_run 31 = .ok (.aload_n 0, 1) := by decide +kernel
theorem d_M_run_32 : decode b_M_run 32 = .ok (.iconst (-1), 1) := by decide +kernel
theorem d_M_run_33 : decode b_M_run 33 = .ok (.putfield 95, 3) := by decide +kernel
theorem d_M_run_36 : decode b_M_run 36 = .ok (.aload_n 0, 1) := by decide +kernel
theorem d_M_run_37 : decode b_M_run 37 = .ok (.iconst 0, 1) := by decide +kernel
theorem d_M_run_38 : decode b_M_run 38 = .ok (.putfield 228, 3) := by decide +kernel
theorem d_M_run_41 : decode b_M_run 41 = .ok (.aload_n 0, 1) := by decide +kernel
theorem d_M_run_42 : decode b_M_run 42 = .ok (.iconst 0, 1) := by decide +kernel
theorem d_M_run_43 : decode b_M_run 43 = .ok (.putfield 250, 3) := by decide +kernel
theorem d_M_run_46 : decode b_M_run 46 = .ok (.aload_n 0, 1) := by decide +kernel
theorem d_M_run_47 : decode b_M_run 47 = .ok (.iconst 0, 1) := by decide +kernel
theorem d_M_run_48 : decode b_M_run 48 = .ok (.putfield 225, 3) := by decide +kernel
theorem d_M_run_51 : decode b_M_run 51 = .ok (.aload_n 0, 1) := by decide +kernel
theorem d_M_run_52 : decode b_M_run 52 = .ok (.iconst 0, 1) := by decide +kernel
theorem d_M_run_53 : decode b_M_run 53 = .ok (.putfield 129, 3) := by decide +kernel
theorem d_M_run_56 : decode b_M_run 56 = .ok (.aload_n 0, 1) := by decide +kernel
theorem d_M_run_57 : decode b_M_run 57 = .ok (.iconst 0, 1) := by decide +kernel
theorem d_M_run_58 : decode b_M_run 58 = .ok (.putfield 219, 3) := by decide +kernel
theorem d_M_run_61 : decode b_M_run 61 = .ok (.aload_n 0, 1) := by decide +kernel
theorem d_M_run_62 : decode b_M_run 62 = .ok (.iconst 0, 1) := by decide +kernel
theorem d_M_run_63 : decode b_M_run 63 = .ok (.putfield 236, 3) := by decide +kernel
theorem d_M_run_66 : decode b_M_run 66 = .ok (.aload_n 0, 1) := by decide +kernel
theorem d_M_run_67 : decode b_M_run 67 = .ok (.iconst 0, 1) := by decide +kernel
theorem d_M_run_68 : decode b_M_run 68 = .ok (.putfield 233, 3) := by decide +kernel
theorem d_M_run_71 : decode b_M_run 71 = .ok (.aload_n 0, 1) := by decide +kernel
theorem d_M_run_72 : decode b_M_run 72 = .ok (.iconst 0, 1) := by decide +kernel
theorem d_M_run_73 : decode b_M_run 73 = .ok (.putfield 239, 3) := by decide +kernel
theorem d_M_run_76 : decode b_M_run 76 = .ok (.aload_n 0, 1) := by decide +kernel
theorem d_M_run_77 : decode b_M_run 77 = .ok (.iconst 0, 1) := by decide +kernel
theorem d_M_run_78 : decode b_M_run 78 = .ok (.putfield 253, 3) := by decide +kernel
theorem d_M_run_81 : decode b_M_run 81 = .ok (.aload_n 0, 1) := by decide +kernel
theorem d_M_run_82 : decode b_M_run 82 = .ok (.iconst 0, 1) := by decide +kernel
theorem d_M_run_83 : decode b_M_run 83 = .ok (.putfield 222, 3) := by decide +kernel
theorem d_M_run_86 : decode b_M_run 86 = .ok (.iconst 0, 1) := by decide +kernel
theorem d_M_run_87 : decode b_M_run 87 = .ok (.istore_n 3, 1) := by decide +kernel
theorem d_M_run_88 : decode b_M_run 88 = .ok (.iload_n 3, 1) := by decide +kernel
theorem d_M_run_89 : decode b_M_run 89 = .ok (.aload_n 0, 1) := by decide +kernel
theorem d_M_run_90 : decode b_M_run 90 = .ok (.getfield 37, 3) := by decide +kernel
theorem d_M_run_93 : decode b_M_run 93 = .ok (.iload_n 2, 1) := by decide +kernel
theorem d_M_run_94 : decode b_M_run 94 = .ok (.iaload, 1) := by decide +kernel
theorem d_M_run_95 : decode b_M_run 95 = .ok (.if_icmp .ge 30, 3) := by decide +kernel
theorem d_M_run_98 : decode b_M_run 98 = .ok (.aload_n 0, 1) := by decide +kernel
theorem d_M_run_99 : decode b_M_run 99 = .ok (.getfield 80, 3) := by decide +kernel
theorem d_M_run_102 : decode b_M_run 102 = .ok (.aload_n 0, 1) := by decide +kernel
theorem d_M_run_103 : decode b_M_run 103 = .ok (.getfield 43, 3) := by decide +kernel
theorem d_M_run_106 : decode b_M_run 106 = .ok (.iconst 4, 1) := by decide +kernel
theorem d_M_run_107 : decode b_M_run 107 = .ok (.iload_n 2, 1) := by decide +kernel
theorem d_M_run_108 : decode b_M_run 108 = .ok (.imul, 1) := by decide +kernel
theorem d_M_run_109 : decode b_M_run 109 = .ok (.iload_n 3, 1) := by decide +kernel
theorem d_M_run_110 : decode b_M_run 110 = .ok (.iadd, 1) := by decide +kernel
theorem d_M_run_111 : decode b_M_run 111 = .ok (.iaload, 1) := by decide +kernel
theorem d_M_run_112 : decode b_M_run 112 = .ok (.aload_n 0, 1) := by decide +kernel
theorem d_M_run_113 : decode b_M_run 113 = .ok (.getfield 92, 3) := by decide +kernel
theorem d_M_run_116 : decode b_M_run 116 = .ok (.iload_n 3, 1) := by decide +kernel
theorem d_M_run_117 : decode b_M_run 117 = .ok (.laload, 1) := by decide +kernel
theorem d_M_run_118 : decode b_M_run 118 = .ok (.lastore, 1) := by decide +kernel
theorem d_M_run_119 : decode b_M_run 119 = .ok (.iinc 3 1, 3) := by decide +kernel
theorem d_M_run_122 : decode b_M_run 122 = .ok (.goto (-34), 3) := by decide +kernel
theorem d_M_run_125 : decode b_M_run 125 = .ok (.aload_n 0, 1) := by decide +kernel
theorem d_M_run_126 : decode b_M_run 126 = .ok (.sipush 150, 3) := by decide +kernel
theorem d_M_run_129 : decode b_M_run 129 = .ok (.iload_n 2, 1) := by decide +kernel
theorem d_M_run_130 : decode b_M_run 130 = .ok (.imul, 1) := by decide +kernel
theorem d_M_run_131 : decode b_M_run 131 = .ok (.invokevirtual 259, 3) := by decide +kernel
theorem d_M_run_134 : decode b_M_run 134 = .ok (.aload_n 0, 1) := by decide +kernel
theorem d_M_run_135 : decode b_M_run 135 = .ok (.getfield 129, 3) := by decide +kernel
theorem d_M_run_138 : decode b_M_run 138 = .ok (.ifCond .le 17, 3) := by decide +kernel
theorem d_M_run_141 : decode b_M_run 141 = .ok (.aload_n 0, 1) := by decide +kernel
theorem d_M_run_142 : decode b_M_run 142 = .ok (.getfield 222, 3) := by decide +kernel
theorem d_M_run_145 : decode b_M_run 145 = .ok (.ifCond .ne 10, 3) := by decide +kernel
theorem d_M_run_148 : decode b_M_run 148 = .ok (.aload_n 0, 1) := by decide +kernel
theorem d_M_run_149 : decode b_M_run 149 = .ok (.invokevirtual 284, 3) := by decide +kernel
theorem d_M_run_152 : decode b_M_run 152 = .ok (.goto (-18), 3) := by decide +kernel
theorem d_M_run_155 : decode b_M_run 155 = .ok (.aload_n 0, 1) := by decide +kernel
theorem d_M_run_156 : decode b_M_run 156 = .ok (.aload_n 0, 1) := by decide +kernel
theorem d_M_run_157 : decode b_M_run 157 = .ok (.getfield 222, 3) := by decide +kernel
theorem d_M_run_160 : decode b_M_run 160 = .ok (.putfield 101, 3) := by decide +kernel
theorem d_M_run_163 : decode b_M_run 163 = .ok (.aload_n 0, 1) := by decide +kernel
theorem d_M_run_164 : decode b_M_run 164 = .ok (.getfield 222, 3) := by decide +kernel
theorem d_M_run_167 : decode b_M_run 167 = .ok (.ifCond .eq 5, 3) := by decide +kernel
theorem d_M_run_170 : decode b_M_run 170 = .ok (.iconst 0, 1) := by decide +kernel
theorem d_M_run_171 : decode b_M_run 171 = .ok (.ireturn, 1) := by decide +kernel
theorem d_M_run_172 : decode b_M_run 172 = .ok (.aload_n 0, 1) := by decide +kernel
theorem d_M_run_173 : decode b_M_run 173 = .ok (.aload_n 0, 1) := by decide +kernel
theorem d_M_run_174 : decode b_M_run 174 = .ok (.getfield 40, 3) := by decide +kernel
theorem d_M_run_177 : decode b_M_run 177 = .ok (.iload_n 2, 1) := by decide +kernel
theorem d_M_run_178 : decode b_M_run 178 = .ok (.iaload, 1) := by decide +kernel
theorem d_M_run_179 : decode b_M_run 179 = .ok (.putfield 95, 3) := by decide +kernel
theorem d_M_run_182 : decode b_M_run 182 = .ok (.aload_n 0, 1) := by decide +kernel
theorem d_M_run_183 : decode b_M_run 183 = .ok (.aload_n 0, 1) := by decide +kernel
theorem d_M_run_184 : decode b_M_run 184 = .ok (.getfield 86, 3) := by decide +kernel
theorem d_M_run_187 : decode b_M_run 187 = .ok (.iconst 0, 1) := by decide +kernel
theorem d_M_run_188 : decode b_M_run 188 = .ok (.laload, 1) := by decide +kernel
theorem d_M_run_189 : decode b_M_run 189 = .ok (.putfield 287, 3) := by decide +kernel
theorem d_M_run_192 : decode b_M_run 192 = .ok (.aload_n 0, 1) := by decide +kernel
theorem d_M_run_193 : decode b_M_run 193 = .ok (.getfield 95, 3) := by decide +kernel
theorem d_M_run_196 : decode b_M_run 196 = .ok (.ifCond .ne 5, 3) := by decide +kernel
theorem d_M_run_199 : decode b_M_run 199 = .ok (.iconst 0, 1) := by decide +kernel
theorem d_M_run_200 : decode b_M_run 200 = .ok (.ireturn, 1) := by decide +kernel
theorem d_M_run_201 : decode b_M_run 201 = .ok (.aload_n 0, 1) := by decide +kernel
theorem d_M_run_202 : decode b_M_run 202 = .ok (.getfield 89, 3) := by decide +kernel
theorem d_M_run_205 : decode b_M_run 205 = .ok (.iconst 0, 1) := by decide +kernel
theorem d_M_run_206 : decode b_M_run 206 = .ok (.iaload, 1) := by decide +kernel
theorem d_M_run_207 : decode b_M_run 207 = .ok (.istore_n 3, 1) := by decide +kernel
theorem d_M_run_208 : decode b_M_run 208 = .ok (.aload_n 0, 1) := by decide +kernel
theorem d_M_run_209 : decode b_M_run 209 = .ok (.aload_n 0, 1) := by decide +kernel
theorem d_M_run_210 : decode b_M_run 210 = .ok (.getfield 74, 3) := by decide +kernel
theorem d_M_run_213 : decode b_M_run 213 = .ok (.iload_n 3, 1) := by decide +kernel
theorem d_M_run_214 : decode b_M_run 214 = .ok (.iaload, 1) := by decide +kernel
theorem d_M_run_215 : decode b_M_run 215 = .ok (.putfield 291, 3) := by decide +kernel
theorem d_M_run_218 : decode b_M_run 218 = .ok (.aload_n 0, 1) := by decide +kernel
theorem d_M_run_219 : decode b_M_run 219 = .ok (.aload_n 0, 1) := by decide +kernel
theorem d_M_run_220 : decode b_M_run 220 = .ok (.getfield 77, 3) := by decide +kernel
theorem d_M_run_223 : decode b_M_run 223 = .ok (.iload_n 3, 1) := by decide +kernel
theorem d_M_run_224 : decode b_M_run 224 = .ok (.iaload, 1) := by decide +kernel
theorem d_M_run_225 : decode b_M_run 225 = .ok (.putfield 294, 3) := by decide +kernel
theorem d_M_run_228 : decode b_M_run 228 = .ok (.iconst 0, 1) := by decide +kernel
theorem d_M_run_229 : decode b_M_run 229 = .ok (.istore 4, 2) := by decide +kernel
theorem d_M_run_231 : decode b_M_run 231 = .ok (.iload 4, 2) := by decide +kernel
theorem d_M_run_233 : decode b_M_run 233 = .ok (.aload_n 0, 1) := by decide +kernel
theorem d_M_run_234 : decode b_M_run 234 = .ok (.getfield 74, 3) := by decide +kernel
theorem d_M_run_237 : decode b_M_run 237 = .ok (.iload_n 3, 1) := by decide +kernel
theorem d_M_run_238 : decode b_M_run 238 = .ok (.iaload, 1) := by decide +kernel
theorem d_M_run_239 : decode b_M_run 239 = .ok (.aload_n 0, 1) := by decide +kernel
theorem d_M_run_240 : decode b_M_run 240 = .ok (.getfield 77, 3) := by decide +kernel
theorem d_M_run_243 : decode b_M_run 243 = .ok (.iload_n 3, 1) := by decide +kernel
theorem d_M_run_244 : decode b_M_run 244 = .ok (.iaload, 1) := by decide +kernel
theorem d_M_run_245 : decode b_M_run 245 = .ok (.imul, 1) := by decide +kernel
theorem d_M_run_246 : decode b_M_run 246 = .ok (.if_icmp .ge 28, 3) := by decide +kernel
theorem d_M_run_249 : decode b_M_run 249 = .ok (.aload_n 0, 1) := by decide +kernel
theorem d_M_run_250 : decode b_M_run 250 = .ok (.getfield 98, 3) := by decide +kernel
theorem d_M_run_253 : decode b_M_run 253 = .ok (.iload 4, 2) := by decide +kernel
theorem d_M_run_255 : decode b_M_run 255 = .ok (.aload_n 0, 1) := by decide +kernel
theorem d_M_run_256 : decode b_M_run 256 = .ok (.getfield 70, 3) := by decide +kernel
theorem d_M_run_259 : decode b_M_run 259 = .ok (.bipush 40, 2) := by decide +kernel
theorem d_M_run_261 : decode b_M_run 261 = .ok (.iload_n 3, 1) := by decide +kernel
theorem d_M_run_262 : decode b_M_run 262 = .ok (.imul, 1) := by decide +kernel
theorem d_M_run_263 : decode b_M_run 263 = .ok (.iload 4, 2) := by decide +kernel
theorem d_M_run_265 : decode b_M_run 265 = .ok (.iadd, 1) := by decide +kernel
theorem d_M_run_266 : decode b_M_run 266 = .ok (.laload, 1) := by decide +kernel
theorem d_M_run_267 : decode b_M_run 267 = .ok (.lastore, 1) := by decide +kernel
theorem d_M_run_268 : decode b_M_run 268 = .ok (.iinc 4 1, 3) := by decide +kernel
theorem d_M_run_271 : decode b_M_run 271 = .ok (.goto (-40), 3) := by decide +kernel
theorem d_M_run_274 : decode b_M_run 274 = .ok (.aload_n 0, 1) := by decide +kernel
theorem d_M_run_275 : decode b_M_run 275 = .ok (.getfield 95, 3) := by decide +kernel
theorem d_M_run_278 : decode b_M_run 278 = .ok (.ireturn, 1) := by decide +kernel
section BM
variable {G : zG} {l : Launch} {n p z : Nat} {σ : zS} {S : mS} {A : mA} {L : mL} {rn : Int64}
theorem upd_same {f : mS} {k : Nat} {x : Int32} (h : f k = x) : upd f k x = f := by
  funext j
  unfold upd
  by_cases q : j = k
  · rw [if_pos q, q, h]
  · rw [if_neg q]
theorem mTx.pos {lo : Int32} (h0 : 0 < lo) (h : lo ≤ mlk S A p z) : S 5 = 0 ∧ p < z := by
  refine Decidable.byContradiction fun q => ?_
  rw [mlk, if_neg q] at h
  exact absurd h (Int32.not_le.mpr h0)
theorem c_M_letter (hn : 113 ≤ n) (hT : mTx S A p z) (lo hi : Int32) (h0 : 0 < lo) : MetZ G l y_M_letter b_M_letter 3 (some .int) [] 2 0 0 [.ref 85, .int lo, .int hi] n (mOv S A L rn σ) (fun o n' σ' => n' = n ∧
    (((lo ≤ mlk S A p z ∧ mlk S A p z ≤ hi) ∧ o = .returned (some (.int (mlk S A p z - lo))) ∧ σ' = mOv (upd S 4 (nI (p + 1))) A L rn σ) ∨ (¬ (lo ≤ mlk S A p z ∧ mlk S A p z ≤ hi) ∧ o = .returned (some (.int 0)) ∧ σ' = mOv (upd S 5 1) A L rn σ))) := by
  refine MetZ.of (by decide) (Nat.le_of_ble_eq_true rfl) (fun K hK hR hpo hmc hms C => ?_)
  refine z_aload_n C 1 d_M_letter_0 rfl rfl ?_
  refine z_aload_n C 2 d_M_letter_1 rfl rfl ?_
  refine z_iload_n C 3 d_M_letter_2 rfl rfl ?_
  refine z_iload_n C 4 d_M_letter_3 rfl rfl ?_
  refine z_call C 7 (c_M_among hn hT lo hi) w_M_among ini_M d_M_letter_4 rfl (z_goV (As := [.int lo, .int hi]) C l_M_118 w_M_among d_M_letter_4 (by omega) rfl rfl rfl) (Nat.le_of_ble_eq_true rfl) (by rw [hR]; simp only [zRm]; omega) (by rw [hR]; simp only [zRm]; omega) (by rw [hR]; simp only [zRm]; omega) (by rw [hR]; simp only [zRm]; omega) (fun v n' σ' hv => ?_) (fun x n' σ' hv => ?_)
  · obtain ⟨e0, e1, rfl⟩ := hv
    obtain rfl : n = n' := e1.symm
    by_cases hg : lo ≤ mlk S A p z ∧ mlk S A p z ≤ hi
    · rw [if_pos hg] at e0
      cases e0
      obtain ⟨hi0, hpz⟩ := mTx.pos h0 hg.1
      refine z_call C 10 (c_M_want hn 1) w_M_want ini_M d_M_letter_7 rfl (z_goV (As := [.int 1]) C l_M_122 w_M_want d_M_letter_7 (by omega) rfl rfl rfl) (Nat.le_of_ble_eq_true rfl) (by rw [hR]; simp only [zRm]; omega) (by rw [hR]; simp only [zRm]; omega) (by rw [hR]; simp only [zRm]; omega) (by rw [hR]; simp only [zRm]; omega) (fun v n' σ' hv => ?_) (fun x n' σ' hv => ?_)
      · obtain ⟨e0, e1, rfl⟩ := hv
        obtain rfl : n = n' := e1.symm
        cases e0
        rw [if_neg (show ¬ (1 : Int32) = 0 by decide)]
        refine z_aload_n C 11 d_M_letter_10 rfl rfl ?_
        refine zm_get C 14 f_M_104 d_M_letter_11 rfl hn rfl ?_
        refine z_if_eq C 17 19 d_M_letter_14 rfl (by decide) (fun _ => ?_) (fun h9 => absurd (show S 5 = 0 from hi0) h9)
        refine z_aload_n C 20 d_M_letter_19 rfl rfl ?_
        refine z_dup C 21 d_M_letter_20 rfl rfl ?_
        refine zm_get C 24 f_M_108 d_M_letter_21 rfl hn rfl ?_
        refine z_iconst C 25 d_M_letter_24 rfl 1 (by decide) ?_
        refine z_iadd C 26 d_M_letter_25 rfl ?_
        refine zm_puti C 29 p_M_108 d_M_letter_26 rfl hn (by decide) (rfl) rfl rfl ?_
        refine z_aload_n C 30 d_M_letter_29 rfl rfl ?_
        refine zm_get C 33 f_M_7 d_M_letter_30 rfl hn rfl ?_
        refine z_aload_n C 34 d_M_letter_33 rfl rfl ?_
        refine zm_get C 37 f_M_108 d_M_letter_34 rfl hn rfl ?_
        refine z_iconst C 38 d_M_letter_37 rfl 1 (by decide) ?_
        refine z_isub C 39 d_M_letter_38 rfl ?_
        have ex : upd S 4 (S 4 + 1) 4 - 1 = nI p := by
          show S 4 + 1 - 1 = nI p
          rw [Int32.add_sub_cancel]
          exact hT.1
        refine zm_cald C 40 p d_M_letter_39 rfl hn ex (by have := hT.2.2.1; omega) ?_
        refine z_iload_n C 41 d_M_letter_40 rfl rfl ?_
        refine z_isub C 42 d_M_letter_41 rfl ?_
        exact z_iret C rfl d_M_letter_42 (by rw [hpo]; exact ⟨rfl, Or.inl ⟨hg, by rw [mlk, if_pos ⟨hi0, hpz⟩], by rw [hT.1, nI_1]⟩⟩) (by rw [hmc]; omega) (by rw [hms]; omega)
      · cases hv.1
    · rw [if_neg hg] at e0
      cases e0
      refine z_call C 10 (c_M_want hn 0) w_M_want ini_M d_M_letter_7 rfl (z_goV (As := [.int 0]) C l_M_122 w_M_want d_M_letter_7 (by omega) rfl rfl rfl) (Nat.le_of_ble_eq_true rfl) (by rw [hR]; simp only [zRm]; omega) (by rw [hR]; simp only [zRm]; omega) (by rw [hR]; simp only [zRm]; omega) (by rw [hR]; simp only [zRm]; omega) (fun v n' σ' hv => ?_) (fun x n' σ' hv => ?_)
      · obtain ⟨e0, e1, rfl⟩ := hv
        obtain rfl : n = n' := e1.symm
        cases e0
        rw [if_pos rfl]
        refine z_aload_n C 11 d_M_letter_10 rfl rfl ?_
        refine zm_get C 14 f_M_104 d_M_letter_11 rfl hn rfl ?_
        refine z_if_eq C 17 19 d_M_letter_14 rfl (by decide) (fun h9 => absurd h9 (show ¬ upd S 5 1 5 = 0 by rw [show upd S 5 1 5 = 1 from rfl]; decide)) (fun _ => ?_)
        refine z_iconst C 18 d_M_letter_17 rfl 0 (by decide) ?_
        exact z_iret C rfl d_M_letter_18 (by rw [hpo]; exact ⟨rfl, Or.inr ⟨hg, rfl, rfl⟩⟩) (by rw [hmc]; omega) (by rw [hms]; omega)
      · cases hv.1
  · cases hv.1
/-- in an ill text nothing stands -/
theorem mlk_ill (h : S 5 = 1) : mlk S A p z = 0 := by
  rw [mlk, if_neg (fun q => absurd (h.symm.trans q.1) (by decide))]
theorem c_M_readFunction_bad (hn : 113 ≤ n) (hT : mTx S A 0 z) (hb : ¬ (65 ≤ mlk S A 0 z ∧ mlk S A 0 z ≤ 72)) : MetZ G l y_M_readFunction b_M_readFunction 4 (some .int) [] 3 0 0 [.ref 85] n (mOv S A L rn σ) (fun o n' σ' => o = .returned (some (.int 0)) ∧ n' = n ∧ σ' = mOv (upd (upd S 12 0) 5 1) (va_up (va_up A 93 (upd (A 93) 8 0)) 94 (upd (A 94) 8 0)) L rn σ) := by
  refine MetZ.of (by decide) (Nat.le_of_ble_eq_true rfl) (fun K hK hR hpo hmc hms C => ?_)
  refine z_aload_n C 1 d_M_readFunction_0 rfl rfl ?_
  refine z_iconst C 2 d_M_readFunction_1 rfl 0 (by decide) ?_
  refine zm_puti C 5 p_M_126 d_M_readFunction_2 rfl hn (by decide) (rfl) rfl rfl ?_
  refine z_aload_n C 6 d_M_readFunction_5 rfl rfl ?_
  refine zm_get C 9 f_M_37 d_M_readFunction_6 rfl hn rfl ?_
  refine z_bipush C 11 d_M_readFunction_9 rfl 8 (by decide) ?_
  refine z_iconst C 12 d_M_readFunction_11 rfl 0 (by decide) ?_
  refine zm_iast C 13 8 d_M_readFunction_12 rfl hn (by decide) (by decide) (by decide) rfl (by decide) (by decide) ?_
  have hT1 : mTx (upd S 12 0) (va_up A 93 (upd (A 93) 8 0)) 0 z := ⟨hT.1, hT.2.1, hT.2.2.1, hT.2.2.2.1, hT.2.2.2.2⟩
  have hT2 : mTx (upd (upd S 12 0) 5 1) (va_up A 93 (upd (A 93) 8 0)) 0 z := ⟨hT.1, hT.2.1, hT.2.2.1, hT.2.2.2.1, hT.2.2.2.2⟩
  have hl : mlk (upd (upd S 12 0) 5 1) (va_up A 93 (upd (A 93) 8 0)) 0 z = 0 := mlk_ill rfl
  have hs : upd (upd (upd S 12 0) 5 1) 5 1 = upd (upd S 12 0) 5 1 := upd_same rfl
  refine z_aload_n C 14 d_M_readFunction_13 rfl rfl ?_
  refine z_bipush C 16 d_M_readFunction_14 rfl 65 (by decide) ?_
  refine z_bipush C 18 d_M_readFunction_16 rfl 72 (by decide) ?_
  refine z_call C 21 (c_M_letter hn hT1 65 72 (by decide)) w_M_letter ini_M d_M_readFunction_18 rfl (z_goV (As := [.int 65, .int 72]) C l_M_132 w_M_letter d_M_readFunction_18 (by omega) rfl rfl rfl) (Nat.le_of_ble_eq_true rfl) (by rw [hR]; simp only [zRm]; omega) (by rw [hR]; simp only [zRm]; omega) (by rw [hR]; simp only [zRm]; omega) (by rw [hR]; simp only [zRm]; omega) (fun v n' σ' hv => ?_) (fun x n' σ' hv => ?_)
  · obtain ⟨e1, hv⟩ := hv
    obtain rfl : n = n' := e1.symm
    rcases hv with ⟨q, -⟩ | ⟨-, e0, rfl⟩
    · exact absurd q hb
    cases e0
    refine z_istore_n C 22 d_M_readFunction_21 rfl (by decide) ?_
    refine z_aload_n C 23 d_M_readFunction_22 rfl rfl ?_
    refine z_aload_n C 24 d_M_readFunction_23 rfl rfl ?_
    refine z_bipush C 26 d_M_readFunction_24 rfl 40 (by decide) ?_
    refine z_call C 29 (c_M_takes hn hT2 40) w_M_takes ini_M d_M_readFunction_26 rfl (z_goV (As := [.int 40]) C l_M_140 w_M_takes d_M_readFunction_26 (by omega) rfl rfl rfl) (Nat.le_of_ble_eq_true rfl) (by rw [hR]; simp only [zRm]; omega) (by rw [hR]; simp only [zRm]; omega) (by rw [hR]; simp only [zRm]; omega) (by rw [hR]; simp only [zRm]; omega) (fun v n' σ' hv => ?_) (fun x n' σ' hv => ?_)
    · obtain ⟨e0, e1, rfl⟩ := hv
      obtain rfl : n = n' := e1.symm
      rw [hl, if_neg (by decide)] at e0
      cases e0
      rw [hl, if_neg (by decide)]
      refine z_call C 32 (c_M_want hn 0) w_M_want ini_M d_M_readFunction_29 rfl (z_goV (As := [.int 0]) C l_M_122 w_M_want d_M_readFunction_29 (by omega) rfl rfl rfl) (Nat.le_of_ble_eq_true rfl) (by rw [hR]; simp only [zRm]; omega) (by rw [hR]; simp only [zRm]; omega) (by rw [hR]; simp only [zRm]; omega) (by rw [hR]; simp only [zRm]; omega) (fun v n' σ' hv => ?_) (fun x n' σ' hv => ?_)
      · obtain ⟨e0, e1, rfl⟩ := hv
        obtain rfl : n = n' := e1.symm
        cases e0
        rw [if_pos rfl, hs]
        refine z_aload_n C 33 d_M_readFunction_32 rfl rfl ?_
        refine z_bipush C 35 d_M_readFunction_33 rfl 41 (by decide) ?_
        refine z_call C 38 (c_M_takes hn hT2 41) w_M_takes ini_M d_M_readFunction_35 rfl (z_goV (As := [.int 41]) C l_M_140 w_M_takes d_M_readFunction_35 (by omega) rfl rfl rfl) (Nat.le_of_ble_eq_true rfl) (by rw [hR]; simp only [zRm]; omega) (by rw [hR]; simp only [zRm]; omega) (by rw [hR]; simp only [zRm]; omega) (by rw [hR]; simp only [zRm]; omega) (fun v n' σ' hv => ?_) (fun x n' σ' hv => ?_)
        · obtain ⟨e0, e1, rfl⟩ := hv
          obtain rfl : n = n' := e1.symm
          rw [hl, if_neg (by decide)] at e0
          cases e0
          rw [hl, if_neg (by decide)]
          refine z_if_ne C 41 164 d_M_readFunction_38 rfl (by decide) (fun h9 => absurd (show (0 : Int32) = 0 from rfl) h9) (fun _ => ?_)
          refine z_aload_n C 42 d_M_readFunction_41 rfl rfl ?_
          refine zm_get C 45 f_M_104 d_M_readFunction_42 rfl hn rfl ?_
          refine z_if_ne C 48 52 d_M_readFunction_45 rfl (by decide) (fun _ => ?_) (fun h9 => absurd h9 (show ¬ (1 : Int32) = 0 by decide))
          refine z_iconst C 53 d_M_readFunction_52 rfl 0 (by decide) ?_
          refine z_istore_n C 54 d_M_readFunction_53 rfl (by decide) ?_
          refine z_iload_n C 55 d_M_readFunction_54 rfl rfl ?_
          refine z_if_eq C 58 154 d_M_readFunction_55 rfl (by decide) (fun _ => ?_) (fun h9 => absurd (show (0 : Int32) = 0 from rfl) h9)
          refine z_aload_n C 155 d_M_readFunction_154 rfl rfl ?_
          refine z_aload_n C 156 d_M_readFunction_155 rfl rfl ?_
          refine z_bipush C 158 d_M_readFunction_156 rfl 41 (by decide) ?_
          refine z_call C 161 (c_M_takes hn hT2 41) w_M_takes ini_M d_M_readFunction_158 rfl (z_goV (As := [.int 41]) C l_M_140 w_M_takes d_M_readFunction_158 (by omega) rfl rfl rfl) (Nat.le_of_ble_eq_true rfl) (by rw [hR]; simp only [zRm]; omega) (by rw [hR]; simp only [zRm]; omega) (by rw [hR]; simp only [zRm]; omega) (by rw [hR]; simp only [zRm]; omega) (fun v n' σ' hv => ?_) (fun x n' σ' hv => ?_)
          · obtain ⟨e0, e1, rfl⟩ := hv
            obtain rfl : n = n' := e1.symm
            rw [hl, if_neg (by decide)] at e0
            cases e0
            rw [hl, if_neg (by decide)]
            refine z_call C 164 (c_M_want hn 0) w_M_want ini_M d_M_readFunction_161 rfl (z_goV (As := [.int 0]) C l_M_122 w_M_want d_M_readFunction_161 (by omega) rfl rfl rfl) (Nat.le_of_ble_eq_true rfl) (by rw [hR]; simp only [zRm]; omega) (by rw [hR]; simp only [zRm]; omega) (by rw [hR]; simp only [zRm]; omega) (by rw [hR]; simp only [zRm]; omega) (fun v n' σ' hv => ?_) (fun x n' σ' hv => ?_)
            · obtain ⟨e0, e1, rfl⟩ := hv
              obtain rfl : n = n' := e1.symm
              cases e0
              rw [if_pos rfl, hs]
              refine z_aload_n C 165 d_M_readFunction_164 rfl rfl ?_
              refine zm_get C 168 f_M_40 d_M_readFunction_165 rfl hn rfl ?_
              refine z_bipush C 170 d_M_readFunction_168 rfl 8 (by decide) ?_
              refine z_aload_n C 171 d_M_readFunction_170 rfl rfl ?_
              refine z_bipush C 173 d_M_readFunction_171 rfl 48 (by decide) ?_
              refine z_bipush C 175 d_M_readFunction_173 rfl 50 (by decide) ?_
              refine z_call C 178 (c_M_letter hn hT2 48 50 (by decide)) w_M_letter ini_M d_M_readFunction_175 rfl (z_goV (As := [.int 48, .int 50]) C l_M_132 w_M_letter d_M_readFunction_175 (by omega) rfl rfl rfl) (Nat.le_of_ble_eq_true rfl) (by rw [hR]; simp only [zRm]; omega) (by rw [hR]; simp only [zRm]; omega) (by rw [hR]; simp only [zRm]; omega) (by rw [hR]; simp only [zRm]; omega) (fun v n' σ' hv => ?_) (fun x n' σ' hv => ?_)
              · obtain ⟨e1, hv⟩ := hv
                obtain rfl : n = n' := e1.symm
                rcases hv with ⟨q, -⟩ | ⟨-, e0, rfl⟩
                · rw [hl] at q
                  exact absurd q.1 (by decide)
                cases e0
                rw [hs]
                refine zm_iast C 179 8 d_M_readFunction_178 rfl hn (by decide) (by decide) (by decide) rfl (by decide) (by decide) ?_
                refine z_aload_n C 180 d_M_readFunction_179 rfl rfl ?_
                refine z_aload_n C 181 d_M_readFunction_180 rfl rfl ?_
                refine z_bipush C 183 d_M_readFunction_181 rfl 61 (by decide) ?_
                have hT3 : mTx (upd (upd S 12 0) 5 1) (va_up (va_up A 93 (upd (A 93) 8 0)) 94 (upd (A 94) 8 0)) 0 z := ⟨hT.1, hT.2.1, hT.2.2.1, hT.2.2.2.1, hT.2.2.2.2⟩
                have hl3 : mlk (upd (upd S 12 0) 5 1) (va_up (va_up A 93 (upd (A 93) 8 0)) 94 (upd (A 94) 8 0)) 0 z = 0 := mlk_ill rfl
                refine z_call C 186 (c_M_takes hn hT3 61) w_M_takes ini_M d_M_readFunction_183 rfl (z_goV (As := [.int 61]) C l_M_140 w_M_takes d_M_readFunction_183 (by omega) rfl rfl rfl) (Nat.le_of_ble_eq_true rfl) (by rw [hR]; simp only [zRm]; omega) (by rw [hR]; simp only [zRm]; omega) (by rw [hR]; simp only [zRm]; omega) (by rw [hR]; simp only [zRm]; omega) (fun v n' σ' hv => ?_) (fun x n' σ' hv => ?_)
                · obtain ⟨e0, e1, rfl⟩ := hv
                  obtain rfl : n = n' := e1.symm
                  rw [hl3, if_neg (by decide)] at e0
                  cases e0
                  rw [hl3, if_neg (by decide)]
                  refine z_call C 189 (c_M_want hn 0) w_M_want ini_M d_M_readFunction_186 rfl (z_goV (As := [.int 0]) C l_M_122 w_M_want d_M_readFunction_186 (by omega) rfl rfl rfl) (Nat.le_of_ble_eq_true rfl) (by rw [hR]; simp only [zRm]; omega) (by rw [hR]; simp only [zRm]; omega) (by rw [hR]; simp only [zRm]; omega) (by rw [hR]; simp only [zRm]; omega) (fun v n' σ' hv => ?_) (fun x n' σ' hv => ?_)
                  · obtain ⟨e0, e1, rfl⟩ := hv
                    obtain rfl : n = n' := e1.symm
                    cases e0
                    rw [if_pos rfl, hs]
                    refine z_aload_n C 190 d_M_readFunction_189 rfl rfl ?_
                    refine zm_get C 193 f_M_104 d_M_readFunction_190 rfl hn rfl ?_
                    refine z_if_ne C 196 200 d_M_readFunction_193 rfl (by decide) (fun _ => ?_) (fun h9 => absurd h9 (show ¬ (1 : Int32) = 0 by decide))
                    refine z_aload_n C 201 d_M_readFunction_200 rfl rfl ?_
                    refine z_aload_n C 202 d_M_readFunction_201 rfl rfl ?_
                    refine zm_get C 205 f_M_108 d_M_readFunction_202 rfl hn rfl ?_
                    refine z_aload_n C 206 d_M_readFunction_205 rfl rfl ?_
                    refine zm_get C 209 f_M_111 d_M_readFunction_206 rfl hn rfl ?_
                    have fin : ∀ b : Int32, Z G K n (mOv (upd (upd S 12 0) 5 1) (va_up (va_up A 93 (upd (A 93) 8 0)) 94 (upd (A 94) 8 0)) L rn σ) 0 0 217 [(2, .int 0), (1, .int 0), (0, .ref 85)] [.int b, .ref 85] := fun b => by
                      refine z_call C 220 (c_M_want hn b) w_M_want ini_M d_M_readFunction_217 rfl (z_goV (As := [.int b]) C l_M_122 w_M_want d_M_readFunction_217 (by omega) rfl rfl rfl) (Nat.le_of_ble_eq_true rfl) (by rw [hR]; simp only [zRm]; omega) (by rw [hR]; simp only [zRm]; omega) (by rw [hR]; simp only [zRm]; omega) (by rw [hR]; simp only [zRm]; omega) (fun v n' σ' hv => ?_) (fun x n' σ' hv => ?_)
                      · obtain ⟨e0, e1, rfl⟩ := hv
                        obtain rfl : n = n' := e1.symm
                        cases e0
                        have hw : (if b = 0 then upd (upd (upd S 12 0) 5 1) 5 1 else upd (upd S 12 0) 5 1) = upd (upd S 12 0) 5 1 := by
                          rw [hs]
                          split <;> rfl
                        rw [hw]
                        refine z_iload_n C 221 d_M_readFunction_220 rfl rfl ?_
                        exact z_iret C rfl d_M_readFunction_221 (by rw [hpo]; exact ⟨rfl, rfl, rfl⟩) (by rw [hmc]; omega) (by rw [hms]; omega)
                      · cases hv.1
                    refine z_icmp_ne C 212 216 d_M_readFunction_209 rfl (by decide) (fun q => ?_) (fun q => ?_)
                    · refine z_iconst C 217 d_M_readFunction_216 rfl 0 (by decide) ?_
                      exact fin 0
                    · refine z_iconst C 213 d_M_readFunction_212 rfl 1 (by decide) ?_
                      refine z_goto C 217 d_M_readFunction_213 (by decide) ?_
                      exact fin 1
                  · cases hv.1
                · cases hv.1
              · obtain ⟨-, hv⟩ := hv
                rcases hv with ⟨-, e0, -⟩ | ⟨-, e0, -⟩ <;> cases e0
            · cases hv.1
          · cases hv.1
        · cases hv.1
      · cases hv.1
    · cases hv.1
  · obtain ⟨-, hv⟩ := hv
    rcases hv with ⟨-, e0, -⟩ | ⟨-, e0, -⟩ <;> cases e0
theorem c_M_define_bad (hn : 113 ≤ n) (h2 : S 2 = nI z) (hz : z ≤ 150) (hc : ∀ i, i < 150 → narrow .char (.int (A 86 i)) = .int (A 86 i)) (hb : ¬ (65 ≤ mlk (upd (upd S 4 0) 5 0) A 0 z ∧ mlk (upd (upd S 4 0) 5 0) A 0 z ≤ 72)) : MetZ G l y_M_define b_M_define 4 (some .int) [] 4 0 0 [.ref 85] n (mOv S A L rn σ)
    (fun o n' σ' => o = .returned (some (.int 0)) ∧ n' = n ∧ σ' = mOv (upd (upd (upd (upd (upd (upd (upd (upd S 4 0) 5 0) 12 0) 5 1) 6 0) 2 0) 1 0) 0 1) (va_up (va_up A 93 (upd (A 93) 8 0)) 94 (upd (A 94) 8 0)) L rn σ) := by
  refine MetZ.of (by decide) (Nat.le_of_ble_eq_true rfl) (fun K hK hR hpo hmc hms C => ?_)
  refine z_aload_n C 1 d_M_define_0 rfl rfl ?_
  refine z_iconst C 2 d_M_define_1 rfl 0 (by decide) ?_
  refine zm_puti C 5 p_M_108 d_M_define_2 rfl hn (by decide) (rfl) rfl rfl ?_
  refine z_aload_n C 6 d_M_define_5 rfl rfl ?_
  refine z_iconst C 7 d_M_define_6 rfl 0 (by decide) ?_
  refine zm_puti C 10 p_M_104 d_M_define_7 rfl hn (by decide) (rfl) rfl rfl ?_
  refine z_aload_n C 11 d_M_define_10 rfl rfl ?_
  refine z_call C 14 (c_M_readFunction_bad (z := z) hn ⟨rfl, h2, hz, by omega, hc⟩ hb) w_M_readFunction ini_M d_M_define_11 rfl (z_goV (As := []) C l_M_210 w_M_readFunction d_M_define_11 (by omega) rfl rfl rfl) (Nat.le_of_ble_eq_true rfl) (by rw [hR]; simp only [zRm]; omega) (by rw [hR]; simp only [zRm]; omega) (by rw [hR]; simp only [zRm]; omega) (by rw [hR]; simp only [zRm]; omega) (fun v n' σ' hv => ?_) (fun x n' σ' hv => ?_)
  · obtain ⟨e0, e1, rfl⟩ := hv
    cases e0
    obtain rfl : n = n' := e1.symm
    refine z_istore_n C 15 d_M_define_14 rfl (by decide) ?_
    refine z_aload_n C 16 d_M_define_15 rfl rfl ?_
    refine z_aload_n C 17 d_M_define_16 rfl rfl ?_
    refine zm_get C 20 f_M_104 d_M_define_17 rfl hn rfl ?_
    refine z_if_eq C 23 30 d_M_define_20 rfl (by decide) (fun h9 => absurd h9 (show ¬ (1 : Int32) = 0 by decide)) (fun _ => ?_)
    refine z_aload_n C 24 d_M_define_23 rfl rfl ?_
    refine zm_get C 27 f_M_108 d_M_define_24 rfl hn rfl ?_
    refine z_goto C 31 d_M_define_27 (by decide) ?_
    refine zm_puti C 34 p_M_13 d_M_define_31 rfl hn (by decide) (rfl) rfl rfl ?_
    refine z_aload_n C 35 d_M_define_34 rfl rfl ?_
    refine z_iconst C 36 d_M_define_35 rfl 0 (by decide) ?_
    refine zm_puti C 39 p_M_111 d_M_define_36 rfl hn (by decide) (rfl) rfl rfl ?_
    refine z_aload_n C 40 d_M_define_39 rfl rfl ?_
    refine z_iconst C 41 d_M_define_40 rfl 0 (by decide) ?_
    refine zm_puti C 44 p_M_207 d_M_define_41 rfl hn (by decide) (rfl) rfl rfl ?_
    refine z_aload_n C 45 d_M_define_44 rfl rfl ?_
    refine z_aload_n C 46 d_M_define_45 rfl rfl ?_
    refine zm_get C 49 f_M_104 d_M_define_46 rfl hn rfl ?_
    refine z_if_eq C 52 56 d_M_define_49 rfl (by decide) (fun h9 => absurd h9 (show ¬ (1 : Int32) = 0 by decide)) (fun _ => ?_)
    refine z_iconst C 53 d_M_define_52 rfl 1 (by decide) ?_
    refine z_goto C 57 d_M_define_53 (by decide) ?_
    refine zm_puti C 60 p_M_101 d_M_define_57 rfl hn (by decide) (rfl) rfl rfl ?_
    refine z_aload_n C 61 d_M_define_60 rfl rfl ?_
    refine zm_get C 64 f_M_104 d_M_define_61 rfl hn rfl ?_
    refine z_if_eq C 67 69 d_M_define_64 rfl (by decide) (fun h9 => absurd h9 (show ¬ (1 : Int32) = 0 by decide)) (fun _ => ?_)
    refine z_iconst C 68 d_M_define_67 rfl 0 (by decide) ?_
    exact z_iret C rfl d_M_define_68 (by rw [hpo]; exact ⟨rfl, rfl, rfl⟩) (by rw [hmc]; omega) (by rw [hms]; omega)
  · cases hv.1
theorem c_M_isRun_no (hn : 113 ≤ n) (f : Int32) (hb : ∀ k, k < 8 → f = nI k → A 92 k = 0) : MetZ G l y_M_isRun b_M_isRun 4 (some .boolean) [] 0 0 0 [.ref 85, .int f] n (mOv S A L rn σ) (fun o n' σ' => o = .returned (some (.int 0)) ∧ n' = n ∧ σ' = mOv S A L rn σ) := by
  refine MetZ.of (by decide) (Nat.le_of_ble_eq_true rfl) (fun K hK hR hpo hmc hms C => ?_)
  refine z_iload_n C 1 d_M_isRun_0 rfl rfl ?_
  refine z_if_lt C 4 19 d_M_isRun_1 rfl (by decide) (fun h1 => ?_) (fun h1 => ?_)
  · refine z_iconst C 20 d_M_isRun_19 rfl 0 (by decide) ?_
    exact z_zret C rfl (rfl) d_M_isRun_20 (by rw [hpo]; exact ⟨rfl, rfl, rfl⟩) (by rw [hmc]; omega) (by rw [hms]; omega)
  refine z_iload_n C 5 d_M_isRun_4 rfl rfl ?_
  refine z_bipush C 7 d_M_isRun_5 rfl 7 (by decide) ?_
  refine z_icmp_gt C 10 19 d_M_isRun_7 rfl (by decide) (fun h2 => ?_) (fun h2 => ?_)
  · refine z_iconst C 20 d_M_isRun_19 rfl 0 (by decide) ?_
    exact z_zret C rfl (rfl) d_M_isRun_20 (by rw [hpo]; exact ⟨rfl, rfl, rfl⟩) (by rw [hmc]; omega) (by rw [hms]; omega)
  refine z_aload_n C 11 d_M_isRun_10 rfl rfl ?_
  refine zm_get C 14 f_M_33 d_M_isRun_11 rfl hn rfl ?_
  refine z_iload_n C 15 d_M_isRun_14 rfl rfl ?_
  obtain ⟨k, hk, ek⟩ := nI_of2 (n := 7) (M := 7) rfl h1 (Int32.not_lt.mp h2)
  refine zm_zald C 16 k d_M_isRun_15 rfl hn ek (by omega) ?_
  rw [hb k (by omega) ek]
  refine z_if_ne C 19 21 d_M_isRun_16 rfl (by decide) (fun h9 => absurd (show (0 : Int32) = 0 from rfl) h9) (fun _ => ?_)
  refine z_iconst C 20 d_M_isRun_19 rfl 0 (by decide) ?_
  exact z_zret C rfl (rfl) d_M_isRun_20 (by rw [hpo]; exact ⟨rfl, rfl, rfl⟩) (by rw [hmc]; omega) (by rw [hms]; omega)
theorem c_M_run_no (hn : 113 ≤ n) (c : Int32) (hb : ∀ k, k < 8 → c - 65 = nI k → A 92 k = 0) : MetZ G l y_M_run b_M_run 5 (some .int) [] 1 0 0 [.ref 85, .int c] n (mOv S A L rn σ) (fun o n' σ' => o = .returned (some (.int 0)) ∧ n' = n ∧ σ' = mOv (upd S 0 1) A L rn σ) := by
  refine MetZ.of (by decide) (Nat.le_of_ble_eq_true rfl) (fun K hK hR hpo hmc hms C => ?_)
  refine z_iload_n C 1 d_M_run_0 rfl rfl ?_
  refine z_bipush C 3 d_M_run_1 rfl 65 (by decide) ?_
  refine z_isub C 4 d_M_run_3 rfl ?_
  refine z_istore_n C 5 d_M_run_4 rfl (by decide) ?_
  refine z_aload_n C 6 d_M_run_5 rfl rfl ?_
  refine z_aload_n C 7 d_M_run_6 rfl rfl ?_
  refine z_iload_n C 8 d_M_run_7 rfl rfl ?_
  refine z_call C 11 (c_M_isRun_no hn (c - 65) hb) w_M_isRun ini_M d_M_run_8 rfl (z_goV (As := [.int (c - 65)]) C l_M_281 w_M_isRun d_M_run_8 (by omega) rfl rfl rfl) (Nat.le_of_ble_eq_true rfl) (by rw [hR]; simp only [zRm]; omega) (by rw [hR]; simp only [zRm]; omega) (by rw [hR]; simp only [zRm]; omega) (by rw [hR]; simp only [zRm]; omega) (fun v n' σ' hv => ?_) (fun x n' σ' hv => ?_)
  · obtain ⟨e0, e1, rfl⟩ := hv
    cases e0
    obtain rfl : n = n' := e1.symm
    refine z_if_eq C 14 18 d_M_run_11 rfl (by decide) (fun _ => ?_) (fun h9 => absurd (show (0 : Int32) = 0 from rfl) h9)
    refine z_iconst C 19 d_M_run_18 rfl 1 (by decide) ?_
    refine zm_puti C 22 p_M_101 d_M_run_19 rfl hn (by decide) (rfl) rfl rfl ?_
    refine z_aload_n C 23 d_M_run_22 rfl rfl ?_
    refine zm_get C 26 f_M_101 d_M_run_23 rfl hn rfl ?_
    refine z_if_eq C 29 31 d_M_run_26 rfl (by decide) (fun h9 => absurd h9 (show ¬ (1 : Int32) = 0 by decide)) (fun _ => ?_)
    refine z_iconst C 30 d_M_run_29 rfl 0 (by decide) ?_
    exact z_iret C rfl d_M_run_30 (by rw [hpo]; exact ⟨rfl, rfl, rfl⟩) (by rw [hmc]; omega) (by rw [hms]; omega)
  · cases hv.1
end BM
end
section
section FRS
variable {G : zG} {l : Launch} {FR : rFR} {n : Nat} {σ : zS} {xs : mS} {xr : Int64} {xa : mA} {xl : mL} {xf : xF} {S : mS} {A : mA} {L : mL} {rn : Int64}
theorem MetZ.mono {y : MethodName} {cc : ByteArray} {nL : Nat} {ret : Option FieldType} {hs : List (Nat × Nat × Nat × Nat)} {d mc ms : Nat} {av : List Value} {post post' : zPost} (m : MetZ G l y cc nL ret hs d mc ms av n σ post) (h : ∀ o n' σ', post o n' σ' → post' o n' σ') : MetZ G l y cc nL ret hs d mc ms av n σ post' := by
  intro htr p e ha hc hk s mk args below hf happ hP hK
  obtain ⟨k, o, a, b, c, ⟨o', n', σ', e0, hq, hH⟩, q⟩ := m htr p e ha hc hk s mk args below hf happ hP hK
  exact ⟨k, o, a, b, c, ⟨o', n', σ', e0, h _ _ _ hq, hH⟩, q⟩
theorem mOv_up {i : Nat} (h : 113 ≤ i) (e : va_E) : va_up (mOv S A L rn σ) i e = mOv S A L rn (va_up σ i e) := by
  funext j
  by_cases q : j = i
  · subst q
    unfold mOv
    rw [va_up_self, if_neg (by omega), if_neg (by omega), if_pos h, va_up_self]
  · rw [va_up_ne _ _ q]
    unfold mOv
    rw [va_up_ne _ _ q]
theorem l_run_no (hO : rFRok FR) (hn : 114 ≤ n) (hn2 : n < 900000) (h : Rel FR n σ xs xr xa xl xf S A L rn) (c : Int32) (hx : xfn xf c = none) : lCall G l FR 5 y_S_run b_S_run 3 [.ref 0, .int c] y_M_run b_M_run 5 [.ref 85, .int c] n σ xs xr xa xl xf S A L rn := by
  refine ⟨6, 1, 6, 1, by omega, by omega, by omega, by omega, _, c_S_run_none (by omega) (by omega) c hx, fun o n' σ' hp => ?_⟩
  obtain ⟨rfl, rfl, rfl⟩ := hp
  refine ⟨by omega, by omega, xs, xr, xa, xl, xf, va_up σ n (.inr (9, [])), 1, 0, by rw [mOv_up (by omega)], va_up_ne _ _ (by omega), Or.inr ⟨n, 0, rfl, by omega, hn, by omega, rfl, va_up_self _ _ _⟩, fun σ2 τ hag => ?_⟩
  refine MetZ.mono (c_M_run_no (by omega) c (fun k hk ek => ?_)) (fun o n' σ' hp => ?_)
  · refine (h.2.2.1.2.1 k hk).mp ?_
    have hc : 65 ≤ c ∧ c ≤ 72 := by
      have e : c = nI (k + 65) := by
        rw [show nI (k + 65) = nI k + 65 from (nI_add _ 65).symm, ← ek, Int32.sub_add_cancel]
      rw [e]
      exact ⟨(nI_leI (a := 65) (by omega) (by omega)).mpr (by omega), (nI_leI (b := 72) (by omega) (by omega)).mpr (by omega)⟩
    rw [xfn, if_pos hc, ek, nI_clamp (by omega)] at hx
    exact hx
  · obtain ⟨rfl, rfl, rfl⟩ := hp
    obtain ⟨h1, h2, ⟨h3, h4, h5⟩, h6⟩ := h
    exact ⟨upd S 0 1, A, L, rn, 0, rfl, rfl, rfl, rfl, fun _ => rfl, h1, h2, ⟨h3, h4, hO.2.2.2 _ _ _ _ _ _ (by omega) (fun i a b => (hag i (by omega)).trans (va_up_ne _ _ (by omega))) h5⟩, h6⟩
theorem l_def_bad (hO : rFRok FR) (hn : 114 ≤ n) (hn2 : n < 900000) (h : Rel FR n σ xs xr xa xl xf S A L rn) {u z : Nat} (ht : rTx xs xa S A u z) (hb : xBad xa z) : lCall G l FR 2 y_S_define b_S_define 3 [.ref 0] y_M_define b_M_define 4 [.ref 85] n σ xs xr xa xl xf S A L rn := by
  obtain ⟨t1, t2, t3, t4, t5, t6, t7, t8, t9⟩ := ht
  have hl : mlk (upd (upd S 4 0) 5 0) A 0 z = xlk xa 0 z := by
    by_cases q : 0 < z
    · rw [mlk, if_pos ⟨rfl, q⟩, xlk, if_pos q, (t7 0 q).1]
    · rw [mlk, if_neg (fun w => q w.2), xlk, if_neg q]
  refine ⟨9, 3, 17, 4, by omega, by omega, by omega, by omega, _, c_S_define_bad (z := z) (by omega) (by omega) t2 (by omega) t9 hb, fun o n' σ' hp => ?_⟩
  obtain ⟨rfl, rfl, rfl⟩ := hp
  refine ⟨by omega, by omega, upd (upd (upd (upd xs 0 0) 1 0) 4 (-1)) 4 0, xr, xa, xl, xf, va_up (va_up (va_up σ n (rdC 0 z)) (n + 1) fnC0) (n + 2) (.inr (9, [])), 1, 0, by rw [mOv_up (by omega), mOv_up (by omega), mOv_up (by omega)], ?_, Or.inr ⟨n + 2, 0, rfl, by omega, by omega, by omega, rfl, va_up_self _ _ _⟩, fun σ2 τ hag => ?_⟩
  · rw [va_up_ne _ _ (by omega), va_up_ne _ _ (by omega), va_up_ne _ _ (by omega)]
  refine MetZ.mono (c_M_define_bad (z := z) (by omega) t4 (by omega) t8 (by rw [hl]; exact hb)) (fun o n' σ' hp => ?_)
  obtain ⟨rfl, rfl, rfl⟩ := hp
  obtain ⟨-, -, ⟨h3, h4, h5⟩, h6, h7, h8⟩ := h
  refine ⟨_, _, L, rn, 0, rfl, rfl, rfl, rfl, fun _ => rfl, ⟨0, 0, rfl, rfl, rfl, rfl, by omega, by omega, fun i hi => absurd hi (by omega), t8, t9⟩, rfl, ⟨?_, fun f hf => ?_, ?_⟩, h6, h7, h8⟩
  · exact h3
  · exact h4 f hf
  · refine hO.2.2.2 _ _ _ _ _ _ (by omega) (fun i a b => ?_) (hO.1 _ _ _ _ _ (fun a k hk => ?_) h5)
    · exact (hag i (by omega)).trans (by rw [va_up_ne _ _ (by omega), va_up_ne _ _ (by omega), va_up_ne _ _ (by omega)])
    · unfold mKept at hk
      by_cases q4 : a = 94
      · subst q4
        rw [va_up_self]
        show (if k = 8 then _ else _) = _
        rw [if_neg (by omega)]
      · rw [va_up_ne _ _ q4]
        by_cases q3 : a = 93
        · subst q3
          rw [va_up_self]
          show (if k = 8 then _ else _) = _
          rw [if_neg (by omega)]
        · rw [va_up_ne _ _ q3]
/-- FR for scripts of one call -/
def FR0 : rFR := fun _ _ _ _ => True
theorem FR0_ok : rFRok FR0 := ⟨fun _ _ _ _ _ _ _ => trivial, fun _ _ _ => trivial, fun _ _ _ _ _ => trivial, fun _ _ _ _ _ _ _ _ _ => trivial⟩
theorem HD_1 {Ls : Nat} (h4 : Ls ≤ 4) : lHD G l FR0 Ls := by
  intro t n σ xs xr xa xl xf S A L rn ht _ hz hn hn2 h
  obtain ⟨rfl, rfl, rfl, rfl, rfl, rfl, rfl, rfl, rfl, rfl⟩ := hz (by omega)
  refine l_def_bad FR0_ok (by omega) (by omega) h (u := 0) (z := 0) ⟨rfl, rfl, rfl, rfl, by omega, by omega, fun i hi => absurd hi (by omega), fun i _ => rfl, fun i _ => rfl⟩ (fun q => ?_)
  rw [xlk, if_neg (by omega)] at q
  exact absurd q.1 (by decide)
theorem HR_1 {Ls : Nat} (h4 : Ls ≤ 4) : lHR G l FR0 Ls := by
  intro t n σ xs xr xa xl xf S A L rn x ht _ hz hn hn2 h
  obtain ⟨rfl, rfl, rfl, rfl, rfl, rfl, rfl, rfl, rfl, rfl⟩ := hz (by omega)
  refine l_run_no FR0_ok (by omega) (by omega) h _ ?_
  unfold xfn
  split <;> rfl
end FRS
end
section
/-! the reading, as a function of the text T of z characters. p: the place; i: how many nodes there are; A: the reference's arrays (its node j in the rows 87 .. 91 at 1200 + j); E: the class's expressions by the same numbers (form, place, parts, their count, number, operation, variable, its place, callee's name, callee) -/
abbrev eN : Type := Nat × Int32 × (Nat → Option Nat) × Nat × Int64 × Int32 × Int32 × Int32 × Int32 × Option Nat
abbrev rS : Type := Nat × Nat × mA × (Nat → eN)
/-- ill at a place, or gone on -/
abbrev rR : Type := Nat ⊕ rS
def rlk (T : Nat → Int32) (z p : Nat) : Int32 := if p < z then T p else 0
def rB (x : rR) (f : rS → rR) : rR := match x with
  | .inl q => .inl q
  | .inr s => f s
def rTake (T : Nat → Int32) (z : Nat) (c : Int32) (s : rS) (f : rS → rR) : rR := if rlk T z s.1 = c then f (s.1 + 1, s.2) else .inl s.1
def rLet (T : Nat → Int32) (z : Nat) (lo hi : Int32) (s : rS) (f : Int32 → rS → rR) : rR := if lo ≤ rlk T z s.1 ∧ rlk T z s.1 ≤ hi then f (rlk T z s.1 - lo) (s.1 + 1, s.2) else .inl s.1
def rFlat (A : mA) (i k : Nat) (x : Int32) (w : Nat) : mA := va_up (va_up (va_up (va_up (va_up A 87 (upd (A 87) (1200 + i) (nI k))) 88 (upd (A 88) (1200 + i) x)) 89 (upd (A 89) (1200 + i) (nI w))) 90 (upd (A 90) (1200 + i) 0)) 91 (upd (A 91) (1200 + i) (nI (1200 + i + 1)))
def rE0 (k w : Nat) : eN := (k, nI w, fun _ => none, 0, 0, 32, 0, 0, 0, none)
/-- node i is made: kind k, argument x, place w; the class's expression e -/
def rNode (k : Nat) (x : Int32) (w : Nat) (e : eN) (s : rS) : rS := (s.1, s.2.1 + 1, rFlat s.2.2.1 s.2.1 k x w, va_up s.2.2.2 s.2.1 e)
def eAdd (e : eN) (j : Nat) : eN := (e.1, e.2.1, va_up e.2.2.1 e.2.2.2.1 (some j), e.2.2.2.1 + 1, e.2.2.2.2)
/-- node j is part of node i -/
def rAdd (i j : Nat) (s : rS) : rS := (s.1, s.2.1, va_up s.2.2.1 90 (upd (s.2.2.1 90) (1200 + i) (s.2.2.1 90 (1200 + i) + 1)), va_up s.2.2.2 i (eAdd (s.2.2.2 i) j))
def eOp (e : eN) (c : Int32) : eN := (e.1, e.2.1, e.2.2.1, e.2.2.2.1, e.2.2.2.2.1, c, e.2.2.2.2.2.2)
def rOp (i : Nat) (c : Int32) (s : rS) : rS := (s.1 + 1, s.2.1, va_up s.2.2.1 88 (upd (s.2.2.1 88) (1200 + i) c), va_up s.2.2.2 i (eOp (s.2.2.2 i) c))
def eVar (e : eN) (v w : Int32) : eN := (e.1, e.2.1, e.2.2.1, e.2.2.2.1, e.2.2.2.2.1, e.2.2.2.2.2.1, v, w, e.2.2.2.2.2.2.2.2)
/-- node i is whole; a reading's or update's variable comes to the class's expression now -/
def rClose (i : Nat) (vw : Option (Int32 × Nat)) (s : rS) : rS := (s.1, s.2.1, va_up s.2.2.1 91 (upd (s.2.2.1 91) (1200 + i) (nI (1200 + s.2.1))), match vw with
  | none => s.2.2.2
  | some (v, w) => va_up s.2.2.2 i (eVar (s.2.2.2 i) v (nI w)))
def rIsOp (c : Int32) : Bool := c == 43 || c == 45 || c == 42 || c == 47 || c == 60 || c == 61
def rDigs (T : Nat → Int32) (z : Nat) : Nat → Nat → Nat → Nat × Nat
  | 0, p, v => (p, v)
  | k + 1, p, v => if 48 ≤ rlk T z p ∧ rlk T z p ≤ 57 then rDigs T z k (p + 1) (10 * v + (rlk T z p - 48).toNatClampNeg) else (p, v)
/-- behind part k of node i, of kind K: g if another part follows, f if none does -/
def rBeh (T : Nat → Int32) (z K k i : Nat) (s : rS) (g f : rS → rR) : rR :=
  if K = 2 then (if k = 0 then (if rIsOp (rlk T z s.1) then g (rOp i (rlk T z s.1) s) else .inl s.1) else rTake T z 41 s f)
  else if K = 3 then (if k = 0 then rTake T z 40 s g else if k = 1 then rTake T z 124 s g else rTake T z 41 s f)
  else if K = 4 then (if k = 0 then rTake T z 59 s g else f s)
  else if K = 6 then (if k = 0 then rTake T z 44 s g else f s)
  else if K = 7 then (if k = 0 ∧ rlk T z s.1 = 44 then g (s.1 + 1, s.2) else rTake T z 93 s f)
  else if K = 8 then (if k = 0 then rTake T z 44 s g else if k = 1 ∧ rlk T z s.1 = 44 then g (s.1 + 1, s.2) else rTake T z 125 s f)
  else if K = 13 then (if k < 3 ∧ rlk T z s.1 = 44 then g (s.1 + 1, s.2) else rTake T z 41 s f)
  else f s
/-- the parts of node i from part k on, m at most -/
def rParts (T : Nat → Int32) (z : Nat) (R : rS → rR) (K i : Nat) (vw : Option (Int32 × Nat)) : Nat → Nat → rS → rR
  | 0, _, s => .inl s.1
  | m + 1, k, s => rB (R s) fun s2 => rBeh T z K k i (rAdd i s.2.1 s2) (fun s3 => rParts T z R K i vw m (k + 1) s3) (fun s3 => .inr (rClose i vw s3))
def rGo (s : rS) (q : Nat) : rS := (q, s.2)
/-- an expression, d more levels deep at most -/
def rdE (T : Nat → Int32) (z : Nat) : Nat → rS → rR
  | 0, s => .inl s.1
  | d + 1, s =>
    if 48 ≤ rlk T z s.1 ∧ rlk T z s.1 ≤ 57 then
      .inr (rGo (rNode 0 (nI (rDigs T z 4 s.1 0).2) s.1 (0, nI s.1, fun _ => none, 0, lN (rDigs T z 4 s.1 0).2, 32, 0, 0, 0, none) s) (rDigs T z 4 s.1 0).1)
    else if 97 ≤ rlk T z s.1 ∧ rlk T z s.1 ≤ 116 then
      (if rlk T z (s.1 + 1) = 91 then rParts T z (rdE T z d) 7 s.2.1 (some (rlk T z s.1 - 97, s.1)) 4 0 (rGo (rNode 7 (rlk T z s.1 - 97) s.1 (rE0 7 s.1) s) (s.1 + 2))
       else if rlk T z (s.1 + 1) = 123 then rParts T z (rdE T z d) 8 s.2.1 (some (rlk T z s.1 - 97, s.1)) 4 0 (rGo (rNode 8 (rlk T z s.1 - 97) s.1 (rE0 8 s.1) s) (s.1 + 2))
       else .inr (rGo (rNode 1 (rlk T z s.1 - 97) s.1 (eVar (rE0 1 s.1) (rlk T z s.1 - 97) (nI s.1)) s) (s.1 + 1)))
    else if 65 ≤ rlk T z s.1 ∧ rlk T z s.1 ≤ 72 then
      (if rlk T z (s.1 + 1) = 40 then
        (if rlk T z (s.1 + 2) = 41 then .inr (rGo (rNode 13 (rlk T z s.1 - 65) s.1 (13, nI s.1, fun _ => none, 0, 0, 32, 0, 0, rlk T z s.1 - 65, none) s) (s.1 + 3))
         else rParts T z (rdE T z d) 13 s.2.1 none 4 0 (rGo (rNode 13 (rlk T z s.1 - 65) s.1 (13, nI s.1, fun _ => none, 0, 0, 32, 0, 0, rlk T z s.1 - 65, none) s) (s.1 + 2)))
       else .inl (s.1 + 1))
    else if rlk T z s.1 = 40 then rParts T z (rdE T z d) 2 s.2.1 none 4 0 (rGo (rNode 2 0 s.1 (rE0 2 s.1) s) (s.1 + 1))
    else if rlk T z s.1 = 63 then rParts T z (rdE T z d) 3 s.2.1 none 4 0 (rGo (rNode 3 0 s.1 (rE0 3 s.1) s) (s.1 + 1))
    else if rlk T z s.1 = 64 then rParts T z (rdE T z d) 5 s.2.1 none 4 0 (rGo (rNode 5 0 s.1 (rE0 5 s.1) s) (s.1 + 1))
    else if rlk T z s.1 = 37 then rParts T z (rdE T z d) 6 s.2.1 none 4 0 (rGo (rNode 6 0 s.1 (rE0 6 s.1) s) (s.1 + 1))
    else if rlk T z s.1 = 38 then rLet T z 97 116 (rGo s (s.1 + 1)) fun v s1 => rTake T z 61 s1 fun s2 => rParts T z (rdE T z d) 4 s.2.1 none 4 0 (rNode 4 v s.1 (eVar (rE0 4 s.1) v (nI (s.1 + 1))) s2)
    else if rlk T z s.1 = 126 then rLet T z 97 116 (rGo s (s.1 + 1)) fun v s1 => rTake T z 59 s1 fun s2 => rParts T z (rdE T z d) 12 s.2.1 none 4 0 (rNode 12 v s.1 (eVar (rE0 12 s.1) v (nI (s.1 + 1))) s2)
    else if rlk T z s.1 = 35 then rLet T z 97 116 (rGo s (s.1 + 1)) fun v s1 => .inr (rNode 9 v s.1 (eVar (rE0 9 s.1) v (nI (s.1 + 1))) s1)
    else if rlk T z s.1 = 94 then rLet T z 97 116 (rGo s (s.1 + 1)) fun v s1 => .inr (rNode 10 v s.1 (eVar (rE0 10 s.1) v (nI (s.1 + 1))) s1)
    else if rlk T z s.1 = 36 then rLet T z 97 116 (rGo s (s.1 + 1)) fun v s1 => .inr (rNode 11 v s.1 (eVar (rE0 11 s.1) v (nI (s.1 + 1))) s1)
    else .inl s.1
/-- the parameters from number k on, m at most: their variables V, places P, types Y -/
def rdP (T : Nat → Int32) (z : Nat) : Nat → Nat → Nat → mS → mS → mS → Nat ⊕ (Nat × Nat × mS × mS × mS)
  | 0, k, p, V, P, Y => .inr (p, k, V, P, Y)
  | m + 1, k, p, V, P, Y =>
    if 97 ≤ rlk T z p ∧ rlk T z p ≤ 116 then
      (if 48 ≤ rlk T z (p + 1) ∧ rlk T z (p + 1) ≤ 50 then
        (if k < 3 ∧ rlk T z (p + 2) = 44 then rdP T z m (k + 1) (p + 3) (upd V k (rlk T z p - 97)) (upd P k (nI p)) (upd Y k (rlk T z (p + 1) - 48))
         else .inr (p + 2, k + 1, upd V k (rlk T z p - 97), upd P k (nI p), upd Y k (rlk T z (p + 1) - 48)))
       else .inl (p + 1))
    else .inl p
/-- what a whole function's text gives: its letter, its parameters (count, variables, places, types), its result, its body -/
abbrev rF : Type := Int32 × Nat × mS × mS × mS × Int32 × rS
def rdB (T : Nat → Int32) (z : Nat) (f : Int32) (A : mA) (E : Nat → eN) (q : Nat × Nat × mS × mS × mS) : Nat ⊕ rF :=
  if rlk T z q.1 = 41 then
    (if 48 ≤ rlk T z (q.1 + 1) ∧ rlk T z (q.1 + 1) ≤ 50 then
      (if rlk T z (q.1 + 2) = 61 then
        (match rdE T z 8 (q.1 + 3, 0, A, E) with
         | .inl x => .inl x
         | .inr s => if s.1 = z then .inr (f, q.2.1, q.2.2.1, q.2.2.2.1, q.2.2.2.2, rlk T z (q.1 + 1) - 48, s) else .inl s.1)
       else .inl (q.1 + 2))
     else .inl (q.1 + 1))
  else .inl q.1
def rdF (T : Nat → Int32) (z : Nat) (A : mA) (E : Nat → eN) (V P Y : mS) : Nat ⊕ rF :=
  if 65 ≤ rlk T z 0 ∧ rlk T z 0 ≤ 72 then
    (if rlk T z 1 = 40 then
      (if rlk T z 2 = 41 then rdB T z (rlk T z 0 - 65) A E (2, 0, V, P, Y)
       else (match rdP T z 4 0 2 V P Y with
         | .inl x => .inl x
         | .inr q => rdB T z (rlk T z 0 - 65) A E q))
     else .inl 1)
  else .inl 0
section RDG
variable {T : Nat → Int32} {z : Nat}
/-- from a to b: further on in the text, no more new nodes than characters -/
def rGood (z : Nat) (a b : rS) : Prop := a.1 ≤ b.1 ∧ b.1 ≤ z ∧ a.2.1 ≤ b.2.1 ∧ b.2.1 + a.1 ≤ a.2.1 + b.1
def rRes (z : Nat) (a : rS) (r : rR) : Prop := match r with
  | .inl q => a.1 ≤ q ∧ q ≤ z
  | .inr b => rGood z a b
theorem rGood.refl {a : rS} (h : a.1 ≤ z) : rGood z a a := ⟨Nat.le_refl _, h, Nat.le_refl _, Nat.le_refl _⟩
theorem rGood.trans {a b c : rS} (h : rGood z a b) (g : rGood z b c) : rGood z a c := by
  obtain ⟨h1, h2, h3, h4⟩ := h
  obtain ⟨g1, g2, g3, g4⟩ := g
  exact ⟨by omega, g2, by omega, by omega⟩
theorem rRes.of {a b : rS} {r : rR} (h : rGood z a b) (g : rRes z b r) : rRes z a r := by
  cases r with
  | inl q => exact ⟨Nat.le_trans h.1 g.1, g.2⟩
  | inr c => exact rGood.trans h g
theorem rRes.bind {a : rS} {x : rR} {f : rS → rR} (h : rRes z a x) (g : ∀ b, rGood z a b → rRes z b (f b)) : rRes z a (rB x f) := by
  cases x with
  | inl q => exact h
  | inr b => exact rRes.of h (g b h)
theorem rlk_lt {p : Nat} {c : Int32} (h : rlk T z p = c) (h0 : c ≠ 0) : p < z := by
  refine Decidable.byContradiction fun q => ?_
  rw [rlk, if_neg q] at h
  exact h0 h.symm
theorem rlk_pos {p : Nat} {lo : Int32} (h : lo ≤ rlk T z p) (h0 : 0 < lo) : p < z := by
  refine Decidable.byContradiction fun q => ?_
  rw [rlk, if_neg q] at h
  exact absurd h (Int32.not_le.mpr h0)
theorem rTake_res {c : Int32} {s : rS} {f : rS → rR} (hs : s.1 ≤ z) (h0 : c ≠ 0) (g : s.1 < z → rRes z (s.1 + 1, s.2) (f (s.1 + 1, s.2))) : rRes z s (rTake T z c s f) := by
  unfold rTake
  by_cases h : rlk T z s.1 = c
  · rw [if_pos h]
    have hl := rlk_lt h h0
    exact rRes.of (b := (s.1 + 1, s.2)) ⟨Nat.le_succ _, hl, Nat.le_refl _, by show s.2.1 + s.1 ≤ s.2.1 + (s.1 + 1); omega⟩ (g hl)
  · rw [if_neg h]
    exact ⟨Nat.le_refl _, hs⟩
theorem rLet_res {lo hi : Int32} {s : rS} {f : Int32 → rS → rR} (hs : s.1 ≤ z) (h0 : 0 < lo) (g : s.1 < z → rRes z (s.1 + 1, s.2) (f (rlk T z s.1 - lo) (s.1 + 1, s.2))) : rRes z s (rLet T z lo hi s f) := by
  unfold rLet
  by_cases h : lo ≤ rlk T z s.1 ∧ rlk T z s.1 ≤ hi
  · rw [if_pos h]
    have hl := rlk_pos h.1 h0
    exact rRes.of (b := (s.1 + 1, s.2)) ⟨Nat.le_succ _, hl, Nat.le_refl _, by show s.2.1 + s.1 ≤ s.2.1 + (s.1 + 1); omega⟩ (g hl)
  · rw [if_neg h]
    exact ⟨Nat.le_refl _, hs⟩
theorem rComma_res {c : Int32} {s : rS} {g : rS → rR} (h : rlk T z s.1 = c) (h0 : c ≠ 0) (hg : ∀ b, rGood z s b → rRes z b (g b)) : rRes z s (g (s.1 + 1, s.2)) := by
  have hl := rlk_lt h h0
  have hG : rGood z s (s.1 + 1, s.2) := ⟨Nat.le_succ _, hl, Nat.le_refl _, by show s.2.1 + s.1 ≤ s.2.1 + (s.1 + 1); omega⟩
  exact rRes.of hG (hg _ hG)
theorem rIsOp_ne {c : Int32} (h : rIsOp c = true) : c ≠ 0 := fun q => by rw [q] at h; exact absurd h (by decide)
theorem rBeh_res {K k i : Nat} {s : rS} {g f : rS → rR} (hs : s.1 ≤ z) (hg : ∀ b, rGood z s b → rRes z b (g b)) (hf : ∀ b, rGood z s b → rRes z b (f b)) : rRes z s (rBeh T z K k i s g f) := by
  have tk : ∀ (c : Int32) (w : rS → rR), c ≠ 0 → (∀ b, rGood z s b → rRes z b (w b)) → rRes z s (rTake T z c s w) := fun c w h0 hw => rTake_res hs h0 (fun hl => hw _ ⟨Nat.le_succ _, hl, Nat.le_refl _, by show s.2.1 + s.1 ≤ s.2.1 + (s.1 + 1); omega⟩)
  have ff : rRes z s (f s) := hf s (rGood.refl hs)
  unfold rBeh
  split
  · split
    · split
      · rename_i hop
        have hl := rlk_lt rfl (rIsOp_ne hop)
        have hG : rGood z s (rOp i (rlk T z s.1) s) := ⟨Nat.le_succ _, hl, Nat.le_refl _, by show s.2.1 + s.1 ≤ s.2.1 + (s.1 + 1); omega⟩
        exact rRes.of hG (hg _ hG)
      · exact ⟨Nat.le_refl _, hs⟩
    · exact tk _ _ (by decide) hf
  · split
    · split
      · exact tk _ _ (by decide) hg
      · split
        · exact tk _ _ (by decide) hg
        · exact tk _ _ (by decide) hf
    · split
      · split
        · exact tk _ _ (by decide) hg
        · exact ff
      · split
        · split
          · exact tk _ _ (by decide) hg
          · exact ff
        · split
          · split
            · rename_i hc
              exact rComma_res hc.2 (by decide) hg
            · exact tk _ _ (by decide) hf
          · split
            · split
              · exact tk _ _ (by decide) hg
              · split
                · rename_i hc
                  exact rComma_res hc.2 (by decide) hg
                · exact tk _ _ (by decide) hf
            · split
              · split
                · rename_i hc
                  exact rComma_res hc.2 (by decide) hg
                · exact tk _ _ (by decide) hf
              · exact ff
theorem rParts_res {R : rS → rR} (hR : ∀ s, s.1 ≤ z → rRes z s (R s)) {K i : Nat} {vw : Option (Int32 × Nat)} : ∀ (m k : Nat) (s : rS), s.1 ≤ z → rRes z s (rParts T z R K i vw m k s)
  | 0, _, s, hs => ⟨Nat.le_refl _, hs⟩
  | m + 1, k, s, hs => by
    unfold rParts
    refine rRes.bind (hR s hs) (fun b hb => ?_)
    have hG : rGood z b (rAdd i s.2.1 b) := ⟨Nat.le_refl _, hb.2.1, Nat.le_refl _, Nat.le_refl _⟩
    refine rRes.of hG (rBeh_res hG.2.1 (fun c hc => rParts_res hR m (k + 1) c hc.2.1) (fun c hc => ?_))
    exact ⟨Nat.le_refl _, hc.2.1, Nat.le_refl _, Nat.le_refl _⟩
theorem rDigs_le : ∀ (k p v : Nat), p ≤ z → p ≤ (rDigs T z k p v).1 ∧ (rDigs T z k p v).1 ≤ z
  | 0, p, v, h => ⟨Nat.le_refl _, h⟩
  | k + 1, p, v, h => by
    unfold rDigs
    by_cases q : 48 ≤ rlk T z p ∧ rlk T z p ≤ 57
    · rw [if_pos q]
      have hl := rlk_pos q.1 (by decide)
      obtain ⟨h1, h2⟩ := rDigs_le k (p + 1) (10 * v + (rlk T z p - 48).toNatClampNeg) hl
      exact ⟨by omega, h2⟩
    · rw [if_neg q]
      exact ⟨Nat.le_refl _, h⟩
theorem rDigs_lt {p v : Nat} (q : 48 ≤ rlk T z p ∧ rlk T z p ≤ 57) (k : Nat) : p < (rDigs T z (k + 1) p v).1 ∧ (rDigs T z (k + 1) p v).1 ≤ z := by
  unfold rDigs
  rw [if_pos q]
  have hl := rlk_pos q.1 (by decide)
  obtain ⟨h1, h2⟩ := rDigs_le (T := T) k (p + 1) (10 * v + (rlk T z p - 48).toNatClampNeg) hl
  exact ⟨by omega, h2⟩
end RDG
section RDH
variable {T : Nat → Int32} {z : Nat}
theorem rNode_good {k w q : Nat} {x : Int32} {e : eN} {s : rS} (h1 : s.1 < q) (h2 : q ≤ z) : rGood z s (rGo (rNode k x w e s) q) := ⟨Nat.le_of_lt h1, h2, Nat.le_succ _, by show s.2.1 + 1 + s.1 ≤ s.2.1 + q; omega⟩
theorem rdE_res : ∀ (d : Nat) (s : rS), s.1 ≤ z → rRes z s (rdE T z d s)
  | 0, s, hs => ⟨Nat.le_refl _, hs⟩
  | d + 1, s, hs => by
    have ih : ∀ (K i : Nat) (vw : Option (Int32 × Nat)) (s : rS), s.1 ≤ z → rRes z s (rParts T z (rdE T z d) K i vw 4 0 s) := fun K i vw s hs => rParts_res (rdE_res d) 4 0 s hs
    have il : rRes z s (.inl s.1) := ⟨Nat.le_refl _, hs⟩
    have op : ∀ (c : Int32) (K : Nat) (e : eN), c ≠ 0 → rlk T z s.1 = c → rRes z s (rParts T z (rdE T z d) K s.2.1 none 4 0 (rGo (rNode K 0 s.1 e s) (s.1 + 1))) := fun c K e h0 hc => by
      have hl := rlk_lt hc h0
      exact rRes.of (rNode_good (by omega) (by omega)) (ih _ _ _ _ (by show s.1 + 1 ≤ z; omega))
    have lt : ∀ (c c2 : Int32) (K : Nat) (e : Int32 → eN), c ≠ 0 → c2 ≠ 0 → rlk T z s.1 = c → rRes z s (rLet T z 97 116 (rGo s (s.1 + 1)) fun v s1 => rTake T z c2 s1 fun s2 => rParts T z (rdE T z d) K s.2.1 none 4 0 (rNode K v s.1 (e v) s2)) := fun c c2 K e h0 h2 hc => by
      have hl := rlk_lt hc h0
      unfold rLet rTake
      split
      · rename_i q
        have hq := rlk_pos q.1 (by decide)
        have hq : s.1 + 1 < z := hq
        dsimp only [rGo]
        split
        · rename_i w
          have hw := rlk_lt w h2
          have hw : s.1 + 1 + 1 < z := hw
          refine rRes.of (b := rNode K _ s.1 (e _) (s.1 + 1 + 1 + 1, s.2)) ⟨by show s.1 ≤ s.1 + 1 + 1 + 1; omega, hw, Nat.le_succ _, by show s.2.1 + 1 + s.1 ≤ s.2.1 + (s.1 + 1 + 1 + 1); omega⟩ (ih _ _ _ _ hw)
        · exact ⟨by show s.1 ≤ s.1 + 1 + 1; omega, by show s.1 + 1 + 1 ≤ z; omega⟩
      · exact ⟨by show s.1 ≤ s.1 + 1; omega, by show s.1 + 1 ≤ z; omega⟩
    have lf : ∀ (c : Int32) (K : Nat) (e : Int32 → eN), c ≠ 0 → rlk T z s.1 = c → rRes z s (rLet T z 97 116 (rGo s (s.1 + 1)) fun v s1 => .inr (rNode K v s.1 (e v) s1)) := fun c K e h0 hc => by
      have hl := rlk_lt hc h0
      unfold rLet
      split
      · rename_i q
        have hq := rlk_pos q.1 (by decide)
        have hq : s.1 + 1 < z := hq
        exact ⟨by show s.1 ≤ s.1 + 1 + 1; omega, by show s.1 + 1 + 1 ≤ z; omega, Nat.le_succ _, by show s.2.1 + 1 + s.1 ≤ s.2.1 + (s.1 + 1 + 1); omega⟩
      · exact ⟨by show s.1 ≤ s.1 + 1; omega, by show s.1 + 1 ≤ z; omega⟩
    unfold rdE
    by_cases q : 48 ≤ rlk T z s.1 ∧ rlk T z s.1 ≤ 57
    · rw [if_pos q]
      obtain ⟨h1, h2⟩ := rDigs_lt (v := 0) q 3
      exact rNode_good h1 h2
    rw [if_neg q]
    by_cases q : 97 ≤ rlk T z s.1 ∧ rlk T z s.1 ≤ 116
    · rw [if_pos q]
      have hl := rlk_pos q.1 (by decide)
      by_cases c : rlk T z (s.1 + 1) = 91
      · rw [if_pos c]
        have hc := rlk_lt c (by decide)
        exact rRes.of (rNode_good (by omega) (by omega)) (ih _ _ _ _ (by show s.1 + 2 ≤ z; omega))
      rw [if_neg c]
      by_cases c : rlk T z (s.1 + 1) = 123
      · rw [if_pos c]
        have hc := rlk_lt c (by decide)
        exact rRes.of (rNode_good (by omega) (by omega)) (ih _ _ _ _ (by show s.1 + 2 ≤ z; omega))
      rw [if_neg c]
      exact rNode_good (by omega) (by omega)
    rw [if_neg q]
    by_cases q : 65 ≤ rlk T z s.1 ∧ rlk T z s.1 ≤ 72
    · rw [if_pos q]
      have hl := rlk_pos q.1 (by decide)
      by_cases c : rlk T z (s.1 + 1) = 40
      · rw [if_pos c]
        have hc := rlk_lt c (by decide)
        by_cases c' : rlk T z (s.1 + 2) = 41
        · rw [if_pos c']
          have hc' := rlk_lt c' (by decide)
          exact rNode_good (by omega) (by omega)
        · rw [if_neg c']
          exact rRes.of (rNode_good (by omega) (by omega)) (ih _ _ _ _ (by show s.1 + 2 ≤ z; omega))
      · rw [if_neg c]
        exact ⟨by omega, by omega⟩
    rw [if_neg q]
    by_cases c : rlk T z s.1 = 40
    · rw [if_pos c]
      exact op 40 2 _ (by decide) c
    rw [if_neg c]
    by_cases c : rlk T z s.1 = 63
    · rw [if_pos c]
      exact op 63 3 _ (by decide) c
    rw [if_neg c]
    by_cases c : rlk T z s.1 = 64
    · rw [if_pos c]
      exact op 64 5 _ (by decide) c
    rw [if_neg c]
    by_cases c : rlk T z s.1 = 37
    · rw [if_pos c]
      exact op 37 6 _ (by decide) c
    rw [if_neg c]
    by_cases c : rlk T z s.1 = 38
    · rw [if_pos c]
      exact lt 38 61 4 (fun v => eVar (rE0 4 s.1) v (nI (s.1 + 1))) (by decide) (by decide) c
    rw [if_neg c]
    by_cases c : rlk T z s.1 = 126
    · rw [if_pos c]
      exact lt 126 59 12 (fun v => eVar (rE0 12 s.1) v (nI (s.1 + 1))) (by decide) (by decide) c
    rw [if_neg c]
    by_cases c : rlk T z s.1 = 35
    · rw [if_pos c]
      exact lf 35 9 (fun v => eVar (rE0 9 s.1) v (nI (s.1 + 1))) (by decide) c
    rw [if_neg c]
    by_cases c : rlk T z s.1 = 94
    · rw [if_pos c]
      exact lf 94 10 (fun v => eVar (rE0 10 s.1) v (nI (s.1 + 1))) (by decide) c
    rw [if_neg c]
    by_cases c : rlk T z s.1 = 36
    · rw [if_pos c]
      exact lf 36 11 (fun v => eVar (rE0 11 s.1) v (nI (s.1 + 1))) (by decide) c
    rw [if_neg c]
    exact il
/-- an expression takes one character at least -/
theorem rdE_pos {d : Nat} {s s' : rS} (hs : s.1 ≤ z) (h : rdE T z d s = .inr s') : s.1 ≤ s'.1 ∧ s'.1 ≤ z ∧ s.2.1 ≤ s'.2.1 ∧ s'.2.1 + s.1 ≤ s.2.1 + s'.1 := by
  have := rdE_res (T := T) d s hs
  rw [h] at this
  exact this
end RDH
end
section
/-! E: the expressions' cells: node i at B + 2 i, its parts at B + 2 i + 1 -/
def eCell (B i : Nat) (e : eN) : va_E := .inr (3, [.ref (1000001 + e.1), .int e.2.1, .ref (B + 2 * i + 1), .int (nI e.2.2.2.1), .long e.2.2.2.2.1, .int e.2.2.2.2.2.1, .int e.2.2.2.2.2.2.1, .int e.2.2.2.2.2.2.2.1, .int e.2.2.2.2.2.2.2.2.1, va_rf e.2.2.2.2.2.2.2.2.2])
def eParts (B : Nat) (e : eN) : va_E := .inl (5, 4, .inr (.inr (.inr (.inr (fun k => (e.2.2.1 k).map (fun j => B + 2 * j))))))
def eOv (B N : Nat) (E : Nat → eN) (σ : zS) : zS := fun q => if q < B then σ q else if B + 2 * N ≤ q then σ q else if (q - B) % 2 = 0 then eCell B ((q - B) / 2) (E ((q - B) / 2)) else eParts B (E ((q - B) / 2))
section EST
variable {B N i q : Nat} {E : Nat → eN} {σ : zS} {e : eN}
theorem eOv_lo (h : q < B) : eOv B N E σ q = σ q := if_pos h
theorem eOv_hi (h : B + 2 * N ≤ q) : eOv B N E σ q = σ q := by
  unfold eOv
  rw [if_neg (by omega), if_pos h]
theorem eOv_obj (h : i < N) : eOv B N E σ (B + 2 * i) = eCell B i (E i) := by
  unfold eOv
  have e1 : (B + 2 * i - B) / 2 = i := by omega
  rw [if_neg (by omega), if_neg (by omega), if_pos (by omega), e1]
theorem eOv_prt (h : i < N) : eOv B N E σ (B + 2 * i + 1) = eParts B (E i) := by
  unfold eOv
  have e1 : (B + 2 * i + 1 - B) / 2 = i := by omega
  rw [if_neg (by omega), if_neg (by omega), if_neg (by omega), e1]
theorem eOv_new : va_up (va_up (eOv B N E σ) (B + 2 * N) (eCell B N e)) (B + 2 * N + 1) (eParts B e) = eOv B (N + 1) (va_up E N e) σ := by
  funext q
  by_cases h1 : q = B + 2 * N + 1
  · subst h1
    rw [va_up_self, eOv_prt (Nat.lt_succ_self N), va_up_self]
  · rw [va_up_ne _ _ h1]
    by_cases h2 : q = B + 2 * N
    · subst h2
      rw [va_up_self, eOv_obj (Nat.lt_succ_self N), va_up_self]
    · rw [va_up_ne _ _ h2]
      unfold eOv
      by_cases h3 : q < B
      · rw [if_pos h3, if_pos h3]
      · rw [if_neg h3, if_neg h3]
        by_cases h4 : B + 2 * N ≤ q
        · rw [if_pos h4, if_pos (show B + 2 * (N + 1) ≤ q by omega)]
        · rw [if_neg h4, if_neg (show ¬ B + 2 * (N + 1) ≤ q by omega), va_up_ne _ _ (show ¬ (q - B) / 2 = N by omega)]
theorem eOv_upO {e' : eN} (h : i < N) (hp : e'.2.2.1 = (E i).2.2.1) : va_up (eOv B N E σ) (B + 2 * i) (eCell B i e') = eOv B N (va_up E i e') σ := by
  funext q
  by_cases h1 : q = B + 2 * i
  · subst h1
    rw [va_up_self, eOv_obj h, va_up_self]
  · rw [va_up_ne _ _ h1]
    by_cases h2 : q = B + 2 * i + 1
    · subst h2
      rw [eOv_prt h, eOv_prt h, va_up_self]
      unfold eParts
      rw [hp]
    · unfold eOv
      by_cases h3 : q < B
      · rw [if_pos h3, if_pos h3]
      · rw [if_neg h3, if_neg h3]
        by_cases h4 : B + 2 * N ≤ q
        · rw [if_pos h4, if_pos h4]
        · rw [if_neg h4, if_neg h4, va_up_ne _ _ (by omega)]
theorem eOv_upP {e' : eN} (h : i < N) (hp : eCell B i e' = eCell B i (E i)) : va_up (eOv B N E σ) (B + 2 * i + 1) (eParts B e') = eOv B N (va_up E i e') σ := by
  funext q
  by_cases h1 : q = B + 2 * i + 1
  · subst h1
    rw [va_up_self, eOv_prt h, va_up_self]
  · rw [va_up_ne _ _ h1]
    by_cases h2 : q = B + 2 * i
    · subst h2
      rw [eOv_obj h, eOv_obj h, va_up_self, hp]
    · unfold eOv
      by_cases h3 : q < B
      · rw [if_pos h3, if_pos h3]
      · rw [if_neg h3, if_neg h3]
        by_cases h4 : B + 2 * N ≤ q
        · rw [if_pos h4, if_pos h4]
        · rw [if_neg h4, if_neg h4, va_up_ne _ _ (by omega)]
theorem eOv_low {x : va_E} (h : q < B) : va_up (eOv B N E σ) q x = eOv B N E (va_up σ q x) := by
  funext j
  by_cases h1 : j = q
  · subst h1
    rw [va_up_self, eOv_lo h, va_up_self]
  · rw [va_up_ne _ _ h1]
    unfold eOv
    rw [va_up_ne _ _ h1]
end EST
end
section
theorem d_R_take_0 : decode b_R_take 0 = .ok (.aload_n 0, 1) := by decide +kernel
theorem d_R_take_1 : decode b_R_take 1 = .ok (.invokevirtual 39, 3) := by decide +kernel
theorem d_R_take_4 : decode b_R_take 4 = .ok (.iload_n 1, 1) := by decide +kernel
theorem d_R_take_5 : decode b_R_take 5 = .ok (.if_icmp .eq 14, 3) := by decide +kernel
theorem d_R_take_8 : decode b_R_take 8 = .ok (.aload_n 0, 1) := by decide +kernel
theorem d_R_take_9 : decode b_R_take 9 = .ok (.getfield 22, 3) := by decide +kernel
theorem d_R_take_12 : decode b_R_take 12 = .ok (.aload_n 0, 1) := by decide +kernel
theorem d_R_take_13 : decode b_R_take 13 = .ok (.getfield 9, 3) := by decide +kernel
theorem d_R_take_16 : decode b_R_take 16 = .ok (.invokevirtual 61, 3) := by decide +kernel
theorem d_R_take_19 : decode b_R_take 19 = .ok (.aload_n 0, 1) := by decide +kernel
theorem d_R_take_20 : decode b_R_take 20 = .ok (.dup, 1) := by decide +kernel
theorem d_R_take_21 : decode b_R_take 21 = .ok (.getfield 9, 3) := by decide +kernel
theorem d_R_take_24 : decode b_R_take 24 = .ok (.iconst 1, 1) := by decide +kernel
theorem d_R_take_25 : decode b_R_take 25 = .ok (.iadd, 1) := by decide +kernel
theorem d_R_take_26 : decode b_R_take 26 = .ok (.putfield 9, 3) := by decide +kernel
theorem d_R_take_29 : decode b_R_take 29 = .ok (.return_, 1) := by decide +kernel
theorem d_R_takeCommaBefore_0 : decode b_R_takeCommaBefore 0 = .ok (.iload_n 1, 1) := by decide +kernel
theorem d_R_takeCommaBefore_1 : decode b_R_takeCommaBefore 1 = .ok (.ifCond .le 9, 3) := by decide +kernel
theorem d_R_takeCommaBefore_4 : decode b_R_takeCommaBefore 4 = .ok (.aload_n 0, 1) := by decide +kernel
theorem d_R_takeCommaBefore_5 : decode b_R_takeCommaBefore 5 = .ok (.bipush 44, 2) := by decide +kernel
theorem d_R_takeCommaBefore_7 : decode b_R_takeCommaBefore 7 = .ok (.invokevirtual 35, 3) := by decide +kernel
theorem d_R_takeCommaBefore_10 : decode b_R_takeCommaBefore 10 = .ok (.return_, 1) := by decide +kernel
theorem d_R_refuse_0 : decode b_R_refuse 0 = .ok (.aload_n 0, 1) := by decide +kernel
theorem d_R_refuse_1 : decode b_R_refuse 1 = .ok (.getfield 22, 3) := by decide +kernel
theorem d_R_refuse_4 : decode b_R_refuse 4 = .ok (.aload_n 0, 1) := by decide +kernel
theorem d_R_refuse_5 : decode b_R_refuse 5 = .ok (.getfield 9, 3) := by decide +kernel
theorem d_R_refuse_8 : decode b_R_refuse 8 = .ok (.invokevirtual 61, 3) := by decide +kernel
theorem d_R_refuse_11 : decode b_R_refuse 11 = .ok (.aconst_null, 1) := by decide +kernel
theorem d_R_refuse_12 : decode b_R_refuse 12 = .ok (.areturn, 1) := by decide +kernel
theorem d_E_init_0 : decode b_E_init 0 = .ok (.aload_n 0, 1) := by decide +kernel
theorem d_E_init_1 : decode b_E_init 1 = .ok (.invokespecial 3, 3) := by decide +kernel
theorem d_E_init_4 : decode b_E_init 4 = .ok (.aload_n 0, 1) := by decide +kernel
theorem d_E_init_5 : decode b_E_init 5 = .ok (.iconst 4, 1) := by decide +kernel
theorem d_E_init_6 : decode b_E_init 6 = .ok (.anewarray 9, 3) := by decide +kernel
theorem d_E_init_9 : decode b_E_init 9 = .ok (.putfield 11, 3) := by decide +kernel
theorem d_E_init_12 : decode b_E_init 12 = .ok (.aload_n 0, 1) := by decide +kernel
theorem d_E_init_13 : decode b_E_init 13 = .ok (.iconst 0, 1) := by decide +kernel
theorem d_E_init_14 : decode b_E_init 14 = .ok (.putfield 15, 3) := by decide +kernel
theorem d_E_init_17 : decode b_E_init 17 = .ok (.aload_n 0, 1) := by decide +kernel
theorem d_E_init_18 : decode b_E_init 18 = .ok (.lconst 0, 1) := by decide +kernel
theorem d_E_init_19 : decode b_E_init 19 = .ok (.putfield 19, 3) := by decide +kernel
theorem d_E_init_22 : decode b_E_init 22 = .ok (.aload_n 0, 1) := by decide +kernel
theorem d_E_init_23 : decode b_E_init 23 = .ok (.bipush 32, 2) := by decide +kernel
theorem d_E_init_25 : decode b_E_init 25 = .ok (.putfield 23, 3) := by decide +kernel
theorem d_E_init_28 : decode b_E_init 28 = .ok (.aload_n 0, 1) := by decide +kernel
theorem d_E_init_29 : decode b_E_init 29 = .ok (.iconst 0, 1) := by decide +kernel
theorem d_E_init_30 : decode b_E_init 30 = .ok (.putfield 27, 3) := by decide +kernel
theorem d_E_init_33 : decode b_E_init 33 = .ok (.aload_n 0, 1) := by decide +kernel
theorem d_E_init_34 : decode b_E_init 34 = .ok (.iconst 0, 1) := by decide +kernel
theorem d_E_init_35 : decode b_E_init 35 = .ok (.putfield 30, 3) := by decide +kernel
theorem d_E_init_38 : decode b_E_init 38 = .ok (.aload_n 0, 1) := by decide +kernel
theorem d_E_init_39 : decode b_E_init 39 = .ok (.iconst 0, 1) := by decide +kernel
theorem d_E_init_40 : decode b_E_init 40 = .ok (.putfield 33, 3) := by decide +kernel
theorem d_E_init_43 : decode b_E_init 43 = .ok (.aload_n 0, 1) := by decide +kernel
theorem d_E_init_44 : decode b_E_init 44 = .ok (.aconst_null, 1) := by decide +kernel
theorem d_E_init_45 : decode b_E_init 45 = .ok (.putfield 36, 3) := by decide +kernel
theorem d_E_init_48 : decode b_E_init 48 = .ok (.aload_n 0, 1) := by decide +kernel
theorem d_E_init_49 : decode b_E_init 49 = .ok (.aload_n 1, 1) := by decide +kernel
theorem d_E_init_50 : decode b_E_init 50 = .ok (.putfield 40, 3) := by decide +kernel
theorem d_E_init_53 : decode b_E_init 53 = .ok (.aload_n 0, 1) := by decide +kernel
theorem d_E_init_54 : decode b_E_init 54 = .ok (.iload_n 2, 1) := by decide +kernel
theorem d_E_init_55 : decode b_E_init 55 = .ok (.putfield 44, 3) := by decide +kernel
theorem d_E_init_58 : decode b_E_init 58 = .ok (.return_, 1) := by decide +kernel
theorem d_E_add_0 : decode b_E_add 0 = .ok (.aload_n 0, 1) := by decide +kernel
theorem d_E_add_1 : decode b_E_add 1 = .ok (.getfield 15, 3) := by decide +kernel
theorem d_E_add_4 : decode b_E_add 4 = .ok (.iconst 4, 1) := by decide +kernel
theorem d_E_add_5 : decode b_E_add 5 = .ok (.if_icmp .ge 23, 3) := by decide +kernel
theorem d_E_add_8 : decode b_E_add 8 = .ok (.aload_n 0, 1) := by decide +kernel
theorem d_E_add_9 : decode b_E_add 9 = .ok (.getfield 11, 3) := by decide +kernel
theorem d_E_add_12 : decode b_E_add 12 = .ok (.aload_n 0, 1) := by decide +kernel
theorem d_E_add_13 : decode b_E_add 13 = .ok (.getfield 15, 3) := by decide +kernel
theorem d_E_add_16 : decode b_E_add 16 = .ok (.aload_n 1, 1) := by decide +kernel
theorem d_E_add_17 : decode b_E_add 17 = .ok (.aastore, 1) := by decide +kernel
theorem d_E_add_18 : decode b_E_add 18 = .ok (.aload_n 0, 1) := by decide +kernel
theorem d_E_add_19 : decode b_E_add 19 = .ok (.dup, 1) := by decide +kernel
theorem d_E_add_20 : decode b_E_add 20 = .ok (.getfield 15, 3) := by decide +kernel
theorem d_E_add_23 : decode b_E_add 23 = .ok (.iconst 1, 1) := by decide +kernel
theorem d_E_add_24 : decode b_E_add 24 = .ok (.iadd, 1) := by decide +kernel
theorem d_E_add_25 : decode b_E_add 25 = .ok (.putfield 15, 3) := by decide +kernel
theorem d_E_add_28 : decode b_E_add 28 = .ok (.return_, 1) := by decide +kernel
theorem cl_E_9 : Cond.classLink "SoleArrays$Expression" 9 "SoleArrays$Expression" ∈ zTb := zt2 166 (by decide +kernel) rfl
theorem va_comm {α : Type} (f : Nat → α) {i j : Nat} (a b : α) (h : i ≠ j) : va_up (va_up f i a) j b = va_up (va_up f j b) i a := by
  funext k
  by_cases h1 : k = i
  · subst h1
    rw [va_up_self, va_up_ne _ _ h, va_up_self]
  · rw [va_up_ne (va_up f j b) a h1]
    by_cases h2 : k = j
    · subst h2; rw [va_up_self, va_up_self]
    · rw [va_up_ne _ _ h2, va_up_ne _ _ h2, va_up_ne _ _ h1]
section EX
variable {G : zG} {l : Launch} {n r p z B N : Nat} {σ : zS} {xs : mS} {xr : Int64} {xa : mA} {xl : mL} {xf : xF} {E : Nat → eN}
theorem c_R_take (hn : 85 ≤ n) (hn2 : n < 1000000) (hr : 85 ≤ r) (hrn : r < n) (hrd0 : σ r = rdC p z) (hz : z ≤ 150) (hp : p ≤ 150) (hc : ∀ i, i < 150 → narrow .char (.int (xa 1 i)) = .int (xa 1 i)) (c : Int32) {mc ms : Nat} (hm : xlk xa p z ≠ c → 1 ≤ mc ∧ 6 ≤ ms) : MetZ G l y_R_take b_R_take 2 none [] 7 mc ms [.ref r, .int c] n (xOv xs xr xa xl xf σ)
    (fun o n' σ' => (xlk xa p z = c ∧ o = .returned none ∧ n' = n ∧ σ' = xOv xs xr xa xl xf (va_up σ r (rdC (p + 1) z))) ∨ (xlk xa p z ≠ c ∧ o = .threw n ∧ n' = n + 1 ∧ σ' = xOv (upd xs 4 (nI p)) xr xa xl xf (va_up σ n (.inr (9, []))))) := by
  have hrd : xOv xs xr xa xl xf σ r = .inr (4, [.ref 1, .int (nI z), .ref 2, .int (nI p)]) := (xOv_at hr).trans hrd0
  refine MetZ.of (by decide) (Nat.le_of_ble_eq_true rfl) (fun K hK hR hpo hmc hms C => ?_)
  refine z_aload_n C 1 d_R_take_0 rfl rfl ?_
  refine z_call C 4 (c_R_next hn hr hrn hrd0 hz hp hc) w_R_next ini_R d_R_take_1 rfl (z_goV (As := []) C l_R_39 w_R_next d_R_take_1 (by omega) (hrd) rfl rfl) (Nat.le_of_ble_eq_true rfl) (by rw [hR]; simp only [zRm]; omega) (by rw [hR]; simp only [zRm]; omega) (by rw [hR]; simp only [zRm]; omega) (by rw [hR]; simp only [zRm]; omega) (fun v n' σ' hv => ?_) (fun x n' σ' hv => ?_)
  · obtain ⟨e0, e1, rfl⟩ := hv
    cases e0
    obtain rfl : n = n' := e1.symm
    refine z_iload_n C 5 d_R_take_4 rfl rfl ?_
    refine z_icmp_eq C 8 19 d_R_take_5 rfl (by decide) (fun h1 => ?_) (fun h1 => ?_)
    · refine z_aload_n C 20 d_R_take_19 rfl rfl ?_
      refine z_dup C 21 d_R_take_20 rfl rfl ?_
      refine z_get C 24 f_R_9 d_R_take_21 rfl (by omega) hrd rfl ?_
      refine z_iconst C 25 d_R_take_24 rfl 1 (by decide) ?_
      refine z_iadd C 26 d_R_take_25 rfl ?_
      refine z_put C 29 p_R_9 d_R_take_26 rfl hrn hrd (z_ltb rfl) rfl rfl ?_
      exact z_vret C rfl d_R_take_29 (by rw [hpo]; exact Or.inl ⟨h1, rfl, rfl, by rw [xOv_up hr]; show xOv _ _ _ _ _ (va_up σ r (.inr (4, [.ref 1, .int (nI z), .ref 2, .int (nI p + 1)]))) = _; rw [nI_1]; rfl⟩) (by rw [hmc]; omega) (by rw [hms]; omega)
    · have hm' := hm h1
      refine z_aload_n C 9 d_R_take_8 rfl rfl ?_
      refine z_get C 12 f_R_22 d_R_take_9 rfl (by omega) hrd rfl ?_
      refine z_aload_n C 13 d_R_take_12 rfl rfl ?_
      refine z_get C 16 f_R_9 d_R_take_13 rfl (by omega) hrd rfl ?_
      refine z_call C 19 (c_T_ill hn hn2 (nI p)) w_T_ill ini_T d_R_take_16 rfl (z_goV (As := [.int (nI p)]) C l_R_61 w_T_ill d_R_take_16 (by omega) rfl rfl rfl) (Nat.le_of_ble_eq_true rfl) (by rw [hR]; simp only [zRm]; omega) (by rw [hR]; simp only [zRm]; omega) (by rw [hR]; simp only [zRm]; omega) (by rw [hR]; simp only [zRm]; omega) (fun v n' σ' hv => ?_) (fun x n' σ' hv => ?_)
      · cases hv.1
      · obtain ⟨e0, rfl, rfl⟩ := hv
        cases e0
        exact zx_out C (fun h hh => nomatch hh) (by rw [hpo]; exact Or.inr ⟨h1, rfl, rfl, rfl⟩) (by rw [hmc]; omega) (by rw [hms]; omega)
  · cases hv.1
theorem c_R_nextIsOneOf (hn : 85 ≤ n) (hr : 85 ≤ r) (hrn : r < n) (hrd0 : σ r = rdC p z) (hz : z ≤ 150) (hp : p ≤ 150) (hc : ∀ i, i < 150 → narrow .char (.int (xa 1 i)) = .int (xa 1 i)) (lo hi : Int32) : MetZ G l y_R_nextIsOneOf b_R_nextIsOneOf 3 (some .boolean) [] 1 0 0 [.ref r, .int lo, .int hi] n (xOv xs xr xa xl xf σ)
    (fun o n' σ' => o = .returned (some (.int (if lo ≤ xlk xa p z ∧ xlk xa p z ≤ hi then 1 else 0))) ∧ n' = n ∧ σ' = xOv xs xr xa xl xf σ) := by
  have hrd : xOv xs xr xa xl xf σ r = .inr (4, [.ref 1, .int (nI z), .ref 2, .int (nI p)]) := (xOv_at hr).trans hrd0
  refine MetZ.of (by decide) (Nat.le_of_ble_eq_true rfl) (fun K hK hR hpo hmc hms C => ?_)
  refine z_aload_n C 1 d_R_nextIsOneOf_0 rfl rfl ?_
  refine z_call C 4 (c_R_next hn hr hrn hrd0 hz hp hc) w_R_next ini_R d_R_nextIsOneOf_1 rfl (z_goV (As := []) C l_R_39 w_R_next d_R_nextIsOneOf_1 (by omega) (hrd) rfl rfl) (Nat.le_of_ble_eq_true rfl) (by rw [hR]; simp only [zRm]; omega) (by rw [hR]; simp only [zRm]; omega) (by rw [hR]; simp only [zRm]; omega) (by rw [hR]; simp only [zRm]; omega) (fun v n' σ' hv => ?_) (fun x n' σ' hv => ?_)
  · obtain ⟨e0, e1, rfl⟩ := hv
    cases e0
    obtain rfl : n = n' := e1.symm
    refine z_iload_n C 5 d_R_nextIsOneOf_4 rfl rfl ?_
    refine z_icmp_lt C 8 20 d_R_nextIsOneOf_5 rfl (by decide) (fun h1 => ?_) (fun h1 => ?_)
    · refine z_iconst C 21 d_R_nextIsOneOf_20 rfl 0 (by decide) ?_
      exact z_zret C rfl (rfl) d_R_nextIsOneOf_21 (by rw [hpo]; exact ⟨by rw [if_neg (fun q => Int32.not_le.mpr h1 q.1)], rfl, rfl⟩) (by rw [hmc]; omega) (by rw [hms]; omega)
    refine z_aload_n C 9 d_R_nextIsOneOf_8 rfl rfl ?_
    refine z_call C 12 (c_R_next hn hr hrn hrd0 hz hp hc) w_R_next ini_R d_R_nextIsOneOf_9 rfl (z_goV (As := []) C l_R_39 w_R_next d_R_nextIsOneOf_9 (by omega) (hrd) rfl rfl) (Nat.le_of_ble_eq_true rfl) (by rw [hR]; simp only [zRm]; omega) (by rw [hR]; simp only [zRm]; omega) (by rw [hR]; simp only [zRm]; omega) (by rw [hR]; simp only [zRm]; omega) (fun v n' σ' hv => ?_) (fun x n' σ' hv => ?_)
    · obtain ⟨e0, e1, rfl⟩ := hv
      cases e0
      obtain rfl : n = n' := e1.symm
      refine z_iload_n C 13 d_R_nextIsOneOf_12 rfl rfl ?_
      refine z_icmp_gt C 16 20 d_R_nextIsOneOf_13 rfl (by decide) (fun h2 => ?_) (fun h2 => ?_)
      · refine z_iconst C 21 d_R_nextIsOneOf_20 rfl 0 (by decide) ?_
        exact z_zret C rfl (rfl) d_R_nextIsOneOf_21 (by rw [hpo]; exact ⟨by rw [if_neg (fun q => Int32.not_le.mpr h2 q.2)], rfl, rfl⟩) (by rw [hmc]; omega) (by rw [hms]; omega)
      · refine z_iconst C 17 d_R_nextIsOneOf_16 rfl 1 (by decide) ?_
        refine z_goto C 21 d_R_nextIsOneOf_17 (by decide) ?_
        exact z_zret C rfl (rfl) d_R_nextIsOneOf_21 (by rw [hpo]; exact ⟨by rw [if_pos ⟨Int32.not_lt.mp h1, Int32.not_lt.mp h2⟩], rfl, rfl⟩) (by rw [hmc]; omega) (by rw [hms]; omega)
    · cases hv.1
  · cases hv.1
theorem c_R_refuse (hn : 85 ≤ n) (hn2 : n < 1000000) (hr : 85 ≤ r) (hrn : r < n) (hrd0 : σ r = rdC p z) : MetZ G l y_R_refuse b_R_refuse 1 (some (.object "SoleArrays$Expression")) [] 7 1 6 [.ref r] n (xOv xs xr xa xl xf σ)
    (fun o n' σ' => o = .threw n ∧ n' = n + 1 ∧ σ' = xOv (upd xs 4 (nI p)) xr xa xl xf (va_up σ n (.inr (9, [])))) := by
  have hrd : xOv xs xr xa xl xf σ r = .inr (4, [.ref 1, .int (nI z), .ref 2, .int (nI p)]) := (xOv_at hr).trans hrd0
  refine MetZ.of (by decide) (Nat.le_of_ble_eq_true rfl) (fun K hK hR hpo hmc hms C => ?_)
  refine z_aload_n C 1 d_R_refuse_0 rfl rfl ?_
  refine z_get C 4 f_R_22 d_R_refuse_1 rfl (by omega) hrd rfl ?_
  refine z_aload_n C 5 d_R_refuse_4 rfl rfl ?_
  refine z_get C 8 f_R_9 d_R_refuse_5 rfl (by omega) hrd rfl ?_
  refine z_call C 11 (c_T_ill hn hn2 (nI p)) w_T_ill ini_T d_R_refuse_8 rfl (z_goV (As := [.int (nI p)]) C l_R_61 w_T_ill d_R_refuse_8 (by omega) rfl rfl rfl) (Nat.le_of_ble_eq_true rfl) (by rw [hR]; simp only [zRm]; omega) (by rw [hR]; simp only [zRm]; omega) (by rw [hR]; simp only [zRm]; omega) (by rw [hR]; simp only [zRm]; omega) (fun v n' σ' hv => ?_) (fun x n' σ' hv => ?_)
  · cases hv.1
  · obtain ⟨e0, rfl, rfl⟩ := hv
    cases e0
    exact zx_out C (fun h hh => nomatch hh) (by rw [hpo]; exact ⟨rfl, rfl, rfl⟩) (by rw [hmc]; omega) (by rw [hms]; omega)
theorem c_R_takeCommaBefore (hn : 85 ≤ n) (hn2 : n < 1000000) (hr : 85 ≤ r) (hrn : r < n) (hrd0 : σ r = rdC p z) (hz : z ≤ 150) (hp : p ≤ 150) (hc : ∀ i, i < 150 → narrow .char (.int (xa 1 i)) = .int (xa 1 i)) {k : Nat} (hk : k < 5) {mc ms : Nat} (hm : 0 < k → xlk xa p z ≠ 44 → 1 ≤ mc ∧ 6 ≤ ms) : MetZ G l y_R_takeCommaBefore b_R_takeCommaBefore 2 none [] 8 mc ms [.ref r, .int (nI k)] n (xOv xs xr xa xl xf σ)
    (fun o n' σ' => (k = 0 ∧ o = .returned none ∧ n' = n ∧ σ' = xOv xs xr xa xl xf σ) ∨ (0 < k ∧ xlk xa p z = 44 ∧ o = .returned none ∧ n' = n ∧ σ' = xOv xs xr xa xl xf (va_up σ r (rdC (p + 1) z))) ∨ (0 < k ∧ xlk xa p z ≠ 44 ∧ o = .threw n ∧ n' = n + 1 ∧ σ' = xOv (upd xs 4 (nI p)) xr xa xl xf (va_up σ n (.inr (9, []))))) := by
  have hrd : xOv xs xr xa xl xf σ r = .inr (4, [.ref 1, .int (nI z), .ref 2, .int (nI p)]) := (xOv_at hr).trans hrd0
  refine MetZ.of (by decide) (Nat.le_of_ble_eq_true rfl) (fun K hK hR hpo hmc hms C => ?_)
  refine z_iload_n C 1 d_R_takeCommaBefore_0 rfl rfl ?_
  refine z_if_le C 4 10 d_R_takeCommaBefore_1 rfl (by decide) (fun h1 => ?_) (fun h1 => ?_)
  · have hk0 : k = 0 := Decidable.byContradiction fun q => nI_nle (by omega) (by omega) h1
    exact z_vret C rfl d_R_takeCommaBefore_10 (by rw [hpo]; exact Or.inl ⟨hk0, rfl, rfl, rfl⟩) (by rw [hmc]; omega) (by rw [hms]; omega)
  · have hk0 : 0 < k := Nat.pos_of_ne_zero fun q => h1 (by rw [q]; decide)
    refine z_aload_n C 5 d_R_takeCommaBefore_4 rfl rfl ?_
    refine z_bipush C 7 d_R_takeCommaBefore_5 rfl 44 (by decide) ?_
    refine z_call C 10 (c_R_take hn hn2 hr hrn hrd0 hz hp hc 44 (mc := mc) (ms := ms) (hm hk0)) w_R_take ini_R d_R_takeCommaBefore_7 rfl (z_goV (As := [.int 44]) C l_R_35 w_R_take d_R_takeCommaBefore_7 (by omega) (hrd) rfl rfl) (Nat.le_of_ble_eq_true rfl) (by rw [hR]; simp only [zRm]; omega) (by rw [hR]; simp only [zRm]; omega) (by rw [hR]; simp only [zRm]; omega) (by rw [hR]; simp only [zRm]; omega) (fun v n' σ' hv => ?_) (fun x n' σ' hv => ?_)
    · rcases hv with ⟨h2, e0, rfl, rfl⟩ | ⟨-, e0, -⟩
      · cases e0
        exact z_vret C rfl d_R_takeCommaBefore_10 (by rw [hpo]; exact Or.inr (Or.inl ⟨hk0, h2, rfl, rfl, rfl⟩)) (by rw [hmc]; omega) (by rw [hms]; omega)
      · cases e0
    · rcases hv with ⟨-, e0, -⟩ | ⟨h2, e0, rfl, rfl⟩
      · cases e0
      · cases e0
        exact zx_out C (fun h hh => nomatch hh) (by rw [hpo]; exact Or.inr (Or.inr ⟨hk0, h2, rfl, rfl, rfl⟩)) (by rw [hmc]; omega) (by rw [hms]; omega)
/-- an expression as it is made -/
def eNew (k : Nat) (w : Int32) : eN := (k, w, fun _ => none, 0, 0, 32, 0, 0, 0, none)
theorem c_E_init (hB : 85 ≤ B) (hn2 : B + 2 * N + 1 < 1000000) (k : Nat) (w : Int32) : MetZ G l y_E_init b_E_init 3 none [] 1 1 4 [.ref (B + 2 * N), .ref (1000001 + k), .int w] (B + 2 * N + 1) (va_up (xOv xs xr xa xl xf (eOv B N E σ)) (B + 2 * N) (.inr (3, [.null, .int 0, .null, .int 0, .long 0, .int 0, .int 0, .int 0, .int 0, .null])))
    (fun o n' σ' => o = .returned none ∧ n' = B + 2 * N + 2 ∧ σ' = xOv xs xr xa xl xf (eOv B (N + 1) (va_up E N (eNew k w)) σ)) := by
  refine MetZ.of (by decide) (Nat.le_of_ble_eq_true rfl) (fun K hK hR hpo hmc hms C => ?_)
  refine z_aload_n C 1 d_E_init_0 rfl rfl ?_
  refine z_objinit C 4 d_E_init_1 rfl o_E_3 i_obj w_obj (by rw [hR]; decide) (by rw [hR]; decide) ?_
  refine z_aload_n C 5 d_E_init_4 rfl rfl ?_
  refine z_iconst C 6 d_E_init_5 rfl 4 (by decide) ?_
  refine z_anew C 9 (t := 5) 4 rfl cl_E_9 ao_exp d_E_init_6 rfl (by decide) (by decide) (by decide) hn2 (by rw [hR]; simp only [zRm]; omega) (by rw [hR]; simp only [zRm]; omega) ?_
  rw [va_comm _ _ _ (by omega)]
  refine z_putFS C 12 q_E_11 rfl d_E_init_9 rfl (by omega) (z_ltb rfl) rfl rfl ?_
  refine z_aload_n C 13 d_E_init_12 rfl rfl ?_
  refine z_iconst C 14 d_E_init_13 rfl 0 (by decide) ?_
  refine z_putS C 17 p_E_15 d_E_init_14 rfl (by omega) (z_ltb rfl) rfl rfl ?_
  refine z_aload_n C 18 d_E_init_17 rfl rfl ?_
  refine z_lconst C 19 d_E_init_18 rfl 0 (by decide) ?_
  refine z_putS C 22 p_E_19 d_E_init_19 rfl (by omega) (z_ltb rfl) rfl rfl ?_
  refine z_aload_n C 23 d_E_init_22 rfl rfl ?_
  refine z_bipush C 25 d_E_init_23 rfl 32 (by decide) ?_
  refine z_putS C 28 p_E_23 d_E_init_25 rfl (by omega) (z_ltb rfl) rfl rfl ?_
  refine z_aload_n C 29 d_E_init_28 rfl rfl ?_
  refine z_iconst C 30 d_E_init_29 rfl 0 (by decide) ?_
  refine z_putS C 33 p_E_27 d_E_init_30 rfl (by omega) (z_ltb rfl) rfl rfl ?_
  refine z_aload_n C 34 d_E_init_33 rfl rfl ?_
  refine z_iconst C 35 d_E_init_34 rfl 0 (by decide) ?_
  refine z_putS C 38 p_E_30 d_E_init_35 rfl (by omega) (z_ltb rfl) rfl rfl ?_
  refine z_aload_n C 39 d_E_init_38 rfl rfl ?_
  refine z_iconst C 40 d_E_init_39 rfl 0 (by decide) ?_
  refine z_putS C 43 p_E_33 d_E_init_40 rfl (by omega) (z_ltb rfl) rfl rfl ?_
  refine z_aload_n C 44 d_E_init_43 rfl rfl ?_
  refine z_null C 45 d_E_init_44 rfl ?_
  refine z_putS C 48 p_E_36 d_E_init_45 rfl (by omega) (z_ltb rfl) rfl rfl ?_
  refine z_aload_n C 49 d_E_init_48 rfl rfl ?_
  refine z_aload_n C 50 d_E_init_49 rfl rfl ?_
  refine z_putFS C 53 q_E_40 rfl d_E_init_50 rfl (by omega) (z_ltb rfl) rfl rfl ?_
  refine z_aload_n C 54 d_E_init_53 rfl rfl ?_
  refine z_iload_n C 55 d_E_init_54 rfl rfl ?_
  refine z_putFS C 58 q_E_44 rfl d_E_init_55 rfl (by omega) (z_ltb rfl) rfl rfl ?_
  exact z_vret C rfl d_E_init_58 (by rw [hpo]; exact ⟨rfl, rfl, by rw [← va_comm _ _ _ (by omega), xOv_up (by omega), xOv_up (by omega), ← eOv_new]; rfl⟩) (by rw [hmc]; omega) (by rw [hms]; omega)
theorem c_E_add {i j k : Nat} (hB : 85 ≤ B) (hn : n = B + 2 * N) (hi : i < N) (hj : j < N) (hk : (E i).2.2.2.1 = k) (hk4 : k < 4) : MetZ G l y_E_add b_E_add 2 none [] 0 0 0 [.ref (B + 2 * i), .ref (B + 2 * j)] n (xOv xs xr xa xl xf (eOv B N E σ))
    (fun o n' σ' => o = .returned none ∧ n' = n ∧ σ' = xOv xs xr xa xl xf (eOv B N (va_up E i (eAdd (E i) j)) σ)) := by
  have ho : xOv xs xr xa xl xf (eOv B N E σ) (B + 2 * i) = eCell B i (E i) := (xOv_at (by omega)).trans (eOv_obj hi)
  have hp : xOv xs xr xa xl xf (eOv B N E σ) (B + 2 * i + 1) = eParts B (E i) := (xOv_at (by omega)).trans (eOv_prt hi)
  have hj2 : xOv xs xr xa xl xf (eOv B N E σ) (B + 2 * j) = eCell B j (E j) := (xOv_at (by omega)).trans (eOv_obj hj)
  subst hk
  refine MetZ.of (by decide) (Nat.le_of_ble_eq_true rfl) (fun K hK hR hpo hmc hms C => ?_)
  refine z_aload_n C 1 d_E_add_0 rfl rfl ?_
  refine z_get C 4 f_E_15 d_E_add_1 rfl (by omega) ho rfl ?_
  refine z_iconst C 5 d_E_add_4 rfl 4 (by decide) ?_
  refine z_icmp_ge C 8 28 d_E_add_5 rfl (by decide) (fun h9 => absurd h9 (fun q => absurd ((nI_leI (a := 4) (by omega) (by omega)).mp q) (by omega))) (fun _ => ?_)
  refine z_aload_n C 9 d_E_add_8 rfl rfl ?_
  refine z_get C 12 f_E_11 d_E_add_9 rfl (by omega) ho rfl ?_
  refine z_aload_n C 13 d_E_add_12 rfl rfl ?_
  refine z_get C 16 f_E_15 d_E_add_13 rfl (by omega) ho rfl ?_
  refine z_aload_n C 17 d_E_add_16 rfl rfl ?_
  refine z_aast C 18 (t := 5) (E i).2.2.2.1 d_E_add_17 rfl (by omega) hp rfl (by omega) hj2 rfl rfl hk4 (by decide) ?_
  have e1 : va_up (xOv xs xr xa xl xf (eOv B N E σ)) (B + 2 * i + 1) (.inl (5, 4, .inr (.inr (.inr (.inr (va_up (fun k => ((E i).2.2.1 k).map (fun j => B + 2 * j)) (E i).2.2.2.1 (some (B + 2 * j)))))))) = xOv xs xr xa xl xf (eOv B N (va_up E i ((E i).1, (E i).2.1, va_up (E i).2.2.1 (E i).2.2.2.1 (some j), (E i).2.2.2)) σ) := by
    rw [xOv_up (by omega), ← eOv_upP (e' := ((E i).1, (E i).2.1, va_up (E i).2.2.1 (E i).2.2.2.1 (some j), (E i).2.2.2)) hi rfl]
    congr 2
    show _ = (.inl (5, 4, .inr (.inr (.inr (.inr (fun k => (va_up (E i).2.2.1 (E i).2.2.2.1 (some j) k).map (fun j => B + 2 * j)))))) : va_E)
    congr 7
    funext q
    by_cases w : q = (E i).2.2.2.1
    · subst w; rw [va_up_self, va_up_self]; rfl
    · rw [va_up_ne _ _ w, va_up_ne _ _ w]
  rw [e1]
  have ho2 : xOv xs xr xa xl xf (eOv B N (va_up E i ((E i).1, (E i).2.1, va_up (E i).2.2.1 (E i).2.2.2.1 (some j), (E i).2.2.2)) σ) (B + 2 * i) = eCell B i ((E i).1, (E i).2.1, va_up (E i).2.2.1 (E i).2.2.2.1 (some j), (E i).2.2.2) := (xOv_at (by omega)).trans ((eOv_obj hi).trans (by rw [va_up_self]))
  refine z_aload_n C 19 d_E_add_18 rfl rfl ?_
  refine z_dup C 20 d_E_add_19 rfl rfl ?_
  refine z_get C 23 f_E_15 d_E_add_20 rfl (by omega) ho2 rfl ?_
  refine z_iconst C 24 d_E_add_23 rfl 1 (by decide) ?_
  refine z_iadd C 25 d_E_add_24 rfl ?_
  refine z_put C 28 p_E_15 d_E_add_25 rfl (by omega) ho2 (z_ltb rfl) rfl rfl ?_
  exact z_vret C rfl d_E_add_28 (by rw [hpo]; exact ⟨rfl, rfl, by rw [xOv_up (by omega)]; show xOv _ _ _ _ _ (va_up _ _ (.inr (3, [.ref (1000001 + (E i).1), .int (E i).2.1, .ref (B + 2 * i + 1), .int (nI (E i).2.2.2.1 + 1), .long (E i).2.2.2.2.1, .int (E i).2.2.2.2.2.1, .int (E i).2.2.2.2.2.2.1, .int (E i).2.2.2.2.2.2.2.1, .int (E i).2.2.2.2.2.2.2.2.1, va_rf (E i).2.2.2.2.2.2.2.2.2]))) = _; rw [nI_1]; rw [show (.inr (3, [.ref (1000001 + (E i).1), .int (E i).2.1, .ref (B + 2 * i + 1), .int (nI ((E i).2.2.2.1 + 1)), .long (E i).2.2.2.2.1, .int (E i).2.2.2.2.2.1, .int (E i).2.2.2.2.2.2.1, .int (E i).2.2.2.2.2.2.2.1, .int (E i).2.2.2.2.2.2.2.2.1, va_rf (E i).2.2.2.2.2.2.2.2.2]) : va_E) = eCell B i (eAdd (E i) j) from rfl, eOv_upO hi (by rw [va_up_self]; rfl), va_up2]⟩) (by rw [hmc]; omega) (by rw [hms]; omega)
end EX
end
section
theorem d_R_readDigits_0 : decode b_R_readDigits 0 = .ok (.new 121, 3) := by decide +kernel
theorem d_R_readDigits_3 : decode b_R_readDigits 3 = .ok (.dup, 1) := by decide +kernel
theorem d_R_readDigits_4 : decode b_R_readDigits 4 = .ok (.getstatic 123, 3) := by decide +kernel
theorem d_R_readDigits_7 : decode b_R_readDigits 7 = .ok (.aload_n 0, 1) := by decide +kernel
theorem d_R_readDigits_8 : decode b_R_readDigits 8 = .ok (.getfield 9, 3) := by decide +kernel
theorem d_R_readDigits_11 : decode b_R_readDigits 11 = .ok (.invokespecial 126, 3) := by decide +kernel
theorem d_R_readDigits_14 : decode b_R_readDigits 14 = .ok (.astore_n 1, 1) := by decide +kernel
theorem d_R_readDigits_15 : decode b_R_readDigits 15 = .ok (.iconst 0, 1) := by decide +kernel
theorem d_R_readDigits_16 : decode b_R_readDigits 16 = .ok (.istore_n 2, 1) := by decide +kernel
theorem d_R_readDigits_17 : decode b_R_readDigits 17 = .ok (.iload_n 2, 1) := by decide +kernel
theorem d_R_readDigits_18 : decode b_R_readDigits 18 = .ok (.iconst 4, 1) := by decide +kernel
theorem d_R_readDigits_19 : decode b_R_readDigits 19 = .ok (.if_icmp .ge 42, 3) := by decide +kernel
theorem d_R_readDigits_22 : decode b_R_readDigits 22 = .ok (.aload_n 0, 1) := by decide +kernel
theorem d_R_readDigits_23 : decode b_R_readDigits 23 = .ok (.bipush 48, 2) := by decide +kernel
theorem d_R_readDigits_25 : decode b_R_readDigits 25 = .ok (.bipush 57, 2) := by decide +kernel
theorem d_R_readDigits_27 : decode b_R_readDigits 27 = .ok (.invokevirtual 74, 3) := by decide +kernel
theorem d_R_readDigits_30 : decode b_R_readDigits 30 = .ok (.ifCond .eq 31, 3) := by decide +kernel
theorem d_R_readDigits_33 : decode b_R_readDigits 33 = .ok (.aload_n 1, 1) := by decide +kernel
theorem d_R_readDigits_34 : decode b_R_readDigits 34 = .ok (.aload_n 1, 1) := by decide +kernel
theorem d_R_readDigits_35 : decode b_R_readDigits 35 = .ok (.getfield 129, 3) := by decide +kernel
theorem d_R_readDigits_38 : decode b_R_readDigits 38 = .ok (.ldc2_w 133, 3) := by decide +kernel
theorem d_R_readDigits_41 : decode b_R_readDigits 41 = .ok (.lmul, 1) := by decide +kernel
theorem d_R_readDigits_42 : decode b_R_readDigits 42 = .ok (.aload_n 0, 1) := by decide +kernel
theorem d_R_readDigits_43 : decode b_R_readDigits 43 = .ok (.bipush 48, 2) := by decide +kernel
theorem d_R_readDigits_45 : decode b_R_readDigits 45 = .ok (.bipush 57, 2) := by decide +kernel
theorem d_R_readDigits_47 : decode b_R_readDigits 47 = .ok (.invokevirtual 28, 3) := by decide +kernel
theorem d_R_readDigits_50 : decode b_R_readDigits 50 = .ok (.i2l, 1) := by decide +kernel
theorem d_R_readDigits_51 : decode b_R_readDigits 51 = .ok (.ladd, 1) := by decide +kernel
theorem d_R_readDigits_52 : decode b_R_readDigits 52 = .ok (.putfield 129, 3) := by decide +kernel
theorem d_R_readDigits_55 : decode b_R_readDigits 55 = .ok (.iinc 2 1, 3) := by decide +kernel
theorem d_R_readDigits_58 : decode b_R_readDigits 58 = .ok (.goto (-41), 3) := by decide +kernel
theorem d_R_readDigits_61 : decode b_R_readDigits 61 = .ok (.aload_n 1, 1) := by decide +kernel
theorem d_R_readDigits_62 : decode b_R_readDigits 62 = .ok (.areturn, 1) := by decide +kernel
theorem d_R_readSignAndVariable_0 : decode b_R_readSignAndVariable 0 = .ok (.new 121, 3) := by decide +kernel
theorem d_R_readSignAndVariable_3 : decode b_R_readSignAndVariable 3 = .ok (.dup, 1) := by decide +kernel
theorem d_R_readSignAndVariable_4 : decode b_R_readSignAndVariable 4 = .ok (.aload_n 1, 1) := by decide +kernel
theorem d_R_readSignAndVariable_5 : decode b_R_readSignAndVariable 5 = .ok (.aload_n 0, 1) := by decide +kernel
theorem d_R_readSignAndVariable_6 : decode b_R_readSignAndVariable 6 = .ok (.getfield 9, 3) := by decide +kernel
theorem d_R_readSignAndVariable_9 : decode b_R_readSignAndVariable 9 = .ok (.invokespecial 126, 3) := by decide +kernel
theorem d_R_readSignAndVariable_12 : decode b_R_readSignAndVariable 12 = .ok (.astore_n 2, 1) := by decide +kernel
theorem d_R_readSignAndVariable_13 : decode b_R_readSignAndVariable 13 = .ok (.aload_n 0, 1) := by decide +kernel
theorem d_R_readSignAndVariable_14 : decode b_R_readSignAndVariable 14 = .ok (.dup, 1) := by decide +kernel
theorem d_R_readSignAndVariable_15 : decode b_R_readSignAndVariable 15 = .ok (.getfield 9, 3) := by decide +kernel
theorem d_R_readSignAndVariable_18 : decode b_R_readSignAndVariable 18 = .ok (.iconst 1, 1) := by decide +kernel
theorem d_R_readSignAndVariable_19 : decode b_R_readSignAndVariable 19 = .ok (.iadd, 1) := by decide +kernel
theorem d_R_readSignAndVariable_20 : decode b_R_readSignAndVariable 20 = .ok (.putfield 9, 3) := by decide +kernel
theorem d_R_readSignAndVariable_23 : decode b_R_readSignAndVariable 23 = .ok (.aload_n 2, 1) := by decide +kernel
theorem d_R_readSignAndVariable_24 : decode b_R_readSignAndVariable 24 = .ok (.aload_n 0, 1) := by decide +kernel
theorem d_R_readSignAndVariable_25 : decode b_R_readSignAndVariable 25 = .ok (.getfield 9, 3) := by decide +kernel
theorem d_R_readSignAndVariable_28 : decode b_R_readSignAndVariable 28 = .ok (.putfield 148, 3) := by decide +kernel
theorem d_R_readSignAndVariable_31 : decode b_R_readSignAndVariable 31 = .ok (.aload_n 2, 1) := by decide +kernel
theorem d_R_readSignAndVariable_32 : decode b_R_readSignAndVariable 32 = .ok (.aload_n 0, 1) := by decide +kernel
theorem d_R_readSignAndVariable_33 : decode b_R_readSignAndVariable 33 = .ok (.bipush 97, 2) := by decide +kernel
theorem d_R_readSignAndVariable_35 : decode b_R_readSignAndVariable 35 = .ok (.bipush 116, 2) := by decide +kernel
theorem d_R_readSignAndVariable_37 : decode b_R_readSignAndVariable 37 = .ok (.invokevirtual 28, 3) := by decide +kernel
theorem d_R_readSignAndVariable_40 : decode b_R_readSignAndVariable 40 = .ok (.putfield 145, 3) := by decide +kernel
theorem d_R_readSignAndVariable_43 : decode b_R_readSignAndVariable 43 = .ok (.aload_n 2, 1) := by decide +kernel
theorem d_R_readSignAndVariable_44 : decode b_R_readSignAndVariable 44 = .ok (.areturn, 1) := by decide +kernel
theorem d_R_takeOperation_0 : decode b_R_takeOperation 0 = .ok (.aload_n 0, 1) := by decide +kernel
theorem d_R_takeOperation_1 : decode b_R_takeOperation 1 = .ok (.invokevirtual 39, 3) := by decide +kernel
theorem d_R_takeOperation_4 : decode b_R_takeOperation 4 = .ok (.istore_n 1, 1) := by decide +kernel
theorem d_R_takeOperation_5 : decode b_R_takeOperation 5 = .ok (.iload_n 1, 1) := by decide +kernel
theorem d_R_takeOperation_6 : decode b_R_takeOperation 6 = .ok (.tableswitch 107 42 61 #[94, 94, 107, 94, 107, 94, 107, 107, 107, 107, 107, 107, 107, 107, 107, 107, 107, 107, 94, 94], 94) := by decide +kernel
theorem d_R_takeOperation_100 : decode b_R_takeOperation 100 = .ok (.aload_n 0, 1) := by decide +kernel
theorem d_R_takeOperation_101 : decode b_R_takeOperation 101 = .ok (.dup, 1) := by decide +kernel
theorem d_R_takeOperation_102 : decode b_R_takeOperation 102 = .ok (.getfield 9, 3) := by decide +kernel
theorem d_R_takeOperation_105 : decode b_R_takeOperation 105 = .ok (.iconst 1, 1) := by decide +kernel
theorem d_R_takeOperation_106 : decode b_R_takeOperation 106 = .ok (.iadd, 1) := by decide +kernel
theorem d_R_takeOperation_107 : decode b_R_takeOperation 107 = .ok (.putfield 9, 3) := by decide +kernel
theorem d_R_takeOperation_110 : decode b_R_takeOperation 110 = .ok (.goto 14, 3) := by decide +kernel
theorem d_R_takeOperation_113 : decode b_R_takeOperation 113 = .ok (.aload_n 0, 1) := by decide +kernel
theorem d_R_takeOperation_114 : decode b_R_takeOperation 114 = .ok (.getfield 22, 3) := by decide +kernel
theorem d_R_takeOperation_117 : decode b_R_takeOperation 117 = .ok (.aload_n 0, 1) := by decide +kernel
theorem d_R_takeOperation_118 : decode b_R_takeOperation 118 = .ok (.getfield 9, 3) := by decide +kernel
theorem d_R_takeOperation_121 : decode b_R_takeOperation 121 = .ok (.invokevirtual 61, 3) := by decide +kernel
theorem d_R_takeOperation_124 : decode b_R_takeOperation 124 = .ok (.iload_n 1, 1) := by decide +kernel
theorem d_R_takeOperation_125 : decode b_R_takeOperation 125 = .ok (.ireturn, 1) := by decide +kernel
theorem sf_123 : Cond.fieldLink "SoleArrays$Reader" 123 "SoleArrays$Form" "DIGITS" "LSoleArrays$Form;" ∈ zTb := zt2 160 (by decide +kernel) rfl
theorem kl_133 : Cond.constantLong "SoleArrays$Reader" 133 10 ∈ zTb := zt2 219 (by decide +kernel) rfl
theorem va_same {α : Type} {f : Nat → α} {i : Nat} {x : α} (h : f i = x) : va_up f i x = f := by
  funext j
  by_cases q : j = i
  · subst q; rw [va_up_self, h]
  · rw [va_up_ne _ _ q]
theorem let_c {a b : Nat} (hab : a ≤ b) (hb : b < 2 ^ 31) {c : Int32} (h1 : nI a ≤ c) (h2 : c ≤ nI b) : ∃ k, k ≤ b - a ∧ c = nI (a + k) ∧ c - nI a = nI k := by
  have a1 := Int32.le_iff_toInt_le.mp h1
  have a2 := Int32.le_iff_toInt_le.mp h2
  rw [nI_toInt (by omega)] at a1
  rw [nI_toInt hb] at a2
  have e : c = nI (a + (c.toInt.toNat - a)) := by
    refine Int32.toInt_inj.mp ?_
    rw [nI_toInt (by omega)]
    omega
  refine ⟨c.toInt.toNat - a, by omega, e, ?_⟩
  have e2 : c = nI (c.toInt.toNat - a) + nI a := by rw [nI_add, Nat.add_comm]; exact e
  rw [e2, Int32.add_sub_cancel, ← e2]
/-- what holds before a reader's method: the Reader's cell r, the expressions' cells from B on, N of them -/
def rPre (B N r p z : Nat) (σ : zS) (xa : mA) : Prop := 114 ≤ r ∧ r < B ∧ B < 900000 ∧ σ r = rdC p z ∧ z ≤ 150 ∧ p ≤ z ∧ N ≤ p ∧ ∀ i, i < 150 → narrow .char (.int (xa 1 i)) = .int (xa 1 i)
def rIll (B r : Nat) (σ : zS) (xs : mS) (xr : Int64) (xa : mA) (xl : mL) (xf : xF) (q : Nat) : zPost := fun o n' σ' => ∃ (x : Nat) (τ : zS), o = .threw x ∧ n' = x + 1 ∧ B ≤ x ∧ x ≤ B + 300 ∧ σ' = xOv (upd xs 4 (nI q)) xr xa xl xf τ ∧ τ x = .inr (9, []) ∧ ∀ k, k < r → τ k = σ k
def rPost (B N r z : Nat) (σ : zS) (xs : mS) (xr : Int64) (xa : mA) (xl : mL) (xf : xF) (res : rR) : zPost := fun o n' σ' => match res with
  | .inl q => rIll B r σ xs xr xa xl xf q o n' σ'
  | .inr s => o = .returned (some (.ref (B + 2 * N))) ∧ n' = B + 2 * s.2.1 ∧ σ' = xOv xs xr xa xl xf (eOv B s.2.1 s.2.2.2 (va_up σ r (rdC s.1 z)))
def rCe (p : Nat) (res : rR) : Nat := match res with
  | .inl q => 2 * (q - p) + 1
  | .inr s => 2 * (s.1 - p)
def rSl (p : Nat) (res : rR) : Nat := match res with
  | .inl q => 14 * (q - p) + 6
  | .inr s => 14 * (s.1 - p)
section LF
variable {G : zG} {l : Launch} {r p z B N : Nat} {σ : zS} {xs : mS} {xr : Int64} {xa : mA} {xl : mL} {xf : xF} {E : Nat → eN}
def dN (p v : Nat) : eN := (0, nI p, fun _ => none, 0, lN v, 32, 0, 0, 0, none)
theorem c_R_readDigits (h : rPre B N r p z σ xa) {mc ms : Nat} (hmc0 : 2 ≤ mc) (hms0 : 14 ≤ ms) : MetZ G l y_R_readDigits b_R_readDigits 3 (some (.object "SoleArrays$Expression")) [] 8 mc ms [.ref r] (B + 2 * N) (xOv xs xr xa xl xf (eOv B N E σ))
    (fun o n' σ' => o = .returned (some (.ref (B + 2 * N))) ∧ n' = B + 2 * (N + 1) ∧ σ' = xOv xs xr xa xl xf (eOv B (N + 1) (va_up E N (dN p (rDigs (xa 1) z 4 p 0).2)) (va_up σ r (rdC (rDigs (xa 1) z 4 p 0).1 z)))) := by
  obtain ⟨hr, hrB, hB, hrd0, hz, hp, hN, hc⟩ := h
  have hrd : xOv xs xr xa xl xf (eOv B N E σ) r = .inr (4, [.ref 1, .int (nI z), .ref 2, .int (nI p)]) := (xOv_at (by omega)).trans ((eOv_lo hrB).trans hrd0)
  refine MetZ.of (by decide) (Nat.le_of_ble_eq_true rfl) (fun K hK hR hpo hmc hms C => ?_)
  have loop : ∀ (m k q v : Nat), m + k = 4 → q ≤ z → rDigs (xa 1) z m q v = rDigs (xa 1) z 4 p 0 → Z G K (B + 2 * (N + 1)) (xOv xs xr xa xl xf (eOv B (N + 1) (va_up E N (dN p v)) (va_up σ r (rdC q z)))) 2 14 17 [(2, .int (nI k)), (1, .ref (B + 2 * N)), (0, .ref r)] [] := fun m => by
    induction m with
    | zero =>
      intro k q v hk hq hd
      refine z_iload_n C 18 d_R_readDigits_17 rfl rfl ?_
      refine z_iconst C 19 d_R_readDigits_18 rfl 4 (by decide) ?_
      refine z_icmp_ge C 22 61 d_R_readDigits_19 rfl (by decide) (fun _ => ?_) (fun h9 => absurd ((nI_leI (a := 4) (by omega) (by omega)).mpr (by omega)) h9)
      refine z_aload_n C 62 d_R_readDigits_61 rfl rfl ?_
      exact z_aret C rfl d_R_readDigits_62 (by rw [hpo]; exact ⟨rfl, rfl, by rw [← hd]; rfl⟩) (by rw [hmc]; omega) (by rw [hms]; omega)
    | succ m ih =>
      intro k q v hk hq hd
      have hrq : eOv B (N + 1) (va_up E N (dN p v)) (va_up σ r (rdC q z)) r = rdC q z := (eOv_lo hrB).trans (va_up_self _ _ _)
      have hrq2 : xOv xs xr xa xl xf (eOv B (N + 1) (va_up E N (dN p v)) (va_up σ r (rdC q z))) r = .inr (4, [.ref 1, .int (nI z), .ref 2, .int (nI q)]) := (xOv_at (by omega)).trans hrq
      have hob : xOv xs xr xa xl xf (eOv B (N + 1) (va_up E N (dN p v)) (va_up σ r (rdC q z))) (B + 2 * N) = eCell B N (dN p v) := (xOv_at (by omega)).trans ((eOv_obj (Nat.lt_succ_self N)).trans (by rw [va_up_self]))
      refine z_iload_n C 18 d_R_readDigits_17 rfl rfl ?_
      refine z_iconst C 19 d_R_readDigits_18 rfl 4 (by decide) ?_
      refine z_icmp_ge C 22 61 d_R_readDigits_19 rfl (by decide) (fun h9 => absurd h9 (fun w => absurd ((nI_leI (a := 4) (by omega) (by omega)).mp w) (by omega))) (fun _ => ?_)
      refine z_aload_n C 23 d_R_readDigits_22 rfl rfl ?_
      refine z_bipush C 25 d_R_readDigits_23 rfl 48 (by decide) ?_
      refine z_bipush C 27 d_R_readDigits_25 rfl 57 (by decide) ?_
      refine z_call C 30 (c_R_nextIsOneOf (by omega) (by omega) (by omega) hrq hz (by omega) hc 48 57) w_R_nextIsOneOf ini_R d_R_readDigits_27 rfl (z_goV (As := [.int 48, .int 57]) C l_R_74 w_R_nextIsOneOf d_R_readDigits_27 (by omega) (hrq2) rfl rfl) (Nat.le_of_ble_eq_true rfl) (by rw [hR]; simp only [zRm]; omega) (by rw [hR]; simp only [zRm]; omega) (by rw [hR]; simp only [zRm]; omega) (by rw [hR]; simp only [zRm]; omega) (fun v n' σ' hv => ?_) (fun x n' σ' hv => ?_)
      · obtain ⟨e0, e1, rfl⟩ := hv
        subst e1
        by_cases hg : 48 ≤ rlk (xa 1) z q ∧ rlk (xa 1) z q ≤ 57
        · rw [show (if (48 : Int32) ≤ xlk xa q z ∧ xlk xa q z ≤ 57 then (1 : Int32) else 0) = 1 from if_pos hg] at e0
          cases e0
          refine z_if_eq C 33 61 d_R_readDigits_30 rfl (by decide) (fun h9 => absurd h9 (show ¬ (1 : Int32) = 0 by decide)) (fun _ => ?_)
          refine z_aload_n C 34 d_R_readDigits_33 rfl rfl ?_
          refine z_aload_n C 35 d_R_readDigits_34 rfl rfl ?_
          refine z_get C 38 f_R_129 d_R_readDigits_35 rfl (by omega) hob rfl ?_
          refine z_ldc2 C 41 10 d_R_readDigits_38 rfl kl_133 ?_
          refine z_lmul C 42 d_R_readDigits_41 rfl ?_
          refine z_aload_n C 43 d_R_readDigits_42 rfl rfl ?_
          refine z_bipush C 45 d_R_readDigits_43 rfl 48 (by decide) ?_
          refine z_bipush C 47 d_R_readDigits_45 rfl 57 (by decide) ?_
          refine z_call C 50 (c_R_takeOneOf (by omega) (by omega) (by omega) (by omega) hrq hz (by omega) hc 48 57 (mc := 0) (ms := 0) (fun w => absurd hg w)) w_R_takeOneOf ini_R d_R_readDigits_47 rfl (z_goV (As := [.int 48, .int 57]) C l_R_28 w_R_takeOneOf d_R_readDigits_47 (by omega) (hrq2) rfl rfl) (Nat.le_of_ble_eq_true rfl) (by rw [hR]; simp only [zRm]; omega) (by rw [hR]; simp only [zRm]; omega) (by rw [hR]; simp only [zRm]; omega) (by rw [hR]; simp only [zRm]; omega) (fun v n' σ' hv => ?_) (fun x n' σ' hv => ?_)
          · rcases hv with ⟨-, e0, rfl, rfl⟩ | ⟨w, -⟩
            · cases e0
              obtain ⟨dg, hdg, -, ed⟩ := let_c (a := 48) (b := 57) (by omega) (by omega) hg.1 hg.2
              have ed : xlk xa q z - 48 = nI dg := ed
              have ev : lN v * 10 + (nI dg).toInt64 = lN (10 * v + dg) := by
                rw [nI_l (by omega)]
                show Int64.ofNat v * Int64.ofNat 10 + Int64.ofNat dg = Int64.ofNat (10 * v + dg)
                rw [Int64.ofNat_add, Int64.ofNat_mul, Int64.mul_comm]
              rw [eOv_low hrB, va_up2, ed]
              refine z_i2l C 51 d_R_readDigits_50 rfl ?_
              refine z_ladd C 52 d_R_readDigits_51 rfl ?_
              have hob2 : xOv xs xr xa xl xf (eOv B (N + 1) (va_up E N (dN p v)) (va_up σ r (rdC (q + 1) z))) (B + 2 * N) = eCell B N (dN p v) := (xOv_at (by omega)).trans ((eOv_obj (Nat.lt_succ_self N)).trans (by rw [va_up_self]))
              refine z_put C 55 p_R_129 d_R_readDigits_52 rfl (by omega) hob2 (z_ltb rfl) rfl rfl ?_
              rw [xOv_up (by omega)]
              show Z G K _ (xOv _ _ _ _ _ (va_up _ _ (.inr (3, [.ref (1000001 + 0), .int (nI p), .ref (B + 2 * N + 1), .int (nI 0), .long (lN v * 10 + (nI dg).toInt64), .int 32, .int 0, .int 0, .int 0, va_rf none])))) _ _ _ _ _
              rw [ev, show (.inr (3, [.ref (1000001 + 0), .int (nI p), .ref (B + 2 * N + 1), .int (nI 0), .long (lN (10 * v + dg)), .int 32, .int 0, .int 0, .int 0, va_rf none]) : va_E) = eCell B N (dN p (10 * v + dg)) from rfl, eOv_upO (Nat.lt_succ_self N) (by rw [va_up_self]; rfl), va_up2]
              refine z_iinc C 58 d_R_readDigits_55 rfl (nI (k + 1)) rfl (z_inc k) (by decide) ?_
              refine z_goto C 17 d_R_readDigits_58 (by decide) ?_
              refine ih (k + 1) (q + 1) (10 * v + dg) (by omega) (rlk_pos hg.1 (by decide)) ?_
              rw [← hd]
              conv => rhs; unfold rDigs
              rw [if_pos hg, show rlk (xa 1) z q - 48 = nI dg from ed, nI_clamp (by omega)]
            · exact absurd hg w
          · rcases hv with ⟨-, e0, -⟩ | ⟨w, -⟩
            · cases e0
            · exact absurd hg w
        · rw [show (if (48 : Int32) ≤ xlk xa q z ∧ xlk xa q z ≤ 57 then (1 : Int32) else 0) = 0 from if_neg hg] at e0
          cases e0
          refine z_if_eq C 33 61 d_R_readDigits_30 rfl (by decide) (fun _ => ?_) (fun h9 => absurd (show (0 : Int32) = 0 from rfl) h9)
          refine z_aload_n C 62 d_R_readDigits_61 rfl rfl ?_
          exact z_aret C rfl d_R_readDigits_62 (by rw [hpo]; exact ⟨rfl, rfl, by rw [← hd, rDigs, if_neg hg]⟩) (by rw [hmc]; omega) (by rw [hms]; omega)
      · cases hv.1
  refine z_new C 3 n_R_121 d_R_readDigits_0 rfl (by omega) (by rw [hR]; simp only [zRm]; omega) (by rw [hR]; simp only [zRm]; omega) ?_
  refine z_dup C 4 d_R_readDigits_3 rfl rfl ?_
  refine z_getsF C 7 0 (by decide) sf_123 d_R_readDigits_4 rfl ?_
  refine z_aload_n C 8 d_R_readDigits_7 rfl rfl ?_
  refine z_get C 11 f_R_9 d_R_readDigits_8 rfl (by omega) ((va_up_ne _ _ (by omega)).trans hrd) rfl ?_
  refine z_call C 14 (c_E_init (by omega) (by omega) 0 (nI p)) w_E_init ini_E d_R_readDigits_11 rfl (z_goI (As := [.ref (1000001 + 0), .int (nI p)]) C l_R_126 w_E_init d_R_readDigits_11 rfl) (Nat.le_of_ble_eq_true rfl) (by rw [hR]; simp only [zRm]; omega) (by rw [hR]; simp only [zRm]; omega) (by rw [hR]; simp only [zRm]; omega) (by rw [hR]; simp only [zRm]; omega) (fun v n' σ' hv => ?_) (fun x n' σ' hv => ?_)
  · obtain ⟨e0, e1, rfl⟩ := hv
    cases e0
    have e1 : n' = B + 2 * (N + 1) := e1
    subst e1
    have k := loop 4 0 p 0 rfl hp rfl
    rw [va_same hrd0] at k
    refine z_astore_n C 15 d_R_readDigits_14 rfl (by decide) ?_
    refine z_iconst C 16 d_R_readDigits_15 rfl 0 (by decide) ?_
    refine z_istore_n C 17 d_R_readDigits_16 rfl (by decide) ?_
    exact Z.widen (by omega) (by omega) k
  · cases hv.1
end LF
end
section
theorem sd_0 : Cond.initialized "SoleArrays$Expression" ∈ zTb := zt1 12 (by decide +kernel) rfl
section LF2
variable {G : zG} {l : Launch} {r p z B N : Nat} {σ : zS} {xs : mS} {xr : Int64} {xa : mA} {xl : mL} {xf : xF} {E : Nat → eN}
theorem rIll_mk {M q : Nat} {E' : Nat → eN} {c : va_E} (hrB : r < B) (hM : M ≤ 150) : rIll B r σ xs xr xa xl xf q (.threw (B + 2 * M)) (B + 2 * M + 1) (xOv (upd xs 4 (nI q)) xr xa xl xf (va_up (eOv B M E' (va_up σ r c)) (B + 2 * M) (.inr (9, [])))) := by
  refine ⟨B + 2 * M, _, rfl, rfl, by omega, by omega, rfl, va_up_self _ _ _, fun k hk => ?_⟩
  rw [va_up_ne _ _ (by omega), eOv_lo (by omega), va_up_ne _ _ (by omega)]
theorem c_R_readSignAndVariable {k : Nat} (h : rPre B N r p z σ xa) (hpz : p < z) {mc ms : Nat} (hm1 : 2 ≤ mc ∧ 14 ≤ ms) (hm2 : ¬ (97 ≤ rlk (xa 1) z (p + 1) ∧ rlk (xa 1) z (p + 1) ≤ 116) → 3 ≤ mc ∧ 20 ≤ ms) : MetZ G l y_R_readSignAndVariable b_R_readSignAndVariable 3 (some (.object "SoleArrays$Expression")) [] 8 mc ms [.ref r, .ref (1000001 + k)] (B + 2 * N) (xOv xs xr xa xl xf (eOv B N E σ))
    (fun o n' σ' => ((97 ≤ rlk (xa 1) z (p + 1) ∧ rlk (xa 1) z (p + 1) ≤ 116) ∧ o = .returned (some (.ref (B + 2 * N))) ∧ n' = B + 2 * (N + 1) ∧ σ' = xOv xs xr xa xl xf (eOv B (N + 1) (va_up E N (eVar (rE0 k p) (rlk (xa 1) z (p + 1) - 97) (nI (p + 1)))) (va_up σ r (rdC (p + 2) z)))) ∨ (¬ (97 ≤ rlk (xa 1) z (p + 1) ∧ rlk (xa 1) z (p + 1) ≤ 116) ∧ rIll B r σ xs xr xa xl xf (p + 1) o n' σ')) := by
  obtain ⟨hr, hrB, hB, hrd0, hz, hp, hN, hc⟩ := h
  have hrd : xOv xs xr xa xl xf (eOv B N E σ) r = .inr (4, [.ref 1, .int (nI z), .ref 2, .int (nI p)]) := (xOv_at (by omega)).trans ((eOv_lo hrB).trans hrd0)
  refine MetZ.of (by decide) (Nat.le_of_ble_eq_true rfl) (fun K hK hR hpo hmc hms C => ?_)
  refine z_new C 3 n_R_121 d_R_readSignAndVariable_0 rfl (by omega) (by rw [hR]; simp only [zRm]; omega) (by rw [hR]; simp only [zRm]; omega) ?_
  refine z_dup C 4 d_R_readSignAndVariable_3 rfl rfl ?_
  refine z_aload_n C 5 d_R_readSignAndVariable_4 rfl rfl ?_
  refine z_aload_n C 6 d_R_readSignAndVariable_5 rfl rfl ?_
  refine z_get C 9 f_R_9 d_R_readSignAndVariable_6 rfl (by omega) ((va_up_ne _ _ (by omega)).trans hrd) rfl ?_
  refine z_call C 12 (c_E_init (by omega) (by omega) k (nI p)) w_E_init ini_E d_R_readSignAndVariable_9 rfl (z_goI (As := [.ref (1000001 + k), .int (nI p)]) C l_R_126 w_E_init d_R_readSignAndVariable_9 rfl) (Nat.le_of_ble_eq_true rfl) (by rw [hR]; simp only [zRm]; omega) (by rw [hR]; simp only [zRm]; omega) (by rw [hR]; simp only [zRm]; omega) (by rw [hR]; simp only [zRm]; omega) (fun v n' σ' hv => ?_) (fun x n' σ' hv => ?_)
  · obtain ⟨e0, e1, rfl⟩ := hv
    cases e0
    have e1 : n' = B + 2 * (N + 1) := e1
    subst e1
    have hr1 : xOv xs xr xa xl xf (eOv B (N + 1) (va_up E N (eNew k (nI p))) σ) r = .inr (4, [.ref 1, .int (nI z), .ref 2, .int (nI p)]) := (xOv_at (by omega)).trans ((eOv_lo hrB).trans hrd0)
    refine z_astore_n C 13 d_R_readSignAndVariable_12 rfl (by decide) ?_
    refine z_aload_n C 14 d_R_readSignAndVariable_13 rfl rfl ?_
    refine z_dup C 15 d_R_readSignAndVariable_14 rfl rfl ?_
    refine z_get C 18 f_R_9 d_R_readSignAndVariable_15 rfl (by omega) hr1 rfl ?_
    refine z_iconst C 19 d_R_readSignAndVariable_18 rfl 1 (by decide) ?_
    refine z_iadd C 20 d_R_readSignAndVariable_19 rfl ?_
    refine z_put C 23 p_R_9 d_R_readSignAndVariable_20 rfl (by omega) hr1 (z_ltb rfl) rfl rfl ?_
    rw [xOv_up (by omega), eOv_low hrB]
    show Z G K _ (xOv _ _ _ _ _ (eOv _ _ _ (va_up σ r (.inr (4, [.ref 1, .int (nI z), .ref 2, .int (nI p + 1)]))))) _ _ _ _ _
    rw [nI_1, show (.inr (4, [.ref 1, .int (nI z), .ref 2, .int (nI (p + 1))]) : va_E) = rdC (p + 1) z from rfl]
    have hr2 : ∀ E' : Nat → eN, xOv xs xr xa xl xf (eOv B (N + 1) E' (va_up σ r (rdC (p + 1) z))) r = .inr (4, [.ref 1, .int (nI z), .ref 2, .int (nI (p + 1))]) := fun E' => (xOv_at (by omega)).trans ((eOv_lo hrB).trans (va_up_self _ _ _))
    have ho : ∀ e : eN, xOv xs xr xa xl xf (eOv B (N + 1) (va_up E N e) (va_up σ r (rdC (p + 1) z))) (B + 2 * N) = eCell B N e := fun e => (xOv_at (by omega)).trans ((eOv_obj (Nat.lt_succ_self N)).trans (by rw [va_up_self]))
    refine z_aload_n C 24 d_R_readSignAndVariable_23 rfl rfl ?_
    refine z_aload_n C 25 d_R_readSignAndVariable_24 rfl rfl ?_
    refine z_get C 28 f_R_9 d_R_readSignAndVariable_25 rfl (by omega) (hr2 _) rfl ?_
    refine z_put C 31 p_R_148 d_R_readSignAndVariable_28 rfl (by omega) (ho _) (z_ltb rfl) rfl rfl ?_
    rw [xOv_up (by omega)]
    show Z G K _ (xOv _ _ _ _ _ (va_up _ _ (eCell B N (eVar (rE0 k p) 0 (nI (p + 1)))))) _ _ _ _ _
    rw [eOv_upO (Nat.lt_succ_self N) (by rw [va_up_self]; rfl), va_up2]
    refine z_aload_n C 32 d_R_readSignAndVariable_31 rfl rfl ?_
    refine z_aload_n C 33 d_R_readSignAndVariable_32 rfl rfl ?_
    refine z_bipush C 35 d_R_readSignAndVariable_33 rfl 97 (by decide) ?_
    refine z_bipush C 37 d_R_readSignAndVariable_35 rfl 116 (by decide) ?_
    refine z_call C 40 (c_R_takeOneOf (p := p + 1) (by omega) (by omega) (by omega) (by omega) ((eOv_lo hrB).trans (va_up_self _ _ _)) hz (by omega) hc 97 116 (mc := mc - 2) (ms := ms - 14) (fun w => by have := hm2 w; omega)) w_R_takeOneOf ini_R d_R_readSignAndVariable_37 rfl (z_goV (As := [.int 97, .int 116]) C l_R_28 w_R_takeOneOf d_R_readSignAndVariable_37 (by omega) (hr2 _) rfl rfl) (Nat.le_of_ble_eq_true rfl) (by rw [hR]; simp only [zRm]; omega) (by rw [hR]; simp only [zRm]; omega) (by rw [hR]; simp only [zRm]; omega) (by rw [hR]; simp only [zRm]; omega) (fun v n' σ' hv => ?_) (fun x n' σ' hv => ?_)
    · rcases hv with ⟨hg, e0, rfl, rfl⟩ | ⟨-, e0, -⟩
      · cases e0
        rw [eOv_low hrB, va_up2]
        have ho2 : ∀ e : eN, xOv xs xr xa xl xf (eOv B (N + 1) (va_up E N e) (va_up σ r (rdC (p + 1 + 1) z))) (B + 2 * N) = eCell B N e := fun e => (xOv_at (by omega)).trans ((eOv_obj (Nat.lt_succ_self N)).trans (by rw [va_up_self]))
        refine z_put C 43 p_R_145 d_R_readSignAndVariable_40 rfl (by omega) (ho2 _) (z_ltb rfl) rfl rfl ?_
        rw [xOv_up (by omega)]
        show Z G K _ (xOv _ _ _ _ _ (va_up _ _ (eCell B N (eVar (rE0 k p) (rlk (xa 1) z (p + 1) - 97) (nI (p + 1)))))) _ _ _ _ _
        rw [eOv_upO (Nat.lt_succ_self N) (by rw [va_up_self]; rfl), va_up2]
        refine z_aload_n C 44 d_R_readSignAndVariable_43 rfl rfl ?_
        exact z_aret C rfl d_R_readSignAndVariable_44 (by rw [hpo]; exact Or.inl ⟨hg, rfl, rfl, rfl⟩) (by rw [hmc]; omega) (by rw [hms]; omega)
      · cases e0
    · rcases hv with ⟨-, e0, -⟩ | ⟨hg, e0, rfl, rfl⟩
      · cases e0
      · cases e0
        have hm' := hm2 hg
        exact zx_out C (fun h hh => nomatch hh) (by rw [hpo]; exact Or.inr ⟨hg, rIll_mk hrB (by omega)⟩) (by rw [hmc]; omega) (by rw [hms]; omega)
  · cases hv.1
theorem c_R_takeOperation {n : Nat} (hn : 85 ≤ n) (hn2 : n < 1000000) (hr : 85 ≤ r) (hrn : r < n) (hrd0 : σ r = rdC p z) (hz : z ≤ 150) (hp : p ≤ 150) (hc : ∀ i, i < 150 → narrow .char (.int (xa 1 i)) = .int (xa 1 i)) {mc ms : Nat} (hm : rIsOp (xlk xa p z) = false → 1 ≤ mc ∧ 6 ≤ ms) : MetZ G l y_R_takeOperation b_R_takeOperation 2 (some .char) [] 7 mc ms [.ref r] n (xOv xs xr xa xl xf σ)
    (fun o n' σ' => (rIsOp (xlk xa p z) = true ∧ o = .returned (some (.int (xlk xa p z))) ∧ n' = n ∧ σ' = xOv xs xr xa xl xf (va_up σ r (rdC (p + 1) z))) ∨ (rIsOp (xlk xa p z) = false ∧ o = .threw n ∧ n' = n + 1 ∧ σ' = xOv (upd xs 4 (nI p)) xr xa xl xf (va_up σ n (.inr (9, []))))) := by
  have hrd : xOv xs xr xa xl xf σ r = .inr (4, [.ref 1, .int (nI z), .ref 2, .int (nI p)]) := (xOv_at hr).trans hrd0
  refine MetZ.of (by decide) (Nat.le_of_ble_eq_true rfl) (fun K hK hR hpo hmc hms C => ?_)
  have no : rIsOp (xlk xa p z) = false → Z G K n (xOv xs xr xa xl xf σ) 0 0 113 [(1, .int (xlk xa p z)), (0, .ref r)] [] := fun hb => by
    have hm' := hm hb
    refine z_aload_n C 114 d_R_takeOperation_113 rfl rfl ?_
    refine z_get C 117 f_R_22 d_R_takeOperation_114 rfl (by omega) hrd rfl ?_
    refine z_aload_n C 118 d_R_takeOperation_117 rfl rfl ?_
    refine z_get C 121 f_R_9 d_R_takeOperation_118 rfl (by omega) hrd rfl ?_
    refine z_call C 124 (c_T_ill hn hn2 (nI p)) w_T_ill ini_T d_R_takeOperation_121 rfl (z_goV (As := [.int (nI p)]) C l_R_61 w_T_ill d_R_takeOperation_121 (by omega) rfl rfl rfl) (Nat.le_of_ble_eq_true rfl) (by rw [hR]; simp only [zRm]; omega) (by rw [hR]; simp only [zRm]; omega) (by rw [hR]; simp only [zRm]; omega) (by rw [hR]; simp only [zRm]; omega) (fun v n' σ' hv => ?_) (fun x n' σ' hv => ?_)
    · cases hv.1
    · obtain ⟨e0, rfl, rfl⟩ := hv
      cases e0
      exact zx_out C (fun h hh => nomatch hh) (by rw [hpo]; exact Or.inr ⟨hb, rfl, rfl, rfl⟩) (by rw [hmc]; omega) (by rw [hms]; omega)
  have yes : rIsOp (xlk xa p z) = true → Z G K n (xOv xs xr xa xl xf σ) 0 0 100 [(1, .int (xlk xa p z)), (0, .ref r)] [] := fun hg => by
    have hpz : p < z := rlk_lt (T := xa 1) rfl (rIsOp_ne hg)
    refine z_aload_n C 101 d_R_takeOperation_100 rfl rfl ?_
    refine z_dup C 102 d_R_takeOperation_101 rfl rfl ?_
    refine z_get C 105 f_R_9 d_R_takeOperation_102 rfl (by omega) hrd rfl ?_
    refine z_iconst C 106 d_R_takeOperation_105 rfl 1 (by decide) ?_
    refine z_iadd C 107 d_R_takeOperation_106 rfl ?_
    refine z_put C 110 p_R_9 d_R_takeOperation_107 rfl hrn hrd (z_ltb rfl) rfl rfl ?_
    refine z_goto C 124 d_R_takeOperation_110 (by decide) ?_
    refine z_iload_n C 125 d_R_takeOperation_124 rfl rfl ?_
    exact z_zret C rfl ((by rw [xlk, if_pos hpz]; exact hc p (by omega))) d_R_takeOperation_125 (by rw [hpo]; exact Or.inl ⟨hg, rfl, rfl, by rw [xOv_up hr]; show xOv _ _ _ _ _ (va_up σ r (.inr (4, [.ref 1, .int (nI z), .ref 2, .int (nI p + 1)]))) = _; rw [nI_1]; rfl⟩) (by rw [hmc]; omega) (by rw [hms]; omega)
  refine z_aload_n C 1 d_R_takeOperation_0 rfl rfl ?_
  refine z_call C 4 (c_R_next hn hr hrn hrd0 hz hp hc) w_R_next ini_R d_R_takeOperation_1 rfl (z_goV (As := []) C l_R_39 w_R_next d_R_takeOperation_1 (by omega) (hrd) rfl rfl) (Nat.le_of_ble_eq_true rfl) (by rw [hR]; simp only [zRm]; omega) (by rw [hR]; simp only [zRm]; omega) (by rw [hR]; simp only [zRm]; omega) (by rw [hR]; simp only [zRm]; omega) (fun v n' σ' hv => ?_) (fun x n' σ' hv => ?_)
  · obtain ⟨e0, e1, rfl⟩ := hv
    cases e0
    obtain rfl : n = n' := e1.symm
    refine z_istore_n C 5 d_R_takeOperation_4 rfl (by decide) ?_
    refine z_iload_n C 6 d_R_takeOperation_5 rfl rfl ?_
    by_cases q : 42 ≤ xlk xa p z ∧ xlk xa p z ≤ 61
    · obtain ⟨k, hk, ek, -⟩ := let_c (a := 42) (b := 61) (by omega) (by omega) q.1 q.2
      rcases (show k = 0 ∨ k = 1 ∨ k = 2 ∨ k = 3 ∨ k = 4 ∨ k = 5 ∨ k = 6 ∨ k = 7 ∨ k = 8 ∨ k = 9 ∨ k = 10 ∨ k = 11 ∨ k = 12 ∨ k = 13 ∨ k = 14 ∨ k = 15 ∨ k = 16 ∨ k = 17 ∨ k = 18 ∨ k = 19 by omega) with rfl | rfl | rfl | rfl | rfl | rfl | rfl | rfl | rfl | rfl | rfl | rfl | rfl | rfl | rfl | rfl | rfl | rfl | rfl | rfl
      · refine z_tableIn C 100 d_R_takeOperation_6 (by rw [ek]; decide) (by rw [ek]; decide) (off := 94) (by rw [ek]; decide) (by decide) (yes (by rw [ek]; decide))
      · refine z_tableIn C 100 d_R_takeOperation_6 (by rw [ek]; decide) (by rw [ek]; decide) (off := 94) (by rw [ek]; decide) (by decide) (yes (by rw [ek]; decide))
      · refine z_tableIn C 113 d_R_takeOperation_6 (by rw [ek]; decide) (by rw [ek]; decide) (off := 107) (by rw [ek]; decide) (by decide) (no (by rw [ek]; decide))
      · refine z_tableIn C 100 d_R_takeOperation_6 (by rw [ek]; decide) (by rw [ek]; decide) (off := 94) (by rw [ek]; decide) (by decide) (yes (by rw [ek]; decide))
      · refine z_tableIn C 113 d_R_takeOperation_6 (by rw [ek]; decide) (by rw [ek]; decide) (off := 107) (by rw [ek]; decide) (by decide) (no (by rw [ek]; decide))
      · refine z_tableIn C 100 d_R_takeOperation_6 (by rw [ek]; decide) (by rw [ek]; decide) (off := 94) (by rw [ek]; decide) (by decide) (yes (by rw [ek]; decide))
      · refine z_tableIn C 113 d_R_takeOperation_6 (by rw [ek]; decide) (by rw [ek]; decide) (off := 107) (by rw [ek]; decide) (by decide) (no (by rw [ek]; decide))
      · refine z_tableIn C 113 d_R_takeOperation_6 (by rw [ek]; decide) (by rw [ek]; decide) (off := 107) (by rw [ek]; decide) (by decide) (no (by rw [ek]; decide))
      · refine z_tableIn C 113 d_R_takeOperation_6 (by rw [ek]; decide) (by rw [ek]; decide) (off := 107) (by rw [ek]; decide) (by decide) (no (by rw [ek]; decide))
      · refine z_tableIn C 113 d_R_takeOperation_6 (by rw [ek]; decide) (by rw [ek]; decide) (off := 107) (by rw [ek]; decide) (by decide) (no (by rw [ek]; decide))
      · refine z_tableIn C 113 d_R_takeOperation_6 (by rw [ek]; decide) (by rw [ek]; decide) (off := 107) (by rw [ek]; decide) (by decide) (no (by rw [ek]; decide))
      · refine z_tableIn C 113 d_R_takeOperation_6 (by rw [ek]; decide) (by rw [ek]; decide) (off := 107) (by rw [ek]; decide) (by decide) (no (by rw [ek]; decide))
      · refine z_tableIn C 113 d_R_takeOperation_6 (by rw [ek]; decide) (by rw [ek]; decide) (off := 107) (by rw [ek]; decide) (by decide) (no (by rw [ek]; decide))
      · refine z_tableIn C 113 d_R_takeOperation_6 (by rw [ek]; decide) (by rw [ek]; decide) (off := 107) (by rw [ek]; decide) (by decide) (no (by rw [ek]; decide))
      · refine z_tableIn C 113 d_R_takeOperation_6 (by rw [ek]; decide) (by rw [ek]; decide) (off := 107) (by rw [ek]; decide) (by decide) (no (by rw [ek]; decide))
      · refine z_tableIn C 113 d_R_takeOperation_6 (by rw [ek]; decide) (by rw [ek]; decide) (off := 107) (by rw [ek]; decide) (by decide) (no (by rw [ek]; decide))
      · refine z_tableIn C 113 d_R_takeOperation_6 (by rw [ek]; decide) (by rw [ek]; decide) (off := 107) (by rw [ek]; decide) (by decide) (no (by rw [ek]; decide))
      · refine z_tableIn C 113 d_R_takeOperation_6 (by rw [ek]; decide) (by rw [ek]; decide) (off := 107) (by rw [ek]; decide) (by decide) (no (by rw [ek]; decide))
      · refine z_tableIn C 100 d_R_takeOperation_6 (by rw [ek]; decide) (by rw [ek]; decide) (off := 94) (by rw [ek]; decide) (by decide) (yes (by rw [ek]; decide))
      · refine z_tableIn C 100 d_R_takeOperation_6 (by rw [ek]; decide) (by rw [ek]; decide) (off := 94) (by rw [ek]; decide) (by decide) (yes (by rw [ek]; decide))
    · refine z_tableOut C 113 d_R_takeOperation_6 ?_ (by decide) (no ?_)
      · have e1 : ∀ a : Nat, a < 100 → (nI a).toInt = (a : Int) := fun a ha => nI_toInt (by omega)
        refine Decidable.byContradiction fun w => q ?_
        have w1 : ¬ (xlk xa p z).toInt < 42 := fun v => w (Or.inl v)
        have w2 : ¬ 61 < (xlk xa p z).toInt := fun v => w (Or.inr v)
        exact ⟨Int32.le_iff_toInt_le.mpr (by rw [show (42 : Int32).toInt = 42 from rfl]; omega), Int32.le_iff_toInt_le.mpr (by rw [show (61 : Int32).toInt = 61 from rfl]; omega)⟩
      · refine Decidable.byContradiction fun w => q ?_
        have w : rIsOp (xlk xa p z) = true := by
          cases h9 : rIsOp (xlk xa p z) with
          | false => exact absurd h9 w
          | true => rfl
        unfold rIsOp at w
        simp only [Bool.or_eq_true, beq_iff_eq] at w
        rcases w with ((((w | w) | w) | w) | w) | w <;> rw [w] <;> decide
  · cases hv.1
end LF2
end
section
/-! what the reading leaves as it is: the expressions below i; an expression makes a node at least -/
def rKp (i : Nat) (s : rS) (r : rR) : Prop := match r with
  | .inl _ => True
  | .inr b => s.2.1 ≤ b.2.1 ∧ ∀ j, j < i → b.2.2.2 j = s.2.2.2 j
section RKP
variable {T : Nat → Int32} {z : Nat}
theorem rKp.of {i : Nat} {a b : rS} {r : rR} (h1 : a.2.1 ≤ b.2.1) (h2 : ∀ j, j < i → b.2.2.2 j = a.2.2.2 j) (g : rKp i b r) : rKp i a r := by
  cases r with
  | inl q => trivial
  | inr c => exact ⟨Nat.le_trans h1 g.1, fun j hj => (g.2 j hj).trans (h2 j hj)⟩
theorem rKp.mono {i k : Nat} {a : rS} {r : rR} (h : i ≤ k) (g : rKp k a r) : rKp i a r := by
  cases r with
  | inl q => trivial
  | inr c => exact ⟨g.1, fun j hj => g.2 j (Nat.lt_of_lt_of_le hj h)⟩
theorem rKp.bind {i : Nat} {a : rS} {x : rR} {f : rS → rR} (h : rKp i a x) (g : ∀ b, a.2.1 ≤ b.2.1 → rKp i b (f b)) : rKp i a (rB x f) := by
  cases x with
  | inl q => trivial
  | inr b => exact rKp.of h.1 h.2 (g b h.1)
theorem rTake_kp {i : Nat} {c : Int32} {s : rS} {f : rS → rR} (g : rKp i (s.1 + 1, s.2) (f (s.1 + 1, s.2))) : rKp i s (rTake T z c s f) := by
  unfold rTake
  split
  · exact rKp.of (b := (s.1 + 1, s.2)) (Nat.le_refl _) (fun _ _ => rfl) g
  · trivial
theorem rBeh_kp {K k i : Nat} {s : rS} {g f : rS → rR} (hg : ∀ b, s.2.1 ≤ b.2.1 → rKp i b (g b)) (hf : ∀ b, s.2.1 ≤ b.2.1 → rKp i b (f b)) : rKp i s (rBeh T z K k i s g f) := by
  have tk : ∀ (c : Int32) (w : rS → rR), (∀ b, s.2.1 ≤ b.2.1 → rKp i b (w b)) → rKp i s (rTake T z c s w) := fun c w hw => rTake_kp (hw _ (Nat.le_refl _))
  have cm : rKp i s (g (s.1 + 1, s.2)) := rKp.of (b := (s.1 + 1, s.2)) (Nat.le_refl _) (fun _ _ => rfl) (hg _ (Nat.le_refl _))
  have ff : rKp i s (f s) := hf s (Nat.le_refl _)
  unfold rBeh
  split
  · split
    · split
      · refine rKp.of (b := rOp i (rlk T z s.1) s) (Nat.le_refl _) (fun j hj => ?_) (hg _ (Nat.le_refl _))
        exact va_up_ne _ _ (by omega)
      · trivial
    · exact tk _ _ hf
  · split
    · split
      · exact tk _ _ hg
      · split
        · exact tk _ _ hg
        · exact tk _ _ hf
    · split
      · split
        · exact tk _ _ hg
        · exact ff
      · split
        · split
          · exact tk _ _ hg
          · exact ff
        · split
          · split
            · exact cm
            · exact tk _ _ hf
          · split
            · split
              · exact tk _ _ hg
              · split
                · exact cm
                · exact tk _ _ hf
            · split
              · split
                · exact cm
                · exact tk _ _ hf
              · exact ff
theorem rParts_kp {R : rS → rR} (hR : ∀ s, rKp s.2.1 s (R s)) {K i : Nat} {vw : Option (Int32 × Nat)} : ∀ (m k : Nat) (s : rS), i < s.2.1 → rKp i s (rParts T z R K i vw m k s)
  | 0, _, _, _ => trivial
  | m + 1, k, s, hs => by
    unfold rParts
    refine rKp.bind (rKp.mono (Nat.le_of_lt hs) (hR s)) (fun b hb => ?_)
    refine rKp.of (b := rAdd i s.2.1 b) (Nat.le_refl _) (fun j hj => va_up_ne _ _ (by omega)) ?_
    refine rBeh_kp (fun c hc => rParts_kp hR m (k + 1) c (Nat.lt_of_lt_of_le (Nat.lt_of_lt_of_le hs hb) hc)) (fun c hc => ⟨Nat.le_refl _, fun j hj => ?_⟩)
    cases vw with
    | none => rfl
    | some x => exact va_up_ne _ _ (by omega)
def rKs (s : rS) (r : rR) : Prop := match r with
  | .inl _ => True
  | .inr b => s.2.1 < b.2.1 ∧ ∀ j, j < s.2.1 → b.2.2.2 j = s.2.2.2 j
theorem rKs.kp {s : rS} {r : rR} (h : rKs s r) : rKp s.2.1 s r := by
  cases r with
  | inl q => trivial
  | inr b => exact ⟨Nat.le_of_lt h.1, h.2⟩
theorem rNode_ks {b s : rS} {r : rR} (h1 : b.2.1 = s.2.1 + 1) (h2 : ∀ j, j < s.2.1 → b.2.2.2 j = s.2.2.2 j) (g : rKp s.2.1 b r) : rKs s r := by
  cases r with
  | inl q => trivial
  | inr c => exact ⟨by have := g.1; omega, fun j hj => (g.2 j hj).trans (h2 j hj)⟩
theorem rdE_ks : ∀ (d : Nat) (s : rS), rKs s (rdE T z d s)
  | 0, s => trivial
  | d + 1, s => by
    have ih : ∀ (K i : Nat) (vw : Option (Int32 × Nat)) (s : rS), i < s.2.1 → rKp i s (rParts T z (rdE T z d) K i vw 4 0 s) := fun K i vw s hs => rParts_kp (fun s => (rdE_ks d s).kp) 4 0 s hs
    have nd : ∀ (k w q : Nat) (x : Int32) (e : eN), rKs s (.inr (rGo (rNode k x w e s) q)) := fun k w q x e => ⟨Nat.lt_succ_self _, fun j hj => va_up_ne _ _ (Nat.ne_of_lt hj)⟩
    have np : ∀ (k w q K : Nat) (x : Int32) (e : eN) (vw : Option (Int32 × Nat)), rKs s (rParts T z (rdE T z d) K s.2.1 vw 4 0 (rGo (rNode k x w e s) q)) := fun k w q K x e vw => rNode_ks (b := rGo (rNode k x w e s) q) rfl (fun j hj => va_up_ne _ _ (Nat.ne_of_lt hj)) (ih _ _ _ _ (Nat.lt_succ_self _))
    have lt : ∀ (c2 : Int32) (K : Nat) (e : Int32 → eN), rKs s (rLet T z 97 116 (rGo s (s.1 + 1)) fun v s1 => rTake T z c2 s1 fun s2 => rParts T z (rdE T z d) K s.2.1 none 4 0 (rNode K v s.1 (e v) s2)) := fun c2 K e => by
      unfold rLet rTake
      split
      · dsimp only [rGo]
        split
        · exact rNode_ks (b := rNode K _ s.1 (e _) (s.1 + 1 + 1 + 1, s.2)) rfl (fun j hj => va_up_ne _ _ (Nat.ne_of_lt hj)) (ih _ _ _ _ (Nat.lt_succ_self _))
        · trivial
      · trivial
    have lf : ∀ (K : Nat) (e : Int32 → eN), rKs s (rLet T z 97 116 (rGo s (s.1 + 1)) fun v s1 => .inr (rNode K v s.1 (e v) s1)) := fun K e => by
      unfold rLet
      split
      · exact ⟨Nat.lt_succ_self _, fun j hj => va_up_ne _ _ (Nat.ne_of_lt hj)⟩
      · trivial
    unfold rdE
    by_cases q : 48 ≤ rlk T z s.1 ∧ rlk T z s.1 ≤ 57
    · rw [if_pos q]; exact nd _ _ _ _ _
    rw [if_neg q]
    by_cases q : 97 ≤ rlk T z s.1 ∧ rlk T z s.1 ≤ 116
    · rw [if_pos q]
      by_cases c : rlk T z (s.1 + 1) = 91
      · rw [if_pos c]; exact np _ _ _ _ _ _ _
      rw [if_neg c]
      by_cases c : rlk T z (s.1 + 1) = 123
      · rw [if_pos c]; exact np _ _ _ _ _ _ _
      rw [if_neg c]; exact nd _ _ _ _ _
    rw [if_neg q]
    by_cases q : 65 ≤ rlk T z s.1 ∧ rlk T z s.1 ≤ 72
    · rw [if_pos q]
      by_cases c : rlk T z (s.1 + 1) = 40
      · rw [if_pos c]
        by_cases c' : rlk T z (s.1 + 2) = 41
        · rw [if_pos c']; exact nd _ _ _ _ _
        · rw [if_neg c']; exact np _ _ _ _ _ _ _
      · rw [if_neg c]; trivial
    rw [if_neg q]
    by_cases c : rlk T z s.1 = 40
    · rw [if_pos c]; exact np _ _ _ _ _ _ _
    rw [if_neg c]
    by_cases c : rlk T z s.1 = 63
    · rw [if_pos c]; exact np _ _ _ _ _ _ _
    rw [if_neg c]
    by_cases c : rlk T z s.1 = 64
    · rw [if_pos c]; exact np _ _ _ _ _ _ _
    rw [if_neg c]
    by_cases c : rlk T z s.1 = 37
    · rw [if_pos c]; exact np _ _ _ _ _ _ _
    rw [if_neg c]
    by_cases c : rlk T z s.1 = 38
    · rw [if_pos c]; exact lt 61 4 (fun v => eVar (rE0 4 s.1) v (nI (s.1 + 1)))
    rw [if_neg c]
    by_cases c : rlk T z s.1 = 126
    · rw [if_pos c]; exact lt 59 12 (fun v => eVar (rE0 12 s.1) v (nI (s.1 + 1)))
    rw [if_neg c]
    by_cases c : rlk T z s.1 = 35
    · rw [if_pos c]; exact lf 9 (fun v => eVar (rE0 9 s.1) v (nI (s.1 + 1)))
    rw [if_neg c]
    by_cases c : rlk T z s.1 = 94
    · rw [if_pos c]; exact lf 10 (fun v => eVar (rE0 10 s.1) v (nI (s.1 + 1)))
    rw [if_neg c]
    by_cases c : rlk T z s.1 = 36
    · rw [if_pos c]; exact lf 11 (fun v => eVar (rE0 11 s.1) v (nI (s.1 + 1)))
    rw [if_neg c]
    trivial
end RKP
end
section
/-! a part of an expression being read, from any of the readers -/
def rHyp (G : zG) (l : Launch) (d : Nat) : Prop := ∀ (B N r p z : Nat) (σ : zS) (xs : mS) (xr : Int64) (xa : mA) (xl : mL) (xf : xF) (A : mA) (E : Nat → eN) (mc ms : Nat), rPre B N r p z σ xa → rCe p (rdE (xa 1) z d (p, N, A, E)) ≤ mc → rSl p (rdE (xa 1) z d (p, N, A, E)) ≤ ms →
  MetZ G l y_R_readExpression b_R_readExpression 2 (some (.object "SoleArrays$Expression")) [] (9 + 4 * d) mc ms [.ref r, .int (nI (9 - d))] (B + 2 * N) (xOv xs xr xa xl xf (eOv B N E σ)) (rPost B N r z σ xs xr xa xl xf (rdE (xa 1) z d (p, N, A, E)))
section ZPT
variable {G : zG} {K : zK} {y : MethodName} {cc : ByteArray} {nL : Nat} {ret : Option FieldType} {pc k1 k2 B r z : Nat} {lv : List (Nat × Value)} {σ : zS} {xs : mS} {xr : Int64} {xa : mA} {xl : mL} {xf : xF}
theorem rIll.low {c : va_E} {q n' : Nat} {o : Outcome} {σ' : zS} (h : rIll B r (va_up σ r c) xs xr xa xl xf q o n' σ') : rIll B r σ xs xr xa xl xf q o n' σ' := by
  obtain ⟨x, τ, h1, h2, h3, h4, h5, h6, h7⟩ := h
  exact ⟨x, τ, h1, h2, h3, h4, h5, h6, fun k hk => (h7 k hk).trans (va_up_ne _ _ (by omega))⟩
theorem z_part (C : zC G K y cc nL ret []) (hy : y.cls = "SoleArrays$Reader") {d i k : Nat} (hd8 : d ≤ 8) (RX : rHyp G (kl K) d) {ja jd : Fin 4} (s : rS)
    (e1 : decode cc pc = .ok (.aload_n ja, 1)) (e2 : decode cc (pc + 1) = .ok (.aload_n 0, 1)) (e3 : decode cc (pc + 2) = .ok (.iload_n jd, 1)) (e4 : decode cc (pc + 3) = .ok (.iconst 1, 1)) (e5 : decode cc (pc + 4) = .ok (.iadd, 1)) (e6 : decode cc (pc + 5) = .ok (.invokevirtual 53, 3)) (e7 : decode cc (pc + 8) = .ok (.invokevirtual 154, 3))
    (l1 : zl lv (ja : Nat) = some (.ref (B + 2 * i))) (l0 : zl lv 0 = some (.ref r)) (l2 : zl lv (jd : Nat) = some (.int (nI (8 - d))))
    (hp : rPre B s.2.1 r s.1 z (va_up σ r (rdC s.1 z)) xa) (hi : i < s.2.1) (hk : (s.2.2.2 i).2.2.2.1 = k) (hk4 : k < 4)
    (hfr : 9 + 4 * d + 1 ≤ (kR K).frames) (hlo : 8 + (2 + 11) + 60 * (9 + 4 * d) ≤ (kR K).locals) (hce : k1 + rCe s.1 (rdE (xa 1) z d s) ≤ (kR K).cells) (hsl : k2 + rSl s.1 (rdE (xa 1) z d s) ≤ (kR K).slots) (hmc : (kR K).cells ≤ kmc K) (hms : (kR K).slots ≤ kms K)
    (kI : ∀ q, rdE (xa 1) z d s = .inl q → ∀ o n' σ', rIll B r σ xs xr xa xl xf q o n' σ' → kpo K o n' σ')
    (kO : ∀ s2, rdE (xa 1) z d s = .inr s2 → Z G K (B + 2 * s2.2.1) (xOv xs xr xa xl xf (eOv B s2.2.1 (rAdd i s.2.1 s2).2.2.2 (va_up σ r (rdC s2.1 z)))) (k1 + 2 * (s2.1 - s.1)) (k2 + 14 * (s2.1 - s.1)) (pc + 11) lv []) :
    Z G K (B + 2 * s.2.1) (xOv xs xr xa xl xf (eOv B s.2.1 s.2.2.2 (va_up σ r (rdC s.1 z)))) k1 k2 pc lv [] := by
  have hp0 := hp
  obtain ⟨hr, hrB, hB, hrd0, hz, hpz, hN, hc⟩ := hp
  have hrd : xOv xs xr xa xl xf (eOv B s.2.1 s.2.2.2 (va_up σ r (rdC s.1 z))) r = .inr (4, [.ref 1, .int (nI z), .ref 2, .int (nI s.1)]) := (xOv_at (by omega)).trans ((eOv_lo hrB).trans hrd0)
  refine z_aload_n C (pc + 1) e1 rfl l1 ?_
  refine z_aload_n C (pc + 2) e2 rfl l0 ?_
  refine z_iload_n C (pc + 3) e3 rfl l2 ?_
  refine z_iconst C (pc + 4) e4 rfl 1 (by decide) ?_
  refine z_iadd C (pc + 5) e5 rfl ?_
  rw [nI_1, show 8 - d + 1 = 9 - d by omega]
  refine z_call C (pc + 8) (RX B s.2.1 r s.1 z (va_up σ r (rdC s.1 z)) xs xr xa xl xf s.2.2.1 s.2.2.2 (rCe s.1 (rdE (xa 1) z d s)) (rSl s.1 (rdE (xa 1) z d s)) hp0 (Nat.le_refl _) (Nat.le_refl _)) w_R_readExpression ini_R e6 rfl (z_goV (As := [.int (nI (9 - d))]) C (by rw [hy]; exact l_R_53) w_R_readExpression e6 (by omega) hrd rfl rfl) (Nat.le_of_ble_eq_true rfl) hfr hlo hce hsl (fun v n' σ' hv => ?_) (fun x n' σ' hv => ?_)
  · have hv : rPost B s.2.1 r z (va_up σ r (rdC s.1 z)) xs xr xa xl xf (rdE (xa 1) z d s) (.returned v) n' σ' := hv
    cases hR : rdE (xa 1) z d s with
    | inl q =>
      rw [hR] at hv
      obtain ⟨x, τ, h1, -⟩ := hv
      cases h1
    | inr s2 =>
      rw [hR] at hv
      obtain ⟨h1, rfl, rfl⟩ := hv
      cases h1
      have ks := rdE_ks (T := xa 1) (z := z) d s
      rw [hR] at ks
      obtain ⟨ks1, ks2⟩ := ks
      have hg := rdE_pos (T := xa 1) (d := d) hpz hR
      rw [va_up2]
      have hN2 : s2.2.1 ≤ s2.1 := by omega
      refine z_call C (pc + 11) (c_E_add (i := i) (j := s.2.1) (k := k) (by omega) rfl (by omega) ks1 (by rw [ks2 i hi]; exact hk) hk4) w_E_add ini_E e7 rfl (z_goV (As := [.ref (B + 2 * s.2.1)]) C (by rw [hy]; exact l_R_154) w_E_add e7 (by omega) ((xOv_at (by omega)).trans (eOv_obj (by omega))) rfl rfl) (Nat.le_of_ble_eq_true rfl) (by omega) (by omega) (by rw [hR] at hce; show k1 + rCe s.1 (.inr s2) + 0 ≤ _; omega) (by rw [hR] at hsl; show k2 + rSl s.1 (.inr s2) + 0 ≤ _; omega) (fun v n' σ' hv => ?_) (fun x n' σ' hv => ?_)
      · obtain ⟨h1, rfl, rfl⟩ := hv
        cases h1
        exact kO s2 hR
      · cases hv.1
  · have hv : rPost B s.2.1 r z (va_up σ r (rdC s.1 z)) xs xr xa xl xf (rdE (xa 1) z d s) (.threw x) n' σ' := hv
    cases hR : rdE (xa 1) z d s with
    | inl q =>
      rw [hR] at hv
      exact zx_out C (fun h hh => nomatch hh) (kI q hR _ _ _ (rIll.low hv)) (Nat.le_trans (by rw [hR] at hce; exact hce) hmc) (Nat.le_trans (by rw [hR] at hsl; exact hsl) hms)
    | inr s2 =>
      rw [hR] at hv
      obtain ⟨h1, -⟩ := hv
      cases h1
/-- a character that must stand here -/
theorem z_take (C : zC G K y cc nL ret []) (hy : y.cls = "SoleArrays$Reader") {c0 : Int} (c : Int32) (hc0 : (Int8.ofInt c0).toInt32 = c) (s : rS)
    (e1 : decode cc pc = .ok (.aload_n 0, 1)) (e2 : decode cc (pc + 1) = .ok (.bipush c0, 2)) (e3 : decode cc (pc + 3) = .ok (.invokevirtual 35, 3)) (l0 : zl lv 0 = some (.ref r))
    (hp : rPre B 0 r s.1 z (va_up σ r (rdC s.1 z)) xa) (hM : s.2.1 ≤ 150) (hfr : 8 ≤ (kR K).frames) (hlo : 8 + (2 + 11) + 60 * 7 ≤ (kR K).locals) (hmc : (kR K).cells ≤ kmc K) (hms : (kR K).slots ≤ kms K)
    (hce : k1 ≤ (kR K).cells ∧ k2 ≤ (kR K).slots) (hce2 : rlk (xa 1) z s.1 ≠ c → k1 + 1 ≤ (kR K).cells ∧ k2 + 6 ≤ (kR K).slots)
    (kI : rlk (xa 1) z s.1 ≠ c → ∀ o n' σ', rIll B r σ xs xr xa xl xf s.1 o n' σ' → kpo K o n' σ')
    (kO : rlk (xa 1) z s.1 = c → Z G K (B + 2 * s.2.1) (xOv xs xr xa xl xf (eOv B s.2.1 s.2.2.2 (va_up σ r (rdC (s.1 + 1) z)))) k1 k2 (pc + 6) lv []) :
    Z G K (B + 2 * s.2.1) (xOv xs xr xa xl xf (eOv B s.2.1 s.2.2.2 (va_up σ r (rdC s.1 z)))) k1 k2 pc lv [] := by
  obtain ⟨hr, hrB, hB, hrd0, hz, hpz, hN, hc⟩ := hp
  have hrd1 : eOv B s.2.1 s.2.2.2 (va_up σ r (rdC s.1 z)) r = rdC s.1 z := (eOv_lo hrB).trans hrd0
  have hrd : xOv xs xr xa xl xf (eOv B s.2.1 s.2.2.2 (va_up σ r (rdC s.1 z))) r = .inr (4, [.ref 1, .int (nI z), .ref 2, .int (nI s.1)]) := (xOv_at (by omega)).trans hrd1
  refine z_aload_n C (pc + 1) e1 rfl l0 ?_
  refine z_bipush C (pc + 3) e2 rfl c hc0 ?_
  by_cases q : rlk (xa 1) z s.1 = c
  · refine z_call C (pc + 6) (c_R_take (p := s.1) (z := z) (by omega) (by omega) (by omega) (by omega) hrd1 hz (by omega) hc c (mc := 0) (ms := 0) (fun w => absurd q w)) w_R_take ini_R e3 rfl (z_goV (As := [.int c]) C (by rw [hy]; exact l_R_35) w_R_take e3 (by omega) hrd rfl rfl) (Nat.le_of_ble_eq_true rfl) (by omega) (by omega) (by omega) (by omega) (fun v n' σ' hv => ?_) (fun x n' σ' hv => ?_)
    · rcases hv with ⟨-, h1, rfl, rfl⟩ | ⟨w, -⟩
      · cases h1
        rw [eOv_low hrB, va_up2]
        exact kO q
      · exact absurd q w
    · rcases hv with ⟨-, h1, -⟩ | ⟨w, -⟩
      · cases h1
      · exact absurd q w
  · have hb := hce2 q
    refine z_call C (pc + 6) (c_R_take (p := s.1) (z := z) (by omega) (by omega) (by omega) (by omega) hrd1 hz (by omega) hc c (mc := 1) (ms := 6) (fun _ => ⟨by omega, by omega⟩)) w_R_take ini_R e3 rfl (z_goV (As := [.int c]) C (by rw [hy]; exact l_R_35) w_R_take e3 (by omega) hrd rfl rfl) (Nat.le_of_ble_eq_true rfl) (by omega) (by omega) (by omega) (by omega) (fun v n' σ' hv => ?_) (fun x n' σ' hv => ?_)
    · rcases hv with ⟨w, -⟩ | ⟨-, h1, -⟩
      · exact absurd w q
      · cases h1
    · rcases hv with ⟨w, -⟩ | ⟨-, h1, rfl, rfl⟩
      · exact absurd w q
      · cases h1
        exact zx_out C (fun h hh => nomatch hh) (kI q _ _ _ (rIll_mk hrB (by omega))) (by omega) (by omega)
end ZPT
end
section
theorem d_R_readNewRow_0 : decode b_R_readNewRow 0 = .ok (.new 121, 3) := by decide +kernel
theorem d_R_readNewRow_3 : decode b_R_readNewRow 3 = .ok (.dup, 1) := by decide +kernel
theorem d_R_readNewRow_4 : decode b_R_readNewRow 4 = .ok (.getstatic 186, 3) := by decide +kernel
theorem d_R_readNewRow_7 : decode b_R_readNewRow 7 = .ok (.aload_n 0, 1) := by decide +kernel
theorem d_R_readNewRow_8 : decode b_R_readNewRow 8 = .ok (.getfield 9, 3) := by decide +kernel
theorem d_R_readNewRow_11 : decode b_R_readNewRow 11 = .ok (.invokespecial 126, 3) := by decide +kernel
theorem d_R_readNewRow_14 : decode b_R_readNewRow 14 = .ok (.astore_n 2, 1) := by decide +kernel
theorem d_R_readNewRow_15 : decode b_R_readNewRow 15 = .ok (.aload_n 0, 1) := by decide +kernel
theorem d_R_readNewRow_16 : decode b_R_readNewRow 16 = .ok (.bipush 64, 2) := by decide +kernel
theorem d_R_readNewRow_18 : decode b_R_readNewRow 18 = .ok (.invokevirtual 35, 3) := by decide +kernel
theorem d_R_readNewRow_21 : decode b_R_readNewRow 21 = .ok (.aload_n 2, 1) := by decide +kernel
theorem d_R_readNewRow_22 : decode b_R_readNewRow 22 = .ok (.aload_n 0, 1) := by decide +kernel
theorem d_R_readNewRow_23 : decode b_R_readNewRow 23 = .ok (.iload_n 1, 1) := by decide +kernel
theorem d_R_readNewRow_24 : decode b_R_readNewRow 24 = .ok (.iconst 1, 1) := by decide +kernel
theorem d_R_readNewRow_25 : decode b_R_readNewRow 25 = .ok (.iadd, 1) := by decide +kernel
theorem d_R_readNewRow_26 : decode b_R_readNewRow 26 = .ok (.invokevirtual 53, 3) := by decide +kernel
theorem d_R_readNewRow_29 : decode b_R_readNewRow 29 = .ok (.invokevirtual 154, 3) := by decide +kernel
theorem d_R_readNewRow_32 : decode b_R_readNewRow 32 = .ok (.aload_n 2, 1) := by decide +kernel
theorem d_R_readNewRow_33 : decode b_R_readNewRow 33 = .ok (.areturn, 1) := by decide +kernel
theorem d_R_readGivingUp_0 : decode b_R_readGivingUp 0 = .ok (.aload_n 0, 1) := by decide +kernel
theorem d_R_readGivingUp_1 : decode b_R_readGivingUp 1 = .ok (.getstatic 183, 3) := by decide +kernel
theorem d_R_readGivingUp_4 : decode b_R_readGivingUp 4 = .ok (.invokevirtual 108, 3) := by decide +kernel
theorem d_R_readGivingUp_7 : decode b_R_readGivingUp 7 = .ok (.astore_n 2, 1) := by decide +kernel
theorem d_R_readGivingUp_8 : decode b_R_readGivingUp 8 = .ok (.aload_n 0, 1) := by decide +kernel
theorem d_R_readGivingUp_9 : decode b_R_readGivingUp 9 = .ok (.bipush 59, 2) := by decide +kernel
theorem d_R_readGivingUp_11 : decode b_R_readGivingUp 11 = .ok (.invokevirtual 35, 3) := by decide +kernel
theorem d_R_readGivingUp_14 : decode b_R_readGivingUp 14 = .ok (.aload_n 2, 1) := by decide +kernel
theorem d_R_readGivingUp_15 : decode b_R_readGivingUp 15 = .ok (.aload_n 0, 1) := by decide +kernel
theorem d_R_readGivingUp_16 : decode b_R_readGivingUp 16 = .ok (.iload_n 1, 1) := by decide +kernel
theorem d_R_readGivingUp_17 : decode b_R_readGivingUp 17 = .ok (.iconst 1, 1) := by decide +kernel
theorem d_R_readGivingUp_18 : decode b_R_readGivingUp 18 = .ok (.iadd, 1) := by decide +kernel
theorem d_R_readGivingUp_19 : decode b_R_readGivingUp 19 = .ok (.invokevirtual 53, 3) := by decide +kernel
theorem d_R_readGivingUp_22 : decode b_R_readGivingUp 22 = .ok (.invokevirtual 154, 3) := by decide +kernel
theorem d_R_readGivingUp_25 : decode b_R_readGivingUp 25 = .ok (.aload_n 2, 1) := by decide +kernel
theorem d_R_readGivingUp_26 : decode b_R_readGivingUp 26 = .ok (.areturn, 1) := by decide +kernel
theorem d_R_readNewTable_0 : decode b_R_readNewTable 0 = .ok (.new 121, 3) := by decide +kernel
theorem d_R_readNewTable_3 : decode b_R_readNewTable 3 = .ok (.dup, 1) := by decide +kernel
theorem d_R_readNewTable_4 : decode b_R_readNewTable 4 = .ok (.getstatic 189, 3) := by decide +kernel
theorem d_R_readNewTable_7 : decode b_R_readNewTable 7 = .ok (.aload_n 0, 1) := by decide +kernel
theorem d_R_readNewTable_8 : decode b_R_readNewTable 8 = .ok (.getfield 9, 3) := by decide +kernel
theorem d_R_readNewTable_11 : decode b_R_readNewTable 11 = .ok (.invokespecial 126, 3) := by decide +kernel
theorem d_R_readNewTable_14 : decode b_R_readNewTable 14 = .ok (.astore_n 2, 1) := by decide +kernel
theorem d_R_readNewTable_15 : decode b_R_readNewTable 15 = .ok (.aload_n 0, 1) := by decide +kernel
theorem d_R_readNewTable_16 : decode b_R_readNewTable 16 = .ok (.bipush 37, 2) := by decide +kernel
theorem d_R_readNewTable_18 : decode b_R_readNewTable 18 = .ok (.invokevirtual 35, 3) := by decide +kernel
theorem d_R_readNewTable_21 : decode b_R_readNewTable 21 = .ok (.aload_n 2, 1) := by decide +kernel
theorem d_R_readNewTable_22 : decode b_R_readNewTable 22 = .ok (.aload_n 0, 1) := by decide +kernel
theorem d_R_readNewTable_23 : decode b_R_readNewTable 23 = .ok (.iload_n 1, 1) := by decide +kernel
theorem d_R_readNewTable_24 : decode b_R_readNewTable 24 = .ok (.iconst 1, 1) := by decide +kernel
theorem d_R_readNewTable_25 : decode b_R_readNewTable 25 = .ok (.iadd, 1) := by decide +kernel
theorem d_R_readNewTable_26 : decode b_R_readNewTable 26 = .ok (.invokevirtual 53, 3) := by decide +kernel
theorem d_R_readNewTable_29 : decode b_R_readNewTable 29 = .ok (.invokevirtual 154, 3) := by decide +kernel
theorem d_R_readNewTable_32 : decode b_R_readNewTable 32 = .ok (.aload_n 0, 1) := by decide +kernel
theorem d_R_readNewTable_33 : decode b_R_readNewTable 33 = .ok (.bipush 44, 2) := by decide +kernel
theorem d_R_readNewTable_35 : decode b_R_readNewTable 35 = .ok (.invokevirtual 35, 3) := by decide +kernel
theorem d_R_readNewTable_38 : decode b_R_readNewTable 38 = .ok (.aload_n 2, 1) := by decide +kernel
theorem d_R_readNewTable_39 : decode b_R_readNewTable 39 = .ok (.aload_n 0, 1) := by decide +kernel
theorem d_R_readNewTable_40 : decode b_R_readNewTable 40 = .ok (.iload_n 1, 1) := by decide +kernel
theorem d_R_readNewTable_41 : decode b_R_readNewTable 41 = .ok (.iconst 1, 1) := by decide +kernel
theorem d_R_readNewTable_42 : decode b_R_readNewTable 42 = .ok (.iadd, 1) := by decide +kernel
theorem d_R_readNewTable_43 : decode b_R_readNewTable 43 = .ok (.invokevirtual 53, 3) := by decide +kernel
theorem d_R_readNewTable_46 : decode b_R_readNewTable 46 = .ok (.invokevirtual 154, 3) := by decide +kernel
theorem d_R_readNewTable_49 : decode b_R_readNewTable 49 = .ok (.aload_n 2, 1) := by decide +kernel
theorem d_R_readNewTable_50 : decode b_R_readNewTable 50 = .ok (.areturn, 1) := by decide +kernel
theorem d_R_readBinding_0 : decode b_R_readBinding 0 = .ok (.aload_n 0, 1) := by decide +kernel
theorem d_R_readBinding_1 : decode b_R_readBinding 1 = .ok (.getstatic 180, 3) := by decide +kernel
theorem d_R_readBinding_4 : decode b_R_readBinding 4 = .ok (.invokevirtual 108, 3) := by decide +kernel
theorem d_R_readBinding_7 : decode b_R_readBinding 7 = .ok (.astore_n 2, 1) := by decide +kernel
theorem d_R_readBinding_8 : decode b_R_readBinding 8 = .ok (.aload_n 0, 1) := by decide +kernel
theorem d_R_readBinding_9 : decode b_R_readBinding 9 = .ok (.bipush 61, 2) := by decide +kernel
theorem d_R_readBinding_11 : decode b_R_readBinding 11 = .ok (.invokevirtual 35, 3) := by decide +kernel
theorem d_R_readBinding_14 : decode b_R_readBinding 14 = .ok (.aload_n 2, 1) := by decide +kernel
theorem d_R_readBinding_15 : decode b_R_readBinding 15 = .ok (.aload_n 0, 1) := by decide +kernel
theorem d_R_readBinding_16 : decode b_R_readBinding 16 = .ok (.iload_n 1, 1) := by decide +kernel
theorem d_R_readBinding_17 : decode b_R_readBinding 17 = .ok (.iconst 1, 1) := by decide +kernel
theorem d_R_readBinding_18 : decode b_R_readBinding 18 = .ok (.iadd, 1) := by decide +kernel
theorem d_R_readBinding_19 : decode b_R_readBinding 19 = .ok (.invokevirtual 53, 3) := by decide +kernel
theorem d_R_readBinding_22 : decode b_R_readBinding 22 = .ok (.invokevirtual 154, 3) := by decide +kernel
theorem d_R_readBinding_25 : decode b_R_readBinding 25 = .ok (.aload_n 0, 1) := by decide +kernel
theorem d_R_readBinding_26 : decode b_R_readBinding 26 = .ok (.bipush 59, 2) := by decide +kernel
theorem d_R_readBinding_28 : decode b_R_readBinding 28 = .ok (.invokevirtual 35, 3) := by decide +kernel
theorem d_R_readBinding_31 : decode b_R_readBinding 31 = .ok (.aload_n 2, 1) := by decide +kernel
theorem d_R_readBinding_32 : decode b_R_readBinding 32 = .ok (.aload_n 0, 1) := by decide +kernel
theorem d_R_readBinding_33 : decode b_R_readBinding 33 = .ok (.iload_n 1, 1) := by decide +kernel
theorem d_R_readBinding_34 : decode b_R_readBinding 34 = .ok (.iconst 1, 1) := by decide +kernel
theorem d_R_readBinding_35 : decode b_R_readBinding 35 = .ok (.iadd, 1) := by decide +kernel
theorem d_R_readBinding_36 : decode b_R_readBinding 36 = .ok (.invokevirtual 53, 3) := by decide +kernel
theorem d_R_readBinding_39 : decode b_R_readBinding 39 = .ok (.invokevirtual 154, 3) := by decide +kernel
theorem d_R_readBinding_42 : decode b_R_readBinding 42 = .ok (.aload_n 2, 1) := by decide +kernel
theorem d_R_readBinding_43 : decode b_R_readBinding 43 = .ok (.areturn, 1) := by decide +kernel
theorem d_R_readChoice_0 : decode b_R_readChoice 0 = .ok (.new 121, 3) := by decide +kernel
theorem d_R_readChoice_3 : decode b_R_readChoice 3 = .ok (.dup, 1) := by decide +kernel
theorem d_R_readChoice_4 : decode b_R_readChoice 4 = .ok (.getstatic 177, 3) := by decide +kernel
theorem d_R_readChoice_7 : decode b_R_readChoice 7 = .ok (.aload_n 0, 1) := by decide +kernel
theorem d_R_readChoice_8 : decode b_R_readChoice 8 = .ok (.getfield 9, 3) := by decide +kernel
theorem d_R_readChoice_11 : decode b_R_readChoice 11 = .ok (.invokespecial 126, 3) := by decide +kernel
theorem d_R_readChoice_14 : decode b_R_readChoice 14 = .ok (.astore_n 2, 1) := by decide +kernel
theorem d_R_readChoice_15 : decode b_R_readChoice 15 = .ok (.aload_n 0, 1) := by decide +kernel
theorem d_R_readChoice_16 : decode b_R_readChoice 16 = .ok (.bipush 63, 2) := by decide +kernel
theorem d_R_readChoice_18 : decode b_R_readChoice 18 = .ok (.invokevirtual 35, 3) := by decide +kernel
theorem d_R_readChoice_21 : decode b_R_readChoice 21 = .ok (.aload_n 2, 1) := by decide +kernel
theorem d_R_readChoice_22 : decode b_R_readChoice 22 = .ok (.aload_n 0, 1) := by decide +kernel
theorem d_R_readChoice_23 : decode b_R_readChoice 23 = .ok (.iload_n 1, 1) := by decide +kernel
theorem d_R_readChoice_24 : decode b_R_readChoice 24 = .ok (.iconst 1, 1) := by decide +kernel
theorem d_R_readChoice_25 : decode b_R_readChoice 25 = .ok (.iadd, 1) := by decide +kernel
theorem d_R_readChoice_26 : decode b_R_readChoice 26 = .ok (.invokevirtual 53, 3) := by decide +kernel
theorem d_R_readChoice_29 : decode b_R_readChoice 29 = .ok (.invokevirtual 154, 3) := by decide +kernel
theorem d_R_readChoice_32 : decode b_R_readChoice 32 = .ok (.aload_n 0, 1) := by decide +kernel
theorem d_R_readChoice_33 : decode b_R_readChoice 33 = .ok (.bipush 40, 2) := by decide +kernel
theorem d_R_readChoice_35 : decode b_R_readChoice 35 = .ok (.invokevirtual 35, 3) := by decide +kernel
theorem d_R_readChoice_38 : decode b_R_readChoice 38 = .ok (.aload_n 2, 1) := by decide +kernel
theorem d_R_readChoice_39 : decode b_R_readChoice 39 = .ok (.aload_n 0, 1) := by decide +kernel
theorem d_R_readChoice_40 : decode b_R_readChoice 40 = .ok (.iload_n 1, 1) := by decide +kernel
theorem d_R_readChoice_41 : decode b_R_readChoice 41 = .ok (.iconst 1, 1) := by decide +kernel
theorem d_R_readChoice_42 : decode b_R_readChoice 42 = .ok (.iadd, 1) := by decide +kernel
theorem d_R_readChoice_43 : decode b_R_readChoice 43 = .ok (.invokevirtual 53, 3) := by decide +kernel
theorem d_R_readChoice_46 : decode b_R_readChoice 46 = .ok (.invokevirtual 154, 3) := by decide +kernel
theorem d_R_readChoice_49 : decode b_R_readChoice 49 = .ok (.aload_n 0, 1) := by decide +kernel
theorem d_R_readChoice_50 : decode b_R_readChoice 50 = .ok (.bipush 124, 2) := by decide +kernel
theorem d_R_readChoice_52 : decode b_R_readChoice 52 = .ok (.invokevirtual 35, 3) := by decide +kernel
theorem d_R_readChoice_55 : decode b_R_readChoice 55 = .ok (.aload_n 2, 1) := by decide +kernel
theorem d_R_readChoice_56 : decode b_R_readChoice 56 = .ok (.aload_n 0, 1) := by decide +kernel
theorem d_R_readChoice_57 : decode b_R_readChoice 57 = .ok (.iload_n 1, 1) := by decide +kernel
theorem d_R_readChoice_58 : decode b_R_readChoice 58 = .ok (.iconst 1, 1) := by decide +kernel
theorem d_R_readChoice_59 : decode b_R_readChoice 59 = .ok (.iadd, 1) := by decide +kernel
theorem d_R_readChoice_60 : decode b_R_readChoice 60 = .ok (.invokevirtual 53, 3) := by decide +kernel
theorem d_R_readChoice_63 : decode b_R_readChoice 63 = .ok (.invokevirtual 154, 3) := by decide +kernel
theorem d_R_readChoice_66 : decode b_R_readChoice 66 = .ok (.aload_n 0, 1) := by decide +kernel
theorem d_R_readChoice_67 : decode b_R_readChoice 67 = .ok (.bipush 41, 2) := by decide +kernel
theorem d_R_readChoice_69 : decode b_R_readChoice 69 = .ok (.invokevirtual 35, 3) := by decide +kernel
theorem d_R_readChoice_72 : decode b_R_readChoice 72 = .ok (.aload_n 2, 1) := by decide +kernel
theorem d_R_readChoice_73 : decode b_R_readChoice 73 = .ok (.areturn, 1) := by decide +kernel
theorem sf_186 : Cond.fieldLink "SoleArrays$Reader" 186 "SoleArrays$Form" "NEW_ROW" "LSoleArrays$Form;" ∈ zTb := zt3 38 (by decide +kernel) rfl
theorem sf_189 : Cond.fieldLink "SoleArrays$Reader" 189 "SoleArrays$Form" "NEW_TABLE" "LSoleArrays$Form;" ∈ zTb := zt3 44 (by decide +kernel) rfl
theorem sf_177 : Cond.fieldLink "SoleArrays$Reader" 177 "SoleArrays$Form" "CHOICE" "LSoleArrays$Form;" ∈ zTb := zt3 22 (by decide +kernel) rfl
section CMP0
variable {T : Nat → Int32} {z p : Nat}
theorem rCe_ge {a : rS} {res : rR} (h : rRes z a res) (hp : p ≤ a.1) : 2 * (a.1 - p) ≤ rCe p res ∧ 14 * (a.1 - p) ≤ rSl p res := by
  cases res with
  | inl q =>
    have h1 : a.1 ≤ q := h.1
    exact ⟨by show _ ≤ 2 * (q - p) + 1; omega, by show _ ≤ 14 * (q - p) + 6; omega⟩
  | inr b =>
    have h1 : a.1 ≤ b.1 := h.1
    exact ⟨by show _ ≤ 2 * (b.1 - p); omega, by show _ ≤ 14 * (b.1 - p); omega⟩
theorem rCe_bind {s : rS} {x : rR} {f : rS → rR} (hx : rRes z s x) (hf : ∀ b, rGood z s b → rRes z b (f b)) (hp : p ≤ s.1) : 2 * (s.1 - p) + rCe s.1 x ≤ rCe p (rB x f) ∧ 14 * (s.1 - p) + rSl s.1 x ≤ rSl p (rB x f) := by
  cases x with
  | inl q =>
    have h1 : s.1 ≤ q := hx.1
    exact ⟨by show _ + (2 * (q - s.1) + 1) ≤ 2 * (q - p) + 1; omega, by show _ + (14 * (q - s.1) + 6) ≤ 14 * (q - p) + 6; omega⟩
  | inr b =>
    have h1 : s.1 ≤ b.1 := hx.1
    obtain ⟨g1, g2⟩ := rCe_ge (p := p) (hf b hx) (by omega)
    exact ⟨by show _ + 2 * (b.1 - s.1) ≤ rCe p (f b); omega, by show _ + 14 * (b.1 - s.1) ≤ rSl p (f b); omega⟩
theorem rCe_parts {d K i m k : Nat} {vw : Option (Int32 × Nat)} {s : rS} (hs : s.1 ≤ z) (hp : p ≤ s.1) : 2 * (s.1 - p) + rCe s.1 (rdE T z d s) ≤ rCe p (rParts T z (rdE T z d) K i vw (m + 1) k s) ∧ 14 * (s.1 - p) + rSl s.1 (rdE T z d s) ≤ rSl p (rParts T z (rdE T z d) K i vw (m + 1) k s) := by
  unfold rParts
  refine rCe_bind (rdE_res d s hs) (fun b hb => ?_) hp
  have hG : rGood z b (rAdd i s.2.1 b) := ⟨Nat.le_refl _, hb.2.1, Nat.le_refl _, Nat.le_refl _⟩
  exact rRes.of hG (rBeh_res hG.2.1 (fun c hc => rParts_res (rdE_res d) m (k + 1) c hc.2.1) (fun c hc => ⟨Nat.le_refl _, hc.2.1, Nat.le_refl _, Nat.le_refl _⟩))
theorem rParts_ill {R : rS → rR} {K i m k q : Nat} {vw : Option (Int32 × Nat)} {s : rS} (h : R s = .inl q) : rParts T z R K i vw (m + 1) k s = .inl q := by
  unfold rParts
  rw [h]
  rfl
theorem rParts_ok {R : rS → rR} {K i m k : Nat} {vw : Option (Int32 × Nat)} {s s2 : rS} (h : R s = .inr s2) : rParts T z R K i vw (m + 1) k s = rBeh T z K k i (rAdd i s.2.1 s2) (fun s3 => rParts T z R K i vw m (k + 1) s3) (fun s3 => .inr (rClose i vw s3)) := by
  have e : rParts T z R K i vw (m + 1) k s = rB (R s) (fun s2 => rBeh T z K k i (rAdd i s.2.1 s2) (fun s3 => rParts T z R K i vw m (k + 1) s3) (fun s3 => .inr (rClose i vw s3))) := rfl
  rw [e, h]
  rfl
end CMP0
section CMP
variable {G : zG} {l : Launch} {d r p z B N : Nat} {σ : zS} {xs : mS} {xr : Int64} {xa : mA} {xl : mL} {xf : xF} {E : Nat → eN} {A : mA}
theorem rPre.at {M q : Nat} (h : rPre B N r p z σ xa) (hq : q ≤ z) (hM : M ≤ q) : rPre B M r q z (va_up σ r (rdC q z)) xa := by
  obtain ⟨hr, hrB, hB, -, hz, -, -, hc⟩ := h
  exact ⟨hr, hrB, hB, va_up_self _ _ _, hz, hq, hM, hc⟩
theorem c_R_readNewRow (RX : rHyp G l d) (hd8 : d ≤ 8) (h : rPre B N r p z σ xa) (hch : rlk (xa 1) z p = 64) {res : rR} (hres : rParts (xa 1) z (rdE (xa 1) z d) 5 N none 4 0 (rGo (rNode 5 0 p (rE0 5 p) (p, N, A, E)) (p + 1)) = res) {mc ms : Nat} (hmc0 : rCe p res ≤ mc) (hms0 : rSl p res ≤ ms) :
    MetZ G l y_R_readNewRow b_R_readNewRow 3 (some (.object "SoleArrays$Expression")) [] (9 + 4 * d + 2) mc ms [.ref r, .int (nI (8 - d))] (B + 2 * N) (xOv xs xr xa xl xf (eOv B N E σ)) (rPost B N r z σ xs xr xa xl xf res) := by
  have h0 := h
  obtain ⟨hr, hrB, hB, hrd0, hz, hp, hN, hc⟩ := h
  have hpz : p < z := rlk_lt hch (by decide)
  have hrd : xOv xs xr xa xl xf (eOv B N E σ) r = .inr (4, [.ref 1, .int (nI z), .ref 2, .int (nI p)]) := (xOv_at (by omega)).trans ((eOv_lo hrB).trans hrd0)
  have hb1 := rCe_parts (T := xa 1) (z := z) (p := p) (d := d) (K := 5) (i := N) (m := 3) (k := 0) (vw := none) (s := rGo (rNode 5 0 p (rE0 5 p) (p, N, A, E)) (p + 1)) hpz (by show p ≤ p + 1; omega)
  rw [hres] at hb1
  have hb2 : 2 * (p + 1 - p) + rCe (p + 1) (rdE (xa 1) z d (rGo (rNode 5 0 p (rE0 5 p) (p, N, A, E)) (p + 1))) ≤ rCe p res := hb1.1
  have hb3 : 14 * (p + 1 - p) + rSl (p + 1) (rdE (xa 1) z d (rGo (rNode 5 0 p (rE0 5 p) (p, N, A, E)) (p + 1))) ≤ rSl p res := hb1.2
  refine MetZ.of (by decide) (Nat.le_of_ble_eq_true rfl) (fun K hK hR hpo hmc hms C => ?_)
  subst hK
  have hRc : (kR K).cells = mc := by rw [hR]; rfl
  have hRs : (kR K).slots = ms := by rw [hR]; rfl
  have hRf : (kR K).frames = 9 + 4 * d + 2 := by rw [hR]; rfl
  have hRl : (kR K).locals = 60 * (9 + 4 * d + 2) := by rw [hR]; rfl
  refine z_new C 3 n_R_121 d_R_readNewRow_0 rfl (by omega) (by rw [hR]; simp only [zRm]; omega) (by rw [hR]; simp only [zRm]; omega) ?_
  refine z_dup C 4 d_R_readNewRow_3 rfl rfl ?_
  refine z_getsF C 7 5 (by decide) sf_186 d_R_readNewRow_4 rfl ?_
  refine z_aload_n C 8 d_R_readNewRow_7 rfl rfl ?_
  refine z_get C 11 f_R_9 d_R_readNewRow_8 rfl (by omega) ((va_up_ne _ _ (by omega)).trans hrd) rfl ?_
  refine z_call C 14 (c_E_init (by omega) (by omega) 5 (nI p)) w_E_init ini_E d_R_readNewRow_11 rfl (z_goI (As := [.ref (1000001 + 5), .int (nI p)]) C l_R_126 w_E_init d_R_readNewRow_11 rfl) (Nat.le_of_ble_eq_true rfl) (by rw [hR]; simp only [zRm]; omega) (by rw [hR]; simp only [zRm]; omega) (by rw [hR]; simp only [zRm]; omega) (by rw [hR]; simp only [zRm]; omega) (fun v n' σ' hv => ?_) (fun x n' σ' hv => ?_)
  · obtain ⟨e0, e1, rfl⟩ := hv
    cases e0
    have e1 : n' = B + 2 * (N + 1) := e1
    subst e1
    refine z_astore_n C 15 d_R_readNewRow_14 rfl (by decide) ?_
    refine Z.same (τ := xOv xs xr xa xl xf (eOv B (N + 1) (va_up E N (rE0 5 p)) (va_up σ r (rdC p z)))) (fun i _ => by rw [va_same hrd0]; rfl) ?_
    refine z_take C rfl 64 (by decide) (p, N + 1, rFlat A N 5 0 p, va_up E N (rE0 5 p)) d_R_readNewRow_15 d_R_readNewRow_16 d_R_readNewRow_18 rfl (h0.at hp (by omega)) (by show N + 1 ≤ 150; omega) (by omega) (by omega) (by omega) (by omega) (by omega) (fun w => absurd hch w) (fun w => absurd hch w) (fun _ => ?_)
    refine z_part C rfl hd8 RX (i := N) (k := 0) (rGo (rNode 5 0 p (rE0 5 p) (p, N, A, E)) (p + 1)) d_R_readNewRow_21 d_R_readNewRow_22 d_R_readNewRow_23 d_R_readNewRow_24 d_R_readNewRow_25 d_R_readNewRow_26 d_R_readNewRow_29 rfl rfl rfl (h0.at hpz (by show N + 1 ≤ p + 1; omega)) (Nat.lt_succ_self N) (by show (va_up E N (rE0 5 p) N).2.2.2.1 = 0; rw [va_up_self]; rfl) (by omega) (by omega) (by omega) (by show _ + rCe (p + 1) _ ≤ _; omega) (by show _ + rSl (p + 1) _ ≤ _; omega) (by omega) (by omega) (fun q hq o n' σ' hv => ?_) (fun s2 hs2 => ?_)
    · rw [hpo, ← hres, rParts_ill hq]
      exact hv
    · have hfin : res = .inr (rClose N none (rAdd N (N + 1) s2)) := by rw [← hres, rParts_ok hs2]; rfl
      refine z_aload_n C 33 d_R_readNewRow_32 rfl rfl ?_
      have hge := rdE_pos (T := xa 1) (d := d) (s := rGo (rNode 5 0 p (rE0 5 p) (p, N, A, E)) (p + 1)) hpz hs2
      have hg1 : p + 1 ≤ s2.1 := hge.1
      rw [hfin] at hmc0 hms0
      have hmc1 : 2 * (s2.1 - p) ≤ mc := hmc0
      have hms1 : 14 * (s2.1 - p) ≤ ms := hms0
      exact z_aret C rfl d_R_readNewRow_33 (by rw [hpo, hfin]; exact ⟨rfl, rfl, rfl⟩) (by show _ + 2 * (s2.1 - (p + 1)) ≤ _; omega) (by show _ + 14 * (s2.1 - (p + 1)) ≤ _; omega)
  · cases hv.1
end CMP
end
section
theorem rAdd_cnt {T : Nat → Int32} {z d i k : Nat} {s s2 : rS} (hs : s.1 ≤ z) (hs2 : rdE T z d s = .inr s2) (hi : i < s.2.1) (hk : (s.2.2.2 i).2.2.2.1 = k) : ((rAdd i s.2.1 s2).2.2.2 i).2.2.2.1 = k + 1 ∧ i < s2.2.1 ∧ s.1 ≤ s2.1 ∧ s2.1 ≤ z ∧ s2.2.1 + s.1 ≤ s.2.1 + s2.1 := by
  have ks := rdE_ks (T := T) (z := z) d s
  rw [hs2] at ks
  have hg := rdE_pos (T := T) (d := d) hs hs2
  refine ⟨?_, Nat.lt_trans hi ks.1, hg.1, hg.2.1, hg.2.2.2⟩
  show (va_up s2.2.2.2 i (eAdd (s2.2.2.2 i) s.2.1) i).2.2.2.1 = k + 1
  rw [va_up_self]
  show (s2.2.2.2 i).2.2.2.1 + 1 = k + 1
  rw [ks.2 i hi, hk]
theorem rParts_ge {T : Nat → Int32} {z d K i m k p : Nat} {vw : Option (Int32 × Nat)} {s s2 : rS} (hs : s.1 ≤ z) (h : rdE T z d s = .inr s2) (hp : p ≤ s2.1) : 2 * (s2.1 - p) ≤ rCe p (rParts T z (rdE T z d) K i vw (m + 1) k s) ∧ 14 * (s2.1 - p) ≤ rSl p (rParts T z (rdE T z d) K i vw (m + 1) k s) := by
  have hg := rdE_pos (T := T) (d := d) hs h
  rw [rParts_ok h]
  exact rCe_ge (a := rAdd i s.2.1 s2) (rBeh_res hg.2.1 (fun c hc => rParts_res (rdE_res d) m (k + 1) c hc.2.1) (fun c hc => ⟨Nat.le_refl _, hc.2.1, Nat.le_refl _, Nat.le_refl _⟩)) hp
section CMP2
variable {G : zG} {l : Launch} {d r p z B N : Nat} {σ : zS} {xs : mS} {xr : Int64} {xa : mA} {xl : mL} {xf : xF} {E : Nat → eN} {A : mA}
theorem c_R_readNewTable (RX : rHyp G l d) (hd8 : d ≤ 8) (h : rPre B N r p z σ xa) (hch : rlk (xa 1) z p = 37) {res : rR} (hres0 : rParts (xa 1) z (rdE (xa 1) z d) 6 N none 4 0 (rGo (rNode 6 0 p (rE0 6 p) (p, N, A, E)) (p + 1)) = res) {mc ms : Nat} (hmc0 : rCe p res ≤ mc) (hms0 : rSl p res ≤ ms) :
    MetZ G l y_R_readNewTable b_R_readNewTable 3 (some (.object "SoleArrays$Expression")) [] (9 + 4 * d + 2) mc ms [.ref r, .int (nI (8 - d))] (B + 2 * N) (xOv xs xr xa xl xf (eOv B N E σ)) (rPost B N r z σ xs xr xa xl xf res) := by
  have h0 := h
  obtain ⟨hr, hrB, hB, hrd0, hz, hp, hN, hc⟩ := h
  have hpz : p < z := rlk_lt hch (by decide)
  have hrd : xOv xs xr xa xl xf (eOv B N E σ) r = .inr (4, [.ref 1, .int (nI z), .ref 2, .int (nI p)]) := (xOv_at (by omega)).trans ((eOv_lo hrB).trans hrd0)
  have hb := rCe_ge (p := p) (rParts_res (T := xa 1) (R := rdE (xa 1) z d) (rdE_res d) (K := 6) (i := N) (vw := none) 4 0 (rGo (rNode 6 0 p (rE0 6 p) (p, N, A, E)) (p + 1)) hpz) (by show p ≤ p + 1; omega)
  rw [hres0] at hb
  have hbA : 2 * (p + 1 - p) ≤ rCe p res := hb.1
  have hbB : 14 * (p + 1 - p) ≤ rSl p res := hb.2
  refine MetZ.of (by decide) (Nat.le_of_ble_eq_true rfl) (fun K hK hR hpo hmc hms C => ?_)
  subst hK
  have hRc : (kR K).cells = mc := by rw [hR]; rfl
  have hRs : (kR K).slots = ms := by rw [hR]; rfl
  have hRf : (kR K).frames = 9 + 4 * d + 2 := by rw [hR]; rfl
  have hRl : (kR K).locals = 60 * (9 + 4 * d + 2) := by rw [hR]; rfl
  refine z_new C 3 n_R_121 d_R_readNewTable_0 rfl (by omega) (by rw [hR]; simp only [zRm]; omega) (by rw [hR]; simp only [zRm]; omega) ?_
  refine z_dup C 4 d_R_readNewTable_3 rfl rfl ?_
  refine z_getsF C 7 6 (by decide) sf_189 d_R_readNewTable_4 rfl ?_
  refine z_aload_n C 8 d_R_readNewTable_7 rfl rfl ?_
  refine z_get C 11 f_R_9 d_R_readNewTable_8 rfl (by omega) ((va_up_ne _ _ (by omega)).trans hrd) rfl ?_
  refine z_call C 14 (c_E_init (by omega) (by omega) 6 (nI p)) w_E_init ini_E d_R_readNewTable_11 rfl (z_goI (As := [.ref (1000001 + 6), .int (nI p)]) C l_R_126 w_E_init d_R_readNewTable_11 rfl) (Nat.le_of_ble_eq_true rfl) (by rw [hR]; simp only [zRm]; omega) (by rw [hR]; simp only [zRm]; omega) (by rw [hR]; simp only [zRm]; omega) (by rw [hR]; simp only [zRm]; omega) (fun v n' σ' hv => ?_) (fun x n' σ' hv => ?_)
  · obtain ⟨e0, e1, rfl⟩ := hv
    cases e0
    have e1 : n' = B + 2 * (N + 1) := e1
    subst e1
    refine z_astore_n C 15 d_R_readNewTable_14 rfl (by decide) ?_
    refine Z.same (τ := xOv xs xr xa xl xf (eOv B (N + 1) (va_up E N (rE0 6 p)) (va_up σ r (rdC p z)))) (fun i _ => by rw [va_same hrd0]; rfl) ?_
    refine z_take C rfl 37 (by decide) (p, N + 1, rFlat A N 6 0 p, va_up E N (rE0 6 p)) d_R_readNewTable_15 d_R_readNewTable_16 d_R_readNewTable_18 rfl (h0.at hp (Nat.zero_le _)) (by show N + 1 ≤ 150; omega) (by omega) (by omega) (by omega) (by omega) ⟨by omega, by omega⟩ (fun w => absurd hch w) (fun w => absurd hch w) (fun _ => ?_)
    obtain ⟨t0, ht0⟩ : ∃ t : rS, t = rGo (rNode 6 0 p (rE0 6 p) (p, N, A, E)) (p + 1) := ⟨_, rfl⟩
    have hv0 : t0.1 = p + 1 := by rw [ht0]; rfl
    have hu0 : t0.2.1 = N + 1 := by rw [ht0]; rfl
    rw [← ht0] at hres0
    have hz0 : t0.1 ≤ z := by omega
    have hp0 : p ≤ t0.1 := by omega
    have hm0 : t0.2.1 ≤ t0.1 := by omega
    have hi0 : N < t0.2.1 := by omega
    have hk0 : (t0.2.2.2 N).2.2.2.1 = 0 := by
      rw [ht0]
      show (va_up E N (rE0 6 p) N).2.2.2.1 = 0
      rw [va_up_self]
      rfl
    refine Z.same (τ := xOv xs xr xa xl xf (eOv B t0.2.1 t0.2.2.2 (va_up σ r (rdC t0.1 z)))) (fun i _ => by rw [ht0]; rfl) ?_
    rw [show B + 2 * ((p, N + 1, rFlat A N 6 0 p, va_up E N (rE0 6 p)) : rS).2.1 = B + 2 * t0.2.1 by rw [hu0]]
    have hb0 := rCe_parts (T := xa 1) (z := z) (p := p) (d := d) (K := 6) (i := N) (m := 3) (k := 0) (vw := none) (s := t0) hz0 hp0
    rw [hres0] at hb0
    refine z_part C rfl hd8 RX (i := N) (k := 0) t0 d_R_readNewTable_21 d_R_readNewTable_22 d_R_readNewTable_23 d_R_readNewTable_24 d_R_readNewTable_25 d_R_readNewTable_26 d_R_readNewTable_29 rfl rfl rfl (h0.at hz0 hm0) hi0 hk0 (by omega) (by omega) (by omega) (by omega) (by omega) (by omega) (by omega) (fun q hq o n' σ' hv => ?_) (fun s2 hs2 => ?_)
    · rw [hpo, ← hres0, rParts_ill hq]
      exact hv
    obtain ⟨hk1, hi1, hg1, hy1, hn1⟩ := rAdd_cnt hz0 hs2 hi0 hk0
    have hw0 := rParts_ge (T := xa 1) (z := z) (p := p) (d := d) (K := 6) (i := N) (m := 3) (k := 0) (vw := none) (s := t0) hz0 hs2 (by omega)
    rw [hres0] at hw0
    refine Z.widen (j1 := 2 * (s2.1 - p)) (j2 := 14 * (s2.1 - p)) (by omega) (by omega) ?_
    have hr0 : rTake (xa 1) z 44 (rAdd N (t0).2.1 s2) (fun s3 => rParts (xa 1) z (rdE (xa 1) z d) 6 N none 3 1 s3) = res := by rw [← hres0, rParts_ok hs2]; rfl
    refine z_take C rfl 44 (by decide) (rAdd N (t0).2.1 s2) d_R_readNewTable_32 d_R_readNewTable_33 d_R_readNewTable_35 rfl (h0.at hy1 (Nat.zero_le _)) (by show s2.2.1 ≤ 150; omega) (by omega) (by omega) (by omega) (by omega) ⟨by omega, by omega⟩ (fun w => ?_) (fun w o n' σ' hv => ?_) (fun w => ?_)
    · rw [rTake, if_neg w] at hr0
      rw [← hr0] at hmc0 hms0
      have q1 : 2 * (s2.1 - p) + 1 ≤ mc := hmc0
      have q2 : 14 * (s2.1 - p) + 6 ≤ ms := hms0
      exact ⟨by omega, by omega⟩
    · rw [hpo, ← hr0, rTake, if_neg w]
      exact hv
    rw [rTake, if_pos w] at hr0
    have hlt0 := rlk_lt w (by decide)
    have hlt0 : s2.1 < z := hlt0
    obtain ⟨t1, ht1⟩ : ∃ t : rS, t = (s2.1 + 1, s2.2.1, (rAdd N (t0).2.1 s2).2.2) := ⟨_, rfl⟩
    have hres1 : rParts (xa 1) z (rdE (xa 1) z d) 6 N none 3 1 t1 = res := by rw [ht1]; exact hr0
    have hz1 : t1.1 ≤ z := by rw [ht1]; exact hlt0
    have hv1 : t1.1 = s2.1 + 1 := by rw [ht1]
    have hu1 : t1.2.1 = s2.2.1 := by rw [ht1]
    have hp1 : p ≤ t1.1 := by omega
    have hm1 : t1.2.1 ≤ t1.1 := by omega
    have hi1' : N < t1.2.1 := by omega
    have hk1' : (t1.2.2.2 N).2.2.2.1 = 1 := by rw [ht1]; exact hk1
    refine Z.same (τ := xOv xs xr xa xl xf (eOv B t1.2.1 t1.2.2.2 (va_up σ r (rdC t1.1 z)))) (fun i _ => by rw [ht1]; rfl) ?_
    rw [show B + 2 * (rAdd N (t0).2.1 s2).2.1 = B + 2 * t1.2.1 by rw [ht1]; rfl]
    clear hi1 hk1
    have hi1 := hi1'
    have hk1 := hk1'
    have hb1 := rCe_parts (T := xa 1) (z := z) (p := p) (d := d) (K := 6) (i := N) (m := 2) (k := 1) (vw := none) (s := t1) hz1 hp1
    rw [hres1] at hb1
    refine z_part C rfl hd8 RX (i := N) (k := 1) t1 d_R_readNewTable_38 d_R_readNewTable_39 d_R_readNewTable_40 d_R_readNewTable_41 d_R_readNewTable_42 d_R_readNewTable_43 d_R_readNewTable_46 rfl rfl rfl (h0.at hz1 hm1) hi1 hk1 (by omega) (by omega) (by omega) (by omega) (by omega) (by omega) (by omega) (fun q hq o n' σ' hv => ?_) (fun s3 hs3 => ?_)
    · rw [hpo, ← hres1, rParts_ill hq]
      exact hv
    obtain ⟨hk2, hi2, hg2, hy2, hn2⟩ := rAdd_cnt hz1 hs3 hi1 hk1
    have hw1 := rParts_ge (T := xa 1) (z := z) (p := p) (d := d) (K := 6) (i := N) (m := 2) (k := 1) (vw := none) (s := t1) hz1 hs3 (by omega)
    rw [hres1] at hw1
    refine Z.widen (j1 := 2 * (s3.1 - p)) (j2 := 14 * (s3.1 - p)) (by omega) (by omega) ?_
    have hfin : res = .inr (rClose N none (rAdd N (t1).2.1 s3)) := by rw [← hres1, rParts_ok hs3]; rfl
    refine z_aload_n C 50 d_R_readNewTable_49 rfl rfl ?_
    exact z_aret C rfl d_R_readNewTable_50 (by rw [hpo, hfin]; exact ⟨rfl, rfl, rfl⟩) (by omega) (by omega)
  · cases hv.1
theorem c_R_readChoice (RX : rHyp G l d) (hd8 : d ≤ 8) (h : rPre B N r p z σ xa) (hch : rlk (xa 1) z p = 63) {res : rR} (hres0 : rParts (xa 1) z (rdE (xa 1) z d) 3 N none 4 0 (rGo (rNode 3 0 p (rE0 3 p) (p, N, A, E)) (p + 1)) = res) {mc ms : Nat} (hmc0 : rCe p res ≤ mc) (hms0 : rSl p res ≤ ms) :
    MetZ G l y_R_readChoice b_R_readChoice 3 (some (.object "SoleArrays$Expression")) [] (9 + 4 * d + 2) mc ms [.ref r, .int (nI (8 - d))] (B + 2 * N) (xOv xs xr xa xl xf (eOv B N E σ)) (rPost B N r z σ xs xr xa xl xf res) := by
  have h0 := h
  obtain ⟨hr, hrB, hB, hrd0, hz, hp, hN, hc⟩ := h
  have hpz : p < z := rlk_lt hch (by decide)
  have hrd : xOv xs xr xa xl xf (eOv B N E σ) r = .inr (4, [.ref 1, .int (nI z), .ref 2, .int (nI p)]) := (xOv_at (by omega)).trans ((eOv_lo hrB).trans hrd0)
  have hb := rCe_ge (p := p) (rParts_res (T := xa 1) (R := rdE (xa 1) z d) (rdE_res d) (K := 3) (i := N) (vw := none) 4 0 (rGo (rNode 3 0 p (rE0 3 p) (p, N, A, E)) (p + 1)) hpz) (by show p ≤ p + 1; omega)
  rw [hres0] at hb
  have hbA : 2 * (p + 1 - p) ≤ rCe p res := hb.1
  have hbB : 14 * (p + 1 - p) ≤ rSl p res := hb.2
  refine MetZ.of (by decide) (Nat.le_of_ble_eq_true rfl) (fun K hK hR hpo hmc hms C => ?_)
  subst hK
  have hRc : (kR K).cells = mc := by rw [hR]; rfl
  have hRs : (kR K).slots = ms := by rw [hR]; rfl
  have hRf : (kR K).frames = 9 + 4 * d + 2 := by rw [hR]; rfl
  have hRl : (kR K).locals = 60 * (9 + 4 * d + 2) := by rw [hR]; rfl
  refine z_new C 3 n_R_121 d_R_readChoice_0 rfl (by omega) (by rw [hR]; simp only [zRm]; omega) (by rw [hR]; simp only [zRm]; omega) ?_
  refine z_dup C 4 d_R_readChoice_3 rfl rfl ?_
  refine z_getsF C 7 3 (by decide) sf_177 d_R_readChoice_4 rfl ?_
  refine z_aload_n C 8 d_R_readChoice_7 rfl rfl ?_
  refine z_get C 11 f_R_9 d_R_readChoice_8 rfl (by omega) ((va_up_ne _ _ (by omega)).trans hrd) rfl ?_
  refine z_call C 14 (c_E_init (by omega) (by omega) 3 (nI p)) w_E_init ini_E d_R_readChoice_11 rfl (z_goI (As := [.ref (1000001 + 3), .int (nI p)]) C l_R_126 w_E_init d_R_readChoice_11 rfl) (Nat.le_of_ble_eq_true rfl) (by rw [hR]; simp only [zRm]; omega) (by rw [hR]; simp only [zRm]; omega) (by rw [hR]; simp only [zRm]; omega) (by rw [hR]; simp only [zRm]; omega) (fun v n' σ' hv => ?_) (fun x n' σ' hv => ?_)
  · obtain ⟨e0, e1, rfl⟩ := hv
    cases e0
    have e1 : n' = B + 2 * (N + 1) := e1
    subst e1
    refine z_astore_n C 15 d_R_readChoice_14 rfl (by decide) ?_
    refine Z.same (τ := xOv xs xr xa xl xf (eOv B (N + 1) (va_up E N (rE0 3 p)) (va_up σ r (rdC p z)))) (fun i _ => by rw [va_same hrd0]; rfl) ?_
    refine z_take C rfl 63 (by decide) (p, N + 1, rFlat A N 3 0 p, va_up E N (rE0 3 p)) d_R_readChoice_15 d_R_readChoice_16 d_R_readChoice_18 rfl (h0.at hp (Nat.zero_le _)) (by show N + 1 ≤ 150; omega) (by omega) (by omega) (by omega) (by omega) ⟨by omega, by omega⟩ (fun w => absurd hch w) (fun w => absurd hch w) (fun _ => ?_)
    obtain ⟨t0, ht0⟩ : ∃ t : rS, t = rGo (rNode 3 0 p (rE0 3 p) (p, N, A, E)) (p + 1) := ⟨_, rfl⟩
    have hv0 : t0.1 = p + 1 := by rw [ht0]; rfl
    have hu0 : t0.2.1 = N + 1 := by rw [ht0]; rfl
    rw [← ht0] at hres0
    have hz0 : t0.1 ≤ z := by omega
    have hp0 : p ≤ t0.1 := by omega
    have hm0 : t0.2.1 ≤ t0.1 := by omega
    have hi0 : N < t0.2.1 := by omega
    have hk0 : (t0.2.2.2 N).2.2.2.1 = 0 := by
      rw [ht0]
      show (va_up E N (rE0 3 p) N).2.2.2.1 = 0
      rw [va_up_self]
      rfl
    refine Z.same (τ := xOv xs xr xa xl xf (eOv B t0.2.1 t0.2.2.2 (va_up σ r (rdC t0.1 z)))) (fun i _ => by rw [ht0]; rfl) ?_
    rw [show B + 2 * ((p, N + 1, rFlat A N 3 0 p, va_up E N (rE0 3 p)) : rS).2.1 = B + 2 * t0.2.1 by rw [hu0]]
    have hb0 := rCe_parts (T := xa 1) (z := z) (p := p) (d := d) (K := 3) (i := N) (m := 3) (k := 0) (vw := none) (s := t0) hz0 hp0
    rw [hres0] at hb0
    refine z_part C rfl hd8 RX (i := N) (k := 0) t0 d_R_readChoice_21 d_R_readChoice_22 d_R_readChoice_23 d_R_readChoice_24 d_R_readChoice_25 d_R_readChoice_26 d_R_readChoice_29 rfl rfl rfl (h0.at hz0 hm0) hi0 hk0 (by omega) (by omega) (by omega) (by omega) (by omega) (by omega) (by omega) (fun q hq o n' σ' hv => ?_) (fun s2 hs2 => ?_)
    · rw [hpo, ← hres0, rParts_ill hq]
      exact hv
    obtain ⟨hk1, hi1, hg1, hy1, hn1⟩ := rAdd_cnt hz0 hs2 hi0 hk0
    have hw0 := rParts_ge (T := xa 1) (z := z) (p := p) (d := d) (K := 3) (i := N) (m := 3) (k := 0) (vw := none) (s := t0) hz0 hs2 (by omega)
    rw [hres0] at hw0
    refine Z.widen (j1 := 2 * (s2.1 - p)) (j2 := 14 * (s2.1 - p)) (by omega) (by omega) ?_
    have hr0 : rTake (xa 1) z 40 (rAdd N (t0).2.1 s2) (fun s3 => rParts (xa 1) z (rdE (xa 1) z d) 3 N none 3 1 s3) = res := by rw [← hres0, rParts_ok hs2]; rfl
    refine z_take C rfl 40 (by decide) (rAdd N (t0).2.1 s2) d_R_readChoice_32 d_R_readChoice_33 d_R_readChoice_35 rfl (h0.at hy1 (Nat.zero_le _)) (by show s2.2.1 ≤ 150; omega) (by omega) (by omega) (by omega) (by omega) ⟨by omega, by omega⟩ (fun w => ?_) (fun w o n' σ' hv => ?_) (fun w => ?_)
    · rw [rTake, if_neg w] at hr0
      rw [← hr0] at hmc0 hms0
      have q1 : 2 * (s2.1 - p) + 1 ≤ mc := hmc0
      have q2 : 14 * (s2.1 - p) + 6 ≤ ms := hms0
      exact ⟨by omega, by omega⟩
    · rw [hpo, ← hr0, rTake, if_neg w]
      exact hv
    rw [rTake, if_pos w] at hr0
    have hlt0 := rlk_lt w (by decide)
    have hlt0 : s2.1 < z := hlt0
    obtain ⟨t1, ht1⟩ : ∃ t : rS, t = (s2.1 + 1, s2.2.1, (rAdd N (t0).2.1 s2).2.2) := ⟨_, rfl⟩
    have hres1 : rParts (xa 1) z (rdE (xa 1) z d) 3 N none 3 1 t1 = res := by rw [ht1]; exact hr0
    have hz1 : t1.1 ≤ z := by rw [ht1]; exact hlt0
    have hv1 : t1.1 = s2.1 + 1 := by rw [ht1]
    have hu1 : t1.2.1 = s2.2.1 := by rw [ht1]
    have hp1 : p ≤ t1.1 := by omega
    have hm1 : t1.2.1 ≤ t1.1 := by omega
    have hi1' : N < t1.2.1 := by omega
    have hk1' : (t1.2.2.2 N).2.2.2.1 = 1 := by rw [ht1]; exact hk1
    refine Z.same (τ := xOv xs xr xa xl xf (eOv B t1.2.1 t1.2.2.2 (va_up σ r (rdC t1.1 z)))) (fun i _ => by rw [ht1]; rfl) ?_
    rw [show B + 2 * (rAdd N (t0).2.1 s2).2.1 = B + 2 * t1.2.1 by rw [ht1]; rfl]
    clear hi1 hk1
    have hi1 := hi1'
    have hk1 := hk1'
    have hb1 := rCe_parts (T := xa 1) (z := z) (p := p) (d := d) (K := 3) (i := N) (m := 2) (k := 1) (vw := none) (s := t1) hz1 hp1
    rw [hres1] at hb1
    refine z_part C rfl hd8 RX (i := N) (k := 1) t1 d_R_readChoice_38 d_R_readChoice_39 d_R_readChoice_40 d_R_readChoice_41 d_R_readChoice_42 d_R_readChoice_43 d_R_readChoice_46 rfl rfl rfl (h0.at hz1 hm1) hi1 hk1 (by omega) (by omega) (by omega) (by omega) (by omega) (by omega) (by omega) (fun q hq o n' σ' hv => ?_) (fun s3 hs3 => ?_)
    · rw [hpo, ← hres1, rParts_ill hq]
      exact hv
    obtain ⟨hk2, hi2, hg2, hy2, hn2⟩ := rAdd_cnt hz1 hs3 hi1 hk1
    have hw1 := rParts_ge (T := xa 1) (z := z) (p := p) (d := d) (K := 3) (i := N) (m := 2) (k := 1) (vw := none) (s := t1) hz1 hs3 (by omega)
    rw [hres1] at hw1
    refine Z.widen (j1 := 2 * (s3.1 - p)) (j2 := 14 * (s3.1 - p)) (by omega) (by omega) ?_
    have hr1 : rTake (xa 1) z 124 (rAdd N (t1).2.1 s3) (fun s3 => rParts (xa 1) z (rdE (xa 1) z d) 3 N none 2 2 s3) = res := by rw [← hres1, rParts_ok hs3]; rfl
    refine z_take C rfl 124 (by decide) (rAdd N (t1).2.1 s3) d_R_readChoice_49 d_R_readChoice_50 d_R_readChoice_52 rfl (h0.at hy2 (Nat.zero_le _)) (by show s3.2.1 ≤ 150; omega) (by omega) (by omega) (by omega) (by omega) ⟨by omega, by omega⟩ (fun w => ?_) (fun w o n' σ' hv => ?_) (fun w => ?_)
    · rw [rTake, if_neg w] at hr1
      rw [← hr1] at hmc0 hms0
      have q1 : 2 * (s3.1 - p) + 1 ≤ mc := hmc0
      have q2 : 14 * (s3.1 - p) + 6 ≤ ms := hms0
      exact ⟨by omega, by omega⟩
    · rw [hpo, ← hr1, rTake, if_neg w]
      exact hv
    rw [rTake, if_pos w] at hr1
    have hlt1 := rlk_lt w (by decide)
    have hlt1 : s3.1 < z := hlt1
    obtain ⟨t2, ht2⟩ : ∃ t : rS, t = (s3.1 + 1, s3.2.1, (rAdd N (t1).2.1 s3).2.2) := ⟨_, rfl⟩
    have hres2 : rParts (xa 1) z (rdE (xa 1) z d) 3 N none 2 2 t2 = res := by rw [ht2]; exact hr1
    have hz2 : t2.1 ≤ z := by rw [ht2]; exact hlt1
    have hv2 : t2.1 = s3.1 + 1 := by rw [ht2]
    have hu2 : t2.2.1 = s3.2.1 := by rw [ht2]
    have hp2 : p ≤ t2.1 := by omega
    have hm2 : t2.2.1 ≤ t2.1 := by omega
    have hi2' : N < t2.2.1 := by omega
    have hk2' : (t2.2.2.2 N).2.2.2.1 = 2 := by rw [ht2]; exact hk2
    refine Z.same (τ := xOv xs xr xa xl xf (eOv B t2.2.1 t2.2.2.2 (va_up σ r (rdC t2.1 z)))) (fun i _ => by rw [ht2]; rfl) ?_
    rw [show B + 2 * (rAdd N (t1).2.1 s3).2.1 = B + 2 * t2.2.1 by rw [ht2]; rfl]
    clear hi2 hk2
    have hi2 := hi2'
    have hk2 := hk2'
    have hb2 := rCe_parts (T := xa 1) (z := z) (p := p) (d := d) (K := 3) (i := N) (m := 1) (k := 2) (vw := none) (s := t2) hz2 hp2
    rw [hres2] at hb2
    refine z_part C rfl hd8 RX (i := N) (k := 2) t2 d_R_readChoice_55 d_R_readChoice_56 d_R_readChoice_57 d_R_readChoice_58 d_R_readChoice_59 d_R_readChoice_60 d_R_readChoice_63 rfl rfl rfl (h0.at hz2 hm2) hi2 hk2 (by omega) (by omega) (by omega) (by omega) (by omega) (by omega) (by omega) (fun q hq o n' σ' hv => ?_) (fun s4 hs4 => ?_)
    · rw [hpo, ← hres2, rParts_ill hq]
      exact hv
    obtain ⟨hk3, hi3, hg3, hy3, hn3⟩ := rAdd_cnt hz2 hs4 hi2 hk2
    have hw2 := rParts_ge (T := xa 1) (z := z) (p := p) (d := d) (K := 3) (i := N) (m := 1) (k := 2) (vw := none) (s := t2) hz2 hs4 (by omega)
    rw [hres2] at hw2
    refine Z.widen (j1 := 2 * (s4.1 - p)) (j2 := 14 * (s4.1 - p)) (by omega) (by omega) ?_
    have hr2 : rTake (xa 1) z 41 (rAdd N (t2).2.1 s4) (fun s3 => .inr (rClose N none s3)) = res := by rw [← hres2, rParts_ok hs4]; rfl
    refine z_take C rfl 41 (by decide) (rAdd N (t2).2.1 s4) d_R_readChoice_66 d_R_readChoice_67 d_R_readChoice_69 rfl (h0.at hy3 (Nat.zero_le _)) (by show s4.2.1 ≤ 150; omega) (by omega) (by omega) (by omega) (by omega) ⟨by omega, by omega⟩ (fun w => ?_) (fun w o n' σ' hv => ?_) (fun w => ?_)
    · rw [rTake, if_neg w] at hr2
      rw [← hr2] at hmc0 hms0
      have q1 : 2 * (s4.1 - p) + 1 ≤ mc := hmc0
      have q2 : 14 * (s4.1 - p) + 6 ≤ ms := hms0
      exact ⟨by omega, by omega⟩
    · rw [hpo, ← hr2, rTake, if_neg w]
      exact hv
    rw [rTake, if_pos w] at hr2
    have hlt2 := rlk_lt w (by decide)
    have hlt2 : s4.1 < z := hlt2
    refine z_aload_n C 73 d_R_readChoice_72 rfl rfl ?_
    rw [← hr2] at hmc0 hms0
    have q1 : 2 * (s4.1 + 1 - p) ≤ mc := hmc0
    have q2 : 14 * (s4.1 + 1 - p) ≤ ms := hms0
    exact z_aret C rfl d_R_readChoice_73 (by rw [hpo, ← hr2]; exact ⟨rfl, rfl, rfl⟩) (by omega) (by omega)
  · cases hv.1
end CMP2
end
section
theorem sf_183 : Cond.fieldLink "SoleArrays$Reader" 183 "SoleArrays$Form" "GIVING_UP" "LSoleArrays$Form;" ∈ zTb := zt3 56 (by decide +kernel) rfl
theorem sf_180 : Cond.fieldLink "SoleArrays$Reader" 180 "SoleArrays$Form" "BINDING" "LSoleArrays$Form;" ∈ zTb := zt3 28 (by decide +kernel) rfl
section CMP3
variable {G : zG} {l : Launch} {d r p z B N : Nat} {σ : zS} {xs : mS} {xr : Int64} {xa : mA} {xl : mL} {xf : xF} {E : Nat → eN} {A : mA}
theorem c_R_readGivingUp (RX : rHyp G l d) (hd8 : d ≤ 8) (h : rPre B N r p z σ xa) (hch : rlk (xa 1) z p = 126) {res : rR} (hres : rLet (xa 1) z 97 116 (rGo (p, N, A, E) (p + 1)) (fun v s1 => rTake (xa 1) z 59 s1 fun s2 => rParts (xa 1) z (rdE (xa 1) z d) 12 N none 4 0 (rNode 12 v p (eVar (rE0 12 p) v (nI (p + 1))) s2)) = res) {mc ms : Nat} (hmc0 : rCe p res ≤ mc) (hms0 : rSl p res ≤ ms) :
    MetZ G l y_R_readGivingUp b_R_readGivingUp 3 (some (.object "SoleArrays$Expression")) [] (9 + 4 * d + 2) mc ms [.ref r, .int (nI (8 - d))] (B + 2 * N) (xOv xs xr xa xl xf (eOv B N E σ)) (rPost B N r z σ xs xr xa xl xf res) := by
  have h0 := h
  obtain ⟨hr, hrB, hB, hrd0, hz, hp, hN, hc⟩ := h
  have hpz : p < z := rlk_lt hch (by decide)
  have hrd : xOv xs xr xa xl xf (eOv B N E σ) r = .inr (4, [.ref 1, .int (nI z), .ref 2, .int (nI p)]) := (xOv_at (by omega)).trans ((eOv_lo hrB).trans hrd0)
  refine MetZ.of (by decide) (Nat.le_of_ble_eq_true rfl) (fun K hK hR hpo hmc hms C => ?_)
  subst hK
  have hRc : (kR K).cells = mc := by rw [hR]; rfl
  have hRs : (kR K).slots = ms := by rw [hR]; rfl
  have hRf : (kR K).frames = 9 + 4 * d + 2 := by rw [hR]; rfl
  have hRl : (kR K).locals = 60 * (9 + 4 * d + 2) := by rw [hR]; rfl
  by_cases hl : 97 ≤ rlk (xa 1) z (p + 1) ∧ rlk (xa 1) z (p + 1) ≤ 116
  · have hpz1 : p + 1 < z := rlk_pos hl.1 (by decide)
    have hrT : rTake (xa 1) z 59 (p + 2, N, A, E) (fun s2 => rParts (xa 1) z (rdE (xa 1) z d) 12 N none 4 0 (rNode 12 (rlk (xa 1) z (p + 1) - 97) p (eVar (rE0 12 p) (rlk (xa 1) z (p + 1) - 97) (nI (p + 1))) s2)) = res := by
      rw [← hres, rLet, if_pos (show 97 ≤ rlk (xa 1) z (rGo (p, N, A, E) (p + 1)).1 ∧ rlk (xa 1) z (rGo (p, N, A, E) (p + 1)).1 ≤ 116 from hl)]
      rfl
    have hge : 4 ≤ mc ∧ 28 ≤ ms := by
      by_cases w : rlk (xa 1) z (p + 2) = 59
      · have hr1 : rParts (xa 1) z (rdE (xa 1) z d) 12 N none 4 0 (rNode 12 (rlk (xa 1) z (p + 1) - 97) p (eVar (rE0 12 p) (rlk (xa 1) z (p + 1) - 97) (nI (p + 1))) (p + 3, N, A, E)) = res := by
          rw [← hrT, rTake, if_pos w]
        have hlt := rlk_lt w (by decide)
        have hb := rCe_ge (p := p) (rParts_res (T := xa 1) (R := rdE (xa 1) z d) (rdE_res d) (K := 12) (i := N) (vw := none) 4 0 (rNode 12 (rlk (xa 1) z (p + 1) - 97) p (eVar (rE0 12 p) (rlk (xa 1) z (p + 1) - 97) (nI (p + 1))) (p + 3, N, A, E)) hlt) (by show p ≤ p + 3; omega)
        rw [hr1] at hb
        have hbA : 2 * (p + 3 - p) ≤ rCe p res := hb.1
        have hbB : 14 * (p + 3 - p) ≤ rSl p res := hb.2
        exact ⟨by omega, by omega⟩
      · have hr1 : (.inl (p + 2) : rR) = res := by rw [← hrT, rTake, if_neg w]
        rw [← hr1] at hmc0 hms0
        have q1 : 2 * (p + 2 - p) + 1 ≤ mc := hmc0
        have q2 : 14 * (p + 2 - p) + 6 ≤ ms := hms0
        exact ⟨by omega, by omega⟩
    refine z_aload_n C 1 d_R_readGivingUp_0 rfl rfl ?_
    refine z_getsF C 4 12 (by decide) sf_183 d_R_readGivingUp_1 rfl ?_
    refine z_call C 7 (c_R_readSignAndVariable (k := 12) h0 hpz (mc := 2) (ms := 14) ⟨by omega, by omega⟩ (fun w => absurd hl w)) w_R_readSignAndVariable ini_R d_R_readGivingUp_4 rfl (z_goV (As := [.ref (1000001 + 12)]) C l_R_108 w_R_readSignAndVariable d_R_readGivingUp_4 (by omega) (hrd) rfl rfl) (Nat.le_of_ble_eq_true rfl) (by rw [hR]; simp only [zRm]; omega) (by rw [hR]; simp only [zRm]; omega) (by rw [hR]; simp only [zRm]; omega) (by rw [hR]; simp only [zRm]; omega) (fun v n' σ' hv => ?_) (fun x n' σ' hv => ?_)
    · rcases hv with ⟨-, e0, e1, rfl⟩ | ⟨w, -⟩
      · cases e0
        subst e1
        refine z_astore_n C 8 d_R_readGivingUp_7 rfl (by decide) ?_
        refine z_take C rfl 59 (by decide) (p + 2, N + 1, A, va_up E N (eVar (rE0 12 p) (rlk (xa 1) z (p + 1) - 97) (nI (p + 1)))) d_R_readGivingUp_8 d_R_readGivingUp_9 d_R_readGivingUp_11 rfl (h0.at hpz1 (Nat.zero_le _)) (by show N + 1 ≤ 150; omega) (by omega) (by omega) (by omega) (by omega) ⟨by omega, by omega⟩ (fun w => ?_) (fun w o n' σ' hv => ?_) (fun w => ?_)
        · exact ⟨by omega, by
            rw [rTake, if_neg w] at hrT
            rw [← hrT] at hms0
            have q2 : 14 * (p + 2 - p) + 6 ≤ ms := hms0
            omega⟩
        · rw [hpo, ← hrT, rTake, if_neg w]
          exact hv
        have hlt := rlk_lt w (by decide)
        have hlt : p + 2 < z := hlt
        rw [rTake, if_pos w] at hrT
        obtain ⟨t0, ht0⟩ : ∃ t : rS, t = (rNode 12 (rlk (xa 1) z (p + 1) - 97) p (eVar (rE0 12 p) (rlk (xa 1) z (p + 1) - 97) (nI (p + 1))) (p + 3, N, A, E)) := ⟨_, rfl⟩
        have hres0 : rParts (xa 1) z (rdE (xa 1) z d) 12 N none 4 0 t0 = res := by rw [ht0]; exact hrT
        have hv0 : t0.1 = p + 3 := by rw [ht0]; rfl
        have hu0 : t0.2.1 = N + 1 := by rw [ht0]; rfl
        have hz0 : t0.1 ≤ z := by omega
        have hp0 : p ≤ t0.1 := by omega
        have hm0 : t0.2.1 ≤ t0.1 := by omega
        have hi0 : N < t0.2.1 := by omega
        have hk0 : (t0.2.2.2 N).2.2.2.1 = 0 := by
          rw [ht0]
          show (va_up E N (eVar (rE0 12 p) (rlk (xa 1) z (p + 1) - 97) (nI (p + 1))) N).2.2.2.1 = 0
          rw [va_up_self]
          rfl
        refine Z.same (τ := xOv xs xr xa xl xf (eOv B t0.2.1 t0.2.2.2 (va_up σ r (rdC t0.1 z)))) (fun i _ => by rw [ht0]; rfl) ?_
        rw [show B + 2 * ((p + 2, N + 1, A, va_up E N (eVar (rE0 12 p) (rlk (xa 1) z (p + 1) - 97) (nI (p + 1)))) : rS).2.1 = B + 2 * t0.2.1 by rw [hu0]]
        have hb0 := rCe_parts (T := xa 1) (z := z) (p := p) (d := d) (K := 12) (i := N) (m := 3) (k := 0) (vw := none) (s := t0) hz0 hp0
        rw [hres0] at hb0
        refine z_part C rfl hd8 RX (i := N) (k := 0) t0 d_R_readGivingUp_14 d_R_readGivingUp_15 d_R_readGivingUp_16 d_R_readGivingUp_17 d_R_readGivingUp_18 d_R_readGivingUp_19 d_R_readGivingUp_22 rfl rfl rfl (h0.at hz0 hm0) hi0 hk0 (by omega) (by omega) (by omega) (by omega) (by omega) (by omega) (by omega) (fun q hq o n' σ' hv => ?_) (fun s2 hs2 => ?_)
        · rw [hpo, ← hres0, rParts_ill hq]
          exact hv
        obtain ⟨hk1, hi1, hg1, hy1, hn1⟩ := rAdd_cnt hz0 hs2 hi0 hk0
        have hw0 := rParts_ge (T := xa 1) (z := z) (p := p) (d := d) (K := 12) (i := N) (m := 3) (k := 0) (vw := none) (s := t0) hz0 hs2 (by omega)
        rw [hres0] at hw0
        refine Z.widen (j1 := 2 * (s2.1 - p)) (j2 := 14 * (s2.1 - p)) (by omega) (by omega) ?_
        have hfin : res = .inr (rClose N none (rAdd N (t0).2.1 s2)) := by rw [← hres0, rParts_ok hs2]; rfl
        refine z_aload_n C 26 d_R_readGivingUp_25 rfl rfl ?_
        exact z_aret C rfl d_R_readGivingUp_26 (by rw [hpo, hfin]; exact ⟨rfl, rfl, rfl⟩) (by omega) (by omega)
      · exact absurd hl w
    · rcases hv with ⟨-, e0, -⟩ | ⟨w, -⟩
      · cases e0
      · exact absurd hl w
  · have hr1 : (.inl (p + 1) : rR) = res := by
      rw [← hres, rLet, if_neg (show ¬ (97 ≤ rlk (xa 1) z (rGo (p, N, A, E) (p + 1)).1 ∧ rlk (xa 1) z (rGo (p, N, A, E) (p + 1)).1 ≤ 116) from hl)]
      rfl
    rw [← hr1] at hmc0 hms0
    have q1 : 2 * (p + 1 - p) + 1 ≤ mc := hmc0
    have q2 : 14 * (p + 1 - p) + 6 ≤ ms := hms0
    refine z_aload_n C 1 d_R_readGivingUp_0 rfl rfl ?_
    refine z_getsF C 4 12 (by decide) sf_183 d_R_readGivingUp_1 rfl ?_
    refine z_call C 7 (c_R_readSignAndVariable (k := 12) h0 hpz (mc := 3) (ms := 20) ⟨by omega, by omega⟩ (fun _ => ⟨by omega, by omega⟩)) w_R_readSignAndVariable ini_R d_R_readGivingUp_4 rfl (z_goV (As := [.ref (1000001 + 12)]) C l_R_108 w_R_readSignAndVariable d_R_readGivingUp_4 (by omega) (hrd) rfl rfl) (Nat.le_of_ble_eq_true rfl) (by rw [hR]; simp only [zRm]; omega) (by rw [hR]; simp only [zRm]; omega) (by rw [hR]; simp only [zRm]; omega) (by rw [hR]; simp only [zRm]; omega) (fun v n' σ' hv => ?_) (fun x n' σ' hv => ?_)
    · rcases hv with ⟨w, -⟩ | ⟨-, x, τ, e0, -⟩
      · exact absurd w hl
      · cases e0
    · rcases hv with ⟨w, -⟩ | ⟨-, hv⟩
      · exact absurd w hl
      · exact zx_out C (fun h hh => nomatch hh) (by rw [hpo, ← hr1]; exact hv) (by omega) (by omega)
theorem c_R_readBinding (RX : rHyp G l d) (hd8 : d ≤ 8) (h : rPre B N r p z σ xa) (hch : rlk (xa 1) z p = 38) {res : rR} (hres : rLet (xa 1) z 97 116 (rGo (p, N, A, E) (p + 1)) (fun v s1 => rTake (xa 1) z 61 s1 fun s2 => rParts (xa 1) z (rdE (xa 1) z d) 4 N none 4 0 (rNode 4 v p (eVar (rE0 4 p) v (nI (p + 1))) s2)) = res) {mc ms : Nat} (hmc0 : rCe p res ≤ mc) (hms0 : rSl p res ≤ ms) :
    MetZ G l y_R_readBinding b_R_readBinding 3 (some (.object "SoleArrays$Expression")) [] (9 + 4 * d + 2) mc ms [.ref r, .int (nI (8 - d))] (B + 2 * N) (xOv xs xr xa xl xf (eOv B N E σ)) (rPost B N r z σ xs xr xa xl xf res) := by
  have h0 := h
  obtain ⟨hr, hrB, hB, hrd0, hz, hp, hN, hc⟩ := h
  have hpz : p < z := rlk_lt hch (by decide)
  have hrd : xOv xs xr xa xl xf (eOv B N E σ) r = .inr (4, [.ref 1, .int (nI z), .ref 2, .int (nI p)]) := (xOv_at (by omega)).trans ((eOv_lo hrB).trans hrd0)
  refine MetZ.of (by decide) (Nat.le_of_ble_eq_true rfl) (fun K hK hR hpo hmc hms C => ?_)
  subst hK
  have hRc : (kR K).cells = mc := by rw [hR]; rfl
  have hRs : (kR K).slots = ms := by rw [hR]; rfl
  have hRf : (kR K).frames = 9 + 4 * d + 2 := by rw [hR]; rfl
  have hRl : (kR K).locals = 60 * (9 + 4 * d + 2) := by rw [hR]; rfl
  by_cases hl : 97 ≤ rlk (xa 1) z (p + 1) ∧ rlk (xa 1) z (p + 1) ≤ 116
  · have hpz1 : p + 1 < z := rlk_pos hl.1 (by decide)
    have hrT : rTake (xa 1) z 61 (p + 2, N, A, E) (fun s2 => rParts (xa 1) z (rdE (xa 1) z d) 4 N none 4 0 (rNode 4 (rlk (xa 1) z (p + 1) - 97) p (eVar (rE0 4 p) (rlk (xa 1) z (p + 1) - 97) (nI (p + 1))) s2)) = res := by
      rw [← hres, rLet, if_pos (show 97 ≤ rlk (xa 1) z (rGo (p, N, A, E) (p + 1)).1 ∧ rlk (xa 1) z (rGo (p, N, A, E) (p + 1)).1 ≤ 116 from hl)]
      rfl
    have hge : 4 ≤ mc ∧ 28 ≤ ms := by
      by_cases w : rlk (xa 1) z (p + 2) = 61
      · have hr1 : rParts (xa 1) z (rdE (xa 1) z d) 4 N none 4 0 (rNode 4 (rlk (xa 1) z (p + 1) - 97) p (eVar (rE0 4 p) (rlk (xa 1) z (p + 1) - 97) (nI (p + 1))) (p + 3, N, A, E)) = res := by
          rw [← hrT, rTake, if_pos w]
        have hlt := rlk_lt w (by decide)
        have hb := rCe_ge (p := p) (rParts_res (T := xa 1) (R := rdE (xa 1) z d) (rdE_res d) (K := 4) (i := N) (vw := none) 4 0 (rNode 4 (rlk (xa 1) z (p + 1) - 97) p (eVar (rE0 4 p) (rlk (xa 1) z (p + 1) - 97) (nI (p + 1))) (p + 3, N, A, E)) hlt) (by show p ≤ p + 3; omega)
        rw [hr1] at hb
        have hbA : 2 * (p + 3 - p) ≤ rCe p res := hb.1
        have hbB : 14 * (p + 3 - p) ≤ rSl p res := hb.2
        exact ⟨by omega, by omega⟩
      · have hr1 : (.inl (p + 2) : rR) = res := by rw [← hrT, rTake, if_neg w]
        rw [← hr1] at hmc0 hms0
        have q1 : 2 * (p + 2 - p) + 1 ≤ mc := hmc0
        have q2 : 14 * (p + 2 - p) + 6 ≤ ms := hms0
        exact ⟨by omega, by omega⟩
    refine z_aload_n C 1 d_R_readBinding_0 rfl rfl ?_
    refine z_getsF C 4 4 (by decide) sf_180 d_R_readBinding_1 rfl ?_
    refine z_call C 7 (c_R_readSignAndVariable (k := 4) h0 hpz (mc := 2) (ms := 14) ⟨by omega, by omega⟩ (fun w => absurd hl w)) w_R_readSignAndVariable ini_R d_R_readBinding_4 rfl (z_goV (As := [.ref (1000001 + 4)]) C l_R_108 w_R_readSignAndVariable d_R_readBinding_4 (by omega) (hrd) rfl rfl) (Nat.le_of_ble_eq_true rfl) (by rw [hR]; simp only [zRm]; omega) (by rw [hR]; simp only [zRm]; omega) (by rw [hR]; simp only [zRm]; omega) (by rw [hR]; simp only [zRm]; omega) (fun v n' σ' hv => ?_) (fun x n' σ' hv => ?_)
    · rcases hv with ⟨-, e0, e1, rfl⟩ | ⟨w, -⟩
      · cases e0
        subst e1
        refine z_astore_n C 8 d_R_readBinding_7 rfl (by decide) ?_
        refine z_take C rfl 61 (by decide) (p + 2, N + 1, A, va_up E N (eVar (rE0 4 p) (rlk (xa 1) z (p + 1) - 97) (nI (p + 1)))) d_R_readBinding_8 d_R_readBinding_9 d_R_readBinding_11 rfl (h0.at hpz1 (Nat.zero_le _)) (by show N + 1 ≤ 150; omega) (by omega) (by omega) (by omega) (by omega) ⟨by omega, by omega⟩ (fun w => ?_) (fun w o n' σ' hv => ?_) (fun w => ?_)
        · exact ⟨by omega, by
            rw [rTake, if_neg w] at hrT
            rw [← hrT] at hms0
            have q2 : 14 * (p + 2 - p) + 6 ≤ ms := hms0
            omega⟩
        · rw [hpo, ← hrT, rTake, if_neg w]
          exact hv
        have hlt := rlk_lt w (by decide)
        have hlt : p + 2 < z := hlt
        rw [rTake, if_pos w] at hrT
        obtain ⟨t0, ht0⟩ : ∃ t : rS, t = (rNode 4 (rlk (xa 1) z (p + 1) - 97) p (eVar (rE0 4 p) (rlk (xa 1) z (p + 1) - 97) (nI (p + 1))) (p + 3, N, A, E)) := ⟨_, rfl⟩
        have hres0 : rParts (xa 1) z (rdE (xa 1) z d) 4 N none 4 0 t0 = res := by rw [ht0]; exact hrT
        have hv0 : t0.1 = p + 3 := by rw [ht0]; rfl
        have hu0 : t0.2.1 = N + 1 := by rw [ht0]; rfl
        have hz0 : t0.1 ≤ z := by omega
        have hp0 : p ≤ t0.1 := by omega
        have hm0 : t0.2.1 ≤ t0.1 := by omega
        have hi0 : N < t0.2.1 := by omega
        have hk0 : (t0.2.2.2 N).2.2.2.1 = 0 := by
          rw [ht0]
          show (va_up E N (eVar (rE0 4 p) (rlk (xa 1) z (p + 1) - 97) (nI (p + 1))) N).2.2.2.1 = 0
          rw [va_up_self]
          rfl
        refine Z.same (τ := xOv xs xr xa xl xf (eOv B t0.2.1 t0.2.2.2 (va_up σ r (rdC t0.1 z)))) (fun i _ => by rw [ht0]; rfl) ?_
        rw [show B + 2 * ((p + 2, N + 1, A, va_up E N (eVar (rE0 4 p) (rlk (xa 1) z (p + 1) - 97) (nI (p + 1)))) : rS).2.1 = B + 2 * t0.2.1 by rw [hu0]]
        have hb0 := rCe_parts (T := xa 1) (z := z) (p := p) (d := d) (K := 4) (i := N) (m := 3) (k := 0) (vw := none) (s := t0) hz0 hp0
        rw [hres0] at hb0
        refine z_part C rfl hd8 RX (i := N) (k := 0) t0 d_R_readBinding_14 d_R_readBinding_15 d_R_readBinding_16 d_R_readBinding_17 d_R_readBinding_18 d_R_readBinding_19 d_R_readBinding_22 rfl rfl rfl (h0.at hz0 hm0) hi0 hk0 (by omega) (by omega) (by omega) (by omega) (by omega) (by omega) (by omega) (fun q hq o n' σ' hv => ?_) (fun s2 hs2 => ?_)
        · rw [hpo, ← hres0, rParts_ill hq]
          exact hv
        obtain ⟨hk1, hi1, hg1, hy1, hn1⟩ := rAdd_cnt hz0 hs2 hi0 hk0
        have hw0 := rParts_ge (T := xa 1) (z := z) (p := p) (d := d) (K := 4) (i := N) (m := 3) (k := 0) (vw := none) (s := t0) hz0 hs2 (by omega)
        rw [hres0] at hw0
        refine Z.widen (j1 := 2 * (s2.1 - p)) (j2 := 14 * (s2.1 - p)) (by omega) (by omega) ?_
        have hr0 : rTake (xa 1) z 59 (rAdd N (t0).2.1 s2) (fun s3 => rParts (xa 1) z (rdE (xa 1) z d) 4 N none 3 1 s3) = res := by rw [← hres0, rParts_ok hs2]; rfl
        refine z_take C rfl 59 (by decide) (rAdd N (t0).2.1 s2) d_R_readBinding_25 d_R_readBinding_26 d_R_readBinding_28 rfl (h0.at hy1 (Nat.zero_le _)) (by show s2.2.1 ≤ 150; omega) (by omega) (by omega) (by omega) (by omega) ⟨by omega, by omega⟩ (fun w => ?_) (fun w o n' σ' hv => ?_) (fun w => ?_)
        · rw [rTake, if_neg w] at hr0
          rw [← hr0] at hmc0 hms0
          have q1 : 2 * (s2.1 - p) + 1 ≤ mc := hmc0
          have q2 : 14 * (s2.1 - p) + 6 ≤ ms := hms0
          exact ⟨by omega, by omega⟩
        · rw [hpo, ← hr0, rTake, if_neg w]
          exact hv
        rw [rTake, if_pos w] at hr0
        have hlt0 := rlk_lt w (by decide)
        have hlt0 : s2.1 < z := hlt0
        obtain ⟨t1, ht1⟩ : ∃ t : rS, t = (s2.1 + 1, s2.2.1, (rAdd N (t0).2.1 s2).2.2) := ⟨_, rfl⟩
        have hres1 : rParts (xa 1) z (rdE (xa 1) z d) 4 N none 3 1 t1 = res := by rw [ht1]; exact hr0
        have hz1 : t1.1 ≤ z := by rw [ht1]; exact hlt0
        have hv1 : t1.1 = s2.1 + 1 := by rw [ht1]
        have hu1 : t1.2.1 = s2.2.1 := by rw [ht1]
        have hp1 : p ≤ t1.1 := by omega
        have hm1 : t1.2.1 ≤ t1.1 := by omega
        have hi1' : N < t1.2.1 := by omega
        have hk1' : (t1.2.2.2 N).2.2.2.1 = 1 := by rw [ht1]; exact hk1
        refine Z.same (τ := xOv xs xr xa xl xf (eOv B t1.2.1 t1.2.2.2 (va_up σ r (rdC t1.1 z)))) (fun i _ => by rw [ht1]; rfl) ?_
        rw [show B + 2 * (rAdd N (t0).2.1 s2).2.1 = B + 2 * t1.2.1 by rw [ht1]; rfl]
        clear hi1 hk1
        have hi1 := hi1'
        have hk1 := hk1'
        have hb1 := rCe_parts (T := xa 1) (z := z) (p := p) (d := d) (K := 4) (i := N) (m := 2) (k := 1) (vw := none) (s := t1) hz1 hp1
        rw [hres1] at hb1
        refine z_part C rfl hd8 RX (i := N) (k := 1) t1 d_R_readBinding_31 d_R_readBinding_32 d_R_readBinding_33 d_R_readBinding_34 d_R_readBinding_35 d_R_readBinding_36 d_R_readBinding_39 rfl rfl rfl (h0.at hz1 hm1) hi1 hk1 (by omega) (by omega) (by omega) (by omega) (by omega) (by omega) (by omega) (fun q hq o n' σ' hv => ?_) (fun s3 hs3 => ?_)
        · rw [hpo, ← hres1, rParts_ill hq]
          exact hv
        obtain ⟨hk2, hi2, hg2, hy2, hn2⟩ := rAdd_cnt hz1 hs3 hi1 hk1
        have hw1 := rParts_ge (T := xa 1) (z := z) (p := p) (d := d) (K := 4) (i := N) (m := 2) (k := 1) (vw := none) (s := t1) hz1 hs3 (by omega)
        rw [hres1] at hw1
        refine Z.widen (j1 := 2 * (s3.1 - p)) (j2 := 14 * (s3.1 - p)) (by omega) (by omega) ?_
        have hfin : res = .inr (rClose N none (rAdd N (t1).2.1 s3)) := by rw [← hres1, rParts_ok hs3]; rfl
        refine z_aload_n C 43 d_R_readBinding_42 rfl rfl ?_
        exact z_aret C rfl d_R_readBinding_43 (by rw [hpo, hfin]; exact ⟨rfl, rfl, rfl⟩) (by omega) (by omega)
      · exact absurd hl w
    · rcases hv with ⟨-, e0, -⟩ | ⟨w, -⟩
      · cases e0
      · exact absurd hl w
  · have hr1 : (.inl (p + 1) : rR) = res := by
      rw [← hres, rLet, if_neg (show ¬ (97 ≤ rlk (xa 1) z (rGo (p, N, A, E) (p + 1)).1 ∧ rlk (xa 1) z (rGo (p, N, A, E) (p + 1)).1 ≤ 116) from hl)]
      rfl
    rw [← hr1] at hmc0 hms0
    have q1 : 2 * (p + 1 - p) + 1 ≤ mc := hmc0
    have q2 : 14 * (p + 1 - p) + 6 ≤ ms := hms0
    refine z_aload_n C 1 d_R_readBinding_0 rfl rfl ?_
    refine z_getsF C 4 4 (by decide) sf_180 d_R_readBinding_1 rfl ?_
    refine z_call C 7 (c_R_readSignAndVariable (k := 4) h0 hpz (mc := 3) (ms := 20) ⟨by omega, by omega⟩ (fun _ => ⟨by omega, by omega⟩)) w_R_readSignAndVariable ini_R d_R_readBinding_4 rfl (z_goV (As := [.ref (1000001 + 4)]) C l_R_108 w_R_readSignAndVariable d_R_readBinding_4 (by omega) (hrd) rfl rfl) (Nat.le_of_ble_eq_true rfl) (by rw [hR]; simp only [zRm]; omega) (by rw [hR]; simp only [zRm]; omega) (by rw [hR]; simp only [zRm]; omega) (by rw [hR]; simp only [zRm]; omega) (fun v n' σ' hv => ?_) (fun x n' σ' hv => ?_)
    · rcases hv with ⟨w, -⟩ | ⟨-, x, τ, e0, -⟩
      · exact absurd w hl
      · cases e0
    · rcases hv with ⟨w, -⟩ | ⟨-, hv⟩
      · exact absurd w hl
      · exact zx_out C (fun h hh => nomatch hh) (by rw [hpo, ← hr1]; exact hv) (by omega) (by omega)
end CMP3
end
section
theorem d_R_readOperation_0 : decode b_R_readOperation 0 = .ok (.new 121, 3) := by decide +kernel
theorem d_R_readOperation_3 : decode b_R_readOperation 3 = .ok (.dup, 1) := by decide +kernel
theorem d_R_readOperation_4 : decode b_R_readOperation 4 = .ok (.getstatic 167, 3) := by decide +kernel
theorem d_R_readOperation_7 : decode b_R_readOperation 7 = .ok (.aload_n 0, 1) := by decide +kernel
theorem d_R_readOperation_8 : decode b_R_readOperation 8 = .ok (.getfield 9, 3) := by decide +kernel
theorem d_R_readOperation_11 : decode b_R_readOperation 11 = .ok (.invokespecial 126, 3) := by decide +kernel
theorem d_R_readOperation_14 : decode b_R_readOperation 14 = .ok (.astore_n 2, 1) := by decide +kernel
theorem d_R_readOperation_15 : decode b_R_readOperation 15 = .ok (.aload_n 0, 1) := by decide +kernel
theorem d_R_readOperation_16 : decode b_R_readOperation 16 = .ok (.bipush 40, 2) := by decide +kernel
theorem d_R_readOperation_18 : decode b_R_readOperation 18 = .ok (.invokevirtual 35, 3) := by decide +kernel
theorem d_R_readOperation_21 : decode b_R_readOperation 21 = .ok (.aload_n 2, 1) := by decide +kernel
theorem d_R_readOperation_22 : decode b_R_readOperation 22 = .ok (.aload_n 0, 1) := by decide +kernel
theorem d_R_readOperation_23 : decode b_R_readOperation 23 = .ok (.iload_n 1, 1) := by decide +kernel
theorem d_R_readOperation_24 : decode b_R_readOperation 24 = .ok (.iconst 1, 1) := by decide +kernel
theorem d_R_readOperation_25 : decode b_R_readOperation 25 = .ok (.iadd, 1) := by decide +kernel
theorem d_R_readOperation_26 : decode b_R_readOperation 26 = .ok (.invokevirtual 53, 3) := by decide +kernel
theorem d_R_readOperation_29 : decode b_R_readOperation 29 = .ok (.invokevirtual 154, 3) := by decide +kernel
theorem d_R_readOperation_32 : decode b_R_readOperation 32 = .ok (.aload_n 2, 1) := by decide +kernel
theorem d_R_readOperation_33 : decode b_R_readOperation 33 = .ok (.aload_n 0, 1) := by decide +kernel
theorem d_R_readOperation_34 : decode b_R_readOperation 34 = .ok (.invokevirtual 170, 3) := by decide +kernel
theorem d_R_readOperation_37 : decode b_R_readOperation 37 = .ok (.putfield 173, 3) := by decide +kernel
theorem d_R_readOperation_40 : decode b_R_readOperation 40 = .ok (.aload_n 2, 1) := by decide +kernel
theorem d_R_readOperation_41 : decode b_R_readOperation 41 = .ok (.aload_n 0, 1) := by decide +kernel
theorem d_R_readOperation_42 : decode b_R_readOperation 42 = .ok (.iload_n 1, 1) := by decide +kernel
theorem d_R_readOperation_43 : decode b_R_readOperation 43 = .ok (.iconst 1, 1) := by decide +kernel
theorem d_R_readOperation_44 : decode b_R_readOperation 44 = .ok (.iadd, 1) := by decide +kernel
theorem d_R_readOperation_45 : decode b_R_readOperation 45 = .ok (.invokevirtual 53, 3) := by decide +kernel
theorem d_R_readOperation_48 : decode b_R_readOperation 48 = .ok (.invokevirtual 154, 3) := by decide +kernel
theorem d_R_readOperation_51 : decode b_R_readOperation 51 = .ok (.aload_n 0, 1) := by decide +kernel
theorem d_R_readOperation_52 : decode b_R_readOperation 52 = .ok (.bipush 41, 2) := by decide +kernel
theorem d_R_readOperation_54 : decode b_R_readOperation 54 = .ok (.invokevirtual 35, 3) := by decide +kernel
theorem d_R_readOperation_57 : decode b_R_readOperation 57 = .ok (.aload_n 2, 1) := by decide +kernel
theorem d_R_readOperation_58 : decode b_R_readOperation 58 = .ok (.areturn, 1) := by decide +kernel
theorem sf_167 : Cond.fieldLink "SoleArrays$Reader" 167 "SoleArrays$Form" "OPERATION" "LSoleArrays$Form;" ∈ zTb := zt3 12 (by decide +kernel) rfl
theorem rIsOp_fits {c : Int32} (h : rIsOp c = true) : fits .char (.int c) = true := by
  unfold rIsOp at h
  simp only [Bool.or_eq_true, beq_iff_eq] at h
  rcases h with ((((w | w) | w) | w) | w) | w <;> rw [w] <;> decide
section CMP4
variable {G : zG} {l : Launch} {d r p z B N : Nat} {σ : zS} {xs : mS} {xr : Int64} {xa : mA} {xl : mL} {xf : xF} {E : Nat → eN} {A : mA}
theorem c_R_readOperation (RX : rHyp G l d) (hd8 : d ≤ 8) (h : rPre B N r p z σ xa) (hch : rlk (xa 1) z p = 40) {res : rR} (hres0 : rParts (xa 1) z (rdE (xa 1) z d) 2 N none 4 0 (rGo (rNode 2 0 p (rE0 2 p) (p, N, A, E)) (p + 1)) = res) {mc ms : Nat} (hmc0 : rCe p res ≤ mc) (hms0 : rSl p res ≤ ms) :
    MetZ G l y_R_readOperation b_R_readOperation 3 (some (.object "SoleArrays$Expression")) [] (9 + 4 * d + 2) mc ms [.ref r, .int (nI (8 - d))] (B + 2 * N) (xOv xs xr xa xl xf (eOv B N E σ)) (rPost B N r z σ xs xr xa xl xf res) := by
  have h0 := h
  obtain ⟨hr, hrB, hB, hrd0, hz, hp, hN, hc⟩ := h
  have hpz : p < z := rlk_lt hch (by decide)
  have hrd : xOv xs xr xa xl xf (eOv B N E σ) r = .inr (4, [.ref 1, .int (nI z), .ref 2, .int (nI p)]) := (xOv_at (by omega)).trans ((eOv_lo hrB).trans hrd0)
  have hb := rCe_ge (p := p) (rParts_res (T := xa 1) (R := rdE (xa 1) z d) (rdE_res d) (K := 2) (i := N) (vw := none) 4 0 (rGo (rNode 2 0 p (rE0 2 p) (p, N, A, E)) (p + 1)) hpz) (by show p ≤ p + 1; omega)
  rw [hres0] at hb
  have hbA : 2 * (p + 1 - p) ≤ rCe p res := hb.1
  have hbB : 14 * (p + 1 - p) ≤ rSl p res := hb.2
  refine MetZ.of (by decide) (Nat.le_of_ble_eq_true rfl) (fun K hK hR hpo hmc hms C => ?_)
  subst hK
  have hRc : (kR K).cells = mc := by rw [hR]; rfl
  have hRs : (kR K).slots = ms := by rw [hR]; rfl
  have hRf : (kR K).frames = 9 + 4 * d + 2 := by rw [hR]; rfl
  have hRl : (kR K).locals = 60 * (9 + 4 * d + 2) := by rw [hR]; rfl
  refine z_new C 3 n_R_121 d_R_readOperation_0 rfl (by omega) (by rw [hR]; simp only [zRm]; omega) (by rw [hR]; simp only [zRm]; omega) ?_
  refine z_dup C 4 d_R_readOperation_3 rfl rfl ?_
  refine z_getsF C 7 2 (by decide) sf_167 d_R_readOperation_4 rfl ?_
  refine z_aload_n C 8 d_R_readOperation_7 rfl rfl ?_
  refine z_get C 11 f_R_9 d_R_readOperation_8 rfl (by omega) ((va_up_ne _ _ (by omega)).trans hrd) rfl ?_
  refine z_call C 14 (c_E_init (by omega) (by omega) 2 (nI p)) w_E_init ini_E d_R_readOperation_11 rfl (z_goI (As := [.ref (1000001 + 2), .int (nI p)]) C l_R_126 w_E_init d_R_readOperation_11 rfl) (Nat.le_of_ble_eq_true rfl) (by rw [hR]; simp only [zRm]; omega) (by rw [hR]; simp only [zRm]; omega) (by rw [hR]; simp only [zRm]; omega) (by rw [hR]; simp only [zRm]; omega) (fun v n' σ' hv => ?_) (fun x n' σ' hv => ?_)
  · obtain ⟨e0, e1, rfl⟩ := hv
    cases e0
    have e1 : n' = B + 2 * (N + 1) := e1
    subst e1
    refine z_astore_n C 15 d_R_readOperation_14 rfl (by decide) ?_
    refine Z.same (τ := xOv xs xr xa xl xf (eOv B (N + 1) (va_up E N (rE0 2 p)) (va_up σ r (rdC p z)))) (fun i _ => by rw [va_same hrd0]; rfl) ?_
    refine z_take C rfl 40 (by decide) (p, N + 1, rFlat A N 2 0 p, va_up E N (rE0 2 p)) d_R_readOperation_15 d_R_readOperation_16 d_R_readOperation_18 rfl (h0.at hp (Nat.zero_le _)) (by show N + 1 ≤ 150; omega) (by omega) (by omega) (by omega) (by omega) ⟨by omega, by omega⟩ (fun w => absurd hch w) (fun w => absurd hch w) (fun _ => ?_)
    obtain ⟨t0, ht0⟩ : ∃ t : rS, t = rGo (rNode 2 0 p (rE0 2 p) (p, N, A, E)) (p + 1) := ⟨_, rfl⟩
    have hv0 : t0.1 = p + 1 := by rw [ht0]; rfl
    have hu0 : t0.2.1 = N + 1 := by rw [ht0]; rfl
    rw [← ht0] at hres0
    have hz0 : t0.1 ≤ z := by omega
    have hp0 : p ≤ t0.1 := by omega
    have hm0 : t0.2.1 ≤ t0.1 := by omega
    have hi0 : N < t0.2.1 := by omega
    have hk0 : (t0.2.2.2 N).2.2.2.1 = 0 := by
      rw [ht0]
      show (va_up E N (rE0 2 p) N).2.2.2.1 = 0
      rw [va_up_self]
      rfl
    refine Z.same (τ := xOv xs xr xa xl xf (eOv B t0.2.1 t0.2.2.2 (va_up σ r (rdC t0.1 z)))) (fun i _ => by rw [ht0]; rfl) ?_
    rw [show B + 2 * ((p, N + 1, rFlat A N 2 0 p, va_up E N (rE0 2 p)) : rS).2.1 = B + 2 * t0.2.1 by rw [hu0]]
    have hb0 := rCe_parts (T := xa 1) (z := z) (p := p) (d := d) (K := 2) (i := N) (m := 3) (k := 0) (vw := none) (s := t0) hz0 hp0
    rw [hres0] at hb0
    refine z_part C rfl hd8 RX (i := N) (k := 0) t0 d_R_readOperation_21 d_R_readOperation_22 d_R_readOperation_23 d_R_readOperation_24 d_R_readOperation_25 d_R_readOperation_26 d_R_readOperation_29 rfl rfl rfl (h0.at hz0 hm0) hi0 hk0 (by omega) (by omega) (by omega) (by omega) (by omega) (by omega) (by omega) (fun q hq o n' σ' hv => ?_) (fun s2 hs2 => ?_)
    · rw [hpo, ← hres0, rParts_ill hq]
      exact hv
    obtain ⟨hk1, hi1, hg1, hy1, hn1⟩ := rAdd_cnt hz0 hs2 hi0 hk0
    have hw0 := rParts_ge (T := xa 1) (z := z) (p := p) (d := d) (K := 2) (i := N) (m := 3) (k := 0) (vw := none) (s := t0) hz0 hs2 (by omega)
    rw [hres0] at hw0
    refine Z.widen (j1 := 2 * (s2.1 - p)) (j2 := 14 * (s2.1 - p)) (by omega) (by omega) ?_
    have hOp : (if rIsOp (rlk (xa 1) z s2.1) = true then rParts (xa 1) z (rdE (xa 1) z d) 2 N none 3 1 (rOp N (rlk (xa 1) z s2.1) (rAdd N (t0).2.1 s2)) else .inl s2.1) = res := by rw [← hres0, rParts_ok hs2]; rfl
    have hra : eOv B s2.2.1 (rAdd N (t0).2.1 s2).2.2.2 (va_up σ r (rdC s2.1 z)) r = rdC s2.1 z := (eOv_lo hrB).trans (va_up_self _ _ _)
    refine z_aload_n C 33 d_R_readOperation_32 rfl rfl ?_
    refine z_aload_n C 34 d_R_readOperation_33 rfl rfl ?_
    by_cases hop : rIsOp (rlk (xa 1) z s2.1) = true
    rotate_left
    · rw [if_neg hop] at hOp
      have hop0 : rIsOp (xlk xa s2.1 z) = false := by
        cases h9 : rIsOp (xlk xa s2.1 z) with
        | false => rfl
        | true => exact absurd h9 hop
      rw [← hOp] at hmc0 hms0
      have q1 : 2 * (s2.1 - p) + 1 ≤ mc := hmc0
      have q2 : 14 * (s2.1 - p) + 6 ≤ ms := hms0
      refine z_call C 37 (c_R_takeOperation (p := s2.1) (z := z) (by omega) (by omega) (by omega) (by omega) hra hz (by omega) hc (mc := 1) (ms := 6) (fun _ => ⟨by omega, by omega⟩)) w_R_takeOperation ini_R d_R_readOperation_34 rfl (z_goV (As := []) C l_R_170 w_R_takeOperation d_R_readOperation_34 (by omega) ((xOv_at (by omega)).trans hra) rfl rfl) (Nat.le_of_ble_eq_true rfl) (by rw [hR]; simp only [zRm]; omega) (by rw [hR]; simp only [zRm]; omega) (by rw [hR]; simp only [zRm]; omega) (by rw [hR]; simp only [zRm]; omega) (fun v n' σ' hv => ?_) (fun x n' σ' hv => ?_)
      · rcases hv with ⟨w, -⟩ | ⟨-, e0, -⟩
        · exact absurd w hop
        · cases e0
      · rcases hv with ⟨w, -⟩ | ⟨-, e0, rfl, rfl⟩
        · exact absurd w hop
        · cases e0
          exact zx_out C (fun h hh => nomatch hh) (by rw [hpo, ← hOp]; exact rIll_mk hrB (by omega)) (by omega) (by omega)
    rw [if_pos hop] at hOp
    have hltO : s2.1 < z := rlk_lt (T := xa 1) rfl (rIsOp_ne hop)
    have hopn : ¬ rIsOp (xlk xa s2.1 z) = false := fun w => absurd (hop.symm.trans w) (by decide)
    refine z_call C 37 (c_R_takeOperation (p := s2.1) (z := z) (by omega) (by omega) (by omega) (by omega) hra hz (by omega) hc (mc := 0) (ms := 0) (fun w => absurd w hopn)) w_R_takeOperation ini_R d_R_readOperation_34 rfl (z_goV (As := []) C l_R_170 w_R_takeOperation d_R_readOperation_34 (by omega) ((xOv_at (by omega)).trans hra) rfl rfl) (Nat.le_of_ble_eq_true rfl) (by rw [hR]; simp only [zRm]; omega) (by rw [hR]; simp only [zRm]; omega) (by rw [hR]; simp only [zRm]; omega) (by rw [hR]; simp only [zRm]; omega) (fun v n' σ' hv => ?_) (fun x n' σ' hv => ?_)
    rotate_left
    · rcases hv with ⟨-, e0, -⟩ | ⟨w, -⟩
      · cases e0
      · exact absurd w hopn
    obtain ⟨-, e0, rfl, rfl⟩ := hv.resolve_right (fun w => hopn w.1)
    cases e0
    rw [eOv_low hrB, va_up2]
    refine z_put C 40 p_R_173 d_R_readOperation_37 rfl (by omega) ((xOv_at (by omega)).trans (eOv_obj hi1)) (z_ltb rfl) (by rw [xlk, if_pos hltO]; exact hc s2.1 (by omega)) (rIsOp_fits hop) ?_
    rw [xOv_up (by omega)]
    show Z G K _ (xOv _ _ _ _ _ (va_up _ _ (eCell B N (eOp ((rAdd N (t0).2.1 s2).2.2.2 N) (rlk (xa 1) z s2.1))))) _ _ _ _ _
    rw [eOv_upO (e' := eOp ((rAdd N (t0).2.1 s2).2.2.2 N) (rlk (xa 1) z s2.1)) hi1 rfl]
    obtain ⟨t1, ht1⟩ : ∃ t : rS, t = rOp N (rlk (xa 1) z s2.1) (rAdd N (t0).2.1 s2) := ⟨_, rfl⟩
    have hres1 : rParts (xa 1) z (rdE (xa 1) z d) 2 N none 3 1 t1 = res := by rw [ht1]; exact hOp
    have hv1 : t1.1 = s2.1 + 1 := by rw [ht1]; rfl
    have hu1 : t1.2.1 = s2.2.1 := by rw [ht1]; rfl
    have hz1 : t1.1 ≤ z := by omega
    have hp1 : p ≤ t1.1 := by omega
    have hm1 : t1.2.1 ≤ t1.1 := by omega
    have hi1' : N < t1.2.1 := by omega
    have hk1' : (t1.2.2.2 N).2.2.2.1 = 1 := by
      rw [ht1]
      show (va_up (rAdd N (t0).2.1 s2).2.2.2 N (eOp ((rAdd N (t0).2.1 s2).2.2.2 N) _) N).2.2.2.1 = 1
      rw [va_up_self]
      exact hk1
    refine Z.same (τ := xOv xs xr xa xl xf (eOv B t1.2.1 t1.2.2.2 (va_up σ r (rdC t1.1 z)))) (fun i _ => by rw [ht1]; rfl) ?_
    rw [show B + 2 * s2.2.1 = B + 2 * t1.2.1 by rw [hu1]]
    clear hi1 hk1
    have hi1 := hi1'
    have hk1 := hk1'
    have hb1 := rCe_parts (T := xa 1) (z := z) (p := p) (d := d) (K := 2) (i := N) (m := 2) (k := 1) (vw := none) (s := t1) hz1 hp1
    rw [hres1] at hb1
    refine z_part C rfl hd8 RX (i := N) (k := 1) t1 d_R_readOperation_40 d_R_readOperation_41 d_R_readOperation_42 d_R_readOperation_43 d_R_readOperation_44 d_R_readOperation_45 d_R_readOperation_48 rfl rfl rfl (h0.at hz1 hm1) hi1 hk1 (by omega) (by omega) (by omega) (by omega) (by omega) (by omega) (by omega) (fun q hq o n' σ' hv => ?_) (fun s3 hs3 => ?_)
    · rw [hpo, ← hres1, rParts_ill hq]
      exact hv
    obtain ⟨hk2, hi2, hg2, hy2, hn2⟩ := rAdd_cnt hz1 hs3 hi1 hk1
    have hw1 := rParts_ge (T := xa 1) (z := z) (p := p) (d := d) (K := 2) (i := N) (m := 2) (k := 1) (vw := none) (s := t1) hz1 hs3 (by omega)
    rw [hres1] at hw1
    refine Z.widen (j1 := 2 * (s3.1 - p)) (j2 := 14 * (s3.1 - p)) (by omega) (by omega) ?_
    have hr1 : rTake (xa 1) z 41 (rAdd N (t1).2.1 s3) (fun s3 => .inr (rClose N none s3)) = res := by rw [← hres1, rParts_ok hs3]; rfl
    refine z_take C rfl 41 (by decide) (rAdd N (t1).2.1 s3) d_R_readOperation_51 d_R_readOperation_52 d_R_readOperation_54 rfl (h0.at hy2 (Nat.zero_le _)) (by show s3.2.1 ≤ 150; omega) (by omega) (by omega) (by omega) (by omega) ⟨by omega, by omega⟩ (fun w => ?_) (fun w o n' σ' hv => ?_) (fun w => ?_)
    · rw [rTake, if_neg w] at hr1
      rw [← hr1] at hmc0 hms0
      have q1 : 2 * (s3.1 - p) + 1 ≤ mc := hmc0
      have q2 : 14 * (s3.1 - p) + 6 ≤ ms := hms0
      exact ⟨by omega, by omega⟩
    · rw [hpo, ← hr1, rTake, if_neg w]
      exact hv
    rw [rTake, if_pos w] at hr1
    have hlt1 := rlk_lt w (by decide)
    have hlt1 : s3.1 < z := hlt1
    refine z_aload_n C 58 d_R_readOperation_57 rfl rfl ?_
    rw [← hr1] at hmc0 hms0
    have q1 : 2 * (s3.1 + 1 - p) ≤ mc := hmc0
    have q2 : 14 * (s3.1 + 1 - p) ≤ ms := hms0
    exact z_aret C rfl d_R_readOperation_58 (by rw [hpo, ← hr1]; exact ⟨rfl, rfl, rfl⟩) (by omega) (by omega)
  · cases hv.1
end CMP4
end
section
theorem d_R_readReading_0 : decode b_R_readReading 0 = .ok (.new 121, 3) := by decide +kernel
theorem d_R_readReading_3 : decode b_R_readReading 3 = .ok (.dup, 1) := by decide +kernel
theorem d_R_readReading_4 : decode b_R_readReading 4 = .ok (.getstatic 151, 3) := by decide +kernel
theorem d_R_readReading_7 : decode b_R_readReading 7 = .ok (.iload_n 1, 1) := by decide +kernel
theorem d_R_readReading_8 : decode b_R_readReading 8 = .ok (.invokespecial 126, 3) := by decide +kernel
theorem d_R_readReading_11 : decode b_R_readReading 11 = .ok (.astore_n 3, 1) := by decide +kernel
theorem d_R_readReading_12 : decode b_R_readReading 12 = .ok (.aload_n 0, 1) := by decide +kernel
theorem d_R_readReading_13 : decode b_R_readReading 13 = .ok (.bipush 91, 2) := by decide +kernel
theorem d_R_readReading_15 : decode b_R_readReading 15 = .ok (.invokevirtual 35, 3) := by decide +kernel
theorem d_R_readReading_18 : decode b_R_readReading 18 = .ok (.aload_n 3, 1) := by decide +kernel
theorem d_R_readReading_19 : decode b_R_readReading 19 = .ok (.aload_n 0, 1) := by decide +kernel
theorem d_R_readReading_20 : decode b_R_readReading 20 = .ok (.iload_n 2, 1) := by decide +kernel
theorem d_R_readReading_21 : decode b_R_readReading 21 = .ok (.iconst 1, 1) := by decide +kernel
theorem d_R_readReading_22 : decode b_R_readReading 22 = .ok (.iadd, 1) := by decide +kernel
theorem d_R_readReading_23 : decode b_R_readReading 23 = .ok (.invokevirtual 53, 3) := by decide +kernel
theorem d_R_readReading_26 : decode b_R_readReading 26 = .ok (.invokevirtual 154, 3) := by decide +kernel
theorem d_R_readReading_29 : decode b_R_readReading 29 = .ok (.aload_n 0, 1) := by decide +kernel
theorem d_R_readReading_30 : decode b_R_readReading 30 = .ok (.invokevirtual 39, 3) := by decide +kernel
theorem d_R_readReading_33 : decode b_R_readReading 33 = .ok (.bipush 44, 2) := by decide +kernel
theorem d_R_readReading_35 : decode b_R_readReading 35 = .ok (.if_icmp .ne 20, 3) := by decide +kernel
theorem d_R_readReading_38 : decode b_R_readReading 38 = .ok (.aload_n 0, 1) := by decide +kernel
theorem d_R_readReading_39 : decode b_R_readReading 39 = .ok (.bipush 44, 2) := by decide +kernel
theorem d_R_readReading_41 : decode b_R_readReading 41 = .ok (.invokevirtual 35, 3) := by decide +kernel
theorem d_R_readReading_44 : decode b_R_readReading 44 = .ok (.aload_n 3, 1) := by decide +kernel
theorem d_R_readReading_45 : decode b_R_readReading 45 = .ok (.aload_n 0, 1) := by decide +kernel
theorem d_R_readReading_46 : decode b_R_readReading 46 = .ok (.iload_n 2, 1) := by decide +kernel
theorem d_R_readReading_47 : decode b_R_readReading 47 = .ok (.iconst 1, 1) := by decide +kernel
theorem d_R_readReading_48 : decode b_R_readReading 48 = .ok (.iadd, 1) := by decide +kernel
theorem d_R_readReading_49 : decode b_R_readReading 49 = .ok (.invokevirtual 53, 3) := by decide +kernel
theorem d_R_readReading_52 : decode b_R_readReading 52 = .ok (.invokevirtual 154, 3) := by decide +kernel
theorem d_R_readReading_55 : decode b_R_readReading 55 = .ok (.aload_n 0, 1) := by decide +kernel
theorem d_R_readReading_56 : decode b_R_readReading 56 = .ok (.bipush 93, 2) := by decide +kernel
theorem d_R_readReading_58 : decode b_R_readReading 58 = .ok (.invokevirtual 35, 3) := by decide +kernel
theorem d_R_readReading_61 : decode b_R_readReading 61 = .ok (.aload_n 3, 1) := by decide +kernel
theorem d_R_readReading_62 : decode b_R_readReading 62 = .ok (.areturn, 1) := by decide +kernel
theorem sf_151 : Cond.fieldLink "SoleArrays$Reader" 151 "SoleArrays$Form" "READING" "LSoleArrays$Form;" ∈ zTb := zt2 228 (by decide +kernel) rfl
theorem rBeh_70 {T : Nat → Int32} {z i : Nat} {s : rS} {g f : rS → rR} : rBeh T z 7 0 i s g f = if rlk T z s.1 = 44 then g (s.1 + 1, s.2) else rTake T z 93 s f := by
  show (if 0 = 0 ∧ rlk T z s.1 = 44 then g (s.1 + 1, s.2) else rTake T z 93 s f) = _
  by_cases h : rlk T z s.1 = 44
  · rw [if_pos h, if_pos ⟨rfl, h⟩]
  · rw [if_neg h, if_neg (fun q => h q.2)]
theorem rBeh_81 {T : Nat → Int32} {z i : Nat} {s : rS} {g f : rS → rR} : rBeh T z 8 1 i s g f = if rlk T z s.1 = 44 then g (s.1 + 1, s.2) else rTake T z 125 s f := by
  show (if 1 = 1 ∧ rlk T z s.1 = 44 then g (s.1 + 1, s.2) else rTake T z 125 s f) = _
  by_cases h : rlk T z s.1 = 44
  · rw [if_pos h, if_pos ⟨rfl, h⟩]
  · rw [if_neg h, if_neg (fun q => h q.2)]
section CMP5
variable {G : zG} {l : Launch} {d r p z B N : Nat} {σ : zS} {xs : mS} {xr : Int64} {xa : mA} {xl : mL} {xf : xF} {E : Nat → eN} {A : mA}
theorem c_R_readReading {v : Int32} (RX : rHyp G l d) (hd8 : d ≤ 8) (h : rPre B N r (p + 1) z σ xa) (hNp : N ≤ p) (hch : rlk (xa 1) z (p + 1) = 91) {res : rR} (hres0 : rParts (xa 1) z (rdE (xa 1) z d) 7 N none 4 0 (rGo (rNode 7 v p (rE0 7 p) (p, N, A, E)) (p + 2)) = res) {mc ms : Nat} (hmc0 : rCe p res ≤ mc) (hms0 : rSl p res ≤ ms) :
    MetZ G l y_R_readReading b_R_readReading 4 (some (.object "SoleArrays$Expression")) [] (9 + 4 * d + 2) mc ms [.ref r, .int (nI p), .int (nI (8 - d))] (B + 2 * N) (xOv xs xr xa xl xf (eOv B N E σ)) (rPost B N r z σ xs xr xa xl xf res) := by
  have h0 := h
  obtain ⟨hr, hrB, hB, hrd0, hz, hp, hN, hc⟩ := h
  have hpz : p + 1 < z := rlk_lt hch (by decide)
  have hrd : xOv xs xr xa xl xf (eOv B N E σ) r = .inr (4, [.ref 1, .int (nI z), .ref 2, .int (nI (p + 1))]) := (xOv_at (by omega)).trans ((eOv_lo hrB).trans hrd0)
  have hb := rCe_ge (p := p) (rParts_res (T := xa 1) (R := rdE (xa 1) z d) (rdE_res d) (K := 7) (i := N) (vw := none) 4 0 (rGo (rNode 7 v p (rE0 7 p) (p, N, A, E)) (p + 2)) hpz) (by show p ≤ p + 2; omega)
  rw [hres0] at hb
  have hbA : 2 * (p + 2 - p) ≤ rCe p res := hb.1
  have hbB : 14 * (p + 2 - p) ≤ rSl p res := hb.2
  refine MetZ.of (by decide) (Nat.le_of_ble_eq_true rfl) (fun K hK hR hpo hmc hms C => ?_)
  subst hK
  have hRc : (kR K).cells = mc := by rw [hR]; rfl
  have hRs : (kR K).slots = ms := by rw [hR]; rfl
  have hRf : (kR K).frames = 9 + 4 * d + 2 := by rw [hR]; rfl
  have hRl : (kR K).locals = 60 * (9 + 4 * d + 2) := by rw [hR]; rfl
  refine z_new C 3 n_R_121 d_R_readReading_0 rfl (by omega) (by rw [hR]; simp only [zRm]; omega) (by rw [hR]; simp only [zRm]; omega) ?_
  refine z_dup C 4 d_R_readReading_3 rfl rfl ?_
  refine z_getsF C 7 7 (by decide) sf_151 d_R_readReading_4 rfl ?_
  refine z_iload_n C 8 d_R_readReading_7 rfl rfl ?_
  refine z_call C 11 (c_E_init (by omega) (by omega) 7 (nI p)) w_E_init ini_E d_R_readReading_8 rfl (z_goI (As := [.ref (1000001 + 7), .int (nI p)]) C l_R_126 w_E_init d_R_readReading_8 rfl) (Nat.le_of_ble_eq_true rfl) (by rw [hR]; simp only [zRm]; omega) (by rw [hR]; simp only [zRm]; omega) (by rw [hR]; simp only [zRm]; omega) (by rw [hR]; simp only [zRm]; omega) (fun v n' σ' hv => ?_) (fun x n' σ' hv => ?_)
  · obtain ⟨e0, e1, rfl⟩ := hv
    cases e0
    have e1 : n' = B + 2 * (N + 1) := e1
    subst e1
    refine z_astore_n C 12 d_R_readReading_11 rfl (by decide) ?_
    refine Z.same (τ := xOv xs xr xa xl xf (eOv B (N + 1) (va_up E N (rE0 7 p)) (va_up σ r (rdC (p + 1) z)))) (fun i _ => by rw [va_same hrd0]; rfl) ?_
    refine z_take C rfl 91 (by decide) (p + 1, N + 1, rFlat A N 7 v p, va_up E N (rE0 7 p)) d_R_readReading_12 d_R_readReading_13 d_R_readReading_15 rfl (h0.at hp (Nat.zero_le _)) (by show N + 1 ≤ 150; omega) (by omega) (by omega) (by omega) (by omega) ⟨by omega, by omega⟩ (fun w => absurd hch w) (fun w => absurd hch w) (fun _ => ?_)
    obtain ⟨t0, ht0⟩ : ∃ t : rS, t = rGo (rNode 7 v p (rE0 7 p) (p, N, A, E)) (p + 2) := ⟨_, rfl⟩
    have hv0 : t0.1 = p + 2 := by rw [ht0]; rfl
    have hu0 : t0.2.1 = N + 1 := by rw [ht0]; rfl
    rw [← ht0] at hres0
    have hz0 : t0.1 ≤ z := by omega
    have hp0 : p ≤ t0.1 := by omega
    have hm0 : t0.2.1 ≤ t0.1 := by omega
    have hi0 : N < t0.2.1 := by omega
    have hk0 : (t0.2.2.2 N).2.2.2.1 = 0 := by
      rw [ht0]
      show (va_up E N (rE0 7 p) N).2.2.2.1 = 0
      rw [va_up_self]
      rfl
    refine Z.same (τ := xOv xs xr xa xl xf (eOv B t0.2.1 t0.2.2.2 (va_up σ r (rdC t0.1 z)))) (fun i _ => by rw [ht0]; rfl) ?_
    rw [show B + 2 * ((p + 1, N + 1, rFlat A N 7 v p, va_up E N (rE0 7 p)) : rS).2.1 = B + 2 * t0.2.1 by rw [hu0]]
    have hb0 := rCe_parts (T := xa 1) (z := z) (p := p) (d := d) (K := 7) (i := N) (m := 3) (k := 0) (vw := none) (s := t0) hz0 hp0
    rw [hres0] at hb0
    refine z_part C rfl hd8 RX (i := N) (k := 0) t0 d_R_readReading_18 d_R_readReading_19 d_R_readReading_20 d_R_readReading_21 d_R_readReading_22 d_R_readReading_23 d_R_readReading_26 rfl rfl rfl (h0.at hz0 hm0) hi0 hk0 (by omega) (by omega) (by omega) (by omega) (by omega) (by omega) (by omega) (fun q hq o n' σ' hv => ?_) (fun s2 hs2 => ?_)
    · rw [hpo, ← hres0, rParts_ill hq]
      exact hv
    obtain ⟨hk1, hi1, hg1, hy1, hn1⟩ := rAdd_cnt hz0 hs2 hi0 hk0
    have hw0 := rParts_ge (T := xa 1) (z := z) (p := p) (d := d) (K := 7) (i := N) (m := 3) (k := 0) (vw := none) (s := t0) hz0 hs2 (by omega)
    rw [hres0] at hw0
    refine Z.widen (j1 := 2 * (s2.1 - p)) (j2 := 14 * (s2.1 - p)) (by omega) (by omega) ?_
    have hra : eOv B s2.2.1 (rAdd N (t0).2.1 s2).2.2.2 (va_up σ r (rdC s2.1 z)) r = rdC s2.1 z := (eOv_lo hrB).trans (va_up_self _ _ _)
    refine z_aload_n C 30 d_R_readReading_29 rfl rfl ?_
    refine z_call C 33 (c_R_next (by omega) (by omega) (by omega) hra hz (by omega) hc) w_R_next ini_R d_R_readReading_30 rfl (z_goV (As := []) C l_R_39 w_R_next d_R_readReading_30 (by omega) ((xOv_at (by omega)).trans hra) rfl rfl) (Nat.le_of_ble_eq_true rfl) (by rw [hR]; simp only [zRm]; omega) (by rw [hR]; simp only [zRm]; omega) (by rw [hR]; simp only [zRm]; omega) (by rw [hR]; simp only [zRm]; omega) (fun v n' σ' hv => ?_) (fun x n' σ' hv => ?_)
    rotate_left
    · cases hv.1
    obtain ⟨e0, e1, rfl⟩ := hv
    cases e0
    subst e1
    refine z_bipush C 35 d_R_readReading_33 rfl 44 (by decide) ?_
    by_cases hcm : rlk (xa 1) z s2.1 = 44
    rotate_left
    · refine z_icmp_ne C 38 55 d_R_readReading_35 rfl (by decide) (fun _ => ?_) (fun h9 => absurd h9 (show ¬ xlk xa s2.1 z = 44 from hcm))
      have hr0 : rTake (xa 1) z 93 (rAdd N (t0).2.1 s2) (fun s3 => .inr (rClose N none s3)) = res := by rw [← hres0, rParts_ok hs2]; rw [rBeh_70]; exact (if_neg (show ¬ rlk (xa 1) z (rAdd N (t0).2.1 s2).1 = 44 from hcm)).symm
      refine z_take C rfl 93 (by decide) (rAdd N (t0).2.1 s2) d_R_readReading_55 d_R_readReading_56 d_R_readReading_58 rfl (h0.at hy1 (Nat.zero_le _)) (by show s2.2.1 ≤ 150; omega) (by omega) (by omega) (by omega) (by omega) ⟨by omega, by omega⟩ (fun w => ?_) (fun w o n' σ' hv => ?_) (fun w => ?_)
      · rw [rTake, if_neg w] at hr0
        rw [← hr0] at hmc0 hms0
        have q1 : 2 * (s2.1 - p) + 1 ≤ mc := hmc0
        have q2 : 14 * (s2.1 - p) + 6 ≤ ms := hms0
        exact ⟨by omega, by omega⟩
      · rw [hpo, ← hr0, rTake, if_neg w]
        exact hv
      rw [rTake, if_pos w] at hr0
      have hlt0 := rlk_lt w (by decide)
      have hlt0 : s2.1 < z := hlt0
      refine z_aload_n C 62 d_R_readReading_61 rfl rfl ?_
      rw [← hr0] at hmc0 hms0
      have q1 : 2 * (s2.1 + 1 - p) ≤ mc := hmc0
      have q2 : 14 * (s2.1 + 1 - p) ≤ ms := hms0
      exact z_aret C rfl d_R_readReading_62 (by rw [hpo, ← hr0]; exact ⟨rfl, rfl, rfl⟩) (by omega) (by omega)
    refine z_icmp_ne C 38 55 d_R_readReading_35 rfl (by decide) (fun h9 => absurd (show xlk xa s2.1 z = 44 from hcm) h9) (fun _ => ?_)
    have hr0 : rParts (xa 1) z (rdE (xa 1) z d) 7 N none 3 1 (s2.1 + 1, s2.2.1, (rAdd N (t0).2.1 s2).2.2) = res := by
      rw [← hres0, rParts_ok hs2, rBeh_70, if_pos (show rlk (xa 1) z (rAdd N (t0).2.1 s2).1 = 44 from hcm)]
      rfl
    have hlt0 : s2.1 < z := rlk_lt hcm (by decide)
    refine z_take C rfl 44 (by decide) (rAdd N (t0).2.1 s2) d_R_readReading_38 d_R_readReading_39 d_R_readReading_41 rfl (h0.at hy1 (Nat.zero_le _)) (by show s2.2.1 ≤ 150; omega) (by omega) (by omega) (by omega) (by omega) ⟨by omega, by omega⟩ (fun w => absurd hcm w) (fun w => absurd hcm w) (fun _ => ?_)
    obtain ⟨t1, ht1⟩ : ∃ t : rS, t = (s2.1 + 1, s2.2.1, (rAdd N (t0).2.1 s2).2.2) := ⟨_, rfl⟩
    have hres1 : rParts (xa 1) z (rdE (xa 1) z d) 7 N none 3 1 t1 = res := by rw [ht1]; exact hr0
    have hz1 : t1.1 ≤ z := by rw [ht1]; exact hlt0
    have hv1 : t1.1 = s2.1 + 1 := by rw [ht1]
    have hu1 : t1.2.1 = s2.2.1 := by rw [ht1]
    have hp1 : p ≤ t1.1 := by omega
    have hm1 : t1.2.1 ≤ t1.1 := by omega
    have hi1' : N < t1.2.1 := by omega
    have hk1' : (t1.2.2.2 N).2.2.2.1 = 1 := by rw [ht1]; exact hk1
    refine Z.same (τ := xOv xs xr xa xl xf (eOv B t1.2.1 t1.2.2.2 (va_up σ r (rdC t1.1 z)))) (fun i _ => by rw [ht1]; rfl) ?_
    rw [show B + 2 * (rAdd N (t0).2.1 s2).2.1 = B + 2 * t1.2.1 by rw [ht1]; rfl]
    clear hi1 hk1
    have hi1 := hi1'
    have hk1 := hk1'
    have hb1 := rCe_parts (T := xa 1) (z := z) (p := p) (d := d) (K := 7) (i := N) (m := 2) (k := 1) (vw := none) (s := t1) hz1 hp1
    rw [hres1] at hb1
    refine z_part C rfl hd8 RX (i := N) (k := 1) t1 d_R_readReading_44 d_R_readReading_45 d_R_readReading_46 d_R_readReading_47 d_R_readReading_48 d_R_readReading_49 d_R_readReading_52 rfl rfl rfl (h0.at hz1 hm1) hi1 hk1 (by omega) (by omega) (by omega) (by omega) (by omega) (by omega) (by omega) (fun q hq o n' σ' hv => ?_) (fun s3 hs3 => ?_)
    · rw [hpo, ← hres1, rParts_ill hq]
      exact hv
    obtain ⟨hk2, hi2, hg2, hy2, hn2⟩ := rAdd_cnt hz1 hs3 hi1 hk1
    have hw1 := rParts_ge (T := xa 1) (z := z) (p := p) (d := d) (K := 7) (i := N) (m := 2) (k := 1) (vw := none) (s := t1) hz1 hs3 (by omega)
    rw [hres1] at hw1
    refine Z.widen (j1 := 2 * (s3.1 - p)) (j2 := 14 * (s3.1 - p)) (by omega) (by omega) ?_
    have hr1 : rTake (xa 1) z 93 (rAdd N (t1).2.1 s3) (fun s3 => .inr (rClose N none s3)) = res := by rw [← hres1, rParts_ok hs3]; rfl
    refine z_take C rfl 93 (by decide) (rAdd N (t1).2.1 s3) d_R_readReading_55 d_R_readReading_56 d_R_readReading_58 rfl (h0.at hy2 (Nat.zero_le _)) (by show s3.2.1 ≤ 150; omega) (by omega) (by omega) (by omega) (by omega) ⟨by omega, by omega⟩ (fun w => ?_) (fun w o n' σ' hv => ?_) (fun w => ?_)
    · rw [rTake, if_neg w] at hr1
      rw [← hr1] at hmc0 hms0
      have q1 : 2 * (s3.1 - p) + 1 ≤ mc := hmc0
      have q2 : 14 * (s3.1 - p) + 6 ≤ ms := hms0
      exact ⟨by omega, by omega⟩
    · rw [hpo, ← hr1, rTake, if_neg w]
      exact hv
    rw [rTake, if_pos w] at hr1
    have hlt1 := rlk_lt w (by decide)
    have hlt1 : s3.1 < z := hlt1
    refine z_aload_n C 62 d_R_readReading_61 rfl rfl ?_
    rw [← hr1] at hmc0 hms0
    have q1 : 2 * (s3.1 + 1 - p) ≤ mc := hmc0
    have q2 : 14 * (s3.1 + 1 - p) ≤ ms := hms0
    exact z_aret C rfl d_R_readReading_62 (by rw [hpo, ← hr1]; exact ⟨rfl, rfl, rfl⟩) (by omega) (by omega)
  · cases hv.1
end CMP5
end
section
theorem d_R_readUpdate_0 : decode b_R_readUpdate 0 = .ok (.new 121, 3) := by decide +kernel
theorem d_R_readUpdate_3 : decode b_R_readUpdate 3 = .ok (.dup, 1) := by decide +kernel
theorem d_R_readUpdate_4 : decode b_R_readUpdate 4 = .ok (.getstatic 158, 3) := by decide +kernel
theorem d_R_readUpdate_7 : decode b_R_readUpdate 7 = .ok (.iload_n 1, 1) := by decide +kernel
theorem d_R_readUpdate_8 : decode b_R_readUpdate 8 = .ok (.invokespecial 126, 3) := by decide +kernel
theorem d_R_readUpdate_11 : decode b_R_readUpdate 11 = .ok (.astore_n 3, 1) := by decide +kernel
theorem d_R_readUpdate_12 : decode b_R_readUpdate 12 = .ok (.aload_n 0, 1) := by decide +kernel
theorem d_R_readUpdate_13 : decode b_R_readUpdate 13 = .ok (.bipush 123, 2) := by decide +kernel
theorem d_R_readUpdate_15 : decode b_R_readUpdate 15 = .ok (.invokevirtual 35, 3) := by decide +kernel
theorem d_R_readUpdate_18 : decode b_R_readUpdate 18 = .ok (.aload_n 3, 1) := by decide +kernel
theorem d_R_readUpdate_19 : decode b_R_readUpdate 19 = .ok (.aload_n 0, 1) := by decide +kernel
theorem d_R_readUpdate_20 : decode b_R_readUpdate 20 = .ok (.iload_n 2, 1) := by decide +kernel
theorem d_R_readUpdate_21 : decode b_R_readUpdate 21 = .ok (.iconst 1, 1) := by decide +kernel
theorem d_R_readUpdate_22 : decode b_R_readUpdate 22 = .ok (.iadd, 1) := by decide +kernel
theorem d_R_readUpdate_23 : decode b_R_readUpdate 23 = .ok (.invokevirtual 53, 3) := by decide +kernel
theorem d_R_readUpdate_26 : decode b_R_readUpdate 26 = .ok (.invokevirtual 154, 3) := by decide +kernel
theorem d_R_readUpdate_29 : decode b_R_readUpdate 29 = .ok (.aload_n 0, 1) := by decide +kernel
theorem d_R_readUpdate_30 : decode b_R_readUpdate 30 = .ok (.bipush 44, 2) := by decide +kernel
theorem d_R_readUpdate_32 : decode b_R_readUpdate 32 = .ok (.invokevirtual 35, 3) := by decide +kernel
theorem d_R_readUpdate_35 : decode b_R_readUpdate 35 = .ok (.aload_n 3, 1) := by decide +kernel
theorem d_R_readUpdate_36 : decode b_R_readUpdate 36 = .ok (.aload_n 0, 1) := by decide +kernel
theorem d_R_readUpdate_37 : decode b_R_readUpdate 37 = .ok (.iload_n 2, 1) := by decide +kernel
theorem d_R_readUpdate_38 : decode b_R_readUpdate 38 = .ok (.iconst 1, 1) := by decide +kernel
theorem d_R_readUpdate_39 : decode b_R_readUpdate 39 = .ok (.iadd, 1) := by decide +kernel
theorem d_R_readUpdate_40 : decode b_R_readUpdate 40 = .ok (.invokevirtual 53, 3) := by decide +kernel
theorem d_R_readUpdate_43 : decode b_R_readUpdate 43 = .ok (.invokevirtual 154, 3) := by decide +kernel
theorem d_R_readUpdate_46 : decode b_R_readUpdate 46 = .ok (.aload_n 0, 1) := by decide +kernel
theorem d_R_readUpdate_47 : decode b_R_readUpdate 47 = .ok (.invokevirtual 39, 3) := by decide +kernel
theorem d_R_readUpdate_50 : decode b_R_readUpdate 50 = .ok (.bipush 44, 2) := by decide +kernel
theorem d_R_readUpdate_52 : decode b_R_readUpdate 52 = .ok (.if_icmp .ne 20, 3) := by decide +kernel
theorem d_R_readUpdate_55 : decode b_R_readUpdate 55 = .ok (.aload_n 0, 1) := by decide +kernel
theorem d_R_readUpdate_56 : decode b_R_readUpdate 56 = .ok (.bipush 44, 2) := by decide +kernel
theorem d_R_readUpdate_58 : decode b_R_readUpdate 58 = .ok (.invokevirtual 35, 3) := by decide +kernel
theorem d_R_readUpdate_61 : decode b_R_readUpdate 61 = .ok (.aload_n 3, 1) := by decide +kernel
theorem d_R_readUpdate_62 : decode b_R_readUpdate 62 = .ok (.aload_n 0, 1) := by decide +kernel
theorem d_R_readUpdate_63 : decode b_R_readUpdate 63 = .ok (.iload_n 2, 1) := by decide +kernel
theorem d_R_readUpdate_64 : decode b_R_readUpdate 64 = .ok (.iconst 1, 1) := by decide +kernel
theorem d_R_readUpdate_65 : decode b_R_readUpdate 65 = .ok (.iadd, 1) := by decide +kernel
theorem d_R_readUpdate_66 : decode b_R_readUpdate 66 = .ok (.invokevirtual 53, 3) := by decide +kernel
theorem d_R_readUpdate_69 : decode b_R_readUpdate 69 = .ok (.invokevirtual 154, 3) := by decide +kernel
theorem d_R_readUpdate_72 : decode b_R_readUpdate 72 = .ok (.aload_n 0, 1) := by decide +kernel
theorem d_R_readUpdate_73 : decode b_R_readUpdate 73 = .ok (.bipush 125, 2) := by decide +kernel
theorem d_R_readUpdate_75 : decode b_R_readUpdate 75 = .ok (.invokevirtual 35, 3) := by decide +kernel
theorem d_R_readUpdate_78 : decode b_R_readUpdate 78 = .ok (.aload_n 3, 1) := by decide +kernel
theorem d_R_readUpdate_79 : decode b_R_readUpdate 79 = .ok (.areturn, 1) := by decide +kernel
theorem sf_158 : Cond.fieldLink "SoleArrays$Reader" 158 "SoleArrays$Form" "UPDATE" "LSoleArrays$Form;" ∈ zTb := zt2 238 (by decide +kernel) rfl
section CMP6
variable {G : zG} {l : Launch} {d r p z B N : Nat} {σ : zS} {xs : mS} {xr : Int64} {xa : mA} {xl : mL} {xf : xF} {E : Nat → eN} {A : mA}
theorem c_R_readUpdate {v : Int32} (RX : rHyp G l d) (hd8 : d ≤ 8) (h : rPre B N r (p + 1) z σ xa) (hNp : N ≤ p) (hch : rlk (xa 1) z (p + 1) = 123) {res : rR} (hres0 : rParts (xa 1) z (rdE (xa 1) z d) 8 N none 4 0 (rGo (rNode 8 v p (rE0 8 p) (p, N, A, E)) (p + 2)) = res) {mc ms : Nat} (hmc0 : rCe p res ≤ mc) (hms0 : rSl p res ≤ ms) :
    MetZ G l y_R_readUpdate b_R_readUpdate 4 (some (.object "SoleArrays$Expression")) [] (9 + 4 * d + 2) mc ms [.ref r, .int (nI p), .int (nI (8 - d))] (B + 2 * N) (xOv xs xr xa xl xf (eOv B N E σ)) (rPost B N r z σ xs xr xa xl xf res) := by
  have h0 := h
  obtain ⟨hr, hrB, hB, hrd0, hz, hp, hN, hc⟩ := h
  have hpz : p + 1 < z := rlk_lt hch (by decide)
  have hrd : xOv xs xr xa xl xf (eOv B N E σ) r = .inr (4, [.ref 1, .int (nI z), .ref 2, .int (nI (p + 1))]) := (xOv_at (by omega)).trans ((eOv_lo hrB).trans hrd0)
  have hb := rCe_ge (p := p) (rParts_res (T := xa 1) (R := rdE (xa 1) z d) (rdE_res d) (K := 8) (i := N) (vw := none) 4 0 (rGo (rNode 8 v p (rE0 8 p) (p, N, A, E)) (p + 2)) hpz) (by show p ≤ p + 2; omega)
  rw [hres0] at hb
  have hbA : 2 * (p + 2 - p) ≤ rCe p res := hb.1
  have hbB : 14 * (p + 2 - p) ≤ rSl p res := hb.2
  refine MetZ.of (by decide) (Nat.le_of_ble_eq_true rfl) (fun K hK hR hpo hmc hms C => ?_)
  subst hK
  have hRc : (kR K).cells = mc := by rw [hR]; rfl
  have hRs : (kR K).slots = ms := by rw [hR]; rfl
  have hRf : (kR K).frames = 9 + 4 * d + 2 := by rw [hR]; rfl
  have hRl : (kR K).locals = 60 * (9 + 4 * d + 2) := by rw [hR]; rfl
  refine z_new C 3 n_R_121 d_R_readUpdate_0 rfl (by omega) (by rw [hR]; simp only [zRm]; omega) (by rw [hR]; simp only [zRm]; omega) ?_
  refine z_dup C 4 d_R_readUpdate_3 rfl rfl ?_
  refine z_getsF C 7 8 (by decide) sf_158 d_R_readUpdate_4 rfl ?_
  refine z_iload_n C 8 d_R_readUpdate_7 rfl rfl ?_
  refine z_call C 11 (c_E_init (by omega) (by omega) 8 (nI p)) w_E_init ini_E d_R_readUpdate_8 rfl (z_goI (As := [.ref (1000001 + 8), .int (nI p)]) C l_R_126 w_E_init d_R_readUpdate_8 rfl) (Nat.le_of_ble_eq_true rfl) (by rw [hR]; simp only [zRm]; omega) (by rw [hR]; simp only [zRm]; omega) (by rw [hR]; simp only [zRm]; omega) (by rw [hR]; simp only [zRm]; omega) (fun v n' σ' hv => ?_) (fun x n' σ' hv => ?_)
  · obtain ⟨e0, e1, rfl⟩ := hv
    cases e0
    have e1 : n' = B + 2 * (N + 1) := e1
    subst e1
    refine z_astore_n C 12 d_R_readUpdate_11 rfl (by decide) ?_
    refine Z.same (τ := xOv xs xr xa xl xf (eOv B (N + 1) (va_up E N (rE0 8 p)) (va_up σ r (rdC (p + 1) z)))) (fun i _ => by rw [va_same hrd0]; rfl) ?_
    refine z_take C rfl 123 (by decide) (p + 1, N + 1, rFlat A N 8 v p, va_up E N (rE0 8 p)) d_R_readUpdate_12 d_R_readUpdate_13 d_R_readUpdate_15 rfl (h0.at hp (Nat.zero_le _)) (by show N + 1 ≤ 150; omega) (by omega) (by omega) (by omega) (by omega) ⟨by omega, by omega⟩ (fun w => absurd hch w) (fun w => absurd hch w) (fun _ => ?_)
    obtain ⟨t0, ht0⟩ : ∃ t : rS, t = rGo (rNode 8 v p (rE0 8 p) (p, N, A, E)) (p + 2) := ⟨_, rfl⟩
    have hv0 : t0.1 = p + 2 := by rw [ht0]; rfl
    have hu0 : t0.2.1 = N + 1 := by rw [ht0]; rfl
    rw [← ht0] at hres0
    have hz0 : t0.1 ≤ z := by omega
    have hp0 : p ≤ t0.1 := by omega
    have hm0 : t0.2.1 ≤ t0.1 := by omega
    have hi0 : N < t0.2.1 := by omega
    have hk0 : (t0.2.2.2 N).2.2.2.1 = 0 := by
      rw [ht0]
      show (va_up E N (rE0 8 p) N).2.2.2.1 = 0
      rw [va_up_self]
      rfl
    refine Z.same (τ := xOv xs xr xa xl xf (eOv B t0.2.1 t0.2.2.2 (va_up σ r (rdC t0.1 z)))) (fun i _ => by rw [ht0]; rfl) ?_
    rw [show B + 2 * ((p + 1, N + 1, rFlat A N 8 v p, va_up E N (rE0 8 p)) : rS).2.1 = B + 2 * t0.2.1 by rw [hu0]]
    have hb0 := rCe_parts (T := xa 1) (z := z) (p := p) (d := d) (K := 8) (i := N) (m := 3) (k := 0) (vw := none) (s := t0) hz0 hp0
    rw [hres0] at hb0
    refine z_part C rfl hd8 RX (i := N) (k := 0) t0 d_R_readUpdate_18 d_R_readUpdate_19 d_R_readUpdate_20 d_R_readUpdate_21 d_R_readUpdate_22 d_R_readUpdate_23 d_R_readUpdate_26 rfl rfl rfl (h0.at hz0 hm0) hi0 hk0 (by omega) (by omega) (by omega) (by omega) (by omega) (by omega) (by omega) (fun q hq o n' σ' hv => ?_) (fun s2 hs2 => ?_)
    · rw [hpo, ← hres0, rParts_ill hq]
      exact hv
    obtain ⟨hk1, hi1, hg1, hy1, hn1⟩ := rAdd_cnt hz0 hs2 hi0 hk0
    have hw0 := rParts_ge (T := xa 1) (z := z) (p := p) (d := d) (K := 8) (i := N) (m := 3) (k := 0) (vw := none) (s := t0) hz0 hs2 (by omega)
    rw [hres0] at hw0
    refine Z.widen (j1 := 2 * (s2.1 - p)) (j2 := 14 * (s2.1 - p)) (by omega) (by omega) ?_
    have hr0 : rTake (xa 1) z 44 (rAdd N (t0).2.1 s2) (fun s3 => rParts (xa 1) z (rdE (xa 1) z d) 8 N none 3 1 s3) = res := by rw [← hres0, rParts_ok hs2]; rfl
    refine z_take C rfl 44 (by decide) (rAdd N (t0).2.1 s2) d_R_readUpdate_29 d_R_readUpdate_30 d_R_readUpdate_32 rfl (h0.at hy1 (Nat.zero_le _)) (by show s2.2.1 ≤ 150; omega) (by omega) (by omega) (by omega) (by omega) ⟨by omega, by omega⟩ (fun w => ?_) (fun w o n' σ' hv => ?_) (fun w => ?_)
    · rw [rTake, if_neg w] at hr0
      rw [← hr0] at hmc0 hms0
      have q1 : 2 * (s2.1 - p) + 1 ≤ mc := hmc0
      have q2 : 14 * (s2.1 - p) + 6 ≤ ms := hms0
      exact ⟨by omega, by omega⟩
    · rw [hpo, ← hr0, rTake, if_neg w]
      exact hv
    rw [rTake, if_pos w] at hr0
    have hlt0 := rlk_lt w (by decide)
    have hlt0 : s2.1 < z := hlt0
    obtain ⟨t1, ht1⟩ : ∃ t : rS, t = (s2.1 + 1, s2.2.1, (rAdd N (t0).2.1 s2).2.2) := ⟨_, rfl⟩
    have hres1 : rParts (xa 1) z (rdE (xa 1) z d) 8 N none 3 1 t1 = res := by rw [ht1]; exact hr0
    have hz1 : t1.1 ≤ z := by rw [ht1]; exact hlt0
    have hv1 : t1.1 = s2.1 + 1 := by rw [ht1]
    have hu1 : t1.2.1 = s2.2.1 := by rw [ht1]
    have hp1 : p ≤ t1.1 := by omega
    have hm1 : t1.2.1 ≤ t1.1 := by omega
    have hi1' : N < t1.2.1 := by omega
    have hk1' : (t1.2.2.2 N).2.2.2.1 = 1 := by rw [ht1]; exact hk1
    refine Z.same (τ := xOv xs xr xa xl xf (eOv B t1.2.1 t1.2.2.2 (va_up σ r (rdC t1.1 z)))) (fun i _ => by rw [ht1]; rfl) ?_
    rw [show B + 2 * (rAdd N (t0).2.1 s2).2.1 = B + 2 * t1.2.1 by rw [ht1]; rfl]
    clear hi1 hk1
    have hi1 := hi1'
    have hk1 := hk1'
    have hb1 := rCe_parts (T := xa 1) (z := z) (p := p) (d := d) (K := 8) (i := N) (m := 2) (k := 1) (vw := none) (s := t1) hz1 hp1
    rw [hres1] at hb1
    refine z_part C rfl hd8 RX (i := N) (k := 1) t1 d_R_readUpdate_35 d_R_readUpdate_36 d_R_readUpdate_37 d_R_readUpdate_38 d_R_readUpdate_39 d_R_readUpdate_40 d_R_readUpdate_43 rfl rfl rfl (h0.at hz1 hm1) hi1 hk1 (by omega) (by omega) (by omega) (by omega) (by omega) (by omega) (by omega) (fun q hq o n' σ' hv => ?_) (fun s3 hs3 => ?_)
    · rw [hpo, ← hres1, rParts_ill hq]
      exact hv
    obtain ⟨hk2, hi2, hg2, hy2, hn2⟩ := rAdd_cnt hz1 hs3 hi1 hk1
    have hw1 := rParts_ge (T := xa 1) (z := z) (p := p) (d := d) (K := 8) (i := N) (m := 2) (k := 1) (vw := none) (s := t1) hz1 hs3 (by omega)
    rw [hres1] at hw1
    refine Z.widen (j1 := 2 * (s3.1 - p)) (j2 := 14 * (s3.1 - p)) (by omega) (by omega) ?_
    have hra : eOv B s3.2.1 (rAdd N (t1).2.1 s3).2.2.2 (va_up σ r (rdC s3.1 z)) r = rdC s3.1 z := (eOv_lo hrB).trans (va_up_self _ _ _)
    refine z_aload_n C 47 d_R_readUpdate_46 rfl rfl ?_
    refine z_call C 50 (c_R_next (by omega) (by omega) (by omega) hra hz (by omega) hc) w_R_next ini_R d_R_readUpdate_47 rfl (z_goV (As := []) C l_R_39 w_R_next d_R_readUpdate_47 (by omega) ((xOv_at (by omega)).trans hra) rfl rfl) (Nat.le_of_ble_eq_true rfl) (by rw [hR]; simp only [zRm]; omega) (by rw [hR]; simp only [zRm]; omega) (by rw [hR]; simp only [zRm]; omega) (by rw [hR]; simp only [zRm]; omega) (fun v n' σ' hv => ?_) (fun x n' σ' hv => ?_)
    rotate_left
    · cases hv.1
    obtain ⟨e0, e1, rfl⟩ := hv
    cases e0
    subst e1
    refine z_bipush C 52 d_R_readUpdate_50 rfl 44 (by decide) ?_
    by_cases hcm : rlk (xa 1) z s3.1 = 44
    rotate_left
    · refine z_icmp_ne C 55 72 d_R_readUpdate_52 rfl (by decide) (fun _ => ?_) (fun h9 => absurd h9 (show ¬ xlk xa s3.1 z = 44 from hcm))
      have hr1 : rTake (xa 1) z 125 (rAdd N (t1).2.1 s3) (fun s3 => .inr (rClose N none s3)) = res := by rw [← hres1, rParts_ok hs3]; rw [rBeh_81]; exact (if_neg (show ¬ rlk (xa 1) z (rAdd N (t1).2.1 s3).1 = 44 from hcm)).symm
      refine z_take C rfl 125 (by decide) (rAdd N (t1).2.1 s3) d_R_readUpdate_72 d_R_readUpdate_73 d_R_readUpdate_75 rfl (h0.at hy2 (Nat.zero_le _)) (by show s3.2.1 ≤ 150; omega) (by omega) (by omega) (by omega) (by omega) ⟨by omega, by omega⟩ (fun w => ?_) (fun w o n' σ' hv => ?_) (fun w => ?_)
      · rw [rTake, if_neg w] at hr1
        rw [← hr1] at hmc0 hms0
        have q1 : 2 * (s3.1 - p) + 1 ≤ mc := hmc0
        have q2 : 14 * (s3.1 - p) + 6 ≤ ms := hms0
        exact ⟨by omega, by omega⟩
      · rw [hpo, ← hr1, rTake, if_neg w]
        exact hv
      rw [rTake, if_pos w] at hr1
      have hlt1 := rlk_lt w (by decide)
      have hlt1 : s3.1 < z := hlt1
      refine z_aload_n C 79 d_R_readUpdate_78 rfl rfl ?_
      rw [← hr1] at hmc0 hms0
      have q1 : 2 * (s3.1 + 1 - p) ≤ mc := hmc0
      have q2 : 14 * (s3.1 + 1 - p) ≤ ms := hms0
      exact z_aret C rfl d_R_readUpdate_79 (by rw [hpo, ← hr1]; exact ⟨rfl, rfl, rfl⟩) (by omega) (by omega)
    refine z_icmp_ne C 55 72 d_R_readUpdate_52 rfl (by decide) (fun h9 => absurd (show xlk xa s3.1 z = 44 from hcm) h9) (fun _ => ?_)
    have hr1 : rParts (xa 1) z (rdE (xa 1) z d) 8 N none 2 2 (s3.1 + 1, s3.2.1, (rAdd N (t1).2.1 s3).2.2) = res := by
      rw [← hres1, rParts_ok hs3, rBeh_81, if_pos (show rlk (xa 1) z (rAdd N (t1).2.1 s3).1 = 44 from hcm)]
      rfl
    have hlt1 : s3.1 < z := rlk_lt hcm (by decide)
    refine z_take C rfl 44 (by decide) (rAdd N (t1).2.1 s3) d_R_readUpdate_55 d_R_readUpdate_56 d_R_readUpdate_58 rfl (h0.at hy2 (Nat.zero_le _)) (by show s3.2.1 ≤ 150; omega) (by omega) (by omega) (by omega) (by omega) ⟨by omega, by omega⟩ (fun w => absurd hcm w) (fun w => absurd hcm w) (fun _ => ?_)
    obtain ⟨t2, ht2⟩ : ∃ t : rS, t = (s3.1 + 1, s3.2.1, (rAdd N (t1).2.1 s3).2.2) := ⟨_, rfl⟩
    have hres2 : rParts (xa 1) z (rdE (xa 1) z d) 8 N none 2 2 t2 = res := by rw [ht2]; exact hr1
    have hz2 : t2.1 ≤ z := by rw [ht2]; exact hlt1
    have hv2 : t2.1 = s3.1 + 1 := by rw [ht2]
    have hu2 : t2.2.1 = s3.2.1 := by rw [ht2]
    have hp2 : p ≤ t2.1 := by omega
    have hm2 : t2.2.1 ≤ t2.1 := by omega
    have hi2' : N < t2.2.1 := by omega
    have hk2' : (t2.2.2.2 N).2.2.2.1 = 2 := by rw [ht2]; exact hk2
    refine Z.same (τ := xOv xs xr xa xl xf (eOv B t2.2.1 t2.2.2.2 (va_up σ r (rdC t2.1 z)))) (fun i _ => by rw [ht2]; rfl) ?_
    rw [show B + 2 * (rAdd N (t1).2.1 s3).2.1 = B + 2 * t2.2.1 by rw [ht2]; rfl]
    clear hi2 hk2
    have hi2 := hi2'
    have hk2 := hk2'
    have hb2 := rCe_parts (T := xa 1) (z := z) (p := p) (d := d) (K := 8) (i := N) (m := 1) (k := 2) (vw := none) (s := t2) hz2 hp2
    rw [hres2] at hb2
    refine z_part C rfl hd8 RX (i := N) (k := 2) t2 d_R_readUpdate_61 d_R_readUpdate_62 d_R_readUpdate_63 d_R_readUpdate_64 d_R_readUpdate_65 d_R_readUpdate_66 d_R_readUpdate_69 rfl rfl rfl (h0.at hz2 hm2) hi2 hk2 (by omega) (by omega) (by omega) (by omega) (by omega) (by omega) (by omega) (fun q hq o n' σ' hv => ?_) (fun s4 hs4 => ?_)
    · rw [hpo, ← hres2, rParts_ill hq]
      exact hv
    obtain ⟨hk3, hi3, hg3, hy3, hn3⟩ := rAdd_cnt hz2 hs4 hi2 hk2
    have hw2 := rParts_ge (T := xa 1) (z := z) (p := p) (d := d) (K := 8) (i := N) (m := 1) (k := 2) (vw := none) (s := t2) hz2 hs4 (by omega)
    rw [hres2] at hw2
    refine Z.widen (j1 := 2 * (s4.1 - p)) (j2 := 14 * (s4.1 - p)) (by omega) (by omega) ?_
    have hr2 : rTake (xa 1) z 125 (rAdd N (t2).2.1 s4) (fun s3 => .inr (rClose N none s3)) = res := by rw [← hres2, rParts_ok hs4]; rfl
    refine z_take C rfl 125 (by decide) (rAdd N (t2).2.1 s4) d_R_readUpdate_72 d_R_readUpdate_73 d_R_readUpdate_75 rfl (h0.at hy3 (Nat.zero_le _)) (by show s4.2.1 ≤ 150; omega) (by omega) (by omega) (by omega) (by omega) ⟨by omega, by omega⟩ (fun w => ?_) (fun w o n' σ' hv => ?_) (fun w => ?_)
    · rw [rTake, if_neg w] at hr2
      rw [← hr2] at hmc0 hms0
      have q1 : 2 * (s4.1 - p) + 1 ≤ mc := hmc0
      have q2 : 14 * (s4.1 - p) + 6 ≤ ms := hms0
      exact ⟨by omega, by omega⟩
    · rw [hpo, ← hr2, rTake, if_neg w]
      exact hv
    rw [rTake, if_pos w] at hr2
    have hlt2 := rlk_lt w (by decide)
    have hlt2 : s4.1 < z := hlt2
    refine z_aload_n C 79 d_R_readUpdate_78 rfl rfl ?_
    rw [← hr2] at hmc0 hms0
    have q1 : 2 * (s4.1 + 1 - p) ≤ mc := hmc0
    have q2 : 14 * (s4.1 + 1 - p) ≤ ms := hms0
    exact z_aret C rfl d_R_readUpdate_79 (by rw [hpo, ← hr2]; exact ⟨rfl, rfl, rfl⟩) (by omega) (by omega)
  · cases hv.1
end CMP6
end
section
/-! a reading's or update's variable, put when its parts are read -/
def rV (i : Nat) (v : Int32) (w : Nat) (r : rR) : rR := match r with
  | .inl q => .inl q
  | .inr s => .inr (s.1, s.2.1, s.2.2.1, va_up s.2.2.2 i (eVar (s.2.2.2 i) v (nI w)))
section RVW
variable {T : Nat → Int32} {z i : Nat} {v : Int32} {w : Nat}
theorem rTake_map {c : Int32} {s : rS} {f : rS → rR} : rV i v w (rTake T z c s f) = rTake T z c s (fun s => rV i v w (f s)) := by
  unfold rTake
  split <;> rfl
theorem rBeh_map {K k j : Nat} {s : rS} {g f : rS → rR} : rV i v w (rBeh T z K k j s g f) = rBeh T z K k j s (fun s => rV i v w (g s)) (fun s => rV i v w (f s)) := by
  unfold rBeh
  split
  · split
    · split <;> rfl
    · exact rTake_map
  · split
    · split
      · exact rTake_map
      · split <;> exact rTake_map
    · split
      · split
        · exact rTake_map
        · rfl
      · split
        · split
          · exact rTake_map
          · rfl
        · split
          · split
            · rfl
            · exact rTake_map
          · split
            · split
              · exact rTake_map
              · split
                · rfl
                · exact rTake_map
            · split
              · split
                · rfl
                · exact rTake_map
              · rfl
theorem rParts_vw {R : rS → rR} {K : Nat} : ∀ (m k : Nat) (s : rS), rParts T z R K i (some (v, w)) m k s = rV i v w (rParts T z R K i none m k s)
  | 0, _, _ => rfl
  | m + 1, k, s => by
    have e1 : rParts T z R K i (some (v, w)) (m + 1) k s = rB (R s) (fun s2 => rBeh T z K k i (rAdd i s.2.1 s2) (fun s3 => rParts T z R K i (some (v, w)) m (k + 1) s3) (fun s3 => .inr (rClose i (some (v, w)) s3))) := rfl
    have e2 : rParts T z R K i none (m + 1) k s = rB (R s) (fun s2 => rBeh T z K k i (rAdd i s.2.1 s2) (fun s3 => rParts T z R K i none m (k + 1) s3) (fun s3 => .inr (rClose i none s3))) := rfl
    rw [e1, e2]
    cases R s with
    | inl q => rfl
    | inr s2 =>
      show rBeh T z K k i (rAdd i s.2.1 s2) (fun s3 => rParts T z R K i (some (v, w)) m (k + 1) s3) (fun s3 => .inr (rClose i (some (v, w)) s3)) = rV i v w (rBeh T z K k i (rAdd i s.2.1 s2) (fun s3 => rParts T z R K i none m (k + 1) s3) (fun s3 => .inr (rClose i none s3)))
      rw [rBeh_map, show (fun s3 => rParts T z R K i (some (v, w)) m (k + 1) s3) = (fun s3 => rV i v w (rParts T z R K i none m (k + 1) s3)) from funext fun s3 => rParts_vw m (k + 1) s3]
      rfl
theorem rV_ce {p : Nat} {r : rR} : rCe p (rV i v w r) = rCe p r ∧ rSl p (rV i v w r) = rSl p r := by
  cases r <;> exact ⟨rfl, rfl⟩
end RVW
end
section
theorem d_R_readFromVariable_0 : decode b_R_readFromVariable 0 = .ok (.aload_n 0, 1) := by decide +kernel
theorem d_R_readFromVariable_1 : decode b_R_readFromVariable 1 = .ok (.getfield 9, 3) := by decide +kernel
theorem d_R_readFromVariable_4 : decode b_R_readFromVariable 4 = .ok (.istore_n 2, 1) := by decide +kernel
theorem d_R_readFromVariable_5 : decode b_R_readFromVariable 5 = .ok (.aload_n 0, 1) := by decide +kernel
theorem d_R_readFromVariable_6 : decode b_R_readFromVariable 6 = .ok (.bipush 97, 2) := by decide +kernel
theorem d_R_readFromVariable_8 : decode b_R_readFromVariable 8 = .ok (.bipush 116, 2) := by decide +kernel
theorem d_R_readFromVariable_10 : decode b_R_readFromVariable 10 = .ok (.invokevirtual 28, 3) := by decide +kernel
theorem d_R_readFromVariable_13 : decode b_R_readFromVariable 13 = .ok (.istore_n 3, 1) := by decide +kernel
theorem d_R_readFromVariable_14 : decode b_R_readFromVariable 14 = .ok (.aload_n 0, 1) := by decide +kernel
theorem d_R_readFromVariable_15 : decode b_R_readFromVariable 15 = .ok (.invokevirtual 39, 3) := by decide +kernel
theorem d_R_readFromVariable_18 : decode b_R_readFromVariable 18 = .ok (.bipush 91, 2) := by decide +kernel
theorem d_R_readFromVariable_20 : decode b_R_readFromVariable 20 = .ok (.if_icmp .ne 14, 3) := by decide +kernel
theorem d_R_readFromVariable_23 : decode b_R_readFromVariable 23 = .ok (.aload_n 0, 1) := by decide +kernel
theorem d_R_readFromVariable_24 : decode b_R_readFromVariable 24 = .ok (.iload_n 2, 1) := by decide +kernel
theorem d_R_readFromVariable_25 : decode b_R_readFromVariable 25 = .ok (.iload_n 1, 1) := by decide +kernel
theorem d_R_readFromVariable_26 : decode b_R_readFromVariable 26 = .ok (.invokevirtual 135, 3) := by decide +kernel
theorem d_R_readFromVariable_29 : decode b_R_readFromVariable 29 = .ok (.astore 4, 2) := by decide +kernel
theorem d_R_readFromVariable_31 : decode b_R_readFromVariable 31 = .ok (.goto 36, 3) := by decide +kernel
theorem d_R_readFromVariable_34 : decode b_R_readFromVariable 34 = .ok (.aload_n 0, 1) := by decide +kernel
theorem d_R_readFromVariable_35 : decode b_R_readFromVariable 35 = .ok (.invokevirtual 39, 3) := by decide +kernel
theorem d_R_readFromVariable_38 : decode b_R_readFromVariable 38 = .ok (.bipush 123, 2) := by decide +kernel
theorem d_R_readFromVariable_40 : decode b_R_readFromVariable 40 = .ok (.if_icmp .ne 14, 3) := by decide +kernel
theorem d_R_readFromVariable_43 : decode b_R_readFromVariable 43 = .ok (.aload_n 0, 1) := by decide +kernel
theorem d_R_readFromVariable_44 : decode b_R_readFromVariable 44 = .ok (.iload_n 2, 1) := by decide +kernel
theorem d_R_readFromVariable_45 : decode b_R_readFromVariable 45 = .ok (.iload_n 1, 1) := by decide +kernel
theorem d_R_readFromVariable_46 : decode b_R_readFromVariable 46 = .ok (.invokevirtual 139, 3) := by decide +kernel
theorem d_R_readFromVariable_49 : decode b_R_readFromVariable 49 = .ok (.astore 4, 2) := by decide +kernel
theorem d_R_readFromVariable_51 : decode b_R_readFromVariable 51 = .ok (.goto 16, 3) := by decide +kernel
theorem d_R_readFromVariable_54 : decode b_R_readFromVariable 54 = .ok (.new 121, 3) := by decide +kernel
theorem d_R_readFromVariable_57 : decode b_R_readFromVariable 57 = .ok (.dup, 1) := by decide +kernel
theorem d_R_readFromVariable_58 : decode b_R_readFromVariable 58 = .ok (.getstatic 142, 3) := by decide +kernel
theorem d_R_readFromVariable_61 : decode b_R_readFromVariable 61 = .ok (.iload_n 2, 1) := by decide +kernel
theorem d_R_readFromVariable_62 : decode b_R_readFromVariable 62 = .ok (.invokespecial 126, 3) := by decide +kernel
theorem d_R_readFromVariable_65 : decode b_R_readFromVariable 65 = .ok (.astore 4, 2) := by decide +kernel
theorem d_R_readFromVariable_67 : decode b_R_readFromVariable 67 = .ok (.aload 4, 2) := by decide +kernel
theorem d_R_readFromVariable_69 : decode b_R_readFromVariable 69 = .ok (.iload_n 3, 1) := by decide +kernel
theorem d_R_readFromVariable_70 : decode b_R_readFromVariable 70 = .ok (.putfield 145, 3) := by decide +kernel
theorem d_R_readFromVariable_73 : decode b_R_readFromVariable 73 = .ok (.aload 4, 2) := by decide +kernel
theorem d_R_readFromVariable_75 : decode b_R_readFromVariable 75 = .ok (.iload_n 2, 1) := by decide +kernel
theorem d_R_readFromVariable_76 : decode b_R_readFromVariable 76 = .ok (.putfield 148, 3) := by decide +kernel
theorem d_R_readFromVariable_79 : decode b_R_readFromVariable 79 = .ok (.aload 4, 2) := by decide +kernel
theorem d_R_readFromVariable_81 : decode b_R_readFromVariable 81 = .ok (.areturn, 1) := by decide +kernel
theorem sf_142 : Cond.fieldLink "SoleArrays$Reader" 142 "SoleArrays$Form" "VARIABLE" "LSoleArrays$Form;" ∈ zTb := zt3 0 (by decide +kernel) rfl
section RFV
variable {G : zG} {l : Launch} {d r p z B N : Nat} {σ : zS} {xs : mS} {xr : Int64} {xa : mA} {xl : mL} {xf : xF} {E : Nat → eN} {A : mA}
theorem c_R_readFromVariable (RX : rHyp G l d) (hd8 : d ≤ 8) (h : rPre B N r p z σ xa) (hq : 97 ≤ rlk (xa 1) z p ∧ rlk (xa 1) z p ≤ 116) {vv : Int32} (hvv : rlk (xa 1) z p - 97 = vv) {res : rR}
    (hres : (if rlk (xa 1) z (p + 1) = 91 then rParts (xa 1) z (rdE (xa 1) z d) 7 N (some (vv, p)) 4 0 (rGo (rNode 7 vv p (rE0 7 p) (p, N, A, E)) (p + 2))
       else if rlk (xa 1) z (p + 1) = 123 then rParts (xa 1) z (rdE (xa 1) z d) 8 N (some (vv, p)) 4 0 (rGo (rNode 8 vv p (rE0 8 p) (p, N, A, E)) (p + 2))
       else .inr (rGo (rNode 1 vv p (eVar (rE0 1 p) vv (nI p)) (p, N, A, E)) (p + 1))) = res) {mc ms : Nat} (hmc0 : rCe p res ≤ mc) (hms0 : rSl p res ≤ ms) :
    MetZ G l y_R_readFromVariable b_R_readFromVariable 5 (some (.object "SoleArrays$Expression")) [] (9 + 4 * d + 3) mc ms [.ref r, .int (nI (8 - d))] (B + 2 * N) (xOv xs xr xa xl xf (eOv B N E σ)) (rPost B N r z σ xs xr xa xl xf res) := by
  have h0 := h
  obtain ⟨hr, hrB, hB, hrd0, hz, hp, hN, hc⟩ := h
  have hpz : p < z := rlk_pos hq.1 (by decide)
  have hrd : xOv xs xr xa xl xf (eOv B N E σ) r = .inr (4, [.ref 1, .int (nI z), .ref 2, .int (nI p)]) := (xOv_at (by omega)).trans ((eOv_lo hrB).trans hrd0)
  have hra : eOv B N E (va_up σ r (rdC (p + 1) z)) r = rdC (p + 1) z := (eOv_lo hrB).trans (va_up_self _ _ _)
  have hra2 : xOv xs xr xa xl xf (eOv B N E (va_up σ r (rdC (p + 1) z))) r = .inr (4, [.ref 1, .int (nI z), .ref 2, .int (nI (p + 1))]) := (xOv_at (by omega)).trans hra
  refine MetZ.of (by decide) (Nat.le_of_ble_eq_true rfl) (fun K hK hR hpo hmc hms C => ?_)
  subst hK
  have hRc : (kR K).cells = mc := by rw [hR]; rfl
  have hRs : (kR K).slots = ms := by rw [hR]; rfl
  have hRf : (kR K).frames = 9 + 4 * d + 3 := by rw [hR]; rfl
  have hRl : (kR K).locals = 60 * (9 + 4 * d + 3) := by rw [hR]; rfl
  have fin : ∀ (s' : rS) (k1 k2 : Nat) (lv : List (Nat × Value)), N < s'.2.1 → s'.2.1 ≤ 150 → res = rV N vv p (.inr s') → k1 ≤ mc → k2 ≤ ms → zl lv 4 = some (.ref (B + 2 * N)) → zl lv 3 = some (.int vv) → zl lv 2 = some (.int (nI p)) → Z G K (B + 2 * s'.2.1) (xOv xs xr xa xl xf (eOv B s'.2.1 s'.2.2.2 (va_up σ r (rdC s'.1 z)))) k1 k2 67 lv [] := fun s' k1 k2 lv g1 g2 g3 g4 g5 l4 l3 l2 => by
    have ho : ∀ e : Nat → eN, xOv xs xr xa xl xf (eOv B s'.2.1 e (va_up σ r (rdC s'.1 z))) (B + 2 * N) = eCell B N (e N) := fun e => (xOv_at (by omega)).trans (eOv_obj g1)
    refine z_aload C 69 d_R_readFromVariable_67 rfl l4 ?_
    refine z_iload_n C 70 d_R_readFromVariable_69 rfl l3 ?_
    refine z_put C 73 p_R_145 d_R_readFromVariable_70 rfl (by omega) (ho _) (z_ltb rfl) rfl rfl ?_
    rw [xOv_up (by omega)]
    show Z G K _ (xOv _ _ _ _ _ (va_up _ _ (eCell B N (eVar (s'.2.2.2 N) vv (s'.2.2.2 N).2.2.2.2.2.2.2.1)))) _ _ _ _ _
    rw [eOv_upO (e' := eVar (s'.2.2.2 N) vv (s'.2.2.2 N).2.2.2.2.2.2.2.1) g1 rfl]
    refine z_aload C 75 d_R_readFromVariable_73 rfl l4 ?_
    refine z_iload_n C 76 d_R_readFromVariable_75 rfl l2 ?_
    refine z_put C 79 p_R_148 d_R_readFromVariable_76 rfl (by omega) (ho _) (z_ltb rfl) rfl rfl ?_
    rw [va_up_self, xOv_up (by omega)]
    show Z G K _ (xOv _ _ _ _ _ (va_up _ _ (eCell B N (eVar (s'.2.2.2 N) vv (nI p))))) _ _ _ _ _
    rw [eOv_upO (e' := eVar (s'.2.2.2 N) vv (nI p)) g1 (by rw [va_up_self]; rfl), va_up2]
    refine z_aload C 81 d_R_readFromVariable_79 rfl l4 ?_
    exact z_aret C rfl d_R_readFromVariable_81 (by rw [hpo, g3]; exact ⟨rfl, rfl, rfl⟩) (by omega) (by omega)
  refine z_aload_n C 1 d_R_readFromVariable_0 rfl rfl ?_
  refine z_get C 4 f_R_9 d_R_readFromVariable_1 rfl (by omega) hrd rfl ?_
  refine z_istore_n C 5 d_R_readFromVariable_4 rfl (by decide) ?_
  refine z_aload_n C 6 d_R_readFromVariable_5 rfl rfl ?_
  refine z_bipush C 8 d_R_readFromVariable_6 rfl 97 (by decide) ?_
  refine z_bipush C 10 d_R_readFromVariable_8 rfl 116 (by decide) ?_
  refine z_call C 13 (c_R_takeOneOf (p := p) (z := z) (by omega) (by omega) (by omega) (by omega) ((eOv_lo hrB).trans hrd0) hz (by omega) hc 97 116 (mc := 0) (ms := 0) (fun w => absurd hq w)) w_R_takeOneOf ini_R d_R_readFromVariable_10 rfl (z_goV (As := [.int 97, .int 116]) C l_R_28 w_R_takeOneOf d_R_readFromVariable_10 (by omega) (hrd) rfl rfl) (Nat.le_of_ble_eq_true rfl) (by rw [hR]; simp only [zRm]; omega) (by rw [hR]; simp only [zRm]; omega) (by rw [hR]; simp only [zRm]; omega) (by rw [hR]; simp only [zRm]; omega) (fun v n' σ' hv => ?_) (fun x n' σ' hv => ?_)
  rotate_left
  · rcases hv with ⟨-, e0, -⟩ | ⟨w, -⟩
    · cases e0
    · exact absurd hq w
  obtain ⟨-, e0, rfl, rfl⟩ := hv.resolve_right (fun w => w.1 hq)
  cases e0
  rw [eOv_low hrB, show xlk xa p z - 97 = vv from hvv]
  refine z_istore_n C 14 d_R_readFromVariable_13 rfl (by decide) ?_
  refine z_aload_n C 15 d_R_readFromVariable_14 rfl rfl ?_
  refine z_call C 18 (c_R_next (p := p + 1) (z := z) (by omega) (by omega) (by omega) hra hz (by omega) hc) w_R_next ini_R d_R_readFromVariable_15 rfl (z_goV (As := []) C l_R_39 w_R_next d_R_readFromVariable_15 (by omega) (hra2) rfl rfl) (Nat.le_of_ble_eq_true rfl) (by rw [hR]; simp only [zRm]; omega) (by rw [hR]; simp only [zRm]; omega) (by rw [hR]; simp only [zRm]; omega) (by rw [hR]; simp only [zRm]; omega) (fun v n' σ' hv => ?_) (fun x n' σ' hv => ?_)
  rotate_left
  · cases hv.1
  obtain ⟨e0, e1, rfl⟩ := hv
  cases e0
  subst e1
  refine z_bipush C 20 d_R_readFromVariable_18 rfl 91 (by decide) ?_
  by_cases h91 : rlk (xa 1) z (p + 1) = 91
  · rw [if_pos h91] at hres
    refine z_icmp_ne C 23 34 d_R_readFromVariable_20 rfl (by decide) (fun h9 => absurd (show xlk xa (p + 1) z = 91 from h91) h9) (fun _ => ?_)
    refine z_aload_n C 24 d_R_readFromVariable_23 rfl rfl ?_
    refine z_iload_n C 25 d_R_readFromVariable_24 rfl rfl ?_
    refine z_iload_n C 26 d_R_readFromVariable_25 rfl rfl ?_
    have hcall : (rV N vv p (rParts (xa 1) z (rdE (xa 1) z d) 7 N none 4 0 (rGo (rNode 7 vv p (rE0 7 p) (p, N, A, E)) (p + 2)))) = res := by rw [← rParts_vw]; exact hres
    have hlt91 : p + 1 < z := rlk_lt h91 (by decide)
    have hkp := rParts_kp (T := xa 1) (z := z) (R := rdE (xa 1) z d) (fun s => (rdE_ks d s).kp) (K := 7) (i := N) (vw := none) 4 0 (rGo (rNode 7 vv p (rE0 7 p) (p, N, A, E)) (p + 2)) (Nat.lt_succ_self N)
    have hrs := rParts_res (T := xa 1) (z := z) (R := rdE (xa 1) z d) (rdE_res d) (K := 7) (i := N) (vw := none) 4 0 (rGo (rNode 7 vv p (rE0 7 p) (p, N, A, E)) (p + 2)) hlt91
    obtain ⟨res', hres'⟩ : ∃ x, rParts (xa 1) z (rdE (xa 1) z d) 7 N none 4 0 (rGo (rNode 7 vv p (rE0 7 p) (p, N, A, E)) (p + 2)) = x := ⟨_, rfl⟩
    rw [hres'] at hcall hkp hrs
    have hc1 : rCe p res' ≤ mc := by rw [← (rV_ce (i := N) (v := vv) (w := p)).1, hcall]; exact hmc0
    have hc2 : rSl p res' ≤ ms := by rw [← (rV_ce (i := N) (v := vv) (w := p)).2, hcall]; exact hms0
    refine z_call C 29 (c_R_readReading (v := vv) RX hd8 (h0.at hpz (by omega)) hN h91 hres' (mc := mc) (ms := ms) hc1 hc2) w_R_readReading ini_R d_R_readFromVariable_26 rfl (z_goV (As := [.int (nI p), .int (nI (8 - d))]) C l_R_135 w_R_readReading d_R_readFromVariable_26 (by omega) (hra2) rfl rfl) (Nat.le_of_ble_eq_true rfl) (by rw [hR]; simp only [zRm]; omega) (by rw [hR]; simp only [zRm]; omega) (by rw [hR]; simp only [zRm]; omega) (by rw [hR]; simp only [zRm]; omega) (fun v n' σ' hv => ?_) (fun x n' σ' hv => ?_)
    · cases res' with
      | inl q =>
        obtain ⟨x, τ, e0, -⟩ := hv
        cases e0
      | inr s' =>
        obtain ⟨e0, rfl, rfl⟩ := hv
        cases e0
        rw [va_up2]
        have g1 : s'.1 ≤ z := hrs.2.1
        have g2 : s'.2.1 + (p + 2) ≤ N + 1 + s'.1 := hrs.2.2.2
        have g3 : N + 1 ≤ s'.2.1 := hkp.1
        refine z_astore C 31 d_R_readFromVariable_29 rfl (by decide) ?_
        refine z_goto C 67 d_R_readFromVariable_31 (by decide) ?_
        exact fin s' _ _ _ g3 (by omega) hcall.symm (by omega) (by omega) rfl rfl rfl
    · cases res' with
      | inl q =>
        have hq' : (.inl q : rR) = res := hcall
        exact zx_out C (fun h hh => nomatch hh) (by rw [hpo, ← hq']; exact rIll.low hv) (by omega) (by omega)
      | inr s' =>
        obtain ⟨e0, -⟩ := hv
        cases e0
  rw [if_neg h91] at hres
  refine z_icmp_ne C 23 34 d_R_readFromVariable_20 rfl (by decide) (fun _ => ?_) (fun h9 => absurd h9 (show ¬ xlk xa (p + 1) z = 91 from h91))
  refine z_aload_n C 35 d_R_readFromVariable_34 rfl rfl ?_
  refine z_call C 38 (c_R_next (p := p + 1) (z := z) (by omega) (by omega) (by omega) hra hz (by omega) hc) w_R_next ini_R d_R_readFromVariable_35 rfl (z_goV (As := []) C l_R_39 w_R_next d_R_readFromVariable_35 (by omega) (hra2) rfl rfl) (Nat.le_of_ble_eq_true rfl) (by rw [hR]; simp only [zRm]; omega) (by rw [hR]; simp only [zRm]; omega) (by rw [hR]; simp only [zRm]; omega) (by rw [hR]; simp only [zRm]; omega) (fun v n' σ' hv => ?_) (fun x n' σ' hv => ?_)
  rotate_left
  · cases hv.1
  obtain ⟨e0, e1, rfl⟩ := hv
  cases e0
  subst e1
  refine z_bipush C 40 d_R_readFromVariable_38 rfl 123 (by decide) ?_
  clear h91
  by_cases h91 : rlk (xa 1) z (p + 1) = 123
  · rw [if_pos h91] at hres
    refine z_icmp_ne C 43 54 d_R_readFromVariable_40 rfl (by decide) (fun h9 => absurd (show xlk xa (p + 1) z = 123 from h91) h9) (fun _ => ?_)
    refine z_aload_n C 44 d_R_readFromVariable_43 rfl rfl ?_
    refine z_iload_n C 45 d_R_readFromVariable_44 rfl rfl ?_
    refine z_iload_n C 46 d_R_readFromVariable_45 rfl rfl ?_
    have hcall : (rV N vv p (rParts (xa 1) z (rdE (xa 1) z d) 8 N none 4 0 (rGo (rNode 8 vv p (rE0 8 p) (p, N, A, E)) (p + 2)))) = res := by rw [← rParts_vw]; exact hres
    have hlt91 : p + 1 < z := rlk_lt h91 (by decide)
    have hkp := rParts_kp (T := xa 1) (z := z) (R := rdE (xa 1) z d) (fun s => (rdE_ks d s).kp) (K := 8) (i := N) (vw := none) 4 0 (rGo (rNode 8 vv p (rE0 8 p) (p, N, A, E)) (p + 2)) (Nat.lt_succ_self N)
    have hrs := rParts_res (T := xa 1) (z := z) (R := rdE (xa 1) z d) (rdE_res d) (K := 8) (i := N) (vw := none) 4 0 (rGo (rNode 8 vv p (rE0 8 p) (p, N, A, E)) (p + 2)) hlt91
    obtain ⟨res', hres'⟩ : ∃ x, rParts (xa 1) z (rdE (xa 1) z d) 8 N none 4 0 (rGo (rNode 8 vv p (rE0 8 p) (p, N, A, E)) (p + 2)) = x := ⟨_, rfl⟩
    rw [hres'] at hcall hkp hrs
    have hc1 : rCe p res' ≤ mc := by rw [← (rV_ce (i := N) (v := vv) (w := p)).1, hcall]; exact hmc0
    have hc2 : rSl p res' ≤ ms := by rw [← (rV_ce (i := N) (v := vv) (w := p)).2, hcall]; exact hms0
    refine z_call C 49 (c_R_readUpdate (v := vv) RX hd8 (h0.at hpz (by omega)) hN h91 hres' (mc := mc) (ms := ms) hc1 hc2) w_R_readUpdate ini_R d_R_readFromVariable_46 rfl (z_goV (As := [.int (nI p), .int (nI (8 - d))]) C l_R_139 w_R_readUpdate d_R_readFromVariable_46 (by omega) (hra2) rfl rfl) (Nat.le_of_ble_eq_true rfl) (by rw [hR]; simp only [zRm]; omega) (by rw [hR]; simp only [zRm]; omega) (by rw [hR]; simp only [zRm]; omega) (by rw [hR]; simp only [zRm]; omega) (fun v n' σ' hv => ?_) (fun x n' σ' hv => ?_)
    · cases res' with
      | inl q =>
        obtain ⟨x, τ, e0, -⟩ := hv
        cases e0
      | inr s' =>
        obtain ⟨e0, rfl, rfl⟩ := hv
        cases e0
        rw [va_up2]
        have g1 : s'.1 ≤ z := hrs.2.1
        have g2 : s'.2.1 + (p + 2) ≤ N + 1 + s'.1 := hrs.2.2.2
        have g3 : N + 1 ≤ s'.2.1 := hkp.1
        refine z_astore C 51 d_R_readFromVariable_49 rfl (by decide) ?_
        refine z_goto C 67 d_R_readFromVariable_51 (by decide) ?_
        exact fin s' _ _ _ g3 (by omega) hcall.symm (by omega) (by omega) rfl rfl rfl
    · cases res' with
      | inl q =>
        have hq' : (.inl q : rR) = res := hcall
        exact zx_out C (fun h hh => nomatch hh) (by rw [hpo, ← hq']; exact rIll.low hv) (by omega) (by omega)
      | inr s' =>
        obtain ⟨e0, -⟩ := hv
        cases e0
  rw [if_neg h91] at hres
  refine z_icmp_ne C 43 54 d_R_readFromVariable_40 rfl (by decide) (fun _ => ?_) (fun h9 => absurd h9 (show ¬ xlk xa (p + 1) z = 123 from h91))
  have q1 : 2 * (p + 1 - p) ≤ mc := by rw [← hres] at hmc0; exact hmc0
  have q2 : 14 * (p + 1 - p) ≤ ms := by rw [← hres] at hms0; exact hms0
  refine z_new C 57 n_R_121 d_R_readFromVariable_54 rfl (by omega) (by rw [hR]; simp only [zRm]; omega) (by rw [hR]; simp only [zRm]; omega) ?_
  refine z_dup C 58 d_R_readFromVariable_57 rfl rfl ?_
  refine z_getsF C 61 1 (by decide) sf_142 d_R_readFromVariable_58 rfl ?_
  refine z_iload_n C 62 d_R_readFromVariable_61 rfl rfl ?_
  refine z_call C 65 (c_E_init (by omega) (by omega) 1 (nI p)) w_E_init ini_E d_R_readFromVariable_62 rfl (z_goI (As := [.ref (1000001 + 1), .int (nI p)]) C l_R_126 w_E_init d_R_readFromVariable_62 rfl) (Nat.le_of_ble_eq_true rfl) (by rw [hR]; simp only [zRm]; omega) (by rw [hR]; simp only [zRm]; omega) (by rw [hR]; simp only [zRm]; omega) (by rw [hR]; simp only [zRm]; omega) (fun v n' σ' hv => ?_) (fun x n' σ' hv => ?_)
  rotate_left
  · cases hv.1
  obtain ⟨e0, e1, rfl⟩ := hv
  cases e0
  have e1 : n' = B + 2 * (N + 1) := e1
  subst e1
  refine z_astore C 67 d_R_readFromVariable_65 rfl (by decide) ?_
  exact fin (p + 1, N + 1, rFlat A N 1 vv p, va_up E N (rE0 1 p)) _ _ _ (Nat.lt_succ_self N) (by show N + 1 ≤ 150; omega) (by
    rw [← hres]
    show _ = (.inr (p + 1, N + 1, rFlat A N 1 vv p, va_up (va_up E N (rE0 1 p)) N (eVar (va_up E N (rE0 1 p) N) vv (nI p))) : rR)
    rw [va_up2, va_up_self]
    rfl) (by omega) (by omega) rfl rfl rfl
end RFV
end
section
theorem d_R_readCall_0 : decode b_R_readCall 0 = .ok (.new 121, 3) := by decide +kernel
theorem d_R_readCall_3 : decode b_R_readCall 3 = .ok (.dup, 1) := by decide +kernel
theorem d_R_readCall_4 : decode b_R_readCall 4 = .ok (.getstatic 161, 3) := by decide +kernel
theorem d_R_readCall_7 : decode b_R_readCall 7 = .ok (.aload_n 0, 1) := by decide +kernel
theorem d_R_readCall_8 : decode b_R_readCall 8 = .ok (.getfield 9, 3) := by decide +kernel
theorem d_R_readCall_11 : decode b_R_readCall 11 = .ok (.invokespecial 126, 3) := by decide +kernel
theorem d_R_readCall_14 : decode b_R_readCall 14 = .ok (.astore_n 2, 1) := by decide +kernel
theorem d_R_readCall_15 : decode b_R_readCall 15 = .ok (.aload_n 2, 1) := by decide +kernel
theorem d_R_readCall_16 : decode b_R_readCall 16 = .ok (.aload_n 0, 1) := by decide +kernel
theorem d_R_readCall_17 : decode b_R_readCall 17 = .ok (.bipush 65, 2) := by decide +kernel
theorem d_R_readCall_19 : decode b_R_readCall 19 = .ok (.bipush 72, 2) := by decide +kernel
theorem d_R_readCall_21 : decode b_R_readCall 21 = .ok (.invokevirtual 28, 3) := by decide +kernel
theorem d_R_readCall_24 : decode b_R_readCall 24 = .ok (.putfield 164, 3) := by decide +kernel
theorem d_R_readCall_27 : decode b_R_readCall 27 = .ok (.aload_n 0, 1) := by decide +kernel
theorem d_R_readCall_28 : decode b_R_readCall 28 = .ok (.bipush 40, 2) := by decide +kernel
theorem d_R_readCall_30 : decode b_R_readCall 30 = .ok (.invokevirtual 35, 3) := by decide +kernel
theorem d_R_readCall_33 : decode b_R_readCall 33 = .ok (.iconst 0, 1) := by decide +kernel
theorem d_R_readCall_34 : decode b_R_readCall 34 = .ok (.istore_n 3, 1) := by decide +kernel
theorem d_R_readCall_35 : decode b_R_readCall 35 = .ok (.iload_n 3, 1) := by decide +kernel
theorem d_R_readCall_36 : decode b_R_readCall 36 = .ok (.iconst 4, 1) := by decide +kernel
theorem d_R_readCall_37 : decode b_R_readCall 37 = .ok (.if_icmp .ge 34, 3) := by decide +kernel
theorem d_R_readCall_40 : decode b_R_readCall 40 = .ok (.aload_n 0, 1) := by decide +kernel
theorem d_R_readCall_41 : decode b_R_readCall 41 = .ok (.invokevirtual 39, 3) := by decide +kernel
theorem d_R_readCall_44 : decode b_R_readCall 44 = .ok (.bipush 41, 2) := by decide +kernel
theorem d_R_readCall_46 : decode b_R_readCall 46 = .ok (.if_icmp .eq 25, 3) := by decide +kernel
theorem d_R_readCall_49 : decode b_R_readCall 49 = .ok (.aload_n 0, 1) := by decide +kernel
theorem d_R_readCall_50 : decode b_R_readCall 50 = .ok (.iload_n 3, 1) := by decide +kernel
theorem d_R_readCall_51 : decode b_R_readCall 51 = .ok (.invokevirtual 43, 3) := by decide +kernel
theorem d_R_readCall_54 : decode b_R_readCall 54 = .ok (.aload_n 2, 1) := by decide +kernel
theorem d_R_readCall_55 : decode b_R_readCall 55 = .ok (.aload_n 0, 1) := by decide +kernel
theorem d_R_readCall_56 : decode b_R_readCall 56 = .ok (.iload_n 1, 1) := by decide +kernel
theorem d_R_readCall_57 : decode b_R_readCall 57 = .ok (.iconst 1, 1) := by decide +kernel
theorem d_R_readCall_58 : decode b_R_readCall 58 = .ok (.iadd, 1) := by decide +kernel
theorem d_R_readCall_59 : decode b_R_readCall 59 = .ok (.invokevirtual 53, 3) := by decide +kernel
theorem d_R_readCall_62 : decode b_R_readCall 62 = .ok (.invokevirtual 154, 3) := by decide +kernel
theorem d_R_readCall_65 : decode b_R_readCall 65 = .ok (.iinc 3 1, 3) := by decide +kernel
theorem d_R_readCall_68 : decode b_R_readCall 68 = .ok (.goto (-33), 3) := by decide +kernel
theorem d_R_readCall_71 : decode b_R_readCall 71 = .ok (.aload_n 0, 1) := by decide +kernel
theorem d_R_readCall_72 : decode b_R_readCall 72 = .ok (.bipush 41, 2) := by decide +kernel
theorem d_R_readCall_74 : decode b_R_readCall 74 = .ok (.invokevirtual 35, 3) := by decide +kernel
theorem d_R_readCall_77 : decode b_R_readCall 77 = .ok (.aload_n 2, 1) := by decide +kernel
theorem d_R_readCall_78 : decode b_R_readCall 78 = .ok (.areturn, 1) := by decide +kernel
theorem sf_161 : Cond.fieldLink "SoleArrays$Reader" 161 "SoleArrays$Form" "CALL" "LSoleArrays$Form;" ∈ zTb := zt3 6 (by decide +kernel) rfl
theorem rBeh_13 {T : Nat → Int32} {z i j : Nat} {s : rS} {g f : rS → rR} : rBeh T z 13 j i s g f = if j < 3 ∧ rlk T z s.1 = 44 then g (s.1 + 1, s.2) else rTake T z 41 s f := rfl
section RCL
variable {G : zG} {l : Launch} {d r p z B N : Nat} {σ : zS} {xs : mS} {xr : Int64} {xa : mA} {xl : mL} {xf : xF} {E : Nat → eN} {A : mA}
/-- the parts of a call behind the first k of them -/
theorem z_calls {K : zK} (C : zC G K y_R_readCall b_R_readCall 4 (some (.object "SoleArrays$Expression")) []) (RX : rHyp G (kl K) d) (hd8 : d ≤ 8) (h0 : rPre B N r p z σ xa) {res : rR} {mc ms : Nat} (hmc0 : rCe p res ≤ mc) (hms0 : rSl p res ≤ ms) (hR : kR K = zRm (9 + 4 * d + 2) mc ms) (hmc : kmc K = mc) (hms : kms K = ms) (hpo : kpo K = rPost B N r z σ xs xr xa xl xf res) :
    ∀ (m k : Nat) (a : rS), m + k = 4 → 0 < k → p ≤ a.1 → a.1 ≤ z → a.2.1 ≤ a.1 → N < a.2.1 → (a.2.2.2 N).2.2.2.1 = k → rBeh (xa 1) z 13 (k - 1) N a (fun s3 => rParts (xa 1) z (rdE (xa 1) z d) 13 N none m k s3) (fun s3 => .inr (rClose N none s3)) = res →
      Z G K (B + 2 * a.2.1) (xOv xs xr xa xl xf (eOv B a.2.1 a.2.2.2 (va_up σ r (rdC a.1 z)))) (2 * (a.1 - p)) (14 * (a.1 - p)) 35 [(3, .int (nI k)), (2, .ref (B + 2 * N)), (0, .ref r), (1, .int (nI (8 - d)))] [] := fun m => by
  obtain ⟨hr, hrB, hB, hrd0, hz, hp, hN, hc⟩ := id h0
  have hRc : (kR K).cells = mc := by rw [hR]; rfl
  have hRs : (kR K).slots = ms := by rw [hR]; rfl
  have hRf : (kR K).frames = 9 + 4 * d + 2 := by rw [hR]; rfl
  have hRl : (kR K).locals = 60 * (9 + 4 * d + 2) := by rw [hR]; rfl
  have fin : ∀ (k : Nat) (a : rS), p ≤ a.1 → a.1 ≤ z → a.2.1 ≤ a.1 → N < a.2.1 → rTake (xa 1) z 41 a (fun s3 => .inr (rClose N none s3)) = res → Z G K (B + 2 * a.2.1) (xOv xs xr xa xl xf (eOv B a.2.1 a.2.2.2 (va_up σ r (rdC a.1 z)))) (2 * (a.1 - p)) (14 * (a.1 - p)) 71 [(3, .int (nI k)), (2, .ref (B + 2 * N)), (0, .ref r), (1, .int (nI (8 - d)))] [] := fun k a g1 g2 g3 g4 hr0 => by
    have hbnd : 2 * (a.1 - p) ≤ mc ∧ 14 * (a.1 - p) ≤ ms := by
      have hb := rCe_ge (p := p) (rTake_res (T := xa 1) (z := z) (c := 41) (s := a) (f := fun s3 => .inr (rClose N none s3)) g2 (by decide) (fun hl => ⟨Nat.le_refl _, hl, Nat.le_refl _, Nat.le_refl _⟩)) g1
      rw [hr0] at hb
      exact ⟨by omega, by omega⟩
    refine z_take C rfl 41 (by decide) a d_R_readCall_71 d_R_readCall_72 d_R_readCall_74 rfl (h0.at g2 (Nat.zero_le _)) (by omega) (by omega) (by omega) (by omega) (by omega) ⟨by omega, by omega⟩ (fun w => ?_) (fun w o n' σ' hv => ?_) (fun w => ?_)
    · rw [rTake, if_neg w] at hr0
      rw [← hr0] at hmc0 hms0
      have q1 : 2 * (a.1 - p) + 1 ≤ mc := hmc0
      have q2 : 14 * (a.1 - p) + 6 ≤ ms := hms0
      exact ⟨by omega, by omega⟩
    · rw [hpo, ← hr0, rTake, if_neg w]
      exact hv
    rw [rTake, if_pos w] at hr0
    refine z_aload_n C 78 d_R_readCall_77 rfl rfl ?_
    exact z_aret C rfl d_R_readCall_78 (by rw [hpo, ← hr0]; exact ⟨rfl, rfl, rfl⟩) (by omega) (by omega)
  induction m with
  | zero =>
    intro k a hk k0 g1 g2 g3 g4 g5 hb
    refine z_iload_n C 36 d_R_readCall_35 rfl rfl ?_
    refine z_iconst C 37 d_R_readCall_36 rfl 4 (by decide) ?_
    refine z_icmp_ge C 40 71 d_R_readCall_37 rfl (by decide) (fun _ => ?_) (fun h9 => absurd ((nI_leI (a := 4) (by omega) (by omega)).mpr (by omega)) h9)
    rw [rBeh_13, if_neg (by omega)] at hb
    exact fin k a g1 g2 g3 g4 hb
  | succ m ih =>
    intro k a hk k0 g1 g2 g3 g4 g5 hb
    have hra : eOv B a.2.1 a.2.2.2 (va_up σ r (rdC a.1 z)) r = rdC a.1 z := (eOv_lo hrB).trans (va_up_self _ _ _)
    have hra2 : xOv xs xr xa xl xf (eOv B a.2.1 a.2.2.2 (va_up σ r (rdC a.1 z))) r = .inr (4, [.ref 1, .int (nI z), .ref 2, .int (nI a.1)]) := (xOv_at (by omega)).trans hra
    have hbnd : 2 * (a.1 - p) ≤ mc ∧ 14 * (a.1 - p) ≤ ms := by
      have hb' := rCe_ge (p := p) (rBeh_res (T := xa 1) (z := z) (K := 13) (k := k - 1) (i := N) (s := a) (g := fun s3 => rParts (xa 1) z (rdE (xa 1) z d) 13 N none (m + 1) k s3) (f := fun s3 => .inr (rClose N none s3)) g2 (fun c hc => rParts_res (rdE_res d) (m + 1) k c hc.2.1) (fun c hc => ⟨Nat.le_refl _, hc.2.1, Nat.le_refl _, Nat.le_refl _⟩)) g1
      rw [hb] at hb'
      exact ⟨by omega, by omega⟩
    refine z_iload_n C 36 d_R_readCall_35 rfl rfl ?_
    refine z_iconst C 37 d_R_readCall_36 rfl 4 (by decide) ?_
    refine z_icmp_ge C 40 71 d_R_readCall_37 rfl (by decide) (fun h9 => absurd h9 (fun w => absurd ((nI_leI (a := 4) (by omega) (by omega)).mp w) (by omega))) (fun _ => ?_)
    refine z_aload_n C 41 d_R_readCall_40 rfl rfl ?_
    refine z_call C 44 (c_R_next (p := a.1) (z := z) (by omega) (by omega) (by omega) hra hz (by omega) hc) w_R_next ini_R d_R_readCall_41 rfl (z_goV (As := []) C l_R_39 w_R_next d_R_readCall_41 (by omega) (hra2) rfl rfl) (Nat.le_of_ble_eq_true rfl) (by rw [hR]; simp only [zRm]; omega) (by rw [hR]; simp only [zRm]; omega) (by rw [hR]; simp only [zRm]; omega) (by rw [hR]; simp only [zRm]; omega) (fun v n' σ' hv => ?_) (fun x n' σ' hv => ?_)
    rotate_left
    · cases hv.1
    obtain ⟨e0, e1, rfl⟩ := hv
    cases e0
    subst e1
    refine z_bipush C 46 d_R_readCall_44 rfl 41 (by decide) ?_
    by_cases h41 : rlk (xa 1) z a.1 = 41
    · refine z_icmp_eq C 49 71 d_R_readCall_46 rfl (by decide) (fun _ => ?_) (fun h9 => absurd (show xlk xa a.1 z = 41 from h41) h9)
      rw [rBeh_13, if_neg (fun w => absurd (h41.symm.trans w.2) (by decide))] at hb
      exact fin k a g1 g2 g3 g4 hb
    refine z_icmp_eq C 49 71 d_R_readCall_46 rfl (by decide) (fun h9 => absurd h9 (show ¬ xlk xa a.1 z = 41 from h41)) (fun _ => ?_)
    refine z_aload_n C 50 d_R_readCall_49 rfl rfl ?_
    refine z_iload_n C 51 d_R_readCall_50 rfl rfl ?_
    by_cases h44 : rlk (xa 1) z a.1 = 44
    rotate_left
    · rw [rBeh_13, if_neg (fun w => h44 w.2), rTake, if_neg h41] at hb
      rw [← hb] at hmc0 hms0
      have q1 : 2 * (a.1 - p) + 1 ≤ mc := hmc0
      have q2 : 14 * (a.1 - p) + 6 ≤ ms := hms0
      refine z_call C 54 (c_R_takeCommaBefore (p := a.1) (z := z) (by omega) (by omega) (by omega) (by omega) hra hz (by omega) hc (k := k) (by omega) (mc := 1) (ms := 6) (fun _ _ => ⟨by omega, by omega⟩)) w_R_takeCommaBefore ini_R d_R_readCall_51 rfl (z_goV (As := [.int (nI k)]) C l_R_43 w_R_takeCommaBefore d_R_readCall_51 (by omega) (hra2) rfl rfl) (Nat.le_of_ble_eq_true rfl) (by rw [hR]; simp only [zRm]; omega) (by rw [hR]; simp only [zRm]; omega) (by rw [hR]; simp only [zRm]; omega) (by rw [hR]; simp only [zRm]; omega) (fun v n' σ' hv => ?_) (fun x n' σ' hv => ?_)
      · rcases hv with ⟨w, -⟩ | ⟨-, w, -⟩ | ⟨-, -, e0, -⟩
        · omega
        · exact absurd w h44
        · cases e0
      · rcases hv with ⟨w, -⟩ | ⟨-, w, -⟩ | ⟨-, -, e0, rfl, rfl⟩
        · omega
        · exact absurd w h44
        · cases e0
          exact zx_out C (fun h hh => nomatch hh) (by rw [hpo, ← hb]; exact rIll_mk hrB (by omega)) (by omega) (by omega)
    rw [rBeh_13, if_pos ⟨by omega, h44⟩] at hb
    have hltA : a.1 < z := rlk_lt h44 (by decide)
    refine z_call C 54 (c_R_takeCommaBefore (p := a.1) (z := z) (by omega) (by omega) (by omega) (by omega) hra hz (by omega) hc (k := k) (by omega) (mc := 0) (ms := 0) (fun _ w => absurd h44 w)) w_R_takeCommaBefore ini_R d_R_readCall_51 rfl (z_goV (As := [.int (nI k)]) C l_R_43 w_R_takeCommaBefore d_R_readCall_51 (by omega) (hra2) rfl rfl) (Nat.le_of_ble_eq_true rfl) (by rw [hR]; simp only [zRm]; omega) (by rw [hR]; simp only [zRm]; omega) (by rw [hR]; simp only [zRm]; omega) (by rw [hR]; simp only [zRm]; omega) (fun v n' σ' hv => ?_) (fun x n' σ' hv => ?_)
    rotate_left
    · rcases hv with ⟨-, e0, -⟩ | ⟨-, -, e0, -⟩ | ⟨-, w, -⟩
      · cases e0
      · cases e0
      · exact absurd h44 w
    have hv' : v = none ∧ n' = B + 2 * a.2.1 ∧ σ' = xOv xs xr xa xl xf (va_up (eOv B a.2.1 a.2.2.2 (va_up σ r (rdC a.1 z))) r (rdC (a.1 + 1) z)) := by
      rcases hv with ⟨w, -⟩ | ⟨-, -, e0, e1, e2⟩ | ⟨-, w, -⟩
      · omega
      · cases e0; exact ⟨rfl, e1, e2⟩
      · exact absurd h44 w
    obtain ⟨rfl, rfl, rfl⟩ := hv'
    rw [eOv_low hrB, va_up2]
    obtain ⟨t, ht⟩ : ∃ t : rS, t = (a.1 + 1, a.2) := ⟨_, rfl⟩
    have hres0 : rParts (xa 1) z (rdE (xa 1) z d) 13 N none (m + 1) k t = res := by rw [ht]; exact hb
    have hv0 : t.1 = a.1 + 1 := by rw [ht]
    have hu0 : t.2.1 = a.2.1 := by rw [ht]
    have hz0 : t.1 ≤ z := by omega
    have hk0 : (t.2.2.2 N).2.2.2.1 = k := by rw [ht]; exact g5
    refine Z.same (τ := xOv xs xr xa xl xf (eOv B t.2.1 t.2.2.2 (va_up σ r (rdC t.1 z)))) (fun i _ => by rw [ht]) ?_
    rw [show B + 2 * a.2.1 = B + 2 * t.2.1 by rw [hu0]]
    have hb0 := rCe_parts (T := xa 1) (z := z) (p := p) (d := d) (K := 13) (i := N) (m := m) (k := k) (vw := none) (s := t) hz0 (by omega)
    rw [hres0] at hb0
    refine z_part C rfl hd8 RX (i := N) (k := k) t d_R_readCall_54 d_R_readCall_55 d_R_readCall_56 d_R_readCall_57 d_R_readCall_58 d_R_readCall_59 d_R_readCall_62 rfl rfl rfl (h0.at hz0 (by omega)) (by omega) hk0 (by omega) (by omega) (by omega) (by omega) (by omega) (by omega) (by omega) (fun q hq o n' σ' hv => ?_) (fun s2 hs2 => ?_)
    · rw [hpo, ← hres0, rParts_ill hq]
      exact hv
    obtain ⟨hk1, hi1, hg1, hy1, hn1⟩ := rAdd_cnt hz0 hs2 (show N < t.2.1 by omega) hk0
    refine Z.widen (j1 := 2 * (s2.1 - p)) (j2 := 14 * (s2.1 - p)) (by omega) (by omega) ?_
    refine z_iinc C 68 d_R_readCall_65 rfl (nI (k + 1)) rfl (z_inc k) (by decide) ?_
    refine z_goto C 35 d_R_readCall_68 (by decide) ?_
    exact ih (k + 1) (rAdd N t.2.1 s2) (by omega) (by omega) (by show p ≤ s2.1; omega) hy1 (by show s2.2.1 ≤ s2.1; omega) hi1 hk1 (by rw [← hres0, rParts_ok hs2]; rfl)
end RCL
end
section
section RCL2
variable {G : zG} {l : Launch} {d r p z B N : Nat} {σ : zS} {xs : mS} {xr : Int64} {xa : mA} {xl : mL} {xf : xF} {E : Nat → eN} {A : mA}
def eC (p : Nat) (f : Int32) : eN := (13, nI p, fun _ => none, 0, 0, 32, 0, 0, f, none)
theorem c_R_readCall (RX : rHyp G l d) (hd8 : d ≤ 8) (h : rPre B N r p z σ xa) (hq : 65 ≤ rlk (xa 1) z p ∧ rlk (xa 1) z p ≤ 72) {f : Int32} (hf : rlk (xa 1) z p - 65 = f) {res : rR}
    (hres : (if rlk (xa 1) z (p + 1) = 40 then (if rlk (xa 1) z (p + 2) = 41 then .inr (rGo (rNode 13 f p (eC p f) (p, N, A, E)) (p + 3)) else rParts (xa 1) z (rdE (xa 1) z d) 13 N none 4 0 (rGo (rNode 13 f p (eC p f) (p, N, A, E)) (p + 2))) else .inl (p + 1)) = res) {mc ms : Nat} (hmc0 : rCe p res ≤ mc) (hms0 : rSl p res ≤ ms) :
    MetZ G l y_R_readCall b_R_readCall 4 (some (.object "SoleArrays$Expression")) [] (9 + 4 * d + 2) mc ms [.ref r, .int (nI (8 - d))] (B + 2 * N) (xOv xs xr xa xl xf (eOv B N E σ)) (rPost B N r z σ xs xr xa xl xf res) := by
  have h0 := h
  obtain ⟨hr, hrB, hB, hrd0, hz, hp, hN, hc⟩ := h
  have hpz : p < z := rlk_pos hq.1 (by decide)
  have hrd : xOv xs xr xa xl xf (eOv B N E σ) r = .inr (4, [.ref 1, .int (nI z), .ref 2, .int (nI p)]) := (xOv_at (by omega)).trans ((eOv_lo hrB).trans hrd0)
  have hbd : 2 ≤ mc ∧ 14 ≤ ms ∧ (¬ rlk (xa 1) z (p + 1) = 40 → 3 ≤ mc ∧ 20 ≤ ms) := by
    by_cases w : rlk (xa 1) z (p + 1) = 40
    · rw [if_pos w] at hres
      have hl := rlk_lt w (by decide)
      by_cases w2 : rlk (xa 1) z (p + 2) = 41
      · rw [if_pos w2] at hres
        rw [← hres] at hmc0 hms0
        have q1 : 2 * (p + 3 - p) ≤ mc := hmc0
        have q2 : 14 * (p + 3 - p) ≤ ms := hms0
        exact ⟨by omega, by omega, fun q => absurd w q⟩
      · rw [if_neg w2] at hres
        have hb := rCe_ge (p := p) (rParts_res (T := xa 1) (R := rdE (xa 1) z d) (rdE_res d) (K := 13) (i := N) (vw := none) 4 0 (rGo (rNode 13 f p (eC p f) (p, N, A, E)) (p + 2)) hl) (by show p ≤ p + 2; omega)
        rw [hres] at hb
        have hbA : 2 * (p + 2 - p) ≤ rCe p res := hb.1
        have hbB : 14 * (p + 2 - p) ≤ rSl p res := hb.2
        exact ⟨by omega, by omega, fun q => absurd w q⟩
    · rw [if_neg w] at hres
      rw [← hres] at hmc0 hms0
      have q1 : 2 * (p + 1 - p) + 1 ≤ mc := hmc0
      have q2 : 14 * (p + 1 - p) + 6 ≤ ms := hms0
      exact ⟨by omega, by omega, fun _ => ⟨by omega, by omega⟩⟩
  obtain ⟨hbd1, hbd2, hbd3⟩ := hbd
  refine MetZ.of (by decide) (Nat.le_of_ble_eq_true rfl) (fun K hK hR hpo hmc hms C => ?_)
  subst hK
  have hRc : (kR K).cells = mc := by rw [hR]; rfl
  have hRs : (kR K).slots = ms := by rw [hR]; rfl
  have hRf : (kR K).frames = 9 + 4 * d + 2 := by rw [hR]; rfl
  have hRl : (kR K).locals = 60 * (9 + 4 * d + 2) := by rw [hR]; rfl
  refine z_new C 3 n_R_121 d_R_readCall_0 rfl (by omega) (by rw [hR]; simp only [zRm]; omega) (by rw [hR]; simp only [zRm]; omega) ?_
  refine z_dup C 4 d_R_readCall_3 rfl rfl ?_
  refine z_getsF C 7 13 (by decide) sf_161 d_R_readCall_4 rfl ?_
  refine z_aload_n C 8 d_R_readCall_7 rfl rfl ?_
  refine z_get C 11 f_R_9 d_R_readCall_8 rfl (by omega) ((va_up_ne _ _ (by omega)).trans hrd) rfl ?_
  refine z_call C 14 (c_E_init (by omega) (by omega) 13 (nI p)) w_E_init ini_E d_R_readCall_11 rfl (z_goI (As := [.ref (1000001 + 13), .int (nI p)]) C l_R_126 w_E_init d_R_readCall_11 rfl) (Nat.le_of_ble_eq_true rfl) (by rw [hR]; simp only [zRm]; omega) (by rw [hR]; simp only [zRm]; omega) (by rw [hR]; simp only [zRm]; omega) (by rw [hR]; simp only [zRm]; omega) (fun v n' σ' hv => ?_) (fun x n' σ' hv => ?_)
  rotate_left
  · cases hv.1
  obtain ⟨e0, e1, rfl⟩ := hv
  cases e0
  have e1 : n' = B + 2 * (N + 1) := e1
  subst e1
  have hr1 : eOv B (N + 1) (va_up E N (eNew 13 (nI p))) σ r = rdC p z := (eOv_lo hrB).trans hrd0
  refine z_astore_n C 15 d_R_readCall_14 rfl (by decide) ?_
  refine z_aload_n C 16 d_R_readCall_15 rfl rfl ?_
  refine z_aload_n C 17 d_R_readCall_16 rfl rfl ?_
  refine z_bipush C 19 d_R_readCall_17 rfl 65 (by decide) ?_
  refine z_bipush C 21 d_R_readCall_19 rfl 72 (by decide) ?_
  refine z_call C 24 (c_R_takeOneOf (p := p) (z := z) (by omega) (by omega) (by omega) (by omega) hr1 hz (by omega) hc 65 72 (mc := 0) (ms := 0) (fun w => absurd hq w)) w_R_takeOneOf ini_R d_R_readCall_21 rfl (z_goV (As := [.int 65, .int 72]) C l_R_28 w_R_takeOneOf d_R_readCall_21 (by omega) ((xOv_at (by omega)).trans hr1) rfl rfl) (Nat.le_of_ble_eq_true rfl) (by rw [hR]; simp only [zRm]; omega) (by rw [hR]; simp only [zRm]; omega) (by rw [hR]; simp only [zRm]; omega) (by rw [hR]; simp only [zRm]; omega) (fun v n' σ' hv => ?_) (fun x n' σ' hv => ?_)
  rotate_left
  · rcases hv with ⟨-, e0, -⟩ | ⟨w, -⟩
    · cases e0
    · exact absurd hq w
  obtain ⟨-, e0, rfl, rfl⟩ := hv.resolve_right (fun w => w.1 hq)
  cases e0
  rw [eOv_low hrB, show xlk xa p z - 65 = f from hf]
  have ho : xOv xs xr xa xl xf (eOv B (N + 1) (va_up E N (eNew 13 (nI p))) (va_up σ r (rdC (p + 1) z))) (B + 2 * N) = eCell B N (eNew 13 (nI p)) := (xOv_at (by omega)).trans ((eOv_obj (Nat.lt_succ_self N)).trans (by rw [va_up_self]))
  refine z_put C 27 p_R_164 d_R_readCall_24 rfl (by omega) ho (z_ltb rfl) rfl rfl ?_
  rw [xOv_up (by omega)]
  show Z G K _ (xOv _ _ _ _ _ (va_up _ _ (eCell B N (eC p f)))) _ _ _ _ _
  rw [eOv_upO (e' := eC p f) (Nat.lt_succ_self N) (by rw [va_up_self]; rfl), va_up2]
  refine z_take C rfl 40 (by decide) (p + 1, N + 1, rFlat A N 13 f p, va_up E N (eC p f)) d_R_readCall_27 d_R_readCall_28 d_R_readCall_30 rfl (h0.at hpz (Nat.zero_le _)) (by show N + 1 ≤ 150; omega) (by omega) (by omega) (by omega) (by omega) ⟨by omega, by omega⟩ (fun w => ?_) (fun w o n' σ' hv => ?_) (fun w => ?_)
  · have := hbd3 w
    exact ⟨by omega, by omega⟩
  · rw [if_neg w] at hres
    rw [hpo, ← hres]
    exact hv
  have w : rlk (xa 1) z (p + 1) = 40 := w
  rw [if_pos w] at hres
  have hl : p + 1 < z := rlk_lt w (by decide)
  obtain ⟨t0, ht0⟩ : ∃ t : rS, t = rGo (rNode 13 f p (eC p f) (p, N, A, E)) (p + 2) := ⟨_, rfl⟩
  have hv0 : t0.1 = p + 2 := by rw [ht0]; rfl
  have hu0 : t0.2.1 = N + 1 := by rw [ht0]; rfl
  have hz0 : t0.1 ≤ z := by omega
  have hk0 : (t0.2.2.2 N).2.2.2.1 = 0 := by
    rw [ht0]
    show (va_up E N (eC p f) N).2.2.2.1 = 0
    rw [va_up_self]
    rfl
  refine Z.same (τ := xOv xs xr xa xl xf (eOv B t0.2.1 t0.2.2.2 (va_up σ r (rdC t0.1 z)))) (fun i _ => by rw [ht0]; rfl) ?_
  rw [show B + 2 * ((p + 1, N + 1, rFlat A N 13 f p, va_up E N (eC p f)) : rS).2.1 = B + 2 * t0.2.1 by rw [hu0]]
  have hra : eOv B t0.2.1 t0.2.2.2 (va_up σ r (rdC t0.1 z)) r = rdC t0.1 z := (eOv_lo hrB).trans (va_up_self _ _ _)
  have hra2 : xOv xs xr xa xl xf (eOv B t0.2.1 t0.2.2.2 (va_up σ r (rdC t0.1 z))) r = .inr (4, [.ref 1, .int (nI z), .ref 2, .int (nI t0.1)]) := (xOv_at (by omega)).trans hra
  refine z_iconst C 34 d_R_readCall_33 rfl 0 (by decide) ?_
  refine z_istore_n C 35 d_R_readCall_34 rfl (by decide) ?_
  refine z_iload_n C 36 d_R_readCall_35 rfl rfl ?_
  refine z_iconst C 37 d_R_readCall_36 rfl 4 (by decide) ?_
  refine z_icmp_ge C 40 71 d_R_readCall_37 rfl (by decide) (fun h9 => absurd h9 (show ¬ (4 : Int32) ≤ 0 by decide)) (fun _ => ?_)
  refine z_aload_n C 41 d_R_readCall_40 rfl rfl ?_
  refine z_call C 44 (c_R_next (p := t0.1) (z := z) (by omega) (by omega) (by omega) hra hz (by omega) hc) w_R_next ini_R d_R_readCall_41 rfl (z_goV (As := []) C l_R_39 w_R_next d_R_readCall_41 (by omega) (hra2) rfl rfl) (Nat.le_of_ble_eq_true rfl) (by rw [hR]; simp only [zRm]; omega) (by rw [hR]; simp only [zRm]; omega) (by rw [hR]; simp only [zRm]; omega) (by rw [hR]; simp only [zRm]; omega) (fun v n' σ' hv => ?_) (fun x n' σ' hv => ?_)
  rotate_left
  · cases hv.1
  obtain ⟨e0, e1, rfl⟩ := hv
  cases e0
  subst e1
  refine z_bipush C 46 d_R_readCall_44 rfl 41 (by decide) ?_
  by_cases h41 : rlk (xa 1) z t0.1 = 41
  · refine z_icmp_eq C 49 71 d_R_readCall_46 rfl (by decide) (fun _ => ?_) (fun h9 => absurd (show xlk xa t0.1 z = 41 from h41) h9)
    have w2 : rlk (xa 1) z (p + 2) = 41 := by rw [← hv0]; exact h41
    rw [if_pos w2] at hres
    rw [← hres] at hmc0 hms0
    have q1 : 2 * (p + 3 - p) ≤ mc := hmc0
    have q2 : 14 * (p + 3 - p) ≤ ms := hms0
    refine z_take C rfl 41 (by decide) t0 d_R_readCall_71 d_R_readCall_72 d_R_readCall_74 rfl (h0.at hz0 (Nat.zero_le _)) (by omega) (by omega) (by omega) (by omega) (by omega) ⟨by omega, by omega⟩ (fun w => absurd h41 w) (fun w => absurd h41 w) (fun _ => ?_)
    refine z_aload_n C 78 d_R_readCall_77 rfl rfl ?_
    exact z_aret C rfl d_R_readCall_78 (by rw [hpo, ← hres]; exact ⟨rfl, by rw [ht0]; rfl, by rw [ht0]; rfl⟩) (by omega) (by omega)
  refine z_icmp_eq C 49 71 d_R_readCall_46 rfl (by decide) (fun h9 => absurd h9 (show ¬ xlk xa t0.1 z = 41 from h41)) (fun _ => ?_)
  have w2 : ¬ rlk (xa 1) z (p + 2) = 41 := by rw [← hv0]; exact h41
  rw [if_neg w2, ← ht0] at hres
  refine z_aload_n C 50 d_R_readCall_49 rfl rfl ?_
  refine z_iload_n C 51 d_R_readCall_50 rfl rfl ?_
  refine z_call C 54 (c_R_takeCommaBefore (p := t0.1) (z := z) (by omega) (by omega) (by omega) (by omega) hra hz (by omega) hc (k := 0) (by omega) (mc := 0) (ms := 0) (fun q => absurd q (by omega))) w_R_takeCommaBefore ini_R d_R_readCall_51 rfl (z_goV (As := [.int (nI 0)]) C l_R_43 w_R_takeCommaBefore d_R_readCall_51 (by omega) (hra2) rfl rfl) (Nat.le_of_ble_eq_true rfl) (by rw [hR]; simp only [zRm]; omega) (by rw [hR]; simp only [zRm]; omega) (by rw [hR]; simp only [zRm]; omega) (by rw [hR]; simp only [zRm]; omega) (fun v n' σ' hv => ?_) (fun x n' σ' hv => ?_)
  rotate_left
  · rcases hv with ⟨-, e0, -⟩ | ⟨q, -⟩ | ⟨q, -⟩
    · cases e0
    · omega
    · omega
  have hv' : v = none ∧ n' = B + 2 * t0.2.1 ∧ σ' = xOv xs xr xa xl xf (eOv B t0.2.1 t0.2.2.2 (va_up σ r (rdC t0.1 z))) := by
    rcases hv with ⟨-, e0, e1, e2⟩ | ⟨q, -⟩ | ⟨q, -⟩
    · cases e0; exact ⟨rfl, e1, e2⟩
    · omega
    · omega
  obtain ⟨rfl, rfl, rfl⟩ := hv'
  have hb0 := rCe_parts (T := xa 1) (z := z) (p := p) (d := d) (K := 13) (i := N) (m := 3) (k := 0) (vw := none) (s := t0) hz0 (by omega)
  rw [hres] at hb0
  refine z_part C rfl hd8 RX (i := N) (k := 0) t0 d_R_readCall_54 d_R_readCall_55 d_R_readCall_56 d_R_readCall_57 d_R_readCall_58 d_R_readCall_59 d_R_readCall_62 rfl rfl rfl (h0.at hz0 (by omega)) (by omega) hk0 (by omega) (by omega) (by omega) (by omega) (by omega) (by omega) (by omega) (fun q hq o n' σ' hv => ?_) (fun s2 hs2 => ?_)
  · rw [hpo, ← hres, rParts_ill hq]
    exact hv
  obtain ⟨hk1, hi1, hg1, hy1, hn1⟩ := rAdd_cnt hz0 hs2 (show N < t0.2.1 by omega) hk0
  refine Z.widen (j1 := 2 * (s2.1 - p)) (j2 := 14 * (s2.1 - p)) (by omega) (by omega) ?_
  refine z_iinc C 68 d_R_readCall_65 rfl (nI 1) rfl rfl (by decide) ?_
  refine z_goto C 35 d_R_readCall_68 (by decide) ?_
  exact z_calls C RX hd8 h0 hmc0 hms0 hR hmc hms hpo 3 1 (rAdd N t0.2.1 s2) rfl (by omega) (by show p ≤ s2.1; omega) hy1 (by show s2.2.1 ≤ s2.1; omega) hi1 hk1 (by rw [← hres, rParts_ok hs2])
end RCL2
end
section
theorem d_R_readExpression_0 : decode b_R_readExpression 0 = .ok (.iload_n 1, 1) := by decide +kernel
theorem d_R_readExpression_1 : decode b_R_readExpression 1 = .ok (.bipush 8, 2) := by decide +kernel
theorem d_R_readExpression_3 : decode b_R_readExpression 3 = .ok (.if_icmp .le 8, 3) := by decide +kernel
theorem d_R_readExpression_6 : decode b_R_readExpression 6 = .ok (.aload_n 0, 1) := by decide +kernel
theorem d_R_readExpression_7 : decode b_R_readExpression 7 = .ok (.invokevirtual 70, 3) := by decide +kernel
theorem d_R_readExpression_10 : decode b_R_readExpression 10 = .ok (.areturn, 1) := by decide +kernel
theorem d_R_readExpression_11 : decode b_R_readExpression 11 = .ok (.aload_n 0, 1) := by decide +kernel
theorem d_R_readExpression_12 : decode b_R_readExpression 12 = .ok (.bipush 48, 2) := by decide +kernel
theorem d_R_readExpression_14 : decode b_R_readExpression 14 = .ok (.bipush 57, 2) := by decide +kernel
theorem d_R_readExpression_16 : decode b_R_readExpression 16 = .ok (.invokevirtual 74, 3) := by decide +kernel
theorem d_R_readExpression_19 : decode b_R_readExpression 19 = .ok (.ifCond .eq 8, 3) := by decide +kernel
theorem d_R_readExpression_22 : decode b_R_readExpression 22 = .ok (.aload_n 0, 1) := by decide +kernel
theorem d_R_readExpression_23 : decode b_R_readExpression 23 = .ok (.invokevirtual 78, 3) := by decide +kernel
theorem d_R_readExpression_26 : decode b_R_readExpression 26 = .ok (.areturn, 1) := by decide +kernel
theorem d_R_readExpression_27 : decode b_R_readExpression 27 = .ok (.aload_n 0, 1) := by decide +kernel
theorem d_R_readExpression_28 : decode b_R_readExpression 28 = .ok (.bipush 97, 2) := by decide +kernel
theorem d_R_readExpression_30 : decode b_R_readExpression 30 = .ok (.bipush 116, 2) := by decide +kernel
theorem d_R_readExpression_32 : decode b_R_readExpression 32 = .ok (.invokevirtual 74, 3) := by decide +kernel
theorem d_R_readExpression_35 : decode b_R_readExpression 35 = .ok (.ifCond .eq 9, 3) := by decide +kernel
theorem d_R_readExpression_38 : decode b_R_readExpression 38 = .ok (.aload_n 0, 1) := by decide +kernel
theorem d_R_readExpression_39 : decode b_R_readExpression 39 = .ok (.iload_n 1, 1) := by decide +kernel
theorem d_R_readExpression_40 : decode b_R_readExpression 40 = .ok (.invokevirtual 81, 3) := by decide +kernel
theorem d_R_readExpression_43 : decode b_R_readExpression 43 = .ok (.areturn, 1) := by decide +kernel
theorem d_R_readExpression_44 : decode b_R_readExpression 44 = .ok (.aload_n 0, 1) := by decide +kernel
theorem d_R_readExpression_45 : decode b_R_readExpression 45 = .ok (.bipush 65, 2) := by decide +kernel
theorem d_R_readExpression_47 : decode b_R_readExpression 47 = .ok (.bipush 72, 2) := by decide +kernel
theorem d_R_readExpression_49 : decode b_R_readExpression 49 = .ok (.invokevirtual 74, 3) := by decide +kernel
theorem d_R_readExpression_52 : decode b_R_readExpression 52 = .ok (.ifCond .eq 9, 3) := by decide +kernel
theorem d_R_readExpression_55 : decode b_R_readExpression 55 = .ok (.aload_n 0, 1) := by decide +kernel
theorem d_R_readExpression_56 : decode b_R_readExpression 56 = .ok (.iload_n 1, 1) := by decide +kernel
theorem d_R_readExpression_57 : decode b_R_readExpression 57 = .ok (.invokevirtual 84, 3) := by decide +kernel
theorem d_R_readExpression_60 : decode b_R_readExpression 60 = .ok (.areturn, 1) := by decide +kernel
theorem d_R_readExpression_61 : decode b_R_readExpression 61 = .ok (.aload_n 0, 1) := by decide +kernel
theorem d_R_readExpression_62 : decode b_R_readExpression 62 = .ok (.invokevirtual 39, 3) := by decide +kernel
theorem d_R_readExpression_65 : decode b_R_readExpression 65 = .ok (.lookupswitch 143 #[(35, 113), (36, 129), (37, 107), (38, 95), (40, 83), (63, 89), (64, 101), (94, 121), (126, 137)], 83) := by decide +kernel
theorem d_R_readExpression_148 : decode b_R_readExpression 148 = .ok (.aload_n 0, 1) := by decide +kernel
theorem d_R_readExpression_149 : decode b_R_readExpression 149 = .ok (.iload_n 1, 1) := by decide +kernel
theorem d_R_readExpression_150 : decode b_R_readExpression 150 = .ok (.invokevirtual 87, 3) := by decide +kernel
theorem d_R_readExpression_153 : decode b_R_readExpression 153 = .ok (.areturn, 1) := by decide +kernel
theorem d_R_readExpression_154 : decode b_R_readExpression 154 = .ok (.aload_n 0, 1) := by decide +kernel
theorem d_R_readExpression_155 : decode b_R_readExpression 155 = .ok (.iload_n 1, 1) := by decide +kernel
theorem d_R_readExpression_156 : decode b_R_readExpression 156 = .ok (.invokevirtual 90, 3) := by decide +kernel
theorem d_R_readExpression_159 : decode b_R_readExpression 159 = .ok (.areturn, 1) := by decide +kernel
theorem d_R_readExpression_160 : decode b_R_readExpression 160 = .ok (.aload_n 0, 1) := by decide +kernel
theorem d_R_readExpression_161 : decode b_R_readExpression 161 = .ok (.iload_n 1, 1) := by decide +kernel
theorem d_R_readExpression_162 : decode b_R_readExpression 162 = .ok (.invokevirtual 93, 3) := by decide +kernel
theorem d_R_readExpression_165 : decode b_R_readExpression 165 = .ok (.areturn, 1) := by decide +kernel
theorem d_R_readExpression_166 : decode b_R_readExpression 166 = .ok (.aload_n 0, 1) := by decide +kernel
theorem d_R_readExpression_167 : decode b_R_readExpression 167 = .ok (.iload_n 1, 1) := by decide +kernel
theorem d_R_readExpression_168 : decode b_R_readExpression 168 = .ok (.invokevirtual 96, 3) := by decide +kernel
theorem d_R_readExpression_171 : decode b_R_readExpression 171 = .ok (.areturn, 1) := by decide +kernel
theorem d_R_readExpression_172 : decode b_R_readExpression 172 = .ok (.aload_n 0, 1) := by decide +kernel
theorem d_R_readExpression_173 : decode b_R_readExpression 173 = .ok (.iload_n 1, 1) := by decide +kernel
theorem d_R_readExpression_174 : decode b_R_readExpression 174 = .ok (.invokevirtual 99, 3) := by decide +kernel
theorem d_R_readExpression_177 : decode b_R_readExpression 177 = .ok (.areturn, 1) := by decide +kernel
theorem d_R_readExpression_178 : decode b_R_readExpression 178 = .ok (.aload_n 0, 1) := by decide +kernel
theorem d_R_readExpression_179 : decode b_R_readExpression 179 = .ok (.getstatic 102, 3) := by decide +kernel
theorem d_R_readExpression_182 : decode b_R_readExpression 182 = .ok (.invokevirtual 108, 3) := by decide +kernel
theorem d_R_readExpression_185 : decode b_R_readExpression 185 = .ok (.areturn, 1) := by decide +kernel
theorem d_R_readExpression_186 : decode b_R_readExpression 186 = .ok (.aload_n 0, 1) := by decide +kernel
theorem d_R_readExpression_187 : decode b_R_readExpression 187 = .ok (.getstatic 112, 3) := by decide +kernel
theorem d_R_readExpression_190 : decode b_R_readExpression 190 = .ok (.invokevirtual 108, 3) := by decide +kernel
theorem d_R_readExpression_193 : decode b_R_readExpression 193 = .ok (.areturn, 1) := by decide +kernel
theorem d_R_readExpression_194 : decode b_R_readExpression 194 = .ok (.aload_n 0, 1) := by decide +kernel
theorem d_R_readExpression_195 : decode b_R_readExpression 195 = .ok (.getstatic 115, 3) := by decide +kernel
theorem d_R_readExpression_198 : decode b_R_readExpression 198 = .ok (.invokevirtual 108, 3) := by decide +kernel
theorem d_R_readExpression_201 : decode b_R_readExpression 201 = .ok (.areturn, 1) := by decide +kernel
theorem d_R_readExpression_202 : decode b_R_readExpression 202 = .ok (.aload_n 0, 1) := by decide +kernel
theorem d_R_readExpression_203 : decode b_R_readExpression 203 = .ok (.iload_n 1, 1) := by decide +kernel
theorem d_R_readExpression_204 : decode b_R_readExpression 204 = .ok (.invokevirtual 118, 3) := by decide +kernel
theorem d_R_readExpression_207 : decode b_R_readExpression 207 = .ok (.areturn, 1) := by decide +kernel
theorem d_R_readExpression_208 : decode b_R_readExpression 208 = .ok (.aload_n 0, 1) := by decide +kernel
theorem d_R_readExpression_209 : decode b_R_readExpression 209 = .ok (.invokevirtual 70, 3) := by decide +kernel
theorem d_R_readExpression_212 : decode b_R_readExpression 212 = .ok (.areturn, 1) := by decide +kernel
theorem sf_102 : Cond.fieldLink "SoleArrays$Reader" 102 "SoleArrays$Form" "HEIGHT" "LSoleArrays$Form;" ∈ zTb := zt3 46 (by decide +kernel) rfl
theorem sf_112 : Cond.fieldLink "SoleArrays$Reader" 112 "SoleArrays$Form" "WIDTH" "LSoleArrays$Form;" ∈ zTb := zt3 48 (by decide +kernel) rfl
theorem sf_115 : Cond.fieldLink "SoleArrays$Reader" 115 "SoleArrays$Form" "COPY" "LSoleArrays$Form;" ∈ zTb := zt3 50 (by decide +kernel) rfl
section RDX
variable {G : zG} {l : Launch} {d r p z B N : Nat} {σ : zS} {xs : mS} {xr : Int64} {xa : mA} {xl : mL} {xf : xF} {E : Nat → eN} {A : mA}
theorem rPost_ret {res : rR} {v : Option Value} {n' : Nat} {σ' : zS} (h : rPost B N r z σ xs xr xa xl xf res (.returned v) n' σ') : v = some (.ref (B + 2 * N)) := by
  cases res with
  | inl q =>
    obtain ⟨x, τ, h1, -⟩ := h
    cases h1
  | inr s =>
    have h1 := h.1
    cases h1
    rfl
theorem rIll_mk2 {M q : Nat} {E' : Nat → eN} (hrB : r < B) (hM : M ≤ 150) : rIll B r σ xs xr xa xl xf q (.threw (B + 2 * M)) (B + 2 * M + 1) (xOv (upd xs 4 (nI q)) xr xa xl xf (va_up (eOv B M E' σ) (B + 2 * M) (.inr (9, [])))) := by
  refine ⟨B + 2 * M, _, rfl, rfl, by omega, by omega, rfl, va_up_self _ _ _, fun k hk => ?_⟩
  rw [va_up_ne _ _ (by omega), eOv_lo (by omega)]
theorem lk_off (ps : List (Int × Int)) (dflt x : Int) (h : ps.all (fun a => !(a.1 == x)) = true) : Op.lookupswitch.offset ps dflt x = dflt := by
  induction ps with
  | nil => rfl
  | cons a r ih =>
    obtain ⟨a, o⟩ := a
    rw [List.all_cons, Bool.and_eq_true] at h
    rw [Op.lookupswitch.offset_cons, if_neg (by have := h.1; simpa using this)]
    exact ih h.2
theorem rHyp_0 : rHyp G l 0 := by
  intro B N r p z σ xs xr xa xl xf A E mc ms h hmc0 hms0
  obtain ⟨hr, hrB, hB, hrd0, hz, hp, hN, hc⟩ := h
  have hrd : xOv xs xr xa xl xf (eOv B N E σ) r = .inr (4, [.ref 1, .int (nI z), .ref 2, .int (nI p)]) := (xOv_at (by omega)).trans ((eOv_lo hrB).trans hrd0)
  have hm1 : 2 * (p - p) + 1 ≤ mc := hmc0
  have hm2 : 14 * (p - p) + 6 ≤ ms := hms0
  refine MetZ.of (by decide) (Nat.le_of_ble_eq_true rfl) (fun K hK hR hpo hmc hms C => ?_)
  refine z_iload_n C 1 d_R_readExpression_0 rfl rfl ?_
  refine z_bipush C 3 d_R_readExpression_1 rfl 8 (by decide) ?_
  refine z_icmp_le C 6 11 d_R_readExpression_3 rfl (by decide) (fun h9 => absurd h9 (show ¬ nI 9 ≤ 8 by decide)) (fun _ => ?_)
  refine z_aload_n C 7 d_R_readExpression_6 rfl rfl ?_
  refine z_call C 10 (c_R_refuse (by omega) (by omega) (by omega) (by omega) ((eOv_lo hrB).trans hrd0)) w_R_refuse ini_R d_R_readExpression_7 rfl (z_goV (As := []) C l_R_70 w_R_refuse d_R_readExpression_7 (by omega) (hrd) rfl rfl) (Nat.le_of_ble_eq_true rfl) (by rw [hR]; simp only [zRm]; omega) (by rw [hR]; simp only [zRm]; omega) (by rw [hR]; simp only [zRm]; omega) (by rw [hR]; simp only [zRm]; omega) (fun v n' σ' hv => ?_) (fun x n' σ' hv => ?_)
  rotate_left
  · obtain ⟨e0, rfl, rfl⟩ := hv
    cases e0
    exact zx_out C (fun h hh => nomatch hh) (by rw [hpo]; exact rIll_mk2 hrB (by omega)) (by rw [hmc]; omega) (by rw [hms]; omega)
  · cases hv.1
theorem rHyp_s (RX : rHyp G l d) (hd7 : d ≤ 7) : rHyp G l (d + 1) := by
  intro B N r p z σ xs xr xa xl xf A E mc ms h
  obtain ⟨res, hres⟩ : ∃ x, rdE (xa 1) z (d + 1) (p, N, A, E) = x := ⟨_, rfl⟩
  rw [hres, show 9 - (d + 1) = 8 - d by omega]
  intro hmc0 hms0
  have h0 := h
  obtain ⟨hr, hrB, hB, hrd0, hz, hp, hN, hc⟩ := h
  have hrd : xOv xs xr xa xl xf (eOv B N E σ) r = .inr (4, [.ref 1, .int (nI z), .ref 2, .int (nI p)]) := (xOv_at (by omega)).trans ((eOv_lo hrB).trans hrd0)
  rw [rdE] at hres
  dsimp only at hres
  refine MetZ.of (by decide) (Nat.le_of_ble_eq_true rfl) (fun K hK hR hpo hmc hms C => ?_)
  subst hK
  refine z_iload_n C 1 d_R_readExpression_0 rfl rfl ?_
  refine z_bipush C 3 d_R_readExpression_1 rfl 8 (by decide) ?_
  refine z_icmp_le C 6 11 d_R_readExpression_3 rfl (by decide) (fun _ => ?_) (fun h9 => absurd (show nI (8 - d) ≤ nI 8 from (nI_leI (by omega) (by omega)).mpr (by omega)) h9)

  refine z_aload_n C 12 d_R_readExpression_11 rfl rfl ?_
  refine z_bipush C 14 d_R_readExpression_12 rfl 48 (by decide) ?_
  refine z_bipush C 16 d_R_readExpression_14 rfl 57 (by decide) ?_
  refine z_call C 19 (c_R_nextIsOneOf (p := p) (z := z) (by omega) (by omega) (by omega) ((eOv_lo hrB).trans hrd0) hz (by omega) hc 48 57) w_R_nextIsOneOf ini_R d_R_readExpression_16 rfl (z_goV (As := [.int 48, .int 57]) C l_R_74 w_R_nextIsOneOf d_R_readExpression_16 (by omega) (hrd) rfl rfl) (Nat.le_of_ble_eq_true rfl) (by rw [hR]; simp only [zRm]; omega) (by rw [hR]; simp only [zRm]; omega) (by rw [hR]; simp only [zRm]; omega) (by rw [hR]; simp only [zRm]; omega) (fun v n' σ' hv => ?_) (fun x n' σ' hv => ?_)
  rotate_left
  · cases hv.1
  obtain ⟨e0, e1, rfl⟩ := hv
  subst e1
  by_cases q1 : 48 ≤ rlk (xa 1) z p ∧ rlk (xa 1) z p ≤ 57
  · rw [show (if (48 : Int32) ≤ xlk xa p z ∧ xlk xa p z ≤ 57 then (1 : Int32) else 0) = 1 from if_pos q1] at e0
    cases e0
    rw [if_pos q1] at hres
    refine z_if_eq C 22 27 d_R_readExpression_19 rfl (by decide) (fun h9 => absurd h9 (show ¬ (1 : Int32) = 0 by decide)) (fun _ => ?_)
    have hdl := rDigs_lt (T := xa 1) (z := z) (v := 0) q1 3
    have hdl1 : p < (rDigs (xa 1) z 4 p 0).1 := hdl.1
    have hm1 : 2 * ((rDigs (xa 1) z 4 p 0).1 - p) ≤ mc := by rw [← hres] at hmc0; exact hmc0
    have hm2 : 14 * ((rDigs (xa 1) z 4 p 0).1 - p) ≤ ms := by rw [← hres] at hms0; exact hms0
    refine z_aload_n C 23 d_R_readExpression_22 rfl rfl ?_
    refine z_call C 26 (c_R_readDigits h0 (mc := mc) (ms := ms) (by omega) (by omega)) w_R_readDigits ini_R d_R_readExpression_23 rfl (z_goV (As := []) C l_R_78 w_R_readDigits d_R_readExpression_23 (by omega) (hrd) rfl rfl) (Nat.le_of_ble_eq_true rfl) (by rw [hR]; simp only [zRm]; omega) (by rw [hR]; simp only [zRm]; omega) (by rw [hR]; simp only [zRm]; omega) (by rw [hR]; simp only [zRm]; omega) (fun v n' σ' hv => ?_) (fun x n' σ' hv => ?_)
    rotate_left
    · cases hv.1
    obtain ⟨e0, rfl, rfl⟩ := hv
    cases e0
    exact z_aret C rfl d_R_readExpression_26 (by rw [hpo]; exact (by rw [← hres]; exact ⟨rfl, rfl, rfl⟩)) (by rw [hmc]; omega) (by rw [hms]; omega)
  rw [show (if (48 : Int32) ≤ xlk xa p z ∧ xlk xa p z ≤ 57 then (1 : Int32) else 0) = 0 from if_neg q1] at e0
  cases e0
  rw [if_neg q1] at hres
  refine z_if_eq C 22 27 d_R_readExpression_19 rfl (by decide) (fun _ => ?_) (fun h9 => absurd (show (0 : Int32) = 0 from rfl) h9)
  refine z_aload_n C 28 d_R_readExpression_27 rfl rfl ?_
  refine z_bipush C 30 d_R_readExpression_28 rfl 97 (by decide) ?_
  refine z_bipush C 32 d_R_readExpression_30 rfl 116 (by decide) ?_
  refine z_call C 35 (c_R_nextIsOneOf (p := p) (z := z) (by omega) (by omega) (by omega) ((eOv_lo hrB).trans hrd0) hz (by omega) hc 97 116) w_R_nextIsOneOf ini_R d_R_readExpression_32 rfl (z_goV (As := [.int 97, .int 116]) C l_R_74 w_R_nextIsOneOf d_R_readExpression_32 (by omega) (hrd) rfl rfl) (Nat.le_of_ble_eq_true rfl) (by rw [hR]; simp only [zRm]; omega) (by rw [hR]; simp only [zRm]; omega) (by rw [hR]; simp only [zRm]; omega) (by rw [hR]; simp only [zRm]; omega) (fun v n' σ' hv => ?_) (fun x n' σ' hv => ?_)
  rotate_left
  · cases hv.1
  obtain ⟨e0, e1, rfl⟩ := hv
  subst e1
  by_cases q2 : 97 ≤ rlk (xa 1) z p ∧ rlk (xa 1) z p ≤ 116
  · rw [show (if (97 : Int32) ≤ xlk xa p z ∧ xlk xa p z ≤ 116 then (1 : Int32) else 0) = 1 from if_pos q2] at e0
    cases e0
    rw [if_pos q2] at hres
    refine z_if_eq C 38 44 d_R_readExpression_35 rfl (by decide) (fun h9 => absurd h9 (show ¬ (1 : Int32) = 0 by decide)) (fun _ => ?_)
    refine z_aload_n C 39 d_R_readExpression_38 rfl rfl ?_
    refine z_iload_n C 40 d_R_readExpression_39 rfl rfl ?_
    refine z_call C 43 (c_R_readFromVariable (A := A) RX (by omega) h0 q2 rfl hres (mc := mc) (ms := ms) hmc0 hms0) w_R_readFromVariable ini_R d_R_readExpression_40 rfl (z_goV (As := [.int (nI (8 - d))]) C l_R_81 w_R_readFromVariable d_R_readExpression_40 (by omega) (hrd) rfl rfl) (Nat.le_of_ble_eq_true rfl) (by rw [hR]; simp only [zRm]; omega) (by rw [hR]; simp only [zRm]; omega) (by rw [hR]; simp only [zRm]; omega) (by rw [hR]; simp only [zRm]; omega) (fun v n' σ' hv => ?_) (fun x n' σ' hv => ?_)
    rotate_left
    · exact zx_out C (fun h hh => nomatch hh) (by rw [hpo]; exact hv) (by rw [hmc]; omega) (by rw [hms]; omega)
    obtain rfl := rPost_ret hv
    exact z_aret C rfl d_R_readExpression_43 (by rw [hpo]; exact hv) (by rw [hmc]; omega) (by rw [hms]; omega)
  rw [show (if (97 : Int32) ≤ xlk xa p z ∧ xlk xa p z ≤ 116 then (1 : Int32) else 0) = 0 from if_neg q2] at e0
  cases e0
  rw [if_neg q2] at hres
  refine z_if_eq C 38 44 d_R_readExpression_35 rfl (by decide) (fun _ => ?_) (fun h9 => absurd (show (0 : Int32) = 0 from rfl) h9)
  refine z_aload_n C 45 d_R_readExpression_44 rfl rfl ?_
  refine z_bipush C 47 d_R_readExpression_45 rfl 65 (by decide) ?_
  refine z_bipush C 49 d_R_readExpression_47 rfl 72 (by decide) ?_
  refine z_call C 52 (c_R_nextIsOneOf (p := p) (z := z) (by omega) (by omega) (by omega) ((eOv_lo hrB).trans hrd0) hz (by omega) hc 65 72) w_R_nextIsOneOf ini_R d_R_readExpression_49 rfl (z_goV (As := [.int 65, .int 72]) C l_R_74 w_R_nextIsOneOf d_R_readExpression_49 (by omega) (hrd) rfl rfl) (Nat.le_of_ble_eq_true rfl) (by rw [hR]; simp only [zRm]; omega) (by rw [hR]; simp only [zRm]; omega) (by rw [hR]; simp only [zRm]; omega) (by rw [hR]; simp only [zRm]; omega) (fun v n' σ' hv => ?_) (fun x n' σ' hv => ?_)
  rotate_left
  · cases hv.1
  obtain ⟨e0, e1, rfl⟩ := hv
  subst e1
  by_cases q3 : 65 ≤ rlk (xa 1) z p ∧ rlk (xa 1) z p ≤ 72
  · rw [show (if (65 : Int32) ≤ xlk xa p z ∧ xlk xa p z ≤ 72 then (1 : Int32) else 0) = 1 from if_pos q3] at e0
    cases e0
    rw [if_pos q3] at hres
    refine z_if_eq C 55 61 d_R_readExpression_52 rfl (by decide) (fun h9 => absurd h9 (show ¬ (1 : Int32) = 0 by decide)) (fun _ => ?_)
    refine z_aload_n C 56 d_R_readExpression_55 rfl rfl ?_
    refine z_iload_n C 57 d_R_readExpression_56 rfl rfl ?_
    refine z_call C 60 (c_R_readCall (A := A) RX (by omega) h0 q3 rfl hres (mc := mc) (ms := ms) hmc0 hms0) w_R_readCall ini_R d_R_readExpression_57 rfl (z_goV (As := [.int (nI (8 - d))]) C l_R_84 w_R_readCall d_R_readExpression_57 (by omega) (hrd) rfl rfl) (Nat.le_of_ble_eq_true rfl) (by rw [hR]; simp only [zRm]; omega) (by rw [hR]; simp only [zRm]; omega) (by rw [hR]; simp only [zRm]; omega) (by rw [hR]; simp only [zRm]; omega) (fun v n' σ' hv => ?_) (fun x n' σ' hv => ?_)
    rotate_left
    · exact zx_out C (fun h hh => nomatch hh) (by rw [hpo]; exact hv) (by rw [hmc]; omega) (by rw [hms]; omega)
    obtain rfl := rPost_ret hv
    exact z_aret C rfl d_R_readExpression_60 (by rw [hpo]; exact hv) (by rw [hmc]; omega) (by rw [hms]; omega)
  rw [show (if (65 : Int32) ≤ xlk xa p z ∧ xlk xa p z ≤ 72 then (1 : Int32) else 0) = 0 from if_neg q3] at e0
  cases e0
  rw [if_neg q3] at hres
  refine z_if_eq C 55 61 d_R_readExpression_52 rfl (by decide) (fun _ => ?_) (fun h9 => absurd (show (0 : Int32) = 0 from rfl) h9)
  refine z_aload_n C 62 d_R_readExpression_61 rfl rfl ?_
  refine z_call C 65 (c_R_next (p := p) (z := z) (by omega) (by omega) (by omega) ((eOv_lo hrB).trans hrd0) hz (by omega) hc) w_R_next ini_R d_R_readExpression_62 rfl (z_goV (As := []) C l_R_39 w_R_next d_R_readExpression_62 (by omega) (hrd) rfl rfl) (Nat.le_of_ble_eq_true rfl) (by rw [hR]; simp only [zRm]; omega) (by rw [hR]; simp only [zRm]; omega) (by rw [hR]; simp only [zRm]; omega) (by rw [hR]; simp only [zRm]; omega) (fun v n' σ' hv => ?_) (fun x n' σ' hv => ?_)
  rotate_left
  · cases hv.1
  obtain ⟨e0, e1, rfl⟩ := hv
  cases e0
  subst e1
  have hlk : rlk (xa 1) z p = xlk xa p z := rfl

  by_cases w40 : rlk (xa 1) z p = 40
  · rw [if_pos w40] at hres
    rw [show xlk xa p z = 40 from w40]
    refine z_lookup C 148 d_R_readExpression_65 (by decide) (off := 83) (by decide) (by decide) ?_
    refine z_aload_n C 149 d_R_readExpression_148 rfl rfl ?_
    refine z_iload_n C 150 d_R_readExpression_149 rfl rfl ?_
    refine z_call C 153 (c_R_readOperation (A := A) RX (by omega) h0 w40 hres (mc := mc) (ms := ms) hmc0 hms0) w_R_readOperation ini_R d_R_readExpression_150 rfl (z_goV (As := [.int (nI (8 - d))]) C l_R_87 w_R_readOperation d_R_readExpression_150 (by omega) (hrd) rfl rfl) (Nat.le_of_ble_eq_true rfl) (by rw [hR]; simp only [zRm]; omega) (by rw [hR]; simp only [zRm]; omega) (by rw [hR]; simp only [zRm]; omega) (by rw [hR]; simp only [zRm]; omega) (fun v n' σ' hv => ?_) (fun x n' σ' hv => ?_)
    rotate_left
    · exact zx_out C (fun h hh => nomatch hh) (by rw [hpo]; exact hv) (by rw [hmc]; omega) (by rw [hms]; omega)
    obtain rfl := rPost_ret hv
    exact z_aret C rfl d_R_readExpression_153 (by rw [hpo]; exact hv) (by rw [hmc]; omega) (by rw [hms]; omega)
  rw [if_neg w40] at hres
  by_cases w63 : rlk (xa 1) z p = 63
  · rw [if_pos w63] at hres
    rw [show xlk xa p z = 63 from w63]
    refine z_lookup C 154 d_R_readExpression_65 (by decide) (off := 89) (by decide) (by decide) ?_
    refine z_aload_n C 155 d_R_readExpression_154 rfl rfl ?_
    refine z_iload_n C 156 d_R_readExpression_155 rfl rfl ?_
    refine z_call C 159 (c_R_readChoice (A := A) RX (by omega) h0 w63 hres (mc := mc) (ms := ms) hmc0 hms0) w_R_readChoice ini_R d_R_readExpression_156 rfl (z_goV (As := [.int (nI (8 - d))]) C l_R_90 w_R_readChoice d_R_readExpression_156 (by omega) (hrd) rfl rfl) (Nat.le_of_ble_eq_true rfl) (by rw [hR]; simp only [zRm]; omega) (by rw [hR]; simp only [zRm]; omega) (by rw [hR]; simp only [zRm]; omega) (by rw [hR]; simp only [zRm]; omega) (fun v n' σ' hv => ?_) (fun x n' σ' hv => ?_)
    rotate_left
    · exact zx_out C (fun h hh => nomatch hh) (by rw [hpo]; exact hv) (by rw [hmc]; omega) (by rw [hms]; omega)
    obtain rfl := rPost_ret hv
    exact z_aret C rfl d_R_readExpression_159 (by rw [hpo]; exact hv) (by rw [hmc]; omega) (by rw [hms]; omega)
  rw [if_neg w63] at hres
  by_cases w64 : rlk (xa 1) z p = 64
  · rw [if_pos w64] at hres
    rw [show xlk xa p z = 64 from w64]
    refine z_lookup C 166 d_R_readExpression_65 (by decide) (off := 101) (by decide) (by decide) ?_
    refine z_aload_n C 167 d_R_readExpression_166 rfl rfl ?_
    refine z_iload_n C 168 d_R_readExpression_167 rfl rfl ?_
    refine z_call C 171 (c_R_readNewRow (A := A) RX (by omega) h0 w64 hres (mc := mc) (ms := ms) hmc0 hms0) w_R_readNewRow ini_R d_R_readExpression_168 rfl (z_goV (As := [.int (nI (8 - d))]) C l_R_96 w_R_readNewRow d_R_readExpression_168 (by omega) (hrd) rfl rfl) (Nat.le_of_ble_eq_true rfl) (by rw [hR]; simp only [zRm]; omega) (by rw [hR]; simp only [zRm]; omega) (by rw [hR]; simp only [zRm]; omega) (by rw [hR]; simp only [zRm]; omega) (fun v n' σ' hv => ?_) (fun x n' σ' hv => ?_)
    rotate_left
    · exact zx_out C (fun h hh => nomatch hh) (by rw [hpo]; exact hv) (by rw [hmc]; omega) (by rw [hms]; omega)
    obtain rfl := rPost_ret hv
    exact z_aret C rfl d_R_readExpression_171 (by rw [hpo]; exact hv) (by rw [hmc]; omega) (by rw [hms]; omega)
  rw [if_neg w64] at hres
  by_cases w37 : rlk (xa 1) z p = 37
  · rw [if_pos w37] at hres
    rw [show xlk xa p z = 37 from w37]
    refine z_lookup C 172 d_R_readExpression_65 (by decide) (off := 107) (by decide) (by decide) ?_
    refine z_aload_n C 173 d_R_readExpression_172 rfl rfl ?_
    refine z_iload_n C 174 d_R_readExpression_173 rfl rfl ?_
    refine z_call C 177 (c_R_readNewTable (A := A) RX (by omega) h0 w37 hres (mc := mc) (ms := ms) hmc0 hms0) w_R_readNewTable ini_R d_R_readExpression_174 rfl (z_goV (As := [.int (nI (8 - d))]) C l_R_99 w_R_readNewTable d_R_readExpression_174 (by omega) (hrd) rfl rfl) (Nat.le_of_ble_eq_true rfl) (by rw [hR]; simp only [zRm]; omega) (by rw [hR]; simp only [zRm]; omega) (by rw [hR]; simp only [zRm]; omega) (by rw [hR]; simp only [zRm]; omega) (fun v n' σ' hv => ?_) (fun x n' σ' hv => ?_)
    rotate_left
    · exact zx_out C (fun h hh => nomatch hh) (by rw [hpo]; exact hv) (by rw [hmc]; omega) (by rw [hms]; omega)
    obtain rfl := rPost_ret hv
    exact z_aret C rfl d_R_readExpression_177 (by rw [hpo]; exact hv) (by rw [hmc]; omega) (by rw [hms]; omega)
  rw [if_neg w37] at hres
  by_cases w38 : rlk (xa 1) z p = 38
  · rw [if_pos w38] at hres
    rw [show xlk xa p z = 38 from w38]
    refine z_lookup C 160 d_R_readExpression_65 (by decide) (off := 95) (by decide) (by decide) ?_
    refine z_aload_n C 161 d_R_readExpression_160 rfl rfl ?_
    refine z_iload_n C 162 d_R_readExpression_161 rfl rfl ?_
    refine z_call C 165 (c_R_readBinding (A := A) RX (by omega) h0 w38 hres (mc := mc) (ms := ms) hmc0 hms0) w_R_readBinding ini_R d_R_readExpression_162 rfl (z_goV (As := [.int (nI (8 - d))]) C l_R_93 w_R_readBinding d_R_readExpression_162 (by omega) (hrd) rfl rfl) (Nat.le_of_ble_eq_true rfl) (by rw [hR]; simp only [zRm]; omega) (by rw [hR]; simp only [zRm]; omega) (by rw [hR]; simp only [zRm]; omega) (by rw [hR]; simp only [zRm]; omega) (fun v n' σ' hv => ?_) (fun x n' σ' hv => ?_)
    rotate_left
    · exact zx_out C (fun h hh => nomatch hh) (by rw [hpo]; exact hv) (by rw [hmc]; omega) (by rw [hms]; omega)
    obtain rfl := rPost_ret hv
    exact z_aret C rfl d_R_readExpression_165 (by rw [hpo]; exact hv) (by rw [hmc]; omega) (by rw [hms]; omega)
  rw [if_neg w38] at hres
  by_cases w126 : rlk (xa 1) z p = 126
  · rw [if_pos w126] at hres
    rw [show xlk xa p z = 126 from w126]
    refine z_lookup C 202 d_R_readExpression_65 (by decide) (off := 137) (by decide) (by decide) ?_
    refine z_aload_n C 203 d_R_readExpression_202 rfl rfl ?_
    refine z_iload_n C 204 d_R_readExpression_203 rfl rfl ?_
    refine z_call C 207 (c_R_readGivingUp (A := A) RX (by omega) h0 w126 hres (mc := mc) (ms := ms) hmc0 hms0) w_R_readGivingUp ini_R d_R_readExpression_204 rfl (z_goV (As := [.int (nI (8 - d))]) C l_R_118 w_R_readGivingUp d_R_readExpression_204 (by omega) (hrd) rfl rfl) (Nat.le_of_ble_eq_true rfl) (by rw [hR]; simp only [zRm]; omega) (by rw [hR]; simp only [zRm]; omega) (by rw [hR]; simp only [zRm]; omega) (by rw [hR]; simp only [zRm]; omega) (fun v n' σ' hv => ?_) (fun x n' σ' hv => ?_)
    rotate_left
    · exact zx_out C (fun h hh => nomatch hh) (by rw [hpo]; exact hv) (by rw [hmc]; omega) (by rw [hms]; omega)
    obtain rfl := rPost_ret hv
    exact z_aret C rfl d_R_readExpression_207 (by rw [hpo]; exact hv) (by rw [hmc]; omega) (by rw [hms]; omega)
  rw [if_neg w126] at hres
  by_cases w35 : rlk (xa 1) z p = 35
  · rw [if_pos w35] at hres
    rw [show xlk xa p z = 35 from w35]
    refine z_lookup C 178 d_R_readExpression_65 (by decide) (off := 113) (by decide) (by decide) ?_
    have hpz : p < z := rlk_lt w35 (by decide)
    refine z_aload_n C 179 d_R_readExpression_178 rfl rfl ?_
    refine z_getsF C 182 9 (by decide) sf_102 d_R_readExpression_179 rfl ?_
    rw [rLet] at hres
    by_cases q : 97 ≤ rlk (xa 1) z (p + 1) ∧ rlk (xa 1) z (p + 1) ≤ 116
    · rw [show (rGo (p, N, A, E) (p + 1)).1 = p + 1 from rfl, if_pos q] at hres
      have hm1 : 2 * (p + 2 - p) ≤ mc := by rw [← hres] at hmc0; exact hmc0
      have hm2 : 14 * (p + 2 - p) ≤ ms := by rw [← hres] at hms0; exact hms0
      refine z_call C 185 (c_R_readSignAndVariable (k := 9) h0 hpz (mc := mc) (ms := ms) ⟨by omega, by omega⟩ (fun x => absurd q x)) w_R_readSignAndVariable ini_R d_R_readExpression_182 rfl (z_goV (As := [.ref (1000001 + 9)]) C l_R_108 w_R_readSignAndVariable d_R_readExpression_182 (by omega) (hrd) rfl rfl) (Nat.le_of_ble_eq_true rfl) (by rw [hR]; simp only [zRm]; omega) (by rw [hR]; simp only [zRm]; omega) (by rw [hR]; simp only [zRm]; omega) (by rw [hR]; simp only [zRm]; omega) (fun v n' σ' hv => ?_) (fun x n' σ' hv => ?_)
      rotate_left
      · rcases hv with ⟨-, e0, -⟩ | ⟨x, -⟩
        · cases e0
        · exact absurd q x
      obtain ⟨-, e0, rfl, rfl⟩ := hv.resolve_right (fun x => x.1 q)
      cases e0
      exact z_aret C rfl d_R_readExpression_185 (by rw [hpo]; exact (by rw [← hres]; exact ⟨rfl, rfl, rfl⟩)) (by rw [hmc]; omega) (by rw [hms]; omega)
    · rw [show (rGo (p, N, A, E) (p + 1)).1 = p + 1 from rfl, if_neg q] at hres
      have hm1 : 2 * (p + 1 - p) + 1 ≤ mc := by rw [← hres] at hmc0; exact hmc0
      have hm2 : 14 * (p + 1 - p) + 6 ≤ ms := by rw [← hres] at hms0; exact hms0
      refine z_call C 185 (c_R_readSignAndVariable (k := 9) h0 hpz (mc := mc) (ms := ms) ⟨by omega, by omega⟩ (fun _ => ⟨by omega, by omega⟩)) w_R_readSignAndVariable ini_R d_R_readExpression_182 rfl (z_goV (As := [.ref (1000001 + 9)]) C l_R_108 w_R_readSignAndVariable d_R_readExpression_182 (by omega) (hrd) rfl rfl) (Nat.le_of_ble_eq_true rfl) (by rw [hR]; simp only [zRm]; omega) (by rw [hR]; simp only [zRm]; omega) (by rw [hR]; simp only [zRm]; omega) (by rw [hR]; simp only [zRm]; omega) (fun v n' σ' hv => ?_) (fun x n' σ' hv => ?_)
      rotate_left
      · have hv := (hv.resolve_left (fun x => q x.1)).2
        exact zx_out C (fun h hh => nomatch hh) (by rw [hpo]; exact (by rw [← hres]; exact hv)) (by rw [hmc]; omega) (by rw [hms]; omega)
      · obtain ⟨-, e0, -⟩ := hv.resolve_right (fun x => by obtain ⟨-, y, τ, e0, -⟩ := x; cases e0)
        obtain ⟨q', -⟩ := hv.resolve_right (fun x => by obtain ⟨-, y, τ, e0, -⟩ := x; cases e0)
        exact absurd q' q
  rw [if_neg w35] at hres
  by_cases w94 : rlk (xa 1) z p = 94
  · rw [if_pos w94] at hres
    rw [show xlk xa p z = 94 from w94]
    refine z_lookup C 186 d_R_readExpression_65 (by decide) (off := 121) (by decide) (by decide) ?_
    have hpz : p < z := rlk_lt w94 (by decide)
    refine z_aload_n C 187 d_R_readExpression_186 rfl rfl ?_
    refine z_getsF C 190 10 (by decide) sf_112 d_R_readExpression_187 rfl ?_
    rw [rLet] at hres
    by_cases q : 97 ≤ rlk (xa 1) z (p + 1) ∧ rlk (xa 1) z (p + 1) ≤ 116
    · rw [show (rGo (p, N, A, E) (p + 1)).1 = p + 1 from rfl, if_pos q] at hres
      have hm1 : 2 * (p + 2 - p) ≤ mc := by rw [← hres] at hmc0; exact hmc0
      have hm2 : 14 * (p + 2 - p) ≤ ms := by rw [← hres] at hms0; exact hms0
      refine z_call C 193 (c_R_readSignAndVariable (k := 10) h0 hpz (mc := mc) (ms := ms) ⟨by omega, by omega⟩ (fun x => absurd q x)) w_R_readSignAndVariable ini_R d_R_readExpression_190 rfl (z_goV (As := [.ref (1000001 + 10)]) C l_R_108 w_R_readSignAndVariable d_R_readExpression_190 (by omega) (hrd) rfl rfl) (Nat.le_of_ble_eq_true rfl) (by rw [hR]; simp only [zRm]; omega) (by rw [hR]; simp only [zRm]; omega) (by rw [hR]; simp only [zRm]; omega) (by rw [hR]; simp only [zRm]; omega) (fun v n' σ' hv => ?_) (fun x n' σ' hv => ?_)
      rotate_left
      · rcases hv with ⟨-, e0, -⟩ | ⟨x, -⟩
        · cases e0
        · exact absurd q x
      obtain ⟨-, e0, rfl, rfl⟩ := hv.resolve_right (fun x => x.1 q)
      cases e0
      exact z_aret C rfl d_R_readExpression_193 (by rw [hpo]; exact (by rw [← hres]; exact ⟨rfl, rfl, rfl⟩)) (by rw [hmc]; omega) (by rw [hms]; omega)
    · rw [show (rGo (p, N, A, E) (p + 1)).1 = p + 1 from rfl, if_neg q] at hres
      have hm1 : 2 * (p + 1 - p) + 1 ≤ mc := by rw [← hres] at hmc0; exact hmc0
      have hm2 : 14 * (p + 1 - p) + 6 ≤ ms := by rw [← hres] at hms0; exact hms0
      refine z_call C 193 (c_R_readSignAndVariable (k := 10) h0 hpz (mc := mc) (ms := ms) ⟨by omega, by omega⟩ (fun _ => ⟨by omega, by omega⟩)) w_R_readSignAndVariable ini_R d_R_readExpression_190 rfl (z_goV (As := [.ref (1000001 + 10)]) C l_R_108 w_R_readSignAndVariable d_R_readExpression_190 (by omega) (hrd) rfl rfl) (Nat.le_of_ble_eq_true rfl) (by rw [hR]; simp only [zRm]; omega) (by rw [hR]; simp only [zRm]; omega) (by rw [hR]; simp only [zRm]; omega) (by rw [hR]; simp only [zRm]; omega) (fun v n' σ' hv => ?_) (fun x n' σ' hv => ?_)
      rotate_left
      · have hv := (hv.resolve_left (fun x => q x.1)).2
        exact zx_out C (fun h hh => nomatch hh) (by rw [hpo]; exact (by rw [← hres]; exact hv)) (by rw [hmc]; omega) (by rw [hms]; omega)
      · obtain ⟨-, e0, -⟩ := hv.resolve_right (fun x => by obtain ⟨-, y, τ, e0, -⟩ := x; cases e0)
        obtain ⟨q', -⟩ := hv.resolve_right (fun x => by obtain ⟨-, y, τ, e0, -⟩ := x; cases e0)
        exact absurd q' q
  rw [if_neg w94] at hres
  by_cases w36 : rlk (xa 1) z p = 36
  · rw [if_pos w36] at hres
    rw [show xlk xa p z = 36 from w36]
    refine z_lookup C 194 d_R_readExpression_65 (by decide) (off := 129) (by decide) (by decide) ?_
    have hpz : p < z := rlk_lt w36 (by decide)
    refine z_aload_n C 195 d_R_readExpression_194 rfl rfl ?_
    refine z_getsF C 198 11 (by decide) sf_115 d_R_readExpression_195 rfl ?_
    rw [rLet] at hres
    by_cases q : 97 ≤ rlk (xa 1) z (p + 1) ∧ rlk (xa 1) z (p + 1) ≤ 116
    · rw [show (rGo (p, N, A, E) (p + 1)).1 = p + 1 from rfl, if_pos q] at hres
      have hm1 : 2 * (p + 2 - p) ≤ mc := by rw [← hres] at hmc0; exact hmc0
      have hm2 : 14 * (p + 2 - p) ≤ ms := by rw [← hres] at hms0; exact hms0
      refine z_call C 201 (c_R_readSignAndVariable (k := 11) h0 hpz (mc := mc) (ms := ms) ⟨by omega, by omega⟩ (fun x => absurd q x)) w_R_readSignAndVariable ini_R d_R_readExpression_198 rfl (z_goV (As := [.ref (1000001 + 11)]) C l_R_108 w_R_readSignAndVariable d_R_readExpression_198 (by omega) (hrd) rfl rfl) (Nat.le_of_ble_eq_true rfl) (by rw [hR]; simp only [zRm]; omega) (by rw [hR]; simp only [zRm]; omega) (by rw [hR]; simp only [zRm]; omega) (by rw [hR]; simp only [zRm]; omega) (fun v n' σ' hv => ?_) (fun x n' σ' hv => ?_)
      rotate_left
      · rcases hv with ⟨-, e0, -⟩ | ⟨x, -⟩
        · cases e0
        · exact absurd q x
      obtain ⟨-, e0, rfl, rfl⟩ := hv.resolve_right (fun x => x.1 q)
      cases e0
      exact z_aret C rfl d_R_readExpression_201 (by rw [hpo]; exact (by rw [← hres]; exact ⟨rfl, rfl, rfl⟩)) (by rw [hmc]; omega) (by rw [hms]; omega)
    · rw [show (rGo (p, N, A, E) (p + 1)).1 = p + 1 from rfl, if_neg q] at hres
      have hm1 : 2 * (p + 1 - p) + 1 ≤ mc := by rw [← hres] at hmc0; exact hmc0
      have hm2 : 14 * (p + 1 - p) + 6 ≤ ms := by rw [← hres] at hms0; exact hms0
      refine z_call C 201 (c_R_readSignAndVariable (k := 11) h0 hpz (mc := mc) (ms := ms) ⟨by omega, by omega⟩ (fun _ => ⟨by omega, by omega⟩)) w_R_readSignAndVariable ini_R d_R_readExpression_198 rfl (z_goV (As := [.ref (1000001 + 11)]) C l_R_108 w_R_readSignAndVariable d_R_readExpression_198 (by omega) (hrd) rfl rfl) (Nat.le_of_ble_eq_true rfl) (by rw [hR]; simp only [zRm]; omega) (by rw [hR]; simp only [zRm]; omega) (by rw [hR]; simp only [zRm]; omega) (by rw [hR]; simp only [zRm]; omega) (fun v n' σ' hv => ?_) (fun x n' σ' hv => ?_)
      rotate_left
      · have hv := (hv.resolve_left (fun x => q x.1)).2
        exact zx_out C (fun h hh => nomatch hh) (by rw [hpo]; exact (by rw [← hres]; exact hv)) (by rw [hmc]; omega) (by rw [hms]; omega)
      · obtain ⟨-, e0, -⟩ := hv.resolve_right (fun x => by obtain ⟨-, y, τ, e0, -⟩ := x; cases e0)
        obtain ⟨q', -⟩ := hv.resolve_right (fun x => by obtain ⟨-, y, τ, e0, -⟩ := x; cases e0)
        exact absurd q' q
  rw [if_neg w36] at hres
  have hm1 : 2 * (p - p) + 1 ≤ mc := by rw [← hres] at hmc0; exact hmc0
  have hm2 : 14 * (p - p) + 6 ≤ ms := by rw [← hres] at hms0; exact hms0
  have hne : ∀ a : Int32, rlk (xa 1) z p ≠ a → ((a.toInt == (xlk xa p z).toInt) = false) := fun a ha => by
    refine beq_false_of_ne (fun e => ha ?_)
    exact (Int32.toInt_inj.mp e).symm
  refine z_lookup C 208 d_R_readExpression_65 (by decide) (off := 143) (lk_off _ _ _ ?_) (by decide) ?_
  · show (!((35 : Int32).toInt == (xlk xa p z).toInt) && (!((36 : Int32).toInt == (xlk xa p z).toInt) && (!((37 : Int32).toInt == (xlk xa p z).toInt) && (!((38 : Int32).toInt == (xlk xa p z).toInt) && (!((40 : Int32).toInt == (xlk xa p z).toInt) && (!((63 : Int32).toInt == (xlk xa p z).toInt) && (!((64 : Int32).toInt == (xlk xa p z).toInt) && (!((94 : Int32).toInt == (xlk xa p z).toInt) && (!((126 : Int32).toInt == (xlk xa p z).toInt) && true))))))))) = true
    rw [hne 35 w35, hne 36 w36, hne 37 w37, hne 38 w38, hne 40 w40, hne 63 w63, hne 64 w64, hne 94 w94, hne 126 w126]
    rfl
  refine z_aload_n C 209 d_R_readExpression_208 rfl rfl ?_
  refine z_call C 212 (c_R_refuse (by omega) (by omega) (by omega) (by omega) ((eOv_lo hrB).trans hrd0)) w_R_refuse ini_R d_R_readExpression_209 rfl (z_goV (As := []) C l_R_70 w_R_refuse d_R_readExpression_209 (by omega) (hrd) rfl rfl) (Nat.le_of_ble_eq_true rfl) (by rw [hR]; simp only [zRm]; omega) (by rw [hR]; simp only [zRm]; omega) (by rw [hR]; simp only [zRm]; omega) (by rw [hR]; simp only [zRm]; omega) (fun v n' σ' hv => ?_) (fun x n' σ' hv => ?_)
  rotate_left
  · obtain ⟨e0, rfl, rfl⟩ := hv
    cases e0
    exact zx_out C (fun h hh => nomatch hh) (by rw [hpo]; exact (by rw [← hres]; exact rIll_mk2 hrB (by omega))) (by rw [hmc]; omega) (by rw [hms]; omega)
  · cases hv.1
theorem rHyp_all : ∀ d, d ≤ 8 → rHyp G l d
  | 0, _ => rHyp_0
  | d + 1, h => rHyp_s (rHyp_all d (by omega)) (by omega)
end RDX
end
section
/-! a function's cells: F itself, its variables F + 1, their places F + 2, types F + 3 -/
def gF (F : Nat) (f : Int32) (c : Nat) (res : Int32) (bd : Option Nat) : va_E := .inr (2, [.int f, .ref (F + 1), .ref (F + 2), .ref (F + 3), .int (nI c), .int res, va_rf bd])
def gOv (F : Nat) (c : va_E) (V P Y : mS) (σ : zS) : zS := fun i => if i = F then c else if i = F + 1 then .inl (0, 4, .inl V) else if i = F + 2 then .inl (0, 4, .inl P) else if i = F + 3 then .inl (0, 4, .inl Y) else σ i
section GOV
variable {F i : Nat} {c x : va_E} {V P Y : mS} {σ : zS}
theorem gOv_0 : gOv F c V P Y σ F = c := if_pos rfl
theorem gOv_1 : gOv F c V P Y σ (F + 1) = .inl (0, 4, .inl V) := by unfold gOv; rw [if_neg (by omega), if_pos rfl]
theorem gOv_2 : gOv F c V P Y σ (F + 2) = .inl (0, 4, .inl P) := by unfold gOv; rw [if_neg (by omega), if_neg (by omega), if_pos rfl]
theorem gOv_3 : gOv F c V P Y σ (F + 3) = .inl (0, 4, .inl Y) := by unfold gOv; rw [if_neg (by omega), if_neg (by omega), if_neg (by omega), if_pos rfl]
theorem gOv_out (h : i < F ∨ F + 4 ≤ i) : gOv F c V P Y σ i = σ i := by unfold gOv; rw [if_neg (by omega), if_neg (by omega), if_neg (by omega), if_neg (by omega)]
theorem gOv_up0 : va_up (gOv F c V P Y σ) F x = gOv F x V P Y σ := by
  funext j
  by_cases q : j = F
  · subst q; rw [va_up_self, gOv_0]
  · rw [va_up_ne _ _ q]; unfold gOv; rw [if_neg q, if_neg q]
theorem gOv_up1 {W : mS} : va_up (gOv F c V P Y σ) (F + 1) (.inl (0, 4, .inl W)) = gOv F c W P Y σ := by
  funext j
  by_cases q : j = F + 1
  · subst q; rw [va_up_self, gOv_1]
  · rw [va_up_ne _ _ q]; unfold gOv; rw [if_neg q, if_neg q]
theorem gOv_up2 {W : mS} : va_up (gOv F c V P Y σ) (F + 2) (.inl (0, 4, .inl W)) = gOv F c V W Y σ := by
  funext j
  by_cases q : j = F + 2
  · subst q; rw [va_up_self, gOv_2]
  · rw [va_up_ne _ _ q]; unfold gOv; rw [if_neg q, if_neg q]
theorem gOv_up3 {W : mS} : va_up (gOv F c V P Y σ) (F + 3) (.inl (0, 4, .inl W)) = gOv F c V P W σ := by
  funext j
  by_cases q : j = F + 3
  · subst q; rw [va_up_self, gOv_3]
  · rw [va_up_ne _ _ q]; unfold gOv; rw [if_neg q, if_neg q]
theorem gOv_low (h : i < F ∨ F + 4 ≤ i) : va_up (gOv F c V P Y σ) i x = gOv F c V P Y (va_up σ i x) := by
  funext j
  by_cases q : j = i
  · subst q; rw [va_up_self, gOv_out h, va_up_self]
  · rw [va_up_ne _ _ q]; unfold gOv; rw [va_up_ne _ _ q]
theorem gOv_mk : va_up (va_up (va_up (va_up σ (F + 1) (.inl (0, 4, .inl V))) (F + 2) (.inl (0, 4, .inl P))) (F + 3) (.inl (0, 4, .inl Y))) F c = gOv F c V P Y σ := by
  funext j
  unfold gOv
  by_cases q0 : j = F
  · subst q0; rw [va_up_self, if_pos rfl]
  · rw [va_up_ne _ _ q0, if_neg q0]
    by_cases q3 : j = F + 3
    · subst q3; rw [va_up_self, if_neg (by omega), if_neg (by omega), if_pos rfl]
    · rw [va_up_ne _ _ q3]
      by_cases q2 : j = F + 2
      · subst q2; rw [va_up_self, if_neg (by omega), if_pos rfl]
      · rw [va_up_ne _ _ q2]
        by_cases q1 : j = F + 1
        · subst q1; rw [va_up_self, if_pos rfl]
        · rw [va_up_ne _ _ q1, if_neg q1, if_neg q2, if_neg q3]
theorem eOv_z {B : Nat} {E : Nat → eN} : eOv B 0 E σ = σ := by
  funext q
  unfold eOv
  by_cases h : q < B
  · rw [if_pos h]
  · rw [if_neg h, if_pos (by omega)]
end GOV
theorem d_F_init_0 : decode b_F_init 0 = .ok (.aload_n 0, 1) := by decide +kernel
theorem d_F_init_1 : decode b_F_init 1 = .ok (.invokespecial 3, 3) := by decide +kernel
theorem d_F_init_4 : decode b_F_init 4 = .ok (.aload_n 0, 1) := by decide +kernel
theorem d_F_init_5 : decode b_F_init 5 = .ok (.iconst 4, 1) := by decide +kernel
theorem d_F_init_6 : decode b_F_init 6 = .ok (.newarray .int, 2) := by decide +kernel
theorem d_F_init_8 : decode b_F_init 8 = .ok (.putfield 9, 3) := by decide +kernel
theorem d_F_init_11 : decode b_F_init 11 = .ok (.aload_n 0, 1) := by decide +kernel
theorem d_F_init_12 : decode b_F_init 12 = .ok (.iconst 4, 1) := by decide +kernel
theorem d_F_init_13 : decode b_F_init 13 = .ok (.newarray .int, 2) := by decide +kernel
theorem d_F_init_15 : decode b_F_init 15 = .ok (.putfield 15, 3) := by decide +kernel
theorem d_F_init_18 : decode b_F_init 18 = .ok (.aload_n 0, 1) := by decide +kernel
theorem d_F_init_19 : decode b_F_init 19 = .ok (.iconst 4, 1) := by decide +kernel
theorem d_F_init_20 : decode b_F_init 20 = .ok (.newarray .int, 2) := by decide +kernel
theorem d_F_init_22 : decode b_F_init 22 = .ok (.putfield 18, 3) := by decide +kernel
theorem d_F_init_25 : decode b_F_init 25 = .ok (.aload_n 0, 1) := by decide +kernel
theorem d_F_init_26 : decode b_F_init 26 = .ok (.iconst 0, 1) := by decide +kernel
theorem d_F_init_27 : decode b_F_init 27 = .ok (.putfield 21, 3) := by decide +kernel
theorem d_F_init_30 : decode b_F_init 30 = .ok (.aload_n 0, 1) := by decide +kernel
theorem d_F_init_31 : decode b_F_init 31 = .ok (.iconst 0, 1) := by decide +kernel
theorem d_F_init_32 : decode b_F_init 32 = .ok (.putfield 25, 3) := by decide +kernel
theorem d_F_init_35 : decode b_F_init 35 = .ok (.aload_n 0, 1) := by decide +kernel
theorem d_F_init_36 : decode b_F_init 36 = .ok (.aconst_null, 1) := by decide +kernel
theorem d_F_init_37 : decode b_F_init 37 = .ok (.putfield 28, 3) := by decide +kernel
theorem d_F_init_40 : decode b_F_init 40 = .ok (.aload_n 0, 1) := by decide +kernel
theorem d_F_init_41 : decode b_F_init 41 = .ok (.iload_n 1, 1) := by decide +kernel
theorem d_F_init_42 : decode b_F_init 42 = .ok (.putfield 32, 3) := by decide +kernel
theorem d_F_init_45 : decode b_F_init 45 = .ok (.return_, 1) := by decide +kernel
theorem d_F_addParameter_0 : decode b_F_addParameter 0 = .ok (.aload_n 0, 1) := by decide +kernel
theorem d_F_addParameter_1 : decode b_F_addParameter 1 = .ok (.getfield 21, 3) := by decide +kernel
theorem d_F_addParameter_4 : decode b_F_addParameter 4 = .ok (.iconst 4, 1) := by decide +kernel
theorem d_F_addParameter_5 : decode b_F_addParameter 5 = .ok (.if_icmp .ge 43, 3) := by decide +kernel
theorem d_F_addParameter_8 : decode b_F_addParameter 8 = .ok (.aload_n 0, 1) := by decide +kernel
theorem d_F_addParameter_9 : decode b_F_addParameter 9 = .ok (.getfield 9, 3) := by decide +kernel
theorem d_F_addParameter_12 : decode b_F_addParameter 12 = .ok (.aload_n 0, 1) := by decide +kernel
theorem d_F_addParameter_13 : decode b_F_addParameter 13 = .ok (.getfield 21, 3) := by decide +kernel
theorem d_F_addParameter_16 : decode b_F_addParameter 16 = .ok (.iload_n 1, 1) := by decide +kernel
theorem d_F_addParameter_17 : decode b_F_addParameter 17 = .ok (.iastore, 1) := by decide +kernel
theorem d_F_addParameter_18 : decode b_F_addParameter 18 = .ok (.aload_n 0, 1) := by decide +kernel
theorem d_F_addParameter_19 : decode b_F_addParameter 19 = .ok (.getfield 15, 3) := by decide +kernel
theorem d_F_addParameter_22 : decode b_F_addParameter 22 = .ok (.aload_n 0, 1) := by decide +kernel
theorem d_F_addParameter_23 : decode b_F_addParameter 23 = .ok (.getfield 21, 3) := by decide +kernel
theorem d_F_addParameter_26 : decode b_F_addParameter 26 = .ok (.iload_n 2, 1) := by decide +kernel
theorem d_F_addParameter_27 : decode b_F_addParameter 27 = .ok (.iastore, 1) := by decide +kernel
theorem d_F_addParameter_28 : decode b_F_addParameter 28 = .ok (.aload_n 0, 1) := by decide +kernel
theorem d_F_addParameter_29 : decode b_F_addParameter 29 = .ok (.getfield 18, 3) := by decide +kernel
theorem d_F_addParameter_32 : decode b_F_addParameter 32 = .ok (.aload_n 0, 1) := by decide +kernel
theorem d_F_addParameter_33 : decode b_F_addParameter 33 = .ok (.getfield 21, 3) := by decide +kernel
theorem d_F_addParameter_36 : decode b_F_addParameter 36 = .ok (.iload_n 3, 1) := by decide +kernel
theorem d_F_addParameter_37 : decode b_F_addParameter 37 = .ok (.iastore, 1) := by decide +kernel
theorem d_F_addParameter_38 : decode b_F_addParameter 38 = .ok (.aload_n 0, 1) := by decide +kernel
theorem d_F_addParameter_39 : decode b_F_addParameter 39 = .ok (.dup, 1) := by decide +kernel
theorem d_F_addParameter_40 : decode b_F_addParameter 40 = .ok (.getfield 21, 3) := by decide +kernel
theorem d_F_addParameter_43 : decode b_F_addParameter 43 = .ok (.iconst 1, 1) := by decide +kernel
theorem d_F_addParameter_44 : decode b_F_addParameter 44 = .ok (.iadd, 1) := by decide +kernel
theorem d_F_addParameter_45 : decode b_F_addParameter 45 = .ok (.putfield 21, 3) := by decide +kernel
theorem d_F_addParameter_48 : decode b_F_addParameter 48 = .ok (.return_, 1) := by decide +kernel
theorem d_R_readParameter_0 : decode b_R_readParameter 0 = .ok (.aload_n 0, 1) := by decide +kernel
theorem d_R_readParameter_1 : decode b_R_readParameter 1 = .ok (.getfield 9, 3) := by decide +kernel
theorem d_R_readParameter_4 : decode b_R_readParameter 4 = .ok (.istore_n 2, 1) := by decide +kernel
theorem d_R_readParameter_5 : decode b_R_readParameter 5 = .ok (.aload_n 0, 1) := by decide +kernel
theorem d_R_readParameter_6 : decode b_R_readParameter 6 = .ok (.bipush 97, 2) := by decide +kernel
theorem d_R_readParameter_8 : decode b_R_readParameter 8 = .ok (.bipush 116, 2) := by decide +kernel
theorem d_R_readParameter_10 : decode b_R_readParameter 10 = .ok (.invokevirtual 28, 3) := by decide +kernel
theorem d_R_readParameter_13 : decode b_R_readParameter 13 = .ok (.istore_n 3, 1) := by decide +kernel
theorem d_R_readParameter_14 : decode b_R_readParameter 14 = .ok (.aload_n 1, 1) := by decide +kernel
theorem d_R_readParameter_15 : decode b_R_readParameter 15 = .ok (.iload_n 3, 1) := by decide +kernel
theorem d_R_readParameter_16 : decode b_R_readParameter 16 = .ok (.iload_n 2, 1) := by decide +kernel
theorem d_R_readParameter_17 : decode b_R_readParameter 17 = .ok (.aload_n 0, 1) := by decide +kernel
theorem d_R_readParameter_18 : decode b_R_readParameter 18 = .ok (.bipush 48, 2) := by decide +kernel
theorem d_R_readParameter_20 : decode b_R_readParameter 20 = .ok (.bipush 50, 2) := by decide +kernel
theorem d_R_readParameter_22 : decode b_R_readParameter 22 = .ok (.invokevirtual 28, 3) := by decide +kernel
theorem d_R_readParameter_25 : decode b_R_readParameter 25 = .ok (.invokevirtual 66, 3) := by decide +kernel
theorem d_R_readParameter_28 : decode b_R_readParameter 28 = .ok (.return_, 1) := by decide +kernel
section FUN
variable {G : zG} {l : Launch} {r p z F : Nat} {σ : zS} {xs : mS} {xr : Int64} {xa : mA} {xl : mL} {xf : xF} {E : Nat → eN} {A : mA} {V P Y : mS}
theorem c_F_init (hF2 : F + 4 < 1000000) (f : Int32) : MetZ G l y_F_init b_F_init 2 none [] 1 3 12 [.ref F, .int f] (F + 1) (va_up σ F fnC0) (fun o n' σ' => o = .returned none ∧ n' = F + 4 ∧ σ' = gOv F (gF F f 0 0 none) (fun _ => 0) (fun _ => 0) (fun _ => 0) σ) := by
  refine MetZ.of (by decide) (Nat.le_of_ble_eq_true rfl) (fun K hK hR hpo hmc hms C => ?_)
  unfold fnC0
  refine z_aload_n C 1 d_F_init_0 rfl rfl ?_
  refine z_objinit C 4 d_F_init_1 rfl o_F_3 i_obj w_obj (by rw [hR]; decide) (by rw [hR]; decide) ?_
  refine z_aload_n C 5 d_F_init_4 rfl rfl ?_
  refine z_iconst C 6 d_F_init_5 rfl 4 (by decide) ?_
  refine z_newa C 8 0 4 (a := (4, .inl (fun _ => 0))) rfl rfl aw_int (fun _ => rfl) (fun h => h) d_F_init_6 rfl (by decide) (by decide) (by decide) (by omega) (by rw [hR]; simp only [zRm]; omega) (by rw [hR]; simp only [zRm]; omega) ?_
  rw [va_comm _ _ _ (by omega)]
  refine z_putFS C 11 q_F_9 rfl d_F_init_8 rfl (by omega) (z_ltb rfl) rfl rfl ?_
  refine z_aload_n C 12 d_F_init_11 rfl rfl ?_
  refine z_iconst C 13 d_F_init_12 rfl 4 (by decide) ?_
  refine z_newa C 15 0 4 (a := (4, .inl (fun _ => 0))) rfl rfl aw_int (fun _ => rfl) (fun h => h) d_F_init_13 rfl (by decide) (by decide) (by decide) (by omega) (by rw [hR]; simp only [zRm]; omega) (by rw [hR]; simp only [zRm]; omega) ?_
  rw [va_comm _ _ _ (by omega)]
  refine z_putFS C 18 q_F_15 rfl d_F_init_15 rfl (by omega) (z_ltb rfl) rfl rfl ?_
  refine z_aload_n C 19 d_F_init_18 rfl rfl ?_
  refine z_iconst C 20 d_F_init_19 rfl 4 (by decide) ?_
  refine z_newa C 22 0 4 (a := (4, .inl (fun _ => 0))) rfl rfl aw_int (fun _ => rfl) (fun h => h) d_F_init_20 rfl (by decide) (by decide) (by decide) (by omega) (by rw [hR]; simp only [zRm]; omega) (by rw [hR]; simp only [zRm]; omega) ?_
  rw [va_comm _ _ _ (by omega)]
  refine z_putFS C 25 q_F_18 rfl d_F_init_22 rfl (by omega) (z_ltb rfl) rfl rfl ?_
  refine z_aload_n C 26 d_F_init_25 rfl rfl ?_
  refine z_iconst C 27 d_F_init_26 rfl 0 (by decide) ?_
  refine z_putS C 30 p_F_21 d_F_init_27 rfl (by omega) (z_ltb rfl) rfl rfl ?_
  refine z_aload_n C 31 d_F_init_30 rfl rfl ?_
  refine z_iconst C 32 d_F_init_31 rfl 0 (by decide) ?_
  refine z_putS C 35 p_F_25 d_F_init_32 rfl (by omega) (z_ltb rfl) rfl rfl ?_
  refine z_aload_n C 36 d_F_init_35 rfl rfl ?_
  refine z_null C 37 d_F_init_36 rfl ?_
  refine z_putS C 40 p_F_28 d_F_init_37 rfl (by omega) (z_ltb rfl) rfl rfl ?_
  refine z_aload_n C 41 d_F_init_40 rfl rfl ?_
  refine z_iload_n C 42 d_F_init_41 rfl rfl ?_
  refine z_putFS C 45 q_F_32 rfl d_F_init_42 rfl (by omega) (z_ltb rfl) rfl rfl ?_
  exact z_vret C rfl d_F_init_45 (by rw [hpo]; exact ⟨rfl, rfl, gOv_mk⟩) (by rw [hmc]; omega) (by rw [hms]; omega)
theorem c_F_addParameter {n k : Nat} {f : Int32} (hF : 85 ≤ F) (hn : F + 4 ≤ n) (hk : k < 4) (v w t : Int32) : MetZ G l y_F_addParameter b_F_addParameter 4 none [] 0 0 0 [.ref F, .int v, .int w, .int t] n (xOv xs xr xa xl xf (gOv F (gF F f k 0 none) V P Y σ)) (fun o n' σ' => o = .returned none ∧ n' = n ∧ σ' = xOv xs xr xa xl xf (gOv F (gF F f (k + 1) 0 none) (upd V k v) (upd P k w) (upd Y k t) σ)) := by
  have h0 : ∀ V P Y, xOv xs xr xa xl xf (gOv F (gF F f k 0 none) V P Y σ) F = gF F f k 0 none := fun V P Y => (xOv_at hF).trans gOv_0
  refine MetZ.of (by decide) (Nat.le_of_ble_eq_true rfl) (fun K hK hR hpo hmc hms C => ?_)
  refine z_aload_n C 1 d_F_addParameter_0 rfl rfl ?_
  refine z_get C 4 f_F_21 d_F_addParameter_1 rfl (by omega) (h0 _ _ _) rfl ?_
  refine z_iconst C 5 d_F_addParameter_4 rfl 4 (by decide) ?_
  refine z_icmp_ge C 8 48 d_F_addParameter_5 rfl (by decide) (fun h9 => absurd h9 (fun q => absurd ((nI_leI (a := 4) (by omega) (by omega)).mp q) (by omega))) (fun _ => ?_)
  refine z_aload_n C 9 d_F_addParameter_8 rfl rfl ?_
  refine z_get C 12 f_F_9 d_F_addParameter_9 rfl (by omega) (h0 _ _ _) rfl ?_
  refine z_aload_n C 13 d_F_addParameter_12 rfl rfl ?_
  refine z_get C 16 f_F_21 d_F_addParameter_13 rfl (by omega) (h0 _ _ _) rfl ?_
  refine z_iload_n C 17 d_F_addParameter_16 rfl rfl ?_
  refine z_iast C 18 k d_F_addParameter_17 rfl (by omega) ((xOv_at (by omega)).trans gOv_1) rfl hk (by decide) ?_
  rw [xOv_up (by omega), gOv_up1]
  refine z_aload_n C 19 d_F_addParameter_18 rfl rfl ?_
  refine z_get C 22 f_F_15 d_F_addParameter_19 rfl (by omega) (h0 _ _ _) rfl ?_
  refine z_aload_n C 23 d_F_addParameter_22 rfl rfl ?_
  refine z_get C 26 f_F_21 d_F_addParameter_23 rfl (by omega) (h0 _ _ _) rfl ?_
  refine z_iload_n C 27 d_F_addParameter_26 rfl rfl ?_
  refine z_iast C 28 k d_F_addParameter_27 rfl (by omega) ((xOv_at (by omega)).trans gOv_2) rfl hk (by decide) ?_
  rw [xOv_up (by omega), gOv_up2]
  refine z_aload_n C 29 d_F_addParameter_28 rfl rfl ?_
  refine z_get C 32 f_F_18 d_F_addParameter_29 rfl (by omega) (h0 _ _ _) rfl ?_
  refine z_aload_n C 33 d_F_addParameter_32 rfl rfl ?_
  refine z_get C 36 f_F_21 d_F_addParameter_33 rfl (by omega) (h0 _ _ _) rfl ?_
  refine z_iload_n C 37 d_F_addParameter_36 rfl rfl ?_
  refine z_iast C 38 k d_F_addParameter_37 rfl (by omega) ((xOv_at (by omega)).trans gOv_3) rfl hk (by decide) ?_
  rw [xOv_up (by omega), gOv_up3]
  refine z_aload_n C 39 d_F_addParameter_38 rfl rfl ?_
  refine z_dup C 40 d_F_addParameter_39 rfl rfl ?_
  refine z_get C 43 f_F_21 d_F_addParameter_40 rfl (by omega) (h0 _ _ _) rfl ?_
  refine z_iconst C 44 d_F_addParameter_43 rfl 1 (by decide) ?_
  refine z_iadd C 45 d_F_addParameter_44 rfl ?_
  refine z_put C 48 p_F_21 d_F_addParameter_45 rfl (by omega) (h0 _ _ _) (z_ltb rfl) rfl rfl ?_
  rw [nI_1, xOv_up (by omega)]
  show Z G K _ (xOv _ _ _ _ _ (va_up _ _ (gF F f (k + 1) 0 none))) _ _ _ _ _
  rw [gOv_up0]
  exact z_vret C rfl d_F_addParameter_48 (by rw [hpo]; exact ⟨rfl, rfl, rfl⟩) (by rw [hmc]; omega) (by rw [hms]; omega)
def gIll (r : Nat) (σ : zS) (xs : mS) (xr : Int64) (xa : mA) (xl : mL) (xf : xF) (q : Nat) : zPost := fun o n' σ' => ∃ (x : Nat) (τ : zS), o = .threw x ∧ n' = x + 1 ∧ r < x ∧ x ≤ r + 310 ∧ σ' = xOv (upd xs 4 (nI q)) xr xa xl xf τ ∧ τ x = .inr (9, []) ∧ ∀ k, k < r → τ k = σ k
def gPre (r p z : Nat) (σ : zS) (xa : mA) : Prop := 114 ≤ r ∧ r < 800000 ∧ σ r = rdC p z ∧ z ≤ 150 ∧ p ≤ z ∧ ∀ i, i < 150 → narrow .char (.int (xa 1 i)) = .int (xa 1 i)
theorem gIll_mk {c x : va_E} {q : Nat} : gIll r σ xs xr xa xl xf q (.threw (r + 5)) (r + 5 + 1) (xOv (upd xs 4 (nI q)) xr xa xl xf (va_up (gOv (r + 1) c V P Y (va_up σ r x)) (r + 5) (.inr (9, [])))) := by
  refine ⟨r + 5, _, rfl, rfl, by omega, by omega, rfl, va_up_self _ _ _, fun k hk => ?_⟩
  rw [va_up_ne _ _ (by omega), gOv_out (by omega), va_up_ne _ _ (by omega)]
theorem c_R_readParameter {k : Nat} {f : Int32} (h : gPre r p z (va_up σ r (rdC p z)) xa) (hk : k < 4) {mc ms : Nat} (hm : ¬ ((97 ≤ rlk (xa 1) z p ∧ rlk (xa 1) z p ≤ 116) ∧ 48 ≤ rlk (xa 1) z (p + 1) ∧ rlk (xa 1) z (p + 1) ≤ 50) → 1 ≤ mc ∧ 6 ≤ ms) :
    MetZ G l y_R_readParameter b_R_readParameter 4 none [] 8 mc ms [.ref r, .ref (r + 1)] (r + 5) (xOv xs xr xa xl xf (gOv (r + 1) (gF (r + 1) f k 0 none) V P Y (va_up σ r (rdC p z))))
    (fun o n' σ' => if 97 ≤ rlk (xa 1) z p ∧ rlk (xa 1) z p ≤ 116 then (if 48 ≤ rlk (xa 1) z (p + 1) ∧ rlk (xa 1) z (p + 1) ≤ 50 then o = .returned none ∧ n' = r + 5 ∧ σ' = xOv xs xr xa xl xf (gOv (r + 1) (gF (r + 1) f (k + 1) 0 none) (upd V k (rlk (xa 1) z p - 97)) (upd P k (nI p)) (upd Y k (rlk (xa 1) z (p + 1) - 48)) (va_up σ r (rdC (p + 2) z))) else gIll r σ xs xr xa xl xf (p + 1) o n' σ') else gIll r σ xs xr xa xl xf p o n' σ') := by
  obtain ⟨hr, hr2, hrd0, hz, hp, hc⟩ := h
  have hrr : ∀ q c V P Y, gOv (r + 1) c V P Y (va_up σ r (rdC q z)) r = rdC q z := fun q c V P Y => (gOv_out (by omega)).trans (va_up_self _ _ _)
  have hrd : ∀ q c V P Y, xOv xs xr xa xl xf (gOv (r + 1) c V P Y (va_up σ r (rdC q z))) r = .inr (4, [.ref 1, .int (nI z), .ref 2, .int (nI q)]) := fun q c V P Y => (xOv_at (by omega)).trans (hrr q c V P Y)
  refine MetZ.of (by decide) (Nat.le_of_ble_eq_true rfl) (fun K hK hR hpo hmc hms C => ?_)
  refine z_aload_n C 1 d_R_readParameter_0 rfl rfl ?_
  refine z_get C 4 f_R_9 d_R_readParameter_1 rfl (by omega) (hrd _ _ _ _ _) rfl ?_
  refine z_istore_n C 5 d_R_readParameter_4 rfl (by decide) ?_
  refine z_aload_n C 6 d_R_readParameter_5 rfl rfl ?_
  refine z_bipush C 8 d_R_readParameter_6 rfl 97 (by decide) ?_
  refine z_bipush C 10 d_R_readParameter_8 rfl 116 (by decide) ?_
  by_cases q1 : 97 ≤ rlk (xa 1) z p ∧ rlk (xa 1) z p ≤ 116
  · simp only [if_pos q1] at hpo
    have hpz : p < z := rlk_pos q1.1 (by decide)
    refine z_call C 13 (c_R_takeOneOf (p := p) (z := z) (by omega) (by omega) (by omega) (by omega) (hrr _ _ _ _ _) hz (by omega) hc 97 116 (mc := 0) (ms := 0) (fun w => absurd q1 w)) w_R_takeOneOf ini_R d_R_readParameter_10 rfl (z_goV (As := [.int 97, .int 116]) C l_R_28 w_R_takeOneOf d_R_readParameter_10 (by omega) ((hrd _ _ _ _ _)) rfl rfl) (Nat.le_of_ble_eq_true rfl) (by rw [hR]; simp only [zRm]; omega) (by rw [hR]; simp only [zRm]; omega) (by rw [hR]; simp only [zRm]; omega) (by rw [hR]; simp only [zRm]; omega) (fun v n' σ' hv => ?_) (fun x n' σ' hv => ?_)
    rotate_left
    · rcases hv with ⟨-, e0, -⟩ | ⟨w, -⟩
      · cases e0
      · exact absurd q1 w
    obtain ⟨-, e0, rfl, rfl⟩ := hv.resolve_right (fun w => w.1 q1)
    cases e0
    rw [gOv_low (by omega), va_up2]
    refine z_istore_n C 14 d_R_readParameter_13 rfl (by decide) ?_
    refine z_aload_n C 15 d_R_readParameter_14 rfl rfl ?_
    refine z_iload_n C 16 d_R_readParameter_15 rfl rfl ?_
    refine z_iload_n C 17 d_R_readParameter_16 rfl rfl ?_
    refine z_aload_n C 18 d_R_readParameter_17 rfl rfl ?_
    refine z_bipush C 20 d_R_readParameter_18 rfl 48 (by decide) ?_
    refine z_bipush C 22 d_R_readParameter_20 rfl 50 (by decide) ?_
    by_cases q2 : 48 ≤ rlk (xa 1) z (p + 1) ∧ rlk (xa 1) z (p + 1) ≤ 50
    · simp only [if_pos q2] at hpo
      refine z_call C 25 (c_R_takeOneOf (p := p + 1) (z := z) (by omega) (by omega) (by omega) (by omega) (hrr _ _ _ _ _) hz (by omega) hc 48 50 (mc := 0) (ms := 0) (fun w => absurd q2 w)) w_R_takeOneOf ini_R d_R_readParameter_22 rfl (z_goV (As := [.int 48, .int 50]) C l_R_28 w_R_takeOneOf d_R_readParameter_22 (by omega) ((hrd _ _ _ _ _)) rfl rfl) (Nat.le_of_ble_eq_true rfl) (by rw [hR]; simp only [zRm]; omega) (by rw [hR]; simp only [zRm]; omega) (by rw [hR]; simp only [zRm]; omega) (by rw [hR]; simp only [zRm]; omega) (fun v n' σ' hv => ?_) (fun x n' σ' hv => ?_)
      rotate_left
      · rcases hv with ⟨-, e0, -⟩ | ⟨w, -⟩
        · cases e0
        · exact absurd q2 w
      obtain ⟨-, e0, rfl, rfl⟩ := hv.resolve_right (fun w => w.1 q2)
      cases e0
      rw [gOv_low (by omega), va_up2]
      refine z_call C 28 (c_F_addParameter (k := k) (by omega) (by omega) hk _ _ _) w_F_addParameter ini_F d_R_readParameter_25 rfl (z_goV (As := [.int (xlk xa p z - 97), .int (nI p), .int (xlk xa (p + 1) z - 48)]) C l_R_66 w_F_addParameter d_R_readParameter_25 (by omega) (((xOv_at (by omega)).trans gOv_0)) rfl rfl) (Nat.le_of_ble_eq_true rfl) (by rw [hR]; simp only [zRm]; omega) (by rw [hR]; simp only [zRm]; omega) (by rw [hR]; simp only [zRm]; omega) (by rw [hR]; simp only [zRm]; omega) (fun v n' σ' hv => ?_) (fun x n' σ' hv => ?_)
      rotate_left
      · cases hv.1
      obtain ⟨e0, rfl, rfl⟩ := hv
      cases e0
      exact z_vret C rfl d_R_readParameter_28 (by rw [hpo]; exact ⟨rfl, rfl, rfl⟩) (by rw [hmc]; omega) (by rw [hms]; omega)
    · simp only [if_neg q2] at hpo
      have hb := hm (fun w => q2 w.2)
      refine z_call C 25 (c_R_takeOneOf (p := p + 1) (z := z) (by omega) (by omega) (by omega) (by omega) (hrr _ _ _ _ _) hz (by omega) hc 48 50 (mc := 1) (ms := 6) (fun w => ⟨by omega, by omega⟩)) w_R_takeOneOf ini_R d_R_readParameter_22 rfl (z_goV (As := [.int 48, .int 50]) C l_R_28 w_R_takeOneOf d_R_readParameter_22 (by omega) ((hrd _ _ _ _ _)) rfl rfl) (Nat.le_of_ble_eq_true rfl) (by rw [hR]; simp only [zRm]; omega) (by rw [hR]; simp only [zRm]; omega) (by rw [hR]; simp only [zRm]; omega) (by rw [hR]; simp only [zRm]; omega) (fun v n' σ' hv => ?_) (fun x n' σ' hv => ?_)
      rotate_left
      · obtain ⟨-, e0, rfl, rfl⟩ := hv.resolve_left (fun w => q2 w.1)
        cases e0
        exact zx_out C (fun h hh => nomatch hh) (by rw [hpo]; exact gIll_mk) (by rw [hmc]; omega) (by rw [hms]; omega)
      · rcases hv with ⟨w, -⟩ | ⟨-, e0, -⟩
        · exact absurd w q2
        · cases e0
  · simp only [if_neg q1] at hpo
    have hb := hm (fun w => q1 w.1)
    refine z_call C 13 (c_R_takeOneOf (p := p) (z := z) (by omega) (by omega) (by omega) (by omega) (hrr _ _ _ _ _) hz (by omega) hc 97 116 (mc := 1) (ms := 6) (fun w => ⟨by omega, by omega⟩)) w_R_takeOneOf ini_R d_R_readParameter_10 rfl (z_goV (As := [.int 97, .int 116]) C l_R_28 w_R_takeOneOf d_R_readParameter_10 (by omega) ((hrd _ _ _ _ _)) rfl rfl) (Nat.le_of_ble_eq_true rfl) (by rw [hR]; simp only [zRm]; omega) (by rw [hR]; simp only [zRm]; omega) (by rw [hR]; simp only [zRm]; omega) (by rw [hR]; simp only [zRm]; omega) (fun v n' σ' hv => ?_) (fun x n' σ' hv => ?_)
    rotate_left
    · obtain ⟨-, e0, rfl, rfl⟩ := hv.resolve_left (fun w => q1 w.1)
      cases e0
      exact zx_out C (fun h hh => nomatch hh) (by rw [hpo]; exact gIll_mk) (by rw [hmc]; omega) (by rw [hms]; omega)
    · rcases hv with ⟨w, -⟩ | ⟨-, e0, -⟩
      · exact absurd w q1
      · cases e0
end FUN
end
