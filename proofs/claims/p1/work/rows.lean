section
-- ===== PART A: goes FIRST, ahead of the names: the tables' words, and 'selects' of the private methods out of them =====
/-- a private method of a class that the tables say can be made, by its rows of tables_1 -/
def lw_okq (q : MethodName × Nat) : Prop := (q.1.cls ≠ "java/lang/invoke/MethodHandle" ∧ q.1.cls ≠ "java/lang/invoke/VarHandle") ∧ Cond.instantiable q.1.cls q.2 ∈ tables_1 ∧ Cond.privateMethod q.1 ∈ tables_1 ∧ Cond.instanceMethod q.1 ∈ tables_1
theorem lw_p0 : lw_okq (⟨"TemplateForge$Looker", "comes", "(LTemplateForge$Program;II)Z"⟩, 4) := ⟨⟨by decide +kernel, by decide +kernel⟩, List.mem_of_getElem? (i := 78) (by decide +kernel), List.mem_of_getElem? (i := 365) (by decide +kernel), List.mem_of_getElem? (i := 366) (by decide +kernel)⟩
theorem lw_p1 : lw_okq (⟨"TemplateForge$Looker", "leastWaiting", "()I"⟩, 4) := ⟨⟨by decide +kernel, by decide +kernel⟩, List.mem_of_getElem? (i := 78) (by decide +kernel), List.mem_of_getElem? (i := 385) (by decide +kernel), List.mem_of_getElem? (i := 386) (by decide +kernel)⟩
theorem lw_p2 : lw_okq (⟨"TemplateForge$Looker", "faultAt", "(LTemplateForge$Program;I)I"⟩, 4) := ⟨⟨by decide +kernel, by decide +kernel⟩, List.mem_of_getElem? (i := 78) (by decide +kernel), List.mem_of_getElem? (i := 389) (by decide +kernel), List.mem_of_getElem? (i := 390) (by decide +kernel)⟩
theorem lw_p3 : lw_okq (⟨"TemplateForge$Looker", "isRightX", "(LTemplateForge$Program;II)Z"⟩, 4) := ⟨⟨by decide +kernel, by decide +kernel⟩, List.mem_of_getElem? (i := 78) (by decide +kernel), List.mem_of_getElem? (i := 408) (by decide +kernel), List.mem_of_getElem? (i := 409) (by decide +kernel)⟩
theorem lw_p4 : lw_okq (⟨"TemplateForge$Looker", "greatestDepth", "(LTemplateForge$Program;)I"⟩, 4) := ⟨⟨by decide +kernel, by decide +kernel⟩, List.mem_of_getElem? (i := 78) (by decide +kernel), List.mem_of_getElem? (i := 416) (by decide +kernel), List.mem_of_getElem? (i := 417) (by decide +kernel)⟩
theorem lw_p5 : lw_okq (⟨"TemplateForge$Looker", "plainCode", "(LTemplateForge$Program;)LTemplateForge$Code;"⟩, 4) := ⟨⟨by decide +kernel, by decide +kernel⟩, List.mem_of_getElem? (i := 78) (by decide +kernel), List.mem_of_getElem? (i := 423) (by decide +kernel), List.mem_of_getElem? (i := 424) (by decide +kernel)⟩
theorem lw_p6 : lw_okq (⟨"TemplateForge$Draft", "addReckoning", "(IIII)V"⟩, 3) := ⟨⟨by decide +kernel, by decide +kernel⟩, List.mem_of_getElem? (i := 26) (by decide +kernel), List.mem_of_getElem? (i := 447) (by decide +kernel), List.mem_of_getElem? (i := 448) (by decide +kernel)⟩
theorem lw_p7 : lw_okq (⟨"TemplateForge$Machine", "turn", "()V"⟩, 10) := ⟨⟨by decide +kernel, by decide +kernel⟩, List.mem_of_getElem? (i := 99) (by decide +kernel), List.mem_of_getElem? (i := 569) (by decide +kernel), List.mem_of_getElem? (i := 570) (by decide +kernel)⟩
theorem lw_p8 : lw_okq (⟨"TemplateForge$Machine", "latestFrame", "()LTemplateForge$Frame;"⟩, 10) := ⟨⟨by decide +kernel, by decide +kernel⟩, List.mem_of_getElem? (i := 99) (by decide +kernel), List.mem_of_getElem? (i := 573) (by decide +kernel), List.mem_of_getElem? (i := 574) (by decide +kernel)⟩
theorem lw_p9 : lw_okq (⟨"TemplateForge$Machine", "goTo", "(LTemplateForge$Frame;II)V"⟩, 10) := ⟨⟨by decide +kernel, by decide +kernel⟩, List.mem_of_getElem? (i := 99) (by decide +kernel), List.mem_of_getElem? (i := 589) (by decide +kernel), List.mem_of_getElem? (i := 590) (by decide +kernel)⟩
theorem lw_p10 : lw_okq (⟨"TemplateForge$Machine", "stepOn", "()V"⟩, 10) := ⟨⟨by decide +kernel, by decide +kernel⟩, List.mem_of_getElem? (i := 99) (by decide +kernel), List.mem_of_getElem? (i := 593) (by decide +kernel), List.mem_of_getElem? (i := 594) (by decide +kernel)⟩
theorem lw_p11 : lw_okq (⟨"TemplateForge$Machine", "call", "(LTemplateForge$Frame;III)V"⟩, 10) := ⟨⟨by decide +kernel, by decide +kernel⟩, List.mem_of_getElem? (i := 99) (by decide +kernel), List.mem_of_getElem? (i := 602) (by decide +kernel), List.mem_of_getElem? (i := 603) (by decide +kernel)⟩
theorem lw_p12 : lw_okq (⟨"TemplateForge$Machine", "endByTrap", "(LTemplateForge$Frame;II)V"⟩, 10) := ⟨⟨by decide +kernel, by decide +kernel⟩, List.mem_of_getElem? (i := 99) (by decide +kernel), List.mem_of_getElem? (i := 606) (by decide +kernel), List.mem_of_getElem? (i := 607) (by decide +kernel)⟩
theorem lw_p13 : lw_okq (⟨"TemplateForge$Machine", "giveBack", "(LTemplateForge$Frame;I)V"⟩, 10) := ⟨⟨by decide +kernel, by decide +kernel⟩, List.mem_of_getElem? (i := 99) (by decide +kernel), List.mem_of_getElem? (i := 611) (by decide +kernel), List.mem_of_getElem? (i := 612) (by decide +kernel)⟩
theorem lw_p14 : lw_okq (⟨"TemplateForge$Machine", "guard", "(LTemplateForge$Frame;IZI)V"⟩, 10) := ⟨⟨by decide +kernel, by decide +kernel⟩, List.mem_of_getElem? (i := 99) (by decide +kernel), List.mem_of_getElem? (i := 615) (by decide +kernel), List.mem_of_getElem? (i := 616) (by decide +kernel)⟩
theorem lw_p15 : lw_okq (⟨"TemplateForge$Machine", "turnThatMayTrap", "(LTemplateForge$Frame;IIIII)V"⟩, 10) := ⟨⟨by decide +kernel, by decide +kernel⟩, List.mem_of_getElem? (i := 99) (by decide +kernel), List.mem_of_getElem? (i := 629) (by decide +kernel), List.mem_of_getElem? (i := 630) (by decide +kernel)⟩
def lw_privs_1 : List (MethodName × Nat) := [(⟨"TemplateForge$Looker", "comes", "(LTemplateForge$Program;II)Z"⟩, 4), (⟨"TemplateForge$Looker", "leastWaiting", "()I"⟩, 4), (⟨"TemplateForge$Looker", "faultAt", "(LTemplateForge$Program;I)I"⟩, 4), (⟨"TemplateForge$Looker", "isRightX", "(LTemplateForge$Program;II)Z"⟩, 4), (⟨"TemplateForge$Looker", "greatestDepth", "(LTemplateForge$Program;)I"⟩, 4), (⟨"TemplateForge$Looker", "plainCode", "(LTemplateForge$Program;)LTemplateForge$Code;"⟩, 4), (⟨"TemplateForge$Draft", "addReckoning", "(IIII)V"⟩, 3), (⟨"TemplateForge$Machine", "turn", "()V"⟩, 10), (⟨"TemplateForge$Machine", "latestFrame", "()LTemplateForge$Frame;"⟩, 10), (⟨"TemplateForge$Machine", "goTo", "(LTemplateForge$Frame;II)V"⟩, 10), (⟨"TemplateForge$Machine", "stepOn", "()V"⟩, 10), (⟨"TemplateForge$Machine", "call", "(LTemplateForge$Frame;III)V"⟩, 10), (⟨"TemplateForge$Machine", "endByTrap", "(LTemplateForge$Frame;II)V"⟩, 10), (⟨"TemplateForge$Machine", "giveBack", "(LTemplateForge$Frame;I)V"⟩, 10), (⟨"TemplateForge$Machine", "guard", "(LTemplateForge$Frame;IZI)V"⟩, 10), (⟨"TemplateForge$Machine", "turnThatMayTrap", "(LTemplateForge$Frame;IIIII)V"⟩, 10)]
theorem lw_r1 : ∀ q ∈ lw_privs_1, lw_okq q := List.forall_mem_cons.mpr ⟨lw_p0, List.forall_mem_cons.mpr ⟨lw_p1, List.forall_mem_cons.mpr ⟨lw_p2, List.forall_mem_cons.mpr ⟨lw_p3, List.forall_mem_cons.mpr ⟨lw_p4, List.forall_mem_cons.mpr ⟨lw_p5, List.forall_mem_cons.mpr ⟨lw_p6, List.forall_mem_cons.mpr ⟨lw_p7, List.forall_mem_cons.mpr ⟨lw_p8, List.forall_mem_cons.mpr ⟨lw_p9, List.forall_mem_cons.mpr ⟨lw_p10, List.forall_mem_cons.mpr ⟨lw_p11, List.forall_mem_cons.mpr ⟨lw_p12, List.forall_mem_cons.mpr ⟨lw_p13, List.forall_mem_cons.mpr ⟨lw_p14, List.forall_mem_cons.mpr ⟨lw_p15, fun _ h => absurd h List.not_mem_nil⟩⟩⟩⟩⟩⟩⟩⟩⟩⟩⟩⟩⟩⟩⟩⟩
theorem lw_p16 : lw_okq (⟨"TemplateForge$Machine", "newRow", "(LTemplateForge$Frame;III)V"⟩, 10) := ⟨⟨by decide +kernel, by decide +kernel⟩, List.mem_of_getElem? (i := 99) (by decide +kernel), List.mem_of_getElem? (i := 633) (by decide +kernel), List.mem_of_getElem? (i := 634) (by decide +kernel)⟩
theorem lw_p17 : lw_okq (⟨"TemplateForge$Machine", "isThere", "(LTemplateForge$Frame;III)Z"⟩, 10) := ⟨⟨by decide +kernel, by decide +kernel⟩, List.mem_of_getElem? (i := 99) (by decide +kernel), List.mem_of_getElem? (i := 638) (by decide +kernel), List.mem_of_getElem? (i := 639) (by decide +kernel)⟩
theorem lw_p18 : lw_okq (⟨"TemplateForge$Machine", "begin", "()V"⟩, 10) := ⟨⟨by decide +kernel, by decide +kernel⟩, List.mem_of_getElem? (i := 99) (by decide +kernel), List.mem_of_getElem? (i := 651) (by decide +kernel), List.mem_of_getElem? (i := 652) (by decide +kernel)⟩
theorem lw_p19 : lw_okq (⟨"TemplateForge$Machine", "choosePath", "()V"⟩, 10) := ⟨⟨by decide +kernel, by decide +kernel⟩, List.mem_of_getElem? (i := 99) (by decide +kernel), List.mem_of_getElem? (i := 661) (by decide +kernel), List.mem_of_getElem? (i := 662) (by decide +kernel)⟩
theorem lw_p20 : lw_okq (⟨"TemplateForge$Smith", "findTargets", "(LTemplateForge$Program;)V"⟩, 5) := ⟨⟨by decide +kernel, by decide +kernel⟩, List.mem_of_getElem? (i := 146) (by decide +kernel), List.mem_of_getElem? (i := 674) (by decide +kernel), List.mem_of_getElem? (i := 675) (by decide +kernel)⟩
theorem lw_p21 : lw_okq (⟨"TemplateForge$Smith", "assume", "(LTemplateForge$Program;)V"⟩, 5) := ⟨⟨by decide +kernel, by decide +kernel⟩, List.mem_of_getElem? (i := 146) (by decide +kernel), List.mem_of_getElem? (i := 681) (by decide +kernel), List.mem_of_getElem? (i := 682) (by decide +kernel)⟩
theorem lw_p22 : lw_okq (⟨"TemplateForge$Smith", "uses", "(LTemplateForge$Program;II)Z"⟩, 5) := ⟨⟨by decide +kernel, by decide +kernel⟩, List.mem_of_getElem? (i := 146) (by decide +kernel), List.mem_of_getElem? (i := 689) (by decide +kernel), List.mem_of_getElem? (i := 690) (by decide +kernel)⟩
theorem lw_p23 : lw_okq (⟨"TemplateForge$Smith", "addGuards", "(LTemplateForge$Heat;II)V"⟩, 5) := ⟨⟨by decide +kernel, by decide +kernel⟩, List.mem_of_getElem? (i := 146) (by decide +kernel), List.mem_of_getElem? (i := 693) (by decide +kernel), List.mem_of_getElem? (i := 694) (by decide +kernel)⟩
theorem lw_p24 : lw_okq (⟨"TemplateForge$Smith", "lay", "(III)V"⟩, 5) := ⟨⟨by decide +kernel, by decide +kernel⟩, List.mem_of_getElem? (i := 146) (by decide +kernel), List.mem_of_getElem? (i := 713) (by decide +kernel), List.mem_of_getElem? (i := 714) (by decide +kernel)⟩
theorem lw_p25 : lw_okq (⟨"TemplateForge$Smith", "knowArgsAlone", "(LTemplateForge$Heat;)V"⟩, 5) := ⟨⟨by decide +kernel, by decide +kernel⟩, List.mem_of_getElem? (i := 146) (by decide +kernel), List.mem_of_getElem? (i := 717) (by decide +kernel), List.mem_of_getElem? (i := 718) (by decide +kernel)⟩
theorem lw_p26 : lw_okq (⟨"TemplateForge$Smith", "know", "(II)V"⟩, 5) := ⟨⟨by decide +kernel, by decide +kernel⟩, List.mem_of_getElem? (i := 146) (by decide +kernel), List.mem_of_getElem? (i := 721) (by decide +kernel), List.mem_of_getElem? (i := 722) (by decide +kernel)⟩
theorem lw_p27 : lw_okq (⟨"TemplateForge$Smith", "wantsTemplate", "(LTemplateForge$Program;I)Z"⟩, 5) := ⟨⟨by decide +kernel, by decide +kernel⟩, List.mem_of_getElem? (i := 146) (by decide +kernel), List.mem_of_getElem? (i := 726) (by decide +kernel), List.mem_of_getElem? (i := 727) (by decide +kernel)⟩
theorem lw_p28 : lw_okq (⟨"TemplateForge$Smith", "isCopyKnown", "(II)Z"⟩, 5) := ⟨⟨by decide +kernel, by decide +kernel⟩, List.mem_of_getElem? (i := 146) (by decide +kernel), List.mem_of_getElem? (i := 731) (by decide +kernel), List.mem_of_getElem? (i := 732) (by decide +kernel)⟩
theorem lw_p29 : lw_okq (⟨"TemplateForge$Smith", "isKnown", "(I)Z"⟩, 5) := ⟨⟨by decide +kernel, by decide +kernel⟩, List.mem_of_getElem? (i := 146) (by decide +kernel), List.mem_of_getElem? (i := 735) (by decide +kernel), List.mem_of_getElem? (i := 736) (by decide +kernel)⟩
theorem lw_p30 : lw_okq (⟨"TemplateForge$Smith", "worthOf", "(I)I"⟩, 5) := ⟨⟨by decide +kernel, by decide +kernel⟩, List.mem_of_getElem? (i := 146) (by decide +kernel), List.mem_of_getElem? (i := 739) (by decide +kernel), List.mem_of_getElem? (i := 740) (by decide +kernel)⟩
theorem lw_p31 : lw_okq (⟨"TemplateForge$Smith", "isStoredKnown", "(III)Z"⟩, 5) := ⟨⟨by decide +kernel, by decide +kernel⟩, List.mem_of_getElem? (i := 146) (by decide +kernel), List.mem_of_getElem? (i := 743) (by decide +kernel), List.mem_of_getElem? (i := 744) (by decide +kernel)⟩
def lw_privs_2 : List (MethodName × Nat) := [(⟨"TemplateForge$Machine", "newRow", "(LTemplateForge$Frame;III)V"⟩, 10), (⟨"TemplateForge$Machine", "isThere", "(LTemplateForge$Frame;III)Z"⟩, 10), (⟨"TemplateForge$Machine", "begin", "()V"⟩, 10), (⟨"TemplateForge$Machine", "choosePath", "()V"⟩, 10), (⟨"TemplateForge$Smith", "findTargets", "(LTemplateForge$Program;)V"⟩, 5), (⟨"TemplateForge$Smith", "assume", "(LTemplateForge$Program;)V"⟩, 5), (⟨"TemplateForge$Smith", "uses", "(LTemplateForge$Program;II)Z"⟩, 5), (⟨"TemplateForge$Smith", "addGuards", "(LTemplateForge$Heat;II)V"⟩, 5), (⟨"TemplateForge$Smith", "lay", "(III)V"⟩, 5), (⟨"TemplateForge$Smith", "knowArgsAlone", "(LTemplateForge$Heat;)V"⟩, 5), (⟨"TemplateForge$Smith", "know", "(II)V"⟩, 5), (⟨"TemplateForge$Smith", "wantsTemplate", "(LTemplateForge$Program;I)Z"⟩, 5), (⟨"TemplateForge$Smith", "isCopyKnown", "(II)Z"⟩, 5), (⟨"TemplateForge$Smith", "isKnown", "(I)Z"⟩, 5), (⟨"TemplateForge$Smith", "worthOf", "(I)I"⟩, 5), (⟨"TemplateForge$Smith", "isStoredKnown", "(III)Z"⟩, 5)]
theorem lw_r2 : ∀ q ∈ lw_privs_2, lw_okq q := List.forall_mem_cons.mpr ⟨lw_p16, List.forall_mem_cons.mpr ⟨lw_p17, List.forall_mem_cons.mpr ⟨lw_p18, List.forall_mem_cons.mpr ⟨lw_p19, List.forall_mem_cons.mpr ⟨lw_p20, List.forall_mem_cons.mpr ⟨lw_p21, List.forall_mem_cons.mpr ⟨lw_p22, List.forall_mem_cons.mpr ⟨lw_p23, List.forall_mem_cons.mpr ⟨lw_p24, List.forall_mem_cons.mpr ⟨lw_p25, List.forall_mem_cons.mpr ⟨lw_p26, List.forall_mem_cons.mpr ⟨lw_p27, List.forall_mem_cons.mpr ⟨lw_p28, List.forall_mem_cons.mpr ⟨lw_p29, List.forall_mem_cons.mpr ⟨lw_p30, List.forall_mem_cons.mpr ⟨lw_p31, fun _ h => absurd h List.not_mem_nil⟩⟩⟩⟩⟩⟩⟩⟩⟩⟩⟩⟩⟩⟩⟩⟩
theorem lw_p32 : lw_okq (⟨"TemplateForge$Smith", "forget", "(I)V"⟩, 5) := ⟨⟨by decide +kernel, by decide +kernel⟩, List.mem_of_getElem? (i := 146) (by decide +kernel), List.mem_of_getElem? (i := 747) (by decide +kernel), List.mem_of_getElem? (i := 748) (by decide +kernel)⟩
theorem lw_p33 : lw_okq (⟨"TemplateForge$Smith", "isWaySure", "(III)Z"⟩, 5) := ⟨⟨by decide +kernel, by decide +kernel⟩, List.mem_of_getElem? (i := 146) (by decide +kernel), List.mem_of_getElem? (i := 751) (by decide +kernel), List.mem_of_getElem? (i := 752) (by decide +kernel)⟩
theorem lw_p34 : lw_okq (⟨"TemplateForge$Smith", "isFieldKnown", "(LTemplateForge$Heat;II)Z"⟩, 5) := ⟨⟨by decide +kernel, by decide +kernel⟩, List.mem_of_getElem? (i := 146) (by decide +kernel), List.mem_of_getElem? (i := 755) (by decide +kernel), List.mem_of_getElem? (i := 756) (by decide +kernel)⟩
theorem lw_p35 : lw_okq (⟨"TemplateForge$Smith", "isResultKnown", "(IIII)Z"⟩, 5) := ⟨⟨by decide +kernel, by decide +kernel⟩, List.mem_of_getElem? (i := 146) (by decide +kernel), List.mem_of_getElem? (i := 759) (by decide +kernel), List.mem_of_getElem? (i := 760) (by decide +kernel)⟩
theorem lw_p36 : lw_okq (⟨"TemplateForgeModel", "isMethod", "(I)Z"⟩, 52) := ⟨⟨by decide +kernel, by decide +kernel⟩, List.mem_of_getElem? (i := 849) (by decide +kernel), List.mem_of_getElem? (i := 1026) (by decide +kernel), List.mem_of_getElem? (i := 1027) (by decide +kernel)⟩
theorem lw_p37 : lw_okq (⟨"TemplateForgeModel", "comesTo", "(III)I"⟩, 52) := ⟨⟨by decide +kernel, by decide +kernel⟩, List.mem_of_getElem? (i := 849) (by decide +kernel), List.mem_of_getElem? (i := 1035) (by decide +kernel), List.mem_of_getElem? (i := 1036) (by decide +kernel)⟩
theorem lw_p38 : lw_okq (⟨"TemplateForgeModel", "looksAt", "(II)I"⟩, 52) := ⟨⟨by decide +kernel, by decide +kernel⟩, List.mem_of_getElem? (i := 849) (by decide +kernel), List.mem_of_getElem? (i := 1039) (by decide +kernel), List.mem_of_getElem? (i := 1040) (by decide +kernel)⟩
theorem lw_p39 : lw_okq (⟨"TemplateForgeModel", "isOperand", "(III)Z"⟩, 52) := ⟨⟨by decide +kernel, by decide +kernel⟩, List.mem_of_getElem? (i := 849) (by decide +kernel), List.mem_of_getElem? (i := 1043) (by decide +kernel), List.mem_of_getElem? (i := 1044) (by decide +kernel)⟩
theorem lw_p40 : lw_okq (⟨"TemplateForgeModel", "takes", "(II)I"⟩, 52) := ⟨⟨by decide +kernel, by decide +kernel⟩, List.mem_of_getElem? (i := 849) (by decide +kernel), List.mem_of_getElem? (i := 1048) (by decide +kernel), List.mem_of_getElem? (i := 1049) (by decide +kernel)⟩
theorem lw_p41 : lw_okq (⟨"TemplateForgeModel", "nextWaiting", "(I)I"⟩, 52) := ⟨⟨by decide +kernel, by decide +kernel⟩, List.mem_of_getElem? (i := 849) (by decide +kernel), List.mem_of_getElem? (i := 1055) (by decide +kernel), List.mem_of_getElem? (i := 1056) (by decide +kernel)⟩
theorem lw_p42 : lw_okq (⟨"TemplateForgeModel", "call", "(I[III)V"⟩, 52) := ⟨⟨by decide +kernel, by decide +kernel⟩, List.mem_of_getElem? (i := 849) (by decide +kernel), List.mem_of_getElem? (i := 1088) (by decide +kernel), List.mem_of_getElem? (i := 1089) (by decide +kernel)⟩
theorem lw_p43 : lw_okq (⟨"TemplateForgeModel", "traps", "(II)V"⟩, 52) := ⟨⟨by decide +kernel, by decide +kernel⟩, List.mem_of_getElem? (i := 849) (by decide +kernel), List.mem_of_getElem? (i := 1092) (by decide +kernel), List.mem_of_getElem? (i := 1093) (by decide +kernel)⟩
theorem lw_p44 : lw_okq (⟨"TemplateForgeModel", "stepOn", "()Z"⟩, 52) := ⟨⟨by decide +kernel, by decide +kernel⟩, List.mem_of_getElem? (i := 849) (by decide +kernel), List.mem_of_getElem? (i := 1096) (by decide +kernel), List.mem_of_getElem? (i := 1097) (by decide +kernel)⟩
theorem lw_p45 : lw_okq (⟨"TemplateForgeModel", "makeCode", "(I)V"⟩, 52) := ⟨⟨by decide +kernel, by decide +kernel⟩, List.mem_of_getElem? (i := 849) (by decide +kernel), List.mem_of_getElem? (i := 1100) (by decide +kernel), List.mem_of_getElem? (i := 1101) (by decide +kernel)⟩
theorem lw_p46 : lw_okq (⟨"TemplateForgeModel", "assumes", "(I)V"⟩, 52) := ⟨⟨by decide +kernel, by decide +kernel⟩, List.mem_of_getElem? (i := 849) (by decide +kernel), List.mem_of_getElem? (i := 1104) (by decide +kernel), List.mem_of_getElem? (i := 1105) (by decide +kernel)⟩
theorem lw_p47 : lw_okq (⟨"TemplateForgeModel", "has", "(III)Z"⟩, 52) := ⟨⟨by decide +kernel, by decide +kernel⟩, List.mem_of_getElem? (i := 849) (by decide +kernel), List.mem_of_getElem? (i := 1108) (by decide +kernel), List.mem_of_getElem? (i := 1109) (by decide +kernel)⟩
def lw_privs_3 : List (MethodName × Nat) := [(⟨"TemplateForge$Smith", "forget", "(I)V"⟩, 5), (⟨"TemplateForge$Smith", "isWaySure", "(III)Z"⟩, 5), (⟨"TemplateForge$Smith", "isFieldKnown", "(LTemplateForge$Heat;II)Z"⟩, 5), (⟨"TemplateForge$Smith", "isResultKnown", "(IIII)Z"⟩, 5), (⟨"TemplateForgeModel", "isMethod", "(I)Z"⟩, 52), (⟨"TemplateForgeModel", "comesTo", "(III)I"⟩, 52), (⟨"TemplateForgeModel", "looksAt", "(II)I"⟩, 52), (⟨"TemplateForgeModel", "isOperand", "(III)Z"⟩, 52), (⟨"TemplateForgeModel", "takes", "(II)I"⟩, 52), (⟨"TemplateForgeModel", "nextWaiting", "(I)I"⟩, 52), (⟨"TemplateForgeModel", "call", "(I[III)V"⟩, 52), (⟨"TemplateForgeModel", "traps", "(II)V"⟩, 52), (⟨"TemplateForgeModel", "stepOn", "()Z"⟩, 52), (⟨"TemplateForgeModel", "makeCode", "(I)V"⟩, 52), (⟨"TemplateForgeModel", "assumes", "(I)V"⟩, 52), (⟨"TemplateForgeModel", "has", "(III)Z"⟩, 52)]
theorem lw_r3 : ∀ q ∈ lw_privs_3, lw_okq q := List.forall_mem_cons.mpr ⟨lw_p32, List.forall_mem_cons.mpr ⟨lw_p33, List.forall_mem_cons.mpr ⟨lw_p34, List.forall_mem_cons.mpr ⟨lw_p35, List.forall_mem_cons.mpr ⟨lw_p36, List.forall_mem_cons.mpr ⟨lw_p37, List.forall_mem_cons.mpr ⟨lw_p38, List.forall_mem_cons.mpr ⟨lw_p39, List.forall_mem_cons.mpr ⟨lw_p40, List.forall_mem_cons.mpr ⟨lw_p41, List.forall_mem_cons.mpr ⟨lw_p42, List.forall_mem_cons.mpr ⟨lw_p43, List.forall_mem_cons.mpr ⟨lw_p44, List.forall_mem_cons.mpr ⟨lw_p45, List.forall_mem_cons.mpr ⟨lw_p46, List.forall_mem_cons.mpr ⟨lw_p47, fun _ h => absurd h List.not_mem_nil⟩⟩⟩⟩⟩⟩⟩⟩⟩⟩⟩⟩⟩⟩⟩⟩
theorem lw_p48 : lw_okq (⟨"TemplateForgeModel", "codeNow", "(I)I"⟩, 52) := ⟨⟨by decide +kernel, by decide +kernel⟩, List.mem_of_getElem? (i := 849) (by decide +kernel), List.mem_of_getElem? (i := 1112) (by decide +kernel), List.mem_of_getElem? (i := 1113) (by decide +kernel)⟩
theorem lw_p49 : lw_okq (⟨"TemplateForgeModel", "part", "(IIII)V"⟩, 52) := ⟨⟨by decide +kernel, by decide +kernel⟩, List.mem_of_getElem? (i := 849) (by decide +kernel), List.mem_of_getElem? (i := 1116) (by decide +kernel), List.mem_of_getElem? (i := 1117) (by decide +kernel)⟩
theorem lw_p50 : lw_okq (⟨"TemplateForgeModel", "fieldGuards", "(I)V"⟩, 52) := ⟨⟨by decide +kernel, by decide +kernel⟩, List.mem_of_getElem? (i := 849) (by decide +kernel), List.mem_of_getElem? (i := 1120) (by decide +kernel), List.mem_of_getElem? (i := 1121) (by decide +kernel)⟩
theorem lw_p51 : lw_okq (⟨"TemplateForgeModel", "begins", "(I)V"⟩, 52) := ⟨⟨by decide +kernel, by decide +kernel⟩, List.mem_of_getElem? (i := 849) (by decide +kernel), List.mem_of_getElem? (i := 1124) (by decide +kernel), List.mem_of_getElem? (i := 1125) (by decide +kernel)⟩
theorem lw_p52 : lw_okq (⟨"TemplateForgeModel", "isTarget", "(II)Z"⟩, 52) := ⟨⟨by decide +kernel, by decide +kernel⟩, List.mem_of_getElem? (i := 849) (by decide +kernel), List.mem_of_getElem? (i := 1128) (by decide +kernel), List.mem_of_getElem? (i := 1129) (by decide +kernel)⟩
theorem lw_p53 : lw_okq (⟨"TemplateForgeModel", "layAll", "(I)V"⟩, 52) := ⟨⟨by decide +kernel, by decide +kernel⟩, List.mem_of_getElem? (i := 849) (by decide +kernel), List.mem_of_getElem? (i := 1132) (by decide +kernel), List.mem_of_getElem? (i := 1133) (by decide +kernel)⟩
theorem lw_p54 : lw_okq (⟨"TemplateForgeModel", "layOne", "(I)V"⟩, 52) := ⟨⟨by decide +kernel, by decide +kernel⟩, List.mem_of_getElem? (i := 849) (by decide +kernel), List.mem_of_getElem? (i := 1136) (by decide +kernel), List.mem_of_getElem? (i := 1137) (by decide +kernel)⟩
theorem lw_p55 : lw_okq (⟨"TemplateForgeModel", "make", "(II)V"⟩, 52) := ⟨⟨by decide +kernel, by decide +kernel⟩, List.mem_of_getElem? (i := 849) (by decide +kernel), List.mem_of_getElem? (i := 1140) (by decide +kernel), List.mem_of_getElem? (i := 1141) (by decide +kernel)⟩
theorem lw_p56 : lw_okq (⟨"TemplateForgeModel", "knows", "(II)V"⟩, 52) := ⟨⟨by decide +kernel, by decide +kernel⟩, List.mem_of_getElem? (i := 849) (by decide +kernel), List.mem_of_getElem? (i := 1144) (by decide +kernel), List.mem_of_getElem? (i := 1145) (by decide +kernel)⟩
theorem lw_p57 : lw_okq (⟨"TemplateForgeModel", "makeWhen", "(II)V"⟩, 52) := ⟨⟨by decide +kernel, by decide +kernel⟩, List.mem_of_getElem? (i := 849) (by decide +kernel), List.mem_of_getElem? (i := 1148) (by decide +kernel), List.mem_of_getElem? (i := 1149) (by decide +kernel)⟩
theorem lw_p58 : lw_okq (⟨"TemplateForgeModel", "makeTwo", "(II)V"⟩, 52) := ⟨⟨by decide +kernel, by decide +kernel⟩, List.mem_of_getElem? (i := 849) (by decide +kernel), List.mem_of_getElem? (i := 1152) (by decide +kernel), List.mem_of_getElem? (i := 1153) (by decide +kernel)⟩
theorem lw_p59 : lw_okq (⟨"TemplateForgeModel", "remember", "(I[II)V"⟩, 52) := ⟨⟨by decide +kernel, by decide +kernel⟩, List.mem_of_getElem? (i := 849) (by decide +kernel), List.mem_of_getElem? (i := 1159) (by decide +kernel), List.mem_of_getElem? (i := 1160) (by decide +kernel)⟩
theorem lw_p60 : lw_okq (⟨"TemplateForgeModel", "goes", "()V"⟩, 52) := ⟨⟨by decide +kernel, by decide +kernel⟩, List.mem_of_getElem? (i := 849) (by decide +kernel), List.mem_of_getElem? (i := 1163) (by decide +kernel), List.mem_of_getElem? (i := 1164) (by decide +kernel)⟩
theorem lw_p61 : lw_okq (⟨"TemplateForgeModel", "returns", "(I)V"⟩, 52) := ⟨⟨by decide +kernel, by decide +kernel⟩, List.mem_of_getElem? (i := 849) (by decide +kernel), List.mem_of_getElem? (i := 1167) (by decide +kernel), List.mem_of_getElem? (i := 1168) (by decide +kernel)⟩
theorem lw_p62 : lw_okq (⟨"TemplateForgeModel", "makesRow", "(II)I"⟩, 52) := ⟨⟨by decide +kernel, by decide +kernel⟩, List.mem_of_getElem? (i := 849) (by decide +kernel), List.mem_of_getElem? (i := 1171) (by decide +kernel), List.mem_of_getElem? (i := 1172) (by decide +kernel)⟩
theorem lw_p63 : lw_okq (⟨"TemplateForgeModel", "refuses", "(II)I"⟩, 52) := ⟨⟨by decide +kernel, by decide +kernel⟩, List.mem_of_getElem? (i := 849) (by decide +kernel), List.mem_of_getElem? (i := 1175) (by decide +kernel), List.mem_of_getElem? (i := 1176) (by decide +kernel)⟩
def lw_privs_4 : List (MethodName × Nat) := [(⟨"TemplateForgeModel", "codeNow", "(I)I"⟩, 52), (⟨"TemplateForgeModel", "part", "(IIII)V"⟩, 52), (⟨"TemplateForgeModel", "fieldGuards", "(I)V"⟩, 52), (⟨"TemplateForgeModel", "begins", "(I)V"⟩, 52), (⟨"TemplateForgeModel", "isTarget", "(II)Z"⟩, 52), (⟨"TemplateForgeModel", "layAll", "(I)V"⟩, 52), (⟨"TemplateForgeModel", "layOne", "(I)V"⟩, 52), (⟨"TemplateForgeModel", "make", "(II)V"⟩, 52), (⟨"TemplateForgeModel", "knows", "(II)V"⟩, 52), (⟨"TemplateForgeModel", "makeWhen", "(II)V"⟩, 52), (⟨"TemplateForgeModel", "makeTwo", "(II)V"⟩, 52), (⟨"TemplateForgeModel", "remember", "(I[II)V"⟩, 52), (⟨"TemplateForgeModel", "goes", "()V"⟩, 52), (⟨"TemplateForgeModel", "returns", "(I)V"⟩, 52), (⟨"TemplateForgeModel", "makesRow", "(II)I"⟩, 52), (⟨"TemplateForgeModel", "refuses", "(II)I"⟩, 52)]
theorem lw_r4 : ∀ q ∈ lw_privs_4, lw_okq q := List.forall_mem_cons.mpr ⟨lw_p48, List.forall_mem_cons.mpr ⟨lw_p49, List.forall_mem_cons.mpr ⟨lw_p50, List.forall_mem_cons.mpr ⟨lw_p51, List.forall_mem_cons.mpr ⟨lw_p52, List.forall_mem_cons.mpr ⟨lw_p53, List.forall_mem_cons.mpr ⟨lw_p54, List.forall_mem_cons.mpr ⟨lw_p55, List.forall_mem_cons.mpr ⟨lw_p56, List.forall_mem_cons.mpr ⟨lw_p57, List.forall_mem_cons.mpr ⟨lw_p58, List.forall_mem_cons.mpr ⟨lw_p59, List.forall_mem_cons.mpr ⟨lw_p60, List.forall_mem_cons.mpr ⟨lw_p61, List.forall_mem_cons.mpr ⟨lw_p62, List.forall_mem_cons.mpr ⟨lw_p63, fun _ h => absurd h List.not_mem_nil⟩⟩⟩⟩⟩⟩⟩⟩⟩⟩⟩⟩⟩⟩⟩⟩
theorem lw_p64 : lw_okq (⟨"TemplateForgeModel", "goesByPart", "()V"⟩, 52) := ⟨⟨by decide +kernel, by decide +kernel⟩, List.mem_of_getElem? (i := 849) (by decide +kernel), List.mem_of_getElem? (i := 1179) (by decide +kernel), List.mem_of_getElem? (i := 1180) (by decide +kernel)⟩
theorem lw_p65 : lw_okq (⟨"TemplateForgeModel", "fails", "(III)V"⟩, 52) := ⟨⟨by decide +kernel, by decide +kernel⟩, List.mem_of_getElem? (i := 849) (by decide +kernel), List.mem_of_getElem? (i := 1183) (by decide +kernel), List.mem_of_getElem? (i := 1184) (by decide +kernel)⟩
theorem lw_p66 : lw_okq (⟨"TemplateForgeModel", "isBehindCall", "(I)Z"⟩, 52) := ⟨⟨by decide +kernel, by decide +kernel⟩, List.mem_of_getElem? (i := 849) (by decide +kernel), List.mem_of_getElem? (i := 1187) (by decide +kernel), List.mem_of_getElem? (i := 1188) (by decide +kernel)⟩
theorem lw_p67 : lw_okq (⟨"TemplateForgeModel", "partsOf", "(I)I"⟩, 52) := ⟨⟨by decide +kernel, by decide +kernel⟩, List.mem_of_getElem? (i := 849) (by decide +kernel), List.mem_of_getElem? (i := 1203) (by decide +kernel), List.mem_of_getElem? (i := 1204) (by decide +kernel)⟩
def lw_privs_5 : List (MethodName × Nat) := [(⟨"TemplateForgeModel", "goesByPart", "()V"⟩, 52), (⟨"TemplateForgeModel", "fails", "(III)V"⟩, 52), (⟨"TemplateForgeModel", "isBehindCall", "(I)Z"⟩, 52), (⟨"TemplateForgeModel", "partsOf", "(I)I"⟩, 52)]
theorem lw_r5 : ∀ q ∈ lw_privs_5, lw_okq q := List.forall_mem_cons.mpr ⟨lw_p64, List.forall_mem_cons.mpr ⟨lw_p65, List.forall_mem_cons.mpr ⟨lw_p66, List.forall_mem_cons.mpr ⟨lw_p67, fun _ h => absurd h List.not_mem_nil⟩⟩⟩⟩
def lw_privs : List (MethodName × Nat) := lw_privs_1 ++ (lw_privs_2 ++ (lw_privs_3 ++ (lw_privs_4 ++ (lw_privs_5))))
def lw_tbl : List Cond := k2_sels lw_privs ++ tables_1
theorem lw_privs_ok : ∀ q ∈ lw_privs, lw_okq q := by
  show ∀ q ∈ lw_privs_1 ++ (lw_privs_2 ++ (lw_privs_3 ++ (lw_privs_4 ++ (lw_privs_5)))), lw_okq q
  exact List.forall_mem_append.mpr ⟨lw_r1, List.forall_mem_append.mpr ⟨lw_r2, List.forall_mem_append.mpr ⟨lw_r3, List.forall_mem_append.mpr ⟨lw_r4, lw_r5⟩⟩⟩⟩
-- ===== end of PART A; then your names; then what follows =====
end
section
/-! ===== BEGIN words of one list among another's, by their places ===== -/
theorem goodIn_r {big : List Cond} (ws : List Cond) (ps : List Nat) (hp : ws = ps.filterMap (fun i => big[i]?)) (h : ws.all goodWord = true) : GoodIn big ws := by
  intro w hw
  have h1 := List.all_eq_true.mp h w hw
  rw [hp] at hw
  obtain ⟨i, -, hi⟩ := List.mem_filterMap.mp hw
  have hm : w ∈ big := by first | exact List.mem_of_getElem? hi | exact List.getElem?_mem hi
  exact ⟨hm, good_of_word h1⟩
theorem goodIn_app {big a b : List Cond} (ha : GoodIn big a) (hb : GoodIn big b) : GoodIn big (a ++ b) := fun w h => (List.mem_append.mp h).elim (ha w) (hb w)
theorem goodIn_ca {big a b : List Cond} {c : Cond} (ha : GoodIn big (c :: a)) (hb : GoodIn big b) : GoodIn big (c :: (a ++ b)) := fun w h => (List.mem_cons.mp h).elim (fun e => ha w (List.mem_cons.mpr (Or.inl e))) (fun h => (List.mem_append.mp h).elim (fun h => ha w (List.mem_cons.mpr (Or.inr h))) (hb w))
theorem goodIn_sub {big ws : List Cond} (hm : ∀ w ∈ ws, w ∈ big) (h : ws.all goodWord = true) : GoodIn big ws := fun w hw => ⟨hm w hw, good_of_word (List.all_eq_true.mp h w hw)⟩
/-! ===== END ===== -/

/-! ===== BEGIN printed: names, fields, word lists, decode rows ===== -/
def RX0 : String := "TemplateForge$Book"
def TX0 : u_T := fun k => match k with
  | 0 => ("TemplateForge$Book", "programs", "[LTemplateForge$Program;", true)
  | _ => ("TemplateForge$Book", "told", "I", false)
def tyX0 : Nat → FieldType := fun k => match k with
  | 0 => .array (.object "TemplateForge$Program")
  | _ => .int
abbrev wsX00 : List Cond := u_ws RX0 TX0 2
theorem nmX0 : ∀ a, a < 2 → ∀ b, b < 2 → a ≠ b → (TX0 a).2.1 ≠ (TX0 b).2.1 := by decide +kernel
theorem tyX0_ok : ∀ k, k < 2 → parseFieldDescriptor (TX0 k).2.2.1 = some (tyX0 k) := by decide +kernel
abbrev cX0_init : ByteArray := prog_2_method_1_code
def yX0_init : MethodName := ⟨RX0, "<init>", "()V"⟩
abbrev cX0_at : ByteArray := prog_2_method_2_code
def yX0_at : MethodName := ⟨RX0, "at", "(I)LTemplateForge$Program;"⟩
abbrev cX0_tell : ByteArray := prog_2_method_3_code
def yX0_tell : MethodName := ⟨RX0, "tell", "(II)I"⟩
abbrev cX0_isRight : ByteArray := prog_2_method_4_code
def yX0_isRight : MethodName := ⟨RX0, "isRight", "()Z"⟩
abbrev cX0_taken : ByteArray := prog_2_method_5_code
def yX0_taken : MethodName := ⟨RX0, "taken", "(II)I"⟩
def RX1 : String := "TemplateForge$Code"
def TX1 : u_T := fun k => match k with
  | 0 => ("TemplateForge$Code", "making", "I", true)
  | 1 => ("TemplateForge$Code", "heads", "I", true)
  | 2 => ("TemplateForge$Code", "cells", "[I", true)
  | _ => ("TemplateForge$Code", "starts", "[I", true)
def tyX1 : Nat → FieldType := fun k => match k with
  | 0 => .int
  | 1 => .int
  | 2 => .array .int
  | _ => .array .int
abbrev wsX10 : List Cond := u_ws RX1 TX1 4
theorem nmX1 : ∀ a, a < 4 → ∀ b, b < 4 → a ≠ b → (TX1 a).2.1 ≠ (TX1 b).2.1 := by decide +kernel
theorem tyX1_ok : ∀ k, k < 4 → parseFieldDescriptor (TX1 k).2.2.1 = some (tyX1 k) := by decide +kernel
abbrev cX1_init : ByteArray := prog_3_method_1_code
def yX1_init : MethodName := ⟨RX1, "<init>", "(II[I[I)V"⟩
abbrev cX1_parts : ByteArray := prog_3_method_2_code
def yX1_parts : MethodName := ⟨RX1, "parts", "()I"⟩
abbrev cX1_cell : ByteArray := prog_3_method_3_code
def yX1_cell : MethodName := ⟨RX1, "cell", "(II)I"⟩
abbrev cX1_startOf : ByteArray := prog_3_method_4_code
def yX1_startOf : MethodName := ⟨RX1, "startOf", "(I)I"⟩
abbrev cX1_mixedInto : ByteArray := prog_3_method_5_code
def yX1_mixedInto : MethodName := ⟨RX1, "mixedInto", "(J)J"⟩
def RX2 : String := "TemplateForge$Data"
def TX2 : u_T := fun k => match k with
  | 0 => ("TemplateForge$Data", "fields", "[I", true)
  | 1 => ("TemplateForge$Data", "lengths", "[I", true)
  | _ => ("TemplateForge$Data", "items", "[I", true)
def tyX2 : Nat → FieldType := fun k => match k with
  | 0 => .array .int
  | 1 => .array .int
  | _ => .array .int
abbrev wsX20 : List Cond := u_ws RX2 TX2 3
theorem nmX2 : ∀ a, a < 3 → ∀ b, b < 3 → a ≠ b → (TX2 a).2.1 ≠ (TX2 b).2.1 := by decide +kernel
theorem tyX2_ok : ∀ k, k < 3 → parseFieldDescriptor (TX2 k).2.2.1 = some (tyX2 k) := by decide +kernel
abbrev cX2_init : ByteArray := prog_4_method_1_code
def yX2_init : MethodName := ⟨RX2, "<init>", "()V"⟩
abbrev cX2_valueOf : ByteArray := prog_4_method_2_code
def yX2_valueOf : MethodName := ⟨RX2, "valueOf", "(I)I"⟩
abbrev cX2_put : ByteArray := prog_4_method_3_code
def yX2_put : MethodName := ⟨RX2, "put", "(II)V"⟩
abbrev cX2_lengthOf : ByteArray := prog_4_method_4_code
def yX2_lengthOf : MethodName := ⟨RX2, "lengthOf", "(I)I"⟩
abbrev cX2_renew : ByteArray := prog_4_method_5_code
def yX2_renew : MethodName := ⟨RX2, "renew", "(II)V"⟩
abbrev cX2_itemOf : ByteArray := prog_4_method_6_code
def yX2_itemOf : MethodName := ⟨RX2, "itemOf", "(II)I"⟩
abbrev cX2_putItem : ByteArray := prog_4_method_7_code
def yX2_putItem : MethodName := ⟨RX2, "putItem", "(III)V"⟩
abbrev cX2_mixedInto : ByteArray := prog_4_method_8_code
def yX2_mixedInto : MethodName := ⟨RX2, "mixedInto", "(J)J"⟩
def RX3 : String := "TemplateForge$Draft"
def TX3 : u_T := fun k => match k with
  | 0 => ("TemplateForge$Draft", "cells", "[I", true)
  | 1 => ("TemplateForge$Draft", "starts", "[I", true)
  | _ => ("TemplateForge$Draft", "parts", "I", false)
def tyX3 : Nat → FieldType := fun k => match k with
  | 0 => .array .int
  | 1 => .array .int
  | _ => .int
abbrev wsX30 : List Cond := u_ws RX3 TX3 3
theorem nmX3 : ∀ a, a < 3 → ∀ b, b < 3 → a ≠ b → (TX3 a).2.1 ≠ (TX3 b).2.1 := by decide +kernel
theorem tyX3_ok : ∀ k, k < 3 → parseFieldDescriptor (TX3 k).2.2.1 = some (tyX3 k) := by decide +kernel
abbrev cX3_init : ByteArray := prog_5_method_1_code
def yX3_init : MethodName := ⟨RX3, "<init>", "()V"⟩
abbrev cX3_clear : ByteArray := prog_5_method_2_code
def yX3_clear : MethodName := ⟨RX3, "clear", "()V"⟩
abbrev cX3_parts : ByteArray := prog_5_method_3_code
def yX3_parts : MethodName := ⟨RX3, "parts", "()I"⟩
abbrev cX3_begin : ByteArray := prog_5_method_4_code
def yX3_begin : MethodName := ⟨RX3, "begin", "(I)V"⟩
abbrev cX3_add : ByteArray := prog_5_method_5_code
def yX3_add : MethodName := ⟨RX3, "add", "(IIIII)V"⟩
abbrev cX3_addTemplate : ByteArray := prog_5_method_6_code
def yX3_addTemplate : MethodName := ⟨RX3, "addTemplate", "(LTemplateForge$Program;I)V"⟩
abbrev cX3_addReckoning : ByteArray := prog_5_method_7_code
def yX3_addReckoning : MethodName := ⟨RX3, "addReckoning", "(IIII)V"⟩
abbrev cX3_finish : ByteArray := prog_5_method_8_code
def yX3_finish : MethodName := ⟨RX3, "finish", "(III)LTemplateForge$Code;"⟩
def RX4 : String := "TemplateForge$Frame"
def TX4 : u_T := fun k => match k with
  | 0 => ("TemplateForge$Frame", "program", "LTemplateForge$Program;", false)
  | 1 => ("TemplateForge$Frame", "code", "LTemplateForge$Code;", false)
  | 2 => ("TemplateForge$Frame", "place", "I", false)
  | 3 => ("TemplateForge$Frame", "into", "I", false)
  | _ => ("TemplateForge$Frame", "registers", "[I", true)
def tyX4 : Nat → FieldType := fun k => match k with
  | 0 => .object "TemplateForge$Program"
  | 1 => .object "TemplateForge$Code"
  | 2 => .int
  | 3 => .int
  | _ => .array .int
abbrev wsX40 : List Cond := u_ws RX4 TX4 5
theorem nmX4 : ∀ a, a < 5 → ∀ b, b < 5 → a ≠ b → (TX4 a).2.1 ≠ (TX4 b).2.1 := by decide +kernel
theorem tyX4_ok : ∀ k, k < 5 → parseFieldDescriptor (TX4 k).2.2.1 = some (tyX4 k) := by decide +kernel
abbrev cX4_init : ByteArray := prog_6_method_1_code
def yX4_init : MethodName := ⟨RX4, "<init>", "()V"⟩
abbrev cX4_clear : ByteArray := prog_6_method_2_code
def yX4_clear : MethodName := ⟨RX4, "clear", "()V"⟩
abbrev cX4_valueOf : ByteArray := prog_6_method_3_code
def yX4_valueOf : MethodName := ⟨RX4, "valueOf", "(I)I"⟩
abbrev cX4_put : ByteArray := prog_6_method_4_code
def yX4_put : MethodName := ⟨RX4, "put", "(II)V"⟩
def RX5 : String := "TemplateForge$Heat"
def TX5 : u_T := fun k => match k with
  | 0 => ("TemplateForge$Heat", "hasCode", "Z", false)
  | 1 => ("TemplateForge$Heat", "latest", "LTemplateForge$Code;", false)
  | 2 => ("TemplateForge$Heat", "counted", "I", false)
  | 3 => ("TemplateForge$Heat", "made", "I", false)
  | 4 => ("TemplateForge$Heat", "failed", "I", false)
  | 5 => ("TemplateForge$Heat", "ran", "I", false)
  | 6 => ("TemplateForge$Heat", "first", "[I", true)
  | 7 => ("TemplateForge$Heat", "same", "[Z", true)
  | _ => ("TemplateForge$Heat", "varying", "[Z", true)
def tyX5 : Nat → FieldType := fun k => match k with
  | 0 => .boolean
  | 1 => .object "TemplateForge$Code"
  | 2 => .int
  | 3 => .int
  | 4 => .int
  | 5 => .int
  | 6 => .array .int
  | 7 => .array .boolean
  | _ => .array .boolean
abbrev wsX50 : List Cond := u_ws RX5 TX5 9
theorem nmX5 : ∀ a, a < 9 → ∀ b, b < 9 → a ≠ b → (TX5 a).2.1 ≠ (TX5 b).2.1 := by decide +kernel
theorem tyX5_ok : ∀ k, k < 9 → parseFieldDescriptor (TX5 k).2.2.1 = some (tyX5 k) := by decide +kernel
abbrev cX5_init : ByteArray := prog_7_method_1_code
def yX5_init : MethodName := ⟨RX5, "<init>", "()V"⟩
abbrev cX5_isHot : ByteArray := prog_7_method_2_code
def yX5_isHot : MethodName := ⟨RX5, "isHot", "()Z"⟩
abbrev cX5_remember : ByteArray := prog_7_method_3_code
def yX5_remember : MethodName := ⟨RX5, "remember", "(LTemplateForge$Frame;LTemplateForge$Data;)V"⟩
abbrev cX5_take : ByteArray := prog_7_method_4_code
def yX5_take : MethodName := ⟨RX5, "take", "(LTemplateForge$Code;)V"⟩
abbrev cX5_throwAway : ByteArray := prog_7_method_5_code
def yX5_throwAway : MethodName := ⟨RX5, "throwAway", "()V"⟩
abbrev cX5_markVarying : ByteArray := prog_7_method_6_code
def yX5_markVarying : MethodName := ⟨RX5, "markVarying", "(I)V"⟩
abbrev cX5_isVarying : ByteArray := prog_7_method_7_code
def yX5_isVarying : MethodName := ⟨RX5, "isVarying", "(I)Z"⟩
abbrev cX5_wasAlways : ByteArray := prog_7_method_8_code
def yX5_wasAlways : MethodName := ⟨RX5, "wasAlways", "(I)Z"⟩
abbrev cX5_valueOf : ByteArray := prog_7_method_9_code
def yX5_valueOf : MethodName := ⟨RX5, "valueOf", "(I)I"⟩
def RX6 : String := "TemplateForge$Looker"
def TX6 : u_T := fun k => match k with
  | 0 => ("TemplateForge$Looker", "book", "LTemplateForge$Book;", true)
  | 1 => ("TemplateForge$Looker", "draft", "LTemplateForge$Draft;", true)
  | 2 => ("TemplateForge$Looker", "waiting", "[Z", true)
  | _ => ("TemplateForge$Looker", "found", "I", false)
def tyX6 : Nat → FieldType := fun k => match k with
  | 0 => .object "TemplateForge$Book"
  | 1 => .object "TemplateForge$Draft"
  | 2 => .array .boolean
  | _ => .int
abbrev wsX60 : List Cond := u_ws RX6 TX6 4
theorem nmX6 : ∀ a, a < 4 → ∀ b, b < 4 → a ≠ b → (TX6 a).2.1 ≠ (TX6 b).2.1 := by decide +kernel
theorem tyX6_ok : ∀ k, k < 4 → parseFieldDescriptor (TX6 k).2.2.1 = some (tyX6 k) := by decide +kernel
abbrev cX6_init : ByteArray := prog_8_method_1_code
def yX6_init : MethodName := ⟨RX6, "<init>", "(LTemplateForge$Book;LTemplateForge$Draft;)V"⟩
abbrev cX6_goOver : ByteArray := prog_8_method_2_code
def yX6_goOver : MethodName := ⟨RX6, "goOver", "(LTemplateForge$Program;)I"⟩
abbrev cX6_leastWaiting : ByteArray := prog_8_method_3_code
def yX6_leastWaiting : MethodName := ⟨RX6, "leastWaiting", "()I"⟩
abbrev cX6_faultAt : ByteArray := prog_8_method_4_code
def yX6_faultAt : MethodName := ⟨RX6, "faultAt", "(LTemplateForge$Program;I)I"⟩
abbrev cX6_isRightX : ByteArray := prog_8_method_5_code
def yX6_isRightX : MethodName := ⟨RX6, "isRightX", "(LTemplateForge$Program;II)Z"⟩
abbrev cX6_comes : ByteArray := prog_8_method_6_code
def yX6_comes : MethodName := ⟨RX6, "comes", "(LTemplateForge$Program;II)Z"⟩
abbrev cX6_greatestDepth : ByteArray := prog_8_method_7_code
def yX6_greatestDepth : MethodName := ⟨RX6, "greatestDepth", "(LTemplateForge$Program;)I"⟩
abbrev cX6_plainCode : ByteArray := prog_8_method_8_code
def yX6_plainCode : MethodName := ⟨RX6, "plainCode", "(LTemplateForge$Program;)LTemplateForge$Code;"⟩
def RX7 : String := "TemplateForge$Machine"
def TX7 : u_T := fun k => match k with
  | 0 => ("TemplateForge$Machine", "book", "LTemplateForge$Book;", true)
  | 1 => ("TemplateForge$Machine", "data", "LTemplateForge$Data;", true)
  | 2 => ("TemplateForge$Machine", "smith", "LTemplateForge$Smith;", true)
  | 3 => ("TemplateForge$Machine", "tally", "LTemplateForge$Tally;", true)
  | 4 => ("TemplateForge$Machine", "frames", "[LTemplateForge$Frame;", true)
  | 5 => ("TemplateForge$Machine", "handed", "[I", true)
  | 6 => ("TemplateForge$Machine", "open", "I", false)
  | 7 => ("TemplateForge$Machine", "ending", "I", false)
  | 8 => ("TemplateForge$Machine", "called", "I", false)
  | _ => ("TemplateForge$Machine", "into", "I", false)
def tyX7 : Nat → FieldType := fun k => match k with
  | 0 => .object "TemplateForge$Book"
  | 1 => .object "TemplateForge$Data"
  | 2 => .object "TemplateForge$Smith"
  | 3 => .object "TemplateForge$Tally"
  | 4 => .array (.object "TemplateForge$Frame")
  | 5 => .array .int
  | 6 => .int
  | 7 => .int
  | 8 => .int
  | _ => .int
abbrev wsX70 : List Cond := u_ws RX7 TX7 10
theorem nmX7 : ∀ a, a < 10 → ∀ b, b < 10 → a ≠ b → (TX7 a).2.1 ≠ (TX7 b).2.1 := by decide +kernel
theorem tyX7_ok : ∀ k, k < 10 → parseFieldDescriptor (TX7 k).2.2.1 = some (tyX7 k) := by decide +kernel
abbrev cX7_init : ByteArray := prog_9_method_1_code
def yX7_init : MethodName := ⟨RX7, "<init>", "(LTemplateForge$Book;LTemplateForge$Data;LTemplateForge$Draft;)V"⟩
abbrev cX7_go : ByteArray := prog_9_method_2_code
def yX7_go : MethodName := ⟨RX7, "go", "(IIII)I"⟩
abbrev cX7_begin : ByteArray := prog_9_method_3_code
def yX7_begin : MethodName := ⟨RX7, "begin", "()V"⟩
abbrev cX7_choosePath : ByteArray := prog_9_method_4_code
def yX7_choosePath : MethodName := ⟨RX7, "choosePath", "()V"⟩
abbrev cX7_latestFrame : ByteArray := prog_9_method_5_code
def yX7_latestFrame : MethodName := ⟨RX7, "latestFrame", "()LTemplateForge$Frame;"⟩
abbrev cX7_stepOn : ByteArray := prog_9_method_6_code
def yX7_stepOn : MethodName := ⟨RX7, "stepOn", "()V"⟩
abbrev cX7_turn : ByteArray := prog_9_method_7_code
def yX7_turn : MethodName := ⟨RX7, "turn", "()V"⟩
abbrev cX7_turnThatMayTrap : ByteArray := prog_9_method_8_code
def yX7_turnThatMayTrap : MethodName := ⟨RX7, "turnThatMayTrap", "(LTemplateForge$Frame;IIIII)V"⟩
abbrev cX7_goTo : ByteArray := prog_9_method_9_code
def yX7_goTo : MethodName := ⟨RX7, "goTo", "(LTemplateForge$Frame;II)V"⟩
abbrev cX7_call : ByteArray := prog_9_method_10_code
def yX7_call : MethodName := ⟨RX7, "call", "(LTemplateForge$Frame;III)V"⟩
abbrev cX7_giveBack : ByteArray := prog_9_method_11_code
def yX7_giveBack : MethodName := ⟨RX7, "giveBack", "(LTemplateForge$Frame;I)V"⟩
abbrev cX7_guard : ByteArray := prog_9_method_12_code
def yX7_guard : MethodName := ⟨RX7, "guard", "(LTemplateForge$Frame;IZI)V"⟩
abbrev cX7_newRow : ByteArray := prog_9_method_13_code
def yX7_newRow : MethodName := ⟨RX7, "newRow", "(LTemplateForge$Frame;III)V"⟩
abbrev cX7_isThere : ByteArray := prog_9_method_14_code
def yX7_isThere : MethodName := ⟨RX7, "isThere", "(LTemplateForge$Frame;III)Z"⟩
abbrev cX7_endByTrap : ByteArray := prog_9_method_15_code
def yX7_endByTrap : MethodName := ⟨RX7, "endByTrap", "(LTemplateForge$Frame;II)V"⟩
def RX8 : String := "TemplateForge$Program"
def TX8 : u_T := fun k => match k with
  | 0 => ("TemplateForge$Program", "number", "I", true)
  | 1 => ("TemplateForge$Program", "args", "I", true)
  | 2 => ("TemplateForge$Program", "locals", "I", true)
  | 3 => ("TemplateForge$Program", "heat", "LTemplateForge$Heat;", true)
  | 4 => ("TemplateForge$Program", "ops", "[I", true)
  | 5 => ("TemplateForge$Program", "xs", "[I", true)
  | 6 => ("TemplateForge$Program", "depths", "[I", true)
  | 7 => ("TemplateForge$Program", "length", "I", false)
  | 8 => ("TemplateForge$Program", "deepest", "I", false)
  | _ => ("TemplateForge$Program", "plain", "LTemplateForge$Code;", false)
def tyX8 : Nat → FieldType := fun k => match k with
  | 0 => .int
  | 1 => .int
  | 2 => .int
  | 3 => .object "TemplateForge$Heat"
  | 4 => .array .int
  | 5 => .array .int
  | 6 => .array .int
  | 7 => .int
  | 8 => .int
  | _ => .object "TemplateForge$Code"
abbrev wsX80 : List Cond := u_ws RX8 TX8 10
theorem nmX8 : ∀ a, a < 10 → ∀ b, b < 10 → a ≠ b → (TX8 a).2.1 ≠ (TX8 b).2.1 := by decide +kernel
theorem tyX8_ok : ∀ k, k < 10 → parseFieldDescriptor (TX8 k).2.2.1 = some (tyX8 k) := by decide +kernel
abbrev cX8_init : ByteArray := prog_10_method_1_code
def yX8_init : MethodName := ⟨RX8, "<init>", "(III)V"⟩
abbrev cX8_isRight : ByteArray := prog_10_method_2_code
def yX8_isRight : MethodName := ⟨RX8, "isRight", "()Z"⟩
abbrev cX8_has : ByteArray := prog_10_method_3_code
def yX8_has : MethodName := ⟨RX8, "has", "(I)Z"⟩
abbrev cX8_append : ByteArray := prog_10_method_4_code
def yX8_append : MethodName := ⟨RX8, "append", "(II)I"⟩
abbrev cX8_opAt : ByteArray := prog_10_method_5_code
def yX8_opAt : MethodName := ⟨RX8, "opAt", "(I)I"⟩
abbrev cX8_xAt : ByteArray := prog_10_method_6_code
def yX8_xAt : MethodName := ⟨RX8, "xAt", "(I)I"⟩
abbrev cX8_depthAt : ByteArray := prog_10_method_7_code
def yX8_depthAt : MethodName := ⟨RX8, "depthAt", "(I)I"⟩
abbrev cX8_isDead : ByteArray := prog_10_method_8_code
def yX8_isDead : MethodName := ⟨RX8, "isDead", "(I)Z"⟩
abbrev cX8_goesOnAt : ByteArray := prog_10_method_9_code
def yX8_goesOnAt : MethodName := ⟨RX8, "goesOnAt", "(I)Z"⟩
abbrev cX8_forgetDepths : ByteArray := prog_10_method_10_code
def yX8_forgetDepths : MethodName := ⟨RX8, "forgetDepths", "()V"⟩
abbrev cX8_comeTo : ByteArray := prog_10_method_11_code
def yX8_comeTo : MethodName := ⟨RX8, "comeTo", "(II)V"⟩
def RX9 : String := "TemplateForge$Smith"
def TX9 : u_T := fun k => match k with
  | 0 => ("TemplateForge$Smith", "draft", "LTemplateForge$Draft;", true)
  | 1 => ("TemplateForge$Smith", "known", "[Z", true)
  | 2 => ("TemplateForge$Smith", "worth", "[I", true)
  | 3 => ("TemplateForge$Smith", "target", "[Z", true)
  | _ => ("TemplateForge$Smith", "assumed", "[Z", true)
def tyX9 : Nat → FieldType := fun k => match k with
  | 0 => .object "TemplateForge$Draft"
  | 1 => .array .boolean
  | 2 => .array .int
  | 3 => .array .boolean
  | _ => .array .boolean
abbrev wsX90 : List Cond := u_ws RX9 TX9 5
theorem nmX9 : ∀ a, a < 5 → ∀ b, b < 5 → a ≠ b → (TX9 a).2.1 ≠ (TX9 b).2.1 := by decide +kernel
theorem tyX9_ok : ∀ k, k < 5 → parseFieldDescriptor (TX9 k).2.2.1 = some (tyX9 k) := by decide +kernel
abbrev cX9_init : ByteArray := prog_11_method_1_code
def yX9_init : MethodName := ⟨RX9, "<init>", "(LTemplateForge$Draft;)V"⟩
abbrev cX9_forge : ByteArray := prog_11_method_2_code
def yX9_forge : MethodName := ⟨RX9, "forge", "(LTemplateForge$Program;)LTemplateForge$Code;"⟩
abbrev cX9_findTargets : ByteArray := prog_11_method_3_code
def yX9_findTargets : MethodName := ⟨RX9, "findTargets", "(LTemplateForge$Program;)V"⟩
abbrev cX9_assume : ByteArray := prog_11_method_4_code
def yX9_assume : MethodName := ⟨RX9, "assume", "(LTemplateForge$Program;)V"⟩
abbrev cX9_uses : ByteArray := prog_11_method_5_code
def yX9_uses : MethodName := ⟨RX9, "uses", "(LTemplateForge$Program;II)Z"⟩
abbrev cX9_addGuards : ByteArray := prog_11_method_6_code
def yX9_addGuards : MethodName := ⟨RX9, "addGuards", "(LTemplateForge$Heat;II)V"⟩
abbrev cX9_knowArgsAlone : ByteArray := prog_11_method_7_code
def yX9_knowArgsAlone : MethodName := ⟨RX9, "knowArgsAlone", "(LTemplateForge$Heat;)V"⟩
abbrev cX9_wantsTemplate : ByteArray := prog_11_method_8_code
def yX9_wantsTemplate : MethodName := ⟨RX9, "wantsTemplate", "(LTemplateForge$Program;I)Z"⟩
abbrev cX9_isCopyKnown : ByteArray := prog_11_method_9_code
def yX9_isCopyKnown : MethodName := ⟨RX9, "isCopyKnown", "(II)Z"⟩
abbrev cX9_isStoredKnown : ByteArray := prog_11_method_10_code
def yX9_isStoredKnown : MethodName := ⟨RX9, "isStoredKnown", "(III)Z"⟩
abbrev cX9_isWaySure : ByteArray := prog_11_method_11_code
def yX9_isWaySure : MethodName := ⟨RX9, "isWaySure", "(III)Z"⟩
abbrev cX9_isFieldKnown : ByteArray := prog_11_method_12_code
def yX9_isFieldKnown : MethodName := ⟨RX9, "isFieldKnown", "(LTemplateForge$Heat;II)Z"⟩
abbrev cX9_isResultKnown : ByteArray := prog_11_method_13_code
def yX9_isResultKnown : MethodName := ⟨RX9, "isResultKnown", "(IIII)Z"⟩
abbrev cX9_lay : ByteArray := prog_11_method_14_code
def yX9_lay : MethodName := ⟨RX9, "lay", "(III)V"⟩
abbrev cX9_know : ByteArray := prog_11_method_15_code
def yX9_know : MethodName := ⟨RX9, "know", "(II)V"⟩
abbrev cX9_forget : ByteArray := prog_11_method_16_code
def yX9_forget : MethodName := ⟨RX9, "forget", "(I)V"⟩
abbrev cX9_isKnown : ByteArray := prog_11_method_17_code
def yX9_isKnown : MethodName := ⟨RX9, "isKnown", "(I)Z"⟩
abbrev cX9_worthOf : ByteArray := prog_11_method_18_code
def yX9_worthOf : MethodName := ⟨RX9, "worthOf", "(I)I"⟩
def RX10 : String := "TemplateForge$Tally"
def TX10 : u_T := fun k => match k with
  | 0 => ("TemplateForge$Tally", "runs", "I", false)
  | 1 => ("TemplateForge$Tally", "steps", "I", false)
  | 2 => ("TemplateForge$Tally", "calls", "I", false)
  | 3 => ("TemplateForge$Tally", "coded", "I", false)
  | 4 => ("TemplateForge$Tally", "failed", "I", false)
  | 5 => ("TemplateForge$Tally", "returned", "I", false)
  | _ => ("TemplateForge$Tally", "trap", "[I", true)
def tyX10 : Nat → FieldType := fun k => match k with
  | 0 => .int
  | 1 => .int
  | 2 => .int
  | 3 => .int
  | 4 => .int
  | 5 => .int
  | _ => .array .int
abbrev wsX100 : List Cond := u_ws RX10 TX10 7
theorem nmX10 : ∀ a, a < 7 → ∀ b, b < 7 → a ≠ b → (TX10 a).2.1 ≠ (TX10 b).2.1 := by decide +kernel
theorem tyX10_ok : ∀ k, k < 7 → parseFieldDescriptor (TX10 k).2.2.1 = some (tyX10 k) := by decide +kernel
abbrev cX10_init : ByteArray := prog_12_method_1_code
def yX10_init : MethodName := ⟨RX10, "<init>", "()V"⟩
abbrev cX10_beginRun : ByteArray := prog_12_method_2_code
def yX10_beginRun : MethodName := ⟨RX10, "beginRun", "()V"⟩
abbrev cX10_noteTrap : ByteArray := prog_12_method_3_code
def yX10_noteTrap : MethodName := ⟨RX10, "noteTrap", "(IIII)V"⟩
abbrev cX10_ofTrap : ByteArray := prog_12_method_4_code
def yX10_ofTrap : MethodName := ⟨RX10, "ofTrap", "(I)I"⟩
abbrev cX10_mixedInto : ByteArray := prog_12_method_5_code
def yX10_mixedInto : MethodName := ⟨RX10, "mixedInto", "(J)J"⟩
def RX11 : String := "TemplateForge"
def TX11 : u_T := fun k => match k with
  | 0 => ("TemplateForge", "book", "LTemplateForge$Book;", true)
  | 1 => ("TemplateForge", "data", "LTemplateForge$Data;", true)
  | 2 => ("TemplateForge", "looker", "LTemplateForge$Looker;", true)
  | _ => ("TemplateForge", "machine", "LTemplateForge$Machine;", true)
def tyX11 : Nat → FieldType := fun k => match k with
  | 0 => .object "TemplateForge$Book"
  | 1 => .object "TemplateForge$Data"
  | 2 => .object "TemplateForge$Looker"
  | _ => .object "TemplateForge$Machine"
abbrev wsX110 : List Cond := u_ws RX11 TX11 4
theorem nmX11 : ∀ a, a < 4 → ∀ b, b < 4 → a ≠ b → (TX11 a).2.1 ≠ (TX11 b).2.1 := by decide +kernel
theorem tyX11_ok : ∀ k, k < 4 → parseFieldDescriptor (TX11 k).2.2.1 = some (tyX11 k) := by decide +kernel
abbrev cX11_init : ByteArray := prog_1_method_1_code
def yX11_init : MethodName := ⟨RX11, "<init>", "()V"⟩
abbrev cX11_method : ByteArray := prog_1_method_2_code
def yX11_method : MethodName := ⟨RX11, "method", "(II)I"⟩
abbrev cX11_write : ByteArray := prog_1_method_3_code
def yX11_write : MethodName := ⟨RX11, "write", "(III)I"⟩
abbrev cX11_look : ByteArray := prog_1_method_4_code
def yX11_look : MethodName := ⟨RX11, "look", "(I)I"⟩
abbrev cX11_fault : ByteArray := prog_1_method_5_code
def yX11_fault : MethodName := ⟨RX11, "fault", "()I"⟩
abbrev cX11_keep : ByteArray := prog_1_method_6_code
def yX11_keep : MethodName := ⟨RX11, "keep", "(II)I"⟩
abbrev cX11_field : ByteArray := prog_1_method_7_code
def yX11_field : MethodName := ⟨RX11, "field", "(I)I"⟩
abbrev cX11_lose : ByteArray := prog_1_method_8_code
def yX11_lose : MethodName := ⟨RX11, "lose", "(I)I"⟩
abbrev cX11_size : ByteArray := prog_1_method_9_code
def yX11_size : MethodName := ⟨RX11, "size", "(I)I"⟩
abbrev cX11_item : ByteArray := prog_1_method_10_code
def yX11_item : MethodName := ⟨RX11, "item", "(II)I"⟩
abbrev cX11_run : ByteArray := prog_1_method_11_code
def yX11_run : MethodName := ⟨RX11, "run", "(IIII)I"⟩
abbrev cX11_answer : ByteArray := prog_1_method_12_code
def yX11_answer : MethodName := ⟨RX11, "answer", "()I"⟩
abbrev cX11_trap : ByteArray := prog_1_method_13_code
def yX11_trap : MethodName := ⟨RX11, "trap", "(I)I"⟩
abbrev cX11_of : ByteArray := prog_1_method_14_code
def yX11_of : MethodName := ⟨RX11, "of", "(II)I"⟩
abbrev cX11_part : ByteArray := prog_1_method_15_code
def yX11_part : MethodName := ⟨RX11, "part", "(III)I"⟩
abbrev cX11_varies : ByteArray := prog_1_method_16_code
def yX11_varies : MethodName := ⟨RX11, "varies", "(II)I"⟩
abbrev cX11_depth : ByteArray := prog_1_method_17_code
def yX11_depth : MethodName := ⟨RX11, "depth", "(II)I"⟩
abbrev cX11_count : ByteArray := prog_1_method_18_code
def yX11_count : MethodName := ⟨RX11, "count", "(I)I"⟩
abbrev cX11_digest : ByteArray := prog_1_method_19_code
def yX11_digest : MethodName := ⟨RX11, "digest", "()J"⟩
abbrev cX11_mixedWith : ByteArray := prog_1_method_20_code
def yX11_mixedWith : MethodName := ⟨RX11, "mixedWith", "(JLTemplateForge$Program;)J"⟩
abbrev cX11_tellOf : ByteArray := prog_1_method_21_code
def yX11_tellOf : MethodName := ⟨RX11, "tellOf", "(LTemplateForge$Program;I)I"⟩
abbrev cX11_reckoned : ByteArray := prog_1_method_22_code
def yX11_reckoned : MethodName := ⟨RX11, "reckoned", "(III)I"⟩
def RX12 : String := "TemplateForgeModel"
def TX12 : u_T := fun k => match k with
  | 0 => ("TemplateForgeModel", "methods", "I", false)
  | 1 => ("TemplateForgeModel", "args", "[I", true)
  | 2 => ("TemplateForgeModel", "locals", "[I", true)
  | 3 => ("TemplateForgeModel", "many", "[I", true)
  | 4 => ("TemplateForgeModel", "op", "[I", true)
  | 5 => ("TemplateForgeModel", "operand", "[I", true)
  | 6 => ("TemplateForgeModel", "isLooked", "[Z", true)
  | 7 => ("TemplateForgeModel", "depths", "[I", true)
  | 8 => ("TemplateForgeModel", "deepest", "[I", true)
  | 9 => ("TemplateForgeModel", "fault", "I", false)
  | 10 => ("TemplateForgeModel", "waits", "[Z", true)
  | 11 => ("TemplateForgeModel", "gone", "[Z", true)
  | 12 => ("TemplateForgeModel", "fields", "[I", true)
  | 13 => ("TemplateForgeModel", "sizes", "[I", true)
  | 14 => ("TemplateForgeModel", "rows", "[I", true)
  | 15 => ("TemplateForgeModel", "hasCode", "[Z", true)
  | 16 => ("TemplateForgeModel", "counted", "[I", true)
  | 17 => ("TemplateForgeModel", "madeCodes", "[I", true)
  | 18 => ("TemplateForgeModel", "guardsFailed", "[I", true)
  | 19 => ("TemplateForgeModel", "codeCalls", "[I", true)
  | 20 => ("TemplateForgeModel", "value", "[I", true)
  | 21 => ("TemplateForgeModel", "isLike", "[Z", true)
  | 22 => ("TemplateForgeModel", "doesVary", "[Z", true)
  | 23 => ("TemplateForgeModel", "partMany", "[I", true)
  | 24 => ("TemplateForgeModel", "starts", "[I", true)
  | 25 => ("TemplateForgeModel", "partOp", "[I", true)
  | 26 => ("TemplateForgeModel", "partD", "[I", true)
  | 27 => ("TemplateForgeModel", "partA", "[I", true)
  | 28 => ("TemplateForgeModel", "partB", "[I", true)
  | 29 => ("TemplateForgeModel", "partOf", "[I", true)
  | 30 => ("TemplateForgeModel", "assumed", "[Z", true)
  | 31 => ("TemplateForgeModel", "code", "I", false)
  | 32 => ("TemplateForgeModel", "owner", "I", false)
  | 33 => ("TemplateForgeModel", "localKnown", "[Z", true)
  | 34 => ("TemplateForgeModel", "localIs", "[I", true)
  | 35 => ("TemplateForgeModel", "placeKnown", "[Z", true)
  | 36 => ("TemplateForgeModel", "placeIs", "[I", true)
  | 37 => ("TemplateForgeModel", "open", "I", false)
  | 38 => ("TemplateForgeModel", "frameMethod", "[I", true)
  | 39 => ("TemplateForgeModel", "frameAt", "[I", true)
  | 40 => ("TemplateForgeModel", "frameCode", "[I", true)
  | 41 => ("TemplateForgeModel", "frameDepth", "[I", true)
  | 42 => ("TemplateForgeModel", "register", "[I", true)
  | 43 => ("TemplateForgeModel", "outcome", "I", false)
  | 44 => ("TemplateForgeModel", "steps", "I", false)
  | 45 => ("TemplateForgeModel", "calls", "I", false)
  | 46 => ("TemplateForgeModel", "callsByCode", "I", false)
  | 47 => ("TemplateForgeModel", "failed", "I", false)
  | 48 => ("TemplateForgeModel", "runs", "I", false)
  | 49 => ("TemplateForgeModel", "answer", "I", false)
  | 50 => ("TemplateForgeModel", "trap", "[I", true)
  | _ => ("TemplateForgeModel", "first", "[I", true)
def tyX12 : Nat → FieldType := fun k => match k with
  | 0 => .int
  | 1 => .array .int
  | 2 => .array .int
  | 3 => .array .int
  | 4 => .array .int
  | 5 => .array .int
  | 6 => .array .boolean
  | 7 => .array .int
  | 8 => .array .int
  | 9 => .int
  | 10 => .array .boolean
  | 11 => .array .boolean
  | 12 => .array .int
  | 13 => .array .int
  | 14 => .array .int
  | 15 => .array .boolean
  | 16 => .array .int
  | 17 => .array .int
  | 18 => .array .int
  | 19 => .array .int
  | 20 => .array .int
  | 21 => .array .boolean
  | 22 => .array .boolean
  | 23 => .array .int
  | 24 => .array .int
  | 25 => .array .int
  | 26 => .array .int
  | 27 => .array .int
  | 28 => .array .int
  | 29 => .array .int
  | 30 => .array .boolean
  | 31 => .int
  | 32 => .int
  | 33 => .array .boolean
  | 34 => .array .int
  | 35 => .array .boolean
  | 36 => .array .int
  | 37 => .int
  | 38 => .array .int
  | 39 => .array .int
  | 40 => .array .int
  | 41 => .array .int
  | 42 => .array .int
  | 43 => .int
  | 44 => .int
  | 45 => .int
  | 46 => .int
  | 47 => .int
  | 48 => .int
  | 49 => .int
  | 50 => .array .int
  | _ => .array .int
abbrev wsX120 : List Cond := u_ws RX12 TX12 52
theorem nmX12 : ∀ a, a < 52 → ∀ b, b < 52 → a ≠ b → (TX12 a).2.1 ≠ (TX12 b).2.1 := by decide +kernel
theorem tyX12_ok : ∀ k, k < 52 → parseFieldDescriptor (TX12 k).2.2.1 = some (tyX12 k) := by decide +kernel
abbrev cX12_init : ByteArray := prog_14_method_1_code
def yX12_init : MethodName := ⟨RX12, "<init>", "()V"⟩
abbrev cX12_in : ByteArray := prog_14_method_3_code
def yX12_in : MethodName := ⟨RX12, "in", "(JJJ)Z"⟩
abbrev cX12_method : ByteArray := prog_14_method_4_code
def yX12_method : MethodName := ⟨RX12, "method", "(II)I"⟩
abbrev cX12_isMethod : ByteArray := prog_14_method_5_code
def yX12_isMethod : MethodName := ⟨RX12, "isMethod", "(I)Z"⟩
abbrev cX12_write : ByteArray := prog_14_method_6_code
def yX12_write : MethodName := ⟨RX12, "write", "(III)I"⟩
abbrev cX12_takes : ByteArray := prog_14_method_7_code
def yX12_takes : MethodName := ⟨RX12, "takes", "(II)I"⟩
abbrev cX12_lays : ByteArray := prog_14_method_8_code
def yX12_lays : MethodName := ⟨RX12, "lays", "(I)I"⟩
abbrev cX12_isOperand : ByteArray := prog_14_method_9_code
def yX12_isOperand : MethodName := ⟨RX12, "isOperand", "(III)Z"⟩
abbrev cX12_comesTo : ByteArray := prog_14_method_10_code
def yX12_comesTo : MethodName := ⟨RX12, "comesTo", "(III)I"⟩
abbrev cX12_looksAt : ByteArray := prog_14_method_11_code
def yX12_looksAt : MethodName := ⟨RX12, "looksAt", "(II)I"⟩
abbrev cX12_nextWaiting : ByteArray := prog_14_method_12_code
def yX12_nextWaiting : MethodName := ⟨RX12, "nextWaiting", "(I)I"⟩
abbrev cX12_look : ByteArray := prog_14_method_13_code
def yX12_look : MethodName := ⟨RX12, "look", "(I)I"⟩
abbrev cX12_fault : ByteArray := prog_14_method_14_code
def yX12_fault : MethodName := ⟨RX12, "fault", "()I"⟩
abbrev cX12_keep : ByteArray := prog_14_method_15_code
def yX12_keep : MethodName := ⟨RX12, "keep", "(II)I"⟩
abbrev cX12_field : ByteArray := prog_14_method_16_code
def yX12_field : MethodName := ⟨RX12, "field", "(I)I"⟩
abbrev cX12_lose : ByteArray := prog_14_method_17_code
def yX12_lose : MethodName := ⟨RX12, "lose", "(I)I"⟩
abbrev cX12_size : ByteArray := prog_14_method_18_code
def yX12_size : MethodName := ⟨RX12, "size", "(I)I"⟩
abbrev cX12_item : ByteArray := prog_14_method_19_code
def yX12_item : MethodName := ⟨RX12, "item", "(II)I"⟩
abbrev cX12_codeNow : ByteArray := prog_14_method_20_code
def yX12_codeNow : MethodName := ⟨RX12, "codeNow", "(I)I"⟩
abbrev cX12_remember : ByteArray := prog_14_method_21_code
def yX12_remember : MethodName := ⟨RX12, "remember", "(I[II)V"⟩
abbrev cX12_has : ByteArray := prog_14_method_22_code
def yX12_has : MethodName := ⟨RX12, "has", "(III)Z"⟩
abbrev cX12_assumes : ByteArray := prog_14_method_23_code
def yX12_assumes : MethodName := ⟨RX12, "assumes", "(I)V"⟩
abbrev cX12_part : ByteArray := prog_14_method_24_code
def yX12_part : MethodName := ⟨RX12, "part", "(IIII)V"⟩
abbrev cX12_layOne : ByteArray := prog_14_method_25_code
def yX12_layOne : MethodName := ⟨RX12, "layOne", "(I)V"⟩
abbrev cX12_layAll : ByteArray := prog_14_method_26_code
def yX12_layAll : MethodName := ⟨RX12, "layAll", "(I)V"⟩
abbrev cX12_knows : ByteArray := prog_14_method_27_code
def yX12_knows : MethodName := ⟨RX12, "knows", "(II)V"⟩
abbrev cX12_begins : ByteArray := prog_14_method_28_code
def yX12_begins : MethodName := ⟨RX12, "begins", "(I)V"⟩
abbrev cX12_fieldGuards : ByteArray := prog_14_method_29_code
def yX12_fieldGuards : MethodName := ⟨RX12, "fieldGuards", "(I)V"⟩
abbrev cX12_sumOf : ByteArray := prog_14_method_30_code
def yX12_sumOf : MethodName := ⟨RX12, "sumOf", "(III)I"⟩
abbrev cX12_makeTwo : ByteArray := prog_14_method_31_code
def yX12_makeTwo : MethodName := ⟨RX12, "makeTwo", "(II)V"⟩
abbrev cX12_makeWhen : ByteArray := prog_14_method_32_code
def yX12_makeWhen : MethodName := ⟨RX12, "makeWhen", "(II)V"⟩
abbrev cX12_make : ByteArray := prog_14_method_33_code
def yX12_make : MethodName := ⟨RX12, "make", "(II)V"⟩
abbrev cX12_isTarget : ByteArray := prog_14_method_34_code
def yX12_isTarget : MethodName := ⟨RX12, "isTarget", "(II)Z"⟩
abbrev cX12_makeCode : ByteArray := prog_14_method_35_code
def yX12_makeCode : MethodName := ⟨RX12, "makeCode", "(I)V"⟩
abbrev cX12_stepOn : ByteArray := prog_14_method_36_code
def yX12_stepOn : MethodName := ⟨RX12, "stepOn", "()Z"⟩
abbrev cX12_traps : ByteArray := prog_14_method_37_code
def yX12_traps : MethodName := ⟨RX12, "traps", "(II)V"⟩
abbrev cX12_call : ByteArray := prog_14_method_38_code
def yX12_call : MethodName := ⟨RX12, "call", "(I[III)V"⟩
abbrev cX12_returns : ByteArray := prog_14_method_39_code
def yX12_returns : MethodName := ⟨RX12, "returns", "(I)V"⟩
abbrev cX12_refuses : ByteArray := prog_14_method_40_code
def yX12_refuses : MethodName := ⟨RX12, "refuses", "(II)I"⟩
abbrev cX12_makesRow : ByteArray := prog_14_method_41_code
def yX12_makesRow : MethodName := ⟨RX12, "makesRow", "(II)I"⟩
abbrev cX12_goes : ByteArray := prog_14_method_42_code
def yX12_goes : MethodName := ⟨RX12, "goes", "()V"⟩
abbrev cX12_fails : ByteArray := prog_14_method_43_code
def yX12_fails : MethodName := ⟨RX12, "fails", "(III)V"⟩
abbrev cX12_isBehindCall : ByteArray := prog_14_method_44_code
def yX12_isBehindCall : MethodName := ⟨RX12, "isBehindCall", "(I)Z"⟩
abbrev cX12_goesByPart : ByteArray := prog_14_method_45_code
def yX12_goesByPart : MethodName := ⟨RX12, "goesByPart", "()V"⟩
abbrev cX12_run : ByteArray := prog_14_method_46_code
def yX12_run : MethodName := ⟨RX12, "run", "(IIII)I"⟩
abbrev cX12_answer : ByteArray := prog_14_method_47_code
def yX12_answer : MethodName := ⟨RX12, "answer", "()I"⟩
abbrev cX12_trap : ByteArray := prog_14_method_48_code
def yX12_trap : MethodName := ⟨RX12, "trap", "(I)I"⟩
abbrev cX12_partsOf : ByteArray := prog_14_method_49_code
def yX12_partsOf : MethodName := ⟨RX12, "partsOf", "(I)I"⟩
abbrev cX12_of : ByteArray := prog_14_method_50_code
def yX12_of : MethodName := ⟨RX12, "of", "(II)I"⟩
abbrev cX12_part_ : ByteArray := prog_14_method_51_code
def yX12_part_ : MethodName := ⟨RX12, "part", "(III)I"⟩
abbrev cX12_varies : ByteArray := prog_14_method_52_code
def yX12_varies : MethodName := ⟨RX12, "varies", "(II)I"⟩
abbrev cX12_depth : ByteArray := prog_14_method_53_code
def yX12_depth : MethodName := ⟨RX12, "depth", "(II)I"⟩
abbrev cX12_count : ByteArray := prog_14_method_54_code
def yX12_count : MethodName := ⟨RX12, "count", "(I)I"⟩
abbrev cX12_digest : ByteArray := prog_14_method_55_code
def yX12_digest : MethodName := ⟨RX12, "digest", "()J"⟩
def RJx8e188 : String := "java/lang/Cloneable"
def TJx8e188 : u_T := fun k => match k with
  | _ => ("", "", "", false)
def tyJx8e188 : Nat → FieldType := fun k => match k with
  | _ => .int
abbrev wsJx8e1880 : List Cond := u_ws RJx8e188 TJx8e188 0
theorem nmJx8e188 : ∀ a, a < 0 → ∀ b, b < 0 → a ≠ b → (TJx8e188 a).2.1 ≠ (TJx8e188 b).2.1 := by decide +kernel
theorem tyJx8e188_ok : ∀ k, k < 0 → parseFieldDescriptor (TJx8e188 k).2.2.1 = some (tyJx8e188 k) := by decide +kernel
def RJ9 : String := "java/lang/Math"
def TJ9 : u_T := fun k => match k with
  | _ => ("", "", "", false)
def tyJ9 : Nat → FieldType := fun k => match k with
  | _ => .int
abbrev wsJ90 : List Cond := u_ws RJ9 TJ9 0
theorem nmJ9 : ∀ a, a < 0 → ∀ b, b < 0 → a ≠ b → (TJ9 a).2.1 ≠ (TJ9 b).2.1 := by decide +kernel
theorem tyJ9_ok : ∀ k, k < 0 → parseFieldDescriptor (TJ9 k).2.2.1 = some (tyJ9 k) := by decide +kernel
abbrev cJ9_max_7cf53 : ByteArray := prog_16_method_65_code
def yJ9_max_7cf53 : MethodName := ⟨RJ9, "max", "(II)I"⟩
abbrev cJ9_min_7cf53 : ByteArray := prog_16_method_69_code
def yJ9_min_7cf53 : MethodName := ⟨RJ9, "min", "(II)I"⟩
def RJ10 : String := "java/lang/System"
def TJ10 : u_T := fun k => match k with
  | _ => ("", "", "", false)
def tyJ10 : Nat → FieldType := fun k => match k with
  | _ => .int
abbrev wsJ100 : List Cond := u_ws RJ10 TJ10 0
theorem nmJ10 : ∀ a, a < 0 → ∀ b, b < 0 → a ≠ b → (TJ10 a).2.1 ≠ (TJ10 b).2.1 := by decide +kernel
theorem tyJ10_ok : ∀ k, k < 0 → parseFieldDescriptor (TJ10 k).2.2.1 = some (tyJ10 k) := by decide +kernel
def RJ7 : String := "java/util/Arrays"
def TJ7 : u_T := fun k => match k with
  | _ => ("", "", "", false)
def tyJ7 : Nat → FieldType := fun k => match k with
  | _ => .int
abbrev wsJ70 : List Cond := u_ws RJ7 TJ7 0
theorem nmJ7 : ∀ a, a < 0 → ∀ b, b < 0 → a ≠ b → (TJ7 a).2.1 ≠ (TJ7 b).2.1 := by decide +kernel
theorem tyJ7_ok : ∀ k, k < 0 → parseFieldDescriptor (TJ7 k).2.2.1 = some (tyJ7 k) := by decide +kernel
abbrev cJ7_rangeCheck_23922 : ByteArray := prog_18_method_30_code
def yJ7_rangeCheck_23922 : MethodName := ⟨RJ7, "rangeCheck", "(III)V"⟩
abbrev cJ7_fill_53178 : ByteArray := prog_18_method_103_code
def yJ7_fill_53178 : MethodName := ⟨RJ7, "fill", "([II)V"⟩
abbrev cJ7_fill_fda19 : ByteArray := prog_18_method_104_code
def yJ7_fill_fda19 : MethodName := ⟨RJ7, "fill", "([IIII)V"⟩
abbrev cJ7_copyOf_59c91 : ByteArray := prog_18_method_123_code
def yJ7_copyOf_59c91 : MethodName := ⟨RJ7, "copyOf", "([II)[I"⟩
def RL : String := "TemplateForgeLaw"
abbrev cL_law : ByteArray := code
def yL_law : MethodName := ⟨RL, "law", "([I)Z"⟩
abbrev vwCl : List vw_C := [(RX0, TX0, 2), (RX1, TX1, 4), (RX2, TX2, 3), (RX3, TX3, 3), (RX4, TX4, 5), (RX5, TX5, 9), (RX6, TX6, 4), (RX7, TX7, 10), (RX8, TX8, 10), (RX9, TX9, 5), (RX10, TX10, 7), (RX11, TX11, 4), (RX12, TX12, 52)]
end
section
theorem dX0_init_0 : decode cX0_init 0 = .ok (.aload_n 0, 1) := by decide +kernel
theorem dX0_init_1 : decode cX0_init 1 = .ok (.invokespecial 3, 3) := by decide +kernel
theorem dX0_init_4 : decode cX0_init 4 = .ok (.aload_n 0, 1) := by decide +kernel
theorem dX0_init_5 : decode cX0_init 5 = .ok (.bipush 8, 2) := by decide +kernel
theorem dX0_init_7 : decode cX0_init 7 = .ok (.anewarray 9, 3) := by decide +kernel
theorem dX0_init_10 : decode cX0_init 10 = .ok (.putfield 11, 3) := by decide +kernel
theorem dX0_init_13 : decode cX0_init 13 = .ok (.return_, 1) := by decide +kernel
theorem dX0_at_0 : decode cX0_at 0 = .ok (.iload_n 1, 1) := by decide +kernel
theorem dX0_at_1 : decode cX0_at 1 = .ok (.ifCond .lt 26, 3) := by decide +kernel
theorem dX0_at_4 : decode cX0_at 4 = .ok (.iload_n 1, 1) := by decide +kernel
theorem dX0_at_5 : decode cX0_at 5 = .ok (.aload_n 0, 1) := by decide +kernel
theorem dX0_at_6 : decode cX0_at 6 = .ok (.getfield 17, 3) := by decide +kernel
theorem dX0_at_9 : decode cX0_at 9 = .ok (.if_icmp .ge 18, 3) := by decide +kernel
theorem dX0_at_12 : decode cX0_at 12 = .ok (.iload_n 1, 1) := by decide +kernel
theorem dX0_at_13 : decode cX0_at 13 = .ok (.bipush 8, 2) := by decide +kernel
theorem dX0_at_15 : decode cX0_at 15 = .ok (.if_icmp .ge 12, 3) := by decide +kernel
theorem dX0_at_18 : decode cX0_at 18 = .ok (.aload_n 0, 1) := by decide +kernel
theorem dX0_at_19 : decode cX0_at 19 = .ok (.getfield 11, 3) := by decide +kernel
theorem dX0_at_22 : decode cX0_at 22 = .ok (.iload_n 1, 1) := by decide +kernel
theorem dX0_at_23 : decode cX0_at 23 = .ok (.aaload, 1) := by decide +kernel
theorem dX0_at_24 : decode cX0_at 24 = .ok (.goto 4, 3) := by decide +kernel
theorem dX0_at_27 : decode cX0_at 27 = .ok (.aconst_null, 1) := by decide +kernel
theorem dX0_at_28 : decode cX0_at 28 = .ok (.areturn, 1) := by decide +kernel
theorem dX0_tell_0 : decode cX0_tell 0 = .ok (.aload_n 0, 1) := by decide +kernel
theorem dX0_tell_1 : decode cX0_tell 1 = .ok (.getfield 17, 3) := by decide +kernel
theorem dX0_tell_4 : decode cX0_tell 4 = .ok (.bipush 8, 2) := by decide +kernel
theorem dX0_tell_6 : decode cX0_tell 6 = .ok (.if_icmp .lt 6, 3) := by decide +kernel
theorem dX0_tell_9 : decode cX0_tell 9 = .ok (.bipush (-4), 2) := by decide +kernel
theorem dX0_tell_11 : decode cX0_tell 11 = .ok (.ireturn, 1) := by decide +kernel
theorem dX0_tell_12 : decode cX0_tell 12 = .ok (.aload_n 0, 1) := by decide +kernel
theorem dX0_tell_13 : decode cX0_tell 13 = .ok (.getfield 11, 3) := by decide +kernel
theorem dX0_tell_16 : decode cX0_tell 16 = .ok (.aload_n 0, 1) := by decide +kernel
theorem dX0_tell_17 : decode cX0_tell 17 = .ok (.getfield 17, 3) := by decide +kernel
theorem dX0_tell_20 : decode cX0_tell 20 = .ok (.new 9, 3) := by decide +kernel
theorem dX0_tell_23 : decode cX0_tell 23 = .ok (.dup, 1) := by decide +kernel
theorem dX0_tell_24 : decode cX0_tell 24 = .ok (.aload_n 0, 1) := by decide +kernel
theorem dX0_tell_25 : decode cX0_tell 25 = .ok (.getfield 17, 3) := by decide +kernel
theorem dX0_tell_28 : decode cX0_tell 28 = .ok (.iload_n 1, 1) := by decide +kernel
theorem dX0_tell_29 : decode cX0_tell 29 = .ok (.iload_n 2, 1) := by decide +kernel
theorem dX0_tell_30 : decode cX0_tell 30 = .ok (.invokespecial 21, 3) := by decide +kernel
theorem dX0_tell_33 : decode cX0_tell 33 = .ok (.aastore, 1) := by decide +kernel
theorem dX0_tell_34 : decode cX0_tell 34 = .ok (.aload_n 0, 1) := by decide +kernel
theorem dX0_tell_35 : decode cX0_tell 35 = .ok (.dup, 1) := by decide +kernel
theorem dX0_tell_36 : decode cX0_tell 36 = .ok (.getfield 17, 3) := by decide +kernel
theorem dX0_tell_39 : decode cX0_tell 39 = .ok (.iconst 1, 1) := by decide +kernel
theorem dX0_tell_40 : decode cX0_tell 40 = .ok (.iadd, 1) := by decide +kernel
theorem dX0_tell_41 : decode cX0_tell 41 = .ok (.putfield 17, 3) := by decide +kernel
theorem dX0_tell_44 : decode cX0_tell 44 = .ok (.aload_n 0, 1) := by decide +kernel
theorem dX0_tell_45 : decode cX0_tell 45 = .ok (.getfield 17, 3) := by decide +kernel
theorem dX0_tell_48 : decode cX0_tell 48 = .ok (.iconst 1, 1) := by decide +kernel
theorem dX0_tell_49 : decode cX0_tell 49 = .ok (.isub, 1) := by decide +kernel
theorem dX0_tell_50 : decode cX0_tell 50 = .ok (.ireturn, 1) := by decide +kernel
theorem dX2_init_0 : decode cX2_init 0 = .ok (.aload_n 0, 1) := by decide +kernel
theorem dX2_init_1 : decode cX2_init 1 = .ok (.invokespecial 3, 3) := by decide +kernel
theorem dX2_init_4 : decode cX2_init 4 = .ok (.aload_n 0, 1) := by decide +kernel
theorem dX2_init_5 : decode cX2_init 5 = .ok (.bipush 8, 2) := by decide +kernel
theorem dX2_init_7 : decode cX2_init 7 = .ok (.newarray .int, 2) := by decide +kernel
theorem dX2_init_9 : decode cX2_init 9 = .ok (.putfield 9, 3) := by decide +kernel
theorem dX2_init_12 : decode cX2_init 12 = .ok (.aload_n 0, 1) := by decide +kernel
theorem dX2_init_13 : decode cX2_init 13 = .ok (.iconst 4, 1) := by decide +kernel
theorem dX2_init_14 : decode cX2_init 14 = .ok (.newarray .int, 2) := by decide +kernel
theorem dX2_init_16 : decode cX2_init 16 = .ok (.putfield 15, 3) := by decide +kernel
theorem dX2_init_19 : decode cX2_init 19 = .ok (.aload_n 0, 1) := by decide +kernel
theorem dX2_init_20 : decode cX2_init 20 = .ok (.bipush 80, 2) := by decide +kernel
theorem dX2_init_22 : decode cX2_init 22 = .ok (.newarray .int, 2) := by decide +kernel
theorem dX2_init_24 : decode cX2_init 24 = .ok (.putfield 18, 3) := by decide +kernel
theorem dX2_init_27 : decode cX2_init 27 = .ok (.aload_n 0, 1) := by decide +kernel
theorem dX2_init_28 : decode cX2_init 28 = .ok (.getfield 15, 3) := by decide +kernel
theorem dX2_init_31 : decode cX2_init 31 = .ok (.iconst (-1), 1) := by decide +kernel
theorem dX2_init_32 : decode cX2_init 32 = .ok (.invokestatic 21, 3) := by decide +kernel
theorem dX2_init_35 : decode cX2_init 35 = .ok (.return_, 1) := by decide +kernel
theorem dX2_valueOf_0 : decode cX2_valueOf 0 = .ok (.iload_n 1, 1) := by decide +kernel
theorem dX2_valueOf_1 : decode cX2_valueOf 1 = .ok (.ifCond .lt 18, 3) := by decide +kernel
theorem dX2_valueOf_4 : decode cX2_valueOf 4 = .ok (.iload_n 1, 1) := by decide +kernel
theorem dX2_valueOf_5 : decode cX2_valueOf 5 = .ok (.bipush 8, 2) := by decide +kernel
theorem dX2_valueOf_7 : decode cX2_valueOf 7 = .ok (.if_icmp .ge 12, 3) := by decide +kernel
theorem dX2_valueOf_10 : decode cX2_valueOf 10 = .ok (.aload_n 0, 1) := by decide +kernel
theorem dX2_valueOf_11 : decode cX2_valueOf 11 = .ok (.getfield 9, 3) := by decide +kernel
theorem dX2_valueOf_14 : decode cX2_valueOf 14 = .ok (.iload_n 1, 1) := by decide +kernel
theorem dX2_valueOf_15 : decode cX2_valueOf 15 = .ok (.iaload, 1) := by decide +kernel
theorem dX2_valueOf_16 : decode cX2_valueOf 16 = .ok (.goto 4, 3) := by decide +kernel
theorem dX2_valueOf_19 : decode cX2_valueOf 19 = .ok (.iconst 0, 1) := by decide +kernel
theorem dX2_valueOf_20 : decode cX2_valueOf 20 = .ok (.ireturn, 1) := by decide +kernel
theorem dX2_put_0 : decode cX2_put 0 = .ok (.iload_n 1, 1) := by decide +kernel
theorem dX2_put_1 : decode cX2_put 1 = .ok (.ifCond .lt 16, 3) := by decide +kernel
theorem dX2_put_4 : decode cX2_put 4 = .ok (.iload_n 1, 1) := by decide +kernel
theorem dX2_put_5 : decode cX2_put 5 = .ok (.bipush 8, 2) := by decide +kernel
theorem dX2_put_7 : decode cX2_put 7 = .ok (.if_icmp .ge 10, 3) := by decide +kernel
theorem dX2_put_10 : decode cX2_put 10 = .ok (.aload_n 0, 1) := by decide +kernel
theorem dX2_put_11 : decode cX2_put 11 = .ok (.getfield 9, 3) := by decide +kernel
theorem dX2_put_14 : decode cX2_put 14 = .ok (.iload_n 1, 1) := by decide +kernel
theorem dX2_put_15 : decode cX2_put 15 = .ok (.iload_n 2, 1) := by decide +kernel
theorem dX2_put_16 : decode cX2_put 16 = .ok (.iastore, 1) := by decide +kernel
theorem dX2_put_17 : decode cX2_put 17 = .ok (.return_, 1) := by decide +kernel
theorem dX2_lengthOf_0 : decode cX2_lengthOf 0 = .ok (.iload_n 1, 1) := by decide +kernel
theorem dX2_lengthOf_1 : decode cX2_lengthOf 1 = .ok (.ifCond .lt 17, 3) := by decide +kernel
theorem dX2_lengthOf_4 : decode cX2_lengthOf 4 = .ok (.iload_n 1, 1) := by decide +kernel
theorem dX2_lengthOf_5 : decode cX2_lengthOf 5 = .ok (.iconst 4, 1) := by decide +kernel
theorem dX2_lengthOf_6 : decode cX2_lengthOf 6 = .ok (.if_icmp .ge 12, 3) := by decide +kernel
theorem dX2_lengthOf_9 : decode cX2_lengthOf 9 = .ok (.aload_n 0, 1) := by decide +kernel
theorem dX2_lengthOf_10 : decode cX2_lengthOf 10 = .ok (.getfield 15, 3) := by decide +kernel
theorem dX2_lengthOf_13 : decode cX2_lengthOf 13 = .ok (.iload_n 1, 1) := by decide +kernel
theorem dX2_lengthOf_14 : decode cX2_lengthOf 14 = .ok (.iaload, 1) := by decide +kernel
theorem dX2_lengthOf_15 : decode cX2_lengthOf 15 = .ok (.goto 4, 3) := by decide +kernel
theorem dX2_lengthOf_18 : decode cX2_lengthOf 18 = .ok (.iconst (-1), 1) := by decide +kernel
theorem dX2_lengthOf_19 : decode cX2_lengthOf 19 = .ok (.ireturn, 1) := by decide +kernel
theorem dX2_renew_0 : decode cX2_renew 0 = .ok (.iload_n 1, 1) := by decide +kernel
theorem dX2_renew_1 : decode cX2_renew 1 = .ok (.ifCond .lt 44, 3) := by decide +kernel
theorem dX2_renew_4 : decode cX2_renew 4 = .ok (.iload_n 1, 1) := by decide +kernel
theorem dX2_renew_5 : decode cX2_renew 5 = .ok (.iconst 4, 1) := by decide +kernel
theorem dX2_renew_6 : decode cX2_renew 6 = .ok (.if_icmp .ge 39, 3) := by decide +kernel
theorem dX2_renew_9 : decode cX2_renew 9 = .ok (.iload_n 2, 1) := by decide +kernel
theorem dX2_renew_10 : decode cX2_renew 10 = .ok (.iconst (-1), 1) := by decide +kernel
theorem dX2_renew_11 : decode cX2_renew 11 = .ok (.if_icmp .lt 34, 3) := by decide +kernel
theorem dX2_renew_14 : decode cX2_renew 14 = .ok (.iload_n 2, 1) := by decide +kernel
theorem dX2_renew_15 : decode cX2_renew 15 = .ok (.bipush 20, 2) := by decide +kernel
theorem dX2_renew_17 : decode cX2_renew 17 = .ok (.if_icmp .gt 28, 3) := by decide +kernel
theorem dX2_renew_20 : decode cX2_renew 20 = .ok (.aload_n 0, 1) := by decide +kernel
theorem dX2_renew_21 : decode cX2_renew 21 = .ok (.getfield 15, 3) := by decide +kernel
theorem dX2_renew_24 : decode cX2_renew 24 = .ok (.iload_n 1, 1) := by decide +kernel
theorem dX2_renew_25 : decode cX2_renew 25 = .ok (.iload_n 2, 1) := by decide +kernel
theorem dX2_renew_26 : decode cX2_renew 26 = .ok (.iastore, 1) := by decide +kernel
theorem dX2_renew_27 : decode cX2_renew 27 = .ok (.aload_n 0, 1) := by decide +kernel
theorem dX2_renew_28 : decode cX2_renew 28 = .ok (.getfield 18, 3) := by decide +kernel
theorem dX2_renew_31 : decode cX2_renew 31 = .ok (.bipush 20, 2) := by decide +kernel
theorem dX2_renew_33 : decode cX2_renew 33 = .ok (.iload_n 1, 1) := by decide +kernel
theorem dX2_renew_34 : decode cX2_renew 34 = .ok (.imul, 1) := by decide +kernel
theorem dX2_renew_35 : decode cX2_renew 35 = .ok (.bipush 20, 2) := by decide +kernel
theorem dX2_renew_37 : decode cX2_renew 37 = .ok (.iload_n 1, 1) := by decide +kernel
theorem dX2_renew_38 : decode cX2_renew 38 = .ok (.iconst 1, 1) := by decide +kernel
theorem dX2_renew_39 : decode cX2_renew 39 = .ok (.iadd, 1) := by decide +kernel
theorem dX2_renew_40 : decode cX2_renew 40 = .ok (.imul, 1) := by decide +kernel
theorem dX2_renew_41 : decode cX2_renew 41 = .ok (.iconst 0, 1) := by decide +kernel
theorem dX2_renew_42 : decode cX2_renew 42 = .ok (.invokestatic 27, 3) := by decide +kernel
theorem dX2_renew_45 : decode cX2_renew 45 = .ok (.return_, 1) := by decide +kernel
theorem dX2_itemOf_0 : decode cX2_itemOf 0 = .ok (.iload_n 2, 1) := by decide +kernel
theorem dX2_itemOf_1 : decode cX2_itemOf 1 = .ok (.ifCond .lt 32, 3) := by decide +kernel
theorem dX2_itemOf_4 : decode cX2_itemOf 4 = .ok (.iload_n 2, 1) := by decide +kernel
theorem dX2_itemOf_5 : decode cX2_itemOf 5 = .ok (.aload_n 0, 1) := by decide +kernel
theorem dX2_itemOf_6 : decode cX2_itemOf 6 = .ok (.iload_n 1, 1) := by decide +kernel
theorem dX2_itemOf_7 : decode cX2_itemOf 7 = .ok (.invokevirtual 30, 3) := by decide +kernel
theorem dX2_itemOf_10 : decode cX2_itemOf 10 = .ok (.if_icmp .ge 23, 3) := by decide +kernel
theorem dX2_itemOf_13 : decode cX2_itemOf 13 = .ok (.iload_n 2, 1) := by decide +kernel
theorem dX2_itemOf_14 : decode cX2_itemOf 14 = .ok (.bipush 20, 2) := by decide +kernel
theorem dX2_itemOf_16 : decode cX2_itemOf 16 = .ok (.if_icmp .ge 17, 3) := by decide +kernel
theorem dX2_itemOf_19 : decode cX2_itemOf 19 = .ok (.aload_n 0, 1) := by decide +kernel
theorem dX2_itemOf_20 : decode cX2_itemOf 20 = .ok (.getfield 18, 3) := by decide +kernel
theorem dX2_itemOf_23 : decode cX2_itemOf 23 = .ok (.bipush 20, 2) := by decide +kernel
theorem dX2_itemOf_25 : decode cX2_itemOf 25 = .ok (.iload_n 1, 1) := by decide +kernel
theorem dX2_itemOf_26 : decode cX2_itemOf 26 = .ok (.imul, 1) := by decide +kernel
theorem dX2_itemOf_27 : decode cX2_itemOf 27 = .ok (.iload_n 2, 1) := by decide +kernel
theorem dX2_itemOf_28 : decode cX2_itemOf 28 = .ok (.iadd, 1) := by decide +kernel
theorem dX2_itemOf_29 : decode cX2_itemOf 29 = .ok (.iaload, 1) := by decide +kernel
theorem dX2_itemOf_30 : decode cX2_itemOf 30 = .ok (.goto 4, 3) := by decide +kernel
theorem dX2_itemOf_33 : decode cX2_itemOf 33 = .ok (.iconst 0, 1) := by decide +kernel
theorem dX2_itemOf_34 : decode cX2_itemOf 34 = .ok (.ireturn, 1) := by decide +kernel
theorem dX2_mixedInto_0 : decode cX2_mixedInto 0 = .ok (.iconst 0, 1) := by decide +kernel
theorem dX2_mixedInto_1 : decode cX2_mixedInto 1 = .ok (.istore_n 3, 1) := by decide +kernel
theorem dX2_mixedInto_2 : decode cX2_mixedInto 2 = .ok (.iload_n 3, 1) := by decide +kernel
theorem dX2_mixedInto_3 : decode cX2_mixedInto 3 = .ok (.bipush 8, 2) := by decide +kernel
theorem dX2_mixedInto_5 : decode cX2_mixedInto 5 = .ok (.if_icmp .ge 22, 3) := by decide +kernel
theorem dX2_mixedInto_8 : decode cX2_mixedInto 8 = .ok (.ldc2_w 34, 3) := by decide +kernel
theorem dX2_mixedInto_11 : decode cX2_mixedInto 11 = .ok (.lload_n 1, 1) := by decide +kernel
theorem dX2_mixedInto_12 : decode cX2_mixedInto 12 = .ok (.lmul, 1) := by decide +kernel
theorem dX2_mixedInto_13 : decode cX2_mixedInto 13 = .ok (.aload_n 0, 1) := by decide +kernel
theorem dX2_mixedInto_14 : decode cX2_mixedInto 14 = .ok (.iload_n 3, 1) := by decide +kernel
theorem dX2_mixedInto_15 : decode cX2_mixedInto 15 = .ok (.invokevirtual 36, 3) := by decide +kernel
theorem dX2_mixedInto_18 : decode cX2_mixedInto 18 = .ok (.i2l, 1) := by decide +kernel
theorem dX2_mixedInto_19 : decode cX2_mixedInto 19 = .ok (.ladd, 1) := by decide +kernel
theorem dX2_mixedInto_20 : decode cX2_mixedInto 20 = .ok (.lstore_n 1, 1) := by decide +kernel
theorem dX2_mixedInto_21 : decode cX2_mixedInto 21 = .ok (.iinc 3 1, 3) := by decide +kernel
theorem dX2_mixedInto_24 : decode cX2_mixedInto 24 = .ok (.goto (-22), 3) := by decide +kernel
theorem dX2_mixedInto_27 : decode cX2_mixedInto 27 = .ok (.iconst 0, 1) := by decide +kernel
theorem dX2_mixedInto_28 : decode cX2_mixedInto 28 = .ok (.istore_n 3, 1) := by decide +kernel
theorem dX2_mixedInto_29 : decode cX2_mixedInto 29 = .ok (.iload_n 3, 1) := by decide +kernel
theorem dX2_mixedInto_30 : decode cX2_mixedInto 30 = .ok (.iconst 4, 1) := by decide +kernel
theorem dX2_mixedInto_31 : decode cX2_mixedInto 31 = .ok (.if_icmp .ge 56, 3) := by decide +kernel
theorem dX2_mixedInto_34 : decode cX2_mixedInto 34 = .ok (.ldc2_w 34, 3) := by decide +kernel
theorem dX2_mixedInto_37 : decode cX2_mixedInto 37 = .ok (.lload_n 1, 1) := by decide +kernel
theorem dX2_mixedInto_38 : decode cX2_mixedInto 38 = .ok (.lmul, 1) := by decide +kernel
theorem dX2_mixedInto_39 : decode cX2_mixedInto 39 = .ok (.aload_n 0, 1) := by decide +kernel
theorem dX2_mixedInto_40 : decode cX2_mixedInto 40 = .ok (.iload_n 3, 1) := by decide +kernel
theorem dX2_mixedInto_41 : decode cX2_mixedInto 41 = .ok (.invokevirtual 30, 3) := by decide +kernel
theorem dX2_mixedInto_44 : decode cX2_mixedInto 44 = .ok (.i2l, 1) := by decide +kernel
theorem dX2_mixedInto_45 : decode cX2_mixedInto 45 = .ok (.ladd, 1) := by decide +kernel
theorem dX2_mixedInto_46 : decode cX2_mixedInto 46 = .ok (.lstore_n 1, 1) := by decide +kernel
theorem dX2_mixedInto_47 : decode cX2_mixedInto 47 = .ok (.iconst 0, 1) := by decide +kernel
theorem dX2_mixedInto_48 : decode cX2_mixedInto 48 = .ok (.istore 4, 2) := by decide +kernel
theorem dX2_mixedInto_50 : decode cX2_mixedInto 50 = .ok (.iload 4, 2) := by decide +kernel
theorem dX2_mixedInto_52 : decode cX2_mixedInto 52 = .ok (.aload_n 0, 1) := by decide +kernel
theorem dX2_mixedInto_53 : decode cX2_mixedInto 53 = .ok (.iload_n 3, 1) := by decide +kernel
theorem dX2_mixedInto_54 : decode cX2_mixedInto 54 = .ok (.invokevirtual 30, 3) := by decide +kernel
theorem dX2_mixedInto_57 : decode cX2_mixedInto 57 = .ok (.if_icmp .ge 24, 3) := by decide +kernel
theorem dX2_mixedInto_60 : decode cX2_mixedInto 60 = .ok (.ldc2_w 34, 3) := by decide +kernel
theorem dX2_mixedInto_63 : decode cX2_mixedInto 63 = .ok (.lload_n 1, 1) := by decide +kernel
theorem dX2_mixedInto_64 : decode cX2_mixedInto 64 = .ok (.lmul, 1) := by decide +kernel
theorem dX2_mixedInto_65 : decode cX2_mixedInto 65 = .ok (.aload_n 0, 1) := by decide +kernel
theorem dX2_mixedInto_66 : decode cX2_mixedInto 66 = .ok (.iload_n 3, 1) := by decide +kernel
theorem dX2_mixedInto_67 : decode cX2_mixedInto 67 = .ok (.iload 4, 2) := by decide +kernel
theorem dX2_mixedInto_69 : decode cX2_mixedInto 69 = .ok (.invokevirtual 39, 3) := by decide +kernel
theorem dX2_mixedInto_72 : decode cX2_mixedInto 72 = .ok (.i2l, 1) := by decide +kernel
theorem dX2_mixedInto_73 : decode cX2_mixedInto 73 = .ok (.ladd, 1) := by decide +kernel
theorem dX2_mixedInto_74 : decode cX2_mixedInto 74 = .ok (.lstore_n 1, 1) := by decide +kernel
theorem dX2_mixedInto_75 : decode cX2_mixedInto 75 = .ok (.iinc 4 1, 3) := by decide +kernel
theorem dX2_mixedInto_78 : decode cX2_mixedInto 78 = .ok (.goto (-28), 3) := by decide +kernel
theorem dX2_mixedInto_81 : decode cX2_mixedInto 81 = .ok (.iinc 3 1, 3) := by decide +kernel
theorem dX2_mixedInto_84 : decode cX2_mixedInto 84 = .ok (.goto (-55), 3) := by decide +kernel
theorem dX2_mixedInto_87 : decode cX2_mixedInto 87 = .ok (.lload_n 1, 1) := by decide +kernel
theorem dX2_mixedInto_88 : decode cX2_mixedInto 88 = .ok (.lreturn, 1) := by decide +kernel
theorem dX3_init_0 : decode cX3_init 0 = .ok (.aload_n 0, 1) := by decide +kernel
theorem dX3_init_1 : decode cX3_init 1 = .ok (.invokespecial 3, 3) := by decide +kernel
theorem dX3_init_4 : decode cX3_init 4 = .ok (.aload_n 0, 1) := by decide +kernel
theorem dX3_init_5 : decode cX3_init 5 = .ok (.sipush 7555, 3) := by decide +kernel
theorem dX3_init_8 : decode cX3_init 8 = .ok (.newarray .int, 2) := by decide +kernel
theorem dX3_init_10 : decode cX3_init 10 = .ok (.putfield 9, 3) := by decide +kernel
theorem dX3_init_13 : decode cX3_init 13 = .ok (.aload_n 0, 1) := by decide +kernel
theorem dX3_init_14 : decode cX3_init 14 = .ok (.bipush 60, 2) := by decide +kernel
theorem dX3_init_16 : decode cX3_init 16 = .ok (.newarray .int, 2) := by decide +kernel
theorem dX3_init_18 : decode cX3_init 18 = .ok (.putfield 15, 3) := by decide +kernel
theorem dX3_init_21 : decode cX3_init 21 = .ok (.return_, 1) := by decide +kernel
theorem dX4_init_0 : decode cX4_init 0 = .ok (.aload_n 0, 1) := by decide +kernel
theorem dX4_init_1 : decode cX4_init 1 = .ok (.invokespecial 3, 3) := by decide +kernel
theorem dX4_init_4 : decode cX4_init 4 = .ok (.aload_n 0, 1) := by decide +kernel
theorem dX4_init_5 : decode cX4_init 5 = .ok (.bipush 15, 2) := by decide +kernel
theorem dX4_init_7 : decode cX4_init 7 = .ok (.newarray .int, 2) := by decide +kernel
theorem dX4_init_9 : decode cX4_init 9 = .ok (.putfield 9, 3) := by decide +kernel
theorem dX4_init_12 : decode cX4_init 12 = .ok (.return_, 1) := by decide +kernel
theorem dX5_init_0 : decode cX5_init 0 = .ok (.aload_n 0, 1) := by decide +kernel
theorem dX5_init_1 : decode cX5_init 1 = .ok (.invokespecial 3, 3) := by decide +kernel
theorem dX5_init_4 : decode cX5_init 4 = .ok (.aload_n 0, 1) := by decide +kernel
theorem dX5_init_5 : decode cX5_init 5 = .ok (.bipush 11, 2) := by decide +kernel
theorem dX5_init_7 : decode cX5_init 7 = .ok (.newarray .int, 2) := by decide +kernel
theorem dX5_init_9 : decode cX5_init 9 = .ok (.putfield 9, 3) := by decide +kernel
theorem dX5_init_12 : decode cX5_init 12 = .ok (.aload_n 0, 1) := by decide +kernel
theorem dX5_init_13 : decode cX5_init 13 = .ok (.bipush 11, 2) := by decide +kernel
theorem dX5_init_15 : decode cX5_init 15 = .ok (.newarray .boolean, 2) := by decide +kernel
theorem dX5_init_17 : decode cX5_init 17 = .ok (.putfield 15, 3) := by decide +kernel
theorem dX5_init_20 : decode cX5_init 20 = .ok (.aload_n 0, 1) := by decide +kernel
theorem dX5_init_21 : decode cX5_init 21 = .ok (.bipush 11, 2) := by decide +kernel
theorem dX5_init_23 : decode cX5_init 23 = .ok (.newarray .boolean, 2) := by decide +kernel
theorem dX5_init_25 : decode cX5_init 25 = .ok (.putfield 19, 3) := by decide +kernel
theorem dX5_init_28 : decode cX5_init 28 = .ok (.return_, 1) := by decide +kernel
theorem dX6_init_0 : decode cX6_init 0 = .ok (.aload_n 0, 1) := by decide +kernel
theorem dX6_init_1 : decode cX6_init 1 = .ok (.invokespecial 3, 3) := by decide +kernel
theorem dX6_init_4 : decode cX6_init 4 = .ok (.aload_n 0, 1) := by decide +kernel
theorem dX6_init_5 : decode cX6_init 5 = .ok (.bipush 60, 2) := by decide +kernel
theorem dX6_init_7 : decode cX6_init 7 = .ok (.newarray .boolean, 2) := by decide +kernel
theorem dX6_init_9 : decode cX6_init 9 = .ok (.putfield 9, 3) := by decide +kernel
theorem dX6_init_12 : decode cX6_init 12 = .ok (.aload_n 0, 1) := by decide +kernel
theorem dX6_init_13 : decode cX6_init 13 = .ok (.aload_n 1, 1) := by decide +kernel
theorem dX6_init_14 : decode cX6_init 14 = .ok (.putfield 15, 3) := by decide +kernel
theorem dX6_init_17 : decode cX6_init 17 = .ok (.aload_n 0, 1) := by decide +kernel
theorem dX6_init_18 : decode cX6_init 18 = .ok (.aload_n 2, 1) := by decide +kernel
theorem dX6_init_19 : decode cX6_init 19 = .ok (.putfield 19, 3) := by decide +kernel
theorem dX6_init_22 : decode cX6_init 22 = .ok (.return_, 1) := by decide +kernel
theorem dX7_init_0 : decode cX7_init 0 = .ok (.aload_n 0, 1) := by decide +kernel
theorem dX7_init_1 : decode cX7_init 1 = .ok (.invokespecial 3, 3) := by decide +kernel
theorem dX7_init_4 : decode cX7_init 4 = .ok (.aload_n 0, 1) := by decide +kernel
theorem dX7_init_5 : decode cX7_init 5 = .ok (.new 9, 3) := by decide +kernel
theorem dX7_init_8 : decode cX7_init 8 = .ok (.dup, 1) := by decide +kernel
theorem dX7_init_9 : decode cX7_init 9 = .ok (.invokespecial 11, 3) := by decide +kernel
theorem dX7_init_12 : decode cX7_init 12 = .ok (.putfield 12, 3) := by decide +kernel
theorem dX7_init_15 : decode cX7_init 15 = .ok (.aload_n 0, 1) := by decide +kernel
theorem dX7_init_16 : decode cX7_init 16 = .ok (.bipush 16, 2) := by decide +kernel
theorem dX7_init_18 : decode cX7_init 18 = .ok (.anewarray 18, 3) := by decide +kernel
theorem dX7_init_21 : decode cX7_init 21 = .ok (.putfield 20, 3) := by decide +kernel
theorem dX7_init_24 : decode cX7_init 24 = .ok (.aload_n 0, 1) := by decide +kernel
theorem dX7_init_25 : decode cX7_init 25 = .ok (.iconst 3, 1) := by decide +kernel
theorem dX7_init_26 : decode cX7_init 26 = .ok (.newarray .int, 2) := by decide +kernel
theorem dX7_init_28 : decode cX7_init 28 = .ok (.putfield 24, 3) := by decide +kernel
theorem dX7_init_31 : decode cX7_init 31 = .ok (.aload_n 0, 1) := by decide +kernel
theorem dX7_init_32 : decode cX7_init 32 = .ok (.aload_n 1, 1) := by decide +kernel
theorem dX7_init_33 : decode cX7_init 33 = .ok (.putfield 28, 3) := by decide +kernel
theorem dX7_init_36 : decode cX7_init 36 = .ok (.aload_n 0, 1) := by decide +kernel
theorem dX7_init_37 : decode cX7_init 37 = .ok (.aload_n 2, 1) := by decide +kernel
theorem dX7_init_38 : decode cX7_init 38 = .ok (.putfield 32, 3) := by decide +kernel
theorem dX7_init_41 : decode cX7_init 41 = .ok (.aload_n 0, 1) := by decide +kernel
theorem dX7_init_42 : decode cX7_init 42 = .ok (.new 36, 3) := by decide +kernel
theorem dX7_init_45 : decode cX7_init 45 = .ok (.dup, 1) := by decide +kernel
theorem dX7_init_46 : decode cX7_init 46 = .ok (.aload_n 3, 1) := by decide +kernel
theorem dX7_init_47 : decode cX7_init 47 = .ok (.invokespecial 38, 3) := by decide +kernel
theorem dX7_init_50 : decode cX7_init 50 = .ok (.putfield 41, 3) := by decide +kernel
theorem dX7_init_53 : decode cX7_init 53 = .ok (.iconst 0, 1) := by decide +kernel
theorem dX7_init_54 : decode cX7_init 54 = .ok (.istore 4, 2) := by decide +kernel
theorem dX7_init_56 : decode cX7_init 56 = .ok (.iload 4, 2) := by decide +kernel
theorem dX7_init_58 : decode cX7_init 58 = .ok (.bipush 16, 2) := by decide +kernel
theorem dX7_init_60 : decode cX7_init 60 = .ok (.if_icmp .ge 23, 3) := by decide +kernel
theorem dX7_init_63 : decode cX7_init 63 = .ok (.aload_n 0, 1) := by decide +kernel
theorem dX7_init_64 : decode cX7_init 64 = .ok (.getfield 20, 3) := by decide +kernel
theorem dX7_init_67 : decode cX7_init 67 = .ok (.iload 4, 2) := by decide +kernel
theorem dX7_init_69 : decode cX7_init 69 = .ok (.new 18, 3) := by decide +kernel
theorem dX7_init_72 : decode cX7_init 72 = .ok (.dup, 1) := by decide +kernel
theorem dX7_init_73 : decode cX7_init 73 = .ok (.invokespecial 45, 3) := by decide +kernel
theorem dX7_init_76 : decode cX7_init 76 = .ok (.aastore, 1) := by decide +kernel
theorem dX7_init_77 : decode cX7_init 77 = .ok (.iinc 4 1, 3) := by decide +kernel
theorem dX7_init_80 : decode cX7_init 80 = .ok (.goto (-24), 3) := by decide +kernel
theorem dX7_init_83 : decode cX7_init 83 = .ok (.return_, 1) := by decide +kernel
theorem dX8_init_0 : decode cX8_init 0 = .ok (.aload_n 0, 1) := by decide +kernel
theorem dX8_init_1 : decode cX8_init 1 = .ok (.invokespecial 3, 3) := by decide +kernel
theorem dX8_init_4 : decode cX8_init 4 = .ok (.aload_n 0, 1) := by decide +kernel
theorem dX8_init_5 : decode cX8_init 5 = .ok (.new 9, 3) := by decide +kernel
theorem dX8_init_8 : decode cX8_init 8 = .ok (.dup, 1) := by decide +kernel
theorem dX8_init_9 : decode cX8_init 9 = .ok (.invokespecial 11, 3) := by decide +kernel
theorem dX8_init_12 : decode cX8_init 12 = .ok (.putfield 12, 3) := by decide +kernel
theorem dX8_init_15 : decode cX8_init 15 = .ok (.aload_n 0, 1) := by decide +kernel
theorem dX8_init_16 : decode cX8_init 16 = .ok (.bipush 60, 2) := by decide +kernel
theorem dX8_init_18 : decode cX8_init 18 = .ok (.newarray .int, 2) := by decide +kernel
theorem dX8_init_20 : decode cX8_init 20 = .ok (.putfield 18, 3) := by decide +kernel
theorem dX8_init_23 : decode cX8_init 23 = .ok (.aload_n 0, 1) := by decide +kernel
theorem dX8_init_24 : decode cX8_init 24 = .ok (.bipush 60, 2) := by decide +kernel
theorem dX8_init_26 : decode cX8_init 26 = .ok (.newarray .int, 2) := by decide +kernel
theorem dX8_init_28 : decode cX8_init 28 = .ok (.putfield 22, 3) := by decide +kernel
theorem dX8_init_31 : decode cX8_init 31 = .ok (.aload_n 0, 1) := by decide +kernel
theorem dX8_init_32 : decode cX8_init 32 = .ok (.bipush 60, 2) := by decide +kernel
theorem dX8_init_34 : decode cX8_init 34 = .ok (.newarray .int, 2) := by decide +kernel
theorem dX8_init_36 : decode cX8_init 36 = .ok (.putfield 25, 3) := by decide +kernel
theorem dX8_init_39 : decode cX8_init 39 = .ok (.aload_n 0, 1) := by decide +kernel
theorem dX8_init_40 : decode cX8_init 40 = .ok (.iconst (-1), 1) := by decide +kernel
theorem dX8_init_41 : decode cX8_init 41 = .ok (.putfield 28, 3) := by decide +kernel
theorem dX8_init_44 : decode cX8_init 44 = .ok (.aload_n 0, 1) := by decide +kernel
theorem dX8_init_45 : decode cX8_init 45 = .ok (.iload_n 1, 1) := by decide +kernel
theorem dX8_init_46 : decode cX8_init 46 = .ok (.putfield 32, 3) := by decide +kernel
theorem dX8_init_49 : decode cX8_init 49 = .ok (.aload_n 0, 1) := by decide +kernel
theorem dX8_init_50 : decode cX8_init 50 = .ok (.iload_n 2, 1) := by decide +kernel
theorem dX8_init_51 : decode cX8_init 51 = .ok (.putfield 35, 3) := by decide +kernel
theorem dX8_init_54 : decode cX8_init 54 = .ok (.aload_n 0, 1) := by decide +kernel
theorem dX8_init_55 : decode cX8_init 55 = .ok (.iload_n 3, 1) := by decide +kernel
theorem dX8_init_56 : decode cX8_init 56 = .ok (.putfield 38, 3) := by decide +kernel
theorem dX8_init_59 : decode cX8_init 59 = .ok (.return_, 1) := by decide +kernel
theorem dX9_init_0 : decode cX9_init 0 = .ok (.aload_n 0, 1) := by decide +kernel
theorem dX9_init_1 : decode cX9_init 1 = .ok (.invokespecial 3, 3) := by decide +kernel
theorem dX9_init_4 : decode cX9_init 4 = .ok (.aload_n 0, 1) := by decide +kernel
theorem dX9_init_5 : decode cX9_init 5 = .ok (.bipush 15, 2) := by decide +kernel
theorem dX9_init_7 : decode cX9_init 7 = .ok (.newarray .boolean, 2) := by decide +kernel
theorem dX9_init_9 : decode cX9_init 9 = .ok (.putfield 9, 3) := by decide +kernel
theorem dX9_init_12 : decode cX9_init 12 = .ok (.aload_n 0, 1) := by decide +kernel
theorem dX9_init_13 : decode cX9_init 13 = .ok (.bipush 15, 2) := by decide +kernel
theorem dX9_init_15 : decode cX9_init 15 = .ok (.newarray .int, 2) := by decide +kernel
theorem dX9_init_17 : decode cX9_init 17 = .ok (.putfield 15, 3) := by decide +kernel
theorem dX9_init_20 : decode cX9_init 20 = .ok (.aload_n 0, 1) := by decide +kernel
theorem dX9_init_21 : decode cX9_init 21 = .ok (.bipush 60, 2) := by decide +kernel
theorem dX9_init_23 : decode cX9_init 23 = .ok (.newarray .boolean, 2) := by decide +kernel
theorem dX9_init_25 : decode cX9_init 25 = .ok (.putfield 19, 3) := by decide +kernel
theorem dX9_init_28 : decode cX9_init 28 = .ok (.aload_n 0, 1) := by decide +kernel
theorem dX9_init_29 : decode cX9_init 29 = .ok (.bipush 11, 2) := by decide +kernel
theorem dX9_init_31 : decode cX9_init 31 = .ok (.newarray .boolean, 2) := by decide +kernel
theorem dX9_init_33 : decode cX9_init 33 = .ok (.putfield 22, 3) := by decide +kernel
theorem dX9_init_36 : decode cX9_init 36 = .ok (.aload_n 0, 1) := by decide +kernel
theorem dX9_init_37 : decode cX9_init 37 = .ok (.aload_n 1, 1) := by decide +kernel
theorem dX9_init_38 : decode cX9_init 38 = .ok (.putfield 25, 3) := by decide +kernel
theorem dX9_init_41 : decode cX9_init 41 = .ok (.return_, 1) := by decide +kernel
theorem dX10_init_0 : decode cX10_init 0 = .ok (.aload_n 0, 1) := by decide +kernel
theorem dX10_init_1 : decode cX10_init 1 = .ok (.invokespecial 3, 3) := by decide +kernel
theorem dX10_init_4 : decode cX10_init 4 = .ok (.aload_n 0, 1) := by decide +kernel
theorem dX10_init_5 : decode cX10_init 5 = .ok (.iconst 4, 1) := by decide +kernel
theorem dX10_init_6 : decode cX10_init 6 = .ok (.newarray .int, 2) := by decide +kernel
theorem dX10_init_8 : decode cX10_init 8 = .ok (.putfield 9, 3) := by decide +kernel
theorem dX10_init_11 : decode cX10_init 11 = .ok (.return_, 1) := by decide +kernel
theorem dX10_ofTrap_0 : decode cX10_ofTrap 0 = .ok (.iload_n 1, 1) := by decide +kernel
theorem dX10_ofTrap_1 : decode cX10_ofTrap 1 = .ok (.ifCond .lt 17, 3) := by decide +kernel
theorem dX10_ofTrap_4 : decode cX10_ofTrap 4 = .ok (.iload_n 1, 1) := by decide +kernel
theorem dX10_ofTrap_5 : decode cX10_ofTrap 5 = .ok (.iconst 4, 1) := by decide +kernel
theorem dX10_ofTrap_6 : decode cX10_ofTrap 6 = .ok (.if_icmp .ge 12, 3) := by decide +kernel
theorem dX10_ofTrap_9 : decode cX10_ofTrap 9 = .ok (.aload_n 0, 1) := by decide +kernel
theorem dX10_ofTrap_10 : decode cX10_ofTrap 10 = .ok (.getfield 9, 3) := by decide +kernel
theorem dX10_ofTrap_13 : decode cX10_ofTrap 13 = .ok (.iload_n 1, 1) := by decide +kernel
theorem dX10_ofTrap_14 : decode cX10_ofTrap 14 = .ok (.iaload, 1) := by decide +kernel
theorem dX10_ofTrap_15 : decode cX10_ofTrap 15 = .ok (.goto 5, 3) := by decide +kernel
theorem dX10_ofTrap_18 : decode cX10_ofTrap 18 = .ok (.bipush (-2), 2) := by decide +kernel
theorem dX10_ofTrap_20 : decode cX10_ofTrap 20 = .ok (.ireturn, 1) := by decide +kernel
theorem dX10_mixedInto_0 : decode cX10_mixedInto 0 = .ok (.ldc2_w 38, 3) := by decide +kernel
theorem dX10_mixedInto_3 : decode cX10_mixedInto 3 = .ok (.lload_n 1, 1) := by decide +kernel
theorem dX10_mixedInto_4 : decode cX10_mixedInto 4 = .ok (.lmul, 1) := by decide +kernel
theorem dX10_mixedInto_5 : decode cX10_mixedInto 5 = .ok (.aload_n 0, 1) := by decide +kernel
theorem dX10_mixedInto_6 : decode cX10_mixedInto 6 = .ok (.getfield 31, 3) := by decide +kernel
theorem dX10_mixedInto_9 : decode cX10_mixedInto 9 = .ok (.i2l, 1) := by decide +kernel
theorem dX10_mixedInto_10 : decode cX10_mixedInto 10 = .ok (.ladd, 1) := by decide +kernel
theorem dX10_mixedInto_11 : decode cX10_mixedInto 11 = .ok (.lstore_n 1, 1) := by decide +kernel
theorem dX10_mixedInto_12 : decode cX10_mixedInto 12 = .ok (.iconst 0, 1) := by decide +kernel
theorem dX10_mixedInto_13 : decode cX10_mixedInto 13 = .ok (.istore_n 3, 1) := by decide +kernel
theorem dX10_mixedInto_14 : decode cX10_mixedInto 14 = .ok (.iload_n 3, 1) := by decide +kernel
theorem dX10_mixedInto_15 : decode cX10_mixedInto 15 = .ok (.iconst 4, 1) := by decide +kernel
theorem dX10_mixedInto_16 : decode cX10_mixedInto 16 = .ok (.if_icmp .ge 23, 3) := by decide +kernel
theorem dX10_mixedInto_19 : decode cX10_mixedInto 19 = .ok (.ldc2_w 38, 3) := by decide +kernel
theorem dX10_mixedInto_22 : decode cX10_mixedInto 22 = .ok (.lload_n 1, 1) := by decide +kernel
theorem dX10_mixedInto_23 : decode cX10_mixedInto 23 = .ok (.lmul, 1) := by decide +kernel
theorem dX10_mixedInto_24 : decode cX10_mixedInto 24 = .ok (.aload_n 0, 1) := by decide +kernel
theorem dX10_mixedInto_25 : decode cX10_mixedInto 25 = .ok (.getfield 9, 3) := by decide +kernel
theorem dX10_mixedInto_28 : decode cX10_mixedInto 28 = .ok (.iload_n 3, 1) := by decide +kernel
theorem dX10_mixedInto_29 : decode cX10_mixedInto 29 = .ok (.iaload, 1) := by decide +kernel
theorem dX10_mixedInto_30 : decode cX10_mixedInto 30 = .ok (.i2l, 1) := by decide +kernel
theorem dX10_mixedInto_31 : decode cX10_mixedInto 31 = .ok (.ladd, 1) := by decide +kernel
theorem dX10_mixedInto_32 : decode cX10_mixedInto 32 = .ok (.lstore_n 1, 1) := by decide +kernel
theorem dX10_mixedInto_33 : decode cX10_mixedInto 33 = .ok (.iinc 3 1, 3) := by decide +kernel
theorem dX10_mixedInto_36 : decode cX10_mixedInto 36 = .ok (.goto (-22), 3) := by decide +kernel
theorem dX10_mixedInto_39 : decode cX10_mixedInto 39 = .ok (.lload_n 1, 1) := by decide +kernel
theorem dX10_mixedInto_40 : decode cX10_mixedInto 40 = .ok (.lreturn, 1) := by decide +kernel
theorem dX11_init_0 : decode cX11_init 0 = .ok (.aload_n 0, 1) := by decide +kernel
theorem dX11_init_1 : decode cX11_init 1 = .ok (.invokespecial 3, 3) := by decide +kernel
theorem dX11_init_4 : decode cX11_init 4 = .ok (.new 9, 3) := by decide +kernel
theorem dX11_init_7 : decode cX11_init 7 = .ok (.dup, 1) := by decide +kernel
theorem dX11_init_8 : decode cX11_init 8 = .ok (.invokespecial 11, 3) := by decide +kernel
theorem dX11_init_11 : decode cX11_init 11 = .ok (.astore_n 1, 1) := by decide +kernel
theorem dX11_init_12 : decode cX11_init 12 = .ok (.aload_n 0, 1) := by decide +kernel
theorem dX11_init_13 : decode cX11_init 13 = .ok (.new 12, 3) := by decide +kernel
theorem dX11_init_16 : decode cX11_init 16 = .ok (.dup, 1) := by decide +kernel
theorem dX11_init_17 : decode cX11_init 17 = .ok (.invokespecial 14, 3) := by decide +kernel
theorem dX11_init_20 : decode cX11_init 20 = .ok (.putfield 15, 3) := by decide +kernel
theorem dX11_init_23 : decode cX11_init 23 = .ok (.aload_n 0, 1) := by decide +kernel
theorem dX11_init_24 : decode cX11_init 24 = .ok (.new 19, 3) := by decide +kernel
theorem dX11_init_27 : decode cX11_init 27 = .ok (.dup, 1) := by decide +kernel
theorem dX11_init_28 : decode cX11_init 28 = .ok (.invokespecial 21, 3) := by decide +kernel
theorem dX11_init_31 : decode cX11_init 31 = .ok (.putfield 22, 3) := by decide +kernel
theorem dX11_init_34 : decode cX11_init 34 = .ok (.aload_n 0, 1) := by decide +kernel
theorem dX11_init_35 : decode cX11_init 35 = .ok (.new 26, 3) := by decide +kernel
theorem dX11_init_38 : decode cX11_init 38 = .ok (.dup, 1) := by decide +kernel
theorem dX11_init_39 : decode cX11_init 39 = .ok (.aload_n 0, 1) := by decide +kernel
theorem dX11_init_40 : decode cX11_init 40 = .ok (.getfield 15, 3) := by decide +kernel
theorem dX11_init_43 : decode cX11_init 43 = .ok (.aload_n 1, 1) := by decide +kernel
theorem dX11_init_44 : decode cX11_init 44 = .ok (.invokespecial 28, 3) := by decide +kernel
theorem dX11_init_47 : decode cX11_init 47 = .ok (.putfield 31, 3) := by decide +kernel
theorem dX11_init_50 : decode cX11_init 50 = .ok (.aload_n 0, 1) := by decide +kernel
theorem dX11_init_51 : decode cX11_init 51 = .ok (.new 35, 3) := by decide +kernel
theorem dX11_init_54 : decode cX11_init 54 = .ok (.dup, 1) := by decide +kernel
theorem dX11_init_55 : decode cX11_init 55 = .ok (.aload_n 0, 1) := by decide +kernel
theorem dX11_init_56 : decode cX11_init 56 = .ok (.getfield 15, 3) := by decide +kernel
theorem dX11_init_59 : decode cX11_init 59 = .ok (.aload_n 0, 1) := by decide +kernel
theorem dX11_init_60 : decode cX11_init 60 = .ok (.getfield 22, 3) := by decide +kernel
theorem dX11_init_63 : decode cX11_init 63 = .ok (.aload_n 1, 1) := by decide +kernel
theorem dX11_init_64 : decode cX11_init 64 = .ok (.invokespecial 37, 3) := by decide +kernel
theorem dX11_init_67 : decode cX11_init 67 = .ok (.putfield 40, 3) := by decide +kernel
theorem dX11_init_70 : decode cX11_init 70 = .ok (.return_, 1) := by decide +kernel
theorem dX11_method_0 : decode cX11_method 0 = .ok (.iload_n 1, 1) := by decide +kernel
theorem dX11_method_1 : decode cX11_method 1 = .ok (.ifCond .lt 19, 3) := by decide +kernel
theorem dX11_method_4 : decode cX11_method 4 = .ok (.iload_n 1, 1) := by decide +kernel
theorem dX11_method_5 : decode cX11_method 5 = .ok (.iconst 3, 1) := by decide +kernel
theorem dX11_method_6 : decode cX11_method 6 = .ok (.if_icmp .gt 14, 3) := by decide +kernel
theorem dX11_method_9 : decode cX11_method 9 = .ok (.iload_n 2, 1) := by decide +kernel
theorem dX11_method_10 : decode cX11_method 10 = .ok (.iload_n 1, 1) := by decide +kernel
theorem dX11_method_11 : decode cX11_method 11 = .ok (.if_icmp .lt 9, 3) := by decide +kernel
theorem dX11_method_14 : decode cX11_method 14 = .ok (.iload_n 2, 1) := by decide +kernel
theorem dX11_method_15 : decode cX11_method 15 = .ok (.bipush 6, 2) := by decide +kernel
theorem dX11_method_17 : decode cX11_method 17 = .ok (.if_icmp .le 6, 3) := by decide +kernel
theorem dX11_method_20 : decode cX11_method 20 = .ok (.bipush (-2), 2) := by decide +kernel
theorem dX11_method_22 : decode cX11_method 22 = .ok (.ireturn, 1) := by decide +kernel
theorem dX11_method_23 : decode cX11_method 23 = .ok (.aload_n 0, 1) := by decide +kernel
theorem dX11_method_24 : decode cX11_method 24 = .ok (.getfield 15, 3) := by decide +kernel
theorem dX11_method_27 : decode cX11_method 27 = .ok (.iload_n 1, 1) := by decide +kernel
theorem dX11_method_28 : decode cX11_method 28 = .ok (.iload_n 2, 1) := by decide +kernel
theorem dX11_method_29 : decode cX11_method 29 = .ok (.invokevirtual 44, 3) := by decide +kernel
theorem dX11_method_32 : decode cX11_method 32 = .ok (.ireturn, 1) := by decide +kernel
theorem dX11_write_0 : decode cX11_write 0 = .ok (.aload_n 0, 1) := by decide +kernel
theorem dX11_write_1 : decode cX11_write 1 = .ok (.getfield 15, 3) := by decide +kernel
theorem dX11_write_4 : decode cX11_write 4 = .ok (.iload_n 1, 1) := by decide +kernel
theorem dX11_write_5 : decode cX11_write 5 = .ok (.invokevirtual 48, 3) := by decide +kernel
theorem dX11_write_8 : decode cX11_write 8 = .ok (.astore 4, 2) := by decide +kernel
theorem dX11_write_10 : decode cX11_write 10 = .ok (.aload 4, 2) := by decide +kernel
theorem dX11_write_12 : decode cX11_write 12 = .ok (.ifnull 13, 3) := by decide +kernel
theorem dX11_write_15 : decode cX11_write 15 = .ok (.iload_n 2, 1) := by decide +kernel
theorem dX11_write_16 : decode cX11_write 16 = .ok (.ifCond .lt 9, 3) := by decide +kernel
theorem dX11_write_19 : decode cX11_write 19 = .ok (.iload_n 2, 1) := by decide +kernel
theorem dX11_write_20 : decode cX11_write 20 = .ok (.bipush 20, 2) := by decide +kernel
theorem dX11_write_22 : decode cX11_write 22 = .ok (.if_icmp .lt 6, 3) := by decide +kernel
theorem dX11_write_25 : decode cX11_write 25 = .ok (.bipush (-2), 2) := by decide +kernel
theorem dX11_write_27 : decode cX11_write 27 = .ok (.ireturn, 1) := by decide +kernel
theorem dX11_write_28 : decode cX11_write 28 = .ok (.aload 4, 2) := by decide +kernel
theorem dX11_write_30 : decode cX11_write 30 = .ok (.invokevirtual 52, 3) := by decide +kernel
theorem dX11_write_33 : decode cX11_write 33 = .ok (.ifCond .eq 6, 3) := by decide +kernel
theorem dX11_write_36 : decode cX11_write 36 = .ok (.bipush (-3), 2) := by decide +kernel
theorem dX11_write_38 : decode cX11_write 38 = .ok (.ireturn, 1) := by decide +kernel
theorem dX11_write_39 : decode cX11_write 39 = .ok (.aload 4, 2) := by decide +kernel
theorem dX11_write_41 : decode cX11_write 41 = .ok (.iload_n 2, 1) := by decide +kernel
theorem dX11_write_42 : decode cX11_write 42 = .ok (.iload_n 3, 1) := by decide +kernel
theorem dX11_write_43 : decode cX11_write 43 = .ok (.invokevirtual 58, 3) := by decide +kernel
theorem dX11_write_46 : decode cX11_write 46 = .ok (.ireturn, 1) := by decide +kernel
theorem dX11_look_0 : decode cX11_look 0 = .ok (.aload_n 0, 1) := by decide +kernel
theorem dX11_look_1 : decode cX11_look 1 = .ok (.getfield 15, 3) := by decide +kernel
theorem dX11_look_4 : decode cX11_look 4 = .ok (.iload_n 1, 1) := by decide +kernel
theorem dX11_look_5 : decode cX11_look 5 = .ok (.invokevirtual 48, 3) := by decide +kernel
theorem dX11_look_8 : decode cX11_look 8 = .ok (.astore_n 2, 1) := by decide +kernel
theorem dX11_look_9 : decode cX11_look 9 = .ok (.aload_n 2, 1) := by decide +kernel
theorem dX11_look_10 : decode cX11_look 10 = .ok (.ifnonnull 6, 3) := by decide +kernel
theorem dX11_look_13 : decode cX11_look 13 = .ok (.bipush (-2), 2) := by decide +kernel
theorem dX11_look_15 : decode cX11_look 15 = .ok (.ireturn, 1) := by decide +kernel
theorem dX11_look_16 : decode cX11_look 16 = .ok (.aload_n 2, 1) := by decide +kernel
theorem dX11_look_17 : decode cX11_look 17 = .ok (.invokevirtual 52, 3) := by decide +kernel
theorem dX11_look_20 : decode cX11_look 20 = .ok (.ifCond .eq 6, 3) := by decide +kernel
theorem dX11_look_23 : decode cX11_look 23 = .ok (.bipush (-3), 2) := by decide +kernel
theorem dX11_look_25 : decode cX11_look 25 = .ok (.ireturn, 1) := by decide +kernel
theorem dX11_look_26 : decode cX11_look 26 = .ok (.aload_n 0, 1) := by decide +kernel
theorem dX11_look_27 : decode cX11_look 27 = .ok (.getfield 31, 3) := by decide +kernel
theorem dX11_look_30 : decode cX11_look 30 = .ok (.aload_n 2, 1) := by decide +kernel
theorem dX11_look_31 : decode cX11_look 31 = .ok (.invokevirtual 61, 3) := by decide +kernel
theorem dX11_look_34 : decode cX11_look 34 = .ok (.ireturn, 1) := by decide +kernel
theorem dX11_fault_0 : decode cX11_fault 0 = .ok (.aload_n 0, 1) := by decide +kernel
theorem dX11_fault_1 : decode cX11_fault 1 = .ok (.getfield 31, 3) := by decide +kernel
theorem dX11_fault_4 : decode cX11_fault 4 = .ok (.getfield 65, 3) := by decide +kernel
theorem dX11_fault_7 : decode cX11_fault 7 = .ok (.ireturn, 1) := by decide +kernel
theorem dX11_keep_0 : decode cX11_keep 0 = .ok (.iload_n 1, 1) := by decide +kernel
theorem dX11_keep_1 : decode cX11_keep 1 = .ok (.ifCond .lt 9, 3) := by decide +kernel
theorem dX11_keep_4 : decode cX11_keep 4 = .ok (.iload_n 1, 1) := by decide +kernel
theorem dX11_keep_5 : decode cX11_keep 5 = .ok (.bipush 8, 2) := by decide +kernel
theorem dX11_keep_7 : decode cX11_keep 7 = .ok (.if_icmp .lt 6, 3) := by decide +kernel
theorem dX11_keep_10 : decode cX11_keep 10 = .ok (.ldc 69, 2) := by decide +kernel
theorem dX11_keep_12 : decode cX11_keep 12 = .ok (.ireturn, 1) := by decide +kernel
theorem dX11_keep_13 : decode cX11_keep 13 = .ok (.aload_n 0, 1) := by decide +kernel
theorem dX11_keep_14 : decode cX11_keep 14 = .ok (.getfield 22, 3) := by decide +kernel
theorem dX11_keep_17 : decode cX11_keep 17 = .ok (.iload_n 1, 1) := by decide +kernel
theorem dX11_keep_18 : decode cX11_keep 18 = .ok (.invokevirtual 70, 3) := by decide +kernel
theorem dX11_keep_21 : decode cX11_keep 21 = .ok (.istore_n 3, 1) := by decide +kernel
theorem dX11_keep_22 : decode cX11_keep 22 = .ok (.aload_n 0, 1) := by decide +kernel
theorem dX11_keep_23 : decode cX11_keep 23 = .ok (.getfield 22, 3) := by decide +kernel
theorem dX11_keep_26 : decode cX11_keep 26 = .ok (.iload_n 1, 1) := by decide +kernel
theorem dX11_keep_27 : decode cX11_keep 27 = .ok (.iload_n 2, 1) := by decide +kernel
theorem dX11_keep_28 : decode cX11_keep 28 = .ok (.invokevirtual 74, 3) := by decide +kernel
theorem dX11_keep_31 : decode cX11_keep 31 = .ok (.iload_n 3, 1) := by decide +kernel
theorem dX11_keep_32 : decode cX11_keep 32 = .ok (.ireturn, 1) := by decide +kernel
theorem dX11_field_0 : decode cX11_field 0 = .ok (.iload_n 1, 1) := by decide +kernel
theorem dX11_field_1 : decode cX11_field 1 = .ok (.ifCond .lt 9, 3) := by decide +kernel
theorem dX11_field_4 : decode cX11_field 4 = .ok (.iload_n 1, 1) := by decide +kernel
theorem dX11_field_5 : decode cX11_field 5 = .ok (.bipush 8, 2) := by decide +kernel
theorem dX11_field_7 : decode cX11_field 7 = .ok (.if_icmp .lt 8, 3) := by decide +kernel
theorem dX11_field_10 : decode cX11_field 10 = .ok (.ldc 69, 2) := by decide +kernel
theorem dX11_field_12 : decode cX11_field 12 = .ok (.goto 11, 3) := by decide +kernel
theorem dX11_field_15 : decode cX11_field 15 = .ok (.aload_n 0, 1) := by decide +kernel
theorem dX11_field_16 : decode cX11_field 16 = .ok (.getfield 22, 3) := by decide +kernel
theorem dX11_field_19 : decode cX11_field 19 = .ok (.iload_n 1, 1) := by decide +kernel
theorem dX11_field_20 : decode cX11_field 20 = .ok (.invokevirtual 70, 3) := by decide +kernel
theorem dX11_field_23 : decode cX11_field 23 = .ok (.ireturn, 1) := by decide +kernel
theorem dX11_lose_0 : decode cX11_lose 0 = .ok (.iload_n 1, 1) := by decide +kernel
theorem dX11_lose_1 : decode cX11_lose 1 = .ok (.ifCond .lt 8, 3) := by decide +kernel
theorem dX11_lose_4 : decode cX11_lose 4 = .ok (.iload_n 1, 1) := by decide +kernel
theorem dX11_lose_5 : decode cX11_lose 5 = .ok (.iconst 4, 1) := by decide +kernel
theorem dX11_lose_6 : decode cX11_lose 6 = .ok (.if_icmp .lt 6, 3) := by decide +kernel
theorem dX11_lose_9 : decode cX11_lose 9 = .ok (.bipush (-2), 2) := by decide +kernel
theorem dX11_lose_11 : decode cX11_lose 11 = .ok (.ireturn, 1) := by decide +kernel
theorem dX11_lose_12 : decode cX11_lose 12 = .ok (.aload_n 0, 1) := by decide +kernel
theorem dX11_lose_13 : decode cX11_lose 13 = .ok (.getfield 22, 3) := by decide +kernel
theorem dX11_lose_16 : decode cX11_lose 16 = .ok (.iload_n 1, 1) := by decide +kernel
theorem dX11_lose_17 : decode cX11_lose 17 = .ok (.invokevirtual 78, 3) := by decide +kernel
theorem dX11_lose_20 : decode cX11_lose 20 = .ok (.istore_n 2, 1) := by decide +kernel
theorem dX11_lose_21 : decode cX11_lose 21 = .ok (.aload_n 0, 1) := by decide +kernel
theorem dX11_lose_22 : decode cX11_lose 22 = .ok (.getfield 22, 3) := by decide +kernel
theorem dX11_lose_25 : decode cX11_lose 25 = .ok (.iload_n 1, 1) := by decide +kernel
theorem dX11_lose_26 : decode cX11_lose 26 = .ok (.iconst (-1), 1) := by decide +kernel
theorem dX11_lose_27 : decode cX11_lose 27 = .ok (.invokevirtual 81, 3) := by decide +kernel
theorem dX11_lose_30 : decode cX11_lose 30 = .ok (.iload_n 2, 1) := by decide +kernel
theorem dX11_lose_31 : decode cX11_lose 31 = .ok (.ireturn, 1) := by decide +kernel
theorem dX11_size_0 : decode cX11_size 0 = .ok (.iload_n 1, 1) := by decide +kernel
theorem dX11_size_1 : decode cX11_size 1 = .ok (.ifCond .lt 8, 3) := by decide +kernel
theorem dX11_size_4 : decode cX11_size 4 = .ok (.iload_n 1, 1) := by decide +kernel
theorem dX11_size_5 : decode cX11_size 5 = .ok (.iconst 4, 1) := by decide +kernel
theorem dX11_size_6 : decode cX11_size 6 = .ok (.if_icmp .lt 8, 3) := by decide +kernel
theorem dX11_size_9 : decode cX11_size 9 = .ok (.bipush (-2), 2) := by decide +kernel
theorem dX11_size_11 : decode cX11_size 11 = .ok (.goto 11, 3) := by decide +kernel
theorem dX11_size_14 : decode cX11_size 14 = .ok (.aload_n 0, 1) := by decide +kernel
theorem dX11_size_15 : decode cX11_size 15 = .ok (.getfield 22, 3) := by decide +kernel
theorem dX11_size_18 : decode cX11_size 18 = .ok (.iload_n 1, 1) := by decide +kernel
theorem dX11_size_19 : decode cX11_size 19 = .ok (.invokevirtual 78, 3) := by decide +kernel
theorem dX11_size_22 : decode cX11_size 22 = .ok (.ireturn, 1) := by decide +kernel
theorem dX11_item_0 : decode cX11_item 0 = .ok (.aload_n 0, 1) := by decide +kernel
theorem dX11_item_1 : decode cX11_item 1 = .ok (.getfield 22, 3) := by decide +kernel
theorem dX11_item_4 : decode cX11_item 4 = .ok (.iload_n 1, 1) := by decide +kernel
theorem dX11_item_5 : decode cX11_item 5 = .ok (.iload_n 2, 1) := by decide +kernel
theorem dX11_item_6 : decode cX11_item 6 = .ok (.invokevirtual 84, 3) := by decide +kernel
theorem dX11_item_9 : decode cX11_item 9 = .ok (.ireturn, 1) := by decide +kernel
theorem dX11_run_0 : decode cX11_run 0 = .ok (.aload_n 0, 1) := by decide +kernel
theorem dX11_run_1 : decode cX11_run 1 = .ok (.getfield 15, 3) := by decide +kernel
theorem dX11_run_4 : decode cX11_run 4 = .ok (.iload_n 1, 1) := by decide +kernel
theorem dX11_run_5 : decode cX11_run 5 = .ok (.invokevirtual 48, 3) := by decide +kernel
theorem dX11_run_8 : decode cX11_run 8 = .ok (.ifnonnull 6, 3) := by decide +kernel
theorem dX11_run_11 : decode cX11_run 11 = .ok (.bipush (-2), 2) := by decide +kernel
theorem dX11_run_13 : decode cX11_run 13 = .ok (.ireturn, 1) := by decide +kernel
theorem dX11_run_14 : decode cX11_run 14 = .ok (.aload_n 0, 1) := by decide +kernel
theorem dX11_run_15 : decode cX11_run 15 = .ok (.getfield 15, 3) := by decide +kernel
theorem dX11_run_18 : decode cX11_run 18 = .ok (.invokevirtual 87, 3) := by decide +kernel
theorem dX11_run_21 : decode cX11_run 21 = .ok (.ifCond .ne 6, 3) := by decide +kernel
theorem dX11_run_24 : decode cX11_run 24 = .ok (.bipush (-3), 2) := by decide +kernel
theorem dX11_run_26 : decode cX11_run 26 = .ok (.ireturn, 1) := by decide +kernel
theorem dX11_run_27 : decode cX11_run 27 = .ok (.aload_n 0, 1) := by decide +kernel
theorem dX11_run_28 : decode cX11_run 28 = .ok (.getfield 40, 3) := by decide +kernel
theorem dX11_run_31 : decode cX11_run 31 = .ok (.getfield 88, 3) := by decide +kernel
theorem dX11_run_34 : decode cX11_run 34 = .ok (.getfield 92, 3) := by decide +kernel
theorem dX11_run_37 : decode cX11_run 37 = .ok (.bipush 80, 2) := by decide +kernel
theorem dX11_run_39 : decode cX11_run 39 = .ok (.if_icmp .lt 6, 3) := by decide +kernel
theorem dX11_run_42 : decode cX11_run 42 = .ok (.bipush (-4), 2) := by decide +kernel
theorem dX11_run_44 : decode cX11_run 44 = .ok (.ireturn, 1) := by decide +kernel
theorem dX11_run_45 : decode cX11_run 45 = .ok (.aload_n 0, 1) := by decide +kernel
theorem dX11_run_46 : decode cX11_run 46 = .ok (.getfield 40, 3) := by decide +kernel
theorem dX11_run_49 : decode cX11_run 49 = .ok (.iload_n 1, 1) := by decide +kernel
theorem dX11_run_50 : decode cX11_run 50 = .ok (.iload_n 2, 1) := by decide +kernel
theorem dX11_run_51 : decode cX11_run 51 = .ok (.iload_n 3, 1) := by decide +kernel
theorem dX11_run_52 : decode cX11_run 52 = .ok (.iload 4, 2) := by decide +kernel
theorem dX11_run_54 : decode cX11_run 54 = .ok (.invokevirtual 97, 3) := by decide +kernel
theorem dX11_run_57 : decode cX11_run 57 = .ok (.ireturn, 1) := by decide +kernel
theorem dX11_answer_0 : decode cX11_answer 0 = .ok (.aload_n 0, 1) := by decide +kernel
theorem dX11_answer_1 : decode cX11_answer 1 = .ok (.getfield 40, 3) := by decide +kernel
theorem dX11_answer_4 : decode cX11_answer 4 = .ok (.getfield 88, 3) := by decide +kernel
theorem dX11_answer_7 : decode cX11_answer 7 = .ok (.getfield 101, 3) := by decide +kernel
theorem dX11_answer_10 : decode cX11_answer 10 = .ok (.ireturn, 1) := by decide +kernel
theorem dX11_trap_0 : decode cX11_trap 0 = .ok (.aload_n 0, 1) := by decide +kernel
theorem dX11_trap_1 : decode cX11_trap 1 = .ok (.getfield 40, 3) := by decide +kernel
theorem dX11_trap_4 : decode cX11_trap 4 = .ok (.getfield 88, 3) := by decide +kernel
theorem dX11_trap_7 : decode cX11_trap 7 = .ok (.iload_n 1, 1) := by decide +kernel
theorem dX11_trap_8 : decode cX11_trap 8 = .ok (.invokevirtual 104, 3) := by decide +kernel
theorem dX11_trap_11 : decode cX11_trap 11 = .ok (.ireturn, 1) := by decide +kernel
theorem dX11_of_0 : decode cX11_of 0 = .ok (.aload_n 0, 1) := by decide +kernel
theorem dX11_of_1 : decode cX11_of 1 = .ok (.getfield 15, 3) := by decide +kernel
theorem dX11_of_4 : decode cX11_of 4 = .ok (.iload_n 1, 1) := by decide +kernel
theorem dX11_of_5 : decode cX11_of 5 = .ok (.invokevirtual 48, 3) := by decide +kernel
theorem dX11_of_8 : decode cX11_of 8 = .ok (.astore_n 3, 1) := by decide +kernel
theorem dX11_of_9 : decode cX11_of 9 = .ok (.aload_n 3, 1) := by decide +kernel
theorem dX11_of_10 : decode cX11_of 10 = .ok (.ifnonnull 8, 3) := by decide +kernel
theorem dX11_of_13 : decode cX11_of 13 = .ok (.bipush (-2), 2) := by decide +kernel
theorem dX11_of_15 : decode cX11_of 15 = .ok (.goto 8, 3) := by decide +kernel
theorem dX11_of_18 : decode cX11_of 18 = .ok (.aload_n 3, 1) := by decide +kernel
theorem dX11_of_19 : decode cX11_of 19 = .ok (.iload_n 2, 1) := by decide +kernel
theorem dX11_of_20 : decode cX11_of 20 = .ok (.invokestatic 107, 3) := by decide +kernel
theorem dX11_of_23 : decode cX11_of 23 = .ok (.ireturn, 1) := by decide +kernel
theorem dX11_part_0 : decode cX11_part 0 = .ok (.aload_n 0, 1) := by decide +kernel
theorem dX11_part_1 : decode cX11_part 1 = .ok (.getfield 15, 3) := by decide +kernel
theorem dX11_part_4 : decode cX11_part 4 = .ok (.iload_n 1, 1) := by decide +kernel
theorem dX11_part_5 : decode cX11_part 5 = .ok (.invokevirtual 48, 3) := by decide +kernel
theorem dX11_part_8 : decode cX11_part 8 = .ok (.astore 4, 2) := by decide +kernel
theorem dX11_part_10 : decode cX11_part 10 = .ok (.aload 4, 2) := by decide +kernel
theorem dX11_part_12 : decode cX11_part 12 = .ok (.ifnull 14, 3) := by decide +kernel
theorem dX11_part_15 : decode cX11_part 15 = .ok (.aload 4, 2) := by decide +kernel
theorem dX11_part_17 : decode cX11_part 17 = .ok (.getfield 111, 3) := by decide +kernel
theorem dX11_part_20 : decode cX11_part 20 = .ok (.getfield 115, 3) := by decide +kernel
theorem dX11_part_23 : decode cX11_part 23 = .ok (.ifnonnull 8, 3) := by decide +kernel
theorem dX11_part_26 : decode cX11_part 26 = .ok (.ldc 69, 2) := by decide +kernel
theorem dX11_part_28 : decode cX11_part 28 = .ok (.goto 16, 3) := by decide +kernel
theorem dX11_part_31 : decode cX11_part 31 = .ok (.aload 4, 2) := by decide +kernel
theorem dX11_part_33 : decode cX11_part 33 = .ok (.getfield 111, 3) := by decide +kernel
theorem dX11_part_36 : decode cX11_part 36 = .ok (.getfield 115, 3) := by decide +kernel
theorem dX11_part_39 : decode cX11_part 39 = .ok (.iload_n 2, 1) := by decide +kernel
theorem dX11_part_40 : decode cX11_part 40 = .ok (.iload_n 3, 1) := by decide +kernel
theorem dX11_part_41 : decode cX11_part 41 = .ok (.invokevirtual 121, 3) := by decide +kernel
theorem dX11_part_44 : decode cX11_part 44 = .ok (.ireturn, 1) := by decide +kernel
theorem dX11_varies_0 : decode cX11_varies 0 = .ok (.aload_n 0, 1) := by decide +kernel
theorem dX11_varies_1 : decode cX11_varies 1 = .ok (.getfield 15, 3) := by decide +kernel
theorem dX11_varies_4 : decode cX11_varies 4 = .ok (.iload_n 1, 1) := by decide +kernel
theorem dX11_varies_5 : decode cX11_varies 5 = .ok (.invokevirtual 48, 3) := by decide +kernel
theorem dX11_varies_8 : decode cX11_varies 8 = .ok (.astore_n 3, 1) := by decide +kernel
theorem dX11_varies_9 : decode cX11_varies 9 = .ok (.iload_n 2, 1) := by decide +kernel
theorem dX11_varies_10 : decode cX11_varies 10 = .ok (.ifCond .lt 12, 3) := by decide +kernel
theorem dX11_varies_13 : decode cX11_varies 13 = .ok (.iload_n 2, 1) := by decide +kernel
theorem dX11_varies_14 : decode cX11_varies 14 = .ok (.iconst 3, 1) := by decide +kernel
theorem dX11_varies_15 : decode cX11_varies 15 = .ok (.if_icmp .ge 7, 3) := by decide +kernel
theorem dX11_varies_18 : decode cX11_varies 18 = .ok (.iconst 1, 1) := by decide +kernel
theorem dX11_varies_19 : decode cX11_varies 19 = .ok (.goto 4, 3) := by decide +kernel
theorem dX11_varies_22 : decode cX11_varies 22 = .ok (.iconst 0, 1) := by decide +kernel
theorem dX11_varies_23 : decode cX11_varies 23 = .ok (.istore 4, 2) := by decide +kernel
theorem dX11_varies_25 : decode cX11_varies 25 = .ok (.iload_n 2, 1) := by decide +kernel
theorem dX11_varies_26 : decode cX11_varies 26 = .ok (.bipush 10, 2) := by decide +kernel
theorem dX11_varies_28 : decode cX11_varies 28 = .ok (.if_icmp .lt 13, 3) := by decide +kernel
theorem dX11_varies_31 : decode cX11_varies 31 = .ok (.iload_n 2, 1) := by decide +kernel
theorem dX11_varies_32 : decode cX11_varies 32 = .ok (.bipush 18, 2) := by decide +kernel
theorem dX11_varies_34 : decode cX11_varies 34 = .ok (.if_icmp .ge 7, 3) := by decide +kernel
theorem dX11_varies_37 : decode cX11_varies 37 = .ok (.iconst 1, 1) := by decide +kernel
theorem dX11_varies_38 : decode cX11_varies 38 = .ok (.goto 4, 3) := by decide +kernel
theorem dX11_varies_41 : decode cX11_varies 41 = .ok (.iconst 0, 1) := by decide +kernel
theorem dX11_varies_42 : decode cX11_varies 42 = .ok (.istore 5, 2) := by decide +kernel
theorem dX11_varies_44 : decode cX11_varies 44 = .ok (.aload_n 3, 1) := by decide +kernel
theorem dX11_varies_45 : decode cX11_varies 45 = .ok (.ifnull 13, 3) := by decide +kernel
theorem dX11_varies_48 : decode cX11_varies 48 = .ok (.iload 4, 2) := by decide +kernel
theorem dX11_varies_50 : decode cX11_varies 50 = .ok (.ifCond .ne 11, 3) := by decide +kernel
theorem dX11_varies_53 : decode cX11_varies 53 = .ok (.iload 5, 2) := by decide +kernel
theorem dX11_varies_55 : decode cX11_varies 55 = .ok (.ifCond .ne 6, 3) := by decide +kernel
theorem dX11_varies_58 : decode cX11_varies 58 = .ok (.bipush (-2), 2) := by decide +kernel
theorem dX11_varies_60 : decode cX11_varies 60 = .ok (.ireturn, 1) := by decide +kernel
theorem dX11_varies_61 : decode cX11_varies 61 = .ok (.aload_n 3, 1) := by decide +kernel
theorem dX11_varies_62 : decode cX11_varies 62 = .ok (.getfield 111, 3) := by decide +kernel
theorem dX11_varies_65 : decode cX11_varies 65 = .ok (.iload 4, 2) := by decide +kernel
theorem dX11_varies_67 : decode cX11_varies 67 = .ok (.ifCond .eq 7, 3) := by decide +kernel
theorem dX11_varies_70 : decode cX11_varies 70 = .ok (.iload_n 2, 1) := by decide +kernel
theorem dX11_varies_71 : decode cX11_varies 71 = .ok (.goto 9, 3) := by decide +kernel
theorem dX11_varies_74 : decode cX11_varies 74 = .ok (.iconst 3, 1) := by decide +kernel
theorem dX11_varies_75 : decode cX11_varies 75 = .ok (.iload_n 2, 1) := by decide +kernel
theorem dX11_varies_76 : decode cX11_varies 76 = .ok (.iadd, 1) := by decide +kernel
theorem dX11_varies_77 : decode cX11_varies 77 = .ok (.bipush 10, 2) := by decide +kernel
theorem dX11_varies_79 : decode cX11_varies 79 = .ok (.isub, 1) := by decide +kernel
theorem dX11_varies_80 : decode cX11_varies 80 = .ok (.invokevirtual 126, 3) := by decide +kernel
theorem dX11_varies_83 : decode cX11_varies 83 = .ok (.ifCond .eq 7, 3) := by decide +kernel
theorem dX11_varies_86 : decode cX11_varies 86 = .ok (.iconst 1, 1) := by decide +kernel
theorem dX11_varies_87 : decode cX11_varies 87 = .ok (.goto 4, 3) := by decide +kernel
theorem dX11_varies_90 : decode cX11_varies 90 = .ok (.iconst 0, 1) := by decide +kernel
theorem dX11_varies_91 : decode cX11_varies 91 = .ok (.ireturn, 1) := by decide +kernel
theorem dX11_depth_0 : decode cX11_depth 0 = .ok (.aload_n 0, 1) := by decide +kernel
theorem dX11_depth_1 : decode cX11_depth 1 = .ok (.getfield 15, 3) := by decide +kernel
theorem dX11_depth_4 : decode cX11_depth 4 = .ok (.iload_n 1, 1) := by decide +kernel
theorem dX11_depth_5 : decode cX11_depth 5 = .ok (.invokevirtual 48, 3) := by decide +kernel
theorem dX11_depth_8 : decode cX11_depth 8 = .ok (.astore_n 3, 1) := by decide +kernel
theorem dX11_depth_9 : decode cX11_depth 9 = .ok (.aload_n 3, 1) := by decide +kernel
theorem dX11_depth_10 : decode cX11_depth 10 = .ok (.ifnull 11, 3) := by decide +kernel
theorem dX11_depth_13 : decode cX11_depth 13 = .ok (.aload_n 3, 1) := by decide +kernel
theorem dX11_depth_14 : decode cX11_depth 14 = .ok (.iload_n 2, 1) := by decide +kernel
theorem dX11_depth_15 : decode cX11_depth 15 = .ok (.invokevirtual 130, 3) := by decide +kernel
theorem dX11_depth_18 : decode cX11_depth 18 = .ok (.ifCond .ne 6, 3) := by decide +kernel
theorem dX11_depth_21 : decode cX11_depth 21 = .ok (.bipush (-2), 2) := by decide +kernel
theorem dX11_depth_23 : decode cX11_depth 23 = .ok (.ireturn, 1) := by decide +kernel
theorem dX11_depth_24 : decode cX11_depth 24 = .ok (.aload_n 3, 1) := by decide +kernel
theorem dX11_depth_25 : decode cX11_depth 25 = .ok (.invokevirtual 52, 3) := by decide +kernel
theorem dX11_depth_28 : decode cX11_depth 28 = .ok (.ifCond .eq 11, 3) := by decide +kernel
theorem dX11_depth_31 : decode cX11_depth 31 = .ok (.aload_n 3, 1) := by decide +kernel
theorem dX11_depth_32 : decode cX11_depth 32 = .ok (.iload_n 2, 1) := by decide +kernel
theorem dX11_depth_33 : decode cX11_depth 33 = .ok (.invokevirtual 133, 3) := by decide +kernel
theorem dX11_depth_36 : decode cX11_depth 36 = .ok (.goto 4, 3) := by decide +kernel
theorem dX11_depth_39 : decode cX11_depth 39 = .ok (.iconst (-1), 1) := by decide +kernel
theorem dX11_depth_40 : decode cX11_depth 40 = .ok (.ireturn, 1) := by decide +kernel
theorem dX11_count_0 : decode cX11_count 0 = .ok (.aload_n 0, 1) := by decide +kernel
theorem dX11_count_1 : decode cX11_count 1 = .ok (.getfield 40, 3) := by decide +kernel
theorem dX11_count_4 : decode cX11_count 4 = .ok (.getfield 88, 3) := by decide +kernel
theorem dX11_count_7 : decode cX11_count 7 = .ok (.astore_n 2, 1) := by decide +kernel
theorem dX11_count_8 : decode cX11_count 8 = .ok (.iload_n 1, 1) := by decide +kernel
theorem dX11_count_9 : decode cX11_count 9 = .ok (.tableswitch 72 0 5 #[39, 47, 52, 57, 62, 67], 39) := by decide +kernel
theorem dX11_count_48 : decode cX11_count 48 = .ok (.aload_n 0, 1) := by decide +kernel
theorem dX11_count_49 : decode cX11_count 49 = .ok (.getfield 15, 3) := by decide +kernel
theorem dX11_count_52 : decode cX11_count 52 = .ok (.getfield 136, 3) := by decide +kernel
theorem dX11_count_55 : decode cX11_count 55 = .ok (.ireturn, 1) := by decide +kernel
theorem dX11_count_56 : decode cX11_count 56 = .ok (.aload_n 2, 1) := by decide +kernel
theorem dX11_count_57 : decode cX11_count 57 = .ok (.getfield 92, 3) := by decide +kernel
theorem dX11_count_60 : decode cX11_count 60 = .ok (.ireturn, 1) := by decide +kernel
theorem dX11_count_61 : decode cX11_count 61 = .ok (.aload_n 2, 1) := by decide +kernel
theorem dX11_count_62 : decode cX11_count 62 = .ok (.getfield 139, 3) := by decide +kernel
theorem dX11_count_65 : decode cX11_count 65 = .ok (.ireturn, 1) := by decide +kernel
theorem dX11_count_66 : decode cX11_count 66 = .ok (.aload_n 2, 1) := by decide +kernel
theorem dX11_count_67 : decode cX11_count 67 = .ok (.getfield 142, 3) := by decide +kernel
theorem dX11_count_70 : decode cX11_count 70 = .ok (.ireturn, 1) := by decide +kernel
theorem dX11_count_71 : decode cX11_count 71 = .ok (.aload_n 2, 1) := by decide +kernel
theorem dX11_count_72 : decode cX11_count 72 = .ok (.getfield 145, 3) := by decide +kernel
theorem dX11_count_75 : decode cX11_count 75 = .ok (.ireturn, 1) := by decide +kernel
theorem dX11_count_76 : decode cX11_count 76 = .ok (.aload_n 2, 1) := by decide +kernel
theorem dX11_count_77 : decode cX11_count 77 = .ok (.getfield 148, 3) := by decide +kernel
theorem dX11_count_80 : decode cX11_count 80 = .ok (.ireturn, 1) := by decide +kernel
theorem dX11_count_81 : decode cX11_count 81 = .ok (.bipush (-2), 2) := by decide +kernel
theorem dX11_count_83 : decode cX11_count 83 = .ok (.ireturn, 1) := by decide +kernel
theorem dX11_digest_0 : decode cX11_digest 0 = .ok (.aload_n 0, 1) := by decide +kernel
theorem dX11_digest_1 : decode cX11_digest 1 = .ok (.getfield 22, 3) := by decide +kernel
theorem dX11_digest_4 : decode cX11_digest 4 = .ok (.ldc2_w 151, 3) := by decide +kernel
theorem dX11_digest_7 : decode cX11_digest 7 = .ok (.invokevirtual 153, 3) := by decide +kernel
theorem dX11_digest_10 : decode cX11_digest 10 = .ok (.lstore_n 1, 1) := by decide +kernel
theorem dX11_digest_11 : decode cX11_digest 11 = .ok (.aload_n 0, 1) := by decide +kernel
theorem dX11_digest_12 : decode cX11_digest 12 = .ok (.getfield 40, 3) := by decide +kernel
theorem dX11_digest_15 : decode cX11_digest 15 = .ok (.getfield 88, 3) := by decide +kernel
theorem dX11_digest_18 : decode cX11_digest 18 = .ok (.lload_n 1, 1) := by decide +kernel
theorem dX11_digest_19 : decode cX11_digest 19 = .ok (.invokevirtual 157, 3) := by decide +kernel
theorem dX11_digest_22 : decode cX11_digest 22 = .ok (.lstore_n 1, 1) := by decide +kernel
theorem dX11_digest_23 : decode cX11_digest 23 = .ok (.iconst 0, 1) := by decide +kernel
theorem dX11_digest_24 : decode cX11_digest 24 = .ok (.istore_n 3, 1) := by decide +kernel
theorem dX11_digest_25 : decode cX11_digest 25 = .ok (.iload_n 3, 1) := by decide +kernel
theorem dX11_digest_26 : decode cX11_digest 26 = .ok (.aload_n 0, 1) := by decide +kernel
theorem dX11_digest_27 : decode cX11_digest 27 = .ok (.getfield 15, 3) := by decide +kernel
theorem dX11_digest_30 : decode cX11_digest 30 = .ok (.getfield 136, 3) := by decide +kernel
theorem dX11_digest_33 : decode cX11_digest 33 = .ok (.if_icmp .ge 31, 3) := by decide +kernel
theorem dX11_digest_36 : decode cX11_digest 36 = .ok (.aload_n 0, 1) := by decide +kernel
theorem dX11_digest_37 : decode cX11_digest 37 = .ok (.getfield 15, 3) := by decide +kernel
theorem dX11_digest_40 : decode cX11_digest 40 = .ok (.iload_n 3, 1) := by decide +kernel
theorem dX11_digest_41 : decode cX11_digest 41 = .ok (.invokevirtual 48, 3) := by decide +kernel
theorem dX11_digest_44 : decode cX11_digest 44 = .ok (.astore 4, 2) := by decide +kernel
theorem dX11_digest_46 : decode cX11_digest 46 = .ok (.aload 4, 2) := by decide +kernel
theorem dX11_digest_48 : decode cX11_digest 48 = .ok (.ifnull 10, 3) := by decide +kernel
theorem dX11_digest_51 : decode cX11_digest 51 = .ok (.lload_n 1, 1) := by decide +kernel
theorem dX11_digest_52 : decode cX11_digest 52 = .ok (.aload 4, 2) := by decide +kernel
theorem dX11_digest_54 : decode cX11_digest 54 = .ok (.invokestatic 158, 3) := by decide +kernel
theorem dX11_digest_57 : decode cX11_digest 57 = .ok (.lstore_n 1, 1) := by decide +kernel
theorem dX11_digest_58 : decode cX11_digest 58 = .ok (.iinc 3 1, 3) := by decide +kernel
theorem dX11_digest_61 : decode cX11_digest 61 = .ok (.goto (-36), 3) := by decide +kernel
theorem dX11_digest_64 : decode cX11_digest 64 = .ok (.lload_n 1, 1) := by decide +kernel
theorem dX11_digest_65 : decode cX11_digest 65 = .ok (.lreturn, 1) := by decide +kernel
theorem dX12_init_0 : decode cX12_init 0 = .ok (.aload_n 0, 1) := by decide +kernel
theorem dX12_init_1 : decode cX12_init 1 = .ok (.invokespecial 1, 3) := by decide +kernel
theorem dX12_init_4 : decode cX12_init 4 = .ok (.aload_n 0, 1) := by decide +kernel
theorem dX12_init_5 : decode cX12_init 5 = .ok (.bipush 8, 2) := by decide +kernel
theorem dX12_init_7 : decode cX12_init 7 = .ok (.newarray .int, 2) := by decide +kernel
theorem dX12_init_9 : decode cX12_init 9 = .ok (.putfield 7, 3) := by decide +kernel
theorem dX12_init_12 : decode cX12_init 12 = .ok (.aload_n 0, 1) := by decide +kernel
theorem dX12_init_13 : decode cX12_init 13 = .ok (.bipush 8, 2) := by decide +kernel
theorem dX12_init_15 : decode cX12_init 15 = .ok (.newarray .int, 2) := by decide +kernel
theorem dX12_init_17 : decode cX12_init 17 = .ok (.putfield 13, 3) := by decide +kernel
theorem dX12_init_20 : decode cX12_init 20 = .ok (.aload_n 0, 1) := by decide +kernel
theorem dX12_init_21 : decode cX12_init 21 = .ok (.bipush 8, 2) := by decide +kernel
theorem dX12_init_23 : decode cX12_init 23 = .ok (.newarray .int, 2) := by decide +kernel
theorem dX12_init_25 : decode cX12_init 25 = .ok (.putfield 16, 3) := by decide +kernel
theorem dX12_init_28 : decode cX12_init 28 = .ok (.aload_n 0, 1) := by decide +kernel
theorem dX12_init_29 : decode cX12_init 29 = .ok (.sipush 480, 3) := by decide +kernel
theorem dX12_init_32 : decode cX12_init 32 = .ok (.newarray .int, 2) := by decide +kernel
theorem dX12_init_34 : decode cX12_init 34 = .ok (.putfield 19, 3) := by decide +kernel
theorem dX12_init_37 : decode cX12_init 37 = .ok (.aload_n 0, 1) := by decide +kernel
theorem dX12_init_38 : decode cX12_init 38 = .ok (.sipush 480, 3) := by decide +kernel
theorem dX12_init_41 : decode cX12_init 41 = .ok (.newarray .int, 2) := by decide +kernel
theorem dX12_init_43 : decode cX12_init 43 = .ok (.putfield 22, 3) := by decide +kernel
theorem dX12_init_46 : decode cX12_init 46 = .ok (.aload_n 0, 1) := by decide +kernel
theorem dX12_init_47 : decode cX12_init 47 = .ok (.bipush 8, 2) := by decide +kernel
theorem dX12_init_49 : decode cX12_init 49 = .ok (.newarray .boolean, 2) := by decide +kernel
theorem dX12_init_51 : decode cX12_init 51 = .ok (.putfield 25, 3) := by decide +kernel
theorem dX12_init_54 : decode cX12_init 54 = .ok (.aload_n 0, 1) := by decide +kernel
theorem dX12_init_55 : decode cX12_init 55 = .ok (.sipush 480, 3) := by decide +kernel
theorem dX12_init_58 : decode cX12_init 58 = .ok (.newarray .int, 2) := by decide +kernel
theorem dX12_init_60 : decode cX12_init 60 = .ok (.putfield 29, 3) := by decide +kernel
theorem dX12_init_63 : decode cX12_init 63 = .ok (.aload_n 0, 1) := by decide +kernel
theorem dX12_init_64 : decode cX12_init 64 = .ok (.bipush 8, 2) := by decide +kernel
theorem dX12_init_66 : decode cX12_init 66 = .ok (.newarray .int, 2) := by decide +kernel
theorem dX12_init_68 : decode cX12_init 68 = .ok (.putfield 32, 3) := by decide +kernel
theorem dX12_init_71 : decode cX12_init 71 = .ok (.aload_n 0, 1) := by decide +kernel
theorem dX12_init_72 : decode cX12_init 72 = .ok (.bipush 60, 2) := by decide +kernel
theorem dX12_init_74 : decode cX12_init 74 = .ok (.newarray .boolean, 2) := by decide +kernel
theorem dX12_init_76 : decode cX12_init 76 = .ok (.putfield 35, 3) := by decide +kernel
theorem dX12_init_79 : decode cX12_init 79 = .ok (.aload_n 0, 1) := by decide +kernel
theorem dX12_init_80 : decode cX12_init 80 = .ok (.bipush 60, 2) := by decide +kernel
theorem dX12_init_82 : decode cX12_init 82 = .ok (.newarray .boolean, 2) := by decide +kernel
theorem dX12_init_84 : decode cX12_init 84 = .ok (.putfield 38, 3) := by decide +kernel
theorem dX12_init_87 : decode cX12_init 87 = .ok (.aload_n 0, 1) := by decide +kernel
theorem dX12_init_88 : decode cX12_init 88 = .ok (.bipush 8, 2) := by decide +kernel
theorem dX12_init_90 : decode cX12_init 90 = .ok (.newarray .int, 2) := by decide +kernel
theorem dX12_init_92 : decode cX12_init 92 = .ok (.putfield 41, 3) := by decide +kernel
theorem dX12_init_95 : decode cX12_init 95 = .ok (.aload_n 0, 1) := by decide +kernel
theorem dX12_init_96 : decode cX12_init 96 = .ok (.iconst 4, 1) := by decide +kernel
theorem dX12_init_97 : decode cX12_init 97 = .ok (.newarray .int, 2) := by decide +kernel
theorem dX12_init_99 : decode cX12_init 99 = .ok (.putfield 44, 3) := by decide +kernel
theorem dX12_init_102 : decode cX12_init 102 = .ok (.aload_n 0, 1) := by decide +kernel
theorem dX12_init_103 : decode cX12_init 103 = .ok (.bipush 80, 2) := by decide +kernel
theorem dX12_init_105 : decode cX12_init 105 = .ok (.newarray .int, 2) := by decide +kernel
theorem dX12_init_107 : decode cX12_init 107 = .ok (.putfield 47, 3) := by decide +kernel
theorem dX12_init_110 : decode cX12_init 110 = .ok (.aload_n 0, 1) := by decide +kernel
theorem dX12_init_111 : decode cX12_init 111 = .ok (.bipush 8, 2) := by decide +kernel
theorem dX12_init_113 : decode cX12_init 113 = .ok (.newarray .boolean, 2) := by decide +kernel
theorem dX12_init_115 : decode cX12_init 115 = .ok (.putfield 50, 3) := by decide +kernel
theorem dX12_init_118 : decode cX12_init 118 = .ok (.aload_n 0, 1) := by decide +kernel
theorem dX12_init_119 : decode cX12_init 119 = .ok (.bipush 8, 2) := by decide +kernel
theorem dX12_init_121 : decode cX12_init 121 = .ok (.newarray .int, 2) := by decide +kernel
theorem dX12_init_123 : decode cX12_init 123 = .ok (.putfield 53, 3) := by decide +kernel
theorem dX12_init_126 : decode cX12_init 126 = .ok (.aload_n 0, 1) := by decide +kernel
theorem dX12_init_127 : decode cX12_init 127 = .ok (.bipush 8, 2) := by decide +kernel
theorem dX12_init_129 : decode cX12_init 129 = .ok (.newarray .int, 2) := by decide +kernel
theorem dX12_init_131 : decode cX12_init 131 = .ok (.putfield 56, 3) := by decide +kernel
theorem dX12_init_134 : decode cX12_init 134 = .ok (.aload_n 0, 1) := by decide +kernel
theorem dX12_init_135 : decode cX12_init 135 = .ok (.bipush 8, 2) := by decide +kernel
theorem dX12_init_137 : decode cX12_init 137 = .ok (.newarray .int, 2) := by decide +kernel
theorem dX12_init_139 : decode cX12_init 139 = .ok (.putfield 59, 3) := by decide +kernel
theorem dX12_init_142 : decode cX12_init 142 = .ok (.aload_n 0, 1) := by decide +kernel
theorem dX12_init_143 : decode cX12_init 143 = .ok (.bipush 8, 2) := by decide +kernel
theorem dX12_init_145 : decode cX12_init 145 = .ok (.newarray .int, 2) := by decide +kernel
theorem dX12_init_147 : decode cX12_init 147 = .ok (.putfield 62, 3) := by decide +kernel
theorem dX12_init_150 : decode cX12_init 150 = .ok (.aload_n 0, 1) := by decide +kernel
theorem dX12_init_151 : decode cX12_init 151 = .ok (.bipush 88, 2) := by decide +kernel
theorem dX12_init_153 : decode cX12_init 153 = .ok (.newarray .int, 2) := by decide +kernel
theorem dX12_init_155 : decode cX12_init 155 = .ok (.putfield 65, 3) := by decide +kernel
theorem dX12_init_158 : decode cX12_init 158 = .ok (.aload_n 0, 1) := by decide +kernel
theorem dX12_init_159 : decode cX12_init 159 = .ok (.bipush 88, 2) := by decide +kernel
theorem dX12_init_161 : decode cX12_init 161 = .ok (.newarray .boolean, 2) := by decide +kernel
theorem dX12_init_163 : decode cX12_init 163 = .ok (.putfield 68, 3) := by decide +kernel
theorem dX12_init_166 : decode cX12_init 166 = .ok (.aload_n 0, 1) := by decide +kernel
theorem dX12_init_167 : decode cX12_init 167 = .ok (.bipush 88, 2) := by decide +kernel
theorem dX12_init_169 : decode cX12_init 169 = .ok (.newarray .boolean, 2) := by decide +kernel
theorem dX12_init_171 : decode cX12_init 171 = .ok (.putfield 71, 3) := by decide +kernel
theorem dX12_init_174 : decode cX12_init 174 = .ok (.aload_n 0, 1) := by decide +kernel
theorem dX12_init_175 : decode cX12_init 175 = .ok (.bipush 96, 2) := by decide +kernel
theorem dX12_init_177 : decode cX12_init 177 = .ok (.newarray .int, 2) := by decide +kernel
theorem dX12_init_179 : decode cX12_init 179 = .ok (.putfield 74, 3) := by decide +kernel
theorem dX12_init_182 : decode cX12_init 182 = .ok (.aload_n 0, 1) := by decide +kernel
theorem dX12_init_183 : decode cX12_init 183 = .ok (.sipush 5760, 3) := by decide +kernel
theorem dX12_init_186 : decode cX12_init 186 = .ok (.newarray .int, 2) := by decide +kernel
theorem dX12_init_188 : decode cX12_init 188 = .ok (.putfield 77, 3) := by decide +kernel
theorem dX12_init_191 : decode cX12_init 191 = .ok (.aload_n 0, 1) := by decide +kernel
theorem dX12_init_192 : decode cX12_init 192 = .ok (.ldc 80, 2) := by decide +kernel
theorem dX12_init_194 : decode cX12_init 194 = .ok (.newarray .int, 2) := by decide +kernel
theorem dX12_init_196 : decode cX12_init 196 = .ok (.putfield 81, 3) := by decide +kernel
theorem dX12_init_199 : decode cX12_init 199 = .ok (.aload_n 0, 1) := by decide +kernel
theorem dX12_init_200 : decode cX12_init 200 = .ok (.ldc 80, 2) := by decide +kernel
theorem dX12_init_202 : decode cX12_init 202 = .ok (.newarray .int, 2) := by decide +kernel
theorem dX12_init_204 : decode cX12_init 204 = .ok (.putfield 84, 3) := by decide +kernel
theorem dX12_init_207 : decode cX12_init 207 = .ok (.aload_n 0, 1) := by decide +kernel
theorem dX12_init_208 : decode cX12_init 208 = .ok (.ldc 80, 2) := by decide +kernel
theorem dX12_init_210 : decode cX12_init 210 = .ok (.newarray .int, 2) := by decide +kernel
theorem dX12_init_212 : decode cX12_init 212 = .ok (.putfield 87, 3) := by decide +kernel
theorem dX12_init_215 : decode cX12_init 215 = .ok (.aload_n 0, 1) := by decide +kernel
theorem dX12_init_216 : decode cX12_init 216 = .ok (.ldc 80, 2) := by decide +kernel
theorem dX12_init_218 : decode cX12_init 218 = .ok (.newarray .int, 2) := by decide +kernel
theorem dX12_init_220 : decode cX12_init 220 = .ok (.putfield 90, 3) := by decide +kernel
theorem dX12_init_223 : decode cX12_init 223 = .ok (.aload_n 0, 1) := by decide +kernel
theorem dX12_init_224 : decode cX12_init 224 = .ok (.ldc 80, 2) := by decide +kernel
theorem dX12_init_226 : decode cX12_init 226 = .ok (.newarray .int, 2) := by decide +kernel
theorem dX12_init_228 : decode cX12_init 228 = .ok (.putfield 93, 3) := by decide +kernel
theorem dX12_init_231 : decode cX12_init 231 = .ok (.aload_n 0, 1) := by decide +kernel
theorem dX12_init_232 : decode cX12_init 232 = .ok (.bipush 11, 2) := by decide +kernel
theorem dX12_init_234 : decode cX12_init 234 = .ok (.newarray .boolean, 2) := by decide +kernel
theorem dX12_init_236 : decode cX12_init 236 = .ok (.putfield 96, 3) := by decide +kernel
theorem dX12_init_239 : decode cX12_init 239 = .ok (.aload_n 0, 1) := by decide +kernel
theorem dX12_init_240 : decode cX12_init 240 = .ok (.bipush 7, 2) := by decide +kernel
theorem dX12_init_242 : decode cX12_init 242 = .ok (.newarray .boolean, 2) := by decide +kernel
theorem dX12_init_244 : decode cX12_init 244 = .ok (.putfield 99, 3) := by decide +kernel
theorem dX12_init_247 : decode cX12_init 247 = .ok (.aload_n 0, 1) := by decide +kernel
theorem dX12_init_248 : decode cX12_init 248 = .ok (.bipush 7, 2) := by decide +kernel
theorem dX12_init_250 : decode cX12_init 250 = .ok (.newarray .int, 2) := by decide +kernel
theorem dX12_init_252 : decode cX12_init 252 = .ok (.putfield 102, 3) := by decide +kernel
theorem dX12_init_255 : decode cX12_init 255 = .ok (.aload_n 0, 1) := by decide +kernel
theorem dX12_init_256 : decode cX12_init 256 = .ok (.bipush 9, 2) := by decide +kernel
theorem dX12_init_258 : decode cX12_init 258 = .ok (.newarray .boolean, 2) := by decide +kernel
theorem dX12_init_260 : decode cX12_init 260 = .ok (.putfield 105, 3) := by decide +kernel
theorem dX12_init_263 : decode cX12_init 263 = .ok (.aload_n 0, 1) := by decide +kernel
theorem dX12_init_264 : decode cX12_init 264 = .ok (.bipush 9, 2) := by decide +kernel
theorem dX12_init_266 : decode cX12_init 266 = .ok (.newarray .int, 2) := by decide +kernel
theorem dX12_init_268 : decode cX12_init 268 = .ok (.putfield 108, 3) := by decide +kernel
theorem dX12_init_271 : decode cX12_init 271 = .ok (.aload_n 0, 1) := by decide +kernel
theorem dX12_init_272 : decode cX12_init 272 = .ok (.bipush 16, 2) := by decide +kernel
theorem dX12_init_274 : decode cX12_init 274 = .ok (.newarray .int, 2) := by decide +kernel
theorem dX12_init_276 : decode cX12_init 276 = .ok (.putfield 111, 3) := by decide +kernel
theorem dX12_init_279 : decode cX12_init 279 = .ok (.aload_n 0, 1) := by decide +kernel
theorem dX12_init_280 : decode cX12_init 280 = .ok (.bipush 16, 2) := by decide +kernel
theorem dX12_init_282 : decode cX12_init 282 = .ok (.newarray .int, 2) := by decide +kernel
theorem dX12_init_284 : decode cX12_init 284 = .ok (.putfield 114, 3) := by decide +kernel
theorem dX12_init_287 : decode cX12_init 287 = .ok (.aload_n 0, 1) := by decide +kernel
theorem dX12_init_288 : decode cX12_init 288 = .ok (.bipush 16, 2) := by decide +kernel
theorem dX12_init_290 : decode cX12_init 290 = .ok (.newarray .int, 2) := by decide +kernel
theorem dX12_init_292 : decode cX12_init 292 = .ok (.putfield 117, 3) := by decide +kernel
theorem dX12_init_295 : decode cX12_init 295 = .ok (.aload_n 0, 1) := by decide +kernel
theorem dX12_init_296 : decode cX12_init 296 = .ok (.bipush 16, 2) := by decide +kernel
theorem dX12_init_298 : decode cX12_init 298 = .ok (.newarray .int, 2) := by decide +kernel
theorem dX12_init_300 : decode cX12_init 300 = .ok (.putfield 120, 3) := by decide +kernel
theorem dX12_init_303 : decode cX12_init 303 = .ok (.aload_n 0, 1) := by decide +kernel
theorem dX12_init_304 : decode cX12_init 304 = .ok (.sipush 240, 3) := by decide +kernel
theorem dX12_init_307 : decode cX12_init 307 = .ok (.newarray .int, 2) := by decide +kernel
theorem dX12_init_309 : decode cX12_init 309 = .ok (.putfield 123, 3) := by decide +kernel
theorem dX12_init_312 : decode cX12_init 312 = .ok (.aload_n 0, 1) := by decide +kernel
theorem dX12_init_313 : decode cX12_init 313 = .ok (.iconst 4, 1) := by decide +kernel
theorem dX12_init_314 : decode cX12_init 314 = .ok (.newarray .int, 2) := by decide +kernel
theorem dX12_init_316 : decode cX12_init 316 = .ok (.putfield 126, 3) := by decide +kernel
theorem dX12_init_319 : decode cX12_init 319 = .ok (.aload_n 0, 1) := by decide +kernel
theorem dX12_init_320 : decode cX12_init 320 = .ok (.iconst 3, 1) := by decide +kernel
theorem dX12_init_321 : decode cX12_init 321 = .ok (.newarray .int, 2) := by decide +kernel
theorem dX12_init_323 : decode cX12_init 323 = .ok (.putfield 129, 3) := by decide +kernel
theorem dX12_init_326 : decode cX12_init 326 = .ok (.iconst 0, 1) := by decide +kernel
theorem dX12_init_327 : decode cX12_init 327 = .ok (.istore_n 1, 1) := by decide +kernel
theorem dX12_init_328 : decode cX12_init 328 = .ok (.iload_n 1, 1) := by decide +kernel
theorem dX12_init_329 : decode cX12_init 329 = .ok (.iconst 4, 1) := by decide +kernel
theorem dX12_init_330 : decode cX12_init 330 = .ok (.if_icmp .ge 16, 3) := by decide +kernel
theorem dX12_init_333 : decode cX12_init 333 = .ok (.aload_n 0, 1) := by decide +kernel
theorem dX12_init_334 : decode cX12_init 334 = .ok (.getfield 44, 3) := by decide +kernel
theorem dX12_init_337 : decode cX12_init 337 = .ok (.iload_n 1, 1) := by decide +kernel
theorem dX12_init_338 : decode cX12_init 338 = .ok (.iconst (-1), 1) := by decide +kernel
theorem dX12_init_339 : decode cX12_init 339 = .ok (.iastore, 1) := by decide +kernel
theorem dX12_init_340 : decode cX12_init 340 = .ok (.iinc 1 1, 3) := by decide +kernel
theorem dX12_init_343 : decode cX12_init 343 = .ok (.goto (-15), 3) := by decide +kernel
theorem dX12_init_346 : decode cX12_init 346 = .ok (.return_, 1) := by decide +kernel
theorem dX12_in_0 : decode cX12_in 0 = .ok (.lload_n 0, 1) := by decide +kernel
theorem dX12_in_1 : decode cX12_in 1 = .ok (.lload_n 2, 1) := by decide +kernel
theorem dX12_in_2 : decode cX12_in 2 = .ok (.lcmp, 1) := by decide +kernel
theorem dX12_in_3 : decode cX12_in 3 = .ok (.ifCond .lt 14, 3) := by decide +kernel
theorem dX12_in_6 : decode cX12_in 6 = .ok (.lload_n 0, 1) := by decide +kernel
theorem dX12_in_7 : decode cX12_in 7 = .ok (.lload 4, 2) := by decide +kernel
theorem dX12_in_9 : decode cX12_in 9 = .ok (.lcmp, 1) := by decide +kernel
theorem dX12_in_10 : decode cX12_in 10 = .ok (.ifCond .gt 7, 3) := by decide +kernel
theorem dX12_in_13 : decode cX12_in 13 = .ok (.iconst 1, 1) := by decide +kernel
theorem dX12_in_14 : decode cX12_in 14 = .ok (.goto 4, 3) := by decide +kernel
theorem dX12_in_17 : decode cX12_in 17 = .ok (.iconst 0, 1) := by decide +kernel
theorem dX12_in_18 : decode cX12_in 18 = .ok (.ireturn, 1) := by decide +kernel
theorem dX12_method_0 : decode cX12_method 0 = .ok (.iload_n 1, 1) := by decide +kernel
theorem dX12_method_1 : decode cX12_method 1 = .ok (.i2l, 1) := by decide +kernel
theorem dX12_method_2 : decode cX12_method 2 = .ok (.lconst 0, 1) := by decide +kernel
theorem dX12_method_3 : decode cX12_method 3 = .ok (.ldc2_w 132, 3) := by decide +kernel
theorem dX12_method_6 : decode cX12_method 6 = .ok (.invokestatic 134, 3) := by decide +kernel
theorem dX12_method_9 : decode cX12_method 9 = .ok (.ifCond .eq 16, 3) := by decide +kernel
theorem dX12_method_12 : decode cX12_method 12 = .ok (.iload_n 2, 1) := by decide +kernel
theorem dX12_method_13 : decode cX12_method 13 = .ok (.i2l, 1) := by decide +kernel
theorem dX12_method_14 : decode cX12_method 14 = .ok (.iload_n 1, 1) := by decide +kernel
theorem dX12_method_15 : decode cX12_method 15 = .ok (.i2l, 1) := by decide +kernel
theorem dX12_method_16 : decode cX12_method 16 = .ok (.ldc2_w 138, 3) := by decide +kernel
theorem dX12_method_19 : decode cX12_method 19 = .ok (.invokestatic 134, 3) := by decide +kernel
theorem dX12_method_22 : decode cX12_method 22 = .ok (.ifCond .ne 6, 3) := by decide +kernel
theorem dX12_method_25 : decode cX12_method 25 = .ok (.bipush (-2), 2) := by decide +kernel
theorem dX12_method_27 : decode cX12_method 27 = .ok (.ireturn, 1) := by decide +kernel
theorem dX12_method_28 : decode cX12_method 28 = .ok (.aload_n 0, 1) := by decide +kernel
theorem dX12_method_29 : decode cX12_method 29 = .ok (.getfield 140, 3) := by decide +kernel
theorem dX12_method_32 : decode cX12_method 32 = .ok (.bipush 8, 2) := by decide +kernel
theorem dX12_method_34 : decode cX12_method 34 = .ok (.if_icmp .ne 6, 3) := by decide +kernel
theorem dX12_method_37 : decode cX12_method 37 = .ok (.bipush (-4), 2) := by decide +kernel
theorem dX12_method_39 : decode cX12_method 39 = .ok (.ireturn, 1) := by decide +kernel
theorem dX12_method_40 : decode cX12_method 40 = .ok (.aload_n 0, 1) := by decide +kernel
theorem dX12_method_41 : decode cX12_method 41 = .ok (.getfield 7, 3) := by decide +kernel
theorem dX12_method_44 : decode cX12_method 44 = .ok (.aload_n 0, 1) := by decide +kernel
theorem dX12_method_45 : decode cX12_method 45 = .ok (.getfield 140, 3) := by decide +kernel
theorem dX12_method_48 : decode cX12_method 48 = .ok (.iload_n 1, 1) := by decide +kernel
theorem dX12_method_49 : decode cX12_method 49 = .ok (.iastore, 1) := by decide +kernel
theorem dX12_method_50 : decode cX12_method 50 = .ok (.aload_n 0, 1) := by decide +kernel
theorem dX12_method_51 : decode cX12_method 51 = .ok (.getfield 13, 3) := by decide +kernel
theorem dX12_method_54 : decode cX12_method 54 = .ok (.aload_n 0, 1) := by decide +kernel
theorem dX12_method_55 : decode cX12_method 55 = .ok (.getfield 140, 3) := by decide +kernel
theorem dX12_method_58 : decode cX12_method 58 = .ok (.iload_n 2, 1) := by decide +kernel
theorem dX12_method_59 : decode cX12_method 59 = .ok (.iastore, 1) := by decide +kernel
theorem dX12_method_60 : decode cX12_method 60 = .ok (.aload_n 0, 1) := by decide +kernel
theorem dX12_method_61 : decode cX12_method 61 = .ok (.dup, 1) := by decide +kernel
theorem dX12_method_62 : decode cX12_method 62 = .ok (.getfield 140, 3) := by decide +kernel
theorem dX12_method_65 : decode cX12_method 65 = .ok (.iconst 1, 1) := by decide +kernel
theorem dX12_method_66 : decode cX12_method 66 = .ok (.iadd, 1) := by decide +kernel
theorem dX12_method_67 : decode cX12_method 67 = .ok (.putfield 140, 3) := by decide +kernel
theorem dX12_method_70 : decode cX12_method 70 = .ok (.aload_n 0, 1) := by decide +kernel
theorem dX12_method_71 : decode cX12_method 71 = .ok (.getfield 140, 3) := by decide +kernel
theorem dX12_method_74 : decode cX12_method 74 = .ok (.iconst 1, 1) := by decide +kernel
theorem dX12_method_75 : decode cX12_method 75 = .ok (.isub, 1) := by decide +kernel
theorem dX12_method_76 : decode cX12_method 76 = .ok (.ireturn, 1) := by decide +kernel
theorem dX12_isMethod_0 : decode cX12_isMethod 0 = .ok (.iload_n 1, 1) := by decide +kernel
theorem dX12_isMethod_1 : decode cX12_isMethod 1 = .ok (.i2l, 1) := by decide +kernel
theorem dX12_isMethod_2 : decode cX12_isMethod 2 = .ok (.lconst 0, 1) := by decide +kernel
theorem dX12_isMethod_3 : decode cX12_isMethod 3 = .ok (.aload_n 0, 1) := by decide +kernel
theorem dX12_isMethod_4 : decode cX12_isMethod 4 = .ok (.getfield 140, 3) := by decide +kernel
theorem dX12_isMethod_7 : decode cX12_isMethod 7 = .ok (.iconst 1, 1) := by decide +kernel
theorem dX12_isMethod_8 : decode cX12_isMethod 8 = .ok (.isub, 1) := by decide +kernel
theorem dX12_isMethod_9 : decode cX12_isMethod 9 = .ok (.i2l, 1) := by decide +kernel
theorem dX12_isMethod_10 : decode cX12_isMethod 10 = .ok (.invokestatic 134, 3) := by decide +kernel
theorem dX12_isMethod_13 : decode cX12_isMethod 13 = .ok (.ireturn, 1) := by decide +kernel
theorem dX12_write_0 : decode cX12_write 0 = .ok (.aload_n 0, 1) := by decide +kernel
theorem dX12_write_1 : decode cX12_write 1 = .ok (.iload_n 1, 1) := by decide +kernel
theorem dX12_write_2 : decode cX12_write 2 = .ok (.invokevirtual 144, 3) := by decide +kernel
theorem dX12_write_5 : decode cX12_write 5 = .ok (.ifCond .eq 15, 3) := by decide +kernel
theorem dX12_write_8 : decode cX12_write 8 = .ok (.iload_n 2, 1) := by decide +kernel
theorem dX12_write_9 : decode cX12_write 9 = .ok (.i2l, 1) := by decide +kernel
theorem dX12_write_10 : decode cX12_write 10 = .ok (.lconst 0, 1) := by decide +kernel
theorem dX12_write_11 : decode cX12_write 11 = .ok (.ldc2_w 148, 3) := by decide +kernel
theorem dX12_write_14 : decode cX12_write 14 = .ok (.invokestatic 134, 3) := by decide +kernel
theorem dX12_write_17 : decode cX12_write 17 = .ok (.ifCond .ne 6, 3) := by decide +kernel
theorem dX12_write_20 : decode cX12_write 20 = .ok (.bipush (-2), 2) := by decide +kernel
theorem dX12_write_22 : decode cX12_write 22 = .ok (.ireturn, 1) := by decide +kernel
theorem dX12_write_23 : decode cX12_write 23 = .ok (.aload_n 0, 1) := by decide +kernel
theorem dX12_write_24 : decode cX12_write 24 = .ok (.getfield 25, 3) := by decide +kernel
theorem dX12_write_27 : decode cX12_write 27 = .ok (.iload_n 1, 1) := by decide +kernel
theorem dX12_write_28 : decode cX12_write 28 = .ok (.baload, 1) := by decide +kernel
theorem dX12_write_29 : decode cX12_write 29 = .ok (.ifCond .eq 6, 3) := by decide +kernel
theorem dX12_write_32 : decode cX12_write 32 = .ok (.bipush (-3), 2) := by decide +kernel
theorem dX12_write_34 : decode cX12_write 34 = .ok (.ireturn, 1) := by decide +kernel
theorem dX12_write_35 : decode cX12_write 35 = .ok (.aload_n 0, 1) := by decide +kernel
theorem dX12_write_36 : decode cX12_write 36 = .ok (.getfield 16, 3) := by decide +kernel
theorem dX12_write_39 : decode cX12_write 39 = .ok (.iload_n 1, 1) := by decide +kernel
theorem dX12_write_40 : decode cX12_write 40 = .ok (.iaload, 1) := by decide +kernel
theorem dX12_write_41 : decode cX12_write 41 = .ok (.bipush 60, 2) := by decide +kernel
theorem dX12_write_43 : decode cX12_write 43 = .ok (.if_icmp .ne 6, 3) := by decide +kernel
theorem dX12_write_46 : decode cX12_write 46 = .ok (.bipush (-4), 2) := by decide +kernel
theorem dX12_write_48 : decode cX12_write 48 = .ok (.ireturn, 1) := by decide +kernel
theorem dX12_write_49 : decode cX12_write 49 = .ok (.aload_n 0, 1) := by decide +kernel
theorem dX12_write_50 : decode cX12_write 50 = .ok (.getfield 19, 3) := by decide +kernel
theorem dX12_write_53 : decode cX12_write 53 = .ok (.bipush 60, 2) := by decide +kernel
theorem dX12_write_55 : decode cX12_write 55 = .ok (.iload_n 1, 1) := by decide +kernel
theorem dX12_write_56 : decode cX12_write 56 = .ok (.imul, 1) := by decide +kernel
theorem dX12_write_57 : decode cX12_write 57 = .ok (.aload_n 0, 1) := by decide +kernel
theorem dX12_write_58 : decode cX12_write 58 = .ok (.getfield 16, 3) := by decide +kernel
theorem dX12_write_61 : decode cX12_write 61 = .ok (.iload_n 1, 1) := by decide +kernel
theorem dX12_write_62 : decode cX12_write 62 = .ok (.iaload, 1) := by decide +kernel
theorem dX12_write_63 : decode cX12_write 63 = .ok (.iadd, 1) := by decide +kernel
theorem dX12_write_64 : decode cX12_write 64 = .ok (.iload_n 2, 1) := by decide +kernel
theorem dX12_write_65 : decode cX12_write 65 = .ok (.iastore, 1) := by decide +kernel
theorem dX12_write_66 : decode cX12_write 66 = .ok (.aload_n 0, 1) := by decide +kernel
theorem dX12_write_67 : decode cX12_write 67 = .ok (.getfield 22, 3) := by decide +kernel
theorem dX12_write_70 : decode cX12_write 70 = .ok (.bipush 60, 2) := by decide +kernel
theorem dX12_write_72 : decode cX12_write 72 = .ok (.iload_n 1, 1) := by decide +kernel
theorem dX12_write_73 : decode cX12_write 73 = .ok (.imul, 1) := by decide +kernel
theorem dX12_write_74 : decode cX12_write 74 = .ok (.aload_n 0, 1) := by decide +kernel
theorem dX12_write_75 : decode cX12_write 75 = .ok (.getfield 16, 3) := by decide +kernel
theorem dX12_write_78 : decode cX12_write 78 = .ok (.iload_n 1, 1) := by decide +kernel
theorem dX12_write_79 : decode cX12_write 79 = .ok (.iaload, 1) := by decide +kernel
theorem dX12_write_80 : decode cX12_write 80 = .ok (.iadd, 1) := by decide +kernel
theorem dX12_write_81 : decode cX12_write 81 = .ok (.iload_n 3, 1) := by decide +kernel
theorem dX12_write_82 : decode cX12_write 82 = .ok (.iastore, 1) := by decide +kernel
theorem dX12_write_83 : decode cX12_write 83 = .ok (.aload_n 0, 1) := by decide +kernel
theorem dX12_write_84 : decode cX12_write 84 = .ok (.getfield 16, 3) := by decide +kernel
theorem dX12_write_87 : decode cX12_write 87 = .ok (.iload_n 1, 1) := by decide +kernel
theorem dX12_write_88 : decode cX12_write 88 = .ok (.dup2, 1) := by decide +kernel
theorem dX12_write_89 : decode cX12_write 89 = .ok (.iaload, 1) := by decide +kernel
theorem dX12_write_90 : decode cX12_write 90 = .ok (.iconst 1, 1) := by decide +kernel
theorem dX12_write_91 : decode cX12_write 91 = .ok (.iadd, 1) := by decide +kernel
theorem dX12_write_92 : decode cX12_write 92 = .ok (.iastore, 1) := by decide +kernel
theorem dX12_write_93 : decode cX12_write 93 = .ok (.aload_n 0, 1) := by decide +kernel
theorem dX12_write_94 : decode cX12_write 94 = .ok (.getfield 16, 3) := by decide +kernel
theorem dX12_write_97 : decode cX12_write 97 = .ok (.iload_n 1, 1) := by decide +kernel
theorem dX12_write_98 : decode cX12_write 98 = .ok (.iaload, 1) := by decide +kernel
theorem dX12_write_99 : decode cX12_write 99 = .ok (.iconst 1, 1) := by decide +kernel
theorem dX12_write_100 : decode cX12_write 100 = .ok (.isub, 1) := by decide +kernel
theorem dX12_write_101 : decode cX12_write 101 = .ok (.ireturn, 1) := by decide +kernel
theorem dX12_look_0 : decode cX12_look 0 = .ok (.aload_n 0, 1) := by decide +kernel
theorem dX12_look_1 : decode cX12_look 1 = .ok (.iload_n 1, 1) := by decide +kernel
theorem dX12_look_2 : decode cX12_look 2 = .ok (.invokevirtual 144, 3) := by decide +kernel
theorem dX12_look_5 : decode cX12_look 5 = .ok (.ifCond .ne 6, 3) := by decide +kernel
theorem dX12_look_8 : decode cX12_look 8 = .ok (.bipush (-2), 2) := by decide +kernel
theorem dX12_look_10 : decode cX12_look 10 = .ok (.ireturn, 1) := by decide +kernel
theorem dX12_look_11 : decode cX12_look 11 = .ok (.aload_n 0, 1) := by decide +kernel
theorem dX12_look_12 : decode cX12_look 12 = .ok (.getfield 25, 3) := by decide +kernel
theorem dX12_look_15 : decode cX12_look 15 = .ok (.iload_n 1, 1) := by decide +kernel
theorem dX12_look_16 : decode cX12_look 16 = .ok (.baload, 1) := by decide +kernel
theorem dX12_look_17 : decode cX12_look 17 = .ok (.ifCond .eq 6, 3) := by decide +kernel
theorem dX12_look_20 : decode cX12_look 20 = .ok (.bipush (-3), 2) := by decide +kernel
theorem dX12_look_22 : decode cX12_look 22 = .ok (.ireturn, 1) := by decide +kernel
theorem dX12_look_23 : decode cX12_look 23 = .ok (.aload_n 0, 1) := by decide +kernel
theorem dX12_look_24 : decode cX12_look 24 = .ok (.iconst 0, 1) := by decide +kernel
theorem dX12_look_25 : decode cX12_look 25 = .ok (.putfield 168, 3) := by decide +kernel
theorem dX12_look_28 : decode cX12_look 28 = .ok (.iconst 0, 1) := by decide +kernel
theorem dX12_look_29 : decode cX12_look 29 = .ok (.istore_n 2, 1) := by decide +kernel
theorem dX12_look_30 : decode cX12_look 30 = .ok (.iload_n 2, 1) := by decide +kernel
theorem dX12_look_31 : decode cX12_look 31 = .ok (.bipush 60, 2) := by decide +kernel
theorem dX12_look_33 : decode cX12_look 33 = .ok (.if_icmp .ge 28, 3) := by decide +kernel
theorem dX12_look_36 : decode cX12_look 36 = .ok (.aload_n 0, 1) := by decide +kernel
theorem dX12_look_37 : decode cX12_look 37 = .ok (.getfield 35, 3) := by decide +kernel
theorem dX12_look_40 : decode cX12_look 40 = .ok (.iload_n 2, 1) := by decide +kernel
theorem dX12_look_41 : decode cX12_look 41 = .ok (.iconst 0, 1) := by decide +kernel
theorem dX12_look_42 : decode cX12_look 42 = .ok (.bastore, 1) := by decide +kernel
theorem dX12_look_43 : decode cX12_look 43 = .ok (.aload_n 0, 1) := by decide +kernel
theorem dX12_look_44 : decode cX12_look 44 = .ok (.getfield 29, 3) := by decide +kernel
theorem dX12_look_47 : decode cX12_look 47 = .ok (.bipush 60, 2) := by decide +kernel
theorem dX12_look_49 : decode cX12_look 49 = .ok (.iload_n 1, 1) := by decide +kernel
theorem dX12_look_50 : decode cX12_look 50 = .ok (.imul, 1) := by decide +kernel
theorem dX12_look_51 : decode cX12_look 51 = .ok (.iload_n 2, 1) := by decide +kernel
theorem dX12_look_52 : decode cX12_look 52 = .ok (.iadd, 1) := by decide +kernel
theorem dX12_look_53 : decode cX12_look 53 = .ok (.iconst (-1), 1) := by decide +kernel
theorem dX12_look_54 : decode cX12_look 54 = .ok (.iastore, 1) := by decide +kernel
theorem dX12_look_55 : decode cX12_look 55 = .ok (.iinc 2 1, 3) := by decide +kernel
theorem dX12_look_58 : decode cX12_look 58 = .ok (.goto (-28), 3) := by decide +kernel
theorem dX12_look_61 : decode cX12_look 61 = .ok (.aload_n 0, 1) := by decide +kernel
theorem dX12_look_62 : decode cX12_look 62 = .ok (.getfield 16, 3) := by decide +kernel
theorem dX12_look_65 : decode cX12_look 65 = .ok (.iload_n 1, 1) := by decide +kernel
theorem dX12_look_66 : decode cX12_look 66 = .ok (.iaload, 1) := by decide +kernel
theorem dX12_look_67 : decode cX12_look 67 = .ok (.ifCond .ne 11, 3) := by decide +kernel
theorem dX12_look_70 : decode cX12_look 70 = .ok (.aload_n 0, 1) := by decide +kernel
theorem dX12_look_71 : decode cX12_look 71 = .ok (.iconst 5, 1) := by decide +kernel
theorem dX12_look_72 : decode cX12_look 72 = .ok (.putfield 168, 3) := by decide +kernel
theorem dX12_look_75 : decode cX12_look 75 = .ok (.bipush (-100), 2) := by decide +kernel
theorem dX12_look_77 : decode cX12_look 77 = .ok (.ireturn, 1) := by decide +kernel
theorem dX12_look_78 : decode cX12_look 78 = .ok (.aload_n 0, 1) := by decide +kernel
theorem dX12_look_79 : decode cX12_look 79 = .ok (.iload_n 1, 1) := by decide +kernel
theorem dX12_look_80 : decode cX12_look 80 = .ok (.iconst 0, 1) := by decide +kernel
theorem dX12_look_81 : decode cX12_look 81 = .ok (.iconst 0, 1) := by decide +kernel
theorem dX12_look_82 : decode cX12_look 82 = .ok (.invokevirtual 164, 3) := by decide +kernel
theorem dX12_look_85 : decode cX12_look 85 = .ok (.istore_n 2, 1) := by decide +kernel
theorem dX12_look_86 : decode cX12_look 86 = .ok (.iconst 0, 1) := by decide +kernel
theorem dX12_look_87 : decode cX12_look 87 = .ok (.istore_n 3, 1) := by decide +kernel
theorem dX12_look_88 : decode cX12_look 88 = .ok (.iconst 0, 1) := by decide +kernel
theorem dX12_look_89 : decode cX12_look 89 = .ok (.istore 4, 2) := by decide +kernel
theorem dX12_look_91 : decode cX12_look 91 = .ok (.iload 4, 2) := by decide +kernel
theorem dX12_look_93 : decode cX12_look 93 = .ok (.ifCond .lt 78, 3) := by decide +kernel
theorem dX12_look_96 : decode cX12_look 96 = .ok (.aload_n 0, 1) := by decide +kernel
theorem dX12_look_97 : decode cX12_look 97 = .ok (.getfield 35, 3) := by decide +kernel
theorem dX12_look_100 : decode cX12_look 100 = .ok (.iload 4, 2) := by decide +kernel
theorem dX12_look_102 : decode cX12_look 102 = .ok (.iconst 0, 1) := by decide +kernel
theorem dX12_look_103 : decode cX12_look 103 = .ok (.bastore, 1) := by decide +kernel
theorem dX12_look_104 : decode cX12_look 104 = .ok (.aload_n 0, 1) := by decide +kernel
theorem dX12_look_105 : decode cX12_look 105 = .ok (.getfield 29, 3) := by decide +kernel
theorem dX12_look_108 : decode cX12_look 108 = .ok (.bipush 60, 2) := by decide +kernel
theorem dX12_look_110 : decode cX12_look 110 = .ok (.iload_n 1, 1) := by decide +kernel
theorem dX12_look_111 : decode cX12_look 111 = .ok (.imul, 1) := by decide +kernel
theorem dX12_look_112 : decode cX12_look 112 = .ok (.iload 4, 2) := by decide +kernel
theorem dX12_look_114 : decode cX12_look 114 = .ok (.iadd, 1) := by decide +kernel
theorem dX12_look_115 : decode cX12_look 115 = .ok (.iaload, 1) := by decide +kernel
theorem dX12_look_116 : decode cX12_look 116 = .ok (.iload_n 3, 1) := by decide +kernel
theorem dX12_look_117 : decode cX12_look 117 = .ok (.if_icmp .le 18, 3) := by decide +kernel
theorem dX12_look_120 : decode cX12_look 120 = .ok (.aload_n 0, 1) := by decide +kernel
theorem dX12_look_121 : decode cX12_look 121 = .ok (.getfield 29, 3) := by decide +kernel
theorem dX12_look_124 : decode cX12_look 124 = .ok (.bipush 60, 2) := by decide +kernel
theorem dX12_look_126 : decode cX12_look 126 = .ok (.iload_n 1, 1) := by decide +kernel
theorem dX12_look_127 : decode cX12_look 127 = .ok (.imul, 1) := by decide +kernel
theorem dX12_look_128 : decode cX12_look 128 = .ok (.iload 4, 2) := by decide +kernel
theorem dX12_look_130 : decode cX12_look 130 = .ok (.iadd, 1) := by decide +kernel
theorem dX12_look_131 : decode cX12_look 131 = .ok (.iaload, 1) := by decide +kernel
theorem dX12_look_132 : decode cX12_look 132 = .ok (.goto 4, 3) := by decide +kernel
theorem dX12_look_135 : decode cX12_look 135 = .ok (.iload_n 3, 1) := by decide +kernel
theorem dX12_look_136 : decode cX12_look 136 = .ok (.istore_n 3, 1) := by decide +kernel
theorem dX12_look_137 : decode cX12_look 137 = .ok (.aload_n 0, 1) := by decide +kernel
theorem dX12_look_138 : decode cX12_look 138 = .ok (.aload_n 0, 1) := by decide +kernel
theorem dX12_look_139 : decode cX12_look 139 = .ok (.iload_n 1, 1) := by decide +kernel
theorem dX12_look_140 : decode cX12_look 140 = .ok (.iload 4, 2) := by decide +kernel
theorem dX12_look_142 : decode cX12_look 142 = .ok (.invokevirtual 171, 3) := by decide +kernel
theorem dX12_look_145 : decode cX12_look 145 = .ok (.putfield 168, 3) := by decide +kernel
theorem dX12_look_148 : decode cX12_look 148 = .ok (.aload_n 0, 1) := by decide +kernel
theorem dX12_look_149 : decode cX12_look 149 = .ok (.getfield 168, 3) := by decide +kernel
theorem dX12_look_152 : decode cX12_look 152 = .ok (.ifCond .eq 9, 3) := by decide +kernel
theorem dX12_look_155 : decode cX12_look 155 = .ok (.bipush (-100), 2) := by decide +kernel
theorem dX12_look_157 : decode cX12_look 157 = .ok (.iload 4, 2) := by decide +kernel
theorem dX12_look_159 : decode cX12_look 159 = .ok (.isub, 1) := by decide +kernel
theorem dX12_look_160 : decode cX12_look 160 = .ok (.ireturn, 1) := by decide +kernel
theorem dX12_look_161 : decode cX12_look 161 = .ok (.aload_n 0, 1) := by decide +kernel
theorem dX12_look_162 : decode cX12_look 162 = .ok (.iload_n 1, 1) := by decide +kernel
theorem dX12_look_163 : decode cX12_look 163 = .ok (.invokevirtual 174, 3) := by decide +kernel
theorem dX12_look_166 : decode cX12_look 166 = .ok (.istore 4, 2) := by decide +kernel
theorem dX12_look_168 : decode cX12_look 168 = .ok (.goto (-77), 3) := by decide +kernel
theorem dX12_look_171 : decode cX12_look 171 = .ok (.aload_n 0, 1) := by decide +kernel
theorem dX12_look_172 : decode cX12_look 172 = .ok (.getfield 25, 3) := by decide +kernel
theorem dX12_look_175 : decode cX12_look 175 = .ok (.iload_n 1, 1) := by decide +kernel
theorem dX12_look_176 : decode cX12_look 176 = .ok (.iconst 1, 1) := by decide +kernel
theorem dX12_look_177 : decode cX12_look 177 = .ok (.bastore, 1) := by decide +kernel
theorem dX12_look_178 : decode cX12_look 178 = .ok (.aload_n 0, 1) := by decide +kernel
theorem dX12_look_179 : decode cX12_look 179 = .ok (.getfield 32, 3) := by decide +kernel
theorem dX12_look_182 : decode cX12_look 182 = .ok (.iload_n 1, 1) := by decide +kernel
theorem dX12_look_183 : decode cX12_look 183 = .ok (.iload_n 3, 1) := by decide +kernel
theorem dX12_look_184 : decode cX12_look 184 = .ok (.iastore, 1) := by decide +kernel
theorem dX12_look_185 : decode cX12_look 185 = .ok (.iload_n 3, 1) := by decide +kernel
theorem dX12_look_186 : decode cX12_look 186 = .ok (.ireturn, 1) := by decide +kernel
theorem dX12_fault_0 : decode cX12_fault 0 = .ok (.aload_n 0, 1) := by decide +kernel
theorem dX12_fault_1 : decode cX12_fault 1 = .ok (.getfield 168, 3) := by decide +kernel
theorem dX12_fault_4 : decode cX12_fault 4 = .ok (.ireturn, 1) := by decide +kernel
theorem dX12_keep_0 : decode cX12_keep 0 = .ok (.iload_n 1, 1) := by decide +kernel
theorem dX12_keep_1 : decode cX12_keep 1 = .ok (.i2l, 1) := by decide +kernel
theorem dX12_keep_2 : decode cX12_keep 2 = .ok (.lconst 0, 1) := by decide +kernel
theorem dX12_keep_3 : decode cX12_keep 3 = .ok (.ldc2_w 150, 3) := by decide +kernel
theorem dX12_keep_6 : decode cX12_keep 6 = .ok (.invokestatic 134, 3) := by decide +kernel
theorem dX12_keep_9 : decode cX12_keep 9 = .ok (.ifCond .ne 6, 3) := by decide +kernel
theorem dX12_keep_12 : decode cX12_keep 12 = .ok (.ldc 177, 2) := by decide +kernel
theorem dX12_keep_14 : decode cX12_keep 14 = .ok (.ireturn, 1) := by decide +kernel
theorem dX12_keep_15 : decode cX12_keep 15 = .ok (.aload_n 0, 1) := by decide +kernel
theorem dX12_keep_16 : decode cX12_keep 16 = .ok (.getfield 41, 3) := by decide +kernel
theorem dX12_keep_19 : decode cX12_keep 19 = .ok (.iload_n 1, 1) := by decide +kernel
theorem dX12_keep_20 : decode cX12_keep 20 = .ok (.iaload, 1) := by decide +kernel
theorem dX12_keep_21 : decode cX12_keep 21 = .ok (.istore_n 3, 1) := by decide +kernel
theorem dX12_keep_22 : decode cX12_keep 22 = .ok (.aload_n 0, 1) := by decide +kernel
theorem dX12_keep_23 : decode cX12_keep 23 = .ok (.getfield 41, 3) := by decide +kernel
theorem dX12_keep_26 : decode cX12_keep 26 = .ok (.iload_n 1, 1) := by decide +kernel
theorem dX12_keep_27 : decode cX12_keep 27 = .ok (.iload_n 2, 1) := by decide +kernel
theorem dX12_keep_28 : decode cX12_keep 28 = .ok (.iastore, 1) := by decide +kernel
theorem dX12_keep_29 : decode cX12_keep 29 = .ok (.iload_n 3, 1) := by decide +kernel
theorem dX12_keep_30 : decode cX12_keep 30 = .ok (.ireturn, 1) := by decide +kernel
theorem dX12_field_0 : decode cX12_field 0 = .ok (.iload_n 1, 1) := by decide +kernel
theorem dX12_field_1 : decode cX12_field 1 = .ok (.i2l, 1) := by decide +kernel
theorem dX12_field_2 : decode cX12_field 2 = .ok (.lconst 0, 1) := by decide +kernel
theorem dX12_field_3 : decode cX12_field 3 = .ok (.ldc2_w 150, 3) := by decide +kernel
theorem dX12_field_6 : decode cX12_field 6 = .ok (.invokestatic 134, 3) := by decide +kernel
theorem dX12_field_9 : decode cX12_field 9 = .ok (.ifCond .eq 12, 3) := by decide +kernel
theorem dX12_field_12 : decode cX12_field 12 = .ok (.aload_n 0, 1) := by decide +kernel
theorem dX12_field_13 : decode cX12_field 13 = .ok (.getfield 41, 3) := by decide +kernel
theorem dX12_field_16 : decode cX12_field 16 = .ok (.iload_n 1, 1) := by decide +kernel
theorem dX12_field_17 : decode cX12_field 17 = .ok (.iaload, 1) := by decide +kernel
theorem dX12_field_18 : decode cX12_field 18 = .ok (.goto 5, 3) := by decide +kernel
theorem dX12_field_21 : decode cX12_field 21 = .ok (.ldc 177, 2) := by decide +kernel
theorem dX12_field_23 : decode cX12_field 23 = .ok (.ireturn, 1) := by decide +kernel
theorem dX12_lose_0 : decode cX12_lose 0 = .ok (.iload_n 1, 1) := by decide +kernel
theorem dX12_lose_1 : decode cX12_lose 1 = .ok (.i2l, 1) := by decide +kernel
theorem dX12_lose_2 : decode cX12_lose 2 = .ok (.lconst 0, 1) := by decide +kernel
theorem dX12_lose_3 : decode cX12_lose 3 = .ok (.ldc2_w 132, 3) := by decide +kernel
theorem dX12_lose_6 : decode cX12_lose 6 = .ok (.invokestatic 134, 3) := by decide +kernel
theorem dX12_lose_9 : decode cX12_lose 9 = .ok (.ifCond .ne 6, 3) := by decide +kernel
theorem dX12_lose_12 : decode cX12_lose 12 = .ok (.bipush (-2), 2) := by decide +kernel
theorem dX12_lose_14 : decode cX12_lose 14 = .ok (.ireturn, 1) := by decide +kernel
theorem dX12_lose_15 : decode cX12_lose 15 = .ok (.aload_n 0, 1) := by decide +kernel
theorem dX12_lose_16 : decode cX12_lose 16 = .ok (.getfield 44, 3) := by decide +kernel
theorem dX12_lose_19 : decode cX12_lose 19 = .ok (.iload_n 1, 1) := by decide +kernel
theorem dX12_lose_20 : decode cX12_lose 20 = .ok (.iaload, 1) := by decide +kernel
theorem dX12_lose_21 : decode cX12_lose 21 = .ok (.istore_n 2, 1) := by decide +kernel
theorem dX12_lose_22 : decode cX12_lose 22 = .ok (.aload_n 0, 1) := by decide +kernel
theorem dX12_lose_23 : decode cX12_lose 23 = .ok (.getfield 44, 3) := by decide +kernel
theorem dX12_lose_26 : decode cX12_lose 26 = .ok (.iload_n 1, 1) := by decide +kernel
theorem dX12_lose_27 : decode cX12_lose 27 = .ok (.iconst (-1), 1) := by decide +kernel
theorem dX12_lose_28 : decode cX12_lose 28 = .ok (.iastore, 1) := by decide +kernel
theorem dX12_lose_29 : decode cX12_lose 29 = .ok (.iload_n 2, 1) := by decide +kernel
theorem dX12_lose_30 : decode cX12_lose 30 = .ok (.ireturn, 1) := by decide +kernel
theorem dX12_size_0 : decode cX12_size 0 = .ok (.iload_n 1, 1) := by decide +kernel
theorem dX12_size_1 : decode cX12_size 1 = .ok (.i2l, 1) := by decide +kernel
theorem dX12_size_2 : decode cX12_size 2 = .ok (.lconst 0, 1) := by decide +kernel
theorem dX12_size_3 : decode cX12_size 3 = .ok (.ldc2_w 132, 3) := by decide +kernel
theorem dX12_size_6 : decode cX12_size 6 = .ok (.invokestatic 134, 3) := by decide +kernel
theorem dX12_size_9 : decode cX12_size 9 = .ok (.ifCond .eq 12, 3) := by decide +kernel
theorem dX12_size_12 : decode cX12_size 12 = .ok (.aload_n 0, 1) := by decide +kernel
theorem dX12_size_13 : decode cX12_size 13 = .ok (.getfield 44, 3) := by decide +kernel
theorem dX12_size_16 : decode cX12_size 16 = .ok (.iload_n 1, 1) := by decide +kernel
theorem dX12_size_17 : decode cX12_size 17 = .ok (.iaload, 1) := by decide +kernel
theorem dX12_size_18 : decode cX12_size 18 = .ok (.goto 5, 3) := by decide +kernel
theorem dX12_size_21 : decode cX12_size 21 = .ok (.bipush (-2), 2) := by decide +kernel
theorem dX12_size_23 : decode cX12_size 23 = .ok (.ireturn, 1) := by decide +kernel
theorem dX12_item_0 : decode cX12_item 0 = .ok (.iload_n 1, 1) := by decide +kernel
theorem dX12_item_1 : decode cX12_item 1 = .ok (.i2l, 1) := by decide +kernel
theorem dX12_item_2 : decode cX12_item 2 = .ok (.lconst 0, 1) := by decide +kernel
theorem dX12_item_3 : decode cX12_item 3 = .ok (.ldc2_w 132, 3) := by decide +kernel
theorem dX12_item_6 : decode cX12_item 6 = .ok (.invokestatic 134, 3) := by decide +kernel
theorem dX12_item_9 : decode cX12_item 9 = .ok (.ifCond .eq 35, 3) := by decide +kernel
theorem dX12_item_12 : decode cX12_item 12 = .ok (.iload_n 2, 1) := by decide +kernel
theorem dX12_item_13 : decode cX12_item 13 = .ok (.i2l, 1) := by decide +kernel
theorem dX12_item_14 : decode cX12_item 14 = .ok (.lconst 0, 1) := by decide +kernel
theorem dX12_item_15 : decode cX12_item 15 = .ok (.aload_n 0, 1) := by decide +kernel
theorem dX12_item_16 : decode cX12_item 16 = .ok (.getfield 44, 3) := by decide +kernel
theorem dX12_item_19 : decode cX12_item 19 = .ok (.iload_n 1, 1) := by decide +kernel
theorem dX12_item_20 : decode cX12_item 20 = .ok (.iaload, 1) := by decide +kernel
theorem dX12_item_21 : decode cX12_item 21 = .ok (.iconst 1, 1) := by decide +kernel
theorem dX12_item_22 : decode cX12_item 22 = .ok (.isub, 1) := by decide +kernel
theorem dX12_item_23 : decode cX12_item 23 = .ok (.i2l, 1) := by decide +kernel
theorem dX12_item_24 : decode cX12_item 24 = .ok (.invokestatic 134, 3) := by decide +kernel
theorem dX12_item_27 : decode cX12_item 27 = .ok (.ifCond .eq 17, 3) := by decide +kernel
theorem dX12_item_30 : decode cX12_item 30 = .ok (.aload_n 0, 1) := by decide +kernel
theorem dX12_item_31 : decode cX12_item 31 = .ok (.getfield 47, 3) := by decide +kernel
theorem dX12_item_34 : decode cX12_item 34 = .ok (.bipush 20, 2) := by decide +kernel
theorem dX12_item_36 : decode cX12_item 36 = .ok (.iload_n 1, 1) := by decide +kernel
theorem dX12_item_37 : decode cX12_item 37 = .ok (.imul, 1) := by decide +kernel
theorem dX12_item_38 : decode cX12_item 38 = .ok (.iload_n 2, 1) := by decide +kernel
theorem dX12_item_39 : decode cX12_item 39 = .ok (.iadd, 1) := by decide +kernel
theorem dX12_item_40 : decode cX12_item 40 = .ok (.iaload, 1) := by decide +kernel
theorem dX12_item_41 : decode cX12_item 41 = .ok (.goto 4, 3) := by decide +kernel
theorem dX12_item_44 : decode cX12_item 44 = .ok (.iconst 0, 1) := by decide +kernel
theorem dX12_item_45 : decode cX12_item 45 = .ok (.ireturn, 1) := by decide +kernel
theorem dX12_part_0 : decode cX12_part 0 = .ok (.sipush 640, 3) := by decide +kernel
theorem dX12_part_3 : decode cX12_part 3 = .ok (.aload_n 0, 1) := by decide +kernel
theorem dX12_part_4 : decode cX12_part 4 = .ok (.getfield 181, 3) := by decide +kernel
theorem dX12_part_7 : decode cX12_part 7 = .ok (.imul, 1) := by decide +kernel
theorem dX12_part_8 : decode cX12_part 8 = .ok (.aload_n 0, 1) := by decide +kernel
theorem dX12_part_9 : decode cX12_part 9 = .ok (.getfield 74, 3) := by decide +kernel
theorem dX12_part_12 : decode cX12_part 12 = .ok (.aload_n 0, 1) := by decide +kernel
theorem dX12_part_13 : decode cX12_part 13 = .ok (.getfield 181, 3) := by decide +kernel
theorem dX12_part_16 : decode cX12_part 16 = .ok (.iaload, 1) := by decide +kernel
theorem dX12_part_17 : decode cX12_part 17 = .ok (.iadd, 1) := by decide +kernel
theorem dX12_part_18 : decode cX12_part 18 = .ok (.istore 5, 2) := by decide +kernel
theorem dX12_part_20 : decode cX12_part 20 = .ok (.aload_n 0, 1) := by decide +kernel
theorem dX12_part_21 : decode cX12_part 21 = .ok (.getfield 81, 3) := by decide +kernel
theorem dX12_part_24 : decode cX12_part 24 = .ok (.iload 5, 2) := by decide +kernel
theorem dX12_part_26 : decode cX12_part 26 = .ok (.iload_n 1, 1) := by decide +kernel
theorem dX12_part_27 : decode cX12_part 27 = .ok (.iastore, 1) := by decide +kernel
theorem dX12_part_28 : decode cX12_part 28 = .ok (.aload_n 0, 1) := by decide +kernel
theorem dX12_part_29 : decode cX12_part 29 = .ok (.getfield 84, 3) := by decide +kernel
theorem dX12_part_32 : decode cX12_part 32 = .ok (.iload 5, 2) := by decide +kernel
theorem dX12_part_34 : decode cX12_part 34 = .ok (.iload_n 2, 1) := by decide +kernel
theorem dX12_part_35 : decode cX12_part 35 = .ok (.iastore, 1) := by decide +kernel
theorem dX12_part_36 : decode cX12_part 36 = .ok (.aload_n 0, 1) := by decide +kernel
theorem dX12_part_37 : decode cX12_part 37 = .ok (.getfield 87, 3) := by decide +kernel
theorem dX12_part_40 : decode cX12_part 40 = .ok (.iload 5, 2) := by decide +kernel
theorem dX12_part_42 : decode cX12_part 42 = .ok (.iload_n 3, 1) := by decide +kernel
theorem dX12_part_43 : decode cX12_part 43 = .ok (.iastore, 1) := by decide +kernel
theorem dX12_part_44 : decode cX12_part 44 = .ok (.aload_n 0, 1) := by decide +kernel
theorem dX12_part_45 : decode cX12_part 45 = .ok (.getfield 90, 3) := by decide +kernel
theorem dX12_part_48 : decode cX12_part 48 = .ok (.iload 5, 2) := by decide +kernel
theorem dX12_part_50 : decode cX12_part 50 = .ok (.iload 4, 2) := by decide +kernel
theorem dX12_part_52 : decode cX12_part 52 = .ok (.iastore, 1) := by decide +kernel
theorem dX12_part_53 : decode cX12_part 53 = .ok (.aload_n 0, 1) := by decide +kernel
theorem dX12_part_54 : decode cX12_part 54 = .ok (.getfield 93, 3) := by decide +kernel
theorem dX12_part_57 : decode cX12_part 57 = .ok (.iload 5, 2) := by decide +kernel
theorem dX12_part_59 : decode cX12_part 59 = .ok (.aload_n 0, 1) := by decide +kernel
theorem dX12_part_60 : decode cX12_part 60 = .ok (.getfield 184, 3) := by decide +kernel
theorem dX12_part_63 : decode cX12_part 63 = .ok (.iastore, 1) := by decide +kernel
theorem dX12_part_64 : decode cX12_part 64 = .ok (.aload_n 0, 1) := by decide +kernel
theorem dX12_part_65 : decode cX12_part 65 = .ok (.getfield 74, 3) := by decide +kernel
theorem dX12_part_68 : decode cX12_part 68 = .ok (.aload_n 0, 1) := by decide +kernel
theorem dX12_part_69 : decode cX12_part 69 = .ok (.getfield 181, 3) := by decide +kernel
theorem dX12_part_72 : decode cX12_part 72 = .ok (.dup2, 1) := by decide +kernel
theorem dX12_part_73 : decode cX12_part 73 = .ok (.iaload, 1) := by decide +kernel
theorem dX12_part_74 : decode cX12_part 74 = .ok (.iconst 1, 1) := by decide +kernel
theorem dX12_part_75 : decode cX12_part 75 = .ok (.iadd, 1) := by decide +kernel
theorem dX12_part_76 : decode cX12_part 76 = .ok (.iastore, 1) := by decide +kernel
theorem dX12_part_77 : decode cX12_part 77 = .ok (.return_, 1) := by decide +kernel
theorem dX12_run_0 : decode cX12_run 0 = .ok (.aload_n 0, 1) := by decide +kernel
theorem dX12_run_1 : decode cX12_run 1 = .ok (.iload_n 1, 1) := by decide +kernel
theorem dX12_run_2 : decode cX12_run 2 = .ok (.invokevirtual 144, 3) := by decide +kernel
theorem dX12_run_5 : decode cX12_run 5 = .ok (.ifCond .ne 6, 3) := by decide +kernel
theorem dX12_run_8 : decode cX12_run 8 = .ok (.bipush (-2), 2) := by decide +kernel
theorem dX12_run_10 : decode cX12_run 10 = .ok (.ireturn, 1) := by decide +kernel
theorem dX12_run_11 : decode cX12_run 11 = .ok (.iconst 0, 1) := by decide +kernel
theorem dX12_run_12 : decode cX12_run 12 = .ok (.istore 5, 2) := by decide +kernel
theorem dX12_run_14 : decode cX12_run 14 = .ok (.iload 5, 2) := by decide +kernel
theorem dX12_run_16 : decode cX12_run 16 = .ok (.aload_n 0, 1) := by decide +kernel
theorem dX12_run_17 : decode cX12_run 17 = .ok (.getfield 140, 3) := by decide +kernel
theorem dX12_run_20 : decode cX12_run 20 = .ok (.if_icmp .ge 22, 3) := by decide +kernel
theorem dX12_run_23 : decode cX12_run 23 = .ok (.aload_n 0, 1) := by decide +kernel
theorem dX12_run_24 : decode cX12_run 24 = .ok (.getfield 25, 3) := by decide +kernel
theorem dX12_run_27 : decode cX12_run 27 = .ok (.iload 5, 2) := by decide +kernel
theorem dX12_run_29 : decode cX12_run 29 = .ok (.baload, 1) := by decide +kernel
theorem dX12_run_30 : decode cX12_run 30 = .ok (.ifCond .ne 6, 3) := by decide +kernel
theorem dX12_run_33 : decode cX12_run 33 = .ok (.bipush (-3), 2) := by decide +kernel
theorem dX12_run_35 : decode cX12_run 35 = .ok (.ireturn, 1) := by decide +kernel
theorem dX12_run_36 : decode cX12_run 36 = .ok (.iinc 5 1, 3) := by decide +kernel
theorem dX12_run_39 : decode cX12_run 39 = .ok (.goto (-25), 3) := by decide +kernel
theorem dX12_run_42 : decode cX12_run 42 = .ok (.aload_n 0, 1) := by decide +kernel
theorem dX12_run_43 : decode cX12_run 43 = .ok (.getfield 285, 3) := by decide +kernel
theorem dX12_run_46 : decode cX12_run 46 = .ok (.bipush 80, 2) := by decide +kernel
theorem dX12_run_48 : decode cX12_run 48 = .ok (.if_icmp .ne 6, 3) := by decide +kernel
theorem dX12_run_51 : decode cX12_run 51 = .ok (.bipush (-4), 2) := by decide +kernel
theorem dX12_run_53 : decode cX12_run 53 = .ok (.ireturn, 1) := by decide +kernel
theorem dX12_run_54 : decode cX12_run 54 = .ok (.aload_n 0, 1) := by decide +kernel
theorem dX12_run_55 : decode cX12_run 55 = .ok (.dup, 1) := by decide +kernel
theorem dX12_run_56 : decode cX12_run 56 = .ok (.getfield 285, 3) := by decide +kernel
theorem dX12_run_59 : decode cX12_run 59 = .ok (.iconst 1, 1) := by decide +kernel
theorem dX12_run_60 : decode cX12_run 60 = .ok (.iadd, 1) := by decide +kernel
theorem dX12_run_61 : decode cX12_run 61 = .ok (.putfield 285, 3) := by decide +kernel
theorem dX12_run_64 : decode cX12_run 64 = .ok (.aload_n 0, 1) := by decide +kernel
theorem dX12_run_65 : decode cX12_run 65 = .ok (.iconst 0, 1) := by decide +kernel
theorem dX12_run_66 : decode cX12_run 66 = .ok (.putfield 233, 3) := by decide +kernel
theorem dX12_run_69 : decode cX12_run 69 = .ok (.aload_n 0, 1) := by decide +kernel
theorem dX12_run_70 : decode cX12_run 70 = .ok (.iconst 0, 1) := by decide +kernel
theorem dX12_run_71 : decode cX12_run 71 = .ok (.putfield 236, 3) := by decide +kernel
theorem dX12_run_74 : decode cX12_run 74 = .ok (.aload_n 0, 1) := by decide +kernel
theorem dX12_run_75 : decode cX12_run 75 = .ok (.iconst 0, 1) := by decide +kernel
theorem dX12_run_76 : decode cX12_run 76 = .ok (.putfield 230, 3) := by decide +kernel
theorem dX12_run_79 : decode cX12_run 79 = .ok (.aload_n 0, 1) := by decide +kernel
theorem dX12_run_80 : decode cX12_run 80 = .ok (.iconst 0, 1) := by decide +kernel
theorem dX12_run_81 : decode cX12_run 81 = .ok (.putfield 246, 3) := by decide +kernel
theorem dX12_run_84 : decode cX12_run 84 = .ok (.aload_n 0, 1) := by decide +kernel
theorem dX12_run_85 : decode cX12_run 85 = .ok (.iconst 0, 1) := by decide +kernel
theorem dX12_run_86 : decode cX12_run 86 = .ok (.putfield 252, 3) := by decide +kernel
theorem dX12_run_89 : decode cX12_run 89 = .ok (.aload_n 0, 1) := by decide +kernel
theorem dX12_run_90 : decode cX12_run 90 = .ok (.iconst 0, 1) := by decide +kernel
theorem dX12_run_91 : decode cX12_run 91 = .ok (.putfield 275, 3) := by decide +kernel
theorem dX12_run_94 : decode cX12_run 94 = .ok (.aload_n 0, 1) := by decide +kernel
theorem dX12_run_95 : decode cX12_run 95 = .ok (.iconst 0, 1) := by decide +kernel
theorem dX12_run_96 : decode cX12_run 96 = .ok (.putfield 259, 3) := by decide +kernel
theorem dX12_run_99 : decode cX12_run 99 = .ok (.iconst 0, 1) := by decide +kernel
theorem dX12_run_100 : decode cX12_run 100 = .ok (.istore 5, 2) := by decide +kernel
theorem dX12_run_102 : decode cX12_run 102 = .ok (.iload 5, 2) := by decide +kernel
theorem dX12_run_104 : decode cX12_run 104 = .ok (.iconst 4, 1) := by decide +kernel
theorem dX12_run_105 : decode cX12_run 105 = .ok (.if_icmp .ge 17, 3) := by decide +kernel
theorem dX12_run_108 : decode cX12_run 108 = .ok (.aload_n 0, 1) := by decide +kernel
theorem dX12_run_109 : decode cX12_run 109 = .ok (.getfield 126, 3) := by decide +kernel
theorem dX12_run_112 : decode cX12_run 112 = .ok (.iload 5, 2) := by decide +kernel
theorem dX12_run_114 : decode cX12_run 114 = .ok (.iconst 0, 1) := by decide +kernel
theorem dX12_run_115 : decode cX12_run 115 = .ok (.iastore, 1) := by decide +kernel
theorem dX12_run_116 : decode cX12_run 116 = .ok (.iinc 5 1, 3) := by decide +kernel
theorem dX12_run_119 : decode cX12_run 119 = .ok (.goto (-17), 3) := by decide +kernel
theorem dX12_run_122 : decode cX12_run 122 = .ok (.aload_n 0, 1) := by decide +kernel
theorem dX12_run_123 : decode cX12_run 123 = .ok (.getfield 129, 3) := by decide +kernel
theorem dX12_run_126 : decode cX12_run 126 = .ok (.iconst 0, 1) := by decide +kernel
theorem dX12_run_127 : decode cX12_run 127 = .ok (.iload_n 2, 1) := by decide +kernel
theorem dX12_run_128 : decode cX12_run 128 = .ok (.iastore, 1) := by decide +kernel
theorem dX12_run_129 : decode cX12_run 129 = .ok (.aload_n 0, 1) := by decide +kernel
theorem dX12_run_130 : decode cX12_run 130 = .ok (.getfield 129, 3) := by decide +kernel
theorem dX12_run_133 : decode cX12_run 133 = .ok (.iconst 1, 1) := by decide +kernel
theorem dX12_run_134 : decode cX12_run 134 = .ok (.iload_n 3, 1) := by decide +kernel
theorem dX12_run_135 : decode cX12_run 135 = .ok (.iastore, 1) := by decide +kernel
theorem dX12_run_136 : decode cX12_run 136 = .ok (.aload_n 0, 1) := by decide +kernel
theorem dX12_run_137 : decode cX12_run 137 = .ok (.getfield 129, 3) := by decide +kernel
theorem dX12_run_140 : decode cX12_run 140 = .ok (.iconst 2, 1) := by decide +kernel
theorem dX12_run_141 : decode cX12_run 141 = .ok (.iload 4, 2) := by decide +kernel
theorem dX12_run_143 : decode cX12_run 143 = .ok (.iastore, 1) := by decide +kernel
theorem dX12_run_144 : decode cX12_run 144 = .ok (.aload_n 0, 1) := by decide +kernel
theorem dX12_run_145 : decode cX12_run 145 = .ok (.iload_n 1, 1) := by decide +kernel
theorem dX12_run_146 : decode cX12_run 146 = .ok (.aload_n 0, 1) := by decide +kernel
theorem dX12_run_147 : decode cX12_run 147 = .ok (.getfield 129, 3) := by decide +kernel
theorem dX12_run_150 : decode cX12_run 150 = .ok (.iconst 0, 1) := by decide +kernel
theorem dX12_run_151 : decode cX12_run 151 = .ok (.iconst 0, 1) := by decide +kernel
theorem dX12_run_152 : decode cX12_run 152 = .ok (.invokevirtual 262, 3) := by decide +kernel
theorem dX12_run_155 : decode cX12_run 155 = .ok (.aload_n 0, 1) := by decide +kernel
theorem dX12_run_156 : decode cX12_run 156 = .ok (.getfield 233, 3) := by decide +kernel
theorem dX12_run_159 : decode cX12_run 159 = .ok (.ifCond .ne 31, 3) := by decide +kernel
theorem dX12_run_162 : decode cX12_run 162 = .ok (.aload_n 0, 1) := by decide +kernel
theorem dX12_run_163 : decode cX12_run 163 = .ok (.getfield 117, 3) := by decide +kernel
theorem dX12_run_166 : decode cX12_run 166 = .ok (.aload_n 0, 1) := by decide +kernel
theorem dX12_run_167 : decode cX12_run 167 = .ok (.getfield 236, 3) := by decide +kernel
theorem dX12_run_170 : decode cX12_run 170 = .ok (.iconst 1, 1) := by decide +kernel
theorem dX12_run_171 : decode cX12_run 171 = .ok (.isub, 1) := by decide +kernel
theorem dX12_run_172 : decode cX12_run 172 = .ok (.iaload, 1) := by decide +kernel
theorem dX12_run_173 : decode cX12_run 173 = .ok (.ifCond .ge 10, 3) := by decide +kernel
theorem dX12_run_176 : decode cX12_run 176 = .ok (.aload_n 0, 1) := by decide +kernel
theorem dX12_run_177 : decode cX12_run 177 = .ok (.invokevirtual 288, 3) := by decide +kernel
theorem dX12_run_180 : decode cX12_run 180 = .ok (.goto (-25), 3) := by decide +kernel
theorem dX12_run_183 : decode cX12_run 183 = .ok (.aload_n 0, 1) := by decide +kernel
theorem dX12_run_184 : decode cX12_run 184 = .ok (.invokevirtual 291, 3) := by decide +kernel
theorem dX12_run_187 : decode cX12_run 187 = .ok (.goto (-32), 3) := by decide +kernel
theorem dX12_run_190 : decode cX12_run 190 = .ok (.aload_n 0, 1) := by decide +kernel
theorem dX12_run_191 : decode cX12_run 191 = .ok (.getfield 233, 3) := by decide +kernel
theorem dX12_run_194 : decode cX12_run 194 = .ok (.iconst 2, 1) := by decide +kernel
theorem dX12_run_195 : decode cX12_run 195 = .ok (.if_icmp .ne 7, 3) := by decide +kernel
theorem dX12_run_198 : decode cX12_run 198 = .ok (.iconst 0, 1) := by decide +kernel
theorem dX12_run_199 : decode cX12_run 199 = .ok (.goto 7, 3) := by decide +kernel
theorem dX12_run_202 : decode cX12_run 202 = .ok (.aload_n 0, 1) := by decide +kernel
theorem dX12_run_203 : decode cX12_run 203 = .ok (.getfield 233, 3) := by decide +kernel
theorem dX12_run_206 : decode cX12_run 206 = .ok (.ireturn, 1) := by decide +kernel
theorem dX12_answer_0 : decode cX12_answer 0 = .ok (.aload_n 0, 1) := by decide +kernel
theorem dX12_answer_1 : decode cX12_answer 1 = .ok (.getfield 259, 3) := by decide +kernel
theorem dX12_answer_4 : decode cX12_answer 4 = .ok (.ireturn, 1) := by decide +kernel
theorem dX12_trap_0 : decode cX12_trap 0 = .ok (.iload_n 1, 1) := by decide +kernel
theorem dX12_trap_1 : decode cX12_trap 1 = .ok (.i2l, 1) := by decide +kernel
theorem dX12_trap_2 : decode cX12_trap 2 = .ok (.lconst 0, 1) := by decide +kernel
theorem dX12_trap_3 : decode cX12_trap 3 = .ok (.ldc2_w 132, 3) := by decide +kernel
theorem dX12_trap_6 : decode cX12_trap 6 = .ok (.invokestatic 134, 3) := by decide +kernel
theorem dX12_trap_9 : decode cX12_trap 9 = .ok (.ifCond .eq 12, 3) := by decide +kernel
theorem dX12_trap_12 : decode cX12_trap 12 = .ok (.aload_n 0, 1) := by decide +kernel
theorem dX12_trap_13 : decode cX12_trap 13 = .ok (.getfield 126, 3) := by decide +kernel
theorem dX12_trap_16 : decode cX12_trap 16 = .ok (.iload_n 1, 1) := by decide +kernel
theorem dX12_trap_17 : decode cX12_trap 17 = .ok (.iaload, 1) := by decide +kernel
theorem dX12_trap_18 : decode cX12_trap 18 = .ok (.goto 5, 3) := by decide +kernel
theorem dX12_trap_21 : decode cX12_trap 21 = .ok (.bipush (-2), 2) := by decide +kernel
theorem dX12_trap_23 : decode cX12_trap 23 = .ok (.ireturn, 1) := by decide +kernel
theorem dX12_of_0 : decode cX12_of 0 = .ok (.aload_n 0, 1) := by decide +kernel
theorem dX12_of_1 : decode cX12_of 1 = .ok (.iload_n 1, 1) := by decide +kernel
theorem dX12_of_2 : decode cX12_of 2 = .ok (.invokevirtual 144, 3) := by decide +kernel
theorem dX12_of_5 : decode cX12_of 5 = .ok (.ifCond .ne 6, 3) := by decide +kernel
theorem dX12_of_8 : decode cX12_of 8 = .ok (.bipush (-2), 2) := by decide +kernel
theorem dX12_of_10 : decode cX12_of 10 = .ok (.ireturn, 1) := by decide +kernel
theorem dX12_of_11 : decode cX12_of 11 = .ok (.iload_n 2, 1) := by decide +kernel
theorem dX12_of_12 : decode cX12_of 12 = .ok (.tableswitch 124 0 7 #[48, 63, 70, 77, 84, 91, 97, 104], 48) := by decide +kernel
theorem dX12_of_60 : decode cX12_of 60 = .ok (.aload_n 0, 1) := by decide +kernel
theorem dX12_of_61 : decode cX12_of 61 = .ok (.getfield 50, 3) := by decide +kernel
theorem dX12_of_64 : decode cX12_of 64 = .ok (.iload_n 1, 1) := by decide +kernel
theorem dX12_of_65 : decode cX12_of 65 = .ok (.baload, 1) := by decide +kernel
theorem dX12_of_66 : decode cX12_of 66 = .ok (.ifCond .eq 7, 3) := by decide +kernel
theorem dX12_of_69 : decode cX12_of 69 = .ok (.iconst 1, 1) := by decide +kernel
theorem dX12_of_70 : decode cX12_of 70 = .ok (.goto 4, 3) := by decide +kernel
theorem dX12_of_73 : decode cX12_of 73 = .ok (.iconst 0, 1) := by decide +kernel
theorem dX12_of_74 : decode cX12_of 74 = .ok (.ireturn, 1) := by decide +kernel
theorem dX12_of_75 : decode cX12_of 75 = .ok (.aload_n 0, 1) := by decide +kernel
theorem dX12_of_76 : decode cX12_of 76 = .ok (.getfield 53, 3) := by decide +kernel
theorem dX12_of_79 : decode cX12_of 79 = .ok (.iload_n 1, 1) := by decide +kernel
theorem dX12_of_80 : decode cX12_of 80 = .ok (.iaload, 1) := by decide +kernel
theorem dX12_of_81 : decode cX12_of 81 = .ok (.ireturn, 1) := by decide +kernel
theorem dX12_of_82 : decode cX12_of 82 = .ok (.aload_n 0, 1) := by decide +kernel
theorem dX12_of_83 : decode cX12_of 83 = .ok (.getfield 56, 3) := by decide +kernel
theorem dX12_of_86 : decode cX12_of 86 = .ok (.iload_n 1, 1) := by decide +kernel
theorem dX12_of_87 : decode cX12_of 87 = .ok (.iaload, 1) := by decide +kernel
theorem dX12_of_88 : decode cX12_of 88 = .ok (.ireturn, 1) := by decide +kernel
theorem dX12_of_89 : decode cX12_of 89 = .ok (.aload_n 0, 1) := by decide +kernel
theorem dX12_of_90 : decode cX12_of 90 = .ok (.getfield 59, 3) := by decide +kernel
theorem dX12_of_93 : decode cX12_of 93 = .ok (.iload_n 1, 1) := by decide +kernel
theorem dX12_of_94 : decode cX12_of 94 = .ok (.iaload, 1) := by decide +kernel
theorem dX12_of_95 : decode cX12_of 95 = .ok (.ireturn, 1) := by decide +kernel
theorem dX12_of_96 : decode cX12_of 96 = .ok (.aload_n 0, 1) := by decide +kernel
theorem dX12_of_97 : decode cX12_of 97 = .ok (.getfield 62, 3) := by decide +kernel
theorem dX12_of_100 : decode cX12_of 100 = .ok (.iload_n 1, 1) := by decide +kernel
theorem dX12_of_101 : decode cX12_of 101 = .ok (.iaload, 1) := by decide +kernel
theorem dX12_of_102 : decode cX12_of 102 = .ok (.ireturn, 1) := by decide +kernel
theorem dX12_of_103 : decode cX12_of 103 = .ok (.aload_n 0, 1) := by decide +kernel
theorem dX12_of_104 : decode cX12_of 104 = .ok (.iload_n 1, 1) := by decide +kernel
theorem dX12_of_105 : decode cX12_of 105 = .ok (.invokevirtual 294, 3) := by decide +kernel
theorem dX12_of_108 : decode cX12_of 108 = .ok (.ireturn, 1) := by decide +kernel
theorem dX12_of_109 : decode cX12_of 109 = .ok (.aload_n 0, 1) := by decide +kernel
theorem dX12_of_110 : decode cX12_of 110 = .ok (.getfield 16, 3) := by decide +kernel
theorem dX12_of_113 : decode cX12_of 113 = .ok (.iload_n 1, 1) := by decide +kernel
theorem dX12_of_114 : decode cX12_of 114 = .ok (.iaload, 1) := by decide +kernel
theorem dX12_of_115 : decode cX12_of 115 = .ok (.ireturn, 1) := by decide +kernel
theorem dX12_of_116 : decode cX12_of 116 = .ok (.aload_n 0, 1) := by decide +kernel
theorem dX12_of_117 : decode cX12_of 117 = .ok (.getfield 25, 3) := by decide +kernel
theorem dX12_of_120 : decode cX12_of 120 = .ok (.iload_n 1, 1) := by decide +kernel
theorem dX12_of_121 : decode cX12_of 121 = .ok (.baload, 1) := by decide +kernel
theorem dX12_of_122 : decode cX12_of 122 = .ok (.ifCond .eq 12, 3) := by decide +kernel
theorem dX12_of_125 : decode cX12_of 125 = .ok (.aload_n 0, 1) := by decide +kernel
theorem dX12_of_126 : decode cX12_of 126 = .ok (.getfield 32, 3) := by decide +kernel
theorem dX12_of_129 : decode cX12_of 129 = .ok (.iload_n 1, 1) := by decide +kernel
theorem dX12_of_130 : decode cX12_of 130 = .ok (.iaload, 1) := by decide +kernel
theorem dX12_of_131 : decode cX12_of 131 = .ok (.goto 4, 3) := by decide +kernel
theorem dX12_of_134 : decode cX12_of 134 = .ok (.iconst (-1), 1) := by decide +kernel
theorem dX12_of_135 : decode cX12_of 135 = .ok (.ireturn, 1) := by decide +kernel
theorem dX12_of_136 : decode cX12_of 136 = .ok (.bipush (-2), 2) := by decide +kernel
theorem dX12_of_138 : decode cX12_of 138 = .ok (.ireturn, 1) := by decide +kernel
theorem dX12_varies_0 : decode cX12_varies 0 = .ok (.aload_n 0, 1) := by decide +kernel
theorem dX12_varies_1 : decode cX12_varies 1 = .ok (.iload_n 1, 1) := by decide +kernel
theorem dX12_varies_2 : decode cX12_varies 2 = .ok (.invokevirtual 144, 3) := by decide +kernel
theorem dX12_varies_5 : decode cX12_varies 5 = .ok (.ifCond .eq 29, 3) := by decide +kernel
theorem dX12_varies_8 : decode cX12_varies 8 = .ok (.iload_n 2, 1) := by decide +kernel
theorem dX12_varies_9 : decode cX12_varies 9 = .ok (.i2l, 1) := by decide +kernel
theorem dX12_varies_10 : decode cX12_varies 10 = .ok (.lconst 0, 1) := by decide +kernel
theorem dX12_varies_11 : decode cX12_varies 11 = .ok (.ldc2_w 297, 3) := by decide +kernel
theorem dX12_varies_14 : decode cX12_varies 14 = .ok (.invokestatic 134, 3) := by decide +kernel
theorem dX12_varies_17 : decode cX12_varies 17 = .ok (.ifCond .ne 20, 3) := by decide +kernel
theorem dX12_varies_20 : decode cX12_varies 20 = .ok (.iload_n 2, 1) := by decide +kernel
theorem dX12_varies_21 : decode cX12_varies 21 = .ok (.i2l, 1) := by decide +kernel
theorem dX12_varies_22 : decode cX12_varies 22 = .ok (.ldc2_w 299, 3) := by decide +kernel
theorem dX12_varies_25 : decode cX12_varies 25 = .ok (.ldc2_w 301, 3) := by decide +kernel
theorem dX12_varies_28 : decode cX12_varies 28 = .ok (.invokestatic 134, 3) := by decide +kernel
theorem dX12_varies_31 : decode cX12_varies 31 = .ok (.ifCond .ne 6, 3) := by decide +kernel
theorem dX12_varies_34 : decode cX12_varies 34 = .ok (.bipush (-2), 2) := by decide +kernel
theorem dX12_varies_36 : decode cX12_varies 36 = .ok (.ireturn, 1) := by decide +kernel
theorem dX12_varies_37 : decode cX12_varies 37 = .ok (.aload_n 0, 1) := by decide +kernel
theorem dX12_varies_38 : decode cX12_varies 38 = .ok (.getfield 71, 3) := by decide +kernel
theorem dX12_varies_41 : decode cX12_varies 41 = .ok (.bipush 11, 2) := by decide +kernel
theorem dX12_varies_43 : decode cX12_varies 43 = .ok (.iload_n 1, 1) := by decide +kernel
theorem dX12_varies_44 : decode cX12_varies 44 = .ok (.imul, 1) := by decide +kernel
theorem dX12_varies_45 : decode cX12_varies 45 = .ok (.iload_n 2, 1) := by decide +kernel
theorem dX12_varies_46 : decode cX12_varies 46 = .ok (.iconst 3, 1) := by decide +kernel
theorem dX12_varies_47 : decode cX12_varies 47 = .ok (.if_icmp .ge 7, 3) := by decide +kernel
theorem dX12_varies_50 : decode cX12_varies 50 = .ok (.iload_n 2, 1) := by decide +kernel
theorem dX12_varies_51 : decode cX12_varies 51 = .ok (.goto 7, 3) := by decide +kernel
theorem dX12_varies_54 : decode cX12_varies 54 = .ok (.iload_n 2, 1) := by decide +kernel
theorem dX12_varies_55 : decode cX12_varies 55 = .ok (.bipush 7, 2) := by decide +kernel
theorem dX12_varies_57 : decode cX12_varies 57 = .ok (.isub, 1) := by decide +kernel
theorem dX12_varies_58 : decode cX12_varies 58 = .ok (.iadd, 1) := by decide +kernel
theorem dX12_varies_59 : decode cX12_varies 59 = .ok (.baload, 1) := by decide +kernel
theorem dX12_varies_60 : decode cX12_varies 60 = .ok (.ifCond .eq 7, 3) := by decide +kernel
theorem dX12_varies_63 : decode cX12_varies 63 = .ok (.iconst 1, 1) := by decide +kernel
theorem dX12_varies_64 : decode cX12_varies 64 = .ok (.goto 4, 3) := by decide +kernel
theorem dX12_varies_67 : decode cX12_varies 67 = .ok (.iconst 0, 1) := by decide +kernel
theorem dX12_varies_68 : decode cX12_varies 68 = .ok (.ireturn, 1) := by decide +kernel
theorem dX12_depth_0 : decode cX12_depth 0 = .ok (.aload_n 0, 1) := by decide +kernel
theorem dX12_depth_1 : decode cX12_depth 1 = .ok (.iload_n 1, 1) := by decide +kernel
theorem dX12_depth_2 : decode cX12_depth 2 = .ok (.invokevirtual 144, 3) := by decide +kernel
theorem dX12_depth_5 : decode cX12_depth 5 = .ok (.ifCond .eq 21, 3) := by decide +kernel
theorem dX12_depth_8 : decode cX12_depth 8 = .ok (.iload_n 2, 1) := by decide +kernel
theorem dX12_depth_9 : decode cX12_depth 9 = .ok (.i2l, 1) := by decide +kernel
theorem dX12_depth_10 : decode cX12_depth 10 = .ok (.lconst 0, 1) := by decide +kernel
theorem dX12_depth_11 : decode cX12_depth 11 = .ok (.aload_n 0, 1) := by decide +kernel
theorem dX12_depth_12 : decode cX12_depth 12 = .ok (.getfield 16, 3) := by decide +kernel
theorem dX12_depth_15 : decode cX12_depth 15 = .ok (.iload_n 1, 1) := by decide +kernel
theorem dX12_depth_16 : decode cX12_depth 16 = .ok (.iaload, 1) := by decide +kernel
theorem dX12_depth_17 : decode cX12_depth 17 = .ok (.iconst 1, 1) := by decide +kernel
theorem dX12_depth_18 : decode cX12_depth 18 = .ok (.isub, 1) := by decide +kernel
theorem dX12_depth_19 : decode cX12_depth 19 = .ok (.i2l, 1) := by decide +kernel
theorem dX12_depth_20 : decode cX12_depth 20 = .ok (.invokestatic 134, 3) := by decide +kernel
theorem dX12_depth_23 : decode cX12_depth 23 = .ok (.ifCond .ne 6, 3) := by decide +kernel
theorem dX12_depth_26 : decode cX12_depth 26 = .ok (.bipush (-2), 2) := by decide +kernel
theorem dX12_depth_28 : decode cX12_depth 28 = .ok (.ireturn, 1) := by decide +kernel
theorem dX12_depth_29 : decode cX12_depth 29 = .ok (.aload_n 0, 1) := by decide +kernel
theorem dX12_depth_30 : decode cX12_depth 30 = .ok (.getfield 25, 3) := by decide +kernel
theorem dX12_depth_33 : decode cX12_depth 33 = .ok (.iload_n 1, 1) := by decide +kernel
theorem dX12_depth_34 : decode cX12_depth 34 = .ok (.baload, 1) := by decide +kernel
theorem dX12_depth_35 : decode cX12_depth 35 = .ok (.ifCond .eq 17, 3) := by decide +kernel
theorem dX12_depth_38 : decode cX12_depth 38 = .ok (.aload_n 0, 1) := by decide +kernel
theorem dX12_depth_39 : decode cX12_depth 39 = .ok (.getfield 29, 3) := by decide +kernel
theorem dX12_depth_42 : decode cX12_depth 42 = .ok (.bipush 60, 2) := by decide +kernel
theorem dX12_depth_44 : decode cX12_depth 44 = .ok (.iload_n 1, 1) := by decide +kernel
theorem dX12_depth_45 : decode cX12_depth 45 = .ok (.imul, 1) := by decide +kernel
theorem dX12_depth_46 : decode cX12_depth 46 = .ok (.iload_n 2, 1) := by decide +kernel
theorem dX12_depth_47 : decode cX12_depth 47 = .ok (.iadd, 1) := by decide +kernel
theorem dX12_depth_48 : decode cX12_depth 48 = .ok (.iaload, 1) := by decide +kernel
theorem dX12_depth_49 : decode cX12_depth 49 = .ok (.goto 4, 3) := by decide +kernel
theorem dX12_depth_52 : decode cX12_depth 52 = .ok (.iconst (-1), 1) := by decide +kernel
theorem dX12_depth_53 : decode cX12_depth 53 = .ok (.ireturn, 1) := by decide +kernel
theorem dX12_count_0 : decode cX12_count 0 = .ok (.iload_n 1, 1) := by decide +kernel
theorem dX12_count_1 : decode cX12_count 1 = .ok (.tableswitch 69 0 5 #[39, 44, 49, 54, 59, 64], 39) := by decide +kernel
theorem dX12_count_40 : decode cX12_count 40 = .ok (.aload_n 0, 1) := by decide +kernel
theorem dX12_count_41 : decode cX12_count 41 = .ok (.getfield 140, 3) := by decide +kernel
theorem dX12_count_44 : decode cX12_count 44 = .ok (.ireturn, 1) := by decide +kernel
theorem dX12_count_45 : decode cX12_count 45 = .ok (.aload_n 0, 1) := by decide +kernel
theorem dX12_count_46 : decode cX12_count 46 = .ok (.getfield 285, 3) := by decide +kernel
theorem dX12_count_49 : decode cX12_count 49 = .ok (.ireturn, 1) := by decide +kernel
theorem dX12_count_50 : decode cX12_count 50 = .ok (.aload_n 0, 1) := by decide +kernel
theorem dX12_count_51 : decode cX12_count 51 = .ok (.getfield 230, 3) := by decide +kernel
theorem dX12_count_54 : decode cX12_count 54 = .ok (.ireturn, 1) := by decide +kernel
theorem dX12_count_55 : decode cX12_count 55 = .ok (.aload_n 0, 1) := by decide +kernel
theorem dX12_count_56 : decode cX12_count 56 = .ok (.getfield 246, 3) := by decide +kernel
theorem dX12_count_59 : decode cX12_count 59 = .ok (.ireturn, 1) := by decide +kernel
theorem dX12_count_60 : decode cX12_count 60 = .ok (.aload_n 0, 1) := by decide +kernel
theorem dX12_count_61 : decode cX12_count 61 = .ok (.getfield 252, 3) := by decide +kernel
theorem dX12_count_64 : decode cX12_count 64 = .ok (.ireturn, 1) := by decide +kernel
theorem dX12_count_65 : decode cX12_count 65 = .ok (.aload_n 0, 1) := by decide +kernel
theorem dX12_count_66 : decode cX12_count 66 = .ok (.getfield 275, 3) := by decide +kernel
theorem dX12_count_69 : decode cX12_count 69 = .ok (.ireturn, 1) := by decide +kernel
theorem dX12_count_70 : decode cX12_count 70 = .ok (.bipush (-2), 2) := by decide +kernel
theorem dX12_count_72 : decode cX12_count 72 = .ok (.ireturn, 1) := by decide +kernel
theorem dX12_digest_0 : decode cX12_digest 0 = .ok (.ldc2_w 301, 3) := by decide +kernel
theorem dX12_digest_3 : decode cX12_digest 3 = .ok (.lstore_n 1, 1) := by decide +kernel
theorem dX12_digest_4 : decode cX12_digest 4 = .ok (.iconst 0, 1) := by decide +kernel
theorem dX12_digest_5 : decode cX12_digest 5 = .ok (.istore_n 3, 1) := by decide +kernel
theorem dX12_digest_6 : decode cX12_digest 6 = .ok (.iload_n 3, 1) := by decide +kernel
theorem dX12_digest_7 : decode cX12_digest 7 = .ok (.bipush 8, 2) := by decide +kernel
theorem dX12_digest_9 : decode cX12_digest 9 = .ok (.if_icmp .ge 23, 3) := by decide +kernel
theorem dX12_digest_12 : decode cX12_digest 12 = .ok (.ldc2_w 303, 3) := by decide +kernel
theorem dX12_digest_15 : decode cX12_digest 15 = .ok (.lload_n 1, 1) := by decide +kernel
theorem dX12_digest_16 : decode cX12_digest 16 = .ok (.lmul, 1) := by decide +kernel
theorem dX12_digest_17 : decode cX12_digest 17 = .ok (.aload_n 0, 1) := by decide +kernel
theorem dX12_digest_18 : decode cX12_digest 18 = .ok (.getfield 41, 3) := by decide +kernel
theorem dX12_digest_21 : decode cX12_digest 21 = .ok (.iload_n 3, 1) := by decide +kernel
theorem dX12_digest_22 : decode cX12_digest 22 = .ok (.iaload, 1) := by decide +kernel
theorem dX12_digest_23 : decode cX12_digest 23 = .ok (.i2l, 1) := by decide +kernel
theorem dX12_digest_24 : decode cX12_digest 24 = .ok (.ladd, 1) := by decide +kernel
theorem dX12_digest_25 : decode cX12_digest 25 = .ok (.lstore_n 1, 1) := by decide +kernel
theorem dX12_digest_26 : decode cX12_digest 26 = .ok (.iinc 3 1, 3) := by decide +kernel
theorem dX12_digest_29 : decode cX12_digest 29 = .ok (.goto (-23), 3) := by decide +kernel
theorem dX12_digest_32 : decode cX12_digest 32 = .ok (.iconst 0, 1) := by decide +kernel
theorem dX12_digest_33 : decode cX12_digest 33 = .ok (.istore_n 3, 1) := by decide +kernel
theorem dX12_digest_34 : decode cX12_digest 34 = .ok (.iload_n 3, 1) := by decide +kernel
theorem dX12_digest_35 : decode cX12_digest 35 = .ok (.iconst 4, 1) := by decide +kernel
theorem dX12_digest_36 : decode cX12_digest 36 = .ok (.if_icmp .ge 63, 3) := by decide +kernel
theorem dX12_digest_39 : decode cX12_digest 39 = .ok (.ldc2_w 303, 3) := by decide +kernel
theorem dX12_digest_42 : decode cX12_digest 42 = .ok (.lload_n 1, 1) := by decide +kernel
theorem dX12_digest_43 : decode cX12_digest 43 = .ok (.lmul, 1) := by decide +kernel
theorem dX12_digest_44 : decode cX12_digest 44 = .ok (.aload_n 0, 1) := by decide +kernel
theorem dX12_digest_45 : decode cX12_digest 45 = .ok (.getfield 44, 3) := by decide +kernel
theorem dX12_digest_48 : decode cX12_digest 48 = .ok (.iload_n 3, 1) := by decide +kernel
theorem dX12_digest_49 : decode cX12_digest 49 = .ok (.iaload, 1) := by decide +kernel
theorem dX12_digest_50 : decode cX12_digest 50 = .ok (.i2l, 1) := by decide +kernel
theorem dX12_digest_51 : decode cX12_digest 51 = .ok (.ladd, 1) := by decide +kernel
theorem dX12_digest_52 : decode cX12_digest 52 = .ok (.lstore_n 1, 1) := by decide +kernel
theorem dX12_digest_53 : decode cX12_digest 53 = .ok (.iconst 0, 1) := by decide +kernel
theorem dX12_digest_54 : decode cX12_digest 54 = .ok (.istore 4, 2) := by decide +kernel
theorem dX12_digest_56 : decode cX12_digest 56 = .ok (.iload 4, 2) := by decide +kernel
theorem dX12_digest_58 : decode cX12_digest 58 = .ok (.aload_n 0, 1) := by decide +kernel
theorem dX12_digest_59 : decode cX12_digest 59 = .ok (.getfield 44, 3) := by decide +kernel
theorem dX12_digest_62 : decode cX12_digest 62 = .ok (.iload_n 3, 1) := by decide +kernel
theorem dX12_digest_63 : decode cX12_digest 63 = .ok (.iaload, 1) := by decide +kernel
theorem dX12_digest_64 : decode cX12_digest 64 = .ok (.if_icmp .ge 29, 3) := by decide +kernel
theorem dX12_digest_67 : decode cX12_digest 67 = .ok (.ldc2_w 303, 3) := by decide +kernel
theorem dX12_digest_70 : decode cX12_digest 70 = .ok (.lload_n 1, 1) := by decide +kernel
theorem dX12_digest_71 : decode cX12_digest 71 = .ok (.lmul, 1) := by decide +kernel
theorem dX12_digest_72 : decode cX12_digest 72 = .ok (.aload_n 0, 1) := by decide +kernel
theorem dX12_digest_73 : decode cX12_digest 73 = .ok (.getfield 47, 3) := by decide +kernel
theorem dX12_digest_76 : decode cX12_digest 76 = .ok (.bipush 20, 2) := by decide +kernel
theorem dX12_digest_78 : decode cX12_digest 78 = .ok (.iload_n 3, 1) := by decide +kernel
theorem dX12_digest_79 : decode cX12_digest 79 = .ok (.imul, 1) := by decide +kernel
theorem dX12_digest_80 : decode cX12_digest 80 = .ok (.iload 4, 2) := by decide +kernel
theorem dX12_digest_82 : decode cX12_digest 82 = .ok (.iadd, 1) := by decide +kernel
theorem dX12_digest_83 : decode cX12_digest 83 = .ok (.iaload, 1) := by decide +kernel
theorem dX12_digest_84 : decode cX12_digest 84 = .ok (.i2l, 1) := by decide +kernel
theorem dX12_digest_85 : decode cX12_digest 85 = .ok (.ladd, 1) := by decide +kernel
theorem dX12_digest_86 : decode cX12_digest 86 = .ok (.lstore_n 1, 1) := by decide +kernel
theorem dX12_digest_87 : decode cX12_digest 87 = .ok (.iinc 4 1, 3) := by decide +kernel
theorem dX12_digest_90 : decode cX12_digest 90 = .ok (.goto (-34), 3) := by decide +kernel
theorem dX12_digest_93 : decode cX12_digest 93 = .ok (.iinc 3 1, 3) := by decide +kernel
theorem dX12_digest_96 : decode cX12_digest 96 = .ok (.goto (-62), 3) := by decide +kernel
theorem dX12_digest_99 : decode cX12_digest 99 = .ok (.ldc2_w 303, 3) := by decide +kernel
theorem dX12_digest_102 : decode cX12_digest 102 = .ok (.lload_n 1, 1) := by decide +kernel
theorem dX12_digest_103 : decode cX12_digest 103 = .ok (.lmul, 1) := by decide +kernel
theorem dX12_digest_104 : decode cX12_digest 104 = .ok (.aload_n 0, 1) := by decide +kernel
theorem dX12_digest_105 : decode cX12_digest 105 = .ok (.getfield 259, 3) := by decide +kernel
theorem dX12_digest_108 : decode cX12_digest 108 = .ok (.i2l, 1) := by decide +kernel
theorem dX12_digest_109 : decode cX12_digest 109 = .ok (.ladd, 1) := by decide +kernel
theorem dX12_digest_110 : decode cX12_digest 110 = .ok (.lstore_n 1, 1) := by decide +kernel
theorem dX12_digest_111 : decode cX12_digest 111 = .ok (.iconst 0, 1) := by decide +kernel
theorem dX12_digest_112 : decode cX12_digest 112 = .ok (.istore_n 3, 1) := by decide +kernel
theorem dX12_digest_113 : decode cX12_digest 113 = .ok (.iload_n 3, 1) := by decide +kernel
theorem dX12_digest_114 : decode cX12_digest 114 = .ok (.iconst 4, 1) := by decide +kernel
theorem dX12_digest_115 : decode cX12_digest 115 = .ok (.if_icmp .ge 23, 3) := by decide +kernel
theorem dX12_digest_118 : decode cX12_digest 118 = .ok (.ldc2_w 303, 3) := by decide +kernel
theorem dX12_digest_121 : decode cX12_digest 121 = .ok (.lload_n 1, 1) := by decide +kernel
theorem dX12_digest_122 : decode cX12_digest 122 = .ok (.lmul, 1) := by decide +kernel
theorem dX12_digest_123 : decode cX12_digest 123 = .ok (.aload_n 0, 1) := by decide +kernel
theorem dX12_digest_124 : decode cX12_digest 124 = .ok (.getfield 126, 3) := by decide +kernel
theorem dX12_digest_127 : decode cX12_digest 127 = .ok (.iload_n 3, 1) := by decide +kernel
theorem dX12_digest_128 : decode cX12_digest 128 = .ok (.iaload, 1) := by decide +kernel
theorem dX12_digest_129 : decode cX12_digest 129 = .ok (.i2l, 1) := by decide +kernel
theorem dX12_digest_130 : decode cX12_digest 130 = .ok (.ladd, 1) := by decide +kernel
theorem dX12_digest_131 : decode cX12_digest 131 = .ok (.lstore_n 1, 1) := by decide +kernel
theorem dX12_digest_132 : decode cX12_digest 132 = .ok (.iinc 3 1, 3) := by decide +kernel
theorem dX12_digest_135 : decode cX12_digest 135 = .ok (.goto (-22), 3) := by decide +kernel
theorem dX12_digest_138 : decode cX12_digest 138 = .ok (.iconst 0, 1) := by decide +kernel
theorem dX12_digest_139 : decode cX12_digest 139 = .ok (.istore_n 3, 1) := by decide +kernel
theorem dX12_digest_140 : decode cX12_digest 140 = .ok (.iload_n 3, 1) := by decide +kernel
theorem dX12_digest_141 : decode cX12_digest 141 = .ok (.aload_n 0, 1) := by decide +kernel
theorem dX12_digest_142 : decode cX12_digest 142 = .ok (.getfield 140, 3) := by decide +kernel
theorem dX12_digest_145 : decode cX12_digest 145 = .ok (.if_icmp .ge 91, 3) := by decide +kernel
theorem dX12_digest_148 : decode cX12_digest 148 = .ok (.iconst 0, 1) := by decide +kernel
theorem dX12_digest_149 : decode cX12_digest 149 = .ok (.istore 4, 2) := by decide +kernel
theorem dX12_digest_151 : decode cX12_digest 151 = .ok (.iload 4, 2) := by decide +kernel
theorem dX12_digest_153 : decode cX12_digest 153 = .ok (.bipush 6, 2) := by decide +kernel
theorem dX12_digest_155 : decode cX12_digest 155 = .ok (.if_icmp .ge 24, 3) := by decide +kernel
theorem dX12_digest_158 : decode cX12_digest 158 = .ok (.ldc2_w 303, 3) := by decide +kernel
theorem dX12_digest_161 : decode cX12_digest 161 = .ok (.lload_n 1, 1) := by decide +kernel
theorem dX12_digest_162 : decode cX12_digest 162 = .ok (.lmul, 1) := by decide +kernel
theorem dX12_digest_163 : decode cX12_digest 163 = .ok (.aload_n 0, 1) := by decide +kernel
theorem dX12_digest_164 : decode cX12_digest 164 = .ok (.iload_n 3, 1) := by decide +kernel
theorem dX12_digest_165 : decode cX12_digest 165 = .ok (.iload 4, 2) := by decide +kernel
theorem dX12_digest_167 : decode cX12_digest 167 = .ok (.invokevirtual 305, 3) := by decide +kernel
theorem dX12_digest_170 : decode cX12_digest 170 = .ok (.i2l, 1) := by decide +kernel
theorem dX12_digest_171 : decode cX12_digest 171 = .ok (.ladd, 1) := by decide +kernel
theorem dX12_digest_172 : decode cX12_digest 172 = .ok (.lstore_n 1, 1) := by decide +kernel
theorem dX12_digest_173 : decode cX12_digest 173 = .ok (.iinc 4 1, 3) := by decide +kernel
theorem dX12_digest_176 : decode cX12_digest 176 = .ok (.goto (-25), 3) := by decide +kernel
theorem dX12_digest_179 : decode cX12_digest 179 = .ok (.iconst 0, 1) := by decide +kernel
theorem dX12_digest_180 : decode cX12_digest 180 = .ok (.istore 4, 2) := by decide +kernel
theorem dX12_digest_182 : decode cX12_digest 182 = .ok (.iload 4, 2) := by decide +kernel
theorem dX12_digest_184 : decode cX12_digest 184 = .ok (.aload_n 0, 1) := by decide +kernel
theorem dX12_digest_185 : decode cX12_digest 185 = .ok (.iload_n 3, 1) := by decide +kernel
theorem dX12_digest_186 : decode cX12_digest 186 = .ok (.invokevirtual 294, 3) := by decide +kernel
theorem dX12_digest_189 : decode cX12_digest 189 = .ok (.if_icmp .ge 41, 3) := by decide +kernel
theorem dX12_digest_192 : decode cX12_digest 192 = .ok (.iconst 0, 1) := by decide +kernel
theorem dX12_digest_193 : decode cX12_digest 193 = .ok (.istore 5, 2) := by decide +kernel
theorem dX12_digest_195 : decode cX12_digest 195 = .ok (.iload 5, 2) := by decide +kernel
theorem dX12_digest_197 : decode cX12_digest 197 = .ok (.iconst 5, 1) := by decide +kernel
theorem dX12_digest_198 : decode cX12_digest 198 = .ok (.if_icmp .ge 26, 3) := by decide +kernel
theorem dX12_digest_201 : decode cX12_digest 201 = .ok (.ldc2_w 303, 3) := by decide +kernel
theorem dX12_digest_204 : decode cX12_digest 204 = .ok (.lload_n 1, 1) := by decide +kernel
theorem dX12_digest_205 : decode cX12_digest 205 = .ok (.lmul, 1) := by decide +kernel
theorem dX12_digest_206 : decode cX12_digest 206 = .ok (.aload_n 0, 1) := by decide +kernel
theorem dX12_digest_207 : decode cX12_digest 207 = .ok (.iload_n 3, 1) := by decide +kernel
theorem dX12_digest_208 : decode cX12_digest 208 = .ok (.iload 4, 2) := by decide +kernel
theorem dX12_digest_210 : decode cX12_digest 210 = .ok (.iload 5, 2) := by decide +kernel
theorem dX12_digest_212 : decode cX12_digest 212 = .ok (.invokevirtual 308, 3) := by decide +kernel
theorem dX12_digest_215 : decode cX12_digest 215 = .ok (.i2l, 1) := by decide +kernel
theorem dX12_digest_216 : decode cX12_digest 216 = .ok (.ladd, 1) := by decide +kernel
theorem dX12_digest_217 : decode cX12_digest 217 = .ok (.lstore_n 1, 1) := by decide +kernel
theorem dX12_digest_218 : decode cX12_digest 218 = .ok (.iinc 5 1, 3) := by decide +kernel
theorem dX12_digest_221 : decode cX12_digest 221 = .ok (.goto (-26), 3) := by decide +kernel
theorem dX12_digest_224 : decode cX12_digest 224 = .ok (.iinc 4 1, 3) := by decide +kernel
theorem dX12_digest_227 : decode cX12_digest 227 = .ok (.goto (-45), 3) := by decide +kernel
theorem dX12_digest_230 : decode cX12_digest 230 = .ok (.iinc 3 1, 3) := by decide +kernel
theorem dX12_digest_233 : decode cX12_digest 233 = .ok (.goto (-93), 3) := by decide +kernel
theorem dX12_digest_236 : decode cX12_digest 236 = .ok (.lload_n 1, 1) := by decide +kernel
theorem dX12_digest_237 : decode cX12_digest 237 = .ok (.lreturn, 1) := by decide +kernel
theorem dJ7_rangeCheck_23922_0 : decode cJ7_rangeCheck_23922 0 = .ok (.iload_n 1, 1) := by decide +kernel
theorem dJ7_rangeCheck_23922_1 : decode cJ7_rangeCheck_23922 1 = .ok (.iload_n 2, 1) := by decide +kernel
theorem dJ7_rangeCheck_23922_2 : decode cJ7_rangeCheck_23922 2 = .ok (.if_icmp .le 44, 3) := by decide +kernel
theorem dJ7_rangeCheck_23922_5 : decode cJ7_rangeCheck_23922 5 = .ok (.new 43, 3) := by decide +kernel
theorem dJ7_rangeCheck_23922_8 : decode cJ7_rangeCheck_23922 8 = .ok (.dup, 1) := by decide +kernel
theorem dJ7_rangeCheck_23922_9 : decode cJ7_rangeCheck_23922 9 = .ok (.new 45, 3) := by decide +kernel
theorem dJ7_rangeCheck_23922_12 : decode cJ7_rangeCheck_23922 12 = .ok (.dup, 1) := by decide +kernel
theorem dJ7_rangeCheck_23922_13 : decode cJ7_rangeCheck_23922 13 = .ok (.invokespecial 47, 3) := by decide +kernel
theorem dJ7_rangeCheck_23922_16 : decode cJ7_rangeCheck_23922 16 = .ok (.ldc 48, 2) := by decide +kernel
theorem dJ7_rangeCheck_23922_18 : decode cJ7_rangeCheck_23922 18 = .ok (.invokevirtual 50, 3) := by decide +kernel
theorem dJ7_rangeCheck_23922_21 : decode cJ7_rangeCheck_23922 21 = .ok (.iload_n 1, 1) := by decide +kernel
theorem dJ7_rangeCheck_23922_22 : decode cJ7_rangeCheck_23922 22 = .ok (.invokevirtual 54, 3) := by decide +kernel
theorem dJ7_rangeCheck_23922_25 : decode cJ7_rangeCheck_23922 25 = .ok (.ldc 57, 2) := by decide +kernel
theorem dJ7_rangeCheck_23922_27 : decode cJ7_rangeCheck_23922 27 = .ok (.invokevirtual 50, 3) := by decide +kernel
theorem dJ7_rangeCheck_23922_30 : decode cJ7_rangeCheck_23922 30 = .ok (.iload_n 2, 1) := by decide +kernel
theorem dJ7_rangeCheck_23922_31 : decode cJ7_rangeCheck_23922 31 = .ok (.invokevirtual 54, 3) := by decide +kernel
theorem dJ7_rangeCheck_23922_34 : decode cJ7_rangeCheck_23922 34 = .ok (.ldc 59, 2) := by decide +kernel
theorem dJ7_rangeCheck_23922_36 : decode cJ7_rangeCheck_23922 36 = .ok (.invokevirtual 50, 3) := by decide +kernel
theorem dJ7_rangeCheck_23922_39 : decode cJ7_rangeCheck_23922 39 = .ok (.invokevirtual 61, 3) := by decide +kernel
theorem dJ7_rangeCheck_23922_42 : decode cJ7_rangeCheck_23922 42 = .ok (.invokespecial 65, 3) := by decide +kernel
theorem dJ7_rangeCheck_23922_45 : decode cJ7_rangeCheck_23922 45 = .ok (.athrow, 1) := by decide +kernel
theorem dJ7_rangeCheck_23922_46 : decode cJ7_rangeCheck_23922 46 = .ok (.iload_n 1, 1) := by decide +kernel
theorem dJ7_rangeCheck_23922_47 : decode cJ7_rangeCheck_23922 47 = .ok (.ifCond .ge 12, 3) := by decide +kernel
theorem dJ7_rangeCheck_23922_50 : decode cJ7_rangeCheck_23922 50 = .ok (.new 68, 3) := by decide +kernel
theorem dJ7_rangeCheck_23922_53 : decode cJ7_rangeCheck_23922 53 = .ok (.dup, 1) := by decide +kernel
theorem dJ7_rangeCheck_23922_54 : decode cJ7_rangeCheck_23922 54 = .ok (.iload_n 1, 1) := by decide +kernel
theorem dJ7_rangeCheck_23922_55 : decode cJ7_rangeCheck_23922 55 = .ok (.invokespecial 70, 3) := by decide +kernel
theorem dJ7_rangeCheck_23922_58 : decode cJ7_rangeCheck_23922 58 = .ok (.athrow, 1) := by decide +kernel
theorem dJ7_rangeCheck_23922_59 : decode cJ7_rangeCheck_23922 59 = .ok (.iload_n 2, 1) := by decide +kernel
theorem dJ7_rangeCheck_23922_60 : decode cJ7_rangeCheck_23922 60 = .ok (.iload_n 0, 1) := by decide +kernel
theorem dJ7_rangeCheck_23922_61 : decode cJ7_rangeCheck_23922 61 = .ok (.if_icmp .le 12, 3) := by decide +kernel
theorem dJ7_rangeCheck_23922_64 : decode cJ7_rangeCheck_23922 64 = .ok (.new 68, 3) := by decide +kernel
theorem dJ7_rangeCheck_23922_67 : decode cJ7_rangeCheck_23922 67 = .ok (.dup, 1) := by decide +kernel
theorem dJ7_rangeCheck_23922_68 : decode cJ7_rangeCheck_23922 68 = .ok (.iload_n 2, 1) := by decide +kernel
theorem dJ7_rangeCheck_23922_69 : decode cJ7_rangeCheck_23922 69 = .ok (.invokespecial 70, 3) := by decide +kernel
theorem dJ7_rangeCheck_23922_72 : decode cJ7_rangeCheck_23922 72 = .ok (.athrow, 1) := by decide +kernel
theorem dJ7_rangeCheck_23922_73 : decode cJ7_rangeCheck_23922 73 = .ok (.return_, 1) := by decide +kernel
theorem dJ7_fill_53178_0 : decode cJ7_fill_53178 0 = .ok (.iconst 0, 1) := by decide +kernel
theorem dJ7_fill_53178_1 : decode cJ7_fill_53178 1 = .ok (.istore_n 2, 1) := by decide +kernel
theorem dJ7_fill_53178_2 : decode cJ7_fill_53178 2 = .ok (.aload_n 0, 1) := by decide +kernel
theorem dJ7_fill_53178_3 : decode cJ7_fill_53178 3 = .ok (.arraylength, 1) := by decide +kernel
theorem dJ7_fill_53178_4 : decode cJ7_fill_53178 4 = .ok (.istore_n 3, 1) := by decide +kernel
theorem dJ7_fill_53178_5 : decode cJ7_fill_53178 5 = .ok (.iload_n 2, 1) := by decide +kernel
theorem dJ7_fill_53178_6 : decode cJ7_fill_53178 6 = .ok (.iload_n 3, 1) := by decide +kernel
theorem dJ7_fill_53178_7 : decode cJ7_fill_53178 7 = .ok (.if_icmp .ge 13, 3) := by decide +kernel
theorem dJ7_fill_53178_10 : decode cJ7_fill_53178 10 = .ok (.aload_n 0, 1) := by decide +kernel
theorem dJ7_fill_53178_11 : decode cJ7_fill_53178 11 = .ok (.iload_n 2, 1) := by decide +kernel
theorem dJ7_fill_53178_12 : decode cJ7_fill_53178 12 = .ok (.iload_n 1, 1) := by decide +kernel
theorem dJ7_fill_53178_13 : decode cJ7_fill_53178 13 = .ok (.iastore, 1) := by decide +kernel
theorem dJ7_fill_53178_14 : decode cJ7_fill_53178 14 = .ok (.iinc 2 1, 3) := by decide +kernel
theorem dJ7_fill_53178_17 : decode cJ7_fill_53178 17 = .ok (.goto (-12), 3) := by decide +kernel
theorem dJ7_fill_53178_20 : decode cJ7_fill_53178 20 = .ok (.return_, 1) := by decide +kernel
theorem dJ7_fill_fda19_0 : decode cJ7_fill_fda19 0 = .ok (.aload_n 0, 1) := by decide +kernel
theorem dJ7_fill_fda19_1 : decode cJ7_fill_fda19 1 = .ok (.arraylength, 1) := by decide +kernel
theorem dJ7_fill_fda19_2 : decode cJ7_fill_fda19 2 = .ok (.iload_n 1, 1) := by decide +kernel
theorem dJ7_fill_fda19_3 : decode cJ7_fill_fda19 3 = .ok (.iload_n 2, 1) := by decide +kernel
theorem dJ7_fill_fda19_4 : decode cJ7_fill_fda19 4 = .ok (.invokestatic 13, 3) := by decide +kernel
theorem dJ7_fill_fda19_7 : decode cJ7_fill_fda19 7 = .ok (.iload_n 1, 1) := by decide +kernel
theorem dJ7_fill_fda19_8 : decode cJ7_fill_fda19 8 = .ok (.istore 4, 2) := by decide +kernel
theorem dJ7_fill_fda19_10 : decode cJ7_fill_fda19 10 = .ok (.iload 4, 2) := by decide +kernel
theorem dJ7_fill_fda19_12 : decode cJ7_fill_fda19 12 = .ok (.iload_n 2, 1) := by decide +kernel
theorem dJ7_fill_fda19_13 : decode cJ7_fill_fda19 13 = .ok (.if_icmp .ge 14, 3) := by decide +kernel
theorem dJ7_fill_fda19_16 : decode cJ7_fill_fda19 16 = .ok (.aload_n 0, 1) := by decide +kernel
theorem dJ7_fill_fda19_17 : decode cJ7_fill_fda19 17 = .ok (.iload 4, 2) := by decide +kernel
theorem dJ7_fill_fda19_19 : decode cJ7_fill_fda19 19 = .ok (.iload_n 3, 1) := by decide +kernel
theorem dJ7_fill_fda19_20 : decode cJ7_fill_fda19 20 = .ok (.iastore, 1) := by decide +kernel
theorem dJ7_fill_fda19_21 : decode cJ7_fill_fda19 21 = .ok (.iinc 4 1, 3) := by decide +kernel
theorem dJ7_fill_fda19_24 : decode cJ7_fill_fda19 24 = .ok (.goto (-14), 3) := by decide +kernel
theorem dJ7_fill_fda19_27 : decode cJ7_fill_fda19 27 = .ok (.return_, 1) := by decide +kernel
theorem dL_law_0 : decode cL_law 0 = .ok (.new 7, 3) := by decide +kernel
theorem dL_law_3 : decode cL_law 3 = .ok (.dup, 1) := by decide +kernel
theorem dL_law_4 : decode cL_law 4 = .ok (.invokespecial 9, 3) := by decide +kernel
theorem dL_law_7 : decode cL_law 7 = .ok (.astore_n 1, 1) := by decide +kernel
theorem dL_law_8 : decode cL_law 8 = .ok (.new 10, 3) := by decide +kernel
theorem dL_law_11 : decode cL_law 11 = .ok (.dup, 1) := by decide +kernel
theorem dL_law_12 : decode cL_law 12 = .ok (.invokespecial 12, 3) := by decide +kernel
theorem dL_law_15 : decode cL_law 15 = .ok (.astore_n 2, 1) := by decide +kernel
theorem dL_law_16 : decode cL_law 16 = .ok (.iconst 0, 1) := by decide +kernel
theorem dL_law_17 : decode cL_law 17 = .ok (.istore_n 3, 1) := by decide +kernel
theorem dL_law_18 : decode cL_law 18 = .ok (.iload_n 3, 1) := by decide +kernel
theorem dL_law_19 : decode cL_law 19 = .ok (.aload_n 0, 1) := by decide +kernel
theorem dL_law_20 : decode cL_law 20 = .ok (.arraylength, 1) := by decide +kernel
theorem dL_law_21 : decode cL_law 21 = .ok (.iconst 5, 1) := by decide +kernel
theorem dL_law_22 : decode cL_law 22 = .ok (.isub, 1) := by decide +kernel
theorem dL_law_23 : decode cL_law 23 = .ok (.if_icmp .gt 618, 3) := by decide +kernel
theorem dL_law_26 : decode cL_law 26 = .ok (.aload_n 0, 1) := by decide +kernel
theorem dL_law_27 : decode cL_law 27 = .ok (.iload_n 3, 1) := by decide +kernel
theorem dL_law_28 : decode cL_law 28 = .ok (.iaload, 1) := by decide +kernel
theorem dL_law_29 : decode cL_law 29 = .ok (.bipush 31, 2) := by decide +kernel
theorem dL_law_31 : decode cL_law 31 = .ok (.iand, 1) := by decide +kernel
theorem dL_law_32 : decode cL_law 32 = .ok (.tableswitch 603 0 17 #[88, 121, 164, 187, 200, 233, 256, 279, 302, 335, 388, 401, 424, 457, 500, 533, 566, 589], 88) := by decide +kernel
theorem dL_law_120 : decode cL_law 120 = .ok (.aload_n 1, 1) := by decide +kernel
theorem dL_law_121 : decode cL_law 121 = .ok (.aload_n 0, 1) := by decide +kernel
theorem dL_law_122 : decode cL_law 122 = .ok (.iload_n 3, 1) := by decide +kernel
theorem dL_law_123 : decode cL_law 123 = .ok (.iconst 1, 1) := by decide +kernel
theorem dL_law_124 : decode cL_law 124 = .ok (.iadd, 1) := by decide +kernel
theorem dL_law_125 : decode cL_law 125 = .ok (.iaload, 1) := by decide +kernel
theorem dL_law_126 : decode cL_law 126 = .ok (.aload_n 0, 1) := by decide +kernel
theorem dL_law_127 : decode cL_law 127 = .ok (.iload_n 3, 1) := by decide +kernel
theorem dL_law_128 : decode cL_law 128 = .ok (.iconst 2, 1) := by decide +kernel
theorem dL_law_129 : decode cL_law 129 = .ok (.iadd, 1) := by decide +kernel
theorem dL_law_130 : decode cL_law 130 = .ok (.iaload, 1) := by decide +kernel
theorem dL_law_131 : decode cL_law 131 = .ok (.invokevirtual 13, 3) := by decide +kernel
theorem dL_law_134 : decode cL_law 134 = .ok (.aload_n 2, 1) := by decide +kernel
theorem dL_law_135 : decode cL_law 135 = .ok (.aload_n 0, 1) := by decide +kernel
theorem dL_law_136 : decode cL_law 136 = .ok (.iload_n 3, 1) := by decide +kernel
theorem dL_law_137 : decode cL_law 137 = .ok (.iconst 1, 1) := by decide +kernel
theorem dL_law_138 : decode cL_law 138 = .ok (.iadd, 1) := by decide +kernel
theorem dL_law_139 : decode cL_law 139 = .ok (.iaload, 1) := by decide +kernel
theorem dL_law_140 : decode cL_law 140 = .ok (.aload_n 0, 1) := by decide +kernel
theorem dL_law_141 : decode cL_law 141 = .ok (.iload_n 3, 1) := by decide +kernel
theorem dL_law_142 : decode cL_law 142 = .ok (.iconst 2, 1) := by decide +kernel
theorem dL_law_143 : decode cL_law 143 = .ok (.iadd, 1) := by decide +kernel
theorem dL_law_144 : decode cL_law 144 = .ok (.iaload, 1) := by decide +kernel
theorem dL_law_145 : decode cL_law 145 = .ok (.invokevirtual 17, 3) := by decide +kernel
theorem dL_law_148 : decode cL_law 148 = .ok (.if_icmp .eq 487, 3) := by decide +kernel
theorem dL_law_151 : decode cL_law 151 = .ok (.iconst 0, 1) := by decide +kernel
theorem dL_law_152 : decode cL_law 152 = .ok (.ireturn, 1) := by decide +kernel
theorem dL_law_153 : decode cL_law 153 = .ok (.aload_n 1, 1) := by decide +kernel
theorem dL_law_154 : decode cL_law 154 = .ok (.aload_n 0, 1) := by decide +kernel
theorem dL_law_155 : decode cL_law 155 = .ok (.iload_n 3, 1) := by decide +kernel
theorem dL_law_156 : decode cL_law 156 = .ok (.iconst 1, 1) := by decide +kernel
theorem dL_law_157 : decode cL_law 157 = .ok (.iadd, 1) := by decide +kernel
theorem dL_law_158 : decode cL_law 158 = .ok (.iaload, 1) := by decide +kernel
theorem dL_law_159 : decode cL_law 159 = .ok (.aload_n 0, 1) := by decide +kernel
theorem dL_law_160 : decode cL_law 160 = .ok (.iload_n 3, 1) := by decide +kernel
theorem dL_law_161 : decode cL_law 161 = .ok (.iconst 2, 1) := by decide +kernel
theorem dL_law_162 : decode cL_law 162 = .ok (.iadd, 1) := by decide +kernel
theorem dL_law_163 : decode cL_law 163 = .ok (.iaload, 1) := by decide +kernel
theorem dL_law_164 : decode cL_law 164 = .ok (.aload_n 0, 1) := by decide +kernel
theorem dL_law_165 : decode cL_law 165 = .ok (.iload_n 3, 1) := by decide +kernel
theorem dL_law_166 : decode cL_law 166 = .ok (.iconst 3, 1) := by decide +kernel
theorem dL_law_167 : decode cL_law 167 = .ok (.iadd, 1) := by decide +kernel
theorem dL_law_168 : decode cL_law 168 = .ok (.iaload, 1) := by decide +kernel
theorem dL_law_169 : decode cL_law 169 = .ok (.invokevirtual 18, 3) := by decide +kernel
theorem dL_law_172 : decode cL_law 172 = .ok (.aload_n 2, 1) := by decide +kernel
theorem dL_law_173 : decode cL_law 173 = .ok (.aload_n 0, 1) := by decide +kernel
theorem dL_law_174 : decode cL_law 174 = .ok (.iload_n 3, 1) := by decide +kernel
theorem dL_law_175 : decode cL_law 175 = .ok (.iconst 1, 1) := by decide +kernel
theorem dL_law_176 : decode cL_law 176 = .ok (.iadd, 1) := by decide +kernel
theorem dL_law_177 : decode cL_law 177 = .ok (.iaload, 1) := by decide +kernel
theorem dL_law_178 : decode cL_law 178 = .ok (.aload_n 0, 1) := by decide +kernel
theorem dL_law_179 : decode cL_law 179 = .ok (.iload_n 3, 1) := by decide +kernel
theorem dL_law_180 : decode cL_law 180 = .ok (.iconst 2, 1) := by decide +kernel
theorem dL_law_181 : decode cL_law 181 = .ok (.iadd, 1) := by decide +kernel
theorem dL_law_182 : decode cL_law 182 = .ok (.iaload, 1) := by decide +kernel
theorem dL_law_183 : decode cL_law 183 = .ok (.aload_n 0, 1) := by decide +kernel
theorem dL_law_184 : decode cL_law 184 = .ok (.iload_n 3, 1) := by decide +kernel
theorem dL_law_185 : decode cL_law 185 = .ok (.iconst 3, 1) := by decide +kernel
theorem dL_law_186 : decode cL_law 186 = .ok (.iadd, 1) := by decide +kernel
theorem dL_law_187 : decode cL_law 187 = .ok (.iaload, 1) := by decide +kernel
theorem dL_law_188 : decode cL_law 188 = .ok (.invokevirtual 22, 3) := by decide +kernel
theorem dL_law_191 : decode cL_law 191 = .ok (.if_icmp .eq 444, 3) := by decide +kernel
theorem dL_law_194 : decode cL_law 194 = .ok (.iconst 0, 1) := by decide +kernel
theorem dL_law_195 : decode cL_law 195 = .ok (.ireturn, 1) := by decide +kernel
theorem dL_law_196 : decode cL_law 196 = .ok (.aload_n 1, 1) := by decide +kernel
theorem dL_law_197 : decode cL_law 197 = .ok (.aload_n 0, 1) := by decide +kernel
theorem dL_law_198 : decode cL_law 198 = .ok (.iload_n 3, 1) := by decide +kernel
theorem dL_law_199 : decode cL_law 199 = .ok (.iconst 1, 1) := by decide +kernel
theorem dL_law_200 : decode cL_law 200 = .ok (.iadd, 1) := by decide +kernel
theorem dL_law_201 : decode cL_law 201 = .ok (.iaload, 1) := by decide +kernel
theorem dL_law_202 : decode cL_law 202 = .ok (.invokevirtual 23, 3) := by decide +kernel
theorem dL_law_205 : decode cL_law 205 = .ok (.aload_n 2, 1) := by decide +kernel
theorem dL_law_206 : decode cL_law 206 = .ok (.aload_n 0, 1) := by decide +kernel
theorem dL_law_207 : decode cL_law 207 = .ok (.iload_n 3, 1) := by decide +kernel
theorem dL_law_208 : decode cL_law 208 = .ok (.iconst 1, 1) := by decide +kernel
theorem dL_law_209 : decode cL_law 209 = .ok (.iadd, 1) := by decide +kernel
theorem dL_law_210 : decode cL_law 210 = .ok (.iaload, 1) := by decide +kernel
theorem dL_law_211 : decode cL_law 211 = .ok (.invokevirtual 27, 3) := by decide +kernel
theorem dL_law_214 : decode cL_law 214 = .ok (.if_icmp .eq 421, 3) := by decide +kernel
theorem dL_law_217 : decode cL_law 217 = .ok (.iconst 0, 1) := by decide +kernel
theorem dL_law_218 : decode cL_law 218 = .ok (.ireturn, 1) := by decide +kernel
theorem dL_law_219 : decode cL_law 219 = .ok (.aload_n 1, 1) := by decide +kernel
theorem dL_law_220 : decode cL_law 220 = .ok (.invokevirtual 28, 3) := by decide +kernel
theorem dL_law_223 : decode cL_law 223 = .ok (.aload_n 2, 1) := by decide +kernel
theorem dL_law_224 : decode cL_law 224 = .ok (.invokevirtual 32, 3) := by decide +kernel
theorem dL_law_227 : decode cL_law 227 = .ok (.if_icmp .eq 408, 3) := by decide +kernel
theorem dL_law_230 : decode cL_law 230 = .ok (.iconst 0, 1) := by decide +kernel
theorem dL_law_231 : decode cL_law 231 = .ok (.ireturn, 1) := by decide +kernel
theorem dL_law_232 : decode cL_law 232 = .ok (.aload_n 1, 1) := by decide +kernel
theorem dL_law_233 : decode cL_law 233 = .ok (.aload_n 0, 1) := by decide +kernel
theorem dL_law_234 : decode cL_law 234 = .ok (.iload_n 3, 1) := by decide +kernel
theorem dL_law_235 : decode cL_law 235 = .ok (.iconst 1, 1) := by decide +kernel
theorem dL_law_236 : decode cL_law 236 = .ok (.iadd, 1) := by decide +kernel
theorem dL_law_237 : decode cL_law 237 = .ok (.iaload, 1) := by decide +kernel
theorem dL_law_238 : decode cL_law 238 = .ok (.aload_n 0, 1) := by decide +kernel
theorem dL_law_239 : decode cL_law 239 = .ok (.iload_n 3, 1) := by decide +kernel
theorem dL_law_240 : decode cL_law 240 = .ok (.iconst 2, 1) := by decide +kernel
theorem dL_law_241 : decode cL_law 241 = .ok (.iadd, 1) := by decide +kernel
theorem dL_law_242 : decode cL_law 242 = .ok (.iaload, 1) := by decide +kernel
theorem dL_law_243 : decode cL_law 243 = .ok (.invokevirtual 33, 3) := by decide +kernel
theorem dL_law_246 : decode cL_law 246 = .ok (.aload_n 2, 1) := by decide +kernel
theorem dL_law_247 : decode cL_law 247 = .ok (.aload_n 0, 1) := by decide +kernel
theorem dL_law_248 : decode cL_law 248 = .ok (.iload_n 3, 1) := by decide +kernel
theorem dL_law_249 : decode cL_law 249 = .ok (.iconst 1, 1) := by decide +kernel
theorem dL_law_250 : decode cL_law 250 = .ok (.iadd, 1) := by decide +kernel
theorem dL_law_251 : decode cL_law 251 = .ok (.iaload, 1) := by decide +kernel
theorem dL_law_252 : decode cL_law 252 = .ok (.aload_n 0, 1) := by decide +kernel
theorem dL_law_253 : decode cL_law 253 = .ok (.iload_n 3, 1) := by decide +kernel
theorem dL_law_254 : decode cL_law 254 = .ok (.iconst 2, 1) := by decide +kernel
theorem dL_law_255 : decode cL_law 255 = .ok (.iadd, 1) := by decide +kernel
theorem dL_law_256 : decode cL_law 256 = .ok (.iaload, 1) := by decide +kernel
theorem dL_law_257 : decode cL_law 257 = .ok (.invokevirtual 36, 3) := by decide +kernel
theorem dL_law_260 : decode cL_law 260 = .ok (.if_icmp .eq 375, 3) := by decide +kernel
theorem dL_law_263 : decode cL_law 263 = .ok (.iconst 0, 1) := by decide +kernel
theorem dL_law_264 : decode cL_law 264 = .ok (.ireturn, 1) := by decide +kernel
theorem dL_law_265 : decode cL_law 265 = .ok (.aload_n 1, 1) := by decide +kernel
theorem dL_law_266 : decode cL_law 266 = .ok (.aload_n 0, 1) := by decide +kernel
theorem dL_law_267 : decode cL_law 267 = .ok (.iload_n 3, 1) := by decide +kernel
theorem dL_law_268 : decode cL_law 268 = .ok (.iconst 1, 1) := by decide +kernel
theorem dL_law_269 : decode cL_law 269 = .ok (.iadd, 1) := by decide +kernel
theorem dL_law_270 : decode cL_law 270 = .ok (.iaload, 1) := by decide +kernel
theorem dL_law_271 : decode cL_law 271 = .ok (.invokevirtual 37, 3) := by decide +kernel
theorem dL_law_274 : decode cL_law 274 = .ok (.aload_n 2, 1) := by decide +kernel
theorem dL_law_275 : decode cL_law 275 = .ok (.aload_n 0, 1) := by decide +kernel
theorem dL_law_276 : decode cL_law 276 = .ok (.iload_n 3, 1) := by decide +kernel
theorem dL_law_277 : decode cL_law 277 = .ok (.iconst 1, 1) := by decide +kernel
theorem dL_law_278 : decode cL_law 278 = .ok (.iadd, 1) := by decide +kernel
theorem dL_law_279 : decode cL_law 279 = .ok (.iaload, 1) := by decide +kernel
theorem dL_law_280 : decode cL_law 280 = .ok (.invokevirtual 40, 3) := by decide +kernel
theorem dL_law_283 : decode cL_law 283 = .ok (.if_icmp .eq 352, 3) := by decide +kernel
theorem dL_law_286 : decode cL_law 286 = .ok (.iconst 0, 1) := by decide +kernel
theorem dL_law_287 : decode cL_law 287 = .ok (.ireturn, 1) := by decide +kernel
theorem dL_law_288 : decode cL_law 288 = .ok (.aload_n 1, 1) := by decide +kernel
theorem dL_law_289 : decode cL_law 289 = .ok (.aload_n 0, 1) := by decide +kernel
theorem dL_law_290 : decode cL_law 290 = .ok (.iload_n 3, 1) := by decide +kernel
theorem dL_law_291 : decode cL_law 291 = .ok (.iconst 1, 1) := by decide +kernel
theorem dL_law_292 : decode cL_law 292 = .ok (.iadd, 1) := by decide +kernel
theorem dL_law_293 : decode cL_law 293 = .ok (.iaload, 1) := by decide +kernel
theorem dL_law_294 : decode cL_law 294 = .ok (.invokevirtual 41, 3) := by decide +kernel
theorem dL_law_297 : decode cL_law 297 = .ok (.aload_n 2, 1) := by decide +kernel
theorem dL_law_298 : decode cL_law 298 = .ok (.aload_n 0, 1) := by decide +kernel
theorem dL_law_299 : decode cL_law 299 = .ok (.iload_n 3, 1) := by decide +kernel
theorem dL_law_300 : decode cL_law 300 = .ok (.iconst 1, 1) := by decide +kernel
theorem dL_law_301 : decode cL_law 301 = .ok (.iadd, 1) := by decide +kernel
theorem dL_law_302 : decode cL_law 302 = .ok (.iaload, 1) := by decide +kernel
theorem dL_law_303 : decode cL_law 303 = .ok (.invokevirtual 44, 3) := by decide +kernel
theorem dL_law_306 : decode cL_law 306 = .ok (.if_icmp .eq 329, 3) := by decide +kernel
theorem dL_law_309 : decode cL_law 309 = .ok (.iconst 0, 1) := by decide +kernel
theorem dL_law_310 : decode cL_law 310 = .ok (.ireturn, 1) := by decide +kernel
theorem dL_law_311 : decode cL_law 311 = .ok (.aload_n 1, 1) := by decide +kernel
theorem dL_law_312 : decode cL_law 312 = .ok (.aload_n 0, 1) := by decide +kernel
theorem dL_law_313 : decode cL_law 313 = .ok (.iload_n 3, 1) := by decide +kernel
theorem dL_law_314 : decode cL_law 314 = .ok (.iconst 1, 1) := by decide +kernel
theorem dL_law_315 : decode cL_law 315 = .ok (.iadd, 1) := by decide +kernel
theorem dL_law_316 : decode cL_law 316 = .ok (.iaload, 1) := by decide +kernel
theorem dL_law_317 : decode cL_law 317 = .ok (.invokevirtual 45, 3) := by decide +kernel
theorem dL_law_320 : decode cL_law 320 = .ok (.aload_n 2, 1) := by decide +kernel
theorem dL_law_321 : decode cL_law 321 = .ok (.aload_n 0, 1) := by decide +kernel
theorem dL_law_322 : decode cL_law 322 = .ok (.iload_n 3, 1) := by decide +kernel
theorem dL_law_323 : decode cL_law 323 = .ok (.iconst 1, 1) := by decide +kernel
theorem dL_law_324 : decode cL_law 324 = .ok (.iadd, 1) := by decide +kernel
theorem dL_law_325 : decode cL_law 325 = .ok (.iaload, 1) := by decide +kernel
theorem dL_law_326 : decode cL_law 326 = .ok (.invokevirtual 48, 3) := by decide +kernel
theorem dL_law_329 : decode cL_law 329 = .ok (.if_icmp .eq 306, 3) := by decide +kernel
theorem dL_law_332 : decode cL_law 332 = .ok (.iconst 0, 1) := by decide +kernel
theorem dL_law_333 : decode cL_law 333 = .ok (.ireturn, 1) := by decide +kernel
theorem dL_law_334 : decode cL_law 334 = .ok (.aload_n 1, 1) := by decide +kernel
theorem dL_law_335 : decode cL_law 335 = .ok (.aload_n 0, 1) := by decide +kernel
theorem dL_law_336 : decode cL_law 336 = .ok (.iload_n 3, 1) := by decide +kernel
theorem dL_law_337 : decode cL_law 337 = .ok (.iconst 1, 1) := by decide +kernel
theorem dL_law_338 : decode cL_law 338 = .ok (.iadd, 1) := by decide +kernel
theorem dL_law_339 : decode cL_law 339 = .ok (.iaload, 1) := by decide +kernel
theorem dL_law_340 : decode cL_law 340 = .ok (.aload_n 0, 1) := by decide +kernel
theorem dL_law_341 : decode cL_law 341 = .ok (.iload_n 3, 1) := by decide +kernel
theorem dL_law_342 : decode cL_law 342 = .ok (.iconst 2, 1) := by decide +kernel
theorem dL_law_343 : decode cL_law 343 = .ok (.iadd, 1) := by decide +kernel
theorem dL_law_344 : decode cL_law 344 = .ok (.iaload, 1) := by decide +kernel
theorem dL_law_345 : decode cL_law 345 = .ok (.invokevirtual 49, 3) := by decide +kernel
theorem dL_law_348 : decode cL_law 348 = .ok (.aload_n 2, 1) := by decide +kernel
theorem dL_law_349 : decode cL_law 349 = .ok (.aload_n 0, 1) := by decide +kernel
theorem dL_law_350 : decode cL_law 350 = .ok (.iload_n 3, 1) := by decide +kernel
theorem dL_law_351 : decode cL_law 351 = .ok (.iconst 1, 1) := by decide +kernel
theorem dL_law_352 : decode cL_law 352 = .ok (.iadd, 1) := by decide +kernel
theorem dL_law_353 : decode cL_law 353 = .ok (.iaload, 1) := by decide +kernel
theorem dL_law_354 : decode cL_law 354 = .ok (.aload_n 0, 1) := by decide +kernel
theorem dL_law_355 : decode cL_law 355 = .ok (.iload_n 3, 1) := by decide +kernel
theorem dL_law_356 : decode cL_law 356 = .ok (.iconst 2, 1) := by decide +kernel
theorem dL_law_357 : decode cL_law 357 = .ok (.iadd, 1) := by decide +kernel
theorem dL_law_358 : decode cL_law 358 = .ok (.iaload, 1) := by decide +kernel
theorem dL_law_359 : decode cL_law 359 = .ok (.invokevirtual 52, 3) := by decide +kernel
theorem dL_law_362 : decode cL_law 362 = .ok (.if_icmp .eq 273, 3) := by decide +kernel
theorem dL_law_365 : decode cL_law 365 = .ok (.iconst 0, 1) := by decide +kernel
theorem dL_law_366 : decode cL_law 366 = .ok (.ireturn, 1) := by decide +kernel
theorem dL_law_367 : decode cL_law 367 = .ok (.aload_n 1, 1) := by decide +kernel
theorem dL_law_368 : decode cL_law 368 = .ok (.aload_n 0, 1) := by decide +kernel
theorem dL_law_369 : decode cL_law 369 = .ok (.iload_n 3, 1) := by decide +kernel
theorem dL_law_370 : decode cL_law 370 = .ok (.iconst 1, 1) := by decide +kernel
theorem dL_law_371 : decode cL_law 371 = .ok (.iadd, 1) := by decide +kernel
theorem dL_law_372 : decode cL_law 372 = .ok (.iaload, 1) := by decide +kernel
theorem dL_law_373 : decode cL_law 373 = .ok (.aload_n 0, 1) := by decide +kernel
theorem dL_law_374 : decode cL_law 374 = .ok (.iload_n 3, 1) := by decide +kernel
theorem dL_law_375 : decode cL_law 375 = .ok (.iconst 2, 1) := by decide +kernel
theorem dL_law_376 : decode cL_law 376 = .ok (.iadd, 1) := by decide +kernel
theorem dL_law_377 : decode cL_law 377 = .ok (.iaload, 1) := by decide +kernel
theorem dL_law_378 : decode cL_law 378 = .ok (.aload_n 0, 1) := by decide +kernel
theorem dL_law_379 : decode cL_law 379 = .ok (.iload_n 3, 1) := by decide +kernel
theorem dL_law_380 : decode cL_law 380 = .ok (.iconst 3, 1) := by decide +kernel
theorem dL_law_381 : decode cL_law 381 = .ok (.iadd, 1) := by decide +kernel
theorem dL_law_382 : decode cL_law 382 = .ok (.iaload, 1) := by decide +kernel
theorem dL_law_383 : decode cL_law 383 = .ok (.aload_n 0, 1) := by decide +kernel
theorem dL_law_384 : decode cL_law 384 = .ok (.iload_n 3, 1) := by decide +kernel
theorem dL_law_385 : decode cL_law 385 = .ok (.iconst 4, 1) := by decide +kernel
theorem dL_law_386 : decode cL_law 386 = .ok (.iadd, 1) := by decide +kernel
theorem dL_law_387 : decode cL_law 387 = .ok (.iaload, 1) := by decide +kernel
theorem dL_law_388 : decode cL_law 388 = .ok (.invokevirtual 53, 3) := by decide +kernel
theorem dL_law_391 : decode cL_law 391 = .ok (.aload_n 2, 1) := by decide +kernel
theorem dL_law_392 : decode cL_law 392 = .ok (.aload_n 0, 1) := by decide +kernel
theorem dL_law_393 : decode cL_law 393 = .ok (.iload_n 3, 1) := by decide +kernel
theorem dL_law_394 : decode cL_law 394 = .ok (.iconst 1, 1) := by decide +kernel
theorem dL_law_395 : decode cL_law 395 = .ok (.iadd, 1) := by decide +kernel
theorem dL_law_396 : decode cL_law 396 = .ok (.iaload, 1) := by decide +kernel
theorem dL_law_397 : decode cL_law 397 = .ok (.aload_n 0, 1) := by decide +kernel
theorem dL_law_398 : decode cL_law 398 = .ok (.iload_n 3, 1) := by decide +kernel
theorem dL_law_399 : decode cL_law 399 = .ok (.iconst 2, 1) := by decide +kernel
theorem dL_law_400 : decode cL_law 400 = .ok (.iadd, 1) := by decide +kernel
theorem dL_law_401 : decode cL_law 401 = .ok (.iaload, 1) := by decide +kernel
theorem dL_law_402 : decode cL_law 402 = .ok (.aload_n 0, 1) := by decide +kernel
theorem dL_law_403 : decode cL_law 403 = .ok (.iload_n 3, 1) := by decide +kernel
theorem dL_law_404 : decode cL_law 404 = .ok (.iconst 3, 1) := by decide +kernel
theorem dL_law_405 : decode cL_law 405 = .ok (.iadd, 1) := by decide +kernel
theorem dL_law_406 : decode cL_law 406 = .ok (.iaload, 1) := by decide +kernel
theorem dL_law_407 : decode cL_law 407 = .ok (.aload_n 0, 1) := by decide +kernel
theorem dL_law_408 : decode cL_law 408 = .ok (.iload_n 3, 1) := by decide +kernel
theorem dL_law_409 : decode cL_law 409 = .ok (.iconst 4, 1) := by decide +kernel
theorem dL_law_410 : decode cL_law 410 = .ok (.iadd, 1) := by decide +kernel
theorem dL_law_411 : decode cL_law 411 = .ok (.iaload, 1) := by decide +kernel
theorem dL_law_412 : decode cL_law 412 = .ok (.invokevirtual 57, 3) := by decide +kernel
theorem dL_law_415 : decode cL_law 415 = .ok (.if_icmp .eq 220, 3) := by decide +kernel
theorem dL_law_418 : decode cL_law 418 = .ok (.iconst 0, 1) := by decide +kernel
theorem dL_law_419 : decode cL_law 419 = .ok (.ireturn, 1) := by decide +kernel
theorem dL_law_420 : decode cL_law 420 = .ok (.aload_n 1, 1) := by decide +kernel
theorem dL_law_421 : decode cL_law 421 = .ok (.invokevirtual 58, 3) := by decide +kernel
theorem dL_law_424 : decode cL_law 424 = .ok (.aload_n 2, 1) := by decide +kernel
theorem dL_law_425 : decode cL_law 425 = .ok (.invokevirtual 61, 3) := by decide +kernel
theorem dL_law_428 : decode cL_law 428 = .ok (.if_icmp .eq 207, 3) := by decide +kernel
theorem dL_law_431 : decode cL_law 431 = .ok (.iconst 0, 1) := by decide +kernel
theorem dL_law_432 : decode cL_law 432 = .ok (.ireturn, 1) := by decide +kernel
theorem dL_law_433 : decode cL_law 433 = .ok (.aload_n 1, 1) := by decide +kernel
theorem dL_law_434 : decode cL_law 434 = .ok (.aload_n 0, 1) := by decide +kernel
theorem dL_law_435 : decode cL_law 435 = .ok (.iload_n 3, 1) := by decide +kernel
theorem dL_law_436 : decode cL_law 436 = .ok (.iconst 1, 1) := by decide +kernel
theorem dL_law_437 : decode cL_law 437 = .ok (.iadd, 1) := by decide +kernel
theorem dL_law_438 : decode cL_law 438 = .ok (.iaload, 1) := by decide +kernel
theorem dL_law_439 : decode cL_law 439 = .ok (.invokevirtual 62, 3) := by decide +kernel
theorem dL_law_442 : decode cL_law 442 = .ok (.aload_n 2, 1) := by decide +kernel
theorem dL_law_443 : decode cL_law 443 = .ok (.aload_n 0, 1) := by decide +kernel
theorem dL_law_444 : decode cL_law 444 = .ok (.iload_n 3, 1) := by decide +kernel
theorem dL_law_445 : decode cL_law 445 = .ok (.iconst 1, 1) := by decide +kernel
theorem dL_law_446 : decode cL_law 446 = .ok (.iadd, 1) := by decide +kernel
theorem dL_law_447 : decode cL_law 447 = .ok (.iaload, 1) := by decide +kernel
theorem dL_law_448 : decode cL_law 448 = .ok (.invokevirtual 65, 3) := by decide +kernel
theorem dL_law_451 : decode cL_law 451 = .ok (.if_icmp .eq 184, 3) := by decide +kernel
theorem dL_law_454 : decode cL_law 454 = .ok (.iconst 0, 1) := by decide +kernel
theorem dL_law_455 : decode cL_law 455 = .ok (.ireturn, 1) := by decide +kernel
theorem dL_law_456 : decode cL_law 456 = .ok (.aload_n 1, 1) := by decide +kernel
theorem dL_law_457 : decode cL_law 457 = .ok (.aload_n 0, 1) := by decide +kernel
theorem dL_law_458 : decode cL_law 458 = .ok (.iload_n 3, 1) := by decide +kernel
theorem dL_law_459 : decode cL_law 459 = .ok (.iconst 1, 1) := by decide +kernel
theorem dL_law_460 : decode cL_law 460 = .ok (.iadd, 1) := by decide +kernel
theorem dL_law_461 : decode cL_law 461 = .ok (.iaload, 1) := by decide +kernel
theorem dL_law_462 : decode cL_law 462 = .ok (.aload_n 0, 1) := by decide +kernel
theorem dL_law_463 : decode cL_law 463 = .ok (.iload_n 3, 1) := by decide +kernel
theorem dL_law_464 : decode cL_law 464 = .ok (.iconst 2, 1) := by decide +kernel
theorem dL_law_465 : decode cL_law 465 = .ok (.iadd, 1) := by decide +kernel
theorem dL_law_466 : decode cL_law 466 = .ok (.iaload, 1) := by decide +kernel
theorem dL_law_467 : decode cL_law 467 = .ok (.invokevirtual 66, 3) := by decide +kernel
theorem dL_law_470 : decode cL_law 470 = .ok (.aload_n 2, 1) := by decide +kernel
theorem dL_law_471 : decode cL_law 471 = .ok (.aload_n 0, 1) := by decide +kernel
theorem dL_law_472 : decode cL_law 472 = .ok (.iload_n 3, 1) := by decide +kernel
theorem dL_law_473 : decode cL_law 473 = .ok (.iconst 1, 1) := by decide +kernel
theorem dL_law_474 : decode cL_law 474 = .ok (.iadd, 1) := by decide +kernel
theorem dL_law_475 : decode cL_law 475 = .ok (.iaload, 1) := by decide +kernel
theorem dL_law_476 : decode cL_law 476 = .ok (.aload_n 0, 1) := by decide +kernel
theorem dL_law_477 : decode cL_law 477 = .ok (.iload_n 3, 1) := by decide +kernel
theorem dL_law_478 : decode cL_law 478 = .ok (.iconst 2, 1) := by decide +kernel
theorem dL_law_479 : decode cL_law 479 = .ok (.iadd, 1) := by decide +kernel
theorem dL_law_480 : decode cL_law 480 = .ok (.iaload, 1) := by decide +kernel
theorem dL_law_481 : decode cL_law 481 = .ok (.invokevirtual 69, 3) := by decide +kernel
theorem dL_law_484 : decode cL_law 484 = .ok (.if_icmp .eq 151, 3) := by decide +kernel
theorem dL_law_487 : decode cL_law 487 = .ok (.iconst 0, 1) := by decide +kernel
theorem dL_law_488 : decode cL_law 488 = .ok (.ireturn, 1) := by decide +kernel
theorem dL_law_489 : decode cL_law 489 = .ok (.aload_n 1, 1) := by decide +kernel
theorem dL_law_490 : decode cL_law 490 = .ok (.aload_n 0, 1) := by decide +kernel
theorem dL_law_491 : decode cL_law 491 = .ok (.iload_n 3, 1) := by decide +kernel
theorem dL_law_492 : decode cL_law 492 = .ok (.iconst 1, 1) := by decide +kernel
theorem dL_law_493 : decode cL_law 493 = .ok (.iadd, 1) := by decide +kernel
theorem dL_law_494 : decode cL_law 494 = .ok (.iaload, 1) := by decide +kernel
theorem dL_law_495 : decode cL_law 495 = .ok (.aload_n 0, 1) := by decide +kernel
theorem dL_law_496 : decode cL_law 496 = .ok (.iload_n 3, 1) := by decide +kernel
theorem dL_law_497 : decode cL_law 497 = .ok (.iconst 2, 1) := by decide +kernel
theorem dL_law_498 : decode cL_law 498 = .ok (.iadd, 1) := by decide +kernel
theorem dL_law_499 : decode cL_law 499 = .ok (.iaload, 1) := by decide +kernel
theorem dL_law_500 : decode cL_law 500 = .ok (.aload_n 0, 1) := by decide +kernel
theorem dL_law_501 : decode cL_law 501 = .ok (.iload_n 3, 1) := by decide +kernel
theorem dL_law_502 : decode cL_law 502 = .ok (.iconst 3, 1) := by decide +kernel
theorem dL_law_503 : decode cL_law 503 = .ok (.iadd, 1) := by decide +kernel
theorem dL_law_504 : decode cL_law 504 = .ok (.iaload, 1) := by decide +kernel
theorem dL_law_505 : decode cL_law 505 = .ok (.invokevirtual 70, 3) := by decide +kernel
theorem dL_law_508 : decode cL_law 508 = .ok (.aload_n 2, 1) := by decide +kernel
theorem dL_law_509 : decode cL_law 509 = .ok (.aload_n 0, 1) := by decide +kernel
theorem dL_law_510 : decode cL_law 510 = .ok (.iload_n 3, 1) := by decide +kernel
theorem dL_law_511 : decode cL_law 511 = .ok (.iconst 1, 1) := by decide +kernel
theorem dL_law_512 : decode cL_law 512 = .ok (.iadd, 1) := by decide +kernel
theorem dL_law_513 : decode cL_law 513 = .ok (.iaload, 1) := by decide +kernel
theorem dL_law_514 : decode cL_law 514 = .ok (.aload_n 0, 1) := by decide +kernel
theorem dL_law_515 : decode cL_law 515 = .ok (.iload_n 3, 1) := by decide +kernel
theorem dL_law_516 : decode cL_law 516 = .ok (.iconst 2, 1) := by decide +kernel
theorem dL_law_517 : decode cL_law 517 = .ok (.iadd, 1) := by decide +kernel
theorem dL_law_518 : decode cL_law 518 = .ok (.iaload, 1) := by decide +kernel
theorem dL_law_519 : decode cL_law 519 = .ok (.aload_n 0, 1) := by decide +kernel
theorem dL_law_520 : decode cL_law 520 = .ok (.iload_n 3, 1) := by decide +kernel
theorem dL_law_521 : decode cL_law 521 = .ok (.iconst 3, 1) := by decide +kernel
theorem dL_law_522 : decode cL_law 522 = .ok (.iadd, 1) := by decide +kernel
theorem dL_law_523 : decode cL_law 523 = .ok (.iaload, 1) := by decide +kernel
theorem dL_law_524 : decode cL_law 524 = .ok (.invokevirtual 73, 3) := by decide +kernel
theorem dL_law_527 : decode cL_law 527 = .ok (.if_icmp .eq 108, 3) := by decide +kernel
theorem dL_law_530 : decode cL_law 530 = .ok (.iconst 0, 1) := by decide +kernel
theorem dL_law_531 : decode cL_law 531 = .ok (.ireturn, 1) := by decide +kernel
theorem dL_law_532 : decode cL_law 532 = .ok (.aload_n 1, 1) := by decide +kernel
theorem dL_law_533 : decode cL_law 533 = .ok (.aload_n 0, 1) := by decide +kernel
theorem dL_law_534 : decode cL_law 534 = .ok (.iload_n 3, 1) := by decide +kernel
theorem dL_law_535 : decode cL_law 535 = .ok (.iconst 1, 1) := by decide +kernel
theorem dL_law_536 : decode cL_law 536 = .ok (.iadd, 1) := by decide +kernel
theorem dL_law_537 : decode cL_law 537 = .ok (.iaload, 1) := by decide +kernel
theorem dL_law_538 : decode cL_law 538 = .ok (.aload_n 0, 1) := by decide +kernel
theorem dL_law_539 : decode cL_law 539 = .ok (.iload_n 3, 1) := by decide +kernel
theorem dL_law_540 : decode cL_law 540 = .ok (.iconst 2, 1) := by decide +kernel
theorem dL_law_541 : decode cL_law 541 = .ok (.iadd, 1) := by decide +kernel
theorem dL_law_542 : decode cL_law 542 = .ok (.iaload, 1) := by decide +kernel
theorem dL_law_543 : decode cL_law 543 = .ok (.invokevirtual 74, 3) := by decide +kernel
theorem dL_law_546 : decode cL_law 546 = .ok (.aload_n 2, 1) := by decide +kernel
theorem dL_law_547 : decode cL_law 547 = .ok (.aload_n 0, 1) := by decide +kernel
theorem dL_law_548 : decode cL_law 548 = .ok (.iload_n 3, 1) := by decide +kernel
theorem dL_law_549 : decode cL_law 549 = .ok (.iconst 1, 1) := by decide +kernel
theorem dL_law_550 : decode cL_law 550 = .ok (.iadd, 1) := by decide +kernel
theorem dL_law_551 : decode cL_law 551 = .ok (.iaload, 1) := by decide +kernel
theorem dL_law_552 : decode cL_law 552 = .ok (.aload_n 0, 1) := by decide +kernel
theorem dL_law_553 : decode cL_law 553 = .ok (.iload_n 3, 1) := by decide +kernel
theorem dL_law_554 : decode cL_law 554 = .ok (.iconst 2, 1) := by decide +kernel
theorem dL_law_555 : decode cL_law 555 = .ok (.iadd, 1) := by decide +kernel
theorem dL_law_556 : decode cL_law 556 = .ok (.iaload, 1) := by decide +kernel
theorem dL_law_557 : decode cL_law 557 = .ok (.invokevirtual 77, 3) := by decide +kernel
theorem dL_law_560 : decode cL_law 560 = .ok (.if_icmp .eq 75, 3) := by decide +kernel
theorem dL_law_563 : decode cL_law 563 = .ok (.iconst 0, 1) := by decide +kernel
theorem dL_law_564 : decode cL_law 564 = .ok (.ireturn, 1) := by decide +kernel
theorem dL_law_565 : decode cL_law 565 = .ok (.aload_n 1, 1) := by decide +kernel
theorem dL_law_566 : decode cL_law 566 = .ok (.aload_n 0, 1) := by decide +kernel
theorem dL_law_567 : decode cL_law 567 = .ok (.iload_n 3, 1) := by decide +kernel
theorem dL_law_568 : decode cL_law 568 = .ok (.iconst 1, 1) := by decide +kernel
theorem dL_law_569 : decode cL_law 569 = .ok (.iadd, 1) := by decide +kernel
theorem dL_law_570 : decode cL_law 570 = .ok (.iaload, 1) := by decide +kernel
theorem dL_law_571 : decode cL_law 571 = .ok (.aload_n 0, 1) := by decide +kernel
theorem dL_law_572 : decode cL_law 572 = .ok (.iload_n 3, 1) := by decide +kernel
theorem dL_law_573 : decode cL_law 573 = .ok (.iconst 2, 1) := by decide +kernel
theorem dL_law_574 : decode cL_law 574 = .ok (.iadd, 1) := by decide +kernel
theorem dL_law_575 : decode cL_law 575 = .ok (.iaload, 1) := by decide +kernel
theorem dL_law_576 : decode cL_law 576 = .ok (.invokevirtual 78, 3) := by decide +kernel
theorem dL_law_579 : decode cL_law 579 = .ok (.aload_n 2, 1) := by decide +kernel
theorem dL_law_580 : decode cL_law 580 = .ok (.aload_n 0, 1) := by decide +kernel
theorem dL_law_581 : decode cL_law 581 = .ok (.iload_n 3, 1) := by decide +kernel
theorem dL_law_582 : decode cL_law 582 = .ok (.iconst 1, 1) := by decide +kernel
theorem dL_law_583 : decode cL_law 583 = .ok (.iadd, 1) := by decide +kernel
theorem dL_law_584 : decode cL_law 584 = .ok (.iaload, 1) := by decide +kernel
theorem dL_law_585 : decode cL_law 585 = .ok (.aload_n 0, 1) := by decide +kernel
theorem dL_law_586 : decode cL_law 586 = .ok (.iload_n 3, 1) := by decide +kernel
theorem dL_law_587 : decode cL_law 587 = .ok (.iconst 2, 1) := by decide +kernel
theorem dL_law_588 : decode cL_law 588 = .ok (.iadd, 1) := by decide +kernel
theorem dL_law_589 : decode cL_law 589 = .ok (.iaload, 1) := by decide +kernel
theorem dL_law_590 : decode cL_law 590 = .ok (.invokevirtual 81, 3) := by decide +kernel
theorem dL_law_593 : decode cL_law 593 = .ok (.if_icmp .eq 42, 3) := by decide +kernel
theorem dL_law_596 : decode cL_law 596 = .ok (.iconst 0, 1) := by decide +kernel
theorem dL_law_597 : decode cL_law 597 = .ok (.ireturn, 1) := by decide +kernel
theorem dL_law_598 : decode cL_law 598 = .ok (.aload_n 1, 1) := by decide +kernel
theorem dL_law_599 : decode cL_law 599 = .ok (.aload_n 0, 1) := by decide +kernel
theorem dL_law_600 : decode cL_law 600 = .ok (.iload_n 3, 1) := by decide +kernel
theorem dL_law_601 : decode cL_law 601 = .ok (.iconst 1, 1) := by decide +kernel
theorem dL_law_602 : decode cL_law 602 = .ok (.iadd, 1) := by decide +kernel
theorem dL_law_603 : decode cL_law 603 = .ok (.iaload, 1) := by decide +kernel
theorem dL_law_604 : decode cL_law 604 = .ok (.invokevirtual 82, 3) := by decide +kernel
theorem dL_law_607 : decode cL_law 607 = .ok (.aload_n 2, 1) := by decide +kernel
theorem dL_law_608 : decode cL_law 608 = .ok (.aload_n 0, 1) := by decide +kernel
theorem dL_law_609 : decode cL_law 609 = .ok (.iload_n 3, 1) := by decide +kernel
theorem dL_law_610 : decode cL_law 610 = .ok (.iconst 1, 1) := by decide +kernel
theorem dL_law_611 : decode cL_law 611 = .ok (.iadd, 1) := by decide +kernel
theorem dL_law_612 : decode cL_law 612 = .ok (.iaload, 1) := by decide +kernel
theorem dL_law_613 : decode cL_law 613 = .ok (.invokevirtual 85, 3) := by decide +kernel
theorem dL_law_616 : decode cL_law 616 = .ok (.if_icmp .eq 19, 3) := by decide +kernel
theorem dL_law_619 : decode cL_law 619 = .ok (.iconst 0, 1) := by decide +kernel
theorem dL_law_620 : decode cL_law 620 = .ok (.ireturn, 1) := by decide +kernel
theorem dL_law_621 : decode cL_law 621 = .ok (.aload_n 1, 1) := by decide +kernel
theorem dL_law_622 : decode cL_law 622 = .ok (.invokevirtual 86, 3) := by decide +kernel
theorem dL_law_625 : decode cL_law 625 = .ok (.aload_n 2, 1) := by decide +kernel
theorem dL_law_626 : decode cL_law 626 = .ok (.invokevirtual 90, 3) := by decide +kernel
theorem dL_law_629 : decode cL_law 629 = .ok (.lcmp, 1) := by decide +kernel
theorem dL_law_630 : decode cL_law 630 = .ok (.ifCond .eq 5, 3) := by decide +kernel
theorem dL_law_633 : decode cL_law 633 = .ok (.iconst 0, 1) := by decide +kernel
theorem dL_law_634 : decode cL_law 634 = .ok (.ireturn, 1) := by decide +kernel
theorem dL_law_635 : decode cL_law 635 = .ok (.iinc 3 5, 3) := by decide +kernel
theorem dL_law_638 : decode cL_law 638 = .ok (.goto (-620), 3) := by decide +kernel
theorem dL_law_641 : decode cL_law 641 = .ok (.iconst 1, 1) := by decide +kernel
theorem dL_law_642 : decode cL_law 642 = .ok (.ireturn, 1) := by decide +kernel
end
section
/-! WHAT IS KNOWN OF THE TABLES at any state of p1's walks: the classes, the four kinds of arrays (int, boolean, Program, Frame), what private constructors of nest mates link -/
def zE (D : va_G) (cI cZ cP cF : Nat) (U : State) : Prop :=
  va_K D vwCl [(cI, .int), (cZ, .boolean), (cP, .object RX8), (cF, .object RX4)] U ∧ va_AO RX8 U ∧ va_AO RX4 U ∧ va_Nw (.methodLinkNest RX11 11 yX3_init "TemplateForge") U ∧ va_Nw (.methodLinkNest RX11 14 yX0_init "TemplateForge") U ∧ va_Nw (.methodLinkNest RX7 11 yX10_init "TemplateForge") U ∧ va_Nw (.methodLinkNest RX7 45 yX4_init "TemplateForge") U ∧ va_Nw (.methodLinkNest RX8 11 yX5_init "TemplateForge") U
theorem zE.k {D : va_G} {cI cZ cP cF : Nat} {U : State} (h : zE D cI cZ cP cF U) : va_K D vwCl [(cI, .int), (cZ, .boolean), (cP, .object RX8), (cF, .object RX4)] U := h.1
theorem zE.aoP {D : va_G} {cI cZ cP cF : Nat} {U : State} (h : zE D cI cZ cP cF U) : va_AO RX8 U := h.2.1
theorem zE.aoF {D : va_G} {cI cZ cP cF : Nat} {U : State} (h : zE D cI cZ cP cF U) : va_AO RX4 U := h.2.2.1
theorem zE.nX11_11 {D : va_G} {cI cZ cP cF : Nat} {U : State} (h : zE D cI cZ cP cF U) : va_Nw (.methodLinkNest RX11 11 yX3_init "TemplateForge") U := h.2.2.2.1
theorem zE.nX11_14 {D : va_G} {cI cZ cP cF : Nat} {U : State} (h : zE D cI cZ cP cF U) : va_Nw (.methodLinkNest RX11 14 yX0_init "TemplateForge") U := h.2.2.2.2.1
theorem zE.nX7_11 {D : va_G} {cI cZ cP cF : Nat} {U : State} (h : zE D cI cZ cP cF U) : va_Nw (.methodLinkNest RX7 11 yX10_init "TemplateForge") U := h.2.2.2.2.2.1
theorem zE.nX7_45 {D : va_G} {cI cZ cP cF : Nat} {U : State} (h : zE D cI cZ cP cF U) : va_Nw (.methodLinkNest RX7 45 yX4_init "TemplateForge") U := h.2.2.2.2.2.2.1
theorem zE.nX8_11 {D : va_G} {cI cZ cP cF : Nat} {U : State} (h : zE D cI cZ cP cF U) : va_Nw (.methodLinkNest RX8 11 yX5_init "TemplateForge") U := h.2.2.2.2.2.2.2
theorem zE.warm {D : va_G} {cI cZ cP cF : Nat} {s U : State} (h : zE D cI cZ cP cF s) (hW : s.WarmedH U.vm) : zE D cI cZ cP cF U :=
  ⟨va_K.moved hW.alike h.1, va_AO.moved hW.alike h.2.1, va_AO.moved hW.alike h.2.2.1, va_Nw.warmM hW h.nX11_11, va_Nw.warmM hW h.nX11_14, va_Nw.warmM hW h.nX7_11, va_Nw.warmM hW h.nX7_45, va_Nw.warmM hW h.nX8_11⟩
theorem zE.same {D : va_G} {cI cZ cP cF : Nat} {s U : State} (h : zE D cI cZ cP cF s) (e : s.vm = U.vm) : zE D cI cZ cP cF U :=
  ⟨va_K.moved (by rw [e]; exact Vm.Alike.refl U.vm) h.1, va_AO.moved (by rw [e]; exact Vm.Alike.refl U.vm) h.2.1, va_AO.moved (by rw [e]; exact Vm.Alike.refl U.vm) h.2.2.1, va_Nw.same rfl e h.nX11_11, va_Nw.same rfl e h.nX11_14, va_Nw.same rfl e h.nX7_11, va_Nw.same rfl e h.nX7_45, va_Nw.same rfl e h.nX8_11⟩
theorem zBR {D : va_G} {cI cZ cP cF : Nat} {av : List Value} {ws : va_W} : FrameBlind (va_Pc av (fun U => va_P D vwCl ws U.heap ∧ zE D cI cZ cP cF U)) := fun _ _ _ _ q => ⟨q.1, q.2.1, zE.same q.2.2 rfl⟩
theorem zBW {D : va_G} {cI cZ cP cF : Nat} {av : List Value} {ws : va_W} {sz : Nat} : FrameBlind (va_Pc av (fun U => U.heap.size = sz ∧ va_P D vwCl ws U.heap ∧ zE D cI cZ cP cF U ∧ va_D (fun _ => True) ws)) := fun _ _ _ _ q => ⟨q.1, q.2.1, q.2.2.1, zE.same q.2.2.2.1 rfl, q.2.2.2.2⟩
section ZNEW
variable {p : Program} {l : Launch} {e : Env} {R : Room} {s : State} {m : MethodId} {args : Array Value} {below : List Frame} {meth : Method} {c : Code} {H : Heap} {locs : List Loc} {cells slots : Nat} {Q : State → Prop}
variable {cc : ByteArray} {pc : Nat} {ls : Array Slot} {rest : List Value} {D : va_G} {cl : List vw_C} {A : Nat → Prop} {tys : List (ClassId × FieldType)} {ws : va_W} {H0 : Heap}
theorem z_newI (hexec : p.tables.exec = Jvm.exec) (hb : c.code = cc) (harr : (Cond.arrayClass .int).before args s = true) (hK : va_K D cl tys s) {cI : ClassId} (t0 : Nat) (ht : tys[t0]? = some (cI, .int)) (hP : va_P D cl ws H) (hD : va_D A ws) (hS : va_S A H0 H locs) (hA : ∀ q, H0.size ≤ q → A q)
    {n : Int32} {N' : Nat} (hn : ¬ n < 0) (hN : n.toNatClampNeg = N') (hbytes : N' * 4 ≤ 536870912) (hcells : cells + 1 ≤ R.cells) (hslots : slots + N' ≤ R.slots) (hdg : decode cc pc = .ok (.newarray .int, 2))
    (kk : ∀ (q : Nat) (H1 : Heap), va_P D cl (ws ++ [(q, .inl (cI, N', .inl (fun _ => 0)))]) H1 → va_D A (ws ++ [(q, .inl (cI, N', .inl (fun _ => 0)))]) → va_S A H0 H1 locs →
      W p l e R s m args below meth c H1 locs (cells + 1) (slots + N') Q (F0 m (pc + 2) ls (.ref q :: rest))) : W p l e R s m args below meth c H locs cells slots Q (F0 m pc ls (.int n :: rest)) := by
  refine va_newa (atype := .int) (ty := .int) hexec hb harr rfl hK hP hD hS hA (a0 := (N', .inl (fun _ => 0))) (fun cA => rfl) hn hN hbytes hcells hslots hdg (fun q cA H1 hK1 hP hD hS => ?_)
  have h1 := va_nm_int ((hK1.2 tys.length (cA, .int) (by simp)).2)
  have h2 := va_nm_int ((hK.2 t0 _ ht).2)
  rw [h1] at h2
  obtain rfl := Option.some.inj h2
  exact kk q H1 hP hD hS
theorem z_newZ (hexec : p.tables.exec = Jvm.exec) (hb : c.code = cc) (harr : (Cond.arrayClass .boolean).before args s = true) (hK : va_K D cl tys s) {cI : ClassId} (t0 : Nat) (ht : tys[t0]? = some (cI, .boolean)) (hP : va_P D cl ws H) (hD : va_D A ws) (hS : va_S A H0 H locs) (hA : ∀ q, H0.size ≤ q → A q)
    {n : Int32} {N' : Nat} (hn : ¬ n < 0) (hN : n.toNatClampNeg = N') (hbytes : N' * 1 ≤ 536870912) (hcells : cells + 1 ≤ R.cells) (hslots : slots + N' ≤ R.slots) (hdg : decode cc pc = .ok (.newarray .boolean, 2))
    (kk : ∀ (q : Nat) (H1 : Heap), va_P D cl (ws ++ [(q, .inl (cI, N', .inl (fun _ => 0)))]) H1 → va_D A (ws ++ [(q, .inl (cI, N', .inl (fun _ => 0)))]) → va_S A H0 H1 locs →
      W p l e R s m args below meth c H1 locs (cells + 1) (slots + N') Q (F0 m (pc + 2) ls (.ref q :: rest))) : W p l e R s m args below meth c H locs cells slots Q (F0 m pc ls (.int n :: rest)) := by
  refine va_newa (atype := .boolean) (ty := .boolean) hexec hb harr rfl hK hP hD hS hA (a0 := (N', .inl (fun _ => 0))) (fun cA => rfl) hn hN hbytes hcells hslots hdg (fun q cA H1 hK1 hP hD hS => ?_)
  have h1 := va_nm_boolean ((hK1.2 tys.length (cA, .boolean) (by simp)).2)
  have h2 := va_nm_boolean ((hK.2 t0 _ ht).2)
  rw [h1] at h2
  obtain rfl := Option.some.inj h2
  exact kk q H1 hP hD hS
theorem z_newQ (hexec : p.tables.exec = Jvm.exec) (hb : c.code = cc) {own C : String} {index : Nat} (hown : s.vm.findClass own = some m.cls) (hclink : (Cond.classLink own index C).before args s = true) (hover : va_AO C s) (hK : va_K D cl tys s) {cI : ClassId} (t0 : Nat) (ht : tys[t0]? = some (cI, .object C)) (hP : va_P D cl ws H) (hD : va_D A ws) (hS : va_S A H0 H locs) (hA : ∀ q, H0.size ≤ q → A q)
    {n : Int32} {N' : Nat} (hn : ¬ n < 0) (hN : n.toNatClampNeg = N') (hbytes : N' * 4 ≤ 536870912) (hcells : cells + 1 ≤ R.cells) (hslots : slots + N' ≤ R.slots) (hdg : decode cc pc = .ok (.anewarray index, 3))
    (kk : ∀ (q : Nat) (H1 : Heap), va_P D cl (ws ++ [(q, .inl (cI, N', .inr (.inr (.inr (.inr (fun _ => none))))))]) H1 → va_D A (ws ++ [(q, .inl (cI, N', .inr (.inr (.inr (.inr (fun _ => none))))))]) → va_S A H0 H1 locs →
      W p l e R s m args below meth c H1 locs (cells + 1) (slots + N') Q (F0 m (pc + 3) ls (.ref q :: rest))) : W p l e R s m args below meth c H locs cells slots Q (F0 m pc ls (.int n :: rest)) := by
  refine va_newq hexec hb hown hclink hover hK hP hD hS hA hn hN hbytes hcells hslots hdg (fun q cA H1 hK1 hP hD hS => ?_)
  obtain ⟨_, _, _, _, _, h1⟩ := (hK1.2 tys.length (cA, .object C) (by simp)).2
  obtain ⟨_, _, _, _, _, h2⟩ := (hK.2 t0 _ ht).2
  rw [h1] at h2
  obtain rfl := Option.some.inj h2
  exact kk q H1 hP hD hS
end ZNEW
/-! answers, in numbers -/
def zM4 (g : Nat → Int32) : Prop := ∀ k : Nat, k < 4 → g k = -1
def zsel (f M a b : Int32) : Int32 := if f < 0 then a else if f < M then b else a
def zmeth (a l : Int32) : Int32 := if a < 0 then -2 else if 3 < a then -2 else if l < a then -2 else if l ≤ 6 then 0 else -2
def vin (v lo hi : Int64) : Int32 := if v < lo then 0 else if hi < v then 0 else 1
def zcount (w : Int32) : Int32 := if w.toInt < 0 ∨ 5 < w.toInt then -2 else 0
theorem z_in {i M : Int32} {n : Nat} (hM : M.toInt = n) (h1 : ¬ i < 0) (h2 : ¬ M ≤ i) : vp_in i n := by
  unfold vp_in
  rw [Int32.lt_iff_toInt_lt] at h1
  rw [Int32.le_iff_toInt_le] at h2
  have h0 : (0 : Int32).toInt = 0 := by decide
  have h3 : i.toNatClampNeg = i.toInt.toNat := rfl
  rintro (h | h)
  · rw [Int32.lt_iff_toInt_lt] at h; omega
  · rw [h3] at h; omega
theorem z_m1 {i : Int32} (h1 : ¬ i < 0) : (-1 : Int32) ≤ i := by
  rw [Int32.lt_iff_toInt_lt] at h1
  rw [Int32.le_iff_toInt_le]
  have h0 : (0 : Int32).toInt = 0 := by decide
  have h3 : (-1 : Int32).toInt = -1 := by decide
  omega
theorem zM4_4 (f : Nat → Int32) : zM4 (upd (upd (upd (upd f (0 : Int32).toNatClampNeg (-1)) (1 : Int32).toNatClampNeg (-1)) (2 : Int32).toNatClampNeg (-1)) (3 : Int32).toNatClampNeg (-1)) := by
  intro k hk
  have e0 : (0 : Int32).toNatClampNeg = 0 := by decide
  have e1 : (1 : Int32).toNatClampNeg = 1 := by decide
  have e2 : (2 : Int32).toNatClampNeg = 2 := by decide
  have e3 : (3 : Int32).toNatClampNeg = 3 := by decide
  rw [e0, e1, e2, e3]
  rcases (show k = 0 ∨ k = 1 ∨ k = 2 ∨ k = 3 by omega) with rfl | rfl | rfl | rfl <;> simp [upd]
theorem z_tab5 (x : Int32) : (x.toInt < 0 ∨ 5 < x.toInt) ∨ x = 0 ∨ x = 1 ∨ x = 2 ∨ x = 3 ∨ x = 4 ∨ x = 5 := by
  by_cases h : x.toInt < 0 ∨ 5 < x.toInt
  · exact Or.inl h
  · right
    have e : ∀ c : Int32, x.toInt = c.toInt → x = c := fun c hc => Int32.toInt.inj hc
    have : x.toInt = 0 ∨ x.toInt = 1 ∨ x.toInt = 2 ∨ x.toInt = 3 ∨ x.toInt = 4 ∨ x.toInt = 5 := by omega
    rcases this with h | h | h | h | h | h
    · exact Or.inl (e 0 (by rw [h]; decide))
    · exact Or.inr (Or.inl (e 1 (by rw [h]; decide)))
    · exact Or.inr (Or.inr (Or.inl (e 2 (by rw [h]; decide))))
    · exact Or.inr (Or.inr (Or.inr (Or.inl (e 3 (by rw [h]; decide)))))
    · exact Or.inr (Or.inr (Or.inr (Or.inr (Or.inl (e 4 (by rw [h]; decide))))))
    · exact Or.inr (Or.inr (Or.inr (Or.inr (Or.inr (e 5 (by rw [h]; decide))))))
/-! the reference's own 'in' -/
theorem vin_0 {v lo hi : Int64} (h : vin v lo hi = 0) : v < lo ∨ hi < v := by
  unfold vin at h
  by_cases h1 : v < lo
  · exact Or.inl h1
  · rw [if_neg h1] at h
    by_cases h2 : hi < v
    · exact Or.inr h2
    · rw [if_neg h2] at h
      exact absurd h (by decide)
theorem vin_1 {v lo hi : Int64} (h : ¬ vin v lo hi = 0) : ¬ v < lo ∧ ¬ hi < v := by
  unfold vin at h
  by_cases h1 : v < lo
  · rw [if_pos h1] at h; exact absurd rfl h
  · rw [if_neg h1] at h
    by_cases h2 : hi < v
    · rw [if_pos h2] at h; exact absurd rfl h
    · exact ⟨h1, h2⟩
theorem z_no {v lo hi : Int64} (h : lo.toInt > hi.toInt) : vin v lo hi = 0 := by
  unfold vin
  by_cases h1 : v < lo
  · rw [if_pos h1]
  · rw [if_neg h1]
    by_cases h2 : hi < v
    · rw [if_pos h2]
    · rw [Int64.lt_iff_toInt_lt] at h1 h2; omega
theorem z_lt_iff (f M : Int32) : f < M ↔ f.toInt < M.toInt := Int32.lt_iff_toInt_lt
theorem zk_out {f M a b : Int32} {hi : Int64} (hM : hi.toInt + 1 = M.toInt) (h : vin f.toInt64 0 hi = 0) : zsel f M a b = a := by
  have h0 : (0 : Int64).toInt = 0 := by decide
  have h00 : (0 : Int32).toInt = 0 := by decide
  rcases vin_0 h with h | h
  · rw [Int64.lt_iff_toInt_lt, Int32.toInt_toInt64, h0] at h
    unfold zsel
    rw [if_pos ((z_lt_iff f 0).mpr (by omega))]
  · rw [Int64.lt_iff_toInt_lt, Int32.toInt_toInt64] at h
    unfold zsel
    rw [if_neg (c := f < M) (fun q => by have := (z_lt_iff f M).mp q; omega)]
    split <;> rfl
theorem zk_in {f M a b : Int32} {hi : Int64} (hM : hi.toInt + 1 = M.toInt) (h : ¬ vin f.toInt64 0 hi = 0) : zsel f M a b = b := by
  have h0 : (0 : Int64).toInt = 0 := by decide
  have h00 : (0 : Int32).toInt = 0 := by decide
  obtain ⟨h1, h2⟩ := vin_1 h
  rw [Int64.lt_iff_toInt_lt, Int32.toInt_toInt64] at h1 h2
  unfold zsel
  rw [if_neg (fun q => by have := (z_lt_iff f 0).mp q; omega), if_pos ((z_lt_iff f M).mpr (by omega))]
theorem zi_in {f : Int32} {hi : Int64} {n : Nat} (hM : hi.toInt + 1 = n) (h : ¬ vin f.toInt64 0 hi = 0) : vp_in f n := by
  have h0 : (0 : Int64).toInt = 0 := by decide
  have h00 : (0 : Int32).toInt = 0 := by decide
  obtain ⟨h1, h2⟩ := vin_1 h
  rw [Int64.lt_iff_toInt_lt, Int32.toInt_toInt64] at h1 h2
  have h3 : f.toNatClampNeg = f.toInt.toNat := rfl
  unfold vp_in
  rintro (h | h)
  · rw [Int32.lt_iff_toInt_lt] at h; omega
  · rw [h3] at h; omega
theorem zm1 {a l : Int32} (h : vin a.toInt64 0 3 = 0) : zmeth a l = -2 := by
  have h0 : (0 : Int64).toInt = 0 := by decide
  have h3 : (3 : Int64).toInt = 3 := by decide
  have h00 : (0 : Int32).toInt = 0 := by decide
  have h33 : (3 : Int32).toInt = 3 := by decide
  rcases vin_0 h with h | h
  · rw [Int64.lt_iff_toInt_lt, Int32.toInt_toInt64] at h
    unfold zmeth
    rw [if_pos ((z_lt_iff a 0).mpr (by omega))]
  · rw [Int64.lt_iff_toInt_lt, Int32.toInt_toInt64] at h
    unfold zmeth
    rw [if_pos (c := 3 < a) ((z_lt_iff 3 a).mpr (by omega))]
    split <;> rfl
theorem zm2 {a l : Int32} (h : ¬ vin a.toInt64 0 3 = 0) (g : vin l.toInt64 a.toInt64 6 = 0) : zmeth a l = -2 := by
  have h0 : (0 : Int64).toInt = 0 := by decide
  have h3 : (3 : Int64).toInt = 3 := by decide
  have h6 : (6 : Int64).toInt = 6 := by decide
  have h00 : (0 : Int32).toInt = 0 := by decide
  have h33 : (3 : Int32).toInt = 3 := by decide
  have h66 : (6 : Int32).toInt = 6 := by decide
  obtain ⟨h1, h2⟩ := vin_1 h
  rw [Int64.lt_iff_toInt_lt, Int32.toInt_toInt64] at h1 h2
  unfold zmeth
  rw [if_neg (fun q => by have := (z_lt_iff a 0).mp q; omega), if_neg (fun q => by have := (z_lt_iff 3 a).mp q; omega)]
  rcases vin_0 g with g | g
  · rw [Int64.lt_iff_toInt_lt, Int32.toInt_toInt64, Int32.toInt_toInt64] at g
    rw [if_pos ((z_lt_iff l a).mpr (by omega))]
  · rw [Int64.lt_iff_toInt_lt, Int32.toInt_toInt64] at g
    rw [if_neg (c := l ≤ 6) (fun q => by rw [Int32.le_iff_toInt_le] at q; omega)]
    split <;> rfl
theorem zm3 {a l : Int32} (h : ¬ vin a.toInt64 0 3 = 0) (g : ¬ vin l.toInt64 a.toInt64 6 = 0) : zmeth a l = 0 := by
  have h0 : (0 : Int64).toInt = 0 := by decide
  have h3 : (3 : Int64).toInt = 3 := by decide
  have h6 : (6 : Int64).toInt = 6 := by decide
  have h00 : (0 : Int32).toInt = 0 := by decide
  have h33 : (3 : Int32).toInt = 3 := by decide
  have h66 : (6 : Int32).toInt = 6 := by decide
  obtain ⟨h1, h2⟩ := vin_1 h
  obtain ⟨g1, g2⟩ := vin_1 g
  rw [Int64.lt_iff_toInt_lt, Int32.toInt_toInt64] at h1 h2 g2
  rw [Int64.lt_iff_toInt_lt, Int32.toInt_toInt64, Int32.toInt_toInt64] at g1
  unfold zmeth
  rw [if_neg (fun q => by have := (z_lt_iff a 0).mp q; omega), if_neg (fun q => by have := (z_lt_iff 3 a).mp q; omega), if_neg (fun q => by have := (z_lt_iff l a).mp q; omega), if_pos (by rw [Int32.le_iff_toInt_le]; omega)]
end
section
def zw_zc_fill4 : List Cond := .code yJ7_fill_53178 cJ7_fill_53178 4 none :: ([])
set_option maxHeartbeats 4000000 in
set_option maxRecDepth 100000 in
theorem zc_fill4 (l : Launch) (D : va_G) (cI cZ cP cF : Nat) (a0 : Nat) (f : Nat → Int32) (sz : Nat) : Met l yJ7_fill_53178 zw_zc_fill4 ({ frames := 0, cells := 0, slots := 0, locals := 0 }) (va_Pc [.ref a0, .int (-1)] (fun U => U.heap.size = sz ∧ va_P D vwCl [(a0, .inl (cI, 4, .inl f))] U.heap ∧ zE D cI cZ cP cF U ∧ va_D (fun _ => True) [(a0, .inl (cI, 4, .inl f))])) (va_Qv (fun (_ : Unit) => True) (fun (_ : Unit) t => ∃ (g : Nat → Int32), zM4 g ∧ va_P D vwCl [(a0, .inl (cI, 4, .inl g))] t.heap ∧ va_D (va_A [(a0, .inl (cI, 4, .inl f))] sz) [(a0, .inl (cI, 4, .inl g))]) (va_A [(a0, .inl (cI, 4, .inl f))] sz)) 0 0 (va_A [(a0, .inl (cI, 4, .inl f))] sz) := by
  refine Met.ofW (cc := cJ7_fill_53178) (maxL := 4) (ret := none) (by decide) rfl ?_
  intro p e s m args below meth c s₁ B hml hv
  obtain ⟨rfl, hsz, hP, hE, hD0⟩ := hv
  have hx := B.exec
  have hb := B.bytes
  have hr := B.returns
  have hts := atoms_spec (ws := zw_zc_fill4) B.pre
  have hown : s.vm.findClass RJ7 = some m.cls := findClass_of_methodNamed B.named
  have hlocks := B.notSynchronized
  have hK := hE.k
  subst hsz
  have hD := hD0.self (sz := s.heap.size)
  generalize hAe : va_A [(a0, .inl (cI, 4, .inl f))] s.heap.size = A at hD ⊢
  have hA : ∀ q : Nat, s.heap.size ≤ q → A q := fun q h => by rw [← hAe]; exact Or.inr h
  have hS : va_S A s.heap s.heap [] := va_S.rf
  have hP : va_P D vwCl [(a0, .inl (cI, 4, .inl f))] s.heap := hP
  have hl := lv_entry ([.ref a0, .int (-1)]) (n := 4) (Nat.le_of_ble_eq_true rfl)
  rw [lg_entry_eq]
  generalize (lg_sl ([.ref a0, .int (-1)]) ++ List.replicate (4 - (lg_sl ([.ref a0, .int (-1)])).length) Slot.unset).toArray = ls at hl ⊢
  have hl : lv_has ls 4 [(0, .ref a0), (1, .int (-1))] := hl
  refine lv_iconst (v := 0) hx hb dJ7_fill_53178_0 (by decide) ?_
  refine lv_istore_n (lv' := [(2, .int 0), (0, .ref a0), (1, .int (-1))]) hx hb dJ7_fill_53178_1 rfl hl (by decide) rfl (fun ls hl => ?_)
  refine lv_aload_n hx hb dJ7_fill_53178_2 rfl (lv_at hl 1 rfl) ?_
  refine va_alen hx hb hK hP 0 0 rfl rfl (v := 4) rfl dJ7_fill_53178_3 ?_
  refine lv_istore_n (lv' := [(3, .int 4), (2, .int 0), (0, .ref a0), (1, .int (-1))]) hx hb dJ7_fill_53178_4 rfl hl (by decide) rfl (fun ls hl => ?_)
  refine lv_iload_n hx hb dJ7_fill_53178_5 rfl (lv_at hl 1 rfl) ?_
  refine lv_iload_n hx hb dJ7_fill_53178_6 rfl (lv_at hl 0 rfl) ?_
  refine lv_icmp_ge (tgt := 20) hx hb dJ7_fill_53178_7 (by decide) (fun c => absurd c (by decide)) (fun _ => ?_)
  refine lv_aload_n hx hb dJ7_fill_53178_10 rfl (lv_at hl 2 rfl) ?_
  refine lv_iload_n hx hb dJ7_fill_53178_11 rfl (lv_at hl 1 rfl) ?_
  refine lv_iload_n hx hb dJ7_fill_53178_12 rfl (lv_at hl 3 rfl) ?_
  have hin_13 : vp_in 0 4 := by unfold vp_in; decide
  refine va_iast hx hb hK hP hD hS 0 0 rfl rfl hin_13 dJ7_fill_53178_13 (fun H locs hP hD hS => ?_)
  have hP : va_P D vwCl [(a0, .inl (cI, 4, .inl (upd f (0 : Int32).toNatClampNeg (-1))))] H := hP
  have hD : va_D A [(a0, .inl (cI, 4, .inl (upd f (0 : Int32).toNatClampNeg (-1))))] := hD
  refine lv_iinc (v := 1) (lv' := [(2, .int 1), (3, .int 4), (0, .ref a0), (1, .int (-1))]) hx hb dJ7_fill_53178_14 hl (k := 1) rfl (by decide) (by decide) rfl (fun ls hl => ?_)
  refine lv_goto (tgt := 5) hx hb dJ7_fill_53178_17 (by decide) ?_
  refine lv_iload_n hx hb dJ7_fill_53178_5 rfl (lv_at hl 0 rfl) ?_
  refine lv_iload_n hx hb dJ7_fill_53178_6 rfl (lv_at hl 1 rfl) ?_
  refine lv_icmp_ge (tgt := 20) hx hb dJ7_fill_53178_7 (by decide) (fun c => absurd c (by decide)) (fun _ => ?_)
  refine lv_aload_n hx hb dJ7_fill_53178_10 rfl (lv_at hl 2 rfl) ?_
  refine lv_iload_n hx hb dJ7_fill_53178_11 rfl (lv_at hl 0 rfl) ?_
  refine lv_iload_n hx hb dJ7_fill_53178_12 rfl (lv_at hl 3 rfl) ?_
  have hin_13 : vp_in 1 4 := by unfold vp_in; decide
  refine va_iast hx hb hK hP hD hS 0 0 rfl rfl hin_13 dJ7_fill_53178_13 (fun H locs hP hD hS => ?_)
  have hP : va_P D vwCl [(a0, .inl (cI, 4, .inl (upd (upd f (0 : Int32).toNatClampNeg (-1)) (1 : Int32).toNatClampNeg (-1))))] H := hP
  have hD : va_D A [(a0, .inl (cI, 4, .inl (upd (upd f (0 : Int32).toNatClampNeg (-1)) (1 : Int32).toNatClampNeg (-1))))] := hD
  refine lv_iinc (v := 2) (lv' := [(2, .int 2), (3, .int 4), (0, .ref a0), (1, .int (-1))]) hx hb dJ7_fill_53178_14 hl (k := 0) rfl (by decide) (by decide) rfl (fun ls hl => ?_)
  refine lv_goto (tgt := 5) hx hb dJ7_fill_53178_17 (by decide) ?_
  refine lv_iload_n hx hb dJ7_fill_53178_5 rfl (lv_at hl 0 rfl) ?_
  refine lv_iload_n hx hb dJ7_fill_53178_6 rfl (lv_at hl 1 rfl) ?_
  refine lv_icmp_ge (tgt := 20) hx hb dJ7_fill_53178_7 (by decide) (fun c => absurd c (by decide)) (fun _ => ?_)
  refine lv_aload_n hx hb dJ7_fill_53178_10 rfl (lv_at hl 2 rfl) ?_
  refine lv_iload_n hx hb dJ7_fill_53178_11 rfl (lv_at hl 0 rfl) ?_
  refine lv_iload_n hx hb dJ7_fill_53178_12 rfl (lv_at hl 3 rfl) ?_
  have hin_13 : vp_in 2 4 := by unfold vp_in; decide
  refine va_iast hx hb hK hP hD hS 0 0 rfl rfl hin_13 dJ7_fill_53178_13 (fun H locs hP hD hS => ?_)
  have hP : va_P D vwCl [(a0, .inl (cI, 4, .inl (upd (upd (upd f (0 : Int32).toNatClampNeg (-1)) (1 : Int32).toNatClampNeg (-1)) (2 : Int32).toNatClampNeg (-1))))] H := hP
  have hD : va_D A [(a0, .inl (cI, 4, .inl (upd (upd (upd f (0 : Int32).toNatClampNeg (-1)) (1 : Int32).toNatClampNeg (-1)) (2 : Int32).toNatClampNeg (-1))))] := hD
  refine lv_iinc (v := 3) (lv' := [(2, .int 3), (3, .int 4), (0, .ref a0), (1, .int (-1))]) hx hb dJ7_fill_53178_14 hl (k := 0) rfl (by decide) (by decide) rfl (fun ls hl => ?_)
  refine lv_goto (tgt := 5) hx hb dJ7_fill_53178_17 (by decide) ?_
  refine lv_iload_n hx hb dJ7_fill_53178_5 rfl (lv_at hl 0 rfl) ?_
  refine lv_iload_n hx hb dJ7_fill_53178_6 rfl (lv_at hl 1 rfl) ?_
  refine lv_icmp_ge (tgt := 20) hx hb dJ7_fill_53178_7 (by decide) (fun c => absurd c (by decide)) (fun _ => ?_)
  refine lv_aload_n hx hb dJ7_fill_53178_10 rfl (lv_at hl 2 rfl) ?_
  refine lv_iload_n hx hb dJ7_fill_53178_11 rfl (lv_at hl 0 rfl) ?_
  refine lv_iload_n hx hb dJ7_fill_53178_12 rfl (lv_at hl 3 rfl) ?_
  have hin_13 : vp_in 3 4 := by unfold vp_in; decide
  refine va_iast hx hb hK hP hD hS 0 0 rfl rfl hin_13 dJ7_fill_53178_13 (fun H locs hP hD hS => ?_)
  have hP : va_P D vwCl [(a0, .inl (cI, 4, .inl (upd (upd (upd (upd f (0 : Int32).toNatClampNeg (-1)) (1 : Int32).toNatClampNeg (-1)) (2 : Int32).toNatClampNeg (-1)) (3 : Int32).toNatClampNeg (-1))))] H := hP
  have hD : va_D A [(a0, .inl (cI, 4, .inl (upd (upd (upd (upd f (0 : Int32).toNatClampNeg (-1)) (1 : Int32).toNatClampNeg (-1)) (2 : Int32).toNatClampNeg (-1)) (3 : Int32).toNatClampNeg (-1))))] := hD
  refine lv_iinc (v := 4) (lv' := [(2, .int 4), (3, .int 4), (0, .ref a0), (1, .int (-1))]) hx hb dJ7_fill_53178_14 hl (k := 0) rfl (by decide) (by decide) rfl (fun ls hl => ?_)
  refine lv_goto (tgt := 5) hx hb dJ7_fill_53178_17 (by decide) ?_
  refine lv_iload_n hx hb dJ7_fill_53178_5 rfl (lv_at hl 0 rfl) ?_
  refine lv_iload_n hx hb dJ7_fill_53178_6 rfl (lv_at hl 1 rfl) ?_
  refine lv_icmp_ge (tgt := 20) hx hb dJ7_fill_53178_7 (by decide) (fun _ => ?_) (fun c => absurd (by decide) c)
  have hP9 := hP.sub (ws' := [(a0, .inl (cI, 4, .inl (upd (upd (upd (upd f (0 : Int32).toNatClampNeg (-1)) (1 : Int32).toNatClampNeg (-1)) (2 : Int32).toNatClampNeg (-1)) (3 : Int32).toNatClampNeg (-1))))]) [0] rfl
  have hD9 := hD.sub (ws' := [(a0, .inl (cI, 4, .inl (upd (upd (upd (upd f (0 : Int32).toNatClampNeg (-1)) (1 : Int32).toNatClampNeg (-1)) (2 : Int32).toNatClampNeg (-1)) (3 : Int32).toNatClampNeg (-1))))]) [0] (by decide) rfl
  refine W.widen (k := 0) (n := 0) (Nat.le_of_ble_eq_true rfl) (Nat.le_of_ble_eq_true rfl) ?_
  exact W.vret hx hb hr (fun t ht hW => ⟨⟨(), rfl, trivial, (upd (upd (upd (upd f (0 : Int32).toNatClampNeg (-1)) (1 : Int32).toNatClampNeg (-1)) (2 : Int32).toNatClampNeg (-1)) (3 : Int32).toNatClampNeg (-1)), zM4_4 f, by rw [ht]; exact hP9, hD9⟩, hS.F ht⟩) hS.2.2 dJ7_fill_53178_20

def zw_zc_X3_init : List Cond := .code yX3_init cX3_init 1 none :: ([.methodLink RX3 3 objectInit, .instanceMethod objectInit, .code objectInit ⟨#[0xb1]⟩ 1 none, .arrayClass .int, .fieldLink RX3 9 "TemplateForge$Draft" "cells" "[I", .fieldLink RX3 15 "TemplateForge$Draft" "starts" "[I"] ++ wsX30)
set_option maxHeartbeats 4000000 in
set_option maxRecDepth 100000 in
theorem zc_X3_init (l : Launch) (D : va_G) (cI cZ cP cF : Nat) (h0 : Nat) (sz : Nat) : Met l yX3_init zw_zc_X3_init ({ frames := 1, cells := 2, slots := 7615, locals := 12 }) (va_Pc [.ref h0] (fun U => U.heap.size = sz ∧ va_P D vwCl [(h0, .inr (3, [.null, .null, .int 0]))] U.heap ∧ zE D cI cZ cP cF U ∧ va_D (fun _ => True) [(h0, .inr (3, [.null, .null, .int 0]))])) (va_Qv (fun (_ : Unit) => True) (fun (_ : Unit) t => va_P D vwCl [] t.heap ∧ va_D (va_A [(h0, .inr (3, [.null, .null, .int 0]))] sz) []) (va_A [(h0, .inr (3, [.null, .null, .int 0]))] sz)) 2 7615 (va_A [(h0, .inr (3, [.null, .null, .int 0]))] sz) := by
  refine Met.ofW (cc := cX3_init) (maxL := 1) (ret := none) (by decide) rfl ?_
  intro p e s m args below meth c s₁ B hml hv
  obtain ⟨rfl, hsz, hP, hE, hD0⟩ := hv
  have hx := B.exec
  have hb := B.bytes
  have hr := B.returns
  have hts := atoms_spec (ws := zw_zc_X3_init) B.pre
  have hown : s.vm.findClass RX3 = some m.cls := findClass_of_methodNamed B.named
  have hlocks := B.notSynchronized
  have hK := hE.k
  have hin : meth.name = "<init>" := (name_of_methodNamed B.named B.method).1
  subst hsz
  have hD := hD0.self (sz := s.heap.size)
  generalize hAe : va_A [(h0, .inr (3, [.null, .null, .int 0]))] s.heap.size = A at hD ⊢
  have hA : ∀ q : Nat, s.heap.size ≤ q → A q := fun q h => by rw [← hAe]; exact Or.inr h
  have hS : va_S A s.heap s.heap [] := va_S.rf
  have hP : va_P D vwCl [(h0, .inr (3, [.null, .null, .int 0]))] s.heap := hP
  have hl := lv_entry ([.ref h0]) (n := 1) (Nat.le_of_ble_eq_true rfl)
  rw [lg_entry_eq]
  generalize (lg_sl ([.ref h0]) ++ List.replicate (1 - (lg_sl ([.ref h0])).length) Slot.unset).toArray = ls at hl ⊢
  have hl : lv_has ls 1 [(0, .ref h0)] := hl
  refine lv_aload_n hx hb dX3_init_0 rfl (lv_at hl 0 rfl) ?_
  refine W.objInit hx hb hown (hts (.methodLink RX3 3 objectInit) (List.mem_of_getElem? (i := 1) rfl)) (hts (.instanceMethod objectInit) (List.mem_of_getElem? (i := 2) rfl)) (hts (.code objectInit ⟨#[0xb1]⟩ 1 none) (List.mem_of_getElem? (i := 3) rfl)) rfl (by rw [hml]; exact hl.1) rfl dX3_init_1 (Nat.le_of_ble_eq_true rfl) (Nat.le_of_ble_eq_true rfl) ?_
  refine W.eq (g2 := F0 m 4 ls []) rfl ?_
  refine lv_aload_n hx hb dX3_init_4 rfl (lv_at hl 0 rfl) ?_
  refine lv_sipush (v := 7555) hx hb dX3_init_5 (by decide) ?_
  refine z_newI hx hb (hts (.arrayClass .int) (List.mem_of_getElem? (i := 4) rfl)) hK 0 rfl hP hD hS hA (n := 7555) (N' := 7555) (by decide) (by decide) (Nat.le_of_ble_eq_true rfl) (Nat.le_of_ble_eq_true rfl) (Nat.le_of_ble_eq_true rfl) dX3_init_8 (fun q1 H hP hD hS => ?_)
  have hP : va_P D vwCl [(h0, .inr (3, [.null, .null, .int 0])), (q1, .inl (cI, 7555, .inl (fun _ => 0)))] H := hP
  have hD : va_D A [(h0, .inr (3, [.null, .null, .int 0])), (q1, .inl (cI, 7555, .inl (fun _ => 0)))] := hD
  refine va_putF (D := D) (ci := 3) (v := .ref q1) (ty := .array .int) (C := RX3) (T := TX3) (N := 3) hx hb hts (fun _ h => List.mem_cons_of_mem _ (List.mem_append_right _ h)) tyX3 tyX3_ok nmX3 hown hK hP hD hS 0 rfl rfl 0 (by decide) (hts (.fieldLink RX3 9 "TemplateForge$Draft" "cells" "[I") (List.mem_of_getElem? (i := 5) rfl)) (fun _ h9 => h9) rfl hin rfl (by decide +kernel) rfl rfl (Nat.le_of_ble_eq_true rfl) dX3_init_10 (fun H locs hP hD hS => ?_)
  have hP : va_P D vwCl [(h0, .inr (3, [.ref q1, .null, .int 0])), (q1, .inl (cI, 7555, .inl (fun _ => 0)))] H := hP
  have hD : va_D A [(h0, .inr (3, [.ref q1, .null, .int 0])), (q1, .inl (cI, 7555, .inl (fun _ => 0)))] := hD
  refine lv_aload_n hx hb dX3_init_13 rfl (lv_at hl 0 rfl) ?_
  refine lv_bipush (v := 60) hx hb dX3_init_14 (by decide) ?_
  refine z_newI hx hb (hts (.arrayClass .int) (List.mem_of_getElem? (i := 4) rfl)) hK 0 rfl hP hD hS hA (n := 60) (N' := 60) (by decide) (by decide) (Nat.le_of_ble_eq_true rfl) (Nat.le_of_ble_eq_true rfl) (Nat.le_of_ble_eq_true rfl) dX3_init_16 (fun q2 H hP hD hS => ?_)
  have hP : va_P D vwCl [(h0, .inr (3, [.ref q1, .null, .int 0])), (q1, .inl (cI, 7555, .inl (fun _ => 0))), (q2, .inl (cI, 60, .inl (fun _ => 0)))] H := hP
  have hD : va_D A [(h0, .inr (3, [.ref q1, .null, .int 0])), (q1, .inl (cI, 7555, .inl (fun _ => 0))), (q2, .inl (cI, 60, .inl (fun _ => 0)))] := hD
  refine va_putF (D := D) (ci := 3) (v := .ref q2) (ty := .array .int) (C := RX3) (T := TX3) (N := 3) hx hb hts (fun _ h => List.mem_cons_of_mem _ (List.mem_append_right _ h)) tyX3 tyX3_ok nmX3 hown hK hP hD hS 0 rfl rfl 1 (by decide) (hts (.fieldLink RX3 15 "TemplateForge$Draft" "starts" "[I") (List.mem_of_getElem? (i := 6) rfl)) (fun _ h9 => h9) rfl hin rfl (by decide +kernel) rfl rfl (Nat.le_of_ble_eq_true rfl) dX3_init_18 (fun H locs hP hD hS => ?_)
  have hP : va_P D vwCl [(h0, .inr (3, [.ref q1, .ref q2, .int 0])), (q1, .inl (cI, 7555, .inl (fun _ => 0))), (q2, .inl (cI, 60, .inl (fun _ => 0)))] H := hP
  have hD : va_D A [(h0, .inr (3, [.ref q1, .ref q2, .int 0])), (q1, .inl (cI, 7555, .inl (fun _ => 0))), (q2, .inl (cI, 60, .inl (fun _ => 0)))] := hD
  have hP9 := hP.sub (ws' := []) [] rfl
  have hD9 := hD.sub (ws' := []) [] (by decide) rfl
  refine W.widen (k := 2) (n := 7615) (Nat.le_of_ble_eq_true rfl) (Nat.le_of_ble_eq_true rfl) ?_
  exact W.vret hx hb hr (fun t ht hW => ⟨⟨(), rfl, trivial, by rw [ht]; exact hP9, hD9⟩, hS.F ht⟩) hS.2.2 dX3_init_21

def zw_zc_X0_init : List Cond := .code yX0_init cX0_init 1 none :: ([.methodLink RX0 3 objectInit, .instanceMethod objectInit, .code objectInit ⟨#[0xb1]⟩ 1 none, .classLink RX0 9 RX8, .fieldLink RX0 11 "TemplateForge$Book" "programs" "[LTemplateForge$Program;"] ++ wsX00)
set_option maxHeartbeats 4000000 in
set_option maxRecDepth 100000 in
theorem zc_X0_init (l : Launch) (D : va_G) (cI cZ cP cF : Nat) (h0 : Nat) (sz : Nat) : Met l yX0_init zw_zc_X0_init ({ frames := 1, cells := 1, slots := 8, locals := 12 }) (va_Pc [.ref h0] (fun U => U.heap.size = sz ∧ va_P D vwCl [(h0, .inr (0, [.null, .int 0]))] U.heap ∧ zE D cI cZ cP cF U ∧ va_D (fun _ => True) [(h0, .inr (0, [.null, .int 0]))])) (va_Qv (fun (_ : Unit) => True) (fun (_ : Unit) t => ∃ (q1 : Nat), va_P D vwCl [(h0, .inr (0, [.ref q1, .int 0])), (q1, .inl (cP, 8, .inr (.inr (.inr (.inr (fun _ => none))))))] t.heap ∧ va_D (va_A [(h0, .inr (0, [.null, .int 0]))] sz) [(h0, .inr (0, [.ref q1, .int 0])), (q1, .inl (cP, 8, .inr (.inr (.inr (.inr (fun _ => none))))))]) (va_A [(h0, .inr (0, [.null, .int 0]))] sz)) 1 8 (va_A [(h0, .inr (0, [.null, .int 0]))] sz) := by
  refine Met.ofW (cc := cX0_init) (maxL := 1) (ret := none) (by decide) rfl ?_
  intro p e s m args below meth c s₁ B hml hv
  obtain ⟨rfl, hsz, hP, hE, hD0⟩ := hv
  have hx := B.exec
  have hb := B.bytes
  have hr := B.returns
  have hts := atoms_spec (ws := zw_zc_X0_init) B.pre
  have hown : s.vm.findClass RX0 = some m.cls := findClass_of_methodNamed B.named
  have hlocks := B.notSynchronized
  have hK := hE.k
  have hin : meth.name = "<init>" := (name_of_methodNamed B.named B.method).1
  subst hsz
  have hD := hD0.self (sz := s.heap.size)
  generalize hAe : va_A [(h0, .inr (0, [.null, .int 0]))] s.heap.size = A at hD ⊢
  have hA : ∀ q : Nat, s.heap.size ≤ q → A q := fun q h => by rw [← hAe]; exact Or.inr h
  have hS : va_S A s.heap s.heap [] := va_S.rf
  have hP : va_P D vwCl [(h0, .inr (0, [.null, .int 0]))] s.heap := hP
  have hl := lv_entry ([.ref h0]) (n := 1) (Nat.le_of_ble_eq_true rfl)
  rw [lg_entry_eq]
  generalize (lg_sl ([.ref h0]) ++ List.replicate (1 - (lg_sl ([.ref h0])).length) Slot.unset).toArray = ls at hl ⊢
  have hl : lv_has ls 1 [(0, .ref h0)] := hl
  refine lv_aload_n hx hb dX0_init_0 rfl (lv_at hl 0 rfl) ?_
  refine W.objInit hx hb hown (hts (.methodLink RX0 3 objectInit) (List.mem_of_getElem? (i := 1) rfl)) (hts (.instanceMethod objectInit) (List.mem_of_getElem? (i := 2) rfl)) (hts (.code objectInit ⟨#[0xb1]⟩ 1 none) (List.mem_of_getElem? (i := 3) rfl)) rfl (by rw [hml]; exact hl.1) rfl dX0_init_1 (Nat.le_of_ble_eq_true rfl) (Nat.le_of_ble_eq_true rfl) ?_
  refine W.eq (g2 := F0 m 4 ls []) rfl ?_
  refine lv_aload_n hx hb dX0_init_4 rfl (lv_at hl 0 rfl) ?_
  refine lv_bipush (v := 8) hx hb dX0_init_5 (by decide) ?_
  refine z_newQ hx hb hown (hts (.classLink RX0 9 RX8) (List.mem_of_getElem? (i := 4) rfl)) hE.aoP hK 2 rfl hP hD hS hA (n := 8) (N' := 8) (by decide) (by decide) (Nat.le_of_ble_eq_true rfl) (Nat.le_of_ble_eq_true rfl) (Nat.le_of_ble_eq_true rfl) dX0_init_7 (fun q1 H hP hD hS => ?_)
  have hP : va_P D vwCl [(h0, .inr (0, [.null, .int 0])), (q1, .inl (cP, 8, .inr (.inr (.inr (.inr (fun _ => none))))))] H := hP
  have hD : va_D A [(h0, .inr (0, [.null, .int 0])), (q1, .inl (cP, 8, .inr (.inr (.inr (.inr (fun _ => none))))))] := hD
  refine va_putF (D := D) (ci := 0) (v := .ref q1) (ty := .array (.object "TemplateForge$Program")) (C := RX0) (T := TX0) (N := 2) hx hb hts (fun _ h => List.mem_cons_of_mem _ (List.mem_append_right _ h)) tyX0 tyX0_ok nmX0 hown hK hP hD hS 0 rfl rfl 0 (by decide) (hts (.fieldLink RX0 11 "TemplateForge$Book" "programs" "[LTemplateForge$Program;") (List.mem_of_getElem? (i := 5) rfl)) (fun _ h9 => h9) rfl hin rfl (by decide +kernel) rfl rfl (Nat.le_of_ble_eq_true rfl) dX0_init_10 (fun H locs hP hD hS => ?_)
  have hP : va_P D vwCl [(h0, .inr (0, [.ref q1, .int 0])), (q1, .inl (cP, 8, .inr (.inr (.inr (.inr (fun _ => none))))))] H := hP
  have hD : va_D A [(h0, .inr (0, [.ref q1, .int 0])), (q1, .inl (cP, 8, .inr (.inr (.inr (.inr (fun _ => none))))))] := hD
  have hP9 := hP.sub (ws' := [(h0, .inr (0, [.ref q1, .int 0])), (q1, .inl (cP, 8, .inr (.inr (.inr (.inr (fun _ => none))))))]) [0, 1] rfl
  have hD9 := hD.sub (ws' := [(h0, .inr (0, [.ref q1, .int 0])), (q1, .inl (cP, 8, .inr (.inr (.inr (.inr (fun _ => none))))))]) [0, 1] (by decide) rfl
  refine W.widen (k := 1) (n := 8) (Nat.le_of_ble_eq_true rfl) (Nat.le_of_ble_eq_true rfl) ?_
  exact W.vret hx hb hr (fun t ht hW => ⟨⟨(), rfl, trivial, q1, by rw [ht]; exact hP9, hD9⟩, hS.F ht⟩) hS.2.2 dX0_init_13

def zw_zc_X2_init : List Cond := .code yX2_init cX2_init 1 none :: ([.methodLink RX2 3 objectInit, .instanceMethod objectInit, .code objectInit ⟨#[0xb1]⟩ 1 none, .arrayClass .int, .fieldLink RX2 9 "TemplateForge$Data" "fields" "[I", .fieldLink RX2 15 "TemplateForge$Data" "lengths" "[I", .fieldLink RX2 18 "TemplateForge$Data" "items" "[I", .code yJ7_fill_53178 cJ7_fill_53178 4 none, .methodLink RX2 21 yJ7_fill_53178, .static yJ7_fill_53178, .initialized RJ7] ++ wsX20)
set_option maxRecDepth 100000 in
theorem zg_zc_X2_init_zc_fill4 : GoodIn zw_zc_X2_init (va_wsS RX2 21 yJ7_fill_53178 zw_zc_fill4) := goodIn_r _ [9, 10, 11, 8] (by decide +kernel) (by decide +kernel)
set_option maxHeartbeats 4000000 in
set_option maxRecDepth 100000 in
theorem zc_X2_init (l : Launch) (D : va_G) (cI cZ cP cF : Nat) (h0 : Nat) (sz : Nat) : Met l yX2_init zw_zc_X2_init ({ frames := 1, cells := 3, slots := 92, locals := 23 }) (va_Pc [.ref h0] (fun U => U.heap.size = sz ∧ va_P D vwCl [(h0, .inr (2, [.null, .null, .null]))] U.heap ∧ zE D cI cZ cP cF U ∧ va_D (fun _ => True) [(h0, .inr (2, [.null, .null, .null]))])) (va_Qv (fun (_ : Unit) => True) (fun (_ : Unit) t => ∃ (q1 : Nat), ∃ (q2 : Nat), ∃ (q3 : Nat), ∃ (g : Nat → Int32), zM4 g ∧ va_P D vwCl [(h0, .inr (2, [.ref q1, .ref q2, .ref q3])), (q1, .inl (cI, 8, .inl (fun _ => 0))), (q2, .inl (cI, 4, .inl g)), (q3, .inl (cI, 80, .inl (fun _ => 0)))] t.heap ∧ va_D (va_A [(h0, .inr (2, [.null, .null, .null]))] sz) [(h0, .inr (2, [.ref q1, .ref q2, .ref q3])), (q1, .inl (cI, 8, .inl (fun _ => 0))), (q2, .inl (cI, 4, .inl g)), (q3, .inl (cI, 80, .inl (fun _ => 0)))]) (va_A [(h0, .inr (2, [.null, .null, .null]))] sz)) 3 92 (va_A [(h0, .inr (2, [.null, .null, .null]))] sz) := by
  refine Met.ofW (cc := cX2_init) (maxL := 1) (ret := none) (by decide) rfl ?_
  intro p e s m args below meth c s₁ B hml hv
  obtain ⟨rfl, hsz, hP, hE, hD0⟩ := hv
  have hx := B.exec
  have hb := B.bytes
  have hr := B.returns
  have hts := atoms_spec (ws := zw_zc_X2_init) B.pre
  have hown : s.vm.findClass RX2 = some m.cls := findClass_of_methodNamed B.named
  have hlocks := B.notSynchronized
  have hK := hE.k
  have hin : meth.name = "<init>" := (name_of_methodNamed B.named B.method).1
  subst hsz
  have hD := hD0.self (sz := s.heap.size)
  generalize hAe : va_A [(h0, .inr (2, [.null, .null, .null]))] s.heap.size = A at hD ⊢
  have hA : ∀ q : Nat, s.heap.size ≤ q → A q := fun q h => by rw [← hAe]; exact Or.inr h
  have hS : va_S A s.heap s.heap [] := va_S.rf
  have hP : va_P D vwCl [(h0, .inr (2, [.null, .null, .null]))] s.heap := hP
  have hl := lv_entry ([.ref h0]) (n := 1) (Nat.le_of_ble_eq_true rfl)
  rw [lg_entry_eq]
  generalize (lg_sl ([.ref h0]) ++ List.replicate (1 - (lg_sl ([.ref h0])).length) Slot.unset).toArray = ls at hl ⊢
  have hl : lv_has ls 1 [(0, .ref h0)] := hl
  refine lv_aload_n hx hb dX2_init_0 rfl (lv_at hl 0 rfl) ?_
  refine W.objInit hx hb hown (hts (.methodLink RX2 3 objectInit) (List.mem_of_getElem? (i := 1) rfl)) (hts (.instanceMethod objectInit) (List.mem_of_getElem? (i := 2) rfl)) (hts (.code objectInit ⟨#[0xb1]⟩ 1 none) (List.mem_of_getElem? (i := 3) rfl)) rfl (by rw [hml]; exact hl.1) rfl dX2_init_1 (Nat.le_of_ble_eq_true rfl) (Nat.le_of_ble_eq_true rfl) ?_
  refine W.eq (g2 := F0 m 4 ls []) rfl ?_
  refine lv_aload_n hx hb dX2_init_4 rfl (lv_at hl 0 rfl) ?_
  refine lv_bipush (v := 8) hx hb dX2_init_5 (by decide) ?_
  refine z_newI hx hb (hts (.arrayClass .int) (List.mem_of_getElem? (i := 4) rfl)) hK 0 rfl hP hD hS hA (n := 8) (N' := 8) (by decide) (by decide) (Nat.le_of_ble_eq_true rfl) (Nat.le_of_ble_eq_true rfl) (Nat.le_of_ble_eq_true rfl) dX2_init_7 (fun q1 H hP hD hS => ?_)
  have hP : va_P D vwCl [(h0, .inr (2, [.null, .null, .null])), (q1, .inl (cI, 8, .inl (fun _ => 0)))] H := hP
  have hD : va_D A [(h0, .inr (2, [.null, .null, .null])), (q1, .inl (cI, 8, .inl (fun _ => 0)))] := hD
  refine va_putF (D := D) (ci := 2) (v := .ref q1) (ty := .array .int) (C := RX2) (T := TX2) (N := 3) hx hb hts (fun _ h => List.mem_cons_of_mem _ (List.mem_append_right _ h)) tyX2 tyX2_ok nmX2 hown hK hP hD hS 0 rfl rfl 0 (by decide) (hts (.fieldLink RX2 9 "TemplateForge$Data" "fields" "[I") (List.mem_of_getElem? (i := 5) rfl)) (fun _ h9 => h9) rfl hin rfl (by decide +kernel) rfl rfl (Nat.le_of_ble_eq_true rfl) dX2_init_9 (fun H locs hP hD hS => ?_)
  have hP : va_P D vwCl [(h0, .inr (2, [.ref q1, .null, .null])), (q1, .inl (cI, 8, .inl (fun _ => 0)))] H := hP
  have hD : va_D A [(h0, .inr (2, [.ref q1, .null, .null])), (q1, .inl (cI, 8, .inl (fun _ => 0)))] := hD
  refine lv_aload_n hx hb dX2_init_12 rfl (lv_at hl 0 rfl) ?_
  refine lv_iconst (v := 4) hx hb dX2_init_13 (by decide) ?_
  refine z_newI hx hb (hts (.arrayClass .int) (List.mem_of_getElem? (i := 4) rfl)) hK 0 rfl hP hD hS hA (n := 4) (N' := 4) (by decide) (by decide) (Nat.le_of_ble_eq_true rfl) (Nat.le_of_ble_eq_true rfl) (Nat.le_of_ble_eq_true rfl) dX2_init_14 (fun q2 H hP hD hS => ?_)
  have hP : va_P D vwCl [(h0, .inr (2, [.ref q1, .null, .null])), (q1, .inl (cI, 8, .inl (fun _ => 0))), (q2, .inl (cI, 4, .inl (fun _ => 0)))] H := hP
  have hD : va_D A [(h0, .inr (2, [.ref q1, .null, .null])), (q1, .inl (cI, 8, .inl (fun _ => 0))), (q2, .inl (cI, 4, .inl (fun _ => 0)))] := hD
  refine va_putF (D := D) (ci := 2) (v := .ref q2) (ty := .array .int) (C := RX2) (T := TX2) (N := 3) hx hb hts (fun _ h => List.mem_cons_of_mem _ (List.mem_append_right _ h)) tyX2 tyX2_ok nmX2 hown hK hP hD hS 0 rfl rfl 1 (by decide) (hts (.fieldLink RX2 15 "TemplateForge$Data" "lengths" "[I") (List.mem_of_getElem? (i := 6) rfl)) (fun _ h9 => h9) rfl hin rfl (by decide +kernel) rfl rfl (Nat.le_of_ble_eq_true rfl) dX2_init_16 (fun H locs hP hD hS => ?_)
  have hP : va_P D vwCl [(h0, .inr (2, [.ref q1, .ref q2, .null])), (q1, .inl (cI, 8, .inl (fun _ => 0))), (q2, .inl (cI, 4, .inl (fun _ => 0)))] H := hP
  have hD : va_D A [(h0, .inr (2, [.ref q1, .ref q2, .null])), (q1, .inl (cI, 8, .inl (fun _ => 0))), (q2, .inl (cI, 4, .inl (fun _ => 0)))] := hD
  refine lv_aload_n hx hb dX2_init_19 rfl (lv_at hl 0 rfl) ?_
  refine lv_bipush (v := 80) hx hb dX2_init_20 (by decide) ?_
  refine z_newI hx hb (hts (.arrayClass .int) (List.mem_of_getElem? (i := 4) rfl)) hK 0 rfl hP hD hS hA (n := 80) (N' := 80) (by decide) (by decide) (Nat.le_of_ble_eq_true rfl) (Nat.le_of_ble_eq_true rfl) (Nat.le_of_ble_eq_true rfl) dX2_init_22 (fun q3 H hP hD hS => ?_)
  have hP : va_P D vwCl [(h0, .inr (2, [.ref q1, .ref q2, .null])), (q1, .inl (cI, 8, .inl (fun _ => 0))), (q2, .inl (cI, 4, .inl (fun _ => 0))), (q3, .inl (cI, 80, .inl (fun _ => 0)))] H := hP
  have hD : va_D A [(h0, .inr (2, [.ref q1, .ref q2, .null])), (q1, .inl (cI, 8, .inl (fun _ => 0))), (q2, .inl (cI, 4, .inl (fun _ => 0))), (q3, .inl (cI, 80, .inl (fun _ => 0)))] := hD
  refine va_putF (D := D) (ci := 2) (v := .ref q3) (ty := .array .int) (C := RX2) (T := TX2) (N := 3) hx hb hts (fun _ h => List.mem_cons_of_mem _ (List.mem_append_right _ h)) tyX2 tyX2_ok nmX2 hown hK hP hD hS 0 rfl rfl 2 (by decide) (hts (.fieldLink RX2 18 "TemplateForge$Data" "items" "[I") (List.mem_of_getElem? (i := 7) rfl)) (fun _ h9 => h9) rfl hin rfl (by decide +kernel) rfl rfl (Nat.le_of_ble_eq_true rfl) dX2_init_24 (fun H locs hP hD hS => ?_)
  have hP : va_P D vwCl [(h0, .inr (2, [.ref q1, .ref q2, .ref q3])), (q1, .inl (cI, 8, .inl (fun _ => 0))), (q2, .inl (cI, 4, .inl (fun _ => 0))), (q3, .inl (cI, 80, .inl (fun _ => 0)))] H := hP
  have hD : va_D A [(h0, .inr (2, [.ref q1, .ref q2, .ref q3])), (q1, .inl (cI, 8, .inl (fun _ => 0))), (q2, .inl (cI, 4, .inl (fun _ => 0))), (q3, .inl (cI, 80, .inl (fun _ => 0)))] := hD
  refine lv_aload_n hx hb dX2_init_27 rfl (lv_at hl 0 rfl) ?_
  refine va_get (D := D) (ci := 2) (v := .ref q2) (C := RX2) (T := TX2) (N := 3) hx hb hts (fun _ h => List.mem_cons_of_mem _ (List.mem_append_right _ h)) hown hK hP 0 rfl rfl 1 (by decide) (hts (.fieldLink RX2 15 "TemplateForge$Data" "lengths" "[I") (List.mem_of_getElem? (i := 6) rfl)) (fun _ h9 => h9) rfl dX2_init_28 ?_
  refine lv_iconst (v := (-1)) hx hb dX2_init_31 (by decide) ?_
  have hPc := hP.sub (ws' := [(q2, .inl (cI, 4, .inl (fun _ => 0)))]) [2] rfl
  have hDc := hD.sub (ws' := [(q2, .inl (cI, 4, .inl (fun _ => 0)))]) [2] (by decide) rfl
  have hFc := va_free (wc := [(q2, .inl (cI, 4, .inl (fun _ => 0)))]) hD hS hA [2] rfl
  refine va_callv (va_runS (As := [.ref q2, .int (-1)]) (rest := []) ⟨hx, hb, hml, hown, hts⟩ (zc_fill4 l D cI cZ cP cF q2 (fun _ => 0) H.size) (va_cwS 2 hts zg_zc_X2_init_zc_fill4 rfl rfl rfl (by decide +kernel) ⟨Nat.le_of_ble_eq_true rfl, Nat.le_of_ble_eq_true rfl⟩) ⟨zBW, fun U hU hW => ⟨rfl, by rw [hU], by rw [hU]; exact hPc, hE.warm hW, hDc.weaken (fun _ _ _ _ => trivial)⟩⟩ rfl rfl hl.1 rfl (lv_room (Nat.le_of_ble_eq_true rfl)) dX2_init_32 ⟨Nat.le_of_ble_eq_true rfl, Nat.le_of_ble_eq_true rfl⟩) hS (fun q _ h => hFc q h) hFc (fun u t H1 locs ht hvm h_32_4 hB hz1 hk1 hS => ?_)
  obtain ⟨q5, hM_6, hP1, hD1⟩ := hB
  rw [ht] at hP1
  obtain ⟨hP, hD⟩ := va_join (wr := [(h0, .inr (2, [.ref q1, .ref q2, .ref q3])), (q1, .inl (cI, 8, .inl (fun _ => 0))), (q3, .inl (cI, 80, .inl (fun _ => 0)))]) (w1 := [(q2, .inl (cI, 4, .inl q5))]) hP hD [2] [0, 1, 3] rfl rfl (by decide) (by decide) hk1 hFc hP1 hD1
  generalize H1 = H at hP hS ⊢
  have hP : va_P D vwCl [(h0, .inr (2, [.ref q1, .ref q2, .ref q3])), (q1, .inl (cI, 8, .inl (fun _ => 0))), (q3, .inl (cI, 80, .inl (fun _ => 0))), (q2, .inl (cI, 4, .inl q5))] H := hP
  have hD : va_D A [(h0, .inr (2, [.ref q1, .ref q2, .ref q3])), (q1, .inl (cI, 8, .inl (fun _ => 0))), (q3, .inl (cI, 80, .inl (fun _ => 0))), (q2, .inl (cI, 4, .inl q5))] := hD
  have hP9 := hP.sub (ws' := [(h0, .inr (2, [.ref q1, .ref q2, .ref q3])), (q1, .inl (cI, 8, .inl (fun _ => 0))), (q2, .inl (cI, 4, .inl q5)), (q3, .inl (cI, 80, .inl (fun _ => 0)))]) [0, 1, 3, 2] rfl
  have hD9 := hD.sub (ws' := [(h0, .inr (2, [.ref q1, .ref q2, .ref q3])), (q1, .inl (cI, 8, .inl (fun _ => 0))), (q2, .inl (cI, 4, .inl q5)), (q3, .inl (cI, 80, .inl (fun _ => 0)))]) [0, 1, 3, 2] (by decide) rfl
  refine W.widen (k := 3) (n := 92) (Nat.le_of_ble_eq_true rfl) (Nat.le_of_ble_eq_true rfl) ?_
  exact W.vret hx hb hr (fun t ht hW => ⟨⟨(), rfl, trivial, q1, q2, q3, q5, hM_6, by rw [ht]; exact hP9, hD9⟩, hS.F ht⟩) hS.2.2 dX2_init_35

def zw_zc_X4_init : List Cond := .code yX4_init cX4_init 1 none :: ([.methodLink RX4 3 objectInit, .instanceMethod objectInit, .code objectInit ⟨#[0xb1]⟩ 1 none, .arrayClass .int, .fieldLink RX4 9 "TemplateForge$Frame" "registers" "[I"] ++ wsX40)
set_option maxHeartbeats 4000000 in
set_option maxRecDepth 100000 in
theorem zc_X4_init (l : Launch) (D : va_G) (cI cZ cP cF : Nat) (h0 : Nat) (sz : Nat) : Met l yX4_init zw_zc_X4_init ({ frames := 1, cells := 1, slots := 15, locals := 12 }) (va_Pc [.ref h0] (fun U => U.heap.size = sz ∧ va_P D vwCl [(h0, .inr (4, [.null, .null, .int 0, .int 0, .null]))] U.heap ∧ zE D cI cZ cP cF U ∧ va_D (fun _ => True) [(h0, .inr (4, [.null, .null, .int 0, .int 0, .null]))])) (va_Qv (fun (_ : Unit) => True) (fun (_ : Unit) t => ∃ (q1 : Nat), va_P D vwCl [(h0, .inr (4, [.null, .null, .int 0, .int 0, .ref q1]))] t.heap ∧ va_D (va_A [(h0, .inr (4, [.null, .null, .int 0, .int 0, .null]))] sz) [(h0, .inr (4, [.null, .null, .int 0, .int 0, .ref q1]))]) (va_A [(h0, .inr (4, [.null, .null, .int 0, .int 0, .null]))] sz)) 1 15 (va_A [(h0, .inr (4, [.null, .null, .int 0, .int 0, .null]))] sz) := by
  refine Met.ofW (cc := cX4_init) (maxL := 1) (ret := none) (by decide) rfl ?_
  intro p e s m args below meth c s₁ B hml hv
  obtain ⟨rfl, hsz, hP, hE, hD0⟩ := hv
  have hx := B.exec
  have hb := B.bytes
  have hr := B.returns
  have hts := atoms_spec (ws := zw_zc_X4_init) B.pre
  have hown : s.vm.findClass RX4 = some m.cls := findClass_of_methodNamed B.named
  have hlocks := B.notSynchronized
  have hK := hE.k
  have hin : meth.name = "<init>" := (name_of_methodNamed B.named B.method).1
  subst hsz
  have hD := hD0.self (sz := s.heap.size)
  generalize hAe : va_A [(h0, .inr (4, [.null, .null, .int 0, .int 0, .null]))] s.heap.size = A at hD ⊢
  have hA : ∀ q : Nat, s.heap.size ≤ q → A q := fun q h => by rw [← hAe]; exact Or.inr h
  have hS : va_S A s.heap s.heap [] := va_S.rf
  have hP : va_P D vwCl [(h0, .inr (4, [.null, .null, .int 0, .int 0, .null]))] s.heap := hP
  have hl := lv_entry ([.ref h0]) (n := 1) (Nat.le_of_ble_eq_true rfl)
  rw [lg_entry_eq]
  generalize (lg_sl ([.ref h0]) ++ List.replicate (1 - (lg_sl ([.ref h0])).length) Slot.unset).toArray = ls at hl ⊢
  have hl : lv_has ls 1 [(0, .ref h0)] := hl
  refine lv_aload_n hx hb dX4_init_0 rfl (lv_at hl 0 rfl) ?_
  refine W.objInit hx hb hown (hts (.methodLink RX4 3 objectInit) (List.mem_of_getElem? (i := 1) rfl)) (hts (.instanceMethod objectInit) (List.mem_of_getElem? (i := 2) rfl)) (hts (.code objectInit ⟨#[0xb1]⟩ 1 none) (List.mem_of_getElem? (i := 3) rfl)) rfl (by rw [hml]; exact hl.1) rfl dX4_init_1 (Nat.le_of_ble_eq_true rfl) (Nat.le_of_ble_eq_true rfl) ?_
  refine W.eq (g2 := F0 m 4 ls []) rfl ?_
  refine lv_aload_n hx hb dX4_init_4 rfl (lv_at hl 0 rfl) ?_
  refine lv_bipush (v := 15) hx hb dX4_init_5 (by decide) ?_
  refine z_newI hx hb (hts (.arrayClass .int) (List.mem_of_getElem? (i := 4) rfl)) hK 0 rfl hP hD hS hA (n := 15) (N' := 15) (by decide) (by decide) (Nat.le_of_ble_eq_true rfl) (Nat.le_of_ble_eq_true rfl) (Nat.le_of_ble_eq_true rfl) dX4_init_7 (fun q1 H hP hD hS => ?_)
  have hP : va_P D vwCl [(h0, .inr (4, [.null, .null, .int 0, .int 0, .null])), (q1, .inl (cI, 15, .inl (fun _ => 0)))] H := hP
  have hD : va_D A [(h0, .inr (4, [.null, .null, .int 0, .int 0, .null])), (q1, .inl (cI, 15, .inl (fun _ => 0)))] := hD
  refine va_putF (D := D) (ci := 4) (v := .ref q1) (ty := .array .int) (C := RX4) (T := TX4) (N := 5) hx hb hts (fun _ h => List.mem_cons_of_mem _ (List.mem_append_right _ h)) tyX4 tyX4_ok nmX4 hown hK hP hD hS 0 rfl rfl 4 (by decide) (hts (.fieldLink RX4 9 "TemplateForge$Frame" "registers" "[I") (List.mem_of_getElem? (i := 5) rfl)) (fun _ h9 => h9) rfl hin rfl (by decide +kernel) rfl rfl (Nat.le_of_ble_eq_true rfl) dX4_init_9 (fun H locs hP hD hS => ?_)
  have hP : va_P D vwCl [(h0, .inr (4, [.null, .null, .int 0, .int 0, .ref q1])), (q1, .inl (cI, 15, .inl (fun _ => 0)))] H := hP
  have hD : va_D A [(h0, .inr (4, [.null, .null, .int 0, .int 0, .ref q1])), (q1, .inl (cI, 15, .inl (fun _ => 0)))] := hD
  have hP9 := hP.sub (ws' := [(h0, .inr (4, [.null, .null, .int 0, .int 0, .ref q1]))]) [0] rfl
  have hD9 := hD.sub (ws' := [(h0, .inr (4, [.null, .null, .int 0, .int 0, .ref q1]))]) [0] (by decide) rfl
  refine W.widen (k := 1) (n := 15) (Nat.le_of_ble_eq_true rfl) (Nat.le_of_ble_eq_true rfl) ?_
  exact W.vret hx hb hr (fun t ht hW => ⟨⟨(), rfl, trivial, q1, by rw [ht]; exact hP9, hD9⟩, hS.F ht⟩) hS.2.2 dX4_init_12

def zw_zc_X5_init : List Cond := .code yX5_init cX5_init 1 none :: ([.methodLink RX5 3 objectInit, .instanceMethod objectInit, .code objectInit ⟨#[0xb1]⟩ 1 none, .arrayClass .int, .fieldLink RX5 9 "TemplateForge$Heat" "first" "[I", .arrayClass .boolean, .fieldLink RX5 15 "TemplateForge$Heat" "same" "[Z", .fieldLink RX5 19 "TemplateForge$Heat" "varying" "[Z"] ++ wsX50)
set_option maxHeartbeats 4000000 in
set_option maxRecDepth 100000 in
theorem zc_X5_init (l : Launch) (D : va_G) (cI cZ cP cF : Nat) (h0 : Nat) (sz : Nat) : Met l yX5_init zw_zc_X5_init ({ frames := 1, cells := 3, slots := 33, locals := 12 }) (va_Pc [.ref h0] (fun U => U.heap.size = sz ∧ va_P D vwCl [(h0, .inr (5, [.int 0, .null, .int 0, .int 0, .int 0, .int 0, .null, .null, .null]))] U.heap ∧ zE D cI cZ cP cF U ∧ va_D (fun _ => True) [(h0, .inr (5, [.int 0, .null, .int 0, .int 0, .int 0, .int 0, .null, .null, .null]))])) (va_Qv (fun (_ : Unit) => True) (fun (_ : Unit) t => va_P D vwCl [] t.heap ∧ va_D (va_A [(h0, .inr (5, [.int 0, .null, .int 0, .int 0, .int 0, .int 0, .null, .null, .null]))] sz) []) (va_A [(h0, .inr (5, [.int 0, .null, .int 0, .int 0, .int 0, .int 0, .null, .null, .null]))] sz)) 3 33 (va_A [(h0, .inr (5, [.int 0, .null, .int 0, .int 0, .int 0, .int 0, .null, .null, .null]))] sz) := by
  refine Met.ofW (cc := cX5_init) (maxL := 1) (ret := none) (by decide) rfl ?_
  intro p e s m args below meth c s₁ B hml hv
  obtain ⟨rfl, hsz, hP, hE, hD0⟩ := hv
  have hx := B.exec
  have hb := B.bytes
  have hr := B.returns
  have hts := atoms_spec (ws := zw_zc_X5_init) B.pre
  have hown : s.vm.findClass RX5 = some m.cls := findClass_of_methodNamed B.named
  have hlocks := B.notSynchronized
  have hK := hE.k
  have hin : meth.name = "<init>" := (name_of_methodNamed B.named B.method).1
  subst hsz
  have hD := hD0.self (sz := s.heap.size)
  generalize hAe : va_A [(h0, .inr (5, [.int 0, .null, .int 0, .int 0, .int 0, .int 0, .null, .null, .null]))] s.heap.size = A at hD ⊢
  have hA : ∀ q : Nat, s.heap.size ≤ q → A q := fun q h => by rw [← hAe]; exact Or.inr h
  have hS : va_S A s.heap s.heap [] := va_S.rf
  have hP : va_P D vwCl [(h0, .inr (5, [.int 0, .null, .int 0, .int 0, .int 0, .int 0, .null, .null, .null]))] s.heap := hP
  have hl := lv_entry ([.ref h0]) (n := 1) (Nat.le_of_ble_eq_true rfl)
  rw [lg_entry_eq]
  generalize (lg_sl ([.ref h0]) ++ List.replicate (1 - (lg_sl ([.ref h0])).length) Slot.unset).toArray = ls at hl ⊢
  have hl : lv_has ls 1 [(0, .ref h0)] := hl
  refine lv_aload_n hx hb dX5_init_0 rfl (lv_at hl 0 rfl) ?_
  refine W.objInit hx hb hown (hts (.methodLink RX5 3 objectInit) (List.mem_of_getElem? (i := 1) rfl)) (hts (.instanceMethod objectInit) (List.mem_of_getElem? (i := 2) rfl)) (hts (.code objectInit ⟨#[0xb1]⟩ 1 none) (List.mem_of_getElem? (i := 3) rfl)) rfl (by rw [hml]; exact hl.1) rfl dX5_init_1 (Nat.le_of_ble_eq_true rfl) (Nat.le_of_ble_eq_true rfl) ?_
  refine W.eq (g2 := F0 m 4 ls []) rfl ?_
  refine lv_aload_n hx hb dX5_init_4 rfl (lv_at hl 0 rfl) ?_
  refine lv_bipush (v := 11) hx hb dX5_init_5 (by decide) ?_
  refine z_newI hx hb (hts (.arrayClass .int) (List.mem_of_getElem? (i := 4) rfl)) hK 0 rfl hP hD hS hA (n := 11) (N' := 11) (by decide) (by decide) (Nat.le_of_ble_eq_true rfl) (Nat.le_of_ble_eq_true rfl) (Nat.le_of_ble_eq_true rfl) dX5_init_7 (fun q1 H hP hD hS => ?_)
  have hP : va_P D vwCl [(h0, .inr (5, [.int 0, .null, .int 0, .int 0, .int 0, .int 0, .null, .null, .null])), (q1, .inl (cI, 11, .inl (fun _ => 0)))] H := hP
  have hD : va_D A [(h0, .inr (5, [.int 0, .null, .int 0, .int 0, .int 0, .int 0, .null, .null, .null])), (q1, .inl (cI, 11, .inl (fun _ => 0)))] := hD
  refine va_putF (D := D) (ci := 5) (v := .ref q1) (ty := .array .int) (C := RX5) (T := TX5) (N := 9) hx hb hts (fun _ h => List.mem_cons_of_mem _ (List.mem_append_right _ h)) tyX5 tyX5_ok nmX5 hown hK hP hD hS 0 rfl rfl 6 (by decide) (hts (.fieldLink RX5 9 "TemplateForge$Heat" "first" "[I") (List.mem_of_getElem? (i := 5) rfl)) (fun _ h9 => h9) rfl hin rfl (by decide +kernel) rfl rfl (Nat.le_of_ble_eq_true rfl) dX5_init_9 (fun H locs hP hD hS => ?_)
  have hP : va_P D vwCl [(h0, .inr (5, [.int 0, .null, .int 0, .int 0, .int 0, .int 0, .ref q1, .null, .null])), (q1, .inl (cI, 11, .inl (fun _ => 0)))] H := hP
  have hD : va_D A [(h0, .inr (5, [.int 0, .null, .int 0, .int 0, .int 0, .int 0, .ref q1, .null, .null])), (q1, .inl (cI, 11, .inl (fun _ => 0)))] := hD
  refine lv_aload_n hx hb dX5_init_12 rfl (lv_at hl 0 rfl) ?_
  refine lv_bipush (v := 11) hx hb dX5_init_13 (by decide) ?_
  refine z_newZ hx hb (hts (.arrayClass .boolean) (List.mem_of_getElem? (i := 6) rfl)) hK 1 rfl hP hD hS hA (n := 11) (N' := 11) (by decide) (by decide) (Nat.le_of_ble_eq_true rfl) (Nat.le_of_ble_eq_true rfl) (Nat.le_of_ble_eq_true rfl) dX5_init_15 (fun q2 H hP hD hS => ?_)
  have hP : va_P D vwCl [(h0, .inr (5, [.int 0, .null, .int 0, .int 0, .int 0, .int 0, .ref q1, .null, .null])), (q1, .inl (cI, 11, .inl (fun _ => 0))), (q2, .inl (cZ, 11, .inl (fun _ => 0)))] H := hP
  have hD : va_D A [(h0, .inr (5, [.int 0, .null, .int 0, .int 0, .int 0, .int 0, .ref q1, .null, .null])), (q1, .inl (cI, 11, .inl (fun _ => 0))), (q2, .inl (cZ, 11, .inl (fun _ => 0)))] := hD
  refine va_putF (D := D) (ci := 5) (v := .ref q2) (ty := .array .boolean) (C := RX5) (T := TX5) (N := 9) hx hb hts (fun _ h => List.mem_cons_of_mem _ (List.mem_append_right _ h)) tyX5 tyX5_ok nmX5 hown hK hP hD hS 0 rfl rfl 7 (by decide) (hts (.fieldLink RX5 15 "TemplateForge$Heat" "same" "[Z") (List.mem_of_getElem? (i := 7) rfl)) (fun _ h9 => h9) rfl hin rfl (by decide +kernel) rfl rfl (Nat.le_of_ble_eq_true rfl) dX5_init_17 (fun H locs hP hD hS => ?_)
  have hP : va_P D vwCl [(h0, .inr (5, [.int 0, .null, .int 0, .int 0, .int 0, .int 0, .ref q1, .ref q2, .null])), (q1, .inl (cI, 11, .inl (fun _ => 0))), (q2, .inl (cZ, 11, .inl (fun _ => 0)))] H := hP
  have hD : va_D A [(h0, .inr (5, [.int 0, .null, .int 0, .int 0, .int 0, .int 0, .ref q1, .ref q2, .null])), (q1, .inl (cI, 11, .inl (fun _ => 0))), (q2, .inl (cZ, 11, .inl (fun _ => 0)))] := hD
  refine lv_aload_n hx hb dX5_init_20 rfl (lv_at hl 0 rfl) ?_
  refine lv_bipush (v := 11) hx hb dX5_init_21 (by decide) ?_
  refine z_newZ hx hb (hts (.arrayClass .boolean) (List.mem_of_getElem? (i := 6) rfl)) hK 1 rfl hP hD hS hA (n := 11) (N' := 11) (by decide) (by decide) (Nat.le_of_ble_eq_true rfl) (Nat.le_of_ble_eq_true rfl) (Nat.le_of_ble_eq_true rfl) dX5_init_23 (fun q3 H hP hD hS => ?_)
  have hP : va_P D vwCl [(h0, .inr (5, [.int 0, .null, .int 0, .int 0, .int 0, .int 0, .ref q1, .ref q2, .null])), (q1, .inl (cI, 11, .inl (fun _ => 0))), (q2, .inl (cZ, 11, .inl (fun _ => 0))), (q3, .inl (cZ, 11, .inl (fun _ => 0)))] H := hP
  have hD : va_D A [(h0, .inr (5, [.int 0, .null, .int 0, .int 0, .int 0, .int 0, .ref q1, .ref q2, .null])), (q1, .inl (cI, 11, .inl (fun _ => 0))), (q2, .inl (cZ, 11, .inl (fun _ => 0))), (q3, .inl (cZ, 11, .inl (fun _ => 0)))] := hD
  refine va_putF (D := D) (ci := 5) (v := .ref q3) (ty := .array .boolean) (C := RX5) (T := TX5) (N := 9) hx hb hts (fun _ h => List.mem_cons_of_mem _ (List.mem_append_right _ h)) tyX5 tyX5_ok nmX5 hown hK hP hD hS 0 rfl rfl 8 (by decide) (hts (.fieldLink RX5 19 "TemplateForge$Heat" "varying" "[Z") (List.mem_of_getElem? (i := 8) rfl)) (fun _ h9 => h9) rfl hin rfl (by decide +kernel) rfl rfl (Nat.le_of_ble_eq_true rfl) dX5_init_25 (fun H locs hP hD hS => ?_)
  have hP : va_P D vwCl [(h0, .inr (5, [.int 0, .null, .int 0, .int 0, .int 0, .int 0, .ref q1, .ref q2, .ref q3])), (q1, .inl (cI, 11, .inl (fun _ => 0))), (q2, .inl (cZ, 11, .inl (fun _ => 0))), (q3, .inl (cZ, 11, .inl (fun _ => 0)))] H := hP
  have hD : va_D A [(h0, .inr (5, [.int 0, .null, .int 0, .int 0, .int 0, .int 0, .ref q1, .ref q2, .ref q3])), (q1, .inl (cI, 11, .inl (fun _ => 0))), (q2, .inl (cZ, 11, .inl (fun _ => 0))), (q3, .inl (cZ, 11, .inl (fun _ => 0)))] := hD
  have hP9 := hP.sub (ws' := []) [] rfl
  have hD9 := hD.sub (ws' := []) [] (by decide) rfl
  refine W.widen (k := 3) (n := 33) (Nat.le_of_ble_eq_true rfl) (Nat.le_of_ble_eq_true rfl) ?_
  exact W.vret hx hb hr (fun t ht hW => ⟨⟨(), rfl, trivial, by rw [ht]; exact hP9, hD9⟩, hS.F ht⟩) hS.2.2 dX5_init_28

def zw_zc_X6_init : List Cond := .code yX6_init cX6_init 3 none :: ([.methodLink RX6 3 objectInit, .instanceMethod objectInit, .code objectInit ⟨#[0xb1]⟩ 1 none, .arrayClass .boolean, .fieldLink RX6 9 "TemplateForge$Looker" "waiting" "[Z", .fieldLink RX6 15 "TemplateForge$Looker" "book" "LTemplateForge$Book;", .fieldLink RX6 19 "TemplateForge$Looker" "draft" "LTemplateForge$Draft;"] ++ wsX60)
set_option maxHeartbeats 4000000 in
set_option maxRecDepth 100000 in
theorem zc_X6_init (l : Launch) (D : va_G) (cI cZ cP cF : Nat) (h0 p1 p2 : Nat) (sz : Nat) : Met l yX6_init zw_zc_X6_init ({ frames := 1, cells := 1, slots := 60, locals := 12 }) (va_Pc [.ref h0, .ref p1, .ref p2] (fun U => U.heap.size = sz ∧ va_P D vwCl [(h0, .inr (6, [.null, .null, .null, .int 0]))] U.heap ∧ zE D cI cZ cP cF U ∧ va_D (fun _ => True) [(h0, .inr (6, [.null, .null, .null, .int 0]))])) (va_Qv (fun (_ : Unit) => True) (fun (_ : Unit) t => ∃ (q1 : Nat), va_P D vwCl [(h0, .inr (6, [.ref p1, .ref p2, .ref q1, .int 0]))] t.heap ∧ va_D (va_A [(h0, .inr (6, [.null, .null, .null, .int 0]))] sz) [(h0, .inr (6, [.ref p1, .ref p2, .ref q1, .int 0]))]) (va_A [(h0, .inr (6, [.null, .null, .null, .int 0]))] sz)) 1 60 (va_A [(h0, .inr (6, [.null, .null, .null, .int 0]))] sz) := by
  refine Met.ofW (cc := cX6_init) (maxL := 3) (ret := none) (by decide) rfl ?_
  intro p e s m args below meth c s₁ B hml hv
  obtain ⟨rfl, hsz, hP, hE, hD0⟩ := hv
  have hx := B.exec
  have hb := B.bytes
  have hr := B.returns
  have hts := atoms_spec (ws := zw_zc_X6_init) B.pre
  have hown : s.vm.findClass RX6 = some m.cls := findClass_of_methodNamed B.named
  have hlocks := B.notSynchronized
  have hK := hE.k
  have hin : meth.name = "<init>" := (name_of_methodNamed B.named B.method).1
  subst hsz
  have hD := hD0.self (sz := s.heap.size)
  generalize hAe : va_A [(h0, .inr (6, [.null, .null, .null, .int 0]))] s.heap.size = A at hD ⊢
  have hA : ∀ q : Nat, s.heap.size ≤ q → A q := fun q h => by rw [← hAe]; exact Or.inr h
  have hS : va_S A s.heap s.heap [] := va_S.rf
  have hP : va_P D vwCl [(h0, .inr (6, [.null, .null, .null, .int 0]))] s.heap := hP
  have hl := lv_entry ([.ref h0, .ref p1, .ref p2]) (n := 3) (Nat.le_of_ble_eq_true rfl)
  rw [lg_entry_eq]
  generalize (lg_sl ([.ref h0, .ref p1, .ref p2]) ++ List.replicate (3 - (lg_sl ([.ref h0, .ref p1, .ref p2])).length) Slot.unset).toArray = ls at hl ⊢
  have hl : lv_has ls 3 [(0, .ref h0), (1, .ref p1), (2, .ref p2)] := hl
  refine lv_aload_n hx hb dX6_init_0 rfl (lv_at hl 0 rfl) ?_
  refine W.objInit hx hb hown (hts (.methodLink RX6 3 objectInit) (List.mem_of_getElem? (i := 1) rfl)) (hts (.instanceMethod objectInit) (List.mem_of_getElem? (i := 2) rfl)) (hts (.code objectInit ⟨#[0xb1]⟩ 1 none) (List.mem_of_getElem? (i := 3) rfl)) rfl (by rw [hml]; exact hl.1) rfl dX6_init_1 (Nat.le_of_ble_eq_true rfl) (Nat.le_of_ble_eq_true rfl) ?_
  refine W.eq (g2 := F0 m 4 ls []) rfl ?_
  refine lv_aload_n hx hb dX6_init_4 rfl (lv_at hl 0 rfl) ?_
  refine lv_bipush (v := 60) hx hb dX6_init_5 (by decide) ?_
  refine z_newZ hx hb (hts (.arrayClass .boolean) (List.mem_of_getElem? (i := 4) rfl)) hK 1 rfl hP hD hS hA (n := 60) (N' := 60) (by decide) (by decide) (Nat.le_of_ble_eq_true rfl) (Nat.le_of_ble_eq_true rfl) (Nat.le_of_ble_eq_true rfl) dX6_init_7 (fun q1 H hP hD hS => ?_)
  have hP : va_P D vwCl [(h0, .inr (6, [.null, .null, .null, .int 0])), (q1, .inl (cZ, 60, .inl (fun _ => 0)))] H := hP
  have hD : va_D A [(h0, .inr (6, [.null, .null, .null, .int 0])), (q1, .inl (cZ, 60, .inl (fun _ => 0)))] := hD
  refine va_putF (D := D) (ci := 6) (v := .ref q1) (ty := .array .boolean) (C := RX6) (T := TX6) (N := 4) hx hb hts (fun _ h => List.mem_cons_of_mem _ (List.mem_append_right _ h)) tyX6 tyX6_ok nmX6 hown hK hP hD hS 0 rfl rfl 2 (by decide) (hts (.fieldLink RX6 9 "TemplateForge$Looker" "waiting" "[Z") (List.mem_of_getElem? (i := 5) rfl)) (fun _ h9 => h9) rfl hin rfl (by decide +kernel) rfl rfl (Nat.le_of_ble_eq_true rfl) dX6_init_9 (fun H locs hP hD hS => ?_)
  have hP : va_P D vwCl [(h0, .inr (6, [.null, .null, .ref q1, .int 0])), (q1, .inl (cZ, 60, .inl (fun _ => 0)))] H := hP
  have hD : va_D A [(h0, .inr (6, [.null, .null, .ref q1, .int 0])), (q1, .inl (cZ, 60, .inl (fun _ => 0)))] := hD
  refine lv_aload_n hx hb dX6_init_12 rfl (lv_at hl 0 rfl) ?_
  refine lv_aload_n hx hb dX6_init_13 rfl (lv_at hl 1 rfl) ?_
  refine va_putF (D := D) (ci := 6) (v := .ref p1) (ty := .object "TemplateForge$Book") (C := RX6) (T := TX6) (N := 4) hx hb hts (fun _ h => List.mem_cons_of_mem _ (List.mem_append_right _ h)) tyX6 tyX6_ok nmX6 hown hK hP hD hS 0 rfl rfl 0 (by decide) (hts (.fieldLink RX6 15 "TemplateForge$Looker" "book" "LTemplateForge$Book;") (List.mem_of_getElem? (i := 6) rfl)) (fun _ h9 => h9) rfl hin rfl (by decide +kernel) rfl rfl (Nat.le_of_ble_eq_true rfl) dX6_init_14 (fun H locs hP hD hS => ?_)
  have hP : va_P D vwCl [(h0, .inr (6, [.ref p1, .null, .ref q1, .int 0])), (q1, .inl (cZ, 60, .inl (fun _ => 0)))] H := hP
  have hD : va_D A [(h0, .inr (6, [.ref p1, .null, .ref q1, .int 0])), (q1, .inl (cZ, 60, .inl (fun _ => 0)))] := hD
  refine lv_aload_n hx hb dX6_init_17 rfl (lv_at hl 0 rfl) ?_
  refine lv_aload_n hx hb dX6_init_18 rfl (lv_at hl 2 rfl) ?_
  refine va_putF (D := D) (ci := 6) (v := .ref p2) (ty := .object "TemplateForge$Draft") (C := RX6) (T := TX6) (N := 4) hx hb hts (fun _ h => List.mem_cons_of_mem _ (List.mem_append_right _ h)) tyX6 tyX6_ok nmX6 hown hK hP hD hS 0 rfl rfl 1 (by decide) (hts (.fieldLink RX6 19 "TemplateForge$Looker" "draft" "LTemplateForge$Draft;") (List.mem_of_getElem? (i := 7) rfl)) (fun _ h9 => h9) rfl hin rfl (by decide +kernel) rfl rfl (Nat.le_of_ble_eq_true rfl) dX6_init_19 (fun H locs hP hD hS => ?_)
  have hP : va_P D vwCl [(h0, .inr (6, [.ref p1, .ref p2, .ref q1, .int 0])), (q1, .inl (cZ, 60, .inl (fun _ => 0)))] H := hP
  have hD : va_D A [(h0, .inr (6, [.ref p1, .ref p2, .ref q1, .int 0])), (q1, .inl (cZ, 60, .inl (fun _ => 0)))] := hD
  have hP9 := hP.sub (ws' := [(h0, .inr (6, [.ref p1, .ref p2, .ref q1, .int 0]))]) [0] rfl
  have hD9 := hD.sub (ws' := [(h0, .inr (6, [.ref p1, .ref p2, .ref q1, .int 0]))]) [0] (by decide) rfl
  refine W.widen (k := 1) (n := 60) (Nat.le_of_ble_eq_true rfl) (Nat.le_of_ble_eq_true rfl) ?_
  exact W.vret hx hb hr (fun t ht hW => ⟨⟨(), rfl, trivial, q1, by rw [ht]; exact hP9, hD9⟩, hS.F ht⟩) hS.2.2 dX6_init_22

def zw_zc_X9_init : List Cond := .code yX9_init cX9_init 2 none :: ([.methodLink RX9 3 objectInit, .instanceMethod objectInit, .code objectInit ⟨#[0xb1]⟩ 1 none, .arrayClass .boolean, .fieldLink RX9 9 "TemplateForge$Smith" "known" "[Z", .arrayClass .int, .fieldLink RX9 15 "TemplateForge$Smith" "worth" "[I", .fieldLink RX9 19 "TemplateForge$Smith" "target" "[Z", .fieldLink RX9 22 "TemplateForge$Smith" "assumed" "[Z", .fieldLink RX9 25 "TemplateForge$Smith" "draft" "LTemplateForge$Draft;"] ++ wsX90)
set_option maxHeartbeats 4000000 in
set_option maxRecDepth 100000 in
theorem zc_X9_init (l : Launch) (D : va_G) (cI cZ cP cF : Nat) (h0 p1 : Nat) (sz : Nat) : Met l yX9_init zw_zc_X9_init ({ frames := 1, cells := 4, slots := 101, locals := 12 }) (va_Pc [.ref h0, .ref p1] (fun U => U.heap.size = sz ∧ va_P D vwCl [(h0, .inr (9, [.null, .null, .null, .null, .null]))] U.heap ∧ zE D cI cZ cP cF U ∧ va_D (fun _ => True) [(h0, .inr (9, [.null, .null, .null, .null, .null]))])) (va_Qv (fun (_ : Unit) => True) (fun (_ : Unit) t => va_P D vwCl [] t.heap ∧ va_D (va_A [(h0, .inr (9, [.null, .null, .null, .null, .null]))] sz) []) (va_A [(h0, .inr (9, [.null, .null, .null, .null, .null]))] sz)) 4 101 (va_A [(h0, .inr (9, [.null, .null, .null, .null, .null]))] sz) := by
  refine Met.ofW (cc := cX9_init) (maxL := 2) (ret := none) (by decide) rfl ?_
  intro p e s m args below meth c s₁ B hml hv
  obtain ⟨rfl, hsz, hP, hE, hD0⟩ := hv
  have hx := B.exec
  have hb := B.bytes
  have hr := B.returns
  have hts := atoms_spec (ws := zw_zc_X9_init) B.pre
  have hown : s.vm.findClass RX9 = some m.cls := findClass_of_methodNamed B.named
  have hlocks := B.notSynchronized
  have hK := hE.k
  have hin : meth.name = "<init>" := (name_of_methodNamed B.named B.method).1
  subst hsz
  have hD := hD0.self (sz := s.heap.size)
  generalize hAe : va_A [(h0, .inr (9, [.null, .null, .null, .null, .null]))] s.heap.size = A at hD ⊢
  have hA : ∀ q : Nat, s.heap.size ≤ q → A q := fun q h => by rw [← hAe]; exact Or.inr h
  have hS : va_S A s.heap s.heap [] := va_S.rf
  have hP : va_P D vwCl [(h0, .inr (9, [.null, .null, .null, .null, .null]))] s.heap := hP
  have hl := lv_entry ([.ref h0, .ref p1]) (n := 2) (Nat.le_of_ble_eq_true rfl)
  rw [lg_entry_eq]
  generalize (lg_sl ([.ref h0, .ref p1]) ++ List.replicate (2 - (lg_sl ([.ref h0, .ref p1])).length) Slot.unset).toArray = ls at hl ⊢
  have hl : lv_has ls 2 [(0, .ref h0), (1, .ref p1)] := hl
  refine lv_aload_n hx hb dX9_init_0 rfl (lv_at hl 0 rfl) ?_
  refine W.objInit hx hb hown (hts (.methodLink RX9 3 objectInit) (List.mem_of_getElem? (i := 1) rfl)) (hts (.instanceMethod objectInit) (List.mem_of_getElem? (i := 2) rfl)) (hts (.code objectInit ⟨#[0xb1]⟩ 1 none) (List.mem_of_getElem? (i := 3) rfl)) rfl (by rw [hml]; exact hl.1) rfl dX9_init_1 (Nat.le_of_ble_eq_true rfl) (Nat.le_of_ble_eq_true rfl) ?_
  refine W.eq (g2 := F0 m 4 ls []) rfl ?_
  refine lv_aload_n hx hb dX9_init_4 rfl (lv_at hl 0 rfl) ?_
  refine lv_bipush (v := 15) hx hb dX9_init_5 (by decide) ?_
  refine z_newZ hx hb (hts (.arrayClass .boolean) (List.mem_of_getElem? (i := 4) rfl)) hK 1 rfl hP hD hS hA (n := 15) (N' := 15) (by decide) (by decide) (Nat.le_of_ble_eq_true rfl) (Nat.le_of_ble_eq_true rfl) (Nat.le_of_ble_eq_true rfl) dX9_init_7 (fun q1 H hP hD hS => ?_)
  have hP : va_P D vwCl [(h0, .inr (9, [.null, .null, .null, .null, .null])), (q1, .inl (cZ, 15, .inl (fun _ => 0)))] H := hP
  have hD : va_D A [(h0, .inr (9, [.null, .null, .null, .null, .null])), (q1, .inl (cZ, 15, .inl (fun _ => 0)))] := hD
  refine va_putF (D := D) (ci := 9) (v := .ref q1) (ty := .array .boolean) (C := RX9) (T := TX9) (N := 5) hx hb hts (fun _ h => List.mem_cons_of_mem _ (List.mem_append_right _ h)) tyX9 tyX9_ok nmX9 hown hK hP hD hS 0 rfl rfl 1 (by decide) (hts (.fieldLink RX9 9 "TemplateForge$Smith" "known" "[Z") (List.mem_of_getElem? (i := 5) rfl)) (fun _ h9 => h9) rfl hin rfl (by decide +kernel) rfl rfl (Nat.le_of_ble_eq_true rfl) dX9_init_9 (fun H locs hP hD hS => ?_)
  have hP : va_P D vwCl [(h0, .inr (9, [.null, .ref q1, .null, .null, .null])), (q1, .inl (cZ, 15, .inl (fun _ => 0)))] H := hP
  have hD : va_D A [(h0, .inr (9, [.null, .ref q1, .null, .null, .null])), (q1, .inl (cZ, 15, .inl (fun _ => 0)))] := hD
  refine lv_aload_n hx hb dX9_init_12 rfl (lv_at hl 0 rfl) ?_
  refine lv_bipush (v := 15) hx hb dX9_init_13 (by decide) ?_
  refine z_newI hx hb (hts (.arrayClass .int) (List.mem_of_getElem? (i := 6) rfl)) hK 0 rfl hP hD hS hA (n := 15) (N' := 15) (by decide) (by decide) (Nat.le_of_ble_eq_true rfl) (Nat.le_of_ble_eq_true rfl) (Nat.le_of_ble_eq_true rfl) dX9_init_15 (fun q2 H hP hD hS => ?_)
  have hP : va_P D vwCl [(h0, .inr (9, [.null, .ref q1, .null, .null, .null])), (q1, .inl (cZ, 15, .inl (fun _ => 0))), (q2, .inl (cI, 15, .inl (fun _ => 0)))] H := hP
  have hD : va_D A [(h0, .inr (9, [.null, .ref q1, .null, .null, .null])), (q1, .inl (cZ, 15, .inl (fun _ => 0))), (q2, .inl (cI, 15, .inl (fun _ => 0)))] := hD
  refine va_putF (D := D) (ci := 9) (v := .ref q2) (ty := .array .int) (C := RX9) (T := TX9) (N := 5) hx hb hts (fun _ h => List.mem_cons_of_mem _ (List.mem_append_right _ h)) tyX9 tyX9_ok nmX9 hown hK hP hD hS 0 rfl rfl 2 (by decide) (hts (.fieldLink RX9 15 "TemplateForge$Smith" "worth" "[I") (List.mem_of_getElem? (i := 7) rfl)) (fun _ h9 => h9) rfl hin rfl (by decide +kernel) rfl rfl (Nat.le_of_ble_eq_true rfl) dX9_init_17 (fun H locs hP hD hS => ?_)
  have hP : va_P D vwCl [(h0, .inr (9, [.null, .ref q1, .ref q2, .null, .null])), (q1, .inl (cZ, 15, .inl (fun _ => 0))), (q2, .inl (cI, 15, .inl (fun _ => 0)))] H := hP
  have hD : va_D A [(h0, .inr (9, [.null, .ref q1, .ref q2, .null, .null])), (q1, .inl (cZ, 15, .inl (fun _ => 0))), (q2, .inl (cI, 15, .inl (fun _ => 0)))] := hD
  refine lv_aload_n hx hb dX9_init_20 rfl (lv_at hl 0 rfl) ?_
  refine lv_bipush (v := 60) hx hb dX9_init_21 (by decide) ?_
  refine z_newZ hx hb (hts (.arrayClass .boolean) (List.mem_of_getElem? (i := 4) rfl)) hK 1 rfl hP hD hS hA (n := 60) (N' := 60) (by decide) (by decide) (Nat.le_of_ble_eq_true rfl) (Nat.le_of_ble_eq_true rfl) (Nat.le_of_ble_eq_true rfl) dX9_init_23 (fun q3 H hP hD hS => ?_)
  have hP : va_P D vwCl [(h0, .inr (9, [.null, .ref q1, .ref q2, .null, .null])), (q1, .inl (cZ, 15, .inl (fun _ => 0))), (q2, .inl (cI, 15, .inl (fun _ => 0))), (q3, .inl (cZ, 60, .inl (fun _ => 0)))] H := hP
  have hD : va_D A [(h0, .inr (9, [.null, .ref q1, .ref q2, .null, .null])), (q1, .inl (cZ, 15, .inl (fun _ => 0))), (q2, .inl (cI, 15, .inl (fun _ => 0))), (q3, .inl (cZ, 60, .inl (fun _ => 0)))] := hD
  refine va_putF (D := D) (ci := 9) (v := .ref q3) (ty := .array .boolean) (C := RX9) (T := TX9) (N := 5) hx hb hts (fun _ h => List.mem_cons_of_mem _ (List.mem_append_right _ h)) tyX9 tyX9_ok nmX9 hown hK hP hD hS 0 rfl rfl 3 (by decide) (hts (.fieldLink RX9 19 "TemplateForge$Smith" "target" "[Z") (List.mem_of_getElem? (i := 8) rfl)) (fun _ h9 => h9) rfl hin rfl (by decide +kernel) rfl rfl (Nat.le_of_ble_eq_true rfl) dX9_init_25 (fun H locs hP hD hS => ?_)
  have hP : va_P D vwCl [(h0, .inr (9, [.null, .ref q1, .ref q2, .ref q3, .null])), (q1, .inl (cZ, 15, .inl (fun _ => 0))), (q2, .inl (cI, 15, .inl (fun _ => 0))), (q3, .inl (cZ, 60, .inl (fun _ => 0)))] H := hP
  have hD : va_D A [(h0, .inr (9, [.null, .ref q1, .ref q2, .ref q3, .null])), (q1, .inl (cZ, 15, .inl (fun _ => 0))), (q2, .inl (cI, 15, .inl (fun _ => 0))), (q3, .inl (cZ, 60, .inl (fun _ => 0)))] := hD
  refine lv_aload_n hx hb dX9_init_28 rfl (lv_at hl 0 rfl) ?_
  refine lv_bipush (v := 11) hx hb dX9_init_29 (by decide) ?_
  refine z_newZ hx hb (hts (.arrayClass .boolean) (List.mem_of_getElem? (i := 4) rfl)) hK 1 rfl hP hD hS hA (n := 11) (N' := 11) (by decide) (by decide) (Nat.le_of_ble_eq_true rfl) (Nat.le_of_ble_eq_true rfl) (Nat.le_of_ble_eq_true rfl) dX9_init_31 (fun q4 H hP hD hS => ?_)
  have hP : va_P D vwCl [(h0, .inr (9, [.null, .ref q1, .ref q2, .ref q3, .null])), (q1, .inl (cZ, 15, .inl (fun _ => 0))), (q2, .inl (cI, 15, .inl (fun _ => 0))), (q3, .inl (cZ, 60, .inl (fun _ => 0))), (q4, .inl (cZ, 11, .inl (fun _ => 0)))] H := hP
  have hD : va_D A [(h0, .inr (9, [.null, .ref q1, .ref q2, .ref q3, .null])), (q1, .inl (cZ, 15, .inl (fun _ => 0))), (q2, .inl (cI, 15, .inl (fun _ => 0))), (q3, .inl (cZ, 60, .inl (fun _ => 0))), (q4, .inl (cZ, 11, .inl (fun _ => 0)))] := hD
  refine va_putF (D := D) (ci := 9) (v := .ref q4) (ty := .array .boolean) (C := RX9) (T := TX9) (N := 5) hx hb hts (fun _ h => List.mem_cons_of_mem _ (List.mem_append_right _ h)) tyX9 tyX9_ok nmX9 hown hK hP hD hS 0 rfl rfl 4 (by decide) (hts (.fieldLink RX9 22 "TemplateForge$Smith" "assumed" "[Z") (List.mem_of_getElem? (i := 9) rfl)) (fun _ h9 => h9) rfl hin rfl (by decide +kernel) rfl rfl (Nat.le_of_ble_eq_true rfl) dX9_init_33 (fun H locs hP hD hS => ?_)
  have hP : va_P D vwCl [(h0, .inr (9, [.null, .ref q1, .ref q2, .ref q3, .ref q4])), (q1, .inl (cZ, 15, .inl (fun _ => 0))), (q2, .inl (cI, 15, .inl (fun _ => 0))), (q3, .inl (cZ, 60, .inl (fun _ => 0))), (q4, .inl (cZ, 11, .inl (fun _ => 0)))] H := hP
  have hD : va_D A [(h0, .inr (9, [.null, .ref q1, .ref q2, .ref q3, .ref q4])), (q1, .inl (cZ, 15, .inl (fun _ => 0))), (q2, .inl (cI, 15, .inl (fun _ => 0))), (q3, .inl (cZ, 60, .inl (fun _ => 0))), (q4, .inl (cZ, 11, .inl (fun _ => 0)))] := hD
  refine lv_aload_n hx hb dX9_init_36 rfl (lv_at hl 0 rfl) ?_
  refine lv_aload_n hx hb dX9_init_37 rfl (lv_at hl 1 rfl) ?_
  refine va_putF (D := D) (ci := 9) (v := .ref p1) (ty := .object "TemplateForge$Draft") (C := RX9) (T := TX9) (N := 5) hx hb hts (fun _ h => List.mem_cons_of_mem _ (List.mem_append_right _ h)) tyX9 tyX9_ok nmX9 hown hK hP hD hS 0 rfl rfl 0 (by decide) (hts (.fieldLink RX9 25 "TemplateForge$Smith" "draft" "LTemplateForge$Draft;") (List.mem_of_getElem? (i := 10) rfl)) (fun _ h9 => h9) rfl hin rfl (by decide +kernel) rfl rfl (Nat.le_of_ble_eq_true rfl) dX9_init_38 (fun H locs hP hD hS => ?_)
  have hP : va_P D vwCl [(h0, .inr (9, [.ref p1, .ref q1, .ref q2, .ref q3, .ref q4])), (q1, .inl (cZ, 15, .inl (fun _ => 0))), (q2, .inl (cI, 15, .inl (fun _ => 0))), (q3, .inl (cZ, 60, .inl (fun _ => 0))), (q4, .inl (cZ, 11, .inl (fun _ => 0)))] H := hP
  have hD : va_D A [(h0, .inr (9, [.ref p1, .ref q1, .ref q2, .ref q3, .ref q4])), (q1, .inl (cZ, 15, .inl (fun _ => 0))), (q2, .inl (cI, 15, .inl (fun _ => 0))), (q3, .inl (cZ, 60, .inl (fun _ => 0))), (q4, .inl (cZ, 11, .inl (fun _ => 0)))] := hD
  have hP9 := hP.sub (ws' := []) [] rfl
  have hD9 := hD.sub (ws' := []) [] (by decide) rfl
  refine W.widen (k := 4) (n := 101) (Nat.le_of_ble_eq_true rfl) (Nat.le_of_ble_eq_true rfl) ?_
  exact W.vret hx hb hr (fun t ht hW => ⟨⟨(), rfl, trivial, by rw [ht]; exact hP9, hD9⟩, hS.F ht⟩) hS.2.2 dX9_init_41

def zw_zc_X10_init : List Cond := .code yX10_init cX10_init 1 none :: ([.methodLink RX10 3 objectInit, .instanceMethod objectInit, .code objectInit ⟨#[0xb1]⟩ 1 none, .arrayClass .int, .fieldLink RX10 9 "TemplateForge$Tally" "trap" "[I"] ++ wsX100)
set_option maxHeartbeats 4000000 in
set_option maxRecDepth 100000 in
theorem zc_X10_init (l : Launch) (D : va_G) (cI cZ cP cF : Nat) (h0 : Nat) (sz : Nat) : Met l yX10_init zw_zc_X10_init ({ frames := 1, cells := 1, slots := 4, locals := 12 }) (va_Pc [.ref h0] (fun U => U.heap.size = sz ∧ va_P D vwCl [(h0, .inr (10, [.int 0, .int 0, .int 0, .int 0, .int 0, .int 0, .null]))] U.heap ∧ zE D cI cZ cP cF U ∧ va_D (fun _ => True) [(h0, .inr (10, [.int 0, .int 0, .int 0, .int 0, .int 0, .int 0, .null]))])) (va_Qv (fun (_ : Unit) => True) (fun (_ : Unit) t => ∃ (q1 : Nat), va_P D vwCl [(h0, .inr (10, [.int 0, .int 0, .int 0, .int 0, .int 0, .int 0, .ref q1])), (q1, .inl (cI, 4, .inl (fun _ => 0)))] t.heap ∧ va_D (va_A [(h0, .inr (10, [.int 0, .int 0, .int 0, .int 0, .int 0, .int 0, .null]))] sz) [(h0, .inr (10, [.int 0, .int 0, .int 0, .int 0, .int 0, .int 0, .ref q1])), (q1, .inl (cI, 4, .inl (fun _ => 0)))]) (va_A [(h0, .inr (10, [.int 0, .int 0, .int 0, .int 0, .int 0, .int 0, .null]))] sz)) 1 4 (va_A [(h0, .inr (10, [.int 0, .int 0, .int 0, .int 0, .int 0, .int 0, .null]))] sz) := by
  refine Met.ofW (cc := cX10_init) (maxL := 1) (ret := none) (by decide) rfl ?_
  intro p e s m args below meth c s₁ B hml hv
  obtain ⟨rfl, hsz, hP, hE, hD0⟩ := hv
  have hx := B.exec
  have hb := B.bytes
  have hr := B.returns
  have hts := atoms_spec (ws := zw_zc_X10_init) B.pre
  have hown : s.vm.findClass RX10 = some m.cls := findClass_of_methodNamed B.named
  have hlocks := B.notSynchronized
  have hK := hE.k
  have hin : meth.name = "<init>" := (name_of_methodNamed B.named B.method).1
  subst hsz
  have hD := hD0.self (sz := s.heap.size)
  generalize hAe : va_A [(h0, .inr (10, [.int 0, .int 0, .int 0, .int 0, .int 0, .int 0, .null]))] s.heap.size = A at hD ⊢
  have hA : ∀ q : Nat, s.heap.size ≤ q → A q := fun q h => by rw [← hAe]; exact Or.inr h
  have hS : va_S A s.heap s.heap [] := va_S.rf
  have hP : va_P D vwCl [(h0, .inr (10, [.int 0, .int 0, .int 0, .int 0, .int 0, .int 0, .null]))] s.heap := hP
  have hl := lv_entry ([.ref h0]) (n := 1) (Nat.le_of_ble_eq_true rfl)
  rw [lg_entry_eq]
  generalize (lg_sl ([.ref h0]) ++ List.replicate (1 - (lg_sl ([.ref h0])).length) Slot.unset).toArray = ls at hl ⊢
  have hl : lv_has ls 1 [(0, .ref h0)] := hl
  refine lv_aload_n hx hb dX10_init_0 rfl (lv_at hl 0 rfl) ?_
  refine W.objInit hx hb hown (hts (.methodLink RX10 3 objectInit) (List.mem_of_getElem? (i := 1) rfl)) (hts (.instanceMethod objectInit) (List.mem_of_getElem? (i := 2) rfl)) (hts (.code objectInit ⟨#[0xb1]⟩ 1 none) (List.mem_of_getElem? (i := 3) rfl)) rfl (by rw [hml]; exact hl.1) rfl dX10_init_1 (Nat.le_of_ble_eq_true rfl) (Nat.le_of_ble_eq_true rfl) ?_
  refine W.eq (g2 := F0 m 4 ls []) rfl ?_
  refine lv_aload_n hx hb dX10_init_4 rfl (lv_at hl 0 rfl) ?_
  refine lv_iconst (v := 4) hx hb dX10_init_5 (by decide) ?_
  refine z_newI hx hb (hts (.arrayClass .int) (List.mem_of_getElem? (i := 4) rfl)) hK 0 rfl hP hD hS hA (n := 4) (N' := 4) (by decide) (by decide) (Nat.le_of_ble_eq_true rfl) (Nat.le_of_ble_eq_true rfl) (Nat.le_of_ble_eq_true rfl) dX10_init_6 (fun q1 H hP hD hS => ?_)
  have hP : va_P D vwCl [(h0, .inr (10, [.int 0, .int 0, .int 0, .int 0, .int 0, .int 0, .null])), (q1, .inl (cI, 4, .inl (fun _ => 0)))] H := hP
  have hD : va_D A [(h0, .inr (10, [.int 0, .int 0, .int 0, .int 0, .int 0, .int 0, .null])), (q1, .inl (cI, 4, .inl (fun _ => 0)))] := hD
  refine va_putF (D := D) (ci := 10) (v := .ref q1) (ty := .array .int) (C := RX10) (T := TX10) (N := 7) hx hb hts (fun _ h => List.mem_cons_of_mem _ (List.mem_append_right _ h)) tyX10 tyX10_ok nmX10 hown hK hP hD hS 0 rfl rfl 6 (by decide) (hts (.fieldLink RX10 9 "TemplateForge$Tally" "trap" "[I") (List.mem_of_getElem? (i := 5) rfl)) (fun _ h9 => h9) rfl hin rfl (by decide +kernel) rfl rfl (Nat.le_of_ble_eq_true rfl) dX10_init_8 (fun H locs hP hD hS => ?_)
  have hP : va_P D vwCl [(h0, .inr (10, [.int 0, .int 0, .int 0, .int 0, .int 0, .int 0, .ref q1])), (q1, .inl (cI, 4, .inl (fun _ => 0)))] H := hP
  have hD : va_D A [(h0, .inr (10, [.int 0, .int 0, .int 0, .int 0, .int 0, .int 0, .ref q1])), (q1, .inl (cI, 4, .inl (fun _ => 0)))] := hD
  have hP9 := hP.sub (ws' := [(h0, .inr (10, [.int 0, .int 0, .int 0, .int 0, .int 0, .int 0, .ref q1])), (q1, .inl (cI, 4, .inl (fun _ => 0)))]) [0, 1] rfl
  have hD9 := hD.sub (ws' := [(h0, .inr (10, [.int 0, .int 0, .int 0, .int 0, .int 0, .int 0, .ref q1])), (q1, .inl (cI, 4, .inl (fun _ => 0)))]) [0, 1] (by decide) rfl
  refine W.widen (k := 1) (n := 4) (Nat.le_of_ble_eq_true rfl) (Nat.le_of_ble_eq_true rfl) ?_
  exact W.vret hx hb hr (fun t ht hW => ⟨⟨(), rfl, trivial, q1, by rw [ht]; exact hP9, hD9⟩, hS.F ht⟩) hS.2.2 dX10_init_11

def zw_zc_X8_init : List Cond := .code yX8_init cX8_init 4 none :: ([.methodLink RX8 3 objectInit, .instanceMethod objectInit, .code objectInit ⟨#[0xb1]⟩ 1 none, .classLink RX8 9 RX5, .instantiable RX5 9, .initialized RX5, .code yX5_init cX5_init 1 none, .methodLink RX5 3 objectInit, .arrayClass .int, .fieldLink RX5 9 "TemplateForge$Heat" "first" "[I", .arrayClass .boolean, .fieldLink RX5 15 "TemplateForge$Heat" "same" "[Z", .fieldLink RX5 19 "TemplateForge$Heat" "varying" "[Z", .instanceMethod yX5_init, .fieldLink RX8 12 "TemplateForge$Program" "heat" "LTemplateForge$Heat;", .fieldLink RX8 18 "TemplateForge$Program" "ops" "[I", .fieldLink RX8 22 "TemplateForge$Program" "xs" "[I", .fieldLink RX8 25 "TemplateForge$Program" "depths" "[I", .fieldLink RX8 28 "TemplateForge$Program" "deepest" "I", .fieldLink RX8 32 "TemplateForge$Program" "number" "I", .fieldLink RX8 35 "TemplateForge$Program" "args" "I", .fieldLink RX8 38 "TemplateForge$Program" "locals" "I"] ++ wsX50 ++ wsX80)
set_option maxRecDepth 100000 in
theorem zg_zc_X8_init_zc_X5_init : GoodIn zw_zc_X8_init zw_zc_X5_init := goodIn_r _ [7, 8, 2, 3, 9, 10, 11, 12, 13, 23, 24, 25, 26, 27, 28, 29, 30, 31] (by decide +kernel) (by decide +kernel)
set_option maxHeartbeats 4000000 in
set_option maxRecDepth 100000 in
theorem zc_X8_init (l : Launch) (D : va_G) (cI cZ cP cF : Nat) (h0 : Nat) (n0 a0 l0 : Int32) (sz : Nat) : Met l yX8_init zw_zc_X8_init ({ frames := 2, cells := 7, slots := 222, locals := 32 }) (va_Pc [.ref h0, .int n0, .int a0, .int l0] (fun U => U.heap.size = sz ∧ va_P D vwCl [(h0, .inr (8, [.int 0, .int 0, .int 0, .null, .null, .null, .null, .int 0, .int 0, .null]))] U.heap ∧ zE D cI cZ cP cF U ∧ va_D (fun _ => True) [(h0, .inr (8, [.int 0, .int 0, .int 0, .null, .null, .null, .null, .int 0, .int 0, .null]))])) (va_Qv (fun (_ : Unit) => True) (fun (_ : Unit) t => ∃ (q1 : Nat), ∃ (q2 : Nat), ∃ (q3 : Nat), ∃ (q4 : Nat), va_P D vwCl [(h0, .inr (8, [.int n0, .int a0, .int l0, .ref q1, .ref q2, .ref q3, .ref q4, .int 0, .int (-1), .null]))] t.heap ∧ va_D (va_A [(h0, .inr (8, [.int 0, .int 0, .int 0, .null, .null, .null, .null, .int 0, .int 0, .null]))] sz) [(h0, .inr (8, [.int n0, .int a0, .int l0, .ref q1, .ref q2, .ref q3, .ref q4, .int 0, .int (-1), .null]))]) (va_A [(h0, .inr (8, [.int 0, .int 0, .int 0, .null, .null, .null, .null, .int 0, .int 0, .null]))] sz)) 7 222 (va_A [(h0, .inr (8, [.int 0, .int 0, .int 0, .null, .null, .null, .null, .int 0, .int 0, .null]))] sz) := by
  refine Met.ofW (cc := cX8_init) (maxL := 4) (ret := none) (by decide) rfl ?_
  intro p e s m args below meth c s₁ B hml hv
  obtain ⟨rfl, hsz, hP, hE, hD0⟩ := hv
  have hx := B.exec
  have hb := B.bytes
  have hr := B.returns
  have hts := atoms_spec (ws := zw_zc_X8_init) B.pre
  have hown : s.vm.findClass RX8 = some m.cls := findClass_of_methodNamed B.named
  have hlocks := B.notSynchronized
  have hK := hE.k
  have hin : meth.name = "<init>" := (name_of_methodNamed B.named B.method).1
  subst hsz
  have hD := hD0.self (sz := s.heap.size)
  generalize hAe : va_A [(h0, .inr (8, [.int 0, .int 0, .int 0, .null, .null, .null, .null, .int 0, .int 0, .null]))] s.heap.size = A at hD ⊢
  have hA : ∀ q : Nat, s.heap.size ≤ q → A q := fun q h => by rw [← hAe]; exact Or.inr h
  have hS : va_S A s.heap s.heap [] := va_S.rf
  have hP : va_P D vwCl [(h0, .inr (8, [.int 0, .int 0, .int 0, .null, .null, .null, .null, .int 0, .int 0, .null]))] s.heap := hP
  have hl := lv_entry ([.ref h0, .int n0, .int a0, .int l0]) (n := 4) (Nat.le_of_ble_eq_true rfl)
  rw [lg_entry_eq]
  generalize (lg_sl ([.ref h0, .int n0, .int a0, .int l0]) ++ List.replicate (4 - (lg_sl ([.ref h0, .int n0, .int a0, .int l0])).length) Slot.unset).toArray = ls at hl ⊢
  have hl : lv_has ls 4 [(0, .ref h0), (1, .int n0), (2, .int a0), (3, .int l0)] := hl
  refine lv_aload_n hx hb dX8_init_0 rfl (lv_at hl 0 rfl) ?_
  refine W.objInit hx hb hown (hts (.methodLink RX8 3 objectInit) (List.mem_of_getElem? (i := 1) rfl)) (hts (.instanceMethod objectInit) (List.mem_of_getElem? (i := 2) rfl)) (hts (.code objectInit ⟨#[0xb1]⟩ 1 none) (List.mem_of_getElem? (i := 3) rfl)) rfl (by rw [hml]; exact hl.1) rfl dX8_init_1 (Nat.le_of_ble_eq_true rfl) (Nat.le_of_ble_eq_true rfl) ?_
  refine W.eq (g2 := F0 m 4 ls []) rfl ?_
  refine lv_aload_n hx hb dX8_init_4 rfl (lv_at hl 0 rfl) ?_
  refine va_new (ci := 5) (fs := [.int 0, .null, .int 0, .int 0, .int 0, .int 0, .null, .null, .null]) (C := RX5) (T := TX5) (N := 9) hx hb hts (fun _ h => List.mem_cons_of_mem _ (List.mem_append_left _ (List.mem_append_right _ h))) tyX5 tyX5_ok hown (hts (.classLink RX8 9 RX5) (List.mem_of_getElem? (i := 4) rfl)) (hts (.instantiable RX5 9) (List.mem_of_getElem? (i := 5) rfl)) (hts (.initialized RX5) (List.mem_of_getElem? (i := 6) rfl)) hK hP hD hS hA rfl (fun j hj => by rcases (show j = 0 ∨ j = 1 ∨ j = 2 ∨ j = 3 ∨ j = 4 ∨ j = 5 ∨ j = 6 ∨ j = 7 ∨ j = 8 by omega) with rfl | rfl | rfl | rfl | rfl | rfl | rfl | rfl | rfl <;> rfl) (Nat.le_of_ble_eq_true rfl) (Nat.le_of_ble_eq_true rfl) dX8_init_5 (fun q1 H hP hD hS => ?_)
  have hP : va_P D vwCl [(h0, .inr (8, [.int 0, .int 0, .int 0, .null, .null, .null, .null, .int 0, .int 0, .null])), (q1, .inr (5, [.int 0, .null, .int 0, .int 0, .int 0, .int 0, .null, .null, .null]))] H := hP
  have hD : va_D A [(h0, .inr (8, [.int 0, .int 0, .int 0, .null, .null, .null, .null, .int 0, .int 0, .null])), (q1, .inr (5, [.int 0, .null, .int 0, .int 0, .int 0, .int 0, .null, .null, .null]))] := hD
  refine lv_dup hx hb dX8_init_8 rfl ?_
  have hPc := hP.sub (ws' := [(q1, .inr (5, [.int 0, .null, .int 0, .int 0, .int 0, .int 0, .null, .null, .null]))]) [1] rfl
  have hDc := hD.sub (ws' := [(q1, .inr (5, [.int 0, .null, .int 0, .int 0, .int 0, .int 0, .null, .null, .null]))]) [1] (by decide) rfl
  have hFc := va_free (wc := [(q1, .inr (5, [.int 0, .null, .int 0, .int 0, .int 0, .int 0, .null, .null, .null]))]) hD hS hA [1] rfl
  refine va_callv (va_runIN (As := []) (rest := [.ref q1, .ref h0]) ⟨hx, hb, hml, hown, hts⟩ (zc_X5_init l D cI cZ cP cF q1 H.size) ⟨va_cnB 0 hts zg_zc_X8_init_zc_X5_init rfl rfl rfl hE.nX8_11 (hts (.initialized RX5) (List.mem_of_getElem? (i := 6) rfl)) (by decide +kernel) ⟨Nat.le_of_ble_eq_true rfl, Nat.le_of_ble_eq_true rfl⟩, rfl, (hts (.instanceMethod yX5_init) (List.mem_of_getElem? (i := 14) rfl))⟩ ⟨zBW, fun U hU hW => ⟨rfl, by rw [hU], by rw [hU]; exact hPc, hE.warm hW, hDc.weaken (fun _ _ _ _ => trivial)⟩⟩ rfl rfl hl.1 rfl (lv_room (Nat.le_of_ble_eq_true rfl)) dX8_init_9 ⟨Nat.le_of_ble_eq_true rfl, Nat.le_of_ble_eq_true rfl⟩) hS (fun q _ h => hFc q h) hFc (fun u t H1 locs ht hvm h_9_2 hB hz1 hk1 hS => ?_)
  obtain ⟨hP1, hD1⟩ := hB
  rw [ht] at hP1
  obtain ⟨hP, hD⟩ := va_join (wr := [(h0, .inr (8, [.int 0, .int 0, .int 0, .null, .null, .null, .null, .int 0, .int 0, .null]))]) (w1 := []) hP hD [1] [0] rfl rfl (by decide) (by decide) hk1 hFc hP1 hD1
  generalize H1 = H at hP hS ⊢
  have hP : va_P D vwCl [(h0, .inr (8, [.int 0, .int 0, .int 0, .null, .null, .null, .null, .int 0, .int 0, .null]))] H := hP
  have hD : va_D A [(h0, .inr (8, [.int 0, .int 0, .int 0, .null, .null, .null, .null, .int 0, .int 0, .null]))] := hD
  refine va_putF (D := D) (ci := 8) (v := .ref q1) (ty := .object "TemplateForge$Heat") (C := RX8) (T := TX8) (N := 10) hx hb hts (fun _ h => List.mem_cons_of_mem _ (List.mem_append_right _ h)) tyX8 tyX8_ok nmX8 hown hK hP hD hS 0 rfl rfl 3 (by decide) (hts (.fieldLink RX8 12 "TemplateForge$Program" "heat" "LTemplateForge$Heat;") (List.mem_of_getElem? (i := 15) rfl)) (fun _ h9 => h9) rfl hin rfl (by decide +kernel) rfl rfl (Nat.le_of_ble_eq_true rfl) dX8_init_12 (fun H locs hP hD hS => ?_)
  have hP : va_P D vwCl [(h0, .inr (8, [.int 0, .int 0, .int 0, .ref q1, .null, .null, .null, .int 0, .int 0, .null]))] H := hP
  have hD : va_D A [(h0, .inr (8, [.int 0, .int 0, .int 0, .ref q1, .null, .null, .null, .int 0, .int 0, .null]))] := hD
  refine lv_aload_n hx hb dX8_init_15 rfl (lv_at hl 0 rfl) ?_
  refine lv_bipush (v := 60) hx hb dX8_init_16 (by decide) ?_
  refine z_newI hx hb (hts (.arrayClass .int) (List.mem_of_getElem? (i := 9) rfl)) hK 0 rfl hP hD hS hA (n := 60) (N' := 60) (by decide) (by decide) (Nat.le_of_ble_eq_true rfl) (Nat.le_of_ble_eq_true rfl) (Nat.le_of_ble_eq_true rfl) dX8_init_18 (fun q3 H hP hD hS => ?_)
  have hP : va_P D vwCl [(h0, .inr (8, [.int 0, .int 0, .int 0, .ref q1, .null, .null, .null, .int 0, .int 0, .null])), (q3, .inl (cI, 60, .inl (fun _ => 0)))] H := hP
  have hD : va_D A [(h0, .inr (8, [.int 0, .int 0, .int 0, .ref q1, .null, .null, .null, .int 0, .int 0, .null])), (q3, .inl (cI, 60, .inl (fun _ => 0)))] := hD
  refine va_putF (D := D) (ci := 8) (v := .ref q3) (ty := .array .int) (C := RX8) (T := TX8) (N := 10) hx hb hts (fun _ h => List.mem_cons_of_mem _ (List.mem_append_right _ h)) tyX8 tyX8_ok nmX8 hown hK hP hD hS 0 rfl rfl 4 (by decide) (hts (.fieldLink RX8 18 "TemplateForge$Program" "ops" "[I") (List.mem_of_getElem? (i := 16) rfl)) (fun _ h9 => h9) rfl hin rfl (by decide +kernel) rfl rfl (Nat.le_of_ble_eq_true rfl) dX8_init_20 (fun H locs hP hD hS => ?_)
  have hP : va_P D vwCl [(h0, .inr (8, [.int 0, .int 0, .int 0, .ref q1, .ref q3, .null, .null, .int 0, .int 0, .null])), (q3, .inl (cI, 60, .inl (fun _ => 0)))] H := hP
  have hD : va_D A [(h0, .inr (8, [.int 0, .int 0, .int 0, .ref q1, .ref q3, .null, .null, .int 0, .int 0, .null])), (q3, .inl (cI, 60, .inl (fun _ => 0)))] := hD
  refine lv_aload_n hx hb dX8_init_23 rfl (lv_at hl 0 rfl) ?_
  refine lv_bipush (v := 60) hx hb dX8_init_24 (by decide) ?_
  refine z_newI hx hb (hts (.arrayClass .int) (List.mem_of_getElem? (i := 9) rfl)) hK 0 rfl hP hD hS hA (n := 60) (N' := 60) (by decide) (by decide) (Nat.le_of_ble_eq_true rfl) (Nat.le_of_ble_eq_true rfl) (Nat.le_of_ble_eq_true rfl) dX8_init_26 (fun q4 H hP hD hS => ?_)
  have hP : va_P D vwCl [(h0, .inr (8, [.int 0, .int 0, .int 0, .ref q1, .ref q3, .null, .null, .int 0, .int 0, .null])), (q3, .inl (cI, 60, .inl (fun _ => 0))), (q4, .inl (cI, 60, .inl (fun _ => 0)))] H := hP
  have hD : va_D A [(h0, .inr (8, [.int 0, .int 0, .int 0, .ref q1, .ref q3, .null, .null, .int 0, .int 0, .null])), (q3, .inl (cI, 60, .inl (fun _ => 0))), (q4, .inl (cI, 60, .inl (fun _ => 0)))] := hD
  refine va_putF (D := D) (ci := 8) (v := .ref q4) (ty := .array .int) (C := RX8) (T := TX8) (N := 10) hx hb hts (fun _ h => List.mem_cons_of_mem _ (List.mem_append_right _ h)) tyX8 tyX8_ok nmX8 hown hK hP hD hS 0 rfl rfl 5 (by decide) (hts (.fieldLink RX8 22 "TemplateForge$Program" "xs" "[I") (List.mem_of_getElem? (i := 17) rfl)) (fun _ h9 => h9) rfl hin rfl (by decide +kernel) rfl rfl (Nat.le_of_ble_eq_true rfl) dX8_init_28 (fun H locs hP hD hS => ?_)
  have hP : va_P D vwCl [(h0, .inr (8, [.int 0, .int 0, .int 0, .ref q1, .ref q3, .ref q4, .null, .int 0, .int 0, .null])), (q3, .inl (cI, 60, .inl (fun _ => 0))), (q4, .inl (cI, 60, .inl (fun _ => 0)))] H := hP
  have hD : va_D A [(h0, .inr (8, [.int 0, .int 0, .int 0, .ref q1, .ref q3, .ref q4, .null, .int 0, .int 0, .null])), (q3, .inl (cI, 60, .inl (fun _ => 0))), (q4, .inl (cI, 60, .inl (fun _ => 0)))] := hD
  refine lv_aload_n hx hb dX8_init_31 rfl (lv_at hl 0 rfl) ?_
  refine lv_bipush (v := 60) hx hb dX8_init_32 (by decide) ?_
  refine z_newI hx hb (hts (.arrayClass .int) (List.mem_of_getElem? (i := 9) rfl)) hK 0 rfl hP hD hS hA (n := 60) (N' := 60) (by decide) (by decide) (Nat.le_of_ble_eq_true rfl) (Nat.le_of_ble_eq_true rfl) (Nat.le_of_ble_eq_true rfl) dX8_init_34 (fun q5 H hP hD hS => ?_)
  have hP : va_P D vwCl [(h0, .inr (8, [.int 0, .int 0, .int 0, .ref q1, .ref q3, .ref q4, .null, .int 0, .int 0, .null])), (q3, .inl (cI, 60, .inl (fun _ => 0))), (q4, .inl (cI, 60, .inl (fun _ => 0))), (q5, .inl (cI, 60, .inl (fun _ => 0)))] H := hP
  have hD : va_D A [(h0, .inr (8, [.int 0, .int 0, .int 0, .ref q1, .ref q3, .ref q4, .null, .int 0, .int 0, .null])), (q3, .inl (cI, 60, .inl (fun _ => 0))), (q4, .inl (cI, 60, .inl (fun _ => 0))), (q5, .inl (cI, 60, .inl (fun _ => 0)))] := hD
  refine va_putF (D := D) (ci := 8) (v := .ref q5) (ty := .array .int) (C := RX8) (T := TX8) (N := 10) hx hb hts (fun _ h => List.mem_cons_of_mem _ (List.mem_append_right _ h)) tyX8 tyX8_ok nmX8 hown hK hP hD hS 0 rfl rfl 6 (by decide) (hts (.fieldLink RX8 25 "TemplateForge$Program" "depths" "[I") (List.mem_of_getElem? (i := 18) rfl)) (fun _ h9 => h9) rfl hin rfl (by decide +kernel) rfl rfl (Nat.le_of_ble_eq_true rfl) dX8_init_36 (fun H locs hP hD hS => ?_)
  have hP : va_P D vwCl [(h0, .inr (8, [.int 0, .int 0, .int 0, .ref q1, .ref q3, .ref q4, .ref q5, .int 0, .int 0, .null])), (q3, .inl (cI, 60, .inl (fun _ => 0))), (q4, .inl (cI, 60, .inl (fun _ => 0))), (q5, .inl (cI, 60, .inl (fun _ => 0)))] H := hP
  have hD : va_D A [(h0, .inr (8, [.int 0, .int 0, .int 0, .ref q1, .ref q3, .ref q4, .ref q5, .int 0, .int 0, .null])), (q3, .inl (cI, 60, .inl (fun _ => 0))), (q4, .inl (cI, 60, .inl (fun _ => 0))), (q5, .inl (cI, 60, .inl (fun _ => 0)))] := hD
  refine lv_aload_n hx hb dX8_init_39 rfl (lv_at hl 0 rfl) ?_
  refine lv_iconst (v := (-1)) hx hb dX8_init_40 (by decide) ?_
  refine va_put (D := D) (ci := 8) (v := .int (-1)) (ty := .int) (C := RX8) (T := TX8) (N := 10) hx hb hts (fun _ h => List.mem_cons_of_mem _ (List.mem_append_right _ h)) tyX8 tyX8_ok nmX8 hown hK hP hD hS 0 rfl rfl 8 (by decide) (hts (.fieldLink RX8 28 "TemplateForge$Program" "deepest" "I") (List.mem_of_getElem? (i := 19) rfl)) (fun _ h9 => h9) rfl (by decide +kernel) rfl rfl (Nat.le_of_ble_eq_true rfl) dX8_init_41 (fun H locs hP hD hS => ?_)
  have hP : va_P D vwCl [(h0, .inr (8, [.int 0, .int 0, .int 0, .ref q1, .ref q3, .ref q4, .ref q5, .int 0, .int (-1), .null])), (q3, .inl (cI, 60, .inl (fun _ => 0))), (q4, .inl (cI, 60, .inl (fun _ => 0))), (q5, .inl (cI, 60, .inl (fun _ => 0)))] H := hP
  have hD : va_D A [(h0, .inr (8, [.int 0, .int 0, .int 0, .ref q1, .ref q3, .ref q4, .ref q5, .int 0, .int (-1), .null])), (q3, .inl (cI, 60, .inl (fun _ => 0))), (q4, .inl (cI, 60, .inl (fun _ => 0))), (q5, .inl (cI, 60, .inl (fun _ => 0)))] := hD
  refine lv_aload_n hx hb dX8_init_44 rfl (lv_at hl 0 rfl) ?_
  refine lv_iload_n hx hb dX8_init_45 rfl (lv_at hl 1 rfl) ?_
  refine va_putF (D := D) (ci := 8) (v := .int n0) (ty := .int) (C := RX8) (T := TX8) (N := 10) hx hb hts (fun _ h => List.mem_cons_of_mem _ (List.mem_append_right _ h)) tyX8 tyX8_ok nmX8 hown hK hP hD hS 0 rfl rfl 0 (by decide) (hts (.fieldLink RX8 32 "TemplateForge$Program" "number" "I") (List.mem_of_getElem? (i := 20) rfl)) (fun _ h9 => h9) rfl hin rfl (by decide +kernel) rfl rfl (Nat.le_of_ble_eq_true rfl) dX8_init_46 (fun H locs hP hD hS => ?_)
  have hP : va_P D vwCl [(h0, .inr (8, [.int n0, .int 0, .int 0, .ref q1, .ref q3, .ref q4, .ref q5, .int 0, .int (-1), .null])), (q3, .inl (cI, 60, .inl (fun _ => 0))), (q4, .inl (cI, 60, .inl (fun _ => 0))), (q5, .inl (cI, 60, .inl (fun _ => 0)))] H := hP
  have hD : va_D A [(h0, .inr (8, [.int n0, .int 0, .int 0, .ref q1, .ref q3, .ref q4, .ref q5, .int 0, .int (-1), .null])), (q3, .inl (cI, 60, .inl (fun _ => 0))), (q4, .inl (cI, 60, .inl (fun _ => 0))), (q5, .inl (cI, 60, .inl (fun _ => 0)))] := hD
  refine lv_aload_n hx hb dX8_init_49 rfl (lv_at hl 0 rfl) ?_
  refine lv_iload_n hx hb dX8_init_50 rfl (lv_at hl 2 rfl) ?_
  refine va_putF (D := D) (ci := 8) (v := .int a0) (ty := .int) (C := RX8) (T := TX8) (N := 10) hx hb hts (fun _ h => List.mem_cons_of_mem _ (List.mem_append_right _ h)) tyX8 tyX8_ok nmX8 hown hK hP hD hS 0 rfl rfl 1 (by decide) (hts (.fieldLink RX8 35 "TemplateForge$Program" "args" "I") (List.mem_of_getElem? (i := 21) rfl)) (fun _ h9 => h9) rfl hin rfl (by decide +kernel) rfl rfl (Nat.le_of_ble_eq_true rfl) dX8_init_51 (fun H locs hP hD hS => ?_)
  have hP : va_P D vwCl [(h0, .inr (8, [.int n0, .int a0, .int 0, .ref q1, .ref q3, .ref q4, .ref q5, .int 0, .int (-1), .null])), (q3, .inl (cI, 60, .inl (fun _ => 0))), (q4, .inl (cI, 60, .inl (fun _ => 0))), (q5, .inl (cI, 60, .inl (fun _ => 0)))] H := hP
  have hD : va_D A [(h0, .inr (8, [.int n0, .int a0, .int 0, .ref q1, .ref q3, .ref q4, .ref q5, .int 0, .int (-1), .null])), (q3, .inl (cI, 60, .inl (fun _ => 0))), (q4, .inl (cI, 60, .inl (fun _ => 0))), (q5, .inl (cI, 60, .inl (fun _ => 0)))] := hD
  refine lv_aload_n hx hb dX8_init_54 rfl (lv_at hl 0 rfl) ?_
  refine lv_iload_n hx hb dX8_init_55 rfl (lv_at hl 3 rfl) ?_
  refine va_putF (D := D) (ci := 8) (v := .int l0) (ty := .int) (C := RX8) (T := TX8) (N := 10) hx hb hts (fun _ h => List.mem_cons_of_mem _ (List.mem_append_right _ h)) tyX8 tyX8_ok nmX8 hown hK hP hD hS 0 rfl rfl 2 (by decide) (hts (.fieldLink RX8 38 "TemplateForge$Program" "locals" "I") (List.mem_of_getElem? (i := 22) rfl)) (fun _ h9 => h9) rfl hin rfl (by decide +kernel) rfl rfl (Nat.le_of_ble_eq_true rfl) dX8_init_56 (fun H locs hP hD hS => ?_)
  have hP : va_P D vwCl [(h0, .inr (8, [.int n0, .int a0, .int l0, .ref q1, .ref q3, .ref q4, .ref q5, .int 0, .int (-1), .null])), (q3, .inl (cI, 60, .inl (fun _ => 0))), (q4, .inl (cI, 60, .inl (fun _ => 0))), (q5, .inl (cI, 60, .inl (fun _ => 0)))] H := hP
  have hD : va_D A [(h0, .inr (8, [.int n0, .int a0, .int l0, .ref q1, .ref q3, .ref q4, .ref q5, .int 0, .int (-1), .null])), (q3, .inl (cI, 60, .inl (fun _ => 0))), (q4, .inl (cI, 60, .inl (fun _ => 0))), (q5, .inl (cI, 60, .inl (fun _ => 0)))] := hD
  have hP9 := hP.sub (ws' := [(h0, .inr (8, [.int n0, .int a0, .int l0, .ref q1, .ref q3, .ref q4, .ref q5, .int 0, .int (-1), .null]))]) [0] rfl
  have hD9 := hD.sub (ws' := [(h0, .inr (8, [.int n0, .int a0, .int l0, .ref q1, .ref q3, .ref q4, .ref q5, .int 0, .int (-1), .null]))]) [0] (by decide) rfl
  refine W.widen (k := 7) (n := 222) (Nat.le_of_ble_eq_true rfl) (Nat.le_of_ble_eq_true rfl) ?_
  exact W.vret hx hb hr (fun t ht hW => ⟨⟨(), rfl, trivial, q1, q3, q4, q5, by rw [ht]; exact hP9, hD9⟩, hS.F ht⟩) hS.2.2 dX8_init_59

def zw_zc_X7_init : List Cond := .code yX7_init cX7_init 5 none :: ([.methodLink RX7 3 objectInit, .instanceMethod objectInit, .code objectInit ⟨#[0xb1]⟩ 1 none, .classLink RX7 9 RX10, .instantiable RX10 7, .initialized RX10, .code yX10_init cX10_init 1 none, .methodLink RX10 3 objectInit, .arrayClass .int, .fieldLink RX10 9 "TemplateForge$Tally" "trap" "[I", .instanceMethod yX10_init, .fieldLink RX7 12 "TemplateForge$Machine" "tally" "LTemplateForge$Tally;", .classLink RX7 18 RX4, .fieldLink RX7 20 "TemplateForge$Machine" "frames" "[LTemplateForge$Frame;", .fieldLink RX7 24 "TemplateForge$Machine" "handed" "[I", .fieldLink RX7 28 "TemplateForge$Machine" "book" "LTemplateForge$Book;", .fieldLink RX7 32 "TemplateForge$Machine" "data" "LTemplateForge$Data;", .classLink RX7 36 RX9, .instantiable RX9 5, .initialized RX9, .code yX9_init cX9_init 2 none, .methodLink RX9 3 objectInit, .arrayClass .boolean, .fieldLink RX9 9 "TemplateForge$Smith" "known" "[Z", .fieldLink RX9 15 "TemplateForge$Smith" "worth" "[I", .fieldLink RX9 19 "TemplateForge$Smith" "target" "[Z", .fieldLink RX9 22 "TemplateForge$Smith" "assumed" "[Z", .fieldLink RX9 25 "TemplateForge$Smith" "draft" "LTemplateForge$Draft;", .instanceMethod yX9_init, .methodLink RX7 38 yX9_init, .fieldLink RX7 41 "TemplateForge$Machine" "smith" "LTemplateForge$Smith;", .instantiable RX4 5, .initialized RX4, .code yX4_init cX4_init 1 none, .methodLink RX4 3 objectInit, .fieldLink RX4 9 "TemplateForge$Frame" "registers" "[I", .instanceMethod yX4_init] ++ wsX100 ++ wsX70 ++ wsX90 ++ wsX40)
set_option maxRecDepth 100000 in
theorem zg_zc_X7_init_zc_X10_init : GoodIn zw_zc_X7_init zw_zc_X10_init := goodIn_r _ [7, 8, 2, 3, 9, 10, 38, 39, 40, 41, 42, 43, 44] (by decide +kernel) (by decide +kernel)
set_option maxRecDepth 100000 in
theorem zg_zc_X7_init_zc_X9_init : GoodIn zw_zc_X7_init zw_zc_X9_init := goodIn_r _ [21, 22, 2, 3, 23, 24, 9, 25, 26, 27, 28, 55, 56, 57, 58, 59] (by decide +kernel) (by decide +kernel)
set_option maxRecDepth 100000 in
theorem zg_zc_X7_init_zc_X4_init : GoodIn zw_zc_X7_init zw_zc_X4_init := goodIn_r _ [34, 35, 2, 3, 9, 36, 60, 61, 62, 63, 64] (by decide +kernel) (by decide +kernel)
set_option maxHeartbeats 4000000 in
set_option maxRecDepth 100000 in
theorem zc_X7_init (l : Launch) (D : va_G) (cI cZ cP cF : Nat) (h0 p1 p2 p3 : Nat) (sz : Nat) : Met l yX7_init zw_zc_X7_init ({ frames := 2, cells := 41, slots := 456, locals := 33 }) (va_Pc [.ref h0, .ref p1, .ref p2, .ref p3] (fun U => U.heap.size = sz ∧ va_P D vwCl [(h0, .inr (7, [.null, .null, .null, .null, .null, .null, .int 0, .int 0, .int 0, .int 0]))] U.heap ∧ zE D cI cZ cP cF U ∧ va_D (fun _ => True) [(h0, .inr (7, [.null, .null, .null, .null, .null, .null, .int 0, .int 0, .int 0, .int 0]))])) (va_Qv (fun (_ : Unit) => True) (fun (_ : Unit) t => ∃ (q1 : Nat), ∃ (q2 : Nat), ∃ (q3 : Nat), ∃ (q4 : Nat), ∃ (q5 : Nat), va_P D vwCl [(h0, .inr (7, [.ref p1, .ref p2, .ref q1, .ref q2, .ref q3, .ref q4, .int 0, .int 0, .int 0, .int 0])), (q2, .inr (10, [.int 0, .int 0, .int 0, .int 0, .int 0, .int 0, .ref q5])), (q5, .inl (cI, 4, .inl (fun _ => 0)))] t.heap ∧ va_D (va_A [(h0, .inr (7, [.null, .null, .null, .null, .null, .null, .int 0, .int 0, .int 0, .int 0]))] sz) [(h0, .inr (7, [.ref p1, .ref p2, .ref q1, .ref q2, .ref q3, .ref q4, .int 0, .int 0, .int 0, .int 0])), (q2, .inr (10, [.int 0, .int 0, .int 0, .int 0, .int 0, .int 0, .ref q5])), (q5, .inl (cI, 4, .inl (fun _ => 0)))]) (va_A [(h0, .inr (7, [.null, .null, .null, .null, .null, .null, .int 0, .int 0, .int 0, .int 0]))] sz)) 41 456 (va_A [(h0, .inr (7, [.null, .null, .null, .null, .null, .null, .int 0, .int 0, .int 0, .int 0]))] sz) := by
  refine Met.ofW (cc := cX7_init) (maxL := 5) (ret := none) (by decide) rfl ?_
  intro p e s m args below meth c s₁ B hml hv
  obtain ⟨rfl, hsz, hP, hE, hD0⟩ := hv
  have hx := B.exec
  have hb := B.bytes
  have hr := B.returns
  have hts := atoms_spec (ws := zw_zc_X7_init) B.pre
  have hown : s.vm.findClass RX7 = some m.cls := findClass_of_methodNamed B.named
  have hlocks := B.notSynchronized
  have hK := hE.k
  have hin : meth.name = "<init>" := (name_of_methodNamed B.named B.method).1
  subst hsz
  have hD := hD0.self (sz := s.heap.size)
  generalize hAe : va_A [(h0, .inr (7, [.null, .null, .null, .null, .null, .null, .int 0, .int 0, .int 0, .int 0]))] s.heap.size = A at hD ⊢
  have hA : ∀ q : Nat, s.heap.size ≤ q → A q := fun q h => by rw [← hAe]; exact Or.inr h
  have hS : va_S A s.heap s.heap [] := va_S.rf
  have hP : va_P D vwCl [(h0, .inr (7, [.null, .null, .null, .null, .null, .null, .int 0, .int 0, .int 0, .int 0]))] s.heap := hP
  have hl := lv_entry ([.ref h0, .ref p1, .ref p2, .ref p3]) (n := 5) (Nat.le_of_ble_eq_true rfl)
  rw [lg_entry_eq]
  generalize (lg_sl ([.ref h0, .ref p1, .ref p2, .ref p3]) ++ List.replicate (5 - (lg_sl ([.ref h0, .ref p1, .ref p2, .ref p3])).length) Slot.unset).toArray = ls at hl ⊢
  have hl : lv_has ls 5 [(0, .ref h0), (1, .ref p1), (2, .ref p2), (3, .ref p3)] := hl
  refine lv_aload_n hx hb dX7_init_0 rfl (lv_at hl 0 rfl) ?_
  refine W.objInit hx hb hown (hts (.methodLink RX7 3 objectInit) (List.mem_of_getElem? (i := 1) rfl)) (hts (.instanceMethod objectInit) (List.mem_of_getElem? (i := 2) rfl)) (hts (.code objectInit ⟨#[0xb1]⟩ 1 none) (List.mem_of_getElem? (i := 3) rfl)) rfl (by rw [hml]; exact hl.1) rfl dX7_init_1 (Nat.le_of_ble_eq_true rfl) (Nat.le_of_ble_eq_true rfl) ?_
  refine W.eq (g2 := F0 m 4 ls []) rfl ?_
  refine lv_aload_n hx hb dX7_init_4 rfl (lv_at hl 0 rfl) ?_
  refine va_new (ci := 10) (fs := [.int 0, .int 0, .int 0, .int 0, .int 0, .int 0, .null]) (C := RX10) (T := TX10) (N := 7) hx hb hts (fun _ h => List.mem_cons_of_mem _ (List.mem_append_left _ (List.mem_append_left _ (List.mem_append_left _ (List.mem_append_right _ h))))) tyX10 tyX10_ok hown (hts (.classLink RX7 9 RX10) (List.mem_of_getElem? (i := 4) rfl)) (hts (.instantiable RX10 7) (List.mem_of_getElem? (i := 5) rfl)) (hts (.initialized RX10) (List.mem_of_getElem? (i := 6) rfl)) hK hP hD hS hA rfl (fun j hj => by rcases (show j = 0 ∨ j = 1 ∨ j = 2 ∨ j = 3 ∨ j = 4 ∨ j = 5 ∨ j = 6 by omega) with rfl | rfl | rfl | rfl | rfl | rfl | rfl <;> rfl) (Nat.le_of_ble_eq_true rfl) (Nat.le_of_ble_eq_true rfl) dX7_init_5 (fun q1 H hP hD hS => ?_)
  have hP : va_P D vwCl [(h0, .inr (7, [.null, .null, .null, .null, .null, .null, .int 0, .int 0, .int 0, .int 0])), (q1, .inr (10, [.int 0, .int 0, .int 0, .int 0, .int 0, .int 0, .null]))] H := hP
  have hD : va_D A [(h0, .inr (7, [.null, .null, .null, .null, .null, .null, .int 0, .int 0, .int 0, .int 0])), (q1, .inr (10, [.int 0, .int 0, .int 0, .int 0, .int 0, .int 0, .null]))] := hD
  refine lv_dup hx hb dX7_init_8 rfl ?_
  have hPc := hP.sub (ws' := [(q1, .inr (10, [.int 0, .int 0, .int 0, .int 0, .int 0, .int 0, .null]))]) [1] rfl
  have hDc := hD.sub (ws' := [(q1, .inr (10, [.int 0, .int 0, .int 0, .int 0, .int 0, .int 0, .null]))]) [1] (by decide) rfl
  have hFc := va_free (wc := [(q1, .inr (10, [.int 0, .int 0, .int 0, .int 0, .int 0, .int 0, .null]))]) hD hS hA [1] rfl
  refine va_callv (va_runIN (As := []) (rest := [.ref q1, .ref h0]) ⟨hx, hb, hml, hown, hts⟩ (zc_X10_init l D cI cZ cP cF q1 H.size) ⟨va_cnB 0 hts zg_zc_X7_init_zc_X10_init rfl rfl rfl hE.nX7_11 (hts (.initialized RX10) (List.mem_of_getElem? (i := 6) rfl)) (by decide +kernel) ⟨Nat.le_of_ble_eq_true rfl, Nat.le_of_ble_eq_true rfl⟩, rfl, (hts (.instanceMethod yX10_init) (List.mem_of_getElem? (i := 11) rfl))⟩ ⟨zBW, fun U hU hW => ⟨rfl, by rw [hU], by rw [hU]; exact hPc, hE.warm hW, hDc.weaken (fun _ _ _ _ => trivial)⟩⟩ rfl rfl hl.1 rfl (lv_room (Nat.le_of_ble_eq_true rfl)) dX7_init_9 ⟨Nat.le_of_ble_eq_true rfl, Nat.le_of_ble_eq_true rfl⟩) hS (fun q _ h => hFc q h) hFc (fun u t H1 locs ht hvm h_9_2 hB hz1 hk1 hS => ?_)
  obtain ⟨q3, hP1, hD1⟩ := hB
  rw [ht] at hP1
  obtain ⟨hP, hD⟩ := va_join (wr := [(h0, .inr (7, [.null, .null, .null, .null, .null, .null, .int 0, .int 0, .int 0, .int 0]))]) (w1 := [(q1, .inr (10, [.int 0, .int 0, .int 0, .int 0, .int 0, .int 0, .ref q3])), (q3, .inl (cI, 4, .inl (fun _ => 0)))]) hP hD [1] [0] rfl rfl (by decide) (by decide) hk1 hFc hP1 hD1
  generalize H1 = H at hP hS ⊢
  have hP : va_P D vwCl [(h0, .inr (7, [.null, .null, .null, .null, .null, .null, .int 0, .int 0, .int 0, .int 0])), (q1, .inr (10, [.int 0, .int 0, .int 0, .int 0, .int 0, .int 0, .ref q3])), (q3, .inl (cI, 4, .inl (fun _ => 0)))] H := hP
  have hD : va_D A [(h0, .inr (7, [.null, .null, .null, .null, .null, .null, .int 0, .int 0, .int 0, .int 0])), (q1, .inr (10, [.int 0, .int 0, .int 0, .int 0, .int 0, .int 0, .ref q3])), (q3, .inl (cI, 4, .inl (fun _ => 0)))] := hD
  refine va_putF (D := D) (ci := 7) (v := .ref q1) (ty := .object "TemplateForge$Tally") (C := RX7) (T := TX7) (N := 10) hx hb hts (fun _ h => List.mem_cons_of_mem _ (List.mem_append_left _ (List.mem_append_left _ (List.mem_append_right _ h)))) tyX7 tyX7_ok nmX7 hown hK hP hD hS 0 rfl rfl 3 (by decide) (hts (.fieldLink RX7 12 "TemplateForge$Machine" "tally" "LTemplateForge$Tally;") (List.mem_of_getElem? (i := 12) rfl)) (fun _ h9 => h9) rfl hin rfl (by decide +kernel) rfl rfl (Nat.le_of_ble_eq_true rfl) dX7_init_12 (fun H locs hP hD hS => ?_)
  have hP : va_P D vwCl [(h0, .inr (7, [.null, .null, .null, .ref q1, .null, .null, .int 0, .int 0, .int 0, .int 0])), (q1, .inr (10, [.int 0, .int 0, .int 0, .int 0, .int 0, .int 0, .ref q3])), (q3, .inl (cI, 4, .inl (fun _ => 0)))] H := hP
  have hD : va_D A [(h0, .inr (7, [.null, .null, .null, .ref q1, .null, .null, .int 0, .int 0, .int 0, .int 0])), (q1, .inr (10, [.int 0, .int 0, .int 0, .int 0, .int 0, .int 0, .ref q3])), (q3, .inl (cI, 4, .inl (fun _ => 0)))] := hD
  refine lv_aload_n hx hb dX7_init_15 rfl (lv_at hl 0 rfl) ?_
  refine lv_bipush (v := 16) hx hb dX7_init_16 (by decide) ?_
  refine z_newQ hx hb hown (hts (.classLink RX7 18 RX4) (List.mem_of_getElem? (i := 13) rfl)) hE.aoF hK 3 rfl hP hD hS hA (n := 16) (N' := 16) (by decide) (by decide) (Nat.le_of_ble_eq_true rfl) (Nat.le_of_ble_eq_true rfl) (Nat.le_of_ble_eq_true rfl) dX7_init_18 (fun q4 H hP hD hS => ?_)
  have hP : va_P D vwCl [(h0, .inr (7, [.null, .null, .null, .ref q1, .null, .null, .int 0, .int 0, .int 0, .int 0])), (q1, .inr (10, [.int 0, .int 0, .int 0, .int 0, .int 0, .int 0, .ref q3])), (q3, .inl (cI, 4, .inl (fun _ => 0))), (q4, .inl (cF, 16, .inr (.inr (.inr (.inr (fun _ => none))))))] H := hP
  have hD : va_D A [(h0, .inr (7, [.null, .null, .null, .ref q1, .null, .null, .int 0, .int 0, .int 0, .int 0])), (q1, .inr (10, [.int 0, .int 0, .int 0, .int 0, .int 0, .int 0, .ref q3])), (q3, .inl (cI, 4, .inl (fun _ => 0))), (q4, .inl (cF, 16, .inr (.inr (.inr (.inr (fun _ => none))))))] := hD
  refine va_putF (D := D) (ci := 7) (v := .ref q4) (ty := .array (.object "TemplateForge$Frame")) (C := RX7) (T := TX7) (N := 10) hx hb hts (fun _ h => List.mem_cons_of_mem _ (List.mem_append_left _ (List.mem_append_left _ (List.mem_append_right _ h)))) tyX7 tyX7_ok nmX7 hown hK hP hD hS 0 rfl rfl 4 (by decide) (hts (.fieldLink RX7 20 "TemplateForge$Machine" "frames" "[LTemplateForge$Frame;") (List.mem_of_getElem? (i := 14) rfl)) (fun _ h9 => h9) rfl hin rfl (by decide +kernel) rfl rfl (Nat.le_of_ble_eq_true rfl) dX7_init_21 (fun H locs hP hD hS => ?_)
  have hP : va_P D vwCl [(h0, .inr (7, [.null, .null, .null, .ref q1, .ref q4, .null, .int 0, .int 0, .int 0, .int 0])), (q1, .inr (10, [.int 0, .int 0, .int 0, .int 0, .int 0, .int 0, .ref q3])), (q3, .inl (cI, 4, .inl (fun _ => 0))), (q4, .inl (cF, 16, .inr (.inr (.inr (.inr (fun _ => none))))))] H := hP
  have hD : va_D A [(h0, .inr (7, [.null, .null, .null, .ref q1, .ref q4, .null, .int 0, .int 0, .int 0, .int 0])), (q1, .inr (10, [.int 0, .int 0, .int 0, .int 0, .int 0, .int 0, .ref q3])), (q3, .inl (cI, 4, .inl (fun _ => 0))), (q4, .inl (cF, 16, .inr (.inr (.inr (.inr (fun _ => none))))))] := hD
  refine lv_aload_n hx hb dX7_init_24 rfl (lv_at hl 0 rfl) ?_
  refine lv_iconst (v := 3) hx hb dX7_init_25 (by decide) ?_
  refine z_newI hx hb (hts (.arrayClass .int) (List.mem_of_getElem? (i := 9) rfl)) hK 0 rfl hP hD hS hA (n := 3) (N' := 3) (by decide) (by decide) (Nat.le_of_ble_eq_true rfl) (Nat.le_of_ble_eq_true rfl) (Nat.le_of_ble_eq_true rfl) dX7_init_26 (fun q5 H hP hD hS => ?_)
  have hP : va_P D vwCl [(h0, .inr (7, [.null, .null, .null, .ref q1, .ref q4, .null, .int 0, .int 0, .int 0, .int 0])), (q1, .inr (10, [.int 0, .int 0, .int 0, .int 0, .int 0, .int 0, .ref q3])), (q3, .inl (cI, 4, .inl (fun _ => 0))), (q4, .inl (cF, 16, .inr (.inr (.inr (.inr (fun _ => none)))))), (q5, .inl (cI, 3, .inl (fun _ => 0)))] H := hP
  have hD : va_D A [(h0, .inr (7, [.null, .null, .null, .ref q1, .ref q4, .null, .int 0, .int 0, .int 0, .int 0])), (q1, .inr (10, [.int 0, .int 0, .int 0, .int 0, .int 0, .int 0, .ref q3])), (q3, .inl (cI, 4, .inl (fun _ => 0))), (q4, .inl (cF, 16, .inr (.inr (.inr (.inr (fun _ => none)))))), (q5, .inl (cI, 3, .inl (fun _ => 0)))] := hD
  refine va_putF (D := D) (ci := 7) (v := .ref q5) (ty := .array .int) (C := RX7) (T := TX7) (N := 10) hx hb hts (fun _ h => List.mem_cons_of_mem _ (List.mem_append_left _ (List.mem_append_left _ (List.mem_append_right _ h)))) tyX7 tyX7_ok nmX7 hown hK hP hD hS 0 rfl rfl 5 (by decide) (hts (.fieldLink RX7 24 "TemplateForge$Machine" "handed" "[I") (List.mem_of_getElem? (i := 15) rfl)) (fun _ h9 => h9) rfl hin rfl (by decide +kernel) rfl rfl (Nat.le_of_ble_eq_true rfl) dX7_init_28 (fun H locs hP hD hS => ?_)
  have hP : va_P D vwCl [(h0, .inr (7, [.null, .null, .null, .ref q1, .ref q4, .ref q5, .int 0, .int 0, .int 0, .int 0])), (q1, .inr (10, [.int 0, .int 0, .int 0, .int 0, .int 0, .int 0, .ref q3])), (q3, .inl (cI, 4, .inl (fun _ => 0))), (q4, .inl (cF, 16, .inr (.inr (.inr (.inr (fun _ => none)))))), (q5, .inl (cI, 3, .inl (fun _ => 0)))] H := hP
  have hD : va_D A [(h0, .inr (7, [.null, .null, .null, .ref q1, .ref q4, .ref q5, .int 0, .int 0, .int 0, .int 0])), (q1, .inr (10, [.int 0, .int 0, .int 0, .int 0, .int 0, .int 0, .ref q3])), (q3, .inl (cI, 4, .inl (fun _ => 0))), (q4, .inl (cF, 16, .inr (.inr (.inr (.inr (fun _ => none)))))), (q5, .inl (cI, 3, .inl (fun _ => 0)))] := hD
  refine lv_aload_n hx hb dX7_init_31 rfl (lv_at hl 0 rfl) ?_
  refine lv_aload_n hx hb dX7_init_32 rfl (lv_at hl 1 rfl) ?_
  refine va_putF (D := D) (ci := 7) (v := .ref p1) (ty := .object "TemplateForge$Book") (C := RX7) (T := TX7) (N := 10) hx hb hts (fun _ h => List.mem_cons_of_mem _ (List.mem_append_left _ (List.mem_append_left _ (List.mem_append_right _ h)))) tyX7 tyX7_ok nmX7 hown hK hP hD hS 0 rfl rfl 0 (by decide) (hts (.fieldLink RX7 28 "TemplateForge$Machine" "book" "LTemplateForge$Book;") (List.mem_of_getElem? (i := 16) rfl)) (fun _ h9 => h9) rfl hin rfl (by decide +kernel) rfl rfl (Nat.le_of_ble_eq_true rfl) dX7_init_33 (fun H locs hP hD hS => ?_)
  have hP : va_P D vwCl [(h0, .inr (7, [.ref p1, .null, .null, .ref q1, .ref q4, .ref q5, .int 0, .int 0, .int 0, .int 0])), (q1, .inr (10, [.int 0, .int 0, .int 0, .int 0, .int 0, .int 0, .ref q3])), (q3, .inl (cI, 4, .inl (fun _ => 0))), (q4, .inl (cF, 16, .inr (.inr (.inr (.inr (fun _ => none)))))), (q5, .inl (cI, 3, .inl (fun _ => 0)))] H := hP
  have hD : va_D A [(h0, .inr (7, [.ref p1, .null, .null, .ref q1, .ref q4, .ref q5, .int 0, .int 0, .int 0, .int 0])), (q1, .inr (10, [.int 0, .int 0, .int 0, .int 0, .int 0, .int 0, .ref q3])), (q3, .inl (cI, 4, .inl (fun _ => 0))), (q4, .inl (cF, 16, .inr (.inr (.inr (.inr (fun _ => none)))))), (q5, .inl (cI, 3, .inl (fun _ => 0)))] := hD
  refine lv_aload_n hx hb dX7_init_36 rfl (lv_at hl 0 rfl) ?_
  refine lv_aload_n hx hb dX7_init_37 rfl (lv_at hl 2 rfl) ?_
  refine va_putF (D := D) (ci := 7) (v := .ref p2) (ty := .object "TemplateForge$Data") (C := RX7) (T := TX7) (N := 10) hx hb hts (fun _ h => List.mem_cons_of_mem _ (List.mem_append_left _ (List.mem_append_left _ (List.mem_append_right _ h)))) tyX7 tyX7_ok nmX7 hown hK hP hD hS 0 rfl rfl 1 (by decide) (hts (.fieldLink RX7 32 "TemplateForge$Machine" "data" "LTemplateForge$Data;") (List.mem_of_getElem? (i := 17) rfl)) (fun _ h9 => h9) rfl hin rfl (by decide +kernel) rfl rfl (Nat.le_of_ble_eq_true rfl) dX7_init_38 (fun H locs hP hD hS => ?_)
  have hP : va_P D vwCl [(h0, .inr (7, [.ref p1, .ref p2, .null, .ref q1, .ref q4, .ref q5, .int 0, .int 0, .int 0, .int 0])), (q1, .inr (10, [.int 0, .int 0, .int 0, .int 0, .int 0, .int 0, .ref q3])), (q3, .inl (cI, 4, .inl (fun _ => 0))), (q4, .inl (cF, 16, .inr (.inr (.inr (.inr (fun _ => none)))))), (q5, .inl (cI, 3, .inl (fun _ => 0)))] H := hP
  have hD : va_D A [(h0, .inr (7, [.ref p1, .ref p2, .null, .ref q1, .ref q4, .ref q5, .int 0, .int 0, .int 0, .int 0])), (q1, .inr (10, [.int 0, .int 0, .int 0, .int 0, .int 0, .int 0, .ref q3])), (q3, .inl (cI, 4, .inl (fun _ => 0))), (q4, .inl (cF, 16, .inr (.inr (.inr (.inr (fun _ => none)))))), (q5, .inl (cI, 3, .inl (fun _ => 0)))] := hD
  refine lv_aload_n hx hb dX7_init_41 rfl (lv_at hl 0 rfl) ?_
  refine va_new (ci := 9) (fs := [.null, .null, .null, .null, .null]) (C := RX9) (T := TX9) (N := 5) hx hb hts (fun _ h => List.mem_cons_of_mem _ (List.mem_append_left _ (List.mem_append_right _ h))) tyX9 tyX9_ok hown (hts (.classLink RX7 36 RX9) (List.mem_of_getElem? (i := 18) rfl)) (hts (.instantiable RX9 5) (List.mem_of_getElem? (i := 19) rfl)) (hts (.initialized RX9) (List.mem_of_getElem? (i := 20) rfl)) hK hP hD hS hA rfl (fun j hj => by rcases (show j = 0 ∨ j = 1 ∨ j = 2 ∨ j = 3 ∨ j = 4 by omega) with rfl | rfl | rfl | rfl | rfl <;> rfl) (Nat.le_of_ble_eq_true rfl) (Nat.le_of_ble_eq_true rfl) dX7_init_42 (fun q6 H hP hD hS => ?_)
  have hP : va_P D vwCl [(h0, .inr (7, [.ref p1, .ref p2, .null, .ref q1, .ref q4, .ref q5, .int 0, .int 0, .int 0, .int 0])), (q1, .inr (10, [.int 0, .int 0, .int 0, .int 0, .int 0, .int 0, .ref q3])), (q3, .inl (cI, 4, .inl (fun _ => 0))), (q4, .inl (cF, 16, .inr (.inr (.inr (.inr (fun _ => none)))))), (q5, .inl (cI, 3, .inl (fun _ => 0))), (q6, .inr (9, [.null, .null, .null, .null, .null]))] H := hP
  have hD : va_D A [(h0, .inr (7, [.ref p1, .ref p2, .null, .ref q1, .ref q4, .ref q5, .int 0, .int 0, .int 0, .int 0])), (q1, .inr (10, [.int 0, .int 0, .int 0, .int 0, .int 0, .int 0, .ref q3])), (q3, .inl (cI, 4, .inl (fun _ => 0))), (q4, .inl (cF, 16, .inr (.inr (.inr (.inr (fun _ => none)))))), (q5, .inl (cI, 3, .inl (fun _ => 0))), (q6, .inr (9, [.null, .null, .null, .null, .null]))] := hD
  refine lv_dup hx hb dX7_init_45 rfl ?_
  refine lv_aload_n hx hb dX7_init_46 rfl (lv_at hl 3 rfl) ?_
  have hPc := hP.sub (ws' := [(q6, .inr (9, [.null, .null, .null, .null, .null]))]) [5] rfl
  have hDc := hD.sub (ws' := [(q6, .inr (9, [.null, .null, .null, .null, .null]))]) [5] (by decide) rfl
  have hFc := va_free (wc := [(q6, .inr (9, [.null, .null, .null, .null, .null]))]) hD hS hA [5] rfl
  refine va_callv (va_runI (As := [.ref p3]) (rest := [.ref q6, .ref h0]) ⟨hx, hb, hml, hown, hts⟩ (zc_X9_init l D cI cZ cP cF q6 p3 H.size) (cwI 1 hts zg_zc_X7_init_zc_X9_init rfl rfl rfl (hts (.initialized RX9) (List.mem_of_getElem? (i := 20) rfl)) (hts (.methodLink RX7 38 yX9_init) (List.mem_of_getElem? (i := 30) rfl)) (hts (.instanceMethod yX9_init) (List.mem_of_getElem? (i := 29) rfl)) rfl (by decide +kernel) ⟨Nat.le_of_ble_eq_true rfl, Nat.le_of_ble_eq_true rfl⟩) ⟨zBW, fun U hU hW => ⟨rfl, by rw [hU], by rw [hU]; exact hPc, hE.warm hW, hDc.weaken (fun _ _ _ _ => trivial)⟩⟩ rfl rfl hl.1 rfl (lv_room (Nat.le_of_ble_eq_true rfl)) dX7_init_47 ⟨Nat.le_of_ble_eq_true rfl, Nat.le_of_ble_eq_true rfl⟩) hS (fun q _ h => hFc q h) hFc (fun u t H1 locs ht hvm h_47_7 hB hz1 hk1 hS => ?_)
  obtain ⟨hP1, hD1⟩ := hB
  rw [ht] at hP1
  obtain ⟨hP, hD⟩ := va_join (wr := [(h0, .inr (7, [.ref p1, .ref p2, .null, .ref q1, .ref q4, .ref q5, .int 0, .int 0, .int 0, .int 0])), (q1, .inr (10, [.int 0, .int 0, .int 0, .int 0, .int 0, .int 0, .ref q3])), (q3, .inl (cI, 4, .inl (fun _ => 0))), (q4, .inl (cF, 16, .inr (.inr (.inr (.inr (fun _ => none)))))), (q5, .inl (cI, 3, .inl (fun _ => 0)))]) (w1 := []) hP hD [5] [0, 1, 2, 3, 4] rfl rfl (by decide) (by decide) hk1 hFc hP1 hD1
  generalize H1 = H at hP hS ⊢
  have hP : va_P D vwCl [(h0, .inr (7, [.ref p1, .ref p2, .null, .ref q1, .ref q4, .ref q5, .int 0, .int 0, .int 0, .int 0])), (q1, .inr (10, [.int 0, .int 0, .int 0, .int 0, .int 0, .int 0, .ref q3])), (q3, .inl (cI, 4, .inl (fun _ => 0))), (q4, .inl (cF, 16, .inr (.inr (.inr (.inr (fun _ => none)))))), (q5, .inl (cI, 3, .inl (fun _ => 0)))] H := hP
  have hD : va_D A [(h0, .inr (7, [.ref p1, .ref p2, .null, .ref q1, .ref q4, .ref q5, .int 0, .int 0, .int 0, .int 0])), (q1, .inr (10, [.int 0, .int 0, .int 0, .int 0, .int 0, .int 0, .ref q3])), (q3, .inl (cI, 4, .inl (fun _ => 0))), (q4, .inl (cF, 16, .inr (.inr (.inr (.inr (fun _ => none)))))), (q5, .inl (cI, 3, .inl (fun _ => 0)))] := hD
  refine va_putF (D := D) (ci := 7) (v := .ref q6) (ty := .object "TemplateForge$Smith") (C := RX7) (T := TX7) (N := 10) hx hb hts (fun _ h => List.mem_cons_of_mem _ (List.mem_append_left _ (List.mem_append_left _ (List.mem_append_right _ h)))) tyX7 tyX7_ok nmX7 hown hK hP hD hS 0 rfl rfl 2 (by decide) (hts (.fieldLink RX7 41 "TemplateForge$Machine" "smith" "LTemplateForge$Smith;") (List.mem_of_getElem? (i := 31) rfl)) (fun _ h9 => h9) rfl hin rfl (by decide +kernel) rfl rfl (Nat.le_of_ble_eq_true rfl) dX7_init_50 (fun H locs hP hD hS => ?_)
  have hP : va_P D vwCl [(h0, .inr (7, [.ref p1, .ref p2, .ref q6, .ref q1, .ref q4, .ref q5, .int 0, .int 0, .int 0, .int 0])), (q1, .inr (10, [.int 0, .int 0, .int 0, .int 0, .int 0, .int 0, .ref q3])), (q3, .inl (cI, 4, .inl (fun _ => 0))), (q4, .inl (cF, 16, .inr (.inr (.inr (.inr (fun _ => none)))))), (q5, .inl (cI, 3, .inl (fun _ => 0)))] H := hP
  have hD : va_D A [(h0, .inr (7, [.ref p1, .ref p2, .ref q6, .ref q1, .ref q4, .ref q5, .int 0, .int 0, .int 0, .int 0])), (q1, .inr (10, [.int 0, .int 0, .int 0, .int 0, .int 0, .int 0, .ref q3])), (q3, .inl (cI, 4, .inl (fun _ => 0))), (q4, .inl (cF, 16, .inr (.inr (.inr (.inr (fun _ => none)))))), (q5, .inl (cI, 3, .inl (fun _ => 0)))] := hD
  refine lv_iconst (v := 0) hx hb dX7_init_53 (by decide) ?_
  refine lv_istore (lv' := [(4, .int 0), (0, .ref h0), (1, .ref p1), (2, .ref p2), (3, .ref p3)]) hx hb dX7_init_54 hl (by decide) rfl (fun ls hl => ?_)
  refine lv_iload hx hb dX7_init_56 (lv_at hl 0 rfl) ?_
  refine lv_bipush (v := 16) hx hb dX7_init_58 (by decide) ?_
  refine lv_icmp_ge (tgt := 83) hx hb dX7_init_60 (by decide) (fun c => absurd c (by decide)) (fun _ => ?_)
  refine lv_aload_n hx hb dX7_init_63 rfl (lv_at hl 1 rfl) ?_
  refine va_get (D := D) (ci := 7) (v := .ref q4) (C := RX7) (T := TX7) (N := 10) hx hb hts (fun _ h => List.mem_cons_of_mem _ (List.mem_append_left _ (List.mem_append_left _ (List.mem_append_right _ h)))) hown hK hP 0 rfl rfl 4 (by decide) (hts (.fieldLink RX7 20 "TemplateForge$Machine" "frames" "[LTemplateForge$Frame;") (List.mem_of_getElem? (i := 14) rfl)) (fun _ h9 => h9) rfl dX7_init_64 ?_
  refine lv_iload hx hb dX7_init_67 (lv_at hl 0 rfl) ?_
  refine va_new (ci := 4) (fs := [.null, .null, .int 0, .int 0, .null]) (C := RX4) (T := TX4) (N := 5) hx hb hts (fun _ h => List.mem_cons_of_mem _ (List.mem_append_right _ h)) tyX4 tyX4_ok hown (hts (.classLink RX7 18 RX4) (List.mem_of_getElem? (i := 13) rfl)) (hts (.instantiable RX4 5) (List.mem_of_getElem? (i := 32) rfl)) (hts (.initialized RX4) (List.mem_of_getElem? (i := 33) rfl)) hK hP hD hS hA rfl (fun j hj => by rcases (show j = 0 ∨ j = 1 ∨ j = 2 ∨ j = 3 ∨ j = 4 by omega) with rfl | rfl | rfl | rfl | rfl <;> rfl) (Nat.le_of_ble_eq_true rfl) (Nat.le_of_ble_eq_true rfl) dX7_init_69 (fun q8 H hP hD hS => ?_)
  have hP : va_P D vwCl [(h0, .inr (7, [.ref p1, .ref p2, .ref q6, .ref q1, .ref q4, .ref q5, .int 0, .int 0, .int 0, .int 0])), (q1, .inr (10, [.int 0, .int 0, .int 0, .int 0, .int 0, .int 0, .ref q3])), (q3, .inl (cI, 4, .inl (fun _ => 0))), (q4, .inl (cF, 16, .inr (.inr (.inr (.inr (fun _ => none)))))), (q5, .inl (cI, 3, .inl (fun _ => 0))), (q8, .inr (4, [.null, .null, .int 0, .int 0, .null]))] H := hP
  have hD : va_D A [(h0, .inr (7, [.ref p1, .ref p2, .ref q6, .ref q1, .ref q4, .ref q5, .int 0, .int 0, .int 0, .int 0])), (q1, .inr (10, [.int 0, .int 0, .int 0, .int 0, .int 0, .int 0, .ref q3])), (q3, .inl (cI, 4, .inl (fun _ => 0))), (q4, .inl (cF, 16, .inr (.inr (.inr (.inr (fun _ => none)))))), (q5, .inl (cI, 3, .inl (fun _ => 0))), (q8, .inr (4, [.null, .null, .int 0, .int 0, .null]))] := hD
  refine lv_dup hx hb dX7_init_72 rfl ?_
  have hPc := hP.sub (ws' := [(q8, .inr (4, [.null, .null, .int 0, .int 0, .null]))]) [5] rfl
  have hDc := hD.sub (ws' := [(q8, .inr (4, [.null, .null, .int 0, .int 0, .null]))]) [5] (by decide) rfl
  have hFc := va_free (wc := [(q8, .inr (4, [.null, .null, .int 0, .int 0, .null]))]) hD hS hA [5] rfl
  refine va_callv (va_runIN (As := []) (rest := [.ref q8, .int 0, .ref q4]) ⟨hx, hb, hml, hown, hts⟩ (zc_X4_init l D cI cZ cP cF q8 H.size) ⟨va_cnB 0 hts zg_zc_X7_init_zc_X4_init rfl rfl rfl hE.nX7_45 (hts (.initialized RX4) (List.mem_of_getElem? (i := 33) rfl)) (by decide +kernel) ⟨Nat.le_of_ble_eq_true rfl, Nat.le_of_ble_eq_true rfl⟩, rfl, (hts (.instanceMethod yX4_init) (List.mem_of_getElem? (i := 37) rfl))⟩ ⟨zBW, fun U hU hW => ⟨rfl, by rw [hU], by rw [hU]; exact hPc, hE.warm hW, hDc.weaken (fun _ _ _ _ => trivial)⟩⟩ rfl rfl hl.1 rfl (lv_room (Nat.le_of_ble_eq_true rfl)) dX7_init_73 ⟨Nat.le_of_ble_eq_true rfl, Nat.le_of_ble_eq_true rfl⟩) hS (fun q _ h => hFc q h) hFc (fun u t H1 locs ht hvm h_73_9 hB hz1 hk1 hS => ?_)
  obtain ⟨q10, hP1, hD1⟩ := hB
  rw [ht] at hP1
  obtain ⟨hP, hD⟩ := va_join (wr := [(h0, .inr (7, [.ref p1, .ref p2, .ref q6, .ref q1, .ref q4, .ref q5, .int 0, .int 0, .int 0, .int 0])), (q1, .inr (10, [.int 0, .int 0, .int 0, .int 0, .int 0, .int 0, .ref q3])), (q3, .inl (cI, 4, .inl (fun _ => 0))), (q4, .inl (cF, 16, .inr (.inr (.inr (.inr (fun _ => none)))))), (q5, .inl (cI, 3, .inl (fun _ => 0)))]) (w1 := [(q8, .inr (4, [.null, .null, .int 0, .int 0, .ref q10]))]) hP hD [5] [0, 1, 2, 3, 4] rfl rfl (by decide) (by decide) hk1 hFc hP1 hD1
  generalize H1 = H at hP hS ⊢
  have hP : va_P D vwCl [(h0, .inr (7, [.ref p1, .ref p2, .ref q6, .ref q1, .ref q4, .ref q5, .int 0, .int 0, .int 0, .int 0])), (q1, .inr (10, [.int 0, .int 0, .int 0, .int 0, .int 0, .int 0, .ref q3])), (q3, .inl (cI, 4, .inl (fun _ => 0))), (q4, .inl (cF, 16, .inr (.inr (.inr (.inr (fun _ => none)))))), (q5, .inl (cI, 3, .inl (fun _ => 0))), (q8, .inr (4, [.null, .null, .int 0, .int 0, .ref q10]))] H := hP
  have hD : va_D A [(h0, .inr (7, [.ref p1, .ref p2, .ref q6, .ref q1, .ref q4, .ref q5, .int 0, .int 0, .int 0, .int 0])), (q1, .inr (10, [.int 0, .int 0, .int 0, .int 0, .int 0, .int 0, .ref q3])), (q3, .inl (cI, 4, .inl (fun _ => 0))), (q4, .inl (cF, 16, .inr (.inr (.inr (.inr (fun _ => none)))))), (q5, .inl (cI, 3, .inl (fun _ => 0))), (q8, .inr (4, [.null, .null, .int 0, .int 0, .ref q10]))] := hD
  have hin_76 : vp_in 0 16 := by unfold vp_in; decide
  refine va_astq hx hb hK hP hD hS 3 3 5 4 rfl rfl rfl rfl hin_76 dX7_init_76 (fun H locs hP hD hS => ?_)
  have hP : va_P D vwCl [(h0, .inr (7, [.ref p1, .ref p2, .ref q6, .ref q1, .ref q4, .ref q5, .int 0, .int 0, .int 0, .int 0])), (q1, .inr (10, [.int 0, .int 0, .int 0, .int 0, .int 0, .int 0, .ref q3])), (q3, .inl (cI, 4, .inl (fun _ => 0))), (q4, .inl (cF, 16, .inr (.inr (.inr (.inr (va_up (fun _ => none) (0 : Int32).toNatClampNeg (some q8))))))), (q5, .inl (cI, 3, .inl (fun _ => 0))), (q8, .inr (4, [.null, .null, .int 0, .int 0, .ref q10]))] H := hP
  have hD : va_D A [(h0, .inr (7, [.ref p1, .ref p2, .ref q6, .ref q1, .ref q4, .ref q5, .int 0, .int 0, .int 0, .int 0])), (q1, .inr (10, [.int 0, .int 0, .int 0, .int 0, .int 0, .int 0, .ref q3])), (q3, .inl (cI, 4, .inl (fun _ => 0))), (q4, .inl (cF, 16, .inr (.inr (.inr (.inr (va_up (fun _ => none) (0 : Int32).toNatClampNeg (some q8))))))), (q5, .inl (cI, 3, .inl (fun _ => 0))), (q8, .inr (4, [.null, .null, .int 0, .int 0, .ref q10]))] := hD
  have hP := hP.sub (ws' := [(h0, .inr (7, [.ref p1, .ref p2, .ref q6, .ref q1, .ref q4, .ref q5, .int 0, .int 0, .int 0, .int 0])), (q1, .inr (10, [.int 0, .int 0, .int 0, .int 0, .int 0, .int 0, .ref q3])), (q3, .inl (cI, 4, .inl (fun _ => 0))), (q4, .inl (cF, 16, .inr (.inr (.inr (.inr (va_up (fun _ => none) (0 : Int32).toNatClampNeg (some q8))))))), (q5, .inl (cI, 3, .inl (fun _ => 0)))]) [0, 1, 2, 3, 4] rfl
  have hD := hD.sub (ws' := [(h0, .inr (7, [.ref p1, .ref p2, .ref q6, .ref q1, .ref q4, .ref q5, .int 0, .int 0, .int 0, .int 0])), (q1, .inr (10, [.int 0, .int 0, .int 0, .int 0, .int 0, .int 0, .ref q3])), (q3, .inl (cI, 4, .inl (fun _ => 0))), (q4, .inl (cF, 16, .inr (.inr (.inr (.inr (va_up (fun _ => none) (0 : Int32).toNatClampNeg (some q8))))))), (q5, .inl (cI, 3, .inl (fun _ => 0)))]) [0, 1, 2, 3, 4] (by decide) rfl
  generalize (va_up (fun _ => none) (0 : Int32).toNatClampNeg (some q8)) = ff_11 at hP hD
  refine lv_iinc (v := 1) (lv' := [(4, .int 1), (0, .ref h0), (1, .ref p1), (2, .ref p2), (3, .ref p3)]) hx hb dX7_init_77 hl (k := 0) rfl (by decide) (by decide) rfl (fun ls hl => ?_)
  refine lv_goto (tgt := 56) hx hb dX7_init_80 (by decide) ?_
  refine lv_iload hx hb dX7_init_56 (lv_at hl 0 rfl) ?_
  refine lv_bipush (v := 16) hx hb dX7_init_58 (by decide) ?_
  refine lv_icmp_ge (tgt := 83) hx hb dX7_init_60 (by decide) (fun c => absurd c (by decide)) (fun _ => ?_)
  refine lv_aload_n hx hb dX7_init_63 rfl (lv_at hl 1 rfl) ?_
  refine va_get (D := D) (ci := 7) (v := .ref q4) (C := RX7) (T := TX7) (N := 10) hx hb hts (fun _ h => List.mem_cons_of_mem _ (List.mem_append_left _ (List.mem_append_left _ (List.mem_append_right _ h)))) hown hK hP 0 rfl rfl 4 (by decide) (hts (.fieldLink RX7 20 "TemplateForge$Machine" "frames" "[LTemplateForge$Frame;") (List.mem_of_getElem? (i := 14) rfl)) (fun _ h9 => h9) rfl dX7_init_64 ?_
  refine lv_iload hx hb dX7_init_67 (lv_at hl 0 rfl) ?_
  refine va_new (ci := 4) (fs := [.null, .null, .int 0, .int 0, .null]) (C := RX4) (T := TX4) (N := 5) hx hb hts (fun _ h => List.mem_cons_of_mem _ (List.mem_append_right _ h)) tyX4 tyX4_ok hown (hts (.classLink RX7 18 RX4) (List.mem_of_getElem? (i := 13) rfl)) (hts (.instantiable RX4 5) (List.mem_of_getElem? (i := 32) rfl)) (hts (.initialized RX4) (List.mem_of_getElem? (i := 33) rfl)) hK hP hD hS hA rfl (fun j hj => by rcases (show j = 0 ∨ j = 1 ∨ j = 2 ∨ j = 3 ∨ j = 4 by omega) with rfl | rfl | rfl | rfl | rfl <;> rfl) (Nat.le_of_ble_eq_true rfl) (Nat.le_of_ble_eq_true rfl) dX7_init_69 (fun q12 H hP hD hS => ?_)
  have hP : va_P D vwCl [(h0, .inr (7, [.ref p1, .ref p2, .ref q6, .ref q1, .ref q4, .ref q5, .int 0, .int 0, .int 0, .int 0])), (q1, .inr (10, [.int 0, .int 0, .int 0, .int 0, .int 0, .int 0, .ref q3])), (q3, .inl (cI, 4, .inl (fun _ => 0))), (q4, .inl (cF, 16, .inr (.inr (.inr (.inr ff_11))))), (q5, .inl (cI, 3, .inl (fun _ => 0))), (q12, .inr (4, [.null, .null, .int 0, .int 0, .null]))] H := hP
  have hD : va_D A [(h0, .inr (7, [.ref p1, .ref p2, .ref q6, .ref q1, .ref q4, .ref q5, .int 0, .int 0, .int 0, .int 0])), (q1, .inr (10, [.int 0, .int 0, .int 0, .int 0, .int 0, .int 0, .ref q3])), (q3, .inl (cI, 4, .inl (fun _ => 0))), (q4, .inl (cF, 16, .inr (.inr (.inr (.inr ff_11))))), (q5, .inl (cI, 3, .inl (fun _ => 0))), (q12, .inr (4, [.null, .null, .int 0, .int 0, .null]))] := hD
  refine lv_dup hx hb dX7_init_72 rfl ?_
  have hPc := hP.sub (ws' := [(q12, .inr (4, [.null, .null, .int 0, .int 0, .null]))]) [5] rfl
  have hDc := hD.sub (ws' := [(q12, .inr (4, [.null, .null, .int 0, .int 0, .null]))]) [5] (by decide) rfl
  have hFc := va_free (wc := [(q12, .inr (4, [.null, .null, .int 0, .int 0, .null]))]) hD hS hA [5] rfl
  refine va_callv (va_runIN (As := []) (rest := [.ref q12, .int 1, .ref q4]) ⟨hx, hb, hml, hown, hts⟩ (zc_X4_init l D cI cZ cP cF q12 H.size) ⟨va_cnB 0 hts zg_zc_X7_init_zc_X4_init rfl rfl rfl hE.nX7_45 (hts (.initialized RX4) (List.mem_of_getElem? (i := 33) rfl)) (by decide +kernel) ⟨Nat.le_of_ble_eq_true rfl, Nat.le_of_ble_eq_true rfl⟩, rfl, (hts (.instanceMethod yX4_init) (List.mem_of_getElem? (i := 37) rfl))⟩ ⟨zBW, fun U hU hW => ⟨rfl, by rw [hU], by rw [hU]; exact hPc, hE.warm hW, hDc.weaken (fun _ _ _ _ => trivial)⟩⟩ rfl rfl hl.1 rfl (lv_room (Nat.le_of_ble_eq_true rfl)) dX7_init_73 ⟨Nat.le_of_ble_eq_true rfl, Nat.le_of_ble_eq_true rfl⟩) hS (fun q _ h => hFc q h) hFc (fun u t H1 locs ht hvm h_73_13 hB hz1 hk1 hS => ?_)
  obtain ⟨q14, hP1, hD1⟩ := hB
  rw [ht] at hP1
  obtain ⟨hP, hD⟩ := va_join (wr := [(h0, .inr (7, [.ref p1, .ref p2, .ref q6, .ref q1, .ref q4, .ref q5, .int 0, .int 0, .int 0, .int 0])), (q1, .inr (10, [.int 0, .int 0, .int 0, .int 0, .int 0, .int 0, .ref q3])), (q3, .inl (cI, 4, .inl (fun _ => 0))), (q4, .inl (cF, 16, .inr (.inr (.inr (.inr ff_11))))), (q5, .inl (cI, 3, .inl (fun _ => 0)))]) (w1 := [(q12, .inr (4, [.null, .null, .int 0, .int 0, .ref q14]))]) hP hD [5] [0, 1, 2, 3, 4] rfl rfl (by decide) (by decide) hk1 hFc hP1 hD1
  generalize H1 = H at hP hS ⊢
  have hP : va_P D vwCl [(h0, .inr (7, [.ref p1, .ref p2, .ref q6, .ref q1, .ref q4, .ref q5, .int 0, .int 0, .int 0, .int 0])), (q1, .inr (10, [.int 0, .int 0, .int 0, .int 0, .int 0, .int 0, .ref q3])), (q3, .inl (cI, 4, .inl (fun _ => 0))), (q4, .inl (cF, 16, .inr (.inr (.inr (.inr ff_11))))), (q5, .inl (cI, 3, .inl (fun _ => 0))), (q12, .inr (4, [.null, .null, .int 0, .int 0, .ref q14]))] H := hP
  have hD : va_D A [(h0, .inr (7, [.ref p1, .ref p2, .ref q6, .ref q1, .ref q4, .ref q5, .int 0, .int 0, .int 0, .int 0])), (q1, .inr (10, [.int 0, .int 0, .int 0, .int 0, .int 0, .int 0, .ref q3])), (q3, .inl (cI, 4, .inl (fun _ => 0))), (q4, .inl (cF, 16, .inr (.inr (.inr (.inr ff_11))))), (q5, .inl (cI, 3, .inl (fun _ => 0))), (q12, .inr (4, [.null, .null, .int 0, .int 0, .ref q14]))] := hD
  have hin_76 : vp_in 1 16 := by unfold vp_in; decide
  refine va_astq hx hb hK hP hD hS 3 3 5 4 rfl rfl rfl rfl hin_76 dX7_init_76 (fun H locs hP hD hS => ?_)
  have hP : va_P D vwCl [(h0, .inr (7, [.ref p1, .ref p2, .ref q6, .ref q1, .ref q4, .ref q5, .int 0, .int 0, .int 0, .int 0])), (q1, .inr (10, [.int 0, .int 0, .int 0, .int 0, .int 0, .int 0, .ref q3])), (q3, .inl (cI, 4, .inl (fun _ => 0))), (q4, .inl (cF, 16, .inr (.inr (.inr (.inr (va_up ff_11 (1 : Int32).toNatClampNeg (some q12))))))), (q5, .inl (cI, 3, .inl (fun _ => 0))), (q12, .inr (4, [.null, .null, .int 0, .int 0, .ref q14]))] H := hP
  have hD : va_D A [(h0, .inr (7, [.ref p1, .ref p2, .ref q6, .ref q1, .ref q4, .ref q5, .int 0, .int 0, .int 0, .int 0])), (q1, .inr (10, [.int 0, .int 0, .int 0, .int 0, .int 0, .int 0, .ref q3])), (q3, .inl (cI, 4, .inl (fun _ => 0))), (q4, .inl (cF, 16, .inr (.inr (.inr (.inr (va_up ff_11 (1 : Int32).toNatClampNeg (some q12))))))), (q5, .inl (cI, 3, .inl (fun _ => 0))), (q12, .inr (4, [.null, .null, .int 0, .int 0, .ref q14]))] := hD
  have hP := hP.sub (ws' := [(h0, .inr (7, [.ref p1, .ref p2, .ref q6, .ref q1, .ref q4, .ref q5, .int 0, .int 0, .int 0, .int 0])), (q1, .inr (10, [.int 0, .int 0, .int 0, .int 0, .int 0, .int 0, .ref q3])), (q3, .inl (cI, 4, .inl (fun _ => 0))), (q4, .inl (cF, 16, .inr (.inr (.inr (.inr (va_up ff_11 (1 : Int32).toNatClampNeg (some q12))))))), (q5, .inl (cI, 3, .inl (fun _ => 0)))]) [0, 1, 2, 3, 4] rfl
  have hD := hD.sub (ws' := [(h0, .inr (7, [.ref p1, .ref p2, .ref q6, .ref q1, .ref q4, .ref q5, .int 0, .int 0, .int 0, .int 0])), (q1, .inr (10, [.int 0, .int 0, .int 0, .int 0, .int 0, .int 0, .ref q3])), (q3, .inl (cI, 4, .inl (fun _ => 0))), (q4, .inl (cF, 16, .inr (.inr (.inr (.inr (va_up ff_11 (1 : Int32).toNatClampNeg (some q12))))))), (q5, .inl (cI, 3, .inl (fun _ => 0)))]) [0, 1, 2, 3, 4] (by decide) rfl
  generalize (va_up ff_11 (1 : Int32).toNatClampNeg (some q12)) = ff_15 at hP hD
  refine lv_iinc (v := 2) (lv' := [(4, .int 2), (0, .ref h0), (1, .ref p1), (2, .ref p2), (3, .ref p3)]) hx hb dX7_init_77 hl (k := 0) rfl (by decide) (by decide) rfl (fun ls hl => ?_)
  refine lv_goto (tgt := 56) hx hb dX7_init_80 (by decide) ?_
  refine lv_iload hx hb dX7_init_56 (lv_at hl 0 rfl) ?_
  refine lv_bipush (v := 16) hx hb dX7_init_58 (by decide) ?_
  refine lv_icmp_ge (tgt := 83) hx hb dX7_init_60 (by decide) (fun c => absurd c (by decide)) (fun _ => ?_)
  refine lv_aload_n hx hb dX7_init_63 rfl (lv_at hl 1 rfl) ?_
  refine va_get (D := D) (ci := 7) (v := .ref q4) (C := RX7) (T := TX7) (N := 10) hx hb hts (fun _ h => List.mem_cons_of_mem _ (List.mem_append_left _ (List.mem_append_left _ (List.mem_append_right _ h)))) hown hK hP 0 rfl rfl 4 (by decide) (hts (.fieldLink RX7 20 "TemplateForge$Machine" "frames" "[LTemplateForge$Frame;") (List.mem_of_getElem? (i := 14) rfl)) (fun _ h9 => h9) rfl dX7_init_64 ?_
  refine lv_iload hx hb dX7_init_67 (lv_at hl 0 rfl) ?_
  refine va_new (ci := 4) (fs := [.null, .null, .int 0, .int 0, .null]) (C := RX4) (T := TX4) (N := 5) hx hb hts (fun _ h => List.mem_cons_of_mem _ (List.mem_append_right _ h)) tyX4 tyX4_ok hown (hts (.classLink RX7 18 RX4) (List.mem_of_getElem? (i := 13) rfl)) (hts (.instantiable RX4 5) (List.mem_of_getElem? (i := 32) rfl)) (hts (.initialized RX4) (List.mem_of_getElem? (i := 33) rfl)) hK hP hD hS hA rfl (fun j hj => by rcases (show j = 0 ∨ j = 1 ∨ j = 2 ∨ j = 3 ∨ j = 4 by omega) with rfl | rfl | rfl | rfl | rfl <;> rfl) (Nat.le_of_ble_eq_true rfl) (Nat.le_of_ble_eq_true rfl) dX7_init_69 (fun q16 H hP hD hS => ?_)
  have hP : va_P D vwCl [(h0, .inr (7, [.ref p1, .ref p2, .ref q6, .ref q1, .ref q4, .ref q5, .int 0, .int 0, .int 0, .int 0])), (q1, .inr (10, [.int 0, .int 0, .int 0, .int 0, .int 0, .int 0, .ref q3])), (q3, .inl (cI, 4, .inl (fun _ => 0))), (q4, .inl (cF, 16, .inr (.inr (.inr (.inr ff_15))))), (q5, .inl (cI, 3, .inl (fun _ => 0))), (q16, .inr (4, [.null, .null, .int 0, .int 0, .null]))] H := hP
  have hD : va_D A [(h0, .inr (7, [.ref p1, .ref p2, .ref q6, .ref q1, .ref q4, .ref q5, .int 0, .int 0, .int 0, .int 0])), (q1, .inr (10, [.int 0, .int 0, .int 0, .int 0, .int 0, .int 0, .ref q3])), (q3, .inl (cI, 4, .inl (fun _ => 0))), (q4, .inl (cF, 16, .inr (.inr (.inr (.inr ff_15))))), (q5, .inl (cI, 3, .inl (fun _ => 0))), (q16, .inr (4, [.null, .null, .int 0, .int 0, .null]))] := hD
  refine lv_dup hx hb dX7_init_72 rfl ?_
  have hPc := hP.sub (ws' := [(q16, .inr (4, [.null, .null, .int 0, .int 0, .null]))]) [5] rfl
  have hDc := hD.sub (ws' := [(q16, .inr (4, [.null, .null, .int 0, .int 0, .null]))]) [5] (by decide) rfl
  have hFc := va_free (wc := [(q16, .inr (4, [.null, .null, .int 0, .int 0, .null]))]) hD hS hA [5] rfl
  refine va_callv (va_runIN (As := []) (rest := [.ref q16, .int 2, .ref q4]) ⟨hx, hb, hml, hown, hts⟩ (zc_X4_init l D cI cZ cP cF q16 H.size) ⟨va_cnB 0 hts zg_zc_X7_init_zc_X4_init rfl rfl rfl hE.nX7_45 (hts (.initialized RX4) (List.mem_of_getElem? (i := 33) rfl)) (by decide +kernel) ⟨Nat.le_of_ble_eq_true rfl, Nat.le_of_ble_eq_true rfl⟩, rfl, (hts (.instanceMethod yX4_init) (List.mem_of_getElem? (i := 37) rfl))⟩ ⟨zBW, fun U hU hW => ⟨rfl, by rw [hU], by rw [hU]; exact hPc, hE.warm hW, hDc.weaken (fun _ _ _ _ => trivial)⟩⟩ rfl rfl hl.1 rfl (lv_room (Nat.le_of_ble_eq_true rfl)) dX7_init_73 ⟨Nat.le_of_ble_eq_true rfl, Nat.le_of_ble_eq_true rfl⟩) hS (fun q _ h => hFc q h) hFc (fun u t H1 locs ht hvm h_73_17 hB hz1 hk1 hS => ?_)
  obtain ⟨q18, hP1, hD1⟩ := hB
  rw [ht] at hP1
  obtain ⟨hP, hD⟩ := va_join (wr := [(h0, .inr (7, [.ref p1, .ref p2, .ref q6, .ref q1, .ref q4, .ref q5, .int 0, .int 0, .int 0, .int 0])), (q1, .inr (10, [.int 0, .int 0, .int 0, .int 0, .int 0, .int 0, .ref q3])), (q3, .inl (cI, 4, .inl (fun _ => 0))), (q4, .inl (cF, 16, .inr (.inr (.inr (.inr ff_15))))), (q5, .inl (cI, 3, .inl (fun _ => 0)))]) (w1 := [(q16, .inr (4, [.null, .null, .int 0, .int 0, .ref q18]))]) hP hD [5] [0, 1, 2, 3, 4] rfl rfl (by decide) (by decide) hk1 hFc hP1 hD1
  generalize H1 = H at hP hS ⊢
  have hP : va_P D vwCl [(h0, .inr (7, [.ref p1, .ref p2, .ref q6, .ref q1, .ref q4, .ref q5, .int 0, .int 0, .int 0, .int 0])), (q1, .inr (10, [.int 0, .int 0, .int 0, .int 0, .int 0, .int 0, .ref q3])), (q3, .inl (cI, 4, .inl (fun _ => 0))), (q4, .inl (cF, 16, .inr (.inr (.inr (.inr ff_15))))), (q5, .inl (cI, 3, .inl (fun _ => 0))), (q16, .inr (4, [.null, .null, .int 0, .int 0, .ref q18]))] H := hP
  have hD : va_D A [(h0, .inr (7, [.ref p1, .ref p2, .ref q6, .ref q1, .ref q4, .ref q5, .int 0, .int 0, .int 0, .int 0])), (q1, .inr (10, [.int 0, .int 0, .int 0, .int 0, .int 0, .int 0, .ref q3])), (q3, .inl (cI, 4, .inl (fun _ => 0))), (q4, .inl (cF, 16, .inr (.inr (.inr (.inr ff_15))))), (q5, .inl (cI, 3, .inl (fun _ => 0))), (q16, .inr (4, [.null, .null, .int 0, .int 0, .ref q18]))] := hD
  have hin_76 : vp_in 2 16 := by unfold vp_in; decide
  refine va_astq hx hb hK hP hD hS 3 3 5 4 rfl rfl rfl rfl hin_76 dX7_init_76 (fun H locs hP hD hS => ?_)
  have hP : va_P D vwCl [(h0, .inr (7, [.ref p1, .ref p2, .ref q6, .ref q1, .ref q4, .ref q5, .int 0, .int 0, .int 0, .int 0])), (q1, .inr (10, [.int 0, .int 0, .int 0, .int 0, .int 0, .int 0, .ref q3])), (q3, .inl (cI, 4, .inl (fun _ => 0))), (q4, .inl (cF, 16, .inr (.inr (.inr (.inr (va_up ff_15 (2 : Int32).toNatClampNeg (some q16))))))), (q5, .inl (cI, 3, .inl (fun _ => 0))), (q16, .inr (4, [.null, .null, .int 0, .int 0, .ref q18]))] H := hP
  have hD : va_D A [(h0, .inr (7, [.ref p1, .ref p2, .ref q6, .ref q1, .ref q4, .ref q5, .int 0, .int 0, .int 0, .int 0])), (q1, .inr (10, [.int 0, .int 0, .int 0, .int 0, .int 0, .int 0, .ref q3])), (q3, .inl (cI, 4, .inl (fun _ => 0))), (q4, .inl (cF, 16, .inr (.inr (.inr (.inr (va_up ff_15 (2 : Int32).toNatClampNeg (some q16))))))), (q5, .inl (cI, 3, .inl (fun _ => 0))), (q16, .inr (4, [.null, .null, .int 0, .int 0, .ref q18]))] := hD
  have hP := hP.sub (ws' := [(h0, .inr (7, [.ref p1, .ref p2, .ref q6, .ref q1, .ref q4, .ref q5, .int 0, .int 0, .int 0, .int 0])), (q1, .inr (10, [.int 0, .int 0, .int 0, .int 0, .int 0, .int 0, .ref q3])), (q3, .inl (cI, 4, .inl (fun _ => 0))), (q4, .inl (cF, 16, .inr (.inr (.inr (.inr (va_up ff_15 (2 : Int32).toNatClampNeg (some q16))))))), (q5, .inl (cI, 3, .inl (fun _ => 0)))]) [0, 1, 2, 3, 4] rfl
  have hD := hD.sub (ws' := [(h0, .inr (7, [.ref p1, .ref p2, .ref q6, .ref q1, .ref q4, .ref q5, .int 0, .int 0, .int 0, .int 0])), (q1, .inr (10, [.int 0, .int 0, .int 0, .int 0, .int 0, .int 0, .ref q3])), (q3, .inl (cI, 4, .inl (fun _ => 0))), (q4, .inl (cF, 16, .inr (.inr (.inr (.inr (va_up ff_15 (2 : Int32).toNatClampNeg (some q16))))))), (q5, .inl (cI, 3, .inl (fun _ => 0)))]) [0, 1, 2, 3, 4] (by decide) rfl
  generalize (va_up ff_15 (2 : Int32).toNatClampNeg (some q16)) = ff_19 at hP hD
  refine lv_iinc (v := 3) (lv' := [(4, .int 3), (0, .ref h0), (1, .ref p1), (2, .ref p2), (3, .ref p3)]) hx hb dX7_init_77 hl (k := 0) rfl (by decide) (by decide) rfl (fun ls hl => ?_)
  refine lv_goto (tgt := 56) hx hb dX7_init_80 (by decide) ?_
  refine lv_iload hx hb dX7_init_56 (lv_at hl 0 rfl) ?_
  refine lv_bipush (v := 16) hx hb dX7_init_58 (by decide) ?_
  refine lv_icmp_ge (tgt := 83) hx hb dX7_init_60 (by decide) (fun c => absurd c (by decide)) (fun _ => ?_)
  refine lv_aload_n hx hb dX7_init_63 rfl (lv_at hl 1 rfl) ?_
  refine va_get (D := D) (ci := 7) (v := .ref q4) (C := RX7) (T := TX7) (N := 10) hx hb hts (fun _ h => List.mem_cons_of_mem _ (List.mem_append_left _ (List.mem_append_left _ (List.mem_append_right _ h)))) hown hK hP 0 rfl rfl 4 (by decide) (hts (.fieldLink RX7 20 "TemplateForge$Machine" "frames" "[LTemplateForge$Frame;") (List.mem_of_getElem? (i := 14) rfl)) (fun _ h9 => h9) rfl dX7_init_64 ?_
  refine lv_iload hx hb dX7_init_67 (lv_at hl 0 rfl) ?_
  refine va_new (ci := 4) (fs := [.null, .null, .int 0, .int 0, .null]) (C := RX4) (T := TX4) (N := 5) hx hb hts (fun _ h => List.mem_cons_of_mem _ (List.mem_append_right _ h)) tyX4 tyX4_ok hown (hts (.classLink RX7 18 RX4) (List.mem_of_getElem? (i := 13) rfl)) (hts (.instantiable RX4 5) (List.mem_of_getElem? (i := 32) rfl)) (hts (.initialized RX4) (List.mem_of_getElem? (i := 33) rfl)) hK hP hD hS hA rfl (fun j hj => by rcases (show j = 0 ∨ j = 1 ∨ j = 2 ∨ j = 3 ∨ j = 4 by omega) with rfl | rfl | rfl | rfl | rfl <;> rfl) (Nat.le_of_ble_eq_true rfl) (Nat.le_of_ble_eq_true rfl) dX7_init_69 (fun q20 H hP hD hS => ?_)
  have hP : va_P D vwCl [(h0, .inr (7, [.ref p1, .ref p2, .ref q6, .ref q1, .ref q4, .ref q5, .int 0, .int 0, .int 0, .int 0])), (q1, .inr (10, [.int 0, .int 0, .int 0, .int 0, .int 0, .int 0, .ref q3])), (q3, .inl (cI, 4, .inl (fun _ => 0))), (q4, .inl (cF, 16, .inr (.inr (.inr (.inr ff_19))))), (q5, .inl (cI, 3, .inl (fun _ => 0))), (q20, .inr (4, [.null, .null, .int 0, .int 0, .null]))] H := hP
  have hD : va_D A [(h0, .inr (7, [.ref p1, .ref p2, .ref q6, .ref q1, .ref q4, .ref q5, .int 0, .int 0, .int 0, .int 0])), (q1, .inr (10, [.int 0, .int 0, .int 0, .int 0, .int 0, .int 0, .ref q3])), (q3, .inl (cI, 4, .inl (fun _ => 0))), (q4, .inl (cF, 16, .inr (.inr (.inr (.inr ff_19))))), (q5, .inl (cI, 3, .inl (fun _ => 0))), (q20, .inr (4, [.null, .null, .int 0, .int 0, .null]))] := hD
  refine lv_dup hx hb dX7_init_72 rfl ?_
  have hPc := hP.sub (ws' := [(q20, .inr (4, [.null, .null, .int 0, .int 0, .null]))]) [5] rfl
  have hDc := hD.sub (ws' := [(q20, .inr (4, [.null, .null, .int 0, .int 0, .null]))]) [5] (by decide) rfl
  have hFc := va_free (wc := [(q20, .inr (4, [.null, .null, .int 0, .int 0, .null]))]) hD hS hA [5] rfl
  refine va_callv (va_runIN (As := []) (rest := [.ref q20, .int 3, .ref q4]) ⟨hx, hb, hml, hown, hts⟩ (zc_X4_init l D cI cZ cP cF q20 H.size) ⟨va_cnB 0 hts zg_zc_X7_init_zc_X4_init rfl rfl rfl hE.nX7_45 (hts (.initialized RX4) (List.mem_of_getElem? (i := 33) rfl)) (by decide +kernel) ⟨Nat.le_of_ble_eq_true rfl, Nat.le_of_ble_eq_true rfl⟩, rfl, (hts (.instanceMethod yX4_init) (List.mem_of_getElem? (i := 37) rfl))⟩ ⟨zBW, fun U hU hW => ⟨rfl, by rw [hU], by rw [hU]; exact hPc, hE.warm hW, hDc.weaken (fun _ _ _ _ => trivial)⟩⟩ rfl rfl hl.1 rfl (lv_room (Nat.le_of_ble_eq_true rfl)) dX7_init_73 ⟨Nat.le_of_ble_eq_true rfl, Nat.le_of_ble_eq_true rfl⟩) hS (fun q _ h => hFc q h) hFc (fun u t H1 locs ht hvm h_73_21 hB hz1 hk1 hS => ?_)
  obtain ⟨q22, hP1, hD1⟩ := hB
  rw [ht] at hP1
  obtain ⟨hP, hD⟩ := va_join (wr := [(h0, .inr (7, [.ref p1, .ref p2, .ref q6, .ref q1, .ref q4, .ref q5, .int 0, .int 0, .int 0, .int 0])), (q1, .inr (10, [.int 0, .int 0, .int 0, .int 0, .int 0, .int 0, .ref q3])), (q3, .inl (cI, 4, .inl (fun _ => 0))), (q4, .inl (cF, 16, .inr (.inr (.inr (.inr ff_19))))), (q5, .inl (cI, 3, .inl (fun _ => 0)))]) (w1 := [(q20, .inr (4, [.null, .null, .int 0, .int 0, .ref q22]))]) hP hD [5] [0, 1, 2, 3, 4] rfl rfl (by decide) (by decide) hk1 hFc hP1 hD1
  generalize H1 = H at hP hS ⊢
  have hP : va_P D vwCl [(h0, .inr (7, [.ref p1, .ref p2, .ref q6, .ref q1, .ref q4, .ref q5, .int 0, .int 0, .int 0, .int 0])), (q1, .inr (10, [.int 0, .int 0, .int 0, .int 0, .int 0, .int 0, .ref q3])), (q3, .inl (cI, 4, .inl (fun _ => 0))), (q4, .inl (cF, 16, .inr (.inr (.inr (.inr ff_19))))), (q5, .inl (cI, 3, .inl (fun _ => 0))), (q20, .inr (4, [.null, .null, .int 0, .int 0, .ref q22]))] H := hP
  have hD : va_D A [(h0, .inr (7, [.ref p1, .ref p2, .ref q6, .ref q1, .ref q4, .ref q5, .int 0, .int 0, .int 0, .int 0])), (q1, .inr (10, [.int 0, .int 0, .int 0, .int 0, .int 0, .int 0, .ref q3])), (q3, .inl (cI, 4, .inl (fun _ => 0))), (q4, .inl (cF, 16, .inr (.inr (.inr (.inr ff_19))))), (q5, .inl (cI, 3, .inl (fun _ => 0))), (q20, .inr (4, [.null, .null, .int 0, .int 0, .ref q22]))] := hD
  have hin_76 : vp_in 3 16 := by unfold vp_in; decide
  refine va_astq hx hb hK hP hD hS 3 3 5 4 rfl rfl rfl rfl hin_76 dX7_init_76 (fun H locs hP hD hS => ?_)
  have hP : va_P D vwCl [(h0, .inr (7, [.ref p1, .ref p2, .ref q6, .ref q1, .ref q4, .ref q5, .int 0, .int 0, .int 0, .int 0])), (q1, .inr (10, [.int 0, .int 0, .int 0, .int 0, .int 0, .int 0, .ref q3])), (q3, .inl (cI, 4, .inl (fun _ => 0))), (q4, .inl (cF, 16, .inr (.inr (.inr (.inr (va_up ff_19 (3 : Int32).toNatClampNeg (some q20))))))), (q5, .inl (cI, 3, .inl (fun _ => 0))), (q20, .inr (4, [.null, .null, .int 0, .int 0, .ref q22]))] H := hP
  have hD : va_D A [(h0, .inr (7, [.ref p1, .ref p2, .ref q6, .ref q1, .ref q4, .ref q5, .int 0, .int 0, .int 0, .int 0])), (q1, .inr (10, [.int 0, .int 0, .int 0, .int 0, .int 0, .int 0, .ref q3])), (q3, .inl (cI, 4, .inl (fun _ => 0))), (q4, .inl (cF, 16, .inr (.inr (.inr (.inr (va_up ff_19 (3 : Int32).toNatClampNeg (some q20))))))), (q5, .inl (cI, 3, .inl (fun _ => 0))), (q20, .inr (4, [.null, .null, .int 0, .int 0, .ref q22]))] := hD
  have hP := hP.sub (ws' := [(h0, .inr (7, [.ref p1, .ref p2, .ref q6, .ref q1, .ref q4, .ref q5, .int 0, .int 0, .int 0, .int 0])), (q1, .inr (10, [.int 0, .int 0, .int 0, .int 0, .int 0, .int 0, .ref q3])), (q3, .inl (cI, 4, .inl (fun _ => 0))), (q4, .inl (cF, 16, .inr (.inr (.inr (.inr (va_up ff_19 (3 : Int32).toNatClampNeg (some q20))))))), (q5, .inl (cI, 3, .inl (fun _ => 0)))]) [0, 1, 2, 3, 4] rfl
  have hD := hD.sub (ws' := [(h0, .inr (7, [.ref p1, .ref p2, .ref q6, .ref q1, .ref q4, .ref q5, .int 0, .int 0, .int 0, .int 0])), (q1, .inr (10, [.int 0, .int 0, .int 0, .int 0, .int 0, .int 0, .ref q3])), (q3, .inl (cI, 4, .inl (fun _ => 0))), (q4, .inl (cF, 16, .inr (.inr (.inr (.inr (va_up ff_19 (3 : Int32).toNatClampNeg (some q20))))))), (q5, .inl (cI, 3, .inl (fun _ => 0)))]) [0, 1, 2, 3, 4] (by decide) rfl
  generalize (va_up ff_19 (3 : Int32).toNatClampNeg (some q20)) = ff_23 at hP hD
  refine lv_iinc (v := 4) (lv' := [(4, .int 4), (0, .ref h0), (1, .ref p1), (2, .ref p2), (3, .ref p3)]) hx hb dX7_init_77 hl (k := 0) rfl (by decide) (by decide) rfl (fun ls hl => ?_)
  refine lv_goto (tgt := 56) hx hb dX7_init_80 (by decide) ?_
  refine lv_iload hx hb dX7_init_56 (lv_at hl 0 rfl) ?_
  refine lv_bipush (v := 16) hx hb dX7_init_58 (by decide) ?_
  refine lv_icmp_ge (tgt := 83) hx hb dX7_init_60 (by decide) (fun c => absurd c (by decide)) (fun _ => ?_)
  refine lv_aload_n hx hb dX7_init_63 rfl (lv_at hl 1 rfl) ?_
  refine va_get (D := D) (ci := 7) (v := .ref q4) (C := RX7) (T := TX7) (N := 10) hx hb hts (fun _ h => List.mem_cons_of_mem _ (List.mem_append_left _ (List.mem_append_left _ (List.mem_append_right _ h)))) hown hK hP 0 rfl rfl 4 (by decide) (hts (.fieldLink RX7 20 "TemplateForge$Machine" "frames" "[LTemplateForge$Frame;") (List.mem_of_getElem? (i := 14) rfl)) (fun _ h9 => h9) rfl dX7_init_64 ?_
  refine lv_iload hx hb dX7_init_67 (lv_at hl 0 rfl) ?_
  refine va_new (ci := 4) (fs := [.null, .null, .int 0, .int 0, .null]) (C := RX4) (T := TX4) (N := 5) hx hb hts (fun _ h => List.mem_cons_of_mem _ (List.mem_append_right _ h)) tyX4 tyX4_ok hown (hts (.classLink RX7 18 RX4) (List.mem_of_getElem? (i := 13) rfl)) (hts (.instantiable RX4 5) (List.mem_of_getElem? (i := 32) rfl)) (hts (.initialized RX4) (List.mem_of_getElem? (i := 33) rfl)) hK hP hD hS hA rfl (fun j hj => by rcases (show j = 0 ∨ j = 1 ∨ j = 2 ∨ j = 3 ∨ j = 4 by omega) with rfl | rfl | rfl | rfl | rfl <;> rfl) (Nat.le_of_ble_eq_true rfl) (Nat.le_of_ble_eq_true rfl) dX7_init_69 (fun q24 H hP hD hS => ?_)
  have hP : va_P D vwCl [(h0, .inr (7, [.ref p1, .ref p2, .ref q6, .ref q1, .ref q4, .ref q5, .int 0, .int 0, .int 0, .int 0])), (q1, .inr (10, [.int 0, .int 0, .int 0, .int 0, .int 0, .int 0, .ref q3])), (q3, .inl (cI, 4, .inl (fun _ => 0))), (q4, .inl (cF, 16, .inr (.inr (.inr (.inr ff_23))))), (q5, .inl (cI, 3, .inl (fun _ => 0))), (q24, .inr (4, [.null, .null, .int 0, .int 0, .null]))] H := hP
  have hD : va_D A [(h0, .inr (7, [.ref p1, .ref p2, .ref q6, .ref q1, .ref q4, .ref q5, .int 0, .int 0, .int 0, .int 0])), (q1, .inr (10, [.int 0, .int 0, .int 0, .int 0, .int 0, .int 0, .ref q3])), (q3, .inl (cI, 4, .inl (fun _ => 0))), (q4, .inl (cF, 16, .inr (.inr (.inr (.inr ff_23))))), (q5, .inl (cI, 3, .inl (fun _ => 0))), (q24, .inr (4, [.null, .null, .int 0, .int 0, .null]))] := hD
  refine lv_dup hx hb dX7_init_72 rfl ?_
  have hPc := hP.sub (ws' := [(q24, .inr (4, [.null, .null, .int 0, .int 0, .null]))]) [5] rfl
  have hDc := hD.sub (ws' := [(q24, .inr (4, [.null, .null, .int 0, .int 0, .null]))]) [5] (by decide) rfl
  have hFc := va_free (wc := [(q24, .inr (4, [.null, .null, .int 0, .int 0, .null]))]) hD hS hA [5] rfl
  refine va_callv (va_runIN (As := []) (rest := [.ref q24, .int 4, .ref q4]) ⟨hx, hb, hml, hown, hts⟩ (zc_X4_init l D cI cZ cP cF q24 H.size) ⟨va_cnB 0 hts zg_zc_X7_init_zc_X4_init rfl rfl rfl hE.nX7_45 (hts (.initialized RX4) (List.mem_of_getElem? (i := 33) rfl)) (by decide +kernel) ⟨Nat.le_of_ble_eq_true rfl, Nat.le_of_ble_eq_true rfl⟩, rfl, (hts (.instanceMethod yX4_init) (List.mem_of_getElem? (i := 37) rfl))⟩ ⟨zBW, fun U hU hW => ⟨rfl, by rw [hU], by rw [hU]; exact hPc, hE.warm hW, hDc.weaken (fun _ _ _ _ => trivial)⟩⟩ rfl rfl hl.1 rfl (lv_room (Nat.le_of_ble_eq_true rfl)) dX7_init_73 ⟨Nat.le_of_ble_eq_true rfl, Nat.le_of_ble_eq_true rfl⟩) hS (fun q _ h => hFc q h) hFc (fun u t H1 locs ht hvm h_73_25 hB hz1 hk1 hS => ?_)
  obtain ⟨q26, hP1, hD1⟩ := hB
  rw [ht] at hP1
  obtain ⟨hP, hD⟩ := va_join (wr := [(h0, .inr (7, [.ref p1, .ref p2, .ref q6, .ref q1, .ref q4, .ref q5, .int 0, .int 0, .int 0, .int 0])), (q1, .inr (10, [.int 0, .int 0, .int 0, .int 0, .int 0, .int 0, .ref q3])), (q3, .inl (cI, 4, .inl (fun _ => 0))), (q4, .inl (cF, 16, .inr (.inr (.inr (.inr ff_23))))), (q5, .inl (cI, 3, .inl (fun _ => 0)))]) (w1 := [(q24, .inr (4, [.null, .null, .int 0, .int 0, .ref q26]))]) hP hD [5] [0, 1, 2, 3, 4] rfl rfl (by decide) (by decide) hk1 hFc hP1 hD1
  generalize H1 = H at hP hS ⊢
  have hP : va_P D vwCl [(h0, .inr (7, [.ref p1, .ref p2, .ref q6, .ref q1, .ref q4, .ref q5, .int 0, .int 0, .int 0, .int 0])), (q1, .inr (10, [.int 0, .int 0, .int 0, .int 0, .int 0, .int 0, .ref q3])), (q3, .inl (cI, 4, .inl (fun _ => 0))), (q4, .inl (cF, 16, .inr (.inr (.inr (.inr ff_23))))), (q5, .inl (cI, 3, .inl (fun _ => 0))), (q24, .inr (4, [.null, .null, .int 0, .int 0, .ref q26]))] H := hP
  have hD : va_D A [(h0, .inr (7, [.ref p1, .ref p2, .ref q6, .ref q1, .ref q4, .ref q5, .int 0, .int 0, .int 0, .int 0])), (q1, .inr (10, [.int 0, .int 0, .int 0, .int 0, .int 0, .int 0, .ref q3])), (q3, .inl (cI, 4, .inl (fun _ => 0))), (q4, .inl (cF, 16, .inr (.inr (.inr (.inr ff_23))))), (q5, .inl (cI, 3, .inl (fun _ => 0))), (q24, .inr (4, [.null, .null, .int 0, .int 0, .ref q26]))] := hD
  have hin_76 : vp_in 4 16 := by unfold vp_in; decide
  refine va_astq hx hb hK hP hD hS 3 3 5 4 rfl rfl rfl rfl hin_76 dX7_init_76 (fun H locs hP hD hS => ?_)
  have hP : va_P D vwCl [(h0, .inr (7, [.ref p1, .ref p2, .ref q6, .ref q1, .ref q4, .ref q5, .int 0, .int 0, .int 0, .int 0])), (q1, .inr (10, [.int 0, .int 0, .int 0, .int 0, .int 0, .int 0, .ref q3])), (q3, .inl (cI, 4, .inl (fun _ => 0))), (q4, .inl (cF, 16, .inr (.inr (.inr (.inr (va_up ff_23 (4 : Int32).toNatClampNeg (some q24))))))), (q5, .inl (cI, 3, .inl (fun _ => 0))), (q24, .inr (4, [.null, .null, .int 0, .int 0, .ref q26]))] H := hP
  have hD : va_D A [(h0, .inr (7, [.ref p1, .ref p2, .ref q6, .ref q1, .ref q4, .ref q5, .int 0, .int 0, .int 0, .int 0])), (q1, .inr (10, [.int 0, .int 0, .int 0, .int 0, .int 0, .int 0, .ref q3])), (q3, .inl (cI, 4, .inl (fun _ => 0))), (q4, .inl (cF, 16, .inr (.inr (.inr (.inr (va_up ff_23 (4 : Int32).toNatClampNeg (some q24))))))), (q5, .inl (cI, 3, .inl (fun _ => 0))), (q24, .inr (4, [.null, .null, .int 0, .int 0, .ref q26]))] := hD
  have hP := hP.sub (ws' := [(h0, .inr (7, [.ref p1, .ref p2, .ref q6, .ref q1, .ref q4, .ref q5, .int 0, .int 0, .int 0, .int 0])), (q1, .inr (10, [.int 0, .int 0, .int 0, .int 0, .int 0, .int 0, .ref q3])), (q3, .inl (cI, 4, .inl (fun _ => 0))), (q4, .inl (cF, 16, .inr (.inr (.inr (.inr (va_up ff_23 (4 : Int32).toNatClampNeg (some q24))))))), (q5, .inl (cI, 3, .inl (fun _ => 0)))]) [0, 1, 2, 3, 4] rfl
  have hD := hD.sub (ws' := [(h0, .inr (7, [.ref p1, .ref p2, .ref q6, .ref q1, .ref q4, .ref q5, .int 0, .int 0, .int 0, .int 0])), (q1, .inr (10, [.int 0, .int 0, .int 0, .int 0, .int 0, .int 0, .ref q3])), (q3, .inl (cI, 4, .inl (fun _ => 0))), (q4, .inl (cF, 16, .inr (.inr (.inr (.inr (va_up ff_23 (4 : Int32).toNatClampNeg (some q24))))))), (q5, .inl (cI, 3, .inl (fun _ => 0)))]) [0, 1, 2, 3, 4] (by decide) rfl
  generalize (va_up ff_23 (4 : Int32).toNatClampNeg (some q24)) = ff_27 at hP hD
  refine lv_iinc (v := 5) (lv' := [(4, .int 5), (0, .ref h0), (1, .ref p1), (2, .ref p2), (3, .ref p3)]) hx hb dX7_init_77 hl (k := 0) rfl (by decide) (by decide) rfl (fun ls hl => ?_)
  refine lv_goto (tgt := 56) hx hb dX7_init_80 (by decide) ?_
  refine lv_iload hx hb dX7_init_56 (lv_at hl 0 rfl) ?_
  refine lv_bipush (v := 16) hx hb dX7_init_58 (by decide) ?_
  refine lv_icmp_ge (tgt := 83) hx hb dX7_init_60 (by decide) (fun c => absurd c (by decide)) (fun _ => ?_)
  refine lv_aload_n hx hb dX7_init_63 rfl (lv_at hl 1 rfl) ?_
  refine va_get (D := D) (ci := 7) (v := .ref q4) (C := RX7) (T := TX7) (N := 10) hx hb hts (fun _ h => List.mem_cons_of_mem _ (List.mem_append_left _ (List.mem_append_left _ (List.mem_append_right _ h)))) hown hK hP 0 rfl rfl 4 (by decide) (hts (.fieldLink RX7 20 "TemplateForge$Machine" "frames" "[LTemplateForge$Frame;") (List.mem_of_getElem? (i := 14) rfl)) (fun _ h9 => h9) rfl dX7_init_64 ?_
  refine lv_iload hx hb dX7_init_67 (lv_at hl 0 rfl) ?_
  refine va_new (ci := 4) (fs := [.null, .null, .int 0, .int 0, .null]) (C := RX4) (T := TX4) (N := 5) hx hb hts (fun _ h => List.mem_cons_of_mem _ (List.mem_append_right _ h)) tyX4 tyX4_ok hown (hts (.classLink RX7 18 RX4) (List.mem_of_getElem? (i := 13) rfl)) (hts (.instantiable RX4 5) (List.mem_of_getElem? (i := 32) rfl)) (hts (.initialized RX4) (List.mem_of_getElem? (i := 33) rfl)) hK hP hD hS hA rfl (fun j hj => by rcases (show j = 0 ∨ j = 1 ∨ j = 2 ∨ j = 3 ∨ j = 4 by omega) with rfl | rfl | rfl | rfl | rfl <;> rfl) (Nat.le_of_ble_eq_true rfl) (Nat.le_of_ble_eq_true rfl) dX7_init_69 (fun q28 H hP hD hS => ?_)
  have hP : va_P D vwCl [(h0, .inr (7, [.ref p1, .ref p2, .ref q6, .ref q1, .ref q4, .ref q5, .int 0, .int 0, .int 0, .int 0])), (q1, .inr (10, [.int 0, .int 0, .int 0, .int 0, .int 0, .int 0, .ref q3])), (q3, .inl (cI, 4, .inl (fun _ => 0))), (q4, .inl (cF, 16, .inr (.inr (.inr (.inr ff_27))))), (q5, .inl (cI, 3, .inl (fun _ => 0))), (q28, .inr (4, [.null, .null, .int 0, .int 0, .null]))] H := hP
  have hD : va_D A [(h0, .inr (7, [.ref p1, .ref p2, .ref q6, .ref q1, .ref q4, .ref q5, .int 0, .int 0, .int 0, .int 0])), (q1, .inr (10, [.int 0, .int 0, .int 0, .int 0, .int 0, .int 0, .ref q3])), (q3, .inl (cI, 4, .inl (fun _ => 0))), (q4, .inl (cF, 16, .inr (.inr (.inr (.inr ff_27))))), (q5, .inl (cI, 3, .inl (fun _ => 0))), (q28, .inr (4, [.null, .null, .int 0, .int 0, .null]))] := hD
  refine lv_dup hx hb dX7_init_72 rfl ?_
  have hPc := hP.sub (ws' := [(q28, .inr (4, [.null, .null, .int 0, .int 0, .null]))]) [5] rfl
  have hDc := hD.sub (ws' := [(q28, .inr (4, [.null, .null, .int 0, .int 0, .null]))]) [5] (by decide) rfl
  have hFc := va_free (wc := [(q28, .inr (4, [.null, .null, .int 0, .int 0, .null]))]) hD hS hA [5] rfl
  refine va_callv (va_runIN (As := []) (rest := [.ref q28, .int 5, .ref q4]) ⟨hx, hb, hml, hown, hts⟩ (zc_X4_init l D cI cZ cP cF q28 H.size) ⟨va_cnB 0 hts zg_zc_X7_init_zc_X4_init rfl rfl rfl hE.nX7_45 (hts (.initialized RX4) (List.mem_of_getElem? (i := 33) rfl)) (by decide +kernel) ⟨Nat.le_of_ble_eq_true rfl, Nat.le_of_ble_eq_true rfl⟩, rfl, (hts (.instanceMethod yX4_init) (List.mem_of_getElem? (i := 37) rfl))⟩ ⟨zBW, fun U hU hW => ⟨rfl, by rw [hU], by rw [hU]; exact hPc, hE.warm hW, hDc.weaken (fun _ _ _ _ => trivial)⟩⟩ rfl rfl hl.1 rfl (lv_room (Nat.le_of_ble_eq_true rfl)) dX7_init_73 ⟨Nat.le_of_ble_eq_true rfl, Nat.le_of_ble_eq_true rfl⟩) hS (fun q _ h => hFc q h) hFc (fun u t H1 locs ht hvm h_73_29 hB hz1 hk1 hS => ?_)
  obtain ⟨q30, hP1, hD1⟩ := hB
  rw [ht] at hP1
  obtain ⟨hP, hD⟩ := va_join (wr := [(h0, .inr (7, [.ref p1, .ref p2, .ref q6, .ref q1, .ref q4, .ref q5, .int 0, .int 0, .int 0, .int 0])), (q1, .inr (10, [.int 0, .int 0, .int 0, .int 0, .int 0, .int 0, .ref q3])), (q3, .inl (cI, 4, .inl (fun _ => 0))), (q4, .inl (cF, 16, .inr (.inr (.inr (.inr ff_27))))), (q5, .inl (cI, 3, .inl (fun _ => 0)))]) (w1 := [(q28, .inr (4, [.null, .null, .int 0, .int 0, .ref q30]))]) hP hD [5] [0, 1, 2, 3, 4] rfl rfl (by decide) (by decide) hk1 hFc hP1 hD1
  generalize H1 = H at hP hS ⊢
  have hP : va_P D vwCl [(h0, .inr (7, [.ref p1, .ref p2, .ref q6, .ref q1, .ref q4, .ref q5, .int 0, .int 0, .int 0, .int 0])), (q1, .inr (10, [.int 0, .int 0, .int 0, .int 0, .int 0, .int 0, .ref q3])), (q3, .inl (cI, 4, .inl (fun _ => 0))), (q4, .inl (cF, 16, .inr (.inr (.inr (.inr ff_27))))), (q5, .inl (cI, 3, .inl (fun _ => 0))), (q28, .inr (4, [.null, .null, .int 0, .int 0, .ref q30]))] H := hP
  have hD : va_D A [(h0, .inr (7, [.ref p1, .ref p2, .ref q6, .ref q1, .ref q4, .ref q5, .int 0, .int 0, .int 0, .int 0])), (q1, .inr (10, [.int 0, .int 0, .int 0, .int 0, .int 0, .int 0, .ref q3])), (q3, .inl (cI, 4, .inl (fun _ => 0))), (q4, .inl (cF, 16, .inr (.inr (.inr (.inr ff_27))))), (q5, .inl (cI, 3, .inl (fun _ => 0))), (q28, .inr (4, [.null, .null, .int 0, .int 0, .ref q30]))] := hD
  have hin_76 : vp_in 5 16 := by unfold vp_in; decide
  refine va_astq hx hb hK hP hD hS 3 3 5 4 rfl rfl rfl rfl hin_76 dX7_init_76 (fun H locs hP hD hS => ?_)
  have hP : va_P D vwCl [(h0, .inr (7, [.ref p1, .ref p2, .ref q6, .ref q1, .ref q4, .ref q5, .int 0, .int 0, .int 0, .int 0])), (q1, .inr (10, [.int 0, .int 0, .int 0, .int 0, .int 0, .int 0, .ref q3])), (q3, .inl (cI, 4, .inl (fun _ => 0))), (q4, .inl (cF, 16, .inr (.inr (.inr (.inr (va_up ff_27 (5 : Int32).toNatClampNeg (some q28))))))), (q5, .inl (cI, 3, .inl (fun _ => 0))), (q28, .inr (4, [.null, .null, .int 0, .int 0, .ref q30]))] H := hP
  have hD : va_D A [(h0, .inr (7, [.ref p1, .ref p2, .ref q6, .ref q1, .ref q4, .ref q5, .int 0, .int 0, .int 0, .int 0])), (q1, .inr (10, [.int 0, .int 0, .int 0, .int 0, .int 0, .int 0, .ref q3])), (q3, .inl (cI, 4, .inl (fun _ => 0))), (q4, .inl (cF, 16, .inr (.inr (.inr (.inr (va_up ff_27 (5 : Int32).toNatClampNeg (some q28))))))), (q5, .inl (cI, 3, .inl (fun _ => 0))), (q28, .inr (4, [.null, .null, .int 0, .int 0, .ref q30]))] := hD
  have hP := hP.sub (ws' := [(h0, .inr (7, [.ref p1, .ref p2, .ref q6, .ref q1, .ref q4, .ref q5, .int 0, .int 0, .int 0, .int 0])), (q1, .inr (10, [.int 0, .int 0, .int 0, .int 0, .int 0, .int 0, .ref q3])), (q3, .inl (cI, 4, .inl (fun _ => 0))), (q4, .inl (cF, 16, .inr (.inr (.inr (.inr (va_up ff_27 (5 : Int32).toNatClampNeg (some q28))))))), (q5, .inl (cI, 3, .inl (fun _ => 0)))]) [0, 1, 2, 3, 4] rfl
  have hD := hD.sub (ws' := [(h0, .inr (7, [.ref p1, .ref p2, .ref q6, .ref q1, .ref q4, .ref q5, .int 0, .int 0, .int 0, .int 0])), (q1, .inr (10, [.int 0, .int 0, .int 0, .int 0, .int 0, .int 0, .ref q3])), (q3, .inl (cI, 4, .inl (fun _ => 0))), (q4, .inl (cF, 16, .inr (.inr (.inr (.inr (va_up ff_27 (5 : Int32).toNatClampNeg (some q28))))))), (q5, .inl (cI, 3, .inl (fun _ => 0)))]) [0, 1, 2, 3, 4] (by decide) rfl
  generalize (va_up ff_27 (5 : Int32).toNatClampNeg (some q28)) = ff_31 at hP hD
  refine lv_iinc (v := 6) (lv' := [(4, .int 6), (0, .ref h0), (1, .ref p1), (2, .ref p2), (3, .ref p3)]) hx hb dX7_init_77 hl (k := 0) rfl (by decide) (by decide) rfl (fun ls hl => ?_)
  refine lv_goto (tgt := 56) hx hb dX7_init_80 (by decide) ?_
  refine lv_iload hx hb dX7_init_56 (lv_at hl 0 rfl) ?_
  refine lv_bipush (v := 16) hx hb dX7_init_58 (by decide) ?_
  refine lv_icmp_ge (tgt := 83) hx hb dX7_init_60 (by decide) (fun c => absurd c (by decide)) (fun _ => ?_)
  refine lv_aload_n hx hb dX7_init_63 rfl (lv_at hl 1 rfl) ?_
  refine va_get (D := D) (ci := 7) (v := .ref q4) (C := RX7) (T := TX7) (N := 10) hx hb hts (fun _ h => List.mem_cons_of_mem _ (List.mem_append_left _ (List.mem_append_left _ (List.mem_append_right _ h)))) hown hK hP 0 rfl rfl 4 (by decide) (hts (.fieldLink RX7 20 "TemplateForge$Machine" "frames" "[LTemplateForge$Frame;") (List.mem_of_getElem? (i := 14) rfl)) (fun _ h9 => h9) rfl dX7_init_64 ?_
  refine lv_iload hx hb dX7_init_67 (lv_at hl 0 rfl) ?_
  refine va_new (ci := 4) (fs := [.null, .null, .int 0, .int 0, .null]) (C := RX4) (T := TX4) (N := 5) hx hb hts (fun _ h => List.mem_cons_of_mem _ (List.mem_append_right _ h)) tyX4 tyX4_ok hown (hts (.classLink RX7 18 RX4) (List.mem_of_getElem? (i := 13) rfl)) (hts (.instantiable RX4 5) (List.mem_of_getElem? (i := 32) rfl)) (hts (.initialized RX4) (List.mem_of_getElem? (i := 33) rfl)) hK hP hD hS hA rfl (fun j hj => by rcases (show j = 0 ∨ j = 1 ∨ j = 2 ∨ j = 3 ∨ j = 4 by omega) with rfl | rfl | rfl | rfl | rfl <;> rfl) (Nat.le_of_ble_eq_true rfl) (Nat.le_of_ble_eq_true rfl) dX7_init_69 (fun q32 H hP hD hS => ?_)
  have hP : va_P D vwCl [(h0, .inr (7, [.ref p1, .ref p2, .ref q6, .ref q1, .ref q4, .ref q5, .int 0, .int 0, .int 0, .int 0])), (q1, .inr (10, [.int 0, .int 0, .int 0, .int 0, .int 0, .int 0, .ref q3])), (q3, .inl (cI, 4, .inl (fun _ => 0))), (q4, .inl (cF, 16, .inr (.inr (.inr (.inr ff_31))))), (q5, .inl (cI, 3, .inl (fun _ => 0))), (q32, .inr (4, [.null, .null, .int 0, .int 0, .null]))] H := hP
  have hD : va_D A [(h0, .inr (7, [.ref p1, .ref p2, .ref q6, .ref q1, .ref q4, .ref q5, .int 0, .int 0, .int 0, .int 0])), (q1, .inr (10, [.int 0, .int 0, .int 0, .int 0, .int 0, .int 0, .ref q3])), (q3, .inl (cI, 4, .inl (fun _ => 0))), (q4, .inl (cF, 16, .inr (.inr (.inr (.inr ff_31))))), (q5, .inl (cI, 3, .inl (fun _ => 0))), (q32, .inr (4, [.null, .null, .int 0, .int 0, .null]))] := hD
  refine lv_dup hx hb dX7_init_72 rfl ?_
  have hPc := hP.sub (ws' := [(q32, .inr (4, [.null, .null, .int 0, .int 0, .null]))]) [5] rfl
  have hDc := hD.sub (ws' := [(q32, .inr (4, [.null, .null, .int 0, .int 0, .null]))]) [5] (by decide) rfl
  have hFc := va_free (wc := [(q32, .inr (4, [.null, .null, .int 0, .int 0, .null]))]) hD hS hA [5] rfl
  refine va_callv (va_runIN (As := []) (rest := [.ref q32, .int 6, .ref q4]) ⟨hx, hb, hml, hown, hts⟩ (zc_X4_init l D cI cZ cP cF q32 H.size) ⟨va_cnB 0 hts zg_zc_X7_init_zc_X4_init rfl rfl rfl hE.nX7_45 (hts (.initialized RX4) (List.mem_of_getElem? (i := 33) rfl)) (by decide +kernel) ⟨Nat.le_of_ble_eq_true rfl, Nat.le_of_ble_eq_true rfl⟩, rfl, (hts (.instanceMethod yX4_init) (List.mem_of_getElem? (i := 37) rfl))⟩ ⟨zBW, fun U hU hW => ⟨rfl, by rw [hU], by rw [hU]; exact hPc, hE.warm hW, hDc.weaken (fun _ _ _ _ => trivial)⟩⟩ rfl rfl hl.1 rfl (lv_room (Nat.le_of_ble_eq_true rfl)) dX7_init_73 ⟨Nat.le_of_ble_eq_true rfl, Nat.le_of_ble_eq_true rfl⟩) hS (fun q _ h => hFc q h) hFc (fun u t H1 locs ht hvm h_73_33 hB hz1 hk1 hS => ?_)
  obtain ⟨q34, hP1, hD1⟩ := hB
  rw [ht] at hP1
  obtain ⟨hP, hD⟩ := va_join (wr := [(h0, .inr (7, [.ref p1, .ref p2, .ref q6, .ref q1, .ref q4, .ref q5, .int 0, .int 0, .int 0, .int 0])), (q1, .inr (10, [.int 0, .int 0, .int 0, .int 0, .int 0, .int 0, .ref q3])), (q3, .inl (cI, 4, .inl (fun _ => 0))), (q4, .inl (cF, 16, .inr (.inr (.inr (.inr ff_31))))), (q5, .inl (cI, 3, .inl (fun _ => 0)))]) (w1 := [(q32, .inr (4, [.null, .null, .int 0, .int 0, .ref q34]))]) hP hD [5] [0, 1, 2, 3, 4] rfl rfl (by decide) (by decide) hk1 hFc hP1 hD1
  generalize H1 = H at hP hS ⊢
  have hP : va_P D vwCl [(h0, .inr (7, [.ref p1, .ref p2, .ref q6, .ref q1, .ref q4, .ref q5, .int 0, .int 0, .int 0, .int 0])), (q1, .inr (10, [.int 0, .int 0, .int 0, .int 0, .int 0, .int 0, .ref q3])), (q3, .inl (cI, 4, .inl (fun _ => 0))), (q4, .inl (cF, 16, .inr (.inr (.inr (.inr ff_31))))), (q5, .inl (cI, 3, .inl (fun _ => 0))), (q32, .inr (4, [.null, .null, .int 0, .int 0, .ref q34]))] H := hP
  have hD : va_D A [(h0, .inr (7, [.ref p1, .ref p2, .ref q6, .ref q1, .ref q4, .ref q5, .int 0, .int 0, .int 0, .int 0])), (q1, .inr (10, [.int 0, .int 0, .int 0, .int 0, .int 0, .int 0, .ref q3])), (q3, .inl (cI, 4, .inl (fun _ => 0))), (q4, .inl (cF, 16, .inr (.inr (.inr (.inr ff_31))))), (q5, .inl (cI, 3, .inl (fun _ => 0))), (q32, .inr (4, [.null, .null, .int 0, .int 0, .ref q34]))] := hD
  have hin_76 : vp_in 6 16 := by unfold vp_in; decide
  refine va_astq hx hb hK hP hD hS 3 3 5 4 rfl rfl rfl rfl hin_76 dX7_init_76 (fun H locs hP hD hS => ?_)
  have hP : va_P D vwCl [(h0, .inr (7, [.ref p1, .ref p2, .ref q6, .ref q1, .ref q4, .ref q5, .int 0, .int 0, .int 0, .int 0])), (q1, .inr (10, [.int 0, .int 0, .int 0, .int 0, .int 0, .int 0, .ref q3])), (q3, .inl (cI, 4, .inl (fun _ => 0))), (q4, .inl (cF, 16, .inr (.inr (.inr (.inr (va_up ff_31 (6 : Int32).toNatClampNeg (some q32))))))), (q5, .inl (cI, 3, .inl (fun _ => 0))), (q32, .inr (4, [.null, .null, .int 0, .int 0, .ref q34]))] H := hP
  have hD : va_D A [(h0, .inr (7, [.ref p1, .ref p2, .ref q6, .ref q1, .ref q4, .ref q5, .int 0, .int 0, .int 0, .int 0])), (q1, .inr (10, [.int 0, .int 0, .int 0, .int 0, .int 0, .int 0, .ref q3])), (q3, .inl (cI, 4, .inl (fun _ => 0))), (q4, .inl (cF, 16, .inr (.inr (.inr (.inr (va_up ff_31 (6 : Int32).toNatClampNeg (some q32))))))), (q5, .inl (cI, 3, .inl (fun _ => 0))), (q32, .inr (4, [.null, .null, .int 0, .int 0, .ref q34]))] := hD
  have hP := hP.sub (ws' := [(h0, .inr (7, [.ref p1, .ref p2, .ref q6, .ref q1, .ref q4, .ref q5, .int 0, .int 0, .int 0, .int 0])), (q1, .inr (10, [.int 0, .int 0, .int 0, .int 0, .int 0, .int 0, .ref q3])), (q3, .inl (cI, 4, .inl (fun _ => 0))), (q4, .inl (cF, 16, .inr (.inr (.inr (.inr (va_up ff_31 (6 : Int32).toNatClampNeg (some q32))))))), (q5, .inl (cI, 3, .inl (fun _ => 0)))]) [0, 1, 2, 3, 4] rfl
  have hD := hD.sub (ws' := [(h0, .inr (7, [.ref p1, .ref p2, .ref q6, .ref q1, .ref q4, .ref q5, .int 0, .int 0, .int 0, .int 0])), (q1, .inr (10, [.int 0, .int 0, .int 0, .int 0, .int 0, .int 0, .ref q3])), (q3, .inl (cI, 4, .inl (fun _ => 0))), (q4, .inl (cF, 16, .inr (.inr (.inr (.inr (va_up ff_31 (6 : Int32).toNatClampNeg (some q32))))))), (q5, .inl (cI, 3, .inl (fun _ => 0)))]) [0, 1, 2, 3, 4] (by decide) rfl
  generalize (va_up ff_31 (6 : Int32).toNatClampNeg (some q32)) = ff_35 at hP hD
  refine lv_iinc (v := 7) (lv' := [(4, .int 7), (0, .ref h0), (1, .ref p1), (2, .ref p2), (3, .ref p3)]) hx hb dX7_init_77 hl (k := 0) rfl (by decide) (by decide) rfl (fun ls hl => ?_)
  refine lv_goto (tgt := 56) hx hb dX7_init_80 (by decide) ?_
  refine lv_iload hx hb dX7_init_56 (lv_at hl 0 rfl) ?_
  refine lv_bipush (v := 16) hx hb dX7_init_58 (by decide) ?_
  refine lv_icmp_ge (tgt := 83) hx hb dX7_init_60 (by decide) (fun c => absurd c (by decide)) (fun _ => ?_)
  refine lv_aload_n hx hb dX7_init_63 rfl (lv_at hl 1 rfl) ?_
  refine va_get (D := D) (ci := 7) (v := .ref q4) (C := RX7) (T := TX7) (N := 10) hx hb hts (fun _ h => List.mem_cons_of_mem _ (List.mem_append_left _ (List.mem_append_left _ (List.mem_append_right _ h)))) hown hK hP 0 rfl rfl 4 (by decide) (hts (.fieldLink RX7 20 "TemplateForge$Machine" "frames" "[LTemplateForge$Frame;") (List.mem_of_getElem? (i := 14) rfl)) (fun _ h9 => h9) rfl dX7_init_64 ?_
  refine lv_iload hx hb dX7_init_67 (lv_at hl 0 rfl) ?_
  refine va_new (ci := 4) (fs := [.null, .null, .int 0, .int 0, .null]) (C := RX4) (T := TX4) (N := 5) hx hb hts (fun _ h => List.mem_cons_of_mem _ (List.mem_append_right _ h)) tyX4 tyX4_ok hown (hts (.classLink RX7 18 RX4) (List.mem_of_getElem? (i := 13) rfl)) (hts (.instantiable RX4 5) (List.mem_of_getElem? (i := 32) rfl)) (hts (.initialized RX4) (List.mem_of_getElem? (i := 33) rfl)) hK hP hD hS hA rfl (fun j hj => by rcases (show j = 0 ∨ j = 1 ∨ j = 2 ∨ j = 3 ∨ j = 4 by omega) with rfl | rfl | rfl | rfl | rfl <;> rfl) (Nat.le_of_ble_eq_true rfl) (Nat.le_of_ble_eq_true rfl) dX7_init_69 (fun q36 H hP hD hS => ?_)
  have hP : va_P D vwCl [(h0, .inr (7, [.ref p1, .ref p2, .ref q6, .ref q1, .ref q4, .ref q5, .int 0, .int 0, .int 0, .int 0])), (q1, .inr (10, [.int 0, .int 0, .int 0, .int 0, .int 0, .int 0, .ref q3])), (q3, .inl (cI, 4, .inl (fun _ => 0))), (q4, .inl (cF, 16, .inr (.inr (.inr (.inr ff_35))))), (q5, .inl (cI, 3, .inl (fun _ => 0))), (q36, .inr (4, [.null, .null, .int 0, .int 0, .null]))] H := hP
  have hD : va_D A [(h0, .inr (7, [.ref p1, .ref p2, .ref q6, .ref q1, .ref q4, .ref q5, .int 0, .int 0, .int 0, .int 0])), (q1, .inr (10, [.int 0, .int 0, .int 0, .int 0, .int 0, .int 0, .ref q3])), (q3, .inl (cI, 4, .inl (fun _ => 0))), (q4, .inl (cF, 16, .inr (.inr (.inr (.inr ff_35))))), (q5, .inl (cI, 3, .inl (fun _ => 0))), (q36, .inr (4, [.null, .null, .int 0, .int 0, .null]))] := hD
  refine lv_dup hx hb dX7_init_72 rfl ?_
  have hPc := hP.sub (ws' := [(q36, .inr (4, [.null, .null, .int 0, .int 0, .null]))]) [5] rfl
  have hDc := hD.sub (ws' := [(q36, .inr (4, [.null, .null, .int 0, .int 0, .null]))]) [5] (by decide) rfl
  have hFc := va_free (wc := [(q36, .inr (4, [.null, .null, .int 0, .int 0, .null]))]) hD hS hA [5] rfl
  refine va_callv (va_runIN (As := []) (rest := [.ref q36, .int 7, .ref q4]) ⟨hx, hb, hml, hown, hts⟩ (zc_X4_init l D cI cZ cP cF q36 H.size) ⟨va_cnB 0 hts zg_zc_X7_init_zc_X4_init rfl rfl rfl hE.nX7_45 (hts (.initialized RX4) (List.mem_of_getElem? (i := 33) rfl)) (by decide +kernel) ⟨Nat.le_of_ble_eq_true rfl, Nat.le_of_ble_eq_true rfl⟩, rfl, (hts (.instanceMethod yX4_init) (List.mem_of_getElem? (i := 37) rfl))⟩ ⟨zBW, fun U hU hW => ⟨rfl, by rw [hU], by rw [hU]; exact hPc, hE.warm hW, hDc.weaken (fun _ _ _ _ => trivial)⟩⟩ rfl rfl hl.1 rfl (lv_room (Nat.le_of_ble_eq_true rfl)) dX7_init_73 ⟨Nat.le_of_ble_eq_true rfl, Nat.le_of_ble_eq_true rfl⟩) hS (fun q _ h => hFc q h) hFc (fun u t H1 locs ht hvm h_73_37 hB hz1 hk1 hS => ?_)
  obtain ⟨q38, hP1, hD1⟩ := hB
  rw [ht] at hP1
  obtain ⟨hP, hD⟩ := va_join (wr := [(h0, .inr (7, [.ref p1, .ref p2, .ref q6, .ref q1, .ref q4, .ref q5, .int 0, .int 0, .int 0, .int 0])), (q1, .inr (10, [.int 0, .int 0, .int 0, .int 0, .int 0, .int 0, .ref q3])), (q3, .inl (cI, 4, .inl (fun _ => 0))), (q4, .inl (cF, 16, .inr (.inr (.inr (.inr ff_35))))), (q5, .inl (cI, 3, .inl (fun _ => 0)))]) (w1 := [(q36, .inr (4, [.null, .null, .int 0, .int 0, .ref q38]))]) hP hD [5] [0, 1, 2, 3, 4] rfl rfl (by decide) (by decide) hk1 hFc hP1 hD1
  generalize H1 = H at hP hS ⊢
  have hP : va_P D vwCl [(h0, .inr (7, [.ref p1, .ref p2, .ref q6, .ref q1, .ref q4, .ref q5, .int 0, .int 0, .int 0, .int 0])), (q1, .inr (10, [.int 0, .int 0, .int 0, .int 0, .int 0, .int 0, .ref q3])), (q3, .inl (cI, 4, .inl (fun _ => 0))), (q4, .inl (cF, 16, .inr (.inr (.inr (.inr ff_35))))), (q5, .inl (cI, 3, .inl (fun _ => 0))), (q36, .inr (4, [.null, .null, .int 0, .int 0, .ref q38]))] H := hP
  have hD : va_D A [(h0, .inr (7, [.ref p1, .ref p2, .ref q6, .ref q1, .ref q4, .ref q5, .int 0, .int 0, .int 0, .int 0])), (q1, .inr (10, [.int 0, .int 0, .int 0, .int 0, .int 0, .int 0, .ref q3])), (q3, .inl (cI, 4, .inl (fun _ => 0))), (q4, .inl (cF, 16, .inr (.inr (.inr (.inr ff_35))))), (q5, .inl (cI, 3, .inl (fun _ => 0))), (q36, .inr (4, [.null, .null, .int 0, .int 0, .ref q38]))] := hD
  have hin_76 : vp_in 7 16 := by unfold vp_in; decide
  refine va_astq hx hb hK hP hD hS 3 3 5 4 rfl rfl rfl rfl hin_76 dX7_init_76 (fun H locs hP hD hS => ?_)
  have hP : va_P D vwCl [(h0, .inr (7, [.ref p1, .ref p2, .ref q6, .ref q1, .ref q4, .ref q5, .int 0, .int 0, .int 0, .int 0])), (q1, .inr (10, [.int 0, .int 0, .int 0, .int 0, .int 0, .int 0, .ref q3])), (q3, .inl (cI, 4, .inl (fun _ => 0))), (q4, .inl (cF, 16, .inr (.inr (.inr (.inr (va_up ff_35 (7 : Int32).toNatClampNeg (some q36))))))), (q5, .inl (cI, 3, .inl (fun _ => 0))), (q36, .inr (4, [.null, .null, .int 0, .int 0, .ref q38]))] H := hP
  have hD : va_D A [(h0, .inr (7, [.ref p1, .ref p2, .ref q6, .ref q1, .ref q4, .ref q5, .int 0, .int 0, .int 0, .int 0])), (q1, .inr (10, [.int 0, .int 0, .int 0, .int 0, .int 0, .int 0, .ref q3])), (q3, .inl (cI, 4, .inl (fun _ => 0))), (q4, .inl (cF, 16, .inr (.inr (.inr (.inr (va_up ff_35 (7 : Int32).toNatClampNeg (some q36))))))), (q5, .inl (cI, 3, .inl (fun _ => 0))), (q36, .inr (4, [.null, .null, .int 0, .int 0, .ref q38]))] := hD
  have hP := hP.sub (ws' := [(h0, .inr (7, [.ref p1, .ref p2, .ref q6, .ref q1, .ref q4, .ref q5, .int 0, .int 0, .int 0, .int 0])), (q1, .inr (10, [.int 0, .int 0, .int 0, .int 0, .int 0, .int 0, .ref q3])), (q3, .inl (cI, 4, .inl (fun _ => 0))), (q4, .inl (cF, 16, .inr (.inr (.inr (.inr (va_up ff_35 (7 : Int32).toNatClampNeg (some q36))))))), (q5, .inl (cI, 3, .inl (fun _ => 0)))]) [0, 1, 2, 3, 4] rfl
  have hD := hD.sub (ws' := [(h0, .inr (7, [.ref p1, .ref p2, .ref q6, .ref q1, .ref q4, .ref q5, .int 0, .int 0, .int 0, .int 0])), (q1, .inr (10, [.int 0, .int 0, .int 0, .int 0, .int 0, .int 0, .ref q3])), (q3, .inl (cI, 4, .inl (fun _ => 0))), (q4, .inl (cF, 16, .inr (.inr (.inr (.inr (va_up ff_35 (7 : Int32).toNatClampNeg (some q36))))))), (q5, .inl (cI, 3, .inl (fun _ => 0)))]) [0, 1, 2, 3, 4] (by decide) rfl
  generalize (va_up ff_35 (7 : Int32).toNatClampNeg (some q36)) = ff_39 at hP hD
  refine lv_iinc (v := 8) (lv' := [(4, .int 8), (0, .ref h0), (1, .ref p1), (2, .ref p2), (3, .ref p3)]) hx hb dX7_init_77 hl (k := 0) rfl (by decide) (by decide) rfl (fun ls hl => ?_)
  refine lv_goto (tgt := 56) hx hb dX7_init_80 (by decide) ?_
  refine lv_iload hx hb dX7_init_56 (lv_at hl 0 rfl) ?_
  refine lv_bipush (v := 16) hx hb dX7_init_58 (by decide) ?_
  refine lv_icmp_ge (tgt := 83) hx hb dX7_init_60 (by decide) (fun c => absurd c (by decide)) (fun _ => ?_)
  refine lv_aload_n hx hb dX7_init_63 rfl (lv_at hl 1 rfl) ?_
  refine va_get (D := D) (ci := 7) (v := .ref q4) (C := RX7) (T := TX7) (N := 10) hx hb hts (fun _ h => List.mem_cons_of_mem _ (List.mem_append_left _ (List.mem_append_left _ (List.mem_append_right _ h)))) hown hK hP 0 rfl rfl 4 (by decide) (hts (.fieldLink RX7 20 "TemplateForge$Machine" "frames" "[LTemplateForge$Frame;") (List.mem_of_getElem? (i := 14) rfl)) (fun _ h9 => h9) rfl dX7_init_64 ?_
  refine lv_iload hx hb dX7_init_67 (lv_at hl 0 rfl) ?_
  refine va_new (ci := 4) (fs := [.null, .null, .int 0, .int 0, .null]) (C := RX4) (T := TX4) (N := 5) hx hb hts (fun _ h => List.mem_cons_of_mem _ (List.mem_append_right _ h)) tyX4 tyX4_ok hown (hts (.classLink RX7 18 RX4) (List.mem_of_getElem? (i := 13) rfl)) (hts (.instantiable RX4 5) (List.mem_of_getElem? (i := 32) rfl)) (hts (.initialized RX4) (List.mem_of_getElem? (i := 33) rfl)) hK hP hD hS hA rfl (fun j hj => by rcases (show j = 0 ∨ j = 1 ∨ j = 2 ∨ j = 3 ∨ j = 4 by omega) with rfl | rfl | rfl | rfl | rfl <;> rfl) (Nat.le_of_ble_eq_true rfl) (Nat.le_of_ble_eq_true rfl) dX7_init_69 (fun q40 H hP hD hS => ?_)
  have hP : va_P D vwCl [(h0, .inr (7, [.ref p1, .ref p2, .ref q6, .ref q1, .ref q4, .ref q5, .int 0, .int 0, .int 0, .int 0])), (q1, .inr (10, [.int 0, .int 0, .int 0, .int 0, .int 0, .int 0, .ref q3])), (q3, .inl (cI, 4, .inl (fun _ => 0))), (q4, .inl (cF, 16, .inr (.inr (.inr (.inr ff_39))))), (q5, .inl (cI, 3, .inl (fun _ => 0))), (q40, .inr (4, [.null, .null, .int 0, .int 0, .null]))] H := hP
  have hD : va_D A [(h0, .inr (7, [.ref p1, .ref p2, .ref q6, .ref q1, .ref q4, .ref q5, .int 0, .int 0, .int 0, .int 0])), (q1, .inr (10, [.int 0, .int 0, .int 0, .int 0, .int 0, .int 0, .ref q3])), (q3, .inl (cI, 4, .inl (fun _ => 0))), (q4, .inl (cF, 16, .inr (.inr (.inr (.inr ff_39))))), (q5, .inl (cI, 3, .inl (fun _ => 0))), (q40, .inr (4, [.null, .null, .int 0, .int 0, .null]))] := hD
  refine lv_dup hx hb dX7_init_72 rfl ?_
  have hPc := hP.sub (ws' := [(q40, .inr (4, [.null, .null, .int 0, .int 0, .null]))]) [5] rfl
  have hDc := hD.sub (ws' := [(q40, .inr (4, [.null, .null, .int 0, .int 0, .null]))]) [5] (by decide) rfl
  have hFc := va_free (wc := [(q40, .inr (4, [.null, .null, .int 0, .int 0, .null]))]) hD hS hA [5] rfl
  refine va_callv (va_runIN (As := []) (rest := [.ref q40, .int 8, .ref q4]) ⟨hx, hb, hml, hown, hts⟩ (zc_X4_init l D cI cZ cP cF q40 H.size) ⟨va_cnB 0 hts zg_zc_X7_init_zc_X4_init rfl rfl rfl hE.nX7_45 (hts (.initialized RX4) (List.mem_of_getElem? (i := 33) rfl)) (by decide +kernel) ⟨Nat.le_of_ble_eq_true rfl, Nat.le_of_ble_eq_true rfl⟩, rfl, (hts (.instanceMethod yX4_init) (List.mem_of_getElem? (i := 37) rfl))⟩ ⟨zBW, fun U hU hW => ⟨rfl, by rw [hU], by rw [hU]; exact hPc, hE.warm hW, hDc.weaken (fun _ _ _ _ => trivial)⟩⟩ rfl rfl hl.1 rfl (lv_room (Nat.le_of_ble_eq_true rfl)) dX7_init_73 ⟨Nat.le_of_ble_eq_true rfl, Nat.le_of_ble_eq_true rfl⟩) hS (fun q _ h => hFc q h) hFc (fun u t H1 locs ht hvm h_73_41 hB hz1 hk1 hS => ?_)
  obtain ⟨q42, hP1, hD1⟩ := hB
  rw [ht] at hP1
  obtain ⟨hP, hD⟩ := va_join (wr := [(h0, .inr (7, [.ref p1, .ref p2, .ref q6, .ref q1, .ref q4, .ref q5, .int 0, .int 0, .int 0, .int 0])), (q1, .inr (10, [.int 0, .int 0, .int 0, .int 0, .int 0, .int 0, .ref q3])), (q3, .inl (cI, 4, .inl (fun _ => 0))), (q4, .inl (cF, 16, .inr (.inr (.inr (.inr ff_39))))), (q5, .inl (cI, 3, .inl (fun _ => 0)))]) (w1 := [(q40, .inr (4, [.null, .null, .int 0, .int 0, .ref q42]))]) hP hD [5] [0, 1, 2, 3, 4] rfl rfl (by decide) (by decide) hk1 hFc hP1 hD1
  generalize H1 = H at hP hS ⊢
  have hP : va_P D vwCl [(h0, .inr (7, [.ref p1, .ref p2, .ref q6, .ref q1, .ref q4, .ref q5, .int 0, .int 0, .int 0, .int 0])), (q1, .inr (10, [.int 0, .int 0, .int 0, .int 0, .int 0, .int 0, .ref q3])), (q3, .inl (cI, 4, .inl (fun _ => 0))), (q4, .inl (cF, 16, .inr (.inr (.inr (.inr ff_39))))), (q5, .inl (cI, 3, .inl (fun _ => 0))), (q40, .inr (4, [.null, .null, .int 0, .int 0, .ref q42]))] H := hP
  have hD : va_D A [(h0, .inr (7, [.ref p1, .ref p2, .ref q6, .ref q1, .ref q4, .ref q5, .int 0, .int 0, .int 0, .int 0])), (q1, .inr (10, [.int 0, .int 0, .int 0, .int 0, .int 0, .int 0, .ref q3])), (q3, .inl (cI, 4, .inl (fun _ => 0))), (q4, .inl (cF, 16, .inr (.inr (.inr (.inr ff_39))))), (q5, .inl (cI, 3, .inl (fun _ => 0))), (q40, .inr (4, [.null, .null, .int 0, .int 0, .ref q42]))] := hD
  have hin_76 : vp_in 8 16 := by unfold vp_in; decide
  refine va_astq hx hb hK hP hD hS 3 3 5 4 rfl rfl rfl rfl hin_76 dX7_init_76 (fun H locs hP hD hS => ?_)
  have hP : va_P D vwCl [(h0, .inr (7, [.ref p1, .ref p2, .ref q6, .ref q1, .ref q4, .ref q5, .int 0, .int 0, .int 0, .int 0])), (q1, .inr (10, [.int 0, .int 0, .int 0, .int 0, .int 0, .int 0, .ref q3])), (q3, .inl (cI, 4, .inl (fun _ => 0))), (q4, .inl (cF, 16, .inr (.inr (.inr (.inr (va_up ff_39 (8 : Int32).toNatClampNeg (some q40))))))), (q5, .inl (cI, 3, .inl (fun _ => 0))), (q40, .inr (4, [.null, .null, .int 0, .int 0, .ref q42]))] H := hP
  have hD : va_D A [(h0, .inr (7, [.ref p1, .ref p2, .ref q6, .ref q1, .ref q4, .ref q5, .int 0, .int 0, .int 0, .int 0])), (q1, .inr (10, [.int 0, .int 0, .int 0, .int 0, .int 0, .int 0, .ref q3])), (q3, .inl (cI, 4, .inl (fun _ => 0))), (q4, .inl (cF, 16, .inr (.inr (.inr (.inr (va_up ff_39 (8 : Int32).toNatClampNeg (some q40))))))), (q5, .inl (cI, 3, .inl (fun _ => 0))), (q40, .inr (4, [.null, .null, .int 0, .int 0, .ref q42]))] := hD
  have hP := hP.sub (ws' := [(h0, .inr (7, [.ref p1, .ref p2, .ref q6, .ref q1, .ref q4, .ref q5, .int 0, .int 0, .int 0, .int 0])), (q1, .inr (10, [.int 0, .int 0, .int 0, .int 0, .int 0, .int 0, .ref q3])), (q3, .inl (cI, 4, .inl (fun _ => 0))), (q4, .inl (cF, 16, .inr (.inr (.inr (.inr (va_up ff_39 (8 : Int32).toNatClampNeg (some q40))))))), (q5, .inl (cI, 3, .inl (fun _ => 0)))]) [0, 1, 2, 3, 4] rfl
  have hD := hD.sub (ws' := [(h0, .inr (7, [.ref p1, .ref p2, .ref q6, .ref q1, .ref q4, .ref q5, .int 0, .int 0, .int 0, .int 0])), (q1, .inr (10, [.int 0, .int 0, .int 0, .int 0, .int 0, .int 0, .ref q3])), (q3, .inl (cI, 4, .inl (fun _ => 0))), (q4, .inl (cF, 16, .inr (.inr (.inr (.inr (va_up ff_39 (8 : Int32).toNatClampNeg (some q40))))))), (q5, .inl (cI, 3, .inl (fun _ => 0)))]) [0, 1, 2, 3, 4] (by decide) rfl
  generalize (va_up ff_39 (8 : Int32).toNatClampNeg (some q40)) = ff_43 at hP hD
  refine lv_iinc (v := 9) (lv' := [(4, .int 9), (0, .ref h0), (1, .ref p1), (2, .ref p2), (3, .ref p3)]) hx hb dX7_init_77 hl (k := 0) rfl (by decide) (by decide) rfl (fun ls hl => ?_)
  refine lv_goto (tgt := 56) hx hb dX7_init_80 (by decide) ?_
  refine lv_iload hx hb dX7_init_56 (lv_at hl 0 rfl) ?_
  refine lv_bipush (v := 16) hx hb dX7_init_58 (by decide) ?_
  refine lv_icmp_ge (tgt := 83) hx hb dX7_init_60 (by decide) (fun c => absurd c (by decide)) (fun _ => ?_)
  refine lv_aload_n hx hb dX7_init_63 rfl (lv_at hl 1 rfl) ?_
  refine va_get (D := D) (ci := 7) (v := .ref q4) (C := RX7) (T := TX7) (N := 10) hx hb hts (fun _ h => List.mem_cons_of_mem _ (List.mem_append_left _ (List.mem_append_left _ (List.mem_append_right _ h)))) hown hK hP 0 rfl rfl 4 (by decide) (hts (.fieldLink RX7 20 "TemplateForge$Machine" "frames" "[LTemplateForge$Frame;") (List.mem_of_getElem? (i := 14) rfl)) (fun _ h9 => h9) rfl dX7_init_64 ?_
  refine lv_iload hx hb dX7_init_67 (lv_at hl 0 rfl) ?_
  refine va_new (ci := 4) (fs := [.null, .null, .int 0, .int 0, .null]) (C := RX4) (T := TX4) (N := 5) hx hb hts (fun _ h => List.mem_cons_of_mem _ (List.mem_append_right _ h)) tyX4 tyX4_ok hown (hts (.classLink RX7 18 RX4) (List.mem_of_getElem? (i := 13) rfl)) (hts (.instantiable RX4 5) (List.mem_of_getElem? (i := 32) rfl)) (hts (.initialized RX4) (List.mem_of_getElem? (i := 33) rfl)) hK hP hD hS hA rfl (fun j hj => by rcases (show j = 0 ∨ j = 1 ∨ j = 2 ∨ j = 3 ∨ j = 4 by omega) with rfl | rfl | rfl | rfl | rfl <;> rfl) (Nat.le_of_ble_eq_true rfl) (Nat.le_of_ble_eq_true rfl) dX7_init_69 (fun q44 H hP hD hS => ?_)
  have hP : va_P D vwCl [(h0, .inr (7, [.ref p1, .ref p2, .ref q6, .ref q1, .ref q4, .ref q5, .int 0, .int 0, .int 0, .int 0])), (q1, .inr (10, [.int 0, .int 0, .int 0, .int 0, .int 0, .int 0, .ref q3])), (q3, .inl (cI, 4, .inl (fun _ => 0))), (q4, .inl (cF, 16, .inr (.inr (.inr (.inr ff_43))))), (q5, .inl (cI, 3, .inl (fun _ => 0))), (q44, .inr (4, [.null, .null, .int 0, .int 0, .null]))] H := hP
  have hD : va_D A [(h0, .inr (7, [.ref p1, .ref p2, .ref q6, .ref q1, .ref q4, .ref q5, .int 0, .int 0, .int 0, .int 0])), (q1, .inr (10, [.int 0, .int 0, .int 0, .int 0, .int 0, .int 0, .ref q3])), (q3, .inl (cI, 4, .inl (fun _ => 0))), (q4, .inl (cF, 16, .inr (.inr (.inr (.inr ff_43))))), (q5, .inl (cI, 3, .inl (fun _ => 0))), (q44, .inr (4, [.null, .null, .int 0, .int 0, .null]))] := hD
  refine lv_dup hx hb dX7_init_72 rfl ?_
  have hPc := hP.sub (ws' := [(q44, .inr (4, [.null, .null, .int 0, .int 0, .null]))]) [5] rfl
  have hDc := hD.sub (ws' := [(q44, .inr (4, [.null, .null, .int 0, .int 0, .null]))]) [5] (by decide) rfl
  have hFc := va_free (wc := [(q44, .inr (4, [.null, .null, .int 0, .int 0, .null]))]) hD hS hA [5] rfl
  refine va_callv (va_runIN (As := []) (rest := [.ref q44, .int 9, .ref q4]) ⟨hx, hb, hml, hown, hts⟩ (zc_X4_init l D cI cZ cP cF q44 H.size) ⟨va_cnB 0 hts zg_zc_X7_init_zc_X4_init rfl rfl rfl hE.nX7_45 (hts (.initialized RX4) (List.mem_of_getElem? (i := 33) rfl)) (by decide +kernel) ⟨Nat.le_of_ble_eq_true rfl, Nat.le_of_ble_eq_true rfl⟩, rfl, (hts (.instanceMethod yX4_init) (List.mem_of_getElem? (i := 37) rfl))⟩ ⟨zBW, fun U hU hW => ⟨rfl, by rw [hU], by rw [hU]; exact hPc, hE.warm hW, hDc.weaken (fun _ _ _ _ => trivial)⟩⟩ rfl rfl hl.1 rfl (lv_room (Nat.le_of_ble_eq_true rfl)) dX7_init_73 ⟨Nat.le_of_ble_eq_true rfl, Nat.le_of_ble_eq_true rfl⟩) hS (fun q _ h => hFc q h) hFc (fun u t H1 locs ht hvm h_73_45 hB hz1 hk1 hS => ?_)
  obtain ⟨q46, hP1, hD1⟩ := hB
  rw [ht] at hP1
  obtain ⟨hP, hD⟩ := va_join (wr := [(h0, .inr (7, [.ref p1, .ref p2, .ref q6, .ref q1, .ref q4, .ref q5, .int 0, .int 0, .int 0, .int 0])), (q1, .inr (10, [.int 0, .int 0, .int 0, .int 0, .int 0, .int 0, .ref q3])), (q3, .inl (cI, 4, .inl (fun _ => 0))), (q4, .inl (cF, 16, .inr (.inr (.inr (.inr ff_43))))), (q5, .inl (cI, 3, .inl (fun _ => 0)))]) (w1 := [(q44, .inr (4, [.null, .null, .int 0, .int 0, .ref q46]))]) hP hD [5] [0, 1, 2, 3, 4] rfl rfl (by decide) (by decide) hk1 hFc hP1 hD1
  generalize H1 = H at hP hS ⊢
  have hP : va_P D vwCl [(h0, .inr (7, [.ref p1, .ref p2, .ref q6, .ref q1, .ref q4, .ref q5, .int 0, .int 0, .int 0, .int 0])), (q1, .inr (10, [.int 0, .int 0, .int 0, .int 0, .int 0, .int 0, .ref q3])), (q3, .inl (cI, 4, .inl (fun _ => 0))), (q4, .inl (cF, 16, .inr (.inr (.inr (.inr ff_43))))), (q5, .inl (cI, 3, .inl (fun _ => 0))), (q44, .inr (4, [.null, .null, .int 0, .int 0, .ref q46]))] H := hP
  have hD : va_D A [(h0, .inr (7, [.ref p1, .ref p2, .ref q6, .ref q1, .ref q4, .ref q5, .int 0, .int 0, .int 0, .int 0])), (q1, .inr (10, [.int 0, .int 0, .int 0, .int 0, .int 0, .int 0, .ref q3])), (q3, .inl (cI, 4, .inl (fun _ => 0))), (q4, .inl (cF, 16, .inr (.inr (.inr (.inr ff_43))))), (q5, .inl (cI, 3, .inl (fun _ => 0))), (q44, .inr (4, [.null, .null, .int 0, .int 0, .ref q46]))] := hD
  have hin_76 : vp_in 9 16 := by unfold vp_in; decide
  refine va_astq hx hb hK hP hD hS 3 3 5 4 rfl rfl rfl rfl hin_76 dX7_init_76 (fun H locs hP hD hS => ?_)
  have hP : va_P D vwCl [(h0, .inr (7, [.ref p1, .ref p2, .ref q6, .ref q1, .ref q4, .ref q5, .int 0, .int 0, .int 0, .int 0])), (q1, .inr (10, [.int 0, .int 0, .int 0, .int 0, .int 0, .int 0, .ref q3])), (q3, .inl (cI, 4, .inl (fun _ => 0))), (q4, .inl (cF, 16, .inr (.inr (.inr (.inr (va_up ff_43 (9 : Int32).toNatClampNeg (some q44))))))), (q5, .inl (cI, 3, .inl (fun _ => 0))), (q44, .inr (4, [.null, .null, .int 0, .int 0, .ref q46]))] H := hP
  have hD : va_D A [(h0, .inr (7, [.ref p1, .ref p2, .ref q6, .ref q1, .ref q4, .ref q5, .int 0, .int 0, .int 0, .int 0])), (q1, .inr (10, [.int 0, .int 0, .int 0, .int 0, .int 0, .int 0, .ref q3])), (q3, .inl (cI, 4, .inl (fun _ => 0))), (q4, .inl (cF, 16, .inr (.inr (.inr (.inr (va_up ff_43 (9 : Int32).toNatClampNeg (some q44))))))), (q5, .inl (cI, 3, .inl (fun _ => 0))), (q44, .inr (4, [.null, .null, .int 0, .int 0, .ref q46]))] := hD
  have hP := hP.sub (ws' := [(h0, .inr (7, [.ref p1, .ref p2, .ref q6, .ref q1, .ref q4, .ref q5, .int 0, .int 0, .int 0, .int 0])), (q1, .inr (10, [.int 0, .int 0, .int 0, .int 0, .int 0, .int 0, .ref q3])), (q3, .inl (cI, 4, .inl (fun _ => 0))), (q4, .inl (cF, 16, .inr (.inr (.inr (.inr (va_up ff_43 (9 : Int32).toNatClampNeg (some q44))))))), (q5, .inl (cI, 3, .inl (fun _ => 0)))]) [0, 1, 2, 3, 4] rfl
  have hD := hD.sub (ws' := [(h0, .inr (7, [.ref p1, .ref p2, .ref q6, .ref q1, .ref q4, .ref q5, .int 0, .int 0, .int 0, .int 0])), (q1, .inr (10, [.int 0, .int 0, .int 0, .int 0, .int 0, .int 0, .ref q3])), (q3, .inl (cI, 4, .inl (fun _ => 0))), (q4, .inl (cF, 16, .inr (.inr (.inr (.inr (va_up ff_43 (9 : Int32).toNatClampNeg (some q44))))))), (q5, .inl (cI, 3, .inl (fun _ => 0)))]) [0, 1, 2, 3, 4] (by decide) rfl
  generalize (va_up ff_43 (9 : Int32).toNatClampNeg (some q44)) = ff_47 at hP hD
  refine lv_iinc (v := 10) (lv' := [(4, .int 10), (0, .ref h0), (1, .ref p1), (2, .ref p2), (3, .ref p3)]) hx hb dX7_init_77 hl (k := 0) rfl (by decide) (by decide) rfl (fun ls hl => ?_)
  refine lv_goto (tgt := 56) hx hb dX7_init_80 (by decide) ?_
  refine lv_iload hx hb dX7_init_56 (lv_at hl 0 rfl) ?_
  refine lv_bipush (v := 16) hx hb dX7_init_58 (by decide) ?_
  refine lv_icmp_ge (tgt := 83) hx hb dX7_init_60 (by decide) (fun c => absurd c (by decide)) (fun _ => ?_)
  refine lv_aload_n hx hb dX7_init_63 rfl (lv_at hl 1 rfl) ?_
  refine va_get (D := D) (ci := 7) (v := .ref q4) (C := RX7) (T := TX7) (N := 10) hx hb hts (fun _ h => List.mem_cons_of_mem _ (List.mem_append_left _ (List.mem_append_left _ (List.mem_append_right _ h)))) hown hK hP 0 rfl rfl 4 (by decide) (hts (.fieldLink RX7 20 "TemplateForge$Machine" "frames" "[LTemplateForge$Frame;") (List.mem_of_getElem? (i := 14) rfl)) (fun _ h9 => h9) rfl dX7_init_64 ?_
  refine lv_iload hx hb dX7_init_67 (lv_at hl 0 rfl) ?_
  refine va_new (ci := 4) (fs := [.null, .null, .int 0, .int 0, .null]) (C := RX4) (T := TX4) (N := 5) hx hb hts (fun _ h => List.mem_cons_of_mem _ (List.mem_append_right _ h)) tyX4 tyX4_ok hown (hts (.classLink RX7 18 RX4) (List.mem_of_getElem? (i := 13) rfl)) (hts (.instantiable RX4 5) (List.mem_of_getElem? (i := 32) rfl)) (hts (.initialized RX4) (List.mem_of_getElem? (i := 33) rfl)) hK hP hD hS hA rfl (fun j hj => by rcases (show j = 0 ∨ j = 1 ∨ j = 2 ∨ j = 3 ∨ j = 4 by omega) with rfl | rfl | rfl | rfl | rfl <;> rfl) (Nat.le_of_ble_eq_true rfl) (Nat.le_of_ble_eq_true rfl) dX7_init_69 (fun q48 H hP hD hS => ?_)
  have hP : va_P D vwCl [(h0, .inr (7, [.ref p1, .ref p2, .ref q6, .ref q1, .ref q4, .ref q5, .int 0, .int 0, .int 0, .int 0])), (q1, .inr (10, [.int 0, .int 0, .int 0, .int 0, .int 0, .int 0, .ref q3])), (q3, .inl (cI, 4, .inl (fun _ => 0))), (q4, .inl (cF, 16, .inr (.inr (.inr (.inr ff_47))))), (q5, .inl (cI, 3, .inl (fun _ => 0))), (q48, .inr (4, [.null, .null, .int 0, .int 0, .null]))] H := hP
  have hD : va_D A [(h0, .inr (7, [.ref p1, .ref p2, .ref q6, .ref q1, .ref q4, .ref q5, .int 0, .int 0, .int 0, .int 0])), (q1, .inr (10, [.int 0, .int 0, .int 0, .int 0, .int 0, .int 0, .ref q3])), (q3, .inl (cI, 4, .inl (fun _ => 0))), (q4, .inl (cF, 16, .inr (.inr (.inr (.inr ff_47))))), (q5, .inl (cI, 3, .inl (fun _ => 0))), (q48, .inr (4, [.null, .null, .int 0, .int 0, .null]))] := hD
  refine lv_dup hx hb dX7_init_72 rfl ?_
  have hPc := hP.sub (ws' := [(q48, .inr (4, [.null, .null, .int 0, .int 0, .null]))]) [5] rfl
  have hDc := hD.sub (ws' := [(q48, .inr (4, [.null, .null, .int 0, .int 0, .null]))]) [5] (by decide) rfl
  have hFc := va_free (wc := [(q48, .inr (4, [.null, .null, .int 0, .int 0, .null]))]) hD hS hA [5] rfl
  refine va_callv (va_runIN (As := []) (rest := [.ref q48, .int 10, .ref q4]) ⟨hx, hb, hml, hown, hts⟩ (zc_X4_init l D cI cZ cP cF q48 H.size) ⟨va_cnB 0 hts zg_zc_X7_init_zc_X4_init rfl rfl rfl hE.nX7_45 (hts (.initialized RX4) (List.mem_of_getElem? (i := 33) rfl)) (by decide +kernel) ⟨Nat.le_of_ble_eq_true rfl, Nat.le_of_ble_eq_true rfl⟩, rfl, (hts (.instanceMethod yX4_init) (List.mem_of_getElem? (i := 37) rfl))⟩ ⟨zBW, fun U hU hW => ⟨rfl, by rw [hU], by rw [hU]; exact hPc, hE.warm hW, hDc.weaken (fun _ _ _ _ => trivial)⟩⟩ rfl rfl hl.1 rfl (lv_room (Nat.le_of_ble_eq_true rfl)) dX7_init_73 ⟨Nat.le_of_ble_eq_true rfl, Nat.le_of_ble_eq_true rfl⟩) hS (fun q _ h => hFc q h) hFc (fun u t H1 locs ht hvm h_73_49 hB hz1 hk1 hS => ?_)
  obtain ⟨q50, hP1, hD1⟩ := hB
  rw [ht] at hP1
  obtain ⟨hP, hD⟩ := va_join (wr := [(h0, .inr (7, [.ref p1, .ref p2, .ref q6, .ref q1, .ref q4, .ref q5, .int 0, .int 0, .int 0, .int 0])), (q1, .inr (10, [.int 0, .int 0, .int 0, .int 0, .int 0, .int 0, .ref q3])), (q3, .inl (cI, 4, .inl (fun _ => 0))), (q4, .inl (cF, 16, .inr (.inr (.inr (.inr ff_47))))), (q5, .inl (cI, 3, .inl (fun _ => 0)))]) (w1 := [(q48, .inr (4, [.null, .null, .int 0, .int 0, .ref q50]))]) hP hD [5] [0, 1, 2, 3, 4] rfl rfl (by decide) (by decide) hk1 hFc hP1 hD1
  generalize H1 = H at hP hS ⊢
  have hP : va_P D vwCl [(h0, .inr (7, [.ref p1, .ref p2, .ref q6, .ref q1, .ref q4, .ref q5, .int 0, .int 0, .int 0, .int 0])), (q1, .inr (10, [.int 0, .int 0, .int 0, .int 0, .int 0, .int 0, .ref q3])), (q3, .inl (cI, 4, .inl (fun _ => 0))), (q4, .inl (cF, 16, .inr (.inr (.inr (.inr ff_47))))), (q5, .inl (cI, 3, .inl (fun _ => 0))), (q48, .inr (4, [.null, .null, .int 0, .int 0, .ref q50]))] H := hP
  have hD : va_D A [(h0, .inr (7, [.ref p1, .ref p2, .ref q6, .ref q1, .ref q4, .ref q5, .int 0, .int 0, .int 0, .int 0])), (q1, .inr (10, [.int 0, .int 0, .int 0, .int 0, .int 0, .int 0, .ref q3])), (q3, .inl (cI, 4, .inl (fun _ => 0))), (q4, .inl (cF, 16, .inr (.inr (.inr (.inr ff_47))))), (q5, .inl (cI, 3, .inl (fun _ => 0))), (q48, .inr (4, [.null, .null, .int 0, .int 0, .ref q50]))] := hD
  have hin_76 : vp_in 10 16 := by unfold vp_in; decide
  refine va_astq hx hb hK hP hD hS 3 3 5 4 rfl rfl rfl rfl hin_76 dX7_init_76 (fun H locs hP hD hS => ?_)
  have hP : va_P D vwCl [(h0, .inr (7, [.ref p1, .ref p2, .ref q6, .ref q1, .ref q4, .ref q5, .int 0, .int 0, .int 0, .int 0])), (q1, .inr (10, [.int 0, .int 0, .int 0, .int 0, .int 0, .int 0, .ref q3])), (q3, .inl (cI, 4, .inl (fun _ => 0))), (q4, .inl (cF, 16, .inr (.inr (.inr (.inr (va_up ff_47 (10 : Int32).toNatClampNeg (some q48))))))), (q5, .inl (cI, 3, .inl (fun _ => 0))), (q48, .inr (4, [.null, .null, .int 0, .int 0, .ref q50]))] H := hP
  have hD : va_D A [(h0, .inr (7, [.ref p1, .ref p2, .ref q6, .ref q1, .ref q4, .ref q5, .int 0, .int 0, .int 0, .int 0])), (q1, .inr (10, [.int 0, .int 0, .int 0, .int 0, .int 0, .int 0, .ref q3])), (q3, .inl (cI, 4, .inl (fun _ => 0))), (q4, .inl (cF, 16, .inr (.inr (.inr (.inr (va_up ff_47 (10 : Int32).toNatClampNeg (some q48))))))), (q5, .inl (cI, 3, .inl (fun _ => 0))), (q48, .inr (4, [.null, .null, .int 0, .int 0, .ref q50]))] := hD
  have hP := hP.sub (ws' := [(h0, .inr (7, [.ref p1, .ref p2, .ref q6, .ref q1, .ref q4, .ref q5, .int 0, .int 0, .int 0, .int 0])), (q1, .inr (10, [.int 0, .int 0, .int 0, .int 0, .int 0, .int 0, .ref q3])), (q3, .inl (cI, 4, .inl (fun _ => 0))), (q4, .inl (cF, 16, .inr (.inr (.inr (.inr (va_up ff_47 (10 : Int32).toNatClampNeg (some q48))))))), (q5, .inl (cI, 3, .inl (fun _ => 0)))]) [0, 1, 2, 3, 4] rfl
  have hD := hD.sub (ws' := [(h0, .inr (7, [.ref p1, .ref p2, .ref q6, .ref q1, .ref q4, .ref q5, .int 0, .int 0, .int 0, .int 0])), (q1, .inr (10, [.int 0, .int 0, .int 0, .int 0, .int 0, .int 0, .ref q3])), (q3, .inl (cI, 4, .inl (fun _ => 0))), (q4, .inl (cF, 16, .inr (.inr (.inr (.inr (va_up ff_47 (10 : Int32).toNatClampNeg (some q48))))))), (q5, .inl (cI, 3, .inl (fun _ => 0)))]) [0, 1, 2, 3, 4] (by decide) rfl
  generalize (va_up ff_47 (10 : Int32).toNatClampNeg (some q48)) = ff_51 at hP hD
  refine lv_iinc (v := 11) (lv' := [(4, .int 11), (0, .ref h0), (1, .ref p1), (2, .ref p2), (3, .ref p3)]) hx hb dX7_init_77 hl (k := 0) rfl (by decide) (by decide) rfl (fun ls hl => ?_)
  refine lv_goto (tgt := 56) hx hb dX7_init_80 (by decide) ?_
  refine lv_iload hx hb dX7_init_56 (lv_at hl 0 rfl) ?_
  refine lv_bipush (v := 16) hx hb dX7_init_58 (by decide) ?_
  refine lv_icmp_ge (tgt := 83) hx hb dX7_init_60 (by decide) (fun c => absurd c (by decide)) (fun _ => ?_)
  refine lv_aload_n hx hb dX7_init_63 rfl (lv_at hl 1 rfl) ?_
  refine va_get (D := D) (ci := 7) (v := .ref q4) (C := RX7) (T := TX7) (N := 10) hx hb hts (fun _ h => List.mem_cons_of_mem _ (List.mem_append_left _ (List.mem_append_left _ (List.mem_append_right _ h)))) hown hK hP 0 rfl rfl 4 (by decide) (hts (.fieldLink RX7 20 "TemplateForge$Machine" "frames" "[LTemplateForge$Frame;") (List.mem_of_getElem? (i := 14) rfl)) (fun _ h9 => h9) rfl dX7_init_64 ?_
  refine lv_iload hx hb dX7_init_67 (lv_at hl 0 rfl) ?_
  refine va_new (ci := 4) (fs := [.null, .null, .int 0, .int 0, .null]) (C := RX4) (T := TX4) (N := 5) hx hb hts (fun _ h => List.mem_cons_of_mem _ (List.mem_append_right _ h)) tyX4 tyX4_ok hown (hts (.classLink RX7 18 RX4) (List.mem_of_getElem? (i := 13) rfl)) (hts (.instantiable RX4 5) (List.mem_of_getElem? (i := 32) rfl)) (hts (.initialized RX4) (List.mem_of_getElem? (i := 33) rfl)) hK hP hD hS hA rfl (fun j hj => by rcases (show j = 0 ∨ j = 1 ∨ j = 2 ∨ j = 3 ∨ j = 4 by omega) with rfl | rfl | rfl | rfl | rfl <;> rfl) (Nat.le_of_ble_eq_true rfl) (Nat.le_of_ble_eq_true rfl) dX7_init_69 (fun q52 H hP hD hS => ?_)
  have hP : va_P D vwCl [(h0, .inr (7, [.ref p1, .ref p2, .ref q6, .ref q1, .ref q4, .ref q5, .int 0, .int 0, .int 0, .int 0])), (q1, .inr (10, [.int 0, .int 0, .int 0, .int 0, .int 0, .int 0, .ref q3])), (q3, .inl (cI, 4, .inl (fun _ => 0))), (q4, .inl (cF, 16, .inr (.inr (.inr (.inr ff_51))))), (q5, .inl (cI, 3, .inl (fun _ => 0))), (q52, .inr (4, [.null, .null, .int 0, .int 0, .null]))] H := hP
  have hD : va_D A [(h0, .inr (7, [.ref p1, .ref p2, .ref q6, .ref q1, .ref q4, .ref q5, .int 0, .int 0, .int 0, .int 0])), (q1, .inr (10, [.int 0, .int 0, .int 0, .int 0, .int 0, .int 0, .ref q3])), (q3, .inl (cI, 4, .inl (fun _ => 0))), (q4, .inl (cF, 16, .inr (.inr (.inr (.inr ff_51))))), (q5, .inl (cI, 3, .inl (fun _ => 0))), (q52, .inr (4, [.null, .null, .int 0, .int 0, .null]))] := hD
  refine lv_dup hx hb dX7_init_72 rfl ?_
  have hPc := hP.sub (ws' := [(q52, .inr (4, [.null, .null, .int 0, .int 0, .null]))]) [5] rfl
  have hDc := hD.sub (ws' := [(q52, .inr (4, [.null, .null, .int 0, .int 0, .null]))]) [5] (by decide) rfl
  have hFc := va_free (wc := [(q52, .inr (4, [.null, .null, .int 0, .int 0, .null]))]) hD hS hA [5] rfl
  refine va_callv (va_runIN (As := []) (rest := [.ref q52, .int 11, .ref q4]) ⟨hx, hb, hml, hown, hts⟩ (zc_X4_init l D cI cZ cP cF q52 H.size) ⟨va_cnB 0 hts zg_zc_X7_init_zc_X4_init rfl rfl rfl hE.nX7_45 (hts (.initialized RX4) (List.mem_of_getElem? (i := 33) rfl)) (by decide +kernel) ⟨Nat.le_of_ble_eq_true rfl, Nat.le_of_ble_eq_true rfl⟩, rfl, (hts (.instanceMethod yX4_init) (List.mem_of_getElem? (i := 37) rfl))⟩ ⟨zBW, fun U hU hW => ⟨rfl, by rw [hU], by rw [hU]; exact hPc, hE.warm hW, hDc.weaken (fun _ _ _ _ => trivial)⟩⟩ rfl rfl hl.1 rfl (lv_room (Nat.le_of_ble_eq_true rfl)) dX7_init_73 ⟨Nat.le_of_ble_eq_true rfl, Nat.le_of_ble_eq_true rfl⟩) hS (fun q _ h => hFc q h) hFc (fun u t H1 locs ht hvm h_73_53 hB hz1 hk1 hS => ?_)
  obtain ⟨q54, hP1, hD1⟩ := hB
  rw [ht] at hP1
  obtain ⟨hP, hD⟩ := va_join (wr := [(h0, .inr (7, [.ref p1, .ref p2, .ref q6, .ref q1, .ref q4, .ref q5, .int 0, .int 0, .int 0, .int 0])), (q1, .inr (10, [.int 0, .int 0, .int 0, .int 0, .int 0, .int 0, .ref q3])), (q3, .inl (cI, 4, .inl (fun _ => 0))), (q4, .inl (cF, 16, .inr (.inr (.inr (.inr ff_51))))), (q5, .inl (cI, 3, .inl (fun _ => 0)))]) (w1 := [(q52, .inr (4, [.null, .null, .int 0, .int 0, .ref q54]))]) hP hD [5] [0, 1, 2, 3, 4] rfl rfl (by decide) (by decide) hk1 hFc hP1 hD1
  generalize H1 = H at hP hS ⊢
  have hP : va_P D vwCl [(h0, .inr (7, [.ref p1, .ref p2, .ref q6, .ref q1, .ref q4, .ref q5, .int 0, .int 0, .int 0, .int 0])), (q1, .inr (10, [.int 0, .int 0, .int 0, .int 0, .int 0, .int 0, .ref q3])), (q3, .inl (cI, 4, .inl (fun _ => 0))), (q4, .inl (cF, 16, .inr (.inr (.inr (.inr ff_51))))), (q5, .inl (cI, 3, .inl (fun _ => 0))), (q52, .inr (4, [.null, .null, .int 0, .int 0, .ref q54]))] H := hP
  have hD : va_D A [(h0, .inr (7, [.ref p1, .ref p2, .ref q6, .ref q1, .ref q4, .ref q5, .int 0, .int 0, .int 0, .int 0])), (q1, .inr (10, [.int 0, .int 0, .int 0, .int 0, .int 0, .int 0, .ref q3])), (q3, .inl (cI, 4, .inl (fun _ => 0))), (q4, .inl (cF, 16, .inr (.inr (.inr (.inr ff_51))))), (q5, .inl (cI, 3, .inl (fun _ => 0))), (q52, .inr (4, [.null, .null, .int 0, .int 0, .ref q54]))] := hD
  have hin_76 : vp_in 11 16 := by unfold vp_in; decide
  refine va_astq hx hb hK hP hD hS 3 3 5 4 rfl rfl rfl rfl hin_76 dX7_init_76 (fun H locs hP hD hS => ?_)
  have hP : va_P D vwCl [(h0, .inr (7, [.ref p1, .ref p2, .ref q6, .ref q1, .ref q4, .ref q5, .int 0, .int 0, .int 0, .int 0])), (q1, .inr (10, [.int 0, .int 0, .int 0, .int 0, .int 0, .int 0, .ref q3])), (q3, .inl (cI, 4, .inl (fun _ => 0))), (q4, .inl (cF, 16, .inr (.inr (.inr (.inr (va_up ff_51 (11 : Int32).toNatClampNeg (some q52))))))), (q5, .inl (cI, 3, .inl (fun _ => 0))), (q52, .inr (4, [.null, .null, .int 0, .int 0, .ref q54]))] H := hP
  have hD : va_D A [(h0, .inr (7, [.ref p1, .ref p2, .ref q6, .ref q1, .ref q4, .ref q5, .int 0, .int 0, .int 0, .int 0])), (q1, .inr (10, [.int 0, .int 0, .int 0, .int 0, .int 0, .int 0, .ref q3])), (q3, .inl (cI, 4, .inl (fun _ => 0))), (q4, .inl (cF, 16, .inr (.inr (.inr (.inr (va_up ff_51 (11 : Int32).toNatClampNeg (some q52))))))), (q5, .inl (cI, 3, .inl (fun _ => 0))), (q52, .inr (4, [.null, .null, .int 0, .int 0, .ref q54]))] := hD
  have hP := hP.sub (ws' := [(h0, .inr (7, [.ref p1, .ref p2, .ref q6, .ref q1, .ref q4, .ref q5, .int 0, .int 0, .int 0, .int 0])), (q1, .inr (10, [.int 0, .int 0, .int 0, .int 0, .int 0, .int 0, .ref q3])), (q3, .inl (cI, 4, .inl (fun _ => 0))), (q4, .inl (cF, 16, .inr (.inr (.inr (.inr (va_up ff_51 (11 : Int32).toNatClampNeg (some q52))))))), (q5, .inl (cI, 3, .inl (fun _ => 0)))]) [0, 1, 2, 3, 4] rfl
  have hD := hD.sub (ws' := [(h0, .inr (7, [.ref p1, .ref p2, .ref q6, .ref q1, .ref q4, .ref q5, .int 0, .int 0, .int 0, .int 0])), (q1, .inr (10, [.int 0, .int 0, .int 0, .int 0, .int 0, .int 0, .ref q3])), (q3, .inl (cI, 4, .inl (fun _ => 0))), (q4, .inl (cF, 16, .inr (.inr (.inr (.inr (va_up ff_51 (11 : Int32).toNatClampNeg (some q52))))))), (q5, .inl (cI, 3, .inl (fun _ => 0)))]) [0, 1, 2, 3, 4] (by decide) rfl
  generalize (va_up ff_51 (11 : Int32).toNatClampNeg (some q52)) = ff_55 at hP hD
  refine lv_iinc (v := 12) (lv' := [(4, .int 12), (0, .ref h0), (1, .ref p1), (2, .ref p2), (3, .ref p3)]) hx hb dX7_init_77 hl (k := 0) rfl (by decide) (by decide) rfl (fun ls hl => ?_)
  refine lv_goto (tgt := 56) hx hb dX7_init_80 (by decide) ?_
  refine lv_iload hx hb dX7_init_56 (lv_at hl 0 rfl) ?_
  refine lv_bipush (v := 16) hx hb dX7_init_58 (by decide) ?_
  refine lv_icmp_ge (tgt := 83) hx hb dX7_init_60 (by decide) (fun c => absurd c (by decide)) (fun _ => ?_)
  refine lv_aload_n hx hb dX7_init_63 rfl (lv_at hl 1 rfl) ?_
  refine va_get (D := D) (ci := 7) (v := .ref q4) (C := RX7) (T := TX7) (N := 10) hx hb hts (fun _ h => List.mem_cons_of_mem _ (List.mem_append_left _ (List.mem_append_left _ (List.mem_append_right _ h)))) hown hK hP 0 rfl rfl 4 (by decide) (hts (.fieldLink RX7 20 "TemplateForge$Machine" "frames" "[LTemplateForge$Frame;") (List.mem_of_getElem? (i := 14) rfl)) (fun _ h9 => h9) rfl dX7_init_64 ?_
  refine lv_iload hx hb dX7_init_67 (lv_at hl 0 rfl) ?_
  refine va_new (ci := 4) (fs := [.null, .null, .int 0, .int 0, .null]) (C := RX4) (T := TX4) (N := 5) hx hb hts (fun _ h => List.mem_cons_of_mem _ (List.mem_append_right _ h)) tyX4 tyX4_ok hown (hts (.classLink RX7 18 RX4) (List.mem_of_getElem? (i := 13) rfl)) (hts (.instantiable RX4 5) (List.mem_of_getElem? (i := 32) rfl)) (hts (.initialized RX4) (List.mem_of_getElem? (i := 33) rfl)) hK hP hD hS hA rfl (fun j hj => by rcases (show j = 0 ∨ j = 1 ∨ j = 2 ∨ j = 3 ∨ j = 4 by omega) with rfl | rfl | rfl | rfl | rfl <;> rfl) (Nat.le_of_ble_eq_true rfl) (Nat.le_of_ble_eq_true rfl) dX7_init_69 (fun q56 H hP hD hS => ?_)
  have hP : va_P D vwCl [(h0, .inr (7, [.ref p1, .ref p2, .ref q6, .ref q1, .ref q4, .ref q5, .int 0, .int 0, .int 0, .int 0])), (q1, .inr (10, [.int 0, .int 0, .int 0, .int 0, .int 0, .int 0, .ref q3])), (q3, .inl (cI, 4, .inl (fun _ => 0))), (q4, .inl (cF, 16, .inr (.inr (.inr (.inr ff_55))))), (q5, .inl (cI, 3, .inl (fun _ => 0))), (q56, .inr (4, [.null, .null, .int 0, .int 0, .null]))] H := hP
  have hD : va_D A [(h0, .inr (7, [.ref p1, .ref p2, .ref q6, .ref q1, .ref q4, .ref q5, .int 0, .int 0, .int 0, .int 0])), (q1, .inr (10, [.int 0, .int 0, .int 0, .int 0, .int 0, .int 0, .ref q3])), (q3, .inl (cI, 4, .inl (fun _ => 0))), (q4, .inl (cF, 16, .inr (.inr (.inr (.inr ff_55))))), (q5, .inl (cI, 3, .inl (fun _ => 0))), (q56, .inr (4, [.null, .null, .int 0, .int 0, .null]))] := hD
  refine lv_dup hx hb dX7_init_72 rfl ?_
  have hPc := hP.sub (ws' := [(q56, .inr (4, [.null, .null, .int 0, .int 0, .null]))]) [5] rfl
  have hDc := hD.sub (ws' := [(q56, .inr (4, [.null, .null, .int 0, .int 0, .null]))]) [5] (by decide) rfl
  have hFc := va_free (wc := [(q56, .inr (4, [.null, .null, .int 0, .int 0, .null]))]) hD hS hA [5] rfl
  refine va_callv (va_runIN (As := []) (rest := [.ref q56, .int 12, .ref q4]) ⟨hx, hb, hml, hown, hts⟩ (zc_X4_init l D cI cZ cP cF q56 H.size) ⟨va_cnB 0 hts zg_zc_X7_init_zc_X4_init rfl rfl rfl hE.nX7_45 (hts (.initialized RX4) (List.mem_of_getElem? (i := 33) rfl)) (by decide +kernel) ⟨Nat.le_of_ble_eq_true rfl, Nat.le_of_ble_eq_true rfl⟩, rfl, (hts (.instanceMethod yX4_init) (List.mem_of_getElem? (i := 37) rfl))⟩ ⟨zBW, fun U hU hW => ⟨rfl, by rw [hU], by rw [hU]; exact hPc, hE.warm hW, hDc.weaken (fun _ _ _ _ => trivial)⟩⟩ rfl rfl hl.1 rfl (lv_room (Nat.le_of_ble_eq_true rfl)) dX7_init_73 ⟨Nat.le_of_ble_eq_true rfl, Nat.le_of_ble_eq_true rfl⟩) hS (fun q _ h => hFc q h) hFc (fun u t H1 locs ht hvm h_73_57 hB hz1 hk1 hS => ?_)
  obtain ⟨q58, hP1, hD1⟩ := hB
  rw [ht] at hP1
  obtain ⟨hP, hD⟩ := va_join (wr := [(h0, .inr (7, [.ref p1, .ref p2, .ref q6, .ref q1, .ref q4, .ref q5, .int 0, .int 0, .int 0, .int 0])), (q1, .inr (10, [.int 0, .int 0, .int 0, .int 0, .int 0, .int 0, .ref q3])), (q3, .inl (cI, 4, .inl (fun _ => 0))), (q4, .inl (cF, 16, .inr (.inr (.inr (.inr ff_55))))), (q5, .inl (cI, 3, .inl (fun _ => 0)))]) (w1 := [(q56, .inr (4, [.null, .null, .int 0, .int 0, .ref q58]))]) hP hD [5] [0, 1, 2, 3, 4] rfl rfl (by decide) (by decide) hk1 hFc hP1 hD1
  generalize H1 = H at hP hS ⊢
  have hP : va_P D vwCl [(h0, .inr (7, [.ref p1, .ref p2, .ref q6, .ref q1, .ref q4, .ref q5, .int 0, .int 0, .int 0, .int 0])), (q1, .inr (10, [.int 0, .int 0, .int 0, .int 0, .int 0, .int 0, .ref q3])), (q3, .inl (cI, 4, .inl (fun _ => 0))), (q4, .inl (cF, 16, .inr (.inr (.inr (.inr ff_55))))), (q5, .inl (cI, 3, .inl (fun _ => 0))), (q56, .inr (4, [.null, .null, .int 0, .int 0, .ref q58]))] H := hP
  have hD : va_D A [(h0, .inr (7, [.ref p1, .ref p2, .ref q6, .ref q1, .ref q4, .ref q5, .int 0, .int 0, .int 0, .int 0])), (q1, .inr (10, [.int 0, .int 0, .int 0, .int 0, .int 0, .int 0, .ref q3])), (q3, .inl (cI, 4, .inl (fun _ => 0))), (q4, .inl (cF, 16, .inr (.inr (.inr (.inr ff_55))))), (q5, .inl (cI, 3, .inl (fun _ => 0))), (q56, .inr (4, [.null, .null, .int 0, .int 0, .ref q58]))] := hD
  have hin_76 : vp_in 12 16 := by unfold vp_in; decide
  refine va_astq hx hb hK hP hD hS 3 3 5 4 rfl rfl rfl rfl hin_76 dX7_init_76 (fun H locs hP hD hS => ?_)
  have hP : va_P D vwCl [(h0, .inr (7, [.ref p1, .ref p2, .ref q6, .ref q1, .ref q4, .ref q5, .int 0, .int 0, .int 0, .int 0])), (q1, .inr (10, [.int 0, .int 0, .int 0, .int 0, .int 0, .int 0, .ref q3])), (q3, .inl (cI, 4, .inl (fun _ => 0))), (q4, .inl (cF, 16, .inr (.inr (.inr (.inr (va_up ff_55 (12 : Int32).toNatClampNeg (some q56))))))), (q5, .inl (cI, 3, .inl (fun _ => 0))), (q56, .inr (4, [.null, .null, .int 0, .int 0, .ref q58]))] H := hP
  have hD : va_D A [(h0, .inr (7, [.ref p1, .ref p2, .ref q6, .ref q1, .ref q4, .ref q5, .int 0, .int 0, .int 0, .int 0])), (q1, .inr (10, [.int 0, .int 0, .int 0, .int 0, .int 0, .int 0, .ref q3])), (q3, .inl (cI, 4, .inl (fun _ => 0))), (q4, .inl (cF, 16, .inr (.inr (.inr (.inr (va_up ff_55 (12 : Int32).toNatClampNeg (some q56))))))), (q5, .inl (cI, 3, .inl (fun _ => 0))), (q56, .inr (4, [.null, .null, .int 0, .int 0, .ref q58]))] := hD
  have hP := hP.sub (ws' := [(h0, .inr (7, [.ref p1, .ref p2, .ref q6, .ref q1, .ref q4, .ref q5, .int 0, .int 0, .int 0, .int 0])), (q1, .inr (10, [.int 0, .int 0, .int 0, .int 0, .int 0, .int 0, .ref q3])), (q3, .inl (cI, 4, .inl (fun _ => 0))), (q4, .inl (cF, 16, .inr (.inr (.inr (.inr (va_up ff_55 (12 : Int32).toNatClampNeg (some q56))))))), (q5, .inl (cI, 3, .inl (fun _ => 0)))]) [0, 1, 2, 3, 4] rfl
  have hD := hD.sub (ws' := [(h0, .inr (7, [.ref p1, .ref p2, .ref q6, .ref q1, .ref q4, .ref q5, .int 0, .int 0, .int 0, .int 0])), (q1, .inr (10, [.int 0, .int 0, .int 0, .int 0, .int 0, .int 0, .ref q3])), (q3, .inl (cI, 4, .inl (fun _ => 0))), (q4, .inl (cF, 16, .inr (.inr (.inr (.inr (va_up ff_55 (12 : Int32).toNatClampNeg (some q56))))))), (q5, .inl (cI, 3, .inl (fun _ => 0)))]) [0, 1, 2, 3, 4] (by decide) rfl
  generalize (va_up ff_55 (12 : Int32).toNatClampNeg (some q56)) = ff_59 at hP hD
  refine lv_iinc (v := 13) (lv' := [(4, .int 13), (0, .ref h0), (1, .ref p1), (2, .ref p2), (3, .ref p3)]) hx hb dX7_init_77 hl (k := 0) rfl (by decide) (by decide) rfl (fun ls hl => ?_)
  refine lv_goto (tgt := 56) hx hb dX7_init_80 (by decide) ?_
  refine lv_iload hx hb dX7_init_56 (lv_at hl 0 rfl) ?_
  refine lv_bipush (v := 16) hx hb dX7_init_58 (by decide) ?_
  refine lv_icmp_ge (tgt := 83) hx hb dX7_init_60 (by decide) (fun c => absurd c (by decide)) (fun _ => ?_)
  refine lv_aload_n hx hb dX7_init_63 rfl (lv_at hl 1 rfl) ?_
  refine va_get (D := D) (ci := 7) (v := .ref q4) (C := RX7) (T := TX7) (N := 10) hx hb hts (fun _ h => List.mem_cons_of_mem _ (List.mem_append_left _ (List.mem_append_left _ (List.mem_append_right _ h)))) hown hK hP 0 rfl rfl 4 (by decide) (hts (.fieldLink RX7 20 "TemplateForge$Machine" "frames" "[LTemplateForge$Frame;") (List.mem_of_getElem? (i := 14) rfl)) (fun _ h9 => h9) rfl dX7_init_64 ?_
  refine lv_iload hx hb dX7_init_67 (lv_at hl 0 rfl) ?_
  refine va_new (ci := 4) (fs := [.null, .null, .int 0, .int 0, .null]) (C := RX4) (T := TX4) (N := 5) hx hb hts (fun _ h => List.mem_cons_of_mem _ (List.mem_append_right _ h)) tyX4 tyX4_ok hown (hts (.classLink RX7 18 RX4) (List.mem_of_getElem? (i := 13) rfl)) (hts (.instantiable RX4 5) (List.mem_of_getElem? (i := 32) rfl)) (hts (.initialized RX4) (List.mem_of_getElem? (i := 33) rfl)) hK hP hD hS hA rfl (fun j hj => by rcases (show j = 0 ∨ j = 1 ∨ j = 2 ∨ j = 3 ∨ j = 4 by omega) with rfl | rfl | rfl | rfl | rfl <;> rfl) (Nat.le_of_ble_eq_true rfl) (Nat.le_of_ble_eq_true rfl) dX7_init_69 (fun q60 H hP hD hS => ?_)
  have hP : va_P D vwCl [(h0, .inr (7, [.ref p1, .ref p2, .ref q6, .ref q1, .ref q4, .ref q5, .int 0, .int 0, .int 0, .int 0])), (q1, .inr (10, [.int 0, .int 0, .int 0, .int 0, .int 0, .int 0, .ref q3])), (q3, .inl (cI, 4, .inl (fun _ => 0))), (q4, .inl (cF, 16, .inr (.inr (.inr (.inr ff_59))))), (q5, .inl (cI, 3, .inl (fun _ => 0))), (q60, .inr (4, [.null, .null, .int 0, .int 0, .null]))] H := hP
  have hD : va_D A [(h0, .inr (7, [.ref p1, .ref p2, .ref q6, .ref q1, .ref q4, .ref q5, .int 0, .int 0, .int 0, .int 0])), (q1, .inr (10, [.int 0, .int 0, .int 0, .int 0, .int 0, .int 0, .ref q3])), (q3, .inl (cI, 4, .inl (fun _ => 0))), (q4, .inl (cF, 16, .inr (.inr (.inr (.inr ff_59))))), (q5, .inl (cI, 3, .inl (fun _ => 0))), (q60, .inr (4, [.null, .null, .int 0, .int 0, .null]))] := hD
  refine lv_dup hx hb dX7_init_72 rfl ?_
  have hPc := hP.sub (ws' := [(q60, .inr (4, [.null, .null, .int 0, .int 0, .null]))]) [5] rfl
  have hDc := hD.sub (ws' := [(q60, .inr (4, [.null, .null, .int 0, .int 0, .null]))]) [5] (by decide) rfl
  have hFc := va_free (wc := [(q60, .inr (4, [.null, .null, .int 0, .int 0, .null]))]) hD hS hA [5] rfl
  refine va_callv (va_runIN (As := []) (rest := [.ref q60, .int 13, .ref q4]) ⟨hx, hb, hml, hown, hts⟩ (zc_X4_init l D cI cZ cP cF q60 H.size) ⟨va_cnB 0 hts zg_zc_X7_init_zc_X4_init rfl rfl rfl hE.nX7_45 (hts (.initialized RX4) (List.mem_of_getElem? (i := 33) rfl)) (by decide +kernel) ⟨Nat.le_of_ble_eq_true rfl, Nat.le_of_ble_eq_true rfl⟩, rfl, (hts (.instanceMethod yX4_init) (List.mem_of_getElem? (i := 37) rfl))⟩ ⟨zBW, fun U hU hW => ⟨rfl, by rw [hU], by rw [hU]; exact hPc, hE.warm hW, hDc.weaken (fun _ _ _ _ => trivial)⟩⟩ rfl rfl hl.1 rfl (lv_room (Nat.le_of_ble_eq_true rfl)) dX7_init_73 ⟨Nat.le_of_ble_eq_true rfl, Nat.le_of_ble_eq_true rfl⟩) hS (fun q _ h => hFc q h) hFc (fun u t H1 locs ht hvm h_73_61 hB hz1 hk1 hS => ?_)
  obtain ⟨q62, hP1, hD1⟩ := hB
  rw [ht] at hP1
  obtain ⟨hP, hD⟩ := va_join (wr := [(h0, .inr (7, [.ref p1, .ref p2, .ref q6, .ref q1, .ref q4, .ref q5, .int 0, .int 0, .int 0, .int 0])), (q1, .inr (10, [.int 0, .int 0, .int 0, .int 0, .int 0, .int 0, .ref q3])), (q3, .inl (cI, 4, .inl (fun _ => 0))), (q4, .inl (cF, 16, .inr (.inr (.inr (.inr ff_59))))), (q5, .inl (cI, 3, .inl (fun _ => 0)))]) (w1 := [(q60, .inr (4, [.null, .null, .int 0, .int 0, .ref q62]))]) hP hD [5] [0, 1, 2, 3, 4] rfl rfl (by decide) (by decide) hk1 hFc hP1 hD1
  generalize H1 = H at hP hS ⊢
  have hP : va_P D vwCl [(h0, .inr (7, [.ref p1, .ref p2, .ref q6, .ref q1, .ref q4, .ref q5, .int 0, .int 0, .int 0, .int 0])), (q1, .inr (10, [.int 0, .int 0, .int 0, .int 0, .int 0, .int 0, .ref q3])), (q3, .inl (cI, 4, .inl (fun _ => 0))), (q4, .inl (cF, 16, .inr (.inr (.inr (.inr ff_59))))), (q5, .inl (cI, 3, .inl (fun _ => 0))), (q60, .inr (4, [.null, .null, .int 0, .int 0, .ref q62]))] H := hP
  have hD : va_D A [(h0, .inr (7, [.ref p1, .ref p2, .ref q6, .ref q1, .ref q4, .ref q5, .int 0, .int 0, .int 0, .int 0])), (q1, .inr (10, [.int 0, .int 0, .int 0, .int 0, .int 0, .int 0, .ref q3])), (q3, .inl (cI, 4, .inl (fun _ => 0))), (q4, .inl (cF, 16, .inr (.inr (.inr (.inr ff_59))))), (q5, .inl (cI, 3, .inl (fun _ => 0))), (q60, .inr (4, [.null, .null, .int 0, .int 0, .ref q62]))] := hD
  have hin_76 : vp_in 13 16 := by unfold vp_in; decide
  refine va_astq hx hb hK hP hD hS 3 3 5 4 rfl rfl rfl rfl hin_76 dX7_init_76 (fun H locs hP hD hS => ?_)
  have hP : va_P D vwCl [(h0, .inr (7, [.ref p1, .ref p2, .ref q6, .ref q1, .ref q4, .ref q5, .int 0, .int 0, .int 0, .int 0])), (q1, .inr (10, [.int 0, .int 0, .int 0, .int 0, .int 0, .int 0, .ref q3])), (q3, .inl (cI, 4, .inl (fun _ => 0))), (q4, .inl (cF, 16, .inr (.inr (.inr (.inr (va_up ff_59 (13 : Int32).toNatClampNeg (some q60))))))), (q5, .inl (cI, 3, .inl (fun _ => 0))), (q60, .inr (4, [.null, .null, .int 0, .int 0, .ref q62]))] H := hP
  have hD : va_D A [(h0, .inr (7, [.ref p1, .ref p2, .ref q6, .ref q1, .ref q4, .ref q5, .int 0, .int 0, .int 0, .int 0])), (q1, .inr (10, [.int 0, .int 0, .int 0, .int 0, .int 0, .int 0, .ref q3])), (q3, .inl (cI, 4, .inl (fun _ => 0))), (q4, .inl (cF, 16, .inr (.inr (.inr (.inr (va_up ff_59 (13 : Int32).toNatClampNeg (some q60))))))), (q5, .inl (cI, 3, .inl (fun _ => 0))), (q60, .inr (4, [.null, .null, .int 0, .int 0, .ref q62]))] := hD
  have hP := hP.sub (ws' := [(h0, .inr (7, [.ref p1, .ref p2, .ref q6, .ref q1, .ref q4, .ref q5, .int 0, .int 0, .int 0, .int 0])), (q1, .inr (10, [.int 0, .int 0, .int 0, .int 0, .int 0, .int 0, .ref q3])), (q3, .inl (cI, 4, .inl (fun _ => 0))), (q4, .inl (cF, 16, .inr (.inr (.inr (.inr (va_up ff_59 (13 : Int32).toNatClampNeg (some q60))))))), (q5, .inl (cI, 3, .inl (fun _ => 0)))]) [0, 1, 2, 3, 4] rfl
  have hD := hD.sub (ws' := [(h0, .inr (7, [.ref p1, .ref p2, .ref q6, .ref q1, .ref q4, .ref q5, .int 0, .int 0, .int 0, .int 0])), (q1, .inr (10, [.int 0, .int 0, .int 0, .int 0, .int 0, .int 0, .ref q3])), (q3, .inl (cI, 4, .inl (fun _ => 0))), (q4, .inl (cF, 16, .inr (.inr (.inr (.inr (va_up ff_59 (13 : Int32).toNatClampNeg (some q60))))))), (q5, .inl (cI, 3, .inl (fun _ => 0)))]) [0, 1, 2, 3, 4] (by decide) rfl
  generalize (va_up ff_59 (13 : Int32).toNatClampNeg (some q60)) = ff_63 at hP hD
  refine lv_iinc (v := 14) (lv' := [(4, .int 14), (0, .ref h0), (1, .ref p1), (2, .ref p2), (3, .ref p3)]) hx hb dX7_init_77 hl (k := 0) rfl (by decide) (by decide) rfl (fun ls hl => ?_)
  refine lv_goto (tgt := 56) hx hb dX7_init_80 (by decide) ?_
  refine lv_iload hx hb dX7_init_56 (lv_at hl 0 rfl) ?_
  refine lv_bipush (v := 16) hx hb dX7_init_58 (by decide) ?_
  refine lv_icmp_ge (tgt := 83) hx hb dX7_init_60 (by decide) (fun c => absurd c (by decide)) (fun _ => ?_)
  refine lv_aload_n hx hb dX7_init_63 rfl (lv_at hl 1 rfl) ?_
  refine va_get (D := D) (ci := 7) (v := .ref q4) (C := RX7) (T := TX7) (N := 10) hx hb hts (fun _ h => List.mem_cons_of_mem _ (List.mem_append_left _ (List.mem_append_left _ (List.mem_append_right _ h)))) hown hK hP 0 rfl rfl 4 (by decide) (hts (.fieldLink RX7 20 "TemplateForge$Machine" "frames" "[LTemplateForge$Frame;") (List.mem_of_getElem? (i := 14) rfl)) (fun _ h9 => h9) rfl dX7_init_64 ?_
  refine lv_iload hx hb dX7_init_67 (lv_at hl 0 rfl) ?_
  refine va_new (ci := 4) (fs := [.null, .null, .int 0, .int 0, .null]) (C := RX4) (T := TX4) (N := 5) hx hb hts (fun _ h => List.mem_cons_of_mem _ (List.mem_append_right _ h)) tyX4 tyX4_ok hown (hts (.classLink RX7 18 RX4) (List.mem_of_getElem? (i := 13) rfl)) (hts (.instantiable RX4 5) (List.mem_of_getElem? (i := 32) rfl)) (hts (.initialized RX4) (List.mem_of_getElem? (i := 33) rfl)) hK hP hD hS hA rfl (fun j hj => by rcases (show j = 0 ∨ j = 1 ∨ j = 2 ∨ j = 3 ∨ j = 4 by omega) with rfl | rfl | rfl | rfl | rfl <;> rfl) (Nat.le_of_ble_eq_true rfl) (Nat.le_of_ble_eq_true rfl) dX7_init_69 (fun q64 H hP hD hS => ?_)
  have hP : va_P D vwCl [(h0, .inr (7, [.ref p1, .ref p2, .ref q6, .ref q1, .ref q4, .ref q5, .int 0, .int 0, .int 0, .int 0])), (q1, .inr (10, [.int 0, .int 0, .int 0, .int 0, .int 0, .int 0, .ref q3])), (q3, .inl (cI, 4, .inl (fun _ => 0))), (q4, .inl (cF, 16, .inr (.inr (.inr (.inr ff_63))))), (q5, .inl (cI, 3, .inl (fun _ => 0))), (q64, .inr (4, [.null, .null, .int 0, .int 0, .null]))] H := hP
  have hD : va_D A [(h0, .inr (7, [.ref p1, .ref p2, .ref q6, .ref q1, .ref q4, .ref q5, .int 0, .int 0, .int 0, .int 0])), (q1, .inr (10, [.int 0, .int 0, .int 0, .int 0, .int 0, .int 0, .ref q3])), (q3, .inl (cI, 4, .inl (fun _ => 0))), (q4, .inl (cF, 16, .inr (.inr (.inr (.inr ff_63))))), (q5, .inl (cI, 3, .inl (fun _ => 0))), (q64, .inr (4, [.null, .null, .int 0, .int 0, .null]))] := hD
  refine lv_dup hx hb dX7_init_72 rfl ?_
  have hPc := hP.sub (ws' := [(q64, .inr (4, [.null, .null, .int 0, .int 0, .null]))]) [5] rfl
  have hDc := hD.sub (ws' := [(q64, .inr (4, [.null, .null, .int 0, .int 0, .null]))]) [5] (by decide) rfl
  have hFc := va_free (wc := [(q64, .inr (4, [.null, .null, .int 0, .int 0, .null]))]) hD hS hA [5] rfl
  refine va_callv (va_runIN (As := []) (rest := [.ref q64, .int 14, .ref q4]) ⟨hx, hb, hml, hown, hts⟩ (zc_X4_init l D cI cZ cP cF q64 H.size) ⟨va_cnB 0 hts zg_zc_X7_init_zc_X4_init rfl rfl rfl hE.nX7_45 (hts (.initialized RX4) (List.mem_of_getElem? (i := 33) rfl)) (by decide +kernel) ⟨Nat.le_of_ble_eq_true rfl, Nat.le_of_ble_eq_true rfl⟩, rfl, (hts (.instanceMethod yX4_init) (List.mem_of_getElem? (i := 37) rfl))⟩ ⟨zBW, fun U hU hW => ⟨rfl, by rw [hU], by rw [hU]; exact hPc, hE.warm hW, hDc.weaken (fun _ _ _ _ => trivial)⟩⟩ rfl rfl hl.1 rfl (lv_room (Nat.le_of_ble_eq_true rfl)) dX7_init_73 ⟨Nat.le_of_ble_eq_true rfl, Nat.le_of_ble_eq_true rfl⟩) hS (fun q _ h => hFc q h) hFc (fun u t H1 locs ht hvm h_73_65 hB hz1 hk1 hS => ?_)
  obtain ⟨q66, hP1, hD1⟩ := hB
  rw [ht] at hP1
  obtain ⟨hP, hD⟩ := va_join (wr := [(h0, .inr (7, [.ref p1, .ref p2, .ref q6, .ref q1, .ref q4, .ref q5, .int 0, .int 0, .int 0, .int 0])), (q1, .inr (10, [.int 0, .int 0, .int 0, .int 0, .int 0, .int 0, .ref q3])), (q3, .inl (cI, 4, .inl (fun _ => 0))), (q4, .inl (cF, 16, .inr (.inr (.inr (.inr ff_63))))), (q5, .inl (cI, 3, .inl (fun _ => 0)))]) (w1 := [(q64, .inr (4, [.null, .null, .int 0, .int 0, .ref q66]))]) hP hD [5] [0, 1, 2, 3, 4] rfl rfl (by decide) (by decide) hk1 hFc hP1 hD1
  generalize H1 = H at hP hS ⊢
  have hP : va_P D vwCl [(h0, .inr (7, [.ref p1, .ref p2, .ref q6, .ref q1, .ref q4, .ref q5, .int 0, .int 0, .int 0, .int 0])), (q1, .inr (10, [.int 0, .int 0, .int 0, .int 0, .int 0, .int 0, .ref q3])), (q3, .inl (cI, 4, .inl (fun _ => 0))), (q4, .inl (cF, 16, .inr (.inr (.inr (.inr ff_63))))), (q5, .inl (cI, 3, .inl (fun _ => 0))), (q64, .inr (4, [.null, .null, .int 0, .int 0, .ref q66]))] H := hP
  have hD : va_D A [(h0, .inr (7, [.ref p1, .ref p2, .ref q6, .ref q1, .ref q4, .ref q5, .int 0, .int 0, .int 0, .int 0])), (q1, .inr (10, [.int 0, .int 0, .int 0, .int 0, .int 0, .int 0, .ref q3])), (q3, .inl (cI, 4, .inl (fun _ => 0))), (q4, .inl (cF, 16, .inr (.inr (.inr (.inr ff_63))))), (q5, .inl (cI, 3, .inl (fun _ => 0))), (q64, .inr (4, [.null, .null, .int 0, .int 0, .ref q66]))] := hD
  have hin_76 : vp_in 14 16 := by unfold vp_in; decide
  refine va_astq hx hb hK hP hD hS 3 3 5 4 rfl rfl rfl rfl hin_76 dX7_init_76 (fun H locs hP hD hS => ?_)
  have hP : va_P D vwCl [(h0, .inr (7, [.ref p1, .ref p2, .ref q6, .ref q1, .ref q4, .ref q5, .int 0, .int 0, .int 0, .int 0])), (q1, .inr (10, [.int 0, .int 0, .int 0, .int 0, .int 0, .int 0, .ref q3])), (q3, .inl (cI, 4, .inl (fun _ => 0))), (q4, .inl (cF, 16, .inr (.inr (.inr (.inr (va_up ff_63 (14 : Int32).toNatClampNeg (some q64))))))), (q5, .inl (cI, 3, .inl (fun _ => 0))), (q64, .inr (4, [.null, .null, .int 0, .int 0, .ref q66]))] H := hP
  have hD : va_D A [(h0, .inr (7, [.ref p1, .ref p2, .ref q6, .ref q1, .ref q4, .ref q5, .int 0, .int 0, .int 0, .int 0])), (q1, .inr (10, [.int 0, .int 0, .int 0, .int 0, .int 0, .int 0, .ref q3])), (q3, .inl (cI, 4, .inl (fun _ => 0))), (q4, .inl (cF, 16, .inr (.inr (.inr (.inr (va_up ff_63 (14 : Int32).toNatClampNeg (some q64))))))), (q5, .inl (cI, 3, .inl (fun _ => 0))), (q64, .inr (4, [.null, .null, .int 0, .int 0, .ref q66]))] := hD
  have hP := hP.sub (ws' := [(h0, .inr (7, [.ref p1, .ref p2, .ref q6, .ref q1, .ref q4, .ref q5, .int 0, .int 0, .int 0, .int 0])), (q1, .inr (10, [.int 0, .int 0, .int 0, .int 0, .int 0, .int 0, .ref q3])), (q3, .inl (cI, 4, .inl (fun _ => 0))), (q4, .inl (cF, 16, .inr (.inr (.inr (.inr (va_up ff_63 (14 : Int32).toNatClampNeg (some q64))))))), (q5, .inl (cI, 3, .inl (fun _ => 0)))]) [0, 1, 2, 3, 4] rfl
  have hD := hD.sub (ws' := [(h0, .inr (7, [.ref p1, .ref p2, .ref q6, .ref q1, .ref q4, .ref q5, .int 0, .int 0, .int 0, .int 0])), (q1, .inr (10, [.int 0, .int 0, .int 0, .int 0, .int 0, .int 0, .ref q3])), (q3, .inl (cI, 4, .inl (fun _ => 0))), (q4, .inl (cF, 16, .inr (.inr (.inr (.inr (va_up ff_63 (14 : Int32).toNatClampNeg (some q64))))))), (q5, .inl (cI, 3, .inl (fun _ => 0)))]) [0, 1, 2, 3, 4] (by decide) rfl
  generalize (va_up ff_63 (14 : Int32).toNatClampNeg (some q64)) = ff_67 at hP hD
  refine lv_iinc (v := 15) (lv' := [(4, .int 15), (0, .ref h0), (1, .ref p1), (2, .ref p2), (3, .ref p3)]) hx hb dX7_init_77 hl (k := 0) rfl (by decide) (by decide) rfl (fun ls hl => ?_)
  refine lv_goto (tgt := 56) hx hb dX7_init_80 (by decide) ?_
  refine lv_iload hx hb dX7_init_56 (lv_at hl 0 rfl) ?_
  refine lv_bipush (v := 16) hx hb dX7_init_58 (by decide) ?_
  refine lv_icmp_ge (tgt := 83) hx hb dX7_init_60 (by decide) (fun c => absurd c (by decide)) (fun _ => ?_)
  refine lv_aload_n hx hb dX7_init_63 rfl (lv_at hl 1 rfl) ?_
  refine va_get (D := D) (ci := 7) (v := .ref q4) (C := RX7) (T := TX7) (N := 10) hx hb hts (fun _ h => List.mem_cons_of_mem _ (List.mem_append_left _ (List.mem_append_left _ (List.mem_append_right _ h)))) hown hK hP 0 rfl rfl 4 (by decide) (hts (.fieldLink RX7 20 "TemplateForge$Machine" "frames" "[LTemplateForge$Frame;") (List.mem_of_getElem? (i := 14) rfl)) (fun _ h9 => h9) rfl dX7_init_64 ?_
  refine lv_iload hx hb dX7_init_67 (lv_at hl 0 rfl) ?_
  refine va_new (ci := 4) (fs := [.null, .null, .int 0, .int 0, .null]) (C := RX4) (T := TX4) (N := 5) hx hb hts (fun _ h => List.mem_cons_of_mem _ (List.mem_append_right _ h)) tyX4 tyX4_ok hown (hts (.classLink RX7 18 RX4) (List.mem_of_getElem? (i := 13) rfl)) (hts (.instantiable RX4 5) (List.mem_of_getElem? (i := 32) rfl)) (hts (.initialized RX4) (List.mem_of_getElem? (i := 33) rfl)) hK hP hD hS hA rfl (fun j hj => by rcases (show j = 0 ∨ j = 1 ∨ j = 2 ∨ j = 3 ∨ j = 4 by omega) with rfl | rfl | rfl | rfl | rfl <;> rfl) (Nat.le_of_ble_eq_true rfl) (Nat.le_of_ble_eq_true rfl) dX7_init_69 (fun q68 H hP hD hS => ?_)
  have hP : va_P D vwCl [(h0, .inr (7, [.ref p1, .ref p2, .ref q6, .ref q1, .ref q4, .ref q5, .int 0, .int 0, .int 0, .int 0])), (q1, .inr (10, [.int 0, .int 0, .int 0, .int 0, .int 0, .int 0, .ref q3])), (q3, .inl (cI, 4, .inl (fun _ => 0))), (q4, .inl (cF, 16, .inr (.inr (.inr (.inr ff_67))))), (q5, .inl (cI, 3, .inl (fun _ => 0))), (q68, .inr (4, [.null, .null, .int 0, .int 0, .null]))] H := hP
  have hD : va_D A [(h0, .inr (7, [.ref p1, .ref p2, .ref q6, .ref q1, .ref q4, .ref q5, .int 0, .int 0, .int 0, .int 0])), (q1, .inr (10, [.int 0, .int 0, .int 0, .int 0, .int 0, .int 0, .ref q3])), (q3, .inl (cI, 4, .inl (fun _ => 0))), (q4, .inl (cF, 16, .inr (.inr (.inr (.inr ff_67))))), (q5, .inl (cI, 3, .inl (fun _ => 0))), (q68, .inr (4, [.null, .null, .int 0, .int 0, .null]))] := hD
  refine lv_dup hx hb dX7_init_72 rfl ?_
  have hPc := hP.sub (ws' := [(q68, .inr (4, [.null, .null, .int 0, .int 0, .null]))]) [5] rfl
  have hDc := hD.sub (ws' := [(q68, .inr (4, [.null, .null, .int 0, .int 0, .null]))]) [5] (by decide) rfl
  have hFc := va_free (wc := [(q68, .inr (4, [.null, .null, .int 0, .int 0, .null]))]) hD hS hA [5] rfl
  refine va_callv (va_runIN (As := []) (rest := [.ref q68, .int 15, .ref q4]) ⟨hx, hb, hml, hown, hts⟩ (zc_X4_init l D cI cZ cP cF q68 H.size) ⟨va_cnB 0 hts zg_zc_X7_init_zc_X4_init rfl rfl rfl hE.nX7_45 (hts (.initialized RX4) (List.mem_of_getElem? (i := 33) rfl)) (by decide +kernel) ⟨Nat.le_of_ble_eq_true rfl, Nat.le_of_ble_eq_true rfl⟩, rfl, (hts (.instanceMethod yX4_init) (List.mem_of_getElem? (i := 37) rfl))⟩ ⟨zBW, fun U hU hW => ⟨rfl, by rw [hU], by rw [hU]; exact hPc, hE.warm hW, hDc.weaken (fun _ _ _ _ => trivial)⟩⟩ rfl rfl hl.1 rfl (lv_room (Nat.le_of_ble_eq_true rfl)) dX7_init_73 ⟨Nat.le_of_ble_eq_true rfl, Nat.le_of_ble_eq_true rfl⟩) hS (fun q _ h => hFc q h) hFc (fun u t H1 locs ht hvm h_73_69 hB hz1 hk1 hS => ?_)
  obtain ⟨q70, hP1, hD1⟩ := hB
  rw [ht] at hP1
  obtain ⟨hP, hD⟩ := va_join (wr := [(h0, .inr (7, [.ref p1, .ref p2, .ref q6, .ref q1, .ref q4, .ref q5, .int 0, .int 0, .int 0, .int 0])), (q1, .inr (10, [.int 0, .int 0, .int 0, .int 0, .int 0, .int 0, .ref q3])), (q3, .inl (cI, 4, .inl (fun _ => 0))), (q4, .inl (cF, 16, .inr (.inr (.inr (.inr ff_67))))), (q5, .inl (cI, 3, .inl (fun _ => 0)))]) (w1 := [(q68, .inr (4, [.null, .null, .int 0, .int 0, .ref q70]))]) hP hD [5] [0, 1, 2, 3, 4] rfl rfl (by decide) (by decide) hk1 hFc hP1 hD1
  generalize H1 = H at hP hS ⊢
  have hP : va_P D vwCl [(h0, .inr (7, [.ref p1, .ref p2, .ref q6, .ref q1, .ref q4, .ref q5, .int 0, .int 0, .int 0, .int 0])), (q1, .inr (10, [.int 0, .int 0, .int 0, .int 0, .int 0, .int 0, .ref q3])), (q3, .inl (cI, 4, .inl (fun _ => 0))), (q4, .inl (cF, 16, .inr (.inr (.inr (.inr ff_67))))), (q5, .inl (cI, 3, .inl (fun _ => 0))), (q68, .inr (4, [.null, .null, .int 0, .int 0, .ref q70]))] H := hP
  have hD : va_D A [(h0, .inr (7, [.ref p1, .ref p2, .ref q6, .ref q1, .ref q4, .ref q5, .int 0, .int 0, .int 0, .int 0])), (q1, .inr (10, [.int 0, .int 0, .int 0, .int 0, .int 0, .int 0, .ref q3])), (q3, .inl (cI, 4, .inl (fun _ => 0))), (q4, .inl (cF, 16, .inr (.inr (.inr (.inr ff_67))))), (q5, .inl (cI, 3, .inl (fun _ => 0))), (q68, .inr (4, [.null, .null, .int 0, .int 0, .ref q70]))] := hD
  have hin_76 : vp_in 15 16 := by unfold vp_in; decide
  refine va_astq hx hb hK hP hD hS 3 3 5 4 rfl rfl rfl rfl hin_76 dX7_init_76 (fun H locs hP hD hS => ?_)
  have hP : va_P D vwCl [(h0, .inr (7, [.ref p1, .ref p2, .ref q6, .ref q1, .ref q4, .ref q5, .int 0, .int 0, .int 0, .int 0])), (q1, .inr (10, [.int 0, .int 0, .int 0, .int 0, .int 0, .int 0, .ref q3])), (q3, .inl (cI, 4, .inl (fun _ => 0))), (q4, .inl (cF, 16, .inr (.inr (.inr (.inr (va_up ff_67 (15 : Int32).toNatClampNeg (some q68))))))), (q5, .inl (cI, 3, .inl (fun _ => 0))), (q68, .inr (4, [.null, .null, .int 0, .int 0, .ref q70]))] H := hP
  have hD : va_D A [(h0, .inr (7, [.ref p1, .ref p2, .ref q6, .ref q1, .ref q4, .ref q5, .int 0, .int 0, .int 0, .int 0])), (q1, .inr (10, [.int 0, .int 0, .int 0, .int 0, .int 0, .int 0, .ref q3])), (q3, .inl (cI, 4, .inl (fun _ => 0))), (q4, .inl (cF, 16, .inr (.inr (.inr (.inr (va_up ff_67 (15 : Int32).toNatClampNeg (some q68))))))), (q5, .inl (cI, 3, .inl (fun _ => 0))), (q68, .inr (4, [.null, .null, .int 0, .int 0, .ref q70]))] := hD
  have hP := hP.sub (ws' := [(h0, .inr (7, [.ref p1, .ref p2, .ref q6, .ref q1, .ref q4, .ref q5, .int 0, .int 0, .int 0, .int 0])), (q1, .inr (10, [.int 0, .int 0, .int 0, .int 0, .int 0, .int 0, .ref q3])), (q3, .inl (cI, 4, .inl (fun _ => 0))), (q4, .inl (cF, 16, .inr (.inr (.inr (.inr (va_up ff_67 (15 : Int32).toNatClampNeg (some q68))))))), (q5, .inl (cI, 3, .inl (fun _ => 0)))]) [0, 1, 2, 3, 4] rfl
  have hD := hD.sub (ws' := [(h0, .inr (7, [.ref p1, .ref p2, .ref q6, .ref q1, .ref q4, .ref q5, .int 0, .int 0, .int 0, .int 0])), (q1, .inr (10, [.int 0, .int 0, .int 0, .int 0, .int 0, .int 0, .ref q3])), (q3, .inl (cI, 4, .inl (fun _ => 0))), (q4, .inl (cF, 16, .inr (.inr (.inr (.inr (va_up ff_67 (15 : Int32).toNatClampNeg (some q68))))))), (q5, .inl (cI, 3, .inl (fun _ => 0)))]) [0, 1, 2, 3, 4] (by decide) rfl
  generalize (va_up ff_67 (15 : Int32).toNatClampNeg (some q68)) = ff_71 at hP hD
  refine lv_iinc (v := 16) (lv' := [(4, .int 16), (0, .ref h0), (1, .ref p1), (2, .ref p2), (3, .ref p3)]) hx hb dX7_init_77 hl (k := 0) rfl (by decide) (by decide) rfl (fun ls hl => ?_)
  refine lv_goto (tgt := 56) hx hb dX7_init_80 (by decide) ?_
  refine lv_iload hx hb dX7_init_56 (lv_at hl 0 rfl) ?_
  refine lv_bipush (v := 16) hx hb dX7_init_58 (by decide) ?_
  refine lv_icmp_ge (tgt := 83) hx hb dX7_init_60 (by decide) (fun _ => ?_) (fun c => absurd (by decide) c)
  have hP9 := hP.sub (ws' := [(h0, .inr (7, [.ref p1, .ref p2, .ref q6, .ref q1, .ref q4, .ref q5, .int 0, .int 0, .int 0, .int 0])), (q1, .inr (10, [.int 0, .int 0, .int 0, .int 0, .int 0, .int 0, .ref q3])), (q3, .inl (cI, 4, .inl (fun _ => 0)))]) [0, 1, 2] rfl
  have hD9 := hD.sub (ws' := [(h0, .inr (7, [.ref p1, .ref p2, .ref q6, .ref q1, .ref q4, .ref q5, .int 0, .int 0, .int 0, .int 0])), (q1, .inr (10, [.int 0, .int 0, .int 0, .int 0, .int 0, .int 0, .ref q3])), (q3, .inl (cI, 4, .inl (fun _ => 0)))]) [0, 1, 2] (by decide) rfl
  refine W.widen (k := 41) (n := 456) (Nat.le_of_ble_eq_true rfl) (Nat.le_of_ble_eq_true rfl) ?_
  exact W.vret hx hb hr (fun t ht hW => ⟨⟨(), rfl, trivial, q6, q1, q4, q5, q3, by rw [ht]; exact hP9, hD9⟩, hS.F ht⟩) hS.2.2 dX7_init_83

def zw_zc_X11_init : List Cond := .code yX11_init cX11_init 2 none :: ([.methodLink RX11 3 objectInit, .instanceMethod objectInit, .code objectInit ⟨#[0xb1]⟩ 1 none, .classLink RX11 9 RX3, .instantiable RX3 3, .initialized RX3, .code yX3_init cX3_init 1 none, .methodLink RX3 3 objectInit, .arrayClass .int, .fieldLink RX3 9 "TemplateForge$Draft" "cells" "[I", .fieldLink RX3 15 "TemplateForge$Draft" "starts" "[I", .instanceMethod yX3_init, .classLink RX11 12 RX0, .instantiable RX0 2, .initialized RX0, .code yX0_init cX0_init 1 none, .methodLink RX0 3 objectInit, .classLink RX0 9 RX8, .fieldLink RX0 11 "TemplateForge$Book" "programs" "[LTemplateForge$Program;", .instanceMethod yX0_init, .fieldLink RX11 15 "TemplateForge" "book" "LTemplateForge$Book;", .classLink RX11 19 RX2, .instantiable RX2 3, .initialized RX2, .code yX2_init cX2_init 1 none, .methodLink RX2 3 objectInit, .fieldLink RX2 9 "TemplateForge$Data" "fields" "[I", .fieldLink RX2 15 "TemplateForge$Data" "lengths" "[I", .fieldLink RX2 18 "TemplateForge$Data" "items" "[I", .code yJ7_fill_53178 cJ7_fill_53178 4 none, .methodLink RX2 21 yJ7_fill_53178, .static yJ7_fill_53178, .initialized RJ7, .instanceMethod yX2_init, .methodLink RX11 21 yX2_init, .fieldLink RX11 22 "TemplateForge" "data" "LTemplateForge$Data;", .classLink RX11 26 RX6, .instantiable RX6 4, .initialized RX6, .code yX6_init cX6_init 3 none, .methodLink RX6 3 objectInit, .arrayClass .boolean, .fieldLink RX6 9 "TemplateForge$Looker" "waiting" "[Z", .fieldLink RX6 15 "TemplateForge$Looker" "book" "LTemplateForge$Book;", .fieldLink RX6 19 "TemplateForge$Looker" "draft" "LTemplateForge$Draft;", .instanceMethod yX6_init, .methodLink RX11 28 yX6_init, .fieldLink RX11 31 "TemplateForge" "looker" "LTemplateForge$Looker;", .classLink RX11 35 RX7, .instantiable RX7 10, .initialized RX7, .code yX7_init cX7_init 5 none, .methodLink RX7 3 objectInit, .classLink RX7 9 RX10, .instantiable RX10 7, .initialized RX10, .code yX10_init cX10_init 1 none, .methodLink RX10 3 objectInit, .fieldLink RX10 9 "TemplateForge$Tally" "trap" "[I", .instanceMethod yX10_init, .fieldLink RX7 12 "TemplateForge$Machine" "tally" "LTemplateForge$Tally;", .classLink RX7 18 RX4, .fieldLink RX7 20 "TemplateForge$Machine" "frames" "[LTemplateForge$Frame;", .fieldLink RX7 24 "TemplateForge$Machine" "handed" "[I", .fieldLink RX7 28 "TemplateForge$Machine" "book" "LTemplateForge$Book;", .fieldLink RX7 32 "TemplateForge$Machine" "data" "LTemplateForge$Data;", .classLink RX7 36 RX9, .instantiable RX9 5, .initialized RX9, .code yX9_init cX9_init 2 none, .methodLink RX9 3 objectInit, .fieldLink RX9 9 "TemplateForge$Smith" "known" "[Z", .fieldLink RX9 15 "TemplateForge$Smith" "worth" "[I", .fieldLink RX9 19 "TemplateForge$Smith" "target" "[Z", .fieldLink RX9 22 "TemplateForge$Smith" "assumed" "[Z", .fieldLink RX9 25 "TemplateForge$Smith" "draft" "LTemplateForge$Draft;", .instanceMethod yX9_init, .methodLink RX7 38 yX9_init, .fieldLink RX7 41 "TemplateForge$Machine" "smith" "LTemplateForge$Smith;", .instantiable RX4 5, .initialized RX4, .code yX4_init cX4_init 1 none, .methodLink RX4 3 objectInit, .fieldLink RX4 9 "TemplateForge$Frame" "registers" "[I", .instanceMethod yX4_init, .instanceMethod yX7_init, .methodLink RX11 37 yX7_init, .fieldLink RX11 40 "TemplateForge" "machine" "LTemplateForge$Machine;"] ++ wsX30 ++ wsX00 ++ wsX110 ++ wsX20 ++ wsX60 ++ wsX70 ++ wsX100 ++ wsX90 ++ wsX40)
set_option maxRecDepth 100000 in
theorem zg_zc_X11_init_zc_X3_init : GoodIn zw_zc_X11_init zw_zc_X3_init := goodIn_r _ [7, 8, 2, 3, 9, 10, 11, 89, 90, 91] (by decide +kernel) (by decide +kernel)
set_option maxRecDepth 100000 in
theorem zg_zc_X11_init_zc_X0_init : GoodIn zw_zc_X11_init zw_zc_X0_init := goodIn_r _ [16, 17, 2, 3, 18, 19, 92, 93] (by decide +kernel) (by decide +kernel)
set_option maxRecDepth 100000 in
theorem zg_zc_X11_init_zc_X2_init : GoodIn zw_zc_X11_init zw_zc_X2_init := goodIn_r _ [25, 26, 2, 3, 9, 27, 28, 29, 30, 31, 32, 33, 98, 99, 100] (by decide +kernel) (by decide +kernel)
set_option maxRecDepth 100000 in
theorem zg_zc_X11_init_zc_X6_init : GoodIn zw_zc_X11_init zw_zc_X6_init := goodIn_r _ [40, 41, 2, 3, 42, 43, 44, 45, 101, 102, 103, 104] (by decide +kernel) (by decide +kernel)
set_option maxRecDepth 100000 in
theorem zg_zc_X11_init_zc_X7_init : GoodIn zw_zc_X11_init zw_zc_X7_init := goodIn_r _ [52, 53, 2, 3, 54, 55, 56, 57, 58, 9, 59, 60, 61, 62, 63, 64, 65, 66, 67, 68, 69, 70, 71, 42, 72, 73, 74, 75, 76, 77, 78, 79, 80, 81, 82, 83, 84, 85, 115, 116, 117, 118, 119, 120, 121, 105, 106, 107, 108, 109, 110, 111, 112, 113, 114, 122, 123, 124, 125, 126, 127, 128, 129, 130, 131] (by decide +kernel) (by decide +kernel)
set_option maxHeartbeats 4000000 in
set_option maxRecDepth 100000 in
theorem zc_X11_init (l : Launch) (D : va_G) (cI cZ cP cF : Nat) (h0 : Nat) (sz : Nat) : Met l yX11_init zw_zc_X11_init ({ frames := 3, cells := 53, slots := 8253, locals := 57 }) (va_Pc [.ref h0] (fun U => U.heap.size = sz ∧ va_P D vwCl [(h0, .inr (11, [.null, .null, .null, .null]))] U.heap ∧ zE D cI cZ cP cF U ∧ va_D (fun _ => True) [(h0, .inr (11, [.null, .null, .null, .null]))])) (va_Qv (fun (_ : Unit) => True) (fun (_ : Unit) t => ∃ (b : Nat), ∃ (d : Nat), ∃ (lo : Nat), ∃ (ma : Nat), ∃ (pr : Nat), ∃ (f : Nat), ∃ (le : Nat), ∃ (it : Nat), ∃ (g : Nat → Int32), ∃ (dr : Nat), ∃ (wa : Nat), ∃ (sm : Nat), ∃ (ta : Nat), ∃ (fr : Nat), ∃ (ha : Nat), ∃ (tr : Nat), zM4 g ∧ va_P D vwCl [(h0, .inr (11, [.ref b, .ref d, .ref lo, .ref ma])), (b, .inr (0, [.ref pr, .int 0])), (pr, .inl (cP, 8, .inr (.inr (.inr (.inr (fun _ => none)))))), (d, .inr (2, [.ref f, .ref le, .ref it])), (f, .inl (cI, 8, .inl (fun _ => 0))), (le, .inl (cI, 4, .inl g)), (it, .inl (cI, 80, .inl (fun _ => 0))), (lo, .inr (6, [.ref b, .ref dr, .ref wa, .int 0])), (ma, .inr (7, [.ref b, .ref d, .ref sm, .ref ta, .ref fr, .ref ha, .int 0, .int 0, .int 0, .int 0])), (ta, .inr (10, [.int 0, .int 0, .int 0, .int 0, .int 0, .int 0, .ref tr])), (tr, .inl (cI, 4, .inl (fun _ => 0)))] t.heap ∧ va_D (va_A [(h0, .inr (11, [.null, .null, .null, .null]))] sz) [(h0, .inr (11, [.ref b, .ref d, .ref lo, .ref ma])), (b, .inr (0, [.ref pr, .int 0])), (pr, .inl (cP, 8, .inr (.inr (.inr (.inr (fun _ => none)))))), (d, .inr (2, [.ref f, .ref le, .ref it])), (f, .inl (cI, 8, .inl (fun _ => 0))), (le, .inl (cI, 4, .inl g)), (it, .inl (cI, 80, .inl (fun _ => 0))), (lo, .inr (6, [.ref b, .ref dr, .ref wa, .int 0])), (ma, .inr (7, [.ref b, .ref d, .ref sm, .ref ta, .ref fr, .ref ha, .int 0, .int 0, .int 0, .int 0])), (ta, .inr (10, [.int 0, .int 0, .int 0, .int 0, .int 0, .int 0, .ref tr])), (tr, .inl (cI, 4, .inl (fun _ => 0)))]) (va_A [(h0, .inr (11, [.null, .null, .null, .null]))] sz)) 53 8253 (va_A [(h0, .inr (11, [.null, .null, .null, .null]))] sz) := by
  refine Met.ofW (cc := cX11_init) (maxL := 2) (ret := none) (by decide) rfl ?_
  intro p e s m args below meth c s₁ B hml hv
  obtain ⟨rfl, hsz, hP, hE, hD0⟩ := hv
  have hx := B.exec
  have hb := B.bytes
  have hr := B.returns
  have hts := atoms_spec (ws := zw_zc_X11_init) B.pre
  have hown : s.vm.findClass RX11 = some m.cls := findClass_of_methodNamed B.named
  have hlocks := B.notSynchronized
  have hK := hE.k
  have hin : meth.name = "<init>" := (name_of_methodNamed B.named B.method).1
  subst hsz
  have hD := hD0.self (sz := s.heap.size)
  generalize hAe : va_A [(h0, .inr (11, [.null, .null, .null, .null]))] s.heap.size = A at hD ⊢
  have hA : ∀ q : Nat, s.heap.size ≤ q → A q := fun q h => by rw [← hAe]; exact Or.inr h
  have hS : va_S A s.heap s.heap [] := va_S.rf
  have hP : va_P D vwCl [(h0, .inr (11, [.null, .null, .null, .null]))] s.heap := hP
  have hl := lv_entry ([.ref h0]) (n := 2) (Nat.le_of_ble_eq_true rfl)
  rw [lg_entry_eq]
  generalize (lg_sl ([.ref h0]) ++ List.replicate (2 - (lg_sl ([.ref h0])).length) Slot.unset).toArray = ls at hl ⊢
  have hl : lv_has ls 2 [(0, .ref h0)] := hl
  refine lv_aload_n hx hb dX11_init_0 rfl (lv_at hl 0 rfl) ?_
  refine W.objInit hx hb hown (hts (.methodLink RX11 3 objectInit) (List.mem_of_getElem? (i := 1) rfl)) (hts (.instanceMethod objectInit) (List.mem_of_getElem? (i := 2) rfl)) (hts (.code objectInit ⟨#[0xb1]⟩ 1 none) (List.mem_of_getElem? (i := 3) rfl)) rfl (by rw [hml]; exact hl.1) rfl dX11_init_1 (Nat.le_of_ble_eq_true rfl) (Nat.le_of_ble_eq_true rfl) ?_
  refine W.eq (g2 := F0 m 4 ls []) rfl ?_
  refine va_new (ci := 3) (fs := [.null, .null, .int 0]) (C := RX3) (T := TX3) (N := 3) hx hb hts (fun _ h => List.mem_cons_of_mem _ (List.mem_append_left _ (List.mem_append_left _ (List.mem_append_left _ (List.mem_append_left _ (List.mem_append_left _ (List.mem_append_left _ (List.mem_append_left _ (List.mem_append_left _ (List.mem_append_right _ h)))))))))) tyX3 tyX3_ok hown (hts (.classLink RX11 9 RX3) (List.mem_of_getElem? (i := 4) rfl)) (hts (.instantiable RX3 3) (List.mem_of_getElem? (i := 5) rfl)) (hts (.initialized RX3) (List.mem_of_getElem? (i := 6) rfl)) hK hP hD hS hA rfl (fun j hj => by rcases (show j = 0 ∨ j = 1 ∨ j = 2 by omega) with rfl | rfl | rfl <;> rfl) (Nat.le_of_ble_eq_true rfl) (Nat.le_of_ble_eq_true rfl) dX11_init_4 (fun q1 H hP hD hS => ?_)
  have hP : va_P D vwCl [(h0, .inr (11, [.null, .null, .null, .null])), (q1, .inr (3, [.null, .null, .int 0]))] H := hP
  have hD : va_D A [(h0, .inr (11, [.null, .null, .null, .null])), (q1, .inr (3, [.null, .null, .int 0]))] := hD
  refine lv_dup hx hb dX11_init_7 rfl ?_
  have hPc := hP.sub (ws' := [(q1, .inr (3, [.null, .null, .int 0]))]) [1] rfl
  have hDc := hD.sub (ws' := [(q1, .inr (3, [.null, .null, .int 0]))]) [1] (by decide) rfl
  have hFc := va_free (wc := [(q1, .inr (3, [.null, .null, .int 0]))]) hD hS hA [1] rfl
  refine va_callv (va_runIN (As := []) (rest := [.ref q1]) ⟨hx, hb, hml, hown, hts⟩ (zc_X3_init l D cI cZ cP cF q1 H.size) ⟨va_cnB 0 hts zg_zc_X11_init_zc_X3_init rfl rfl rfl hE.nX11_11 (hts (.initialized RX3) (List.mem_of_getElem? (i := 6) rfl)) (by decide +kernel) ⟨Nat.le_of_ble_eq_true rfl, Nat.le_of_ble_eq_true rfl⟩, rfl, (hts (.instanceMethod yX3_init) (List.mem_of_getElem? (i := 12) rfl))⟩ ⟨zBW, fun U hU hW => ⟨rfl, by rw [hU], by rw [hU]; exact hPc, hE.warm hW, hDc.weaken (fun _ _ _ _ => trivial)⟩⟩ rfl rfl hl.1 rfl (lv_room (Nat.le_of_ble_eq_true rfl)) dX11_init_8 ⟨Nat.le_of_ble_eq_true rfl, Nat.le_of_ble_eq_true rfl⟩) hS (fun q _ h => hFc q h) hFc (fun u t H1 locs ht hvm h_8_2 hB hz1 hk1 hS => ?_)
  obtain ⟨hP1, hD1⟩ := hB
  rw [ht] at hP1
  obtain ⟨hP, hD⟩ := va_join (wr := [(h0, .inr (11, [.null, .null, .null, .null]))]) (w1 := []) hP hD [1] [0] rfl rfl (by decide) (by decide) hk1 hFc hP1 hD1
  generalize H1 = H at hP hS ⊢
  have hP : va_P D vwCl [(h0, .inr (11, [.null, .null, .null, .null]))] H := hP
  have hD : va_D A [(h0, .inr (11, [.null, .null, .null, .null]))] := hD
  refine lv_astore_n (lv' := [(1, .ref q1), (0, .ref h0)]) hx hb dX11_init_11 rfl hl (by decide) rfl (fun ls hl => ?_)
  refine lv_aload_n hx hb dX11_init_12 rfl (lv_at hl 1 rfl) ?_
  refine va_new (ci := 0) (fs := [.null, .int 0]) (C := RX0) (T := TX0) (N := 2) hx hb hts (fun _ h => List.mem_cons_of_mem _ (List.mem_append_left _ (List.mem_append_left _ (List.mem_append_left _ (List.mem_append_left _ (List.mem_append_left _ (List.mem_append_left _ (List.mem_append_left _ (List.mem_append_right _ h))))))))) tyX0 tyX0_ok hown (hts (.classLink RX11 12 RX0) (List.mem_of_getElem? (i := 13) rfl)) (hts (.instantiable RX0 2) (List.mem_of_getElem? (i := 14) rfl)) (hts (.initialized RX0) (List.mem_of_getElem? (i := 15) rfl)) hK hP hD hS hA rfl (fun j hj => by rcases (show j = 0 ∨ j = 1 by omega) with rfl | rfl <;> rfl) (Nat.le_of_ble_eq_true rfl) (Nat.le_of_ble_eq_true rfl) dX11_init_13 (fun q3 H hP hD hS => ?_)
  have hP : va_P D vwCl [(h0, .inr (11, [.null, .null, .null, .null])), (q3, .inr (0, [.null, .int 0]))] H := hP
  have hD : va_D A [(h0, .inr (11, [.null, .null, .null, .null])), (q3, .inr (0, [.null, .int 0]))] := hD
  refine lv_dup hx hb dX11_init_16 rfl ?_
  have hPc := hP.sub (ws' := [(q3, .inr (0, [.null, .int 0]))]) [1] rfl
  have hDc := hD.sub (ws' := [(q3, .inr (0, [.null, .int 0]))]) [1] (by decide) rfl
  have hFc := va_free (wc := [(q3, .inr (0, [.null, .int 0]))]) hD hS hA [1] rfl
  refine va_callv (va_runIN (As := []) (rest := [.ref q3, .ref h0]) ⟨hx, hb, hml, hown, hts⟩ (zc_X0_init l D cI cZ cP cF q3 H.size) ⟨va_cnB 0 hts zg_zc_X11_init_zc_X0_init rfl rfl rfl hE.nX11_14 (hts (.initialized RX0) (List.mem_of_getElem? (i := 15) rfl)) (by decide +kernel) ⟨Nat.le_of_ble_eq_true rfl, Nat.le_of_ble_eq_true rfl⟩, rfl, (hts (.instanceMethod yX0_init) (List.mem_of_getElem? (i := 20) rfl))⟩ ⟨zBW, fun U hU hW => ⟨rfl, by rw [hU], by rw [hU]; exact hPc, hE.warm hW, hDc.weaken (fun _ _ _ _ => trivial)⟩⟩ rfl rfl hl.1 rfl (lv_room (Nat.le_of_ble_eq_true rfl)) dX11_init_17 ⟨Nat.le_of_ble_eq_true rfl, Nat.le_of_ble_eq_true rfl⟩) hS (fun q _ h => hFc q h) hFc (fun u t H1 locs ht hvm h_17_4 hB hz1 hk1 hS => ?_)
  obtain ⟨q5, hP1, hD1⟩ := hB
  rw [ht] at hP1
  obtain ⟨hP, hD⟩ := va_join (wr := [(h0, .inr (11, [.null, .null, .null, .null]))]) (w1 := [(q3, .inr (0, [.ref q5, .int 0])), (q5, .inl (cP, 8, .inr (.inr (.inr (.inr (fun _ => none))))))]) hP hD [1] [0] rfl rfl (by decide) (by decide) hk1 hFc hP1 hD1
  generalize H1 = H at hP hS ⊢
  have hP : va_P D vwCl [(h0, .inr (11, [.null, .null, .null, .null])), (q3, .inr (0, [.ref q5, .int 0])), (q5, .inl (cP, 8, .inr (.inr (.inr (.inr (fun _ => none))))))] H := hP
  have hD : va_D A [(h0, .inr (11, [.null, .null, .null, .null])), (q3, .inr (0, [.ref q5, .int 0])), (q5, .inl (cP, 8, .inr (.inr (.inr (.inr (fun _ => none))))))] := hD
  refine va_putF (D := D) (ci := 11) (v := .ref q3) (ty := .object "TemplateForge$Book") (C := RX11) (T := TX11) (N := 4) hx hb hts (fun _ h => List.mem_cons_of_mem _ (List.mem_append_left _ (List.mem_append_left _ (List.mem_append_left _ (List.mem_append_left _ (List.mem_append_left _ (List.mem_append_left _ (List.mem_append_right _ h)))))))) tyX11 tyX11_ok nmX11 hown hK hP hD hS 0 rfl rfl 0 (by decide) (hts (.fieldLink RX11 15 "TemplateForge" "book" "LTemplateForge$Book;") (List.mem_of_getElem? (i := 21) rfl)) (fun _ h9 => h9) rfl hin rfl (by decide +kernel) rfl rfl (Nat.le_of_ble_eq_true rfl) dX11_init_20 (fun H locs hP hD hS => ?_)
  have hP : va_P D vwCl [(h0, .inr (11, [.ref q3, .null, .null, .null])), (q3, .inr (0, [.ref q5, .int 0])), (q5, .inl (cP, 8, .inr (.inr (.inr (.inr (fun _ => none))))))] H := hP
  have hD : va_D A [(h0, .inr (11, [.ref q3, .null, .null, .null])), (q3, .inr (0, [.ref q5, .int 0])), (q5, .inl (cP, 8, .inr (.inr (.inr (.inr (fun _ => none))))))] := hD
  refine lv_aload_n hx hb dX11_init_23 rfl (lv_at hl 1 rfl) ?_
  refine va_new (ci := 2) (fs := [.null, .null, .null]) (C := RX2) (T := TX2) (N := 3) hx hb hts (fun _ h => List.mem_cons_of_mem _ (List.mem_append_left _ (List.mem_append_left _ (List.mem_append_left _ (List.mem_append_left _ (List.mem_append_left _ (List.mem_append_right _ h))))))) tyX2 tyX2_ok hown (hts (.classLink RX11 19 RX2) (List.mem_of_getElem? (i := 22) rfl)) (hts (.instantiable RX2 3) (List.mem_of_getElem? (i := 23) rfl)) (hts (.initialized RX2) (List.mem_of_getElem? (i := 24) rfl)) hK hP hD hS hA rfl (fun j hj => by rcases (show j = 0 ∨ j = 1 ∨ j = 2 by omega) with rfl | rfl | rfl <;> rfl) (Nat.le_of_ble_eq_true rfl) (Nat.le_of_ble_eq_true rfl) dX11_init_24 (fun q6 H hP hD hS => ?_)
  have hP : va_P D vwCl [(h0, .inr (11, [.ref q3, .null, .null, .null])), (q3, .inr (0, [.ref q5, .int 0])), (q5, .inl (cP, 8, .inr (.inr (.inr (.inr (fun _ => none)))))), (q6, .inr (2, [.null, .null, .null]))] H := hP
  have hD : va_D A [(h0, .inr (11, [.ref q3, .null, .null, .null])), (q3, .inr (0, [.ref q5, .int 0])), (q5, .inl (cP, 8, .inr (.inr (.inr (.inr (fun _ => none)))))), (q6, .inr (2, [.null, .null, .null]))] := hD
  refine lv_dup hx hb dX11_init_27 rfl ?_
  have hPc := hP.sub (ws' := [(q6, .inr (2, [.null, .null, .null]))]) [3] rfl
  have hDc := hD.sub (ws' := [(q6, .inr (2, [.null, .null, .null]))]) [3] (by decide) rfl
  have hFc := va_free (wc := [(q6, .inr (2, [.null, .null, .null]))]) hD hS hA [3] rfl
  refine va_callv (va_runI (As := []) (rest := [.ref q6, .ref h0]) ⟨hx, hb, hml, hown, hts⟩ (zc_X2_init l D cI cZ cP cF q6 H.size) (cwI 0 hts zg_zc_X11_init_zc_X2_init rfl rfl rfl (hts (.initialized RX2) (List.mem_of_getElem? (i := 24) rfl)) (hts (.methodLink RX11 21 yX2_init) (List.mem_of_getElem? (i := 35) rfl)) (hts (.instanceMethod yX2_init) (List.mem_of_getElem? (i := 34) rfl)) rfl (by decide +kernel) ⟨Nat.le_of_ble_eq_true rfl, Nat.le_of_ble_eq_true rfl⟩) ⟨zBW, fun U hU hW => ⟨rfl, by rw [hU], by rw [hU]; exact hPc, hE.warm hW, hDc.weaken (fun _ _ _ _ => trivial)⟩⟩ rfl rfl hl.1 rfl (lv_room (Nat.le_of_ble_eq_true rfl)) dX11_init_28 ⟨Nat.le_of_ble_eq_true rfl, Nat.le_of_ble_eq_true rfl⟩) hS (fun q _ h => hFc q h) hFc (fun u t H1 locs ht hvm h_28_7 hB hz1 hk1 hS => ?_)
  obtain ⟨q8, q9, q10, q11, hM_12, hP1, hD1⟩ := hB
  rw [ht] at hP1
  obtain ⟨hP, hD⟩ := va_join (wr := [(h0, .inr (11, [.ref q3, .null, .null, .null])), (q3, .inr (0, [.ref q5, .int 0])), (q5, .inl (cP, 8, .inr (.inr (.inr (.inr (fun _ => none))))))]) (w1 := [(q6, .inr (2, [.ref q8, .ref q9, .ref q10])), (q8, .inl (cI, 8, .inl (fun _ => 0))), (q9, .inl (cI, 4, .inl q11)), (q10, .inl (cI, 80, .inl (fun _ => 0)))]) hP hD [3] [0, 1, 2] rfl rfl (by decide) (by decide) hk1 hFc hP1 hD1
  generalize H1 = H at hP hS ⊢
  have hP : va_P D vwCl [(h0, .inr (11, [.ref q3, .null, .null, .null])), (q3, .inr (0, [.ref q5, .int 0])), (q5, .inl (cP, 8, .inr (.inr (.inr (.inr (fun _ => none)))))), (q6, .inr (2, [.ref q8, .ref q9, .ref q10])), (q8, .inl (cI, 8, .inl (fun _ => 0))), (q9, .inl (cI, 4, .inl q11)), (q10, .inl (cI, 80, .inl (fun _ => 0)))] H := hP
  have hD : va_D A [(h0, .inr (11, [.ref q3, .null, .null, .null])), (q3, .inr (0, [.ref q5, .int 0])), (q5, .inl (cP, 8, .inr (.inr (.inr (.inr (fun _ => none)))))), (q6, .inr (2, [.ref q8, .ref q9, .ref q10])), (q8, .inl (cI, 8, .inl (fun _ => 0))), (q9, .inl (cI, 4, .inl q11)), (q10, .inl (cI, 80, .inl (fun _ => 0)))] := hD
  refine va_putF (D := D) (ci := 11) (v := .ref q6) (ty := .object "TemplateForge$Data") (C := RX11) (T := TX11) (N := 4) hx hb hts (fun _ h => List.mem_cons_of_mem _ (List.mem_append_left _ (List.mem_append_left _ (List.mem_append_left _ (List.mem_append_left _ (List.mem_append_left _ (List.mem_append_left _ (List.mem_append_right _ h)))))))) tyX11 tyX11_ok nmX11 hown hK hP hD hS 0 rfl rfl 1 (by decide) (hts (.fieldLink RX11 22 "TemplateForge" "data" "LTemplateForge$Data;") (List.mem_of_getElem? (i := 36) rfl)) (fun _ h9 => h9) rfl hin rfl (by decide +kernel) rfl rfl (Nat.le_of_ble_eq_true rfl) dX11_init_31 (fun H locs hP hD hS => ?_)
  have hP : va_P D vwCl [(h0, .inr (11, [.ref q3, .ref q6, .null, .null])), (q3, .inr (0, [.ref q5, .int 0])), (q5, .inl (cP, 8, .inr (.inr (.inr (.inr (fun _ => none)))))), (q6, .inr (2, [.ref q8, .ref q9, .ref q10])), (q8, .inl (cI, 8, .inl (fun _ => 0))), (q9, .inl (cI, 4, .inl q11)), (q10, .inl (cI, 80, .inl (fun _ => 0)))] H := hP
  have hD : va_D A [(h0, .inr (11, [.ref q3, .ref q6, .null, .null])), (q3, .inr (0, [.ref q5, .int 0])), (q5, .inl (cP, 8, .inr (.inr (.inr (.inr (fun _ => none)))))), (q6, .inr (2, [.ref q8, .ref q9, .ref q10])), (q8, .inl (cI, 8, .inl (fun _ => 0))), (q9, .inl (cI, 4, .inl q11)), (q10, .inl (cI, 80, .inl (fun _ => 0)))] := hD
  refine lv_aload_n hx hb dX11_init_34 rfl (lv_at hl 1 rfl) ?_
  refine va_new (ci := 6) (fs := [.null, .null, .null, .int 0]) (C := RX6) (T := TX6) (N := 4) hx hb hts (fun _ h => List.mem_cons_of_mem _ (List.mem_append_left _ (List.mem_append_left _ (List.mem_append_left _ (List.mem_append_left _ (List.mem_append_right _ h)))))) tyX6 tyX6_ok hown (hts (.classLink RX11 26 RX6) (List.mem_of_getElem? (i := 37) rfl)) (hts (.instantiable RX6 4) (List.mem_of_getElem? (i := 38) rfl)) (hts (.initialized RX6) (List.mem_of_getElem? (i := 39) rfl)) hK hP hD hS hA rfl (fun j hj => by rcases (show j = 0 ∨ j = 1 ∨ j = 2 ∨ j = 3 by omega) with rfl | rfl | rfl | rfl <;> rfl) (Nat.le_of_ble_eq_true rfl) (Nat.le_of_ble_eq_true rfl) dX11_init_35 (fun q13 H hP hD hS => ?_)
  have hP : va_P D vwCl [(h0, .inr (11, [.ref q3, .ref q6, .null, .null])), (q3, .inr (0, [.ref q5, .int 0])), (q5, .inl (cP, 8, .inr (.inr (.inr (.inr (fun _ => none)))))), (q6, .inr (2, [.ref q8, .ref q9, .ref q10])), (q8, .inl (cI, 8, .inl (fun _ => 0))), (q9, .inl (cI, 4, .inl q11)), (q10, .inl (cI, 80, .inl (fun _ => 0))), (q13, .inr (6, [.null, .null, .null, .int 0]))] H := hP
  have hD : va_D A [(h0, .inr (11, [.ref q3, .ref q6, .null, .null])), (q3, .inr (0, [.ref q5, .int 0])), (q5, .inl (cP, 8, .inr (.inr (.inr (.inr (fun _ => none)))))), (q6, .inr (2, [.ref q8, .ref q9, .ref q10])), (q8, .inl (cI, 8, .inl (fun _ => 0))), (q9, .inl (cI, 4, .inl q11)), (q10, .inl (cI, 80, .inl (fun _ => 0))), (q13, .inr (6, [.null, .null, .null, .int 0]))] := hD
  refine lv_dup hx hb dX11_init_38 rfl ?_
  refine lv_aload_n hx hb dX11_init_39 rfl (lv_at hl 1 rfl) ?_
  refine va_get (D := D) (ci := 11) (v := .ref q3) (C := RX11) (T := TX11) (N := 4) hx hb hts (fun _ h => List.mem_cons_of_mem _ (List.mem_append_left _ (List.mem_append_left _ (List.mem_append_left _ (List.mem_append_left _ (List.mem_append_left _ (List.mem_append_left _ (List.mem_append_right _ h)))))))) hown hK hP 0 rfl rfl 0 (by decide) (hts (.fieldLink RX11 15 "TemplateForge" "book" "LTemplateForge$Book;") (List.mem_of_getElem? (i := 21) rfl)) (fun _ h9 => h9) rfl dX11_init_40 ?_
  refine lv_aload_n hx hb dX11_init_43 rfl (lv_at hl 0 rfl) ?_
  have hPc := hP.sub (ws' := [(q13, .inr (6, [.null, .null, .null, .int 0]))]) [7] rfl
  have hDc := hD.sub (ws' := [(q13, .inr (6, [.null, .null, .null, .int 0]))]) [7] (by decide) rfl
  have hFc := va_free (wc := [(q13, .inr (6, [.null, .null, .null, .int 0]))]) hD hS hA [7] rfl
  refine va_callv (va_runI (As := [.ref q3, .ref q1]) (rest := [.ref q13, .ref h0]) ⟨hx, hb, hml, hown, hts⟩ (zc_X6_init l D cI cZ cP cF q13 q3 q1 H.size) (cwI 2 hts zg_zc_X11_init_zc_X6_init rfl rfl rfl (hts (.initialized RX6) (List.mem_of_getElem? (i := 39) rfl)) (hts (.methodLink RX11 28 yX6_init) (List.mem_of_getElem? (i := 47) rfl)) (hts (.instanceMethod yX6_init) (List.mem_of_getElem? (i := 46) rfl)) rfl (by decide +kernel) ⟨Nat.le_of_ble_eq_true rfl, Nat.le_of_ble_eq_true rfl⟩) ⟨zBW, fun U hU hW => ⟨rfl, by rw [hU], by rw [hU]; exact hPc, hE.warm hW, hDc.weaken (fun _ _ _ _ => trivial)⟩⟩ rfl rfl hl.1 rfl (lv_room (Nat.le_of_ble_eq_true rfl)) dX11_init_44 ⟨Nat.le_of_ble_eq_true rfl, Nat.le_of_ble_eq_true rfl⟩) hS (fun q _ h => hFc q h) hFc (fun u t H1 locs ht hvm h_44_14 hB hz1 hk1 hS => ?_)
  obtain ⟨q15, hP1, hD1⟩ := hB
  rw [ht] at hP1
  obtain ⟨hP, hD⟩ := va_join (wr := [(h0, .inr (11, [.ref q3, .ref q6, .null, .null])), (q3, .inr (0, [.ref q5, .int 0])), (q5, .inl (cP, 8, .inr (.inr (.inr (.inr (fun _ => none)))))), (q6, .inr (2, [.ref q8, .ref q9, .ref q10])), (q8, .inl (cI, 8, .inl (fun _ => 0))), (q9, .inl (cI, 4, .inl q11)), (q10, .inl (cI, 80, .inl (fun _ => 0)))]) (w1 := [(q13, .inr (6, [.ref q3, .ref q1, .ref q15, .int 0]))]) hP hD [7] [0, 1, 2, 3, 4, 5, 6] rfl rfl (by decide) (by decide) hk1 hFc hP1 hD1
  generalize H1 = H at hP hS ⊢
  have hP : va_P D vwCl [(h0, .inr (11, [.ref q3, .ref q6, .null, .null])), (q3, .inr (0, [.ref q5, .int 0])), (q5, .inl (cP, 8, .inr (.inr (.inr (.inr (fun _ => none)))))), (q6, .inr (2, [.ref q8, .ref q9, .ref q10])), (q8, .inl (cI, 8, .inl (fun _ => 0))), (q9, .inl (cI, 4, .inl q11)), (q10, .inl (cI, 80, .inl (fun _ => 0))), (q13, .inr (6, [.ref q3, .ref q1, .ref q15, .int 0]))] H := hP
  have hD : va_D A [(h0, .inr (11, [.ref q3, .ref q6, .null, .null])), (q3, .inr (0, [.ref q5, .int 0])), (q5, .inl (cP, 8, .inr (.inr (.inr (.inr (fun _ => none)))))), (q6, .inr (2, [.ref q8, .ref q9, .ref q10])), (q8, .inl (cI, 8, .inl (fun _ => 0))), (q9, .inl (cI, 4, .inl q11)), (q10, .inl (cI, 80, .inl (fun _ => 0))), (q13, .inr (6, [.ref q3, .ref q1, .ref q15, .int 0]))] := hD
  refine va_putF (D := D) (ci := 11) (v := .ref q13) (ty := .object "TemplateForge$Looker") (C := RX11) (T := TX11) (N := 4) hx hb hts (fun _ h => List.mem_cons_of_mem _ (List.mem_append_left _ (List.mem_append_left _ (List.mem_append_left _ (List.mem_append_left _ (List.mem_append_left _ (List.mem_append_left _ (List.mem_append_right _ h)))))))) tyX11 tyX11_ok nmX11 hown hK hP hD hS 0 rfl rfl 2 (by decide) (hts (.fieldLink RX11 31 "TemplateForge" "looker" "LTemplateForge$Looker;") (List.mem_of_getElem? (i := 48) rfl)) (fun _ h9 => h9) rfl hin rfl (by decide +kernel) rfl rfl (Nat.le_of_ble_eq_true rfl) dX11_init_47 (fun H locs hP hD hS => ?_)
  have hP : va_P D vwCl [(h0, .inr (11, [.ref q3, .ref q6, .ref q13, .null])), (q3, .inr (0, [.ref q5, .int 0])), (q5, .inl (cP, 8, .inr (.inr (.inr (.inr (fun _ => none)))))), (q6, .inr (2, [.ref q8, .ref q9, .ref q10])), (q8, .inl (cI, 8, .inl (fun _ => 0))), (q9, .inl (cI, 4, .inl q11)), (q10, .inl (cI, 80, .inl (fun _ => 0))), (q13, .inr (6, [.ref q3, .ref q1, .ref q15, .int 0]))] H := hP
  have hD : va_D A [(h0, .inr (11, [.ref q3, .ref q6, .ref q13, .null])), (q3, .inr (0, [.ref q5, .int 0])), (q5, .inl (cP, 8, .inr (.inr (.inr (.inr (fun _ => none)))))), (q6, .inr (2, [.ref q8, .ref q9, .ref q10])), (q8, .inl (cI, 8, .inl (fun _ => 0))), (q9, .inl (cI, 4, .inl q11)), (q10, .inl (cI, 80, .inl (fun _ => 0))), (q13, .inr (6, [.ref q3, .ref q1, .ref q15, .int 0]))] := hD
  refine lv_aload_n hx hb dX11_init_50 rfl (lv_at hl 1 rfl) ?_
  refine va_new (ci := 7) (fs := [.null, .null, .null, .null, .null, .null, .int 0, .int 0, .int 0, .int 0]) (C := RX7) (T := TX7) (N := 10) hx hb hts (fun _ h => List.mem_cons_of_mem _ (List.mem_append_left _ (List.mem_append_left _ (List.mem_append_left _ (List.mem_append_right _ h))))) tyX7 tyX7_ok hown (hts (.classLink RX11 35 RX7) (List.mem_of_getElem? (i := 49) rfl)) (hts (.instantiable RX7 10) (List.mem_of_getElem? (i := 50) rfl)) (hts (.initialized RX7) (List.mem_of_getElem? (i := 51) rfl)) hK hP hD hS hA rfl (fun j hj => by rcases (show j = 0 ∨ j = 1 ∨ j = 2 ∨ j = 3 ∨ j = 4 ∨ j = 5 ∨ j = 6 ∨ j = 7 ∨ j = 8 ∨ j = 9 by omega) with rfl | rfl | rfl | rfl | rfl | rfl | rfl | rfl | rfl | rfl <;> rfl) (Nat.le_of_ble_eq_true rfl) (Nat.le_of_ble_eq_true rfl) dX11_init_51 (fun q16 H hP hD hS => ?_)
  have hP : va_P D vwCl [(h0, .inr (11, [.ref q3, .ref q6, .ref q13, .null])), (q3, .inr (0, [.ref q5, .int 0])), (q5, .inl (cP, 8, .inr (.inr (.inr (.inr (fun _ => none)))))), (q6, .inr (2, [.ref q8, .ref q9, .ref q10])), (q8, .inl (cI, 8, .inl (fun _ => 0))), (q9, .inl (cI, 4, .inl q11)), (q10, .inl (cI, 80, .inl (fun _ => 0))), (q13, .inr (6, [.ref q3, .ref q1, .ref q15, .int 0])), (q16, .inr (7, [.null, .null, .null, .null, .null, .null, .int 0, .int 0, .int 0, .int 0]))] H := hP
  have hD : va_D A [(h0, .inr (11, [.ref q3, .ref q6, .ref q13, .null])), (q3, .inr (0, [.ref q5, .int 0])), (q5, .inl (cP, 8, .inr (.inr (.inr (.inr (fun _ => none)))))), (q6, .inr (2, [.ref q8, .ref q9, .ref q10])), (q8, .inl (cI, 8, .inl (fun _ => 0))), (q9, .inl (cI, 4, .inl q11)), (q10, .inl (cI, 80, .inl (fun _ => 0))), (q13, .inr (6, [.ref q3, .ref q1, .ref q15, .int 0])), (q16, .inr (7, [.null, .null, .null, .null, .null, .null, .int 0, .int 0, .int 0, .int 0]))] := hD
  refine lv_dup hx hb dX11_init_54 rfl ?_
  refine lv_aload_n hx hb dX11_init_55 rfl (lv_at hl 1 rfl) ?_
  refine va_get (D := D) (ci := 11) (v := .ref q3) (C := RX11) (T := TX11) (N := 4) hx hb hts (fun _ h => List.mem_cons_of_mem _ (List.mem_append_left _ (List.mem_append_left _ (List.mem_append_left _ (List.mem_append_left _ (List.mem_append_left _ (List.mem_append_left _ (List.mem_append_right _ h)))))))) hown hK hP 0 rfl rfl 0 (by decide) (hts (.fieldLink RX11 15 "TemplateForge" "book" "LTemplateForge$Book;") (List.mem_of_getElem? (i := 21) rfl)) (fun _ h9 => h9) rfl dX11_init_56 ?_
  refine lv_aload_n hx hb dX11_init_59 rfl (lv_at hl 1 rfl) ?_
  refine va_get (D := D) (ci := 11) (v := .ref q6) (C := RX11) (T := TX11) (N := 4) hx hb hts (fun _ h => List.mem_cons_of_mem _ (List.mem_append_left _ (List.mem_append_left _ (List.mem_append_left _ (List.mem_append_left _ (List.mem_append_left _ (List.mem_append_left _ (List.mem_append_right _ h)))))))) hown hK hP 0 rfl rfl 1 (by decide) (hts (.fieldLink RX11 22 "TemplateForge" "data" "LTemplateForge$Data;") (List.mem_of_getElem? (i := 36) rfl)) (fun _ h9 => h9) rfl dX11_init_60 ?_
  refine lv_aload_n hx hb dX11_init_63 rfl (lv_at hl 0 rfl) ?_
  have hPc := hP.sub (ws' := [(q16, .inr (7, [.null, .null, .null, .null, .null, .null, .int 0, .int 0, .int 0, .int 0]))]) [8] rfl
  have hDc := hD.sub (ws' := [(q16, .inr (7, [.null, .null, .null, .null, .null, .null, .int 0, .int 0, .int 0, .int 0]))]) [8] (by decide) rfl
  have hFc := va_free (wc := [(q16, .inr (7, [.null, .null, .null, .null, .null, .null, .int 0, .int 0, .int 0, .int 0]))]) hD hS hA [8] rfl
  refine va_callv (va_runI (As := [.ref q3, .ref q6, .ref q1]) (rest := [.ref q16, .ref h0]) ⟨hx, hb, hml, hown, hts⟩ (zc_X7_init l D cI cZ cP cF q16 q3 q6 q1 H.size) (cwI 3 hts zg_zc_X11_init_zc_X7_init rfl rfl rfl (hts (.initialized RX7) (List.mem_of_getElem? (i := 51) rfl)) (hts (.methodLink RX11 37 yX7_init) (List.mem_of_getElem? (i := 87) rfl)) (hts (.instanceMethod yX7_init) (List.mem_of_getElem? (i := 86) rfl)) rfl (by decide +kernel) ⟨Nat.le_of_ble_eq_true rfl, Nat.le_of_ble_eq_true rfl⟩) ⟨zBW, fun U hU hW => ⟨rfl, by rw [hU], by rw [hU]; exact hPc, hE.warm hW, hDc.weaken (fun _ _ _ _ => trivial)⟩⟩ rfl rfl hl.1 rfl (lv_room (Nat.le_of_ble_eq_true rfl)) dX11_init_64 ⟨Nat.le_of_ble_eq_true rfl, Nat.le_of_ble_eq_true rfl⟩) hS (fun q _ h => hFc q h) hFc (fun u t H1 locs ht hvm h_64_17 hB hz1 hk1 hS => ?_)
  obtain ⟨q18, q19, q20, q21, q22, hP1, hD1⟩ := hB
  rw [ht] at hP1
  obtain ⟨hP, hD⟩ := va_join (wr := [(h0, .inr (11, [.ref q3, .ref q6, .ref q13, .null])), (q3, .inr (0, [.ref q5, .int 0])), (q5, .inl (cP, 8, .inr (.inr (.inr (.inr (fun _ => none)))))), (q6, .inr (2, [.ref q8, .ref q9, .ref q10])), (q8, .inl (cI, 8, .inl (fun _ => 0))), (q9, .inl (cI, 4, .inl q11)), (q10, .inl (cI, 80, .inl (fun _ => 0))), (q13, .inr (6, [.ref q3, .ref q1, .ref q15, .int 0]))]) (w1 := [(q16, .inr (7, [.ref q3, .ref q6, .ref q18, .ref q19, .ref q20, .ref q21, .int 0, .int 0, .int 0, .int 0])), (q19, .inr (10, [.int 0, .int 0, .int 0, .int 0, .int 0, .int 0, .ref q22])), (q22, .inl (cI, 4, .inl (fun _ => 0)))]) hP hD [8] [0, 1, 2, 3, 4, 5, 6, 7] rfl rfl (by decide) (by decide) hk1 hFc hP1 hD1
  generalize H1 = H at hP hS ⊢
  have hP : va_P D vwCl [(h0, .inr (11, [.ref q3, .ref q6, .ref q13, .null])), (q3, .inr (0, [.ref q5, .int 0])), (q5, .inl (cP, 8, .inr (.inr (.inr (.inr (fun _ => none)))))), (q6, .inr (2, [.ref q8, .ref q9, .ref q10])), (q8, .inl (cI, 8, .inl (fun _ => 0))), (q9, .inl (cI, 4, .inl q11)), (q10, .inl (cI, 80, .inl (fun _ => 0))), (q13, .inr (6, [.ref q3, .ref q1, .ref q15, .int 0])), (q16, .inr (7, [.ref q3, .ref q6, .ref q18, .ref q19, .ref q20, .ref q21, .int 0, .int 0, .int 0, .int 0])), (q19, .inr (10, [.int 0, .int 0, .int 0, .int 0, .int 0, .int 0, .ref q22])), (q22, .inl (cI, 4, .inl (fun _ => 0)))] H := hP
  have hD : va_D A [(h0, .inr (11, [.ref q3, .ref q6, .ref q13, .null])), (q3, .inr (0, [.ref q5, .int 0])), (q5, .inl (cP, 8, .inr (.inr (.inr (.inr (fun _ => none)))))), (q6, .inr (2, [.ref q8, .ref q9, .ref q10])), (q8, .inl (cI, 8, .inl (fun _ => 0))), (q9, .inl (cI, 4, .inl q11)), (q10, .inl (cI, 80, .inl (fun _ => 0))), (q13, .inr (6, [.ref q3, .ref q1, .ref q15, .int 0])), (q16, .inr (7, [.ref q3, .ref q6, .ref q18, .ref q19, .ref q20, .ref q21, .int 0, .int 0, .int 0, .int 0])), (q19, .inr (10, [.int 0, .int 0, .int 0, .int 0, .int 0, .int 0, .ref q22])), (q22, .inl (cI, 4, .inl (fun _ => 0)))] := hD
  refine va_putF (D := D) (ci := 11) (v := .ref q16) (ty := .object "TemplateForge$Machine") (C := RX11) (T := TX11) (N := 4) hx hb hts (fun _ h => List.mem_cons_of_mem _ (List.mem_append_left _ (List.mem_append_left _ (List.mem_append_left _ (List.mem_append_left _ (List.mem_append_left _ (List.mem_append_left _ (List.mem_append_right _ h)))))))) tyX11 tyX11_ok nmX11 hown hK hP hD hS 0 rfl rfl 3 (by decide) (hts (.fieldLink RX11 40 "TemplateForge" "machine" "LTemplateForge$Machine;") (List.mem_of_getElem? (i := 88) rfl)) (fun _ h9 => h9) rfl hin rfl (by decide +kernel) rfl rfl (Nat.le_of_ble_eq_true rfl) dX11_init_67 (fun H locs hP hD hS => ?_)
  have hP : va_P D vwCl [(h0, .inr (11, [.ref q3, .ref q6, .ref q13, .ref q16])), (q3, .inr (0, [.ref q5, .int 0])), (q5, .inl (cP, 8, .inr (.inr (.inr (.inr (fun _ => none)))))), (q6, .inr (2, [.ref q8, .ref q9, .ref q10])), (q8, .inl (cI, 8, .inl (fun _ => 0))), (q9, .inl (cI, 4, .inl q11)), (q10, .inl (cI, 80, .inl (fun _ => 0))), (q13, .inr (6, [.ref q3, .ref q1, .ref q15, .int 0])), (q16, .inr (7, [.ref q3, .ref q6, .ref q18, .ref q19, .ref q20, .ref q21, .int 0, .int 0, .int 0, .int 0])), (q19, .inr (10, [.int 0, .int 0, .int 0, .int 0, .int 0, .int 0, .ref q22])), (q22, .inl (cI, 4, .inl (fun _ => 0)))] H := hP
  have hD : va_D A [(h0, .inr (11, [.ref q3, .ref q6, .ref q13, .ref q16])), (q3, .inr (0, [.ref q5, .int 0])), (q5, .inl (cP, 8, .inr (.inr (.inr (.inr (fun _ => none)))))), (q6, .inr (2, [.ref q8, .ref q9, .ref q10])), (q8, .inl (cI, 8, .inl (fun _ => 0))), (q9, .inl (cI, 4, .inl q11)), (q10, .inl (cI, 80, .inl (fun _ => 0))), (q13, .inr (6, [.ref q3, .ref q1, .ref q15, .int 0])), (q16, .inr (7, [.ref q3, .ref q6, .ref q18, .ref q19, .ref q20, .ref q21, .int 0, .int 0, .int 0, .int 0])), (q19, .inr (10, [.int 0, .int 0, .int 0, .int 0, .int 0, .int 0, .ref q22])), (q22, .inl (cI, 4, .inl (fun _ => 0)))] := hD
  have hP9 := hP.sub (ws' := [(h0, .inr (11, [.ref q3, .ref q6, .ref q13, .ref q16])), (q3, .inr (0, [.ref q5, .int 0])), (q5, .inl (cP, 8, .inr (.inr (.inr (.inr (fun _ => none)))))), (q6, .inr (2, [.ref q8, .ref q9, .ref q10])), (q8, .inl (cI, 8, .inl (fun _ => 0))), (q9, .inl (cI, 4, .inl q11)), (q10, .inl (cI, 80, .inl (fun _ => 0))), (q13, .inr (6, [.ref q3, .ref q1, .ref q15, .int 0])), (q16, .inr (7, [.ref q3, .ref q6, .ref q18, .ref q19, .ref q20, .ref q21, .int 0, .int 0, .int 0, .int 0])), (q19, .inr (10, [.int 0, .int 0, .int 0, .int 0, .int 0, .int 0, .ref q22])), (q22, .inl (cI, 4, .inl (fun _ => 0)))]) [0, 1, 2, 3, 4, 5, 6, 7, 8, 9, 10] rfl
  have hD9 := hD.sub (ws' := [(h0, .inr (11, [.ref q3, .ref q6, .ref q13, .ref q16])), (q3, .inr (0, [.ref q5, .int 0])), (q5, .inl (cP, 8, .inr (.inr (.inr (.inr (fun _ => none)))))), (q6, .inr (2, [.ref q8, .ref q9, .ref q10])), (q8, .inl (cI, 8, .inl (fun _ => 0))), (q9, .inl (cI, 4, .inl q11)), (q10, .inl (cI, 80, .inl (fun _ => 0))), (q13, .inr (6, [.ref q3, .ref q1, .ref q15, .int 0])), (q16, .inr (7, [.ref q3, .ref q6, .ref q18, .ref q19, .ref q20, .ref q21, .int 0, .int 0, .int 0, .int 0])), (q19, .inr (10, [.int 0, .int 0, .int 0, .int 0, .int 0, .int 0, .ref q22])), (q22, .inl (cI, 4, .inl (fun _ => 0)))]) [0, 1, 2, 3, 4, 5, 6, 7, 8, 9, 10] (by decide) rfl
  refine W.widen (k := 53) (n := 8253) (Nat.le_of_ble_eq_true rfl) (Nat.le_of_ble_eq_true rfl) ?_
  exact W.vret hx hb hr (fun t ht hW => ⟨⟨(), rfl, trivial, q3, q6, q13, q16, q5, q8, q9, q10, q11, q1, q15, q18, q19, q20, q21, q22, hM_12, by rw [ht]; exact hP9, hD9⟩, hS.F ht⟩) hS.2.2 dX11_init_70
end
section
def zw_zc_X0_at : List Cond := .code yX0_at cX0_at 2 (some (.object "TemplateForge$Program")) :: ([.fieldLink RX0 17 "TemplateForge$Book" "told" "I"] ++ wsX00)
set_option maxHeartbeats 4000000 in
set_option maxRecDepth 100000 in
theorem zc_X0_at (l : Launch) (D : va_G) (cI cZ cP cF : Nat) (h0 p1 : Nat) (m0 : Int32) : Met l yX0_at zw_zc_X0_at ({ frames := 0, cells := 0, slots := 0, locals := 0 }) (va_Pc [.ref h0, .int m0] (fun U => va_P D vwCl [(h0, .inr (0, [.ref p1, .int 0]))] U.heap ∧ zE D cI cZ cP cF U)) (va_Sq (fun r => r = none)) 0 0 (fun _ => False) := by
  refine Met.ofW (cc := cX0_at) (maxL := 2) (ret := (some (.object "TemplateForge$Program"))) (by decide) rfl ?_
  intro p e s m args below meth c s₁ B hml hv
  obtain ⟨rfl, hP, hE⟩ := hv
  have hx := B.exec
  have hb := B.bytes
  have hr := B.returns
  have hts := atoms_spec (ws := zw_zc_X0_at) B.pre
  have hown : s.vm.findClass RX0 = some m.cls := findClass_of_methodNamed B.named
  have hlocks := B.notSynchronized
  have hK := hE.k
  have hP : va_P D vwCl [(h0, .inr (0, [.ref p1, .int 0]))] s.heap := hP
  have hl := lv_entry ([.ref h0, .int m0]) (n := 2) (Nat.le_of_ble_eq_true rfl)
  rw [lg_entry_eq]
  generalize (lg_sl ([.ref h0, .int m0]) ++ List.replicate (2 - (lg_sl ([.ref h0, .int m0])).length) Slot.unset).toArray = ls at hl ⊢
  have hl : lv_has ls 2 [(0, .ref h0), (1, .int m0)] := hl
  refine lv_iload_n hx hb dX0_at_0 rfl (lv_at hl 1 rfl) ?_
  refine lv_if_lt (tgt := 27) hx hb dX0_at_1 (by decide) (fun c_1 => ?_) (fun c_1 => ?_)
  · refine lv_null hx hb dX0_at_27 ?_
    exact W.aret hx hb hr (Or.inl ⟨_, rfl⟩) (Or.inl rfl) (fun t ht hW => ⟨none, rfl, rfl, ht⟩) (fun q h => by cases h) dX0_at_28
  · refine lv_iload_n hx hb dX0_at_4 rfl (lv_at hl 1 rfl) ?_
    refine lv_aload_n hx hb dX0_at_5 rfl (lv_at hl 0 rfl) ?_
    refine va_get (D := D) (ci := 0) (v := .int 0) (C := RX0) (T := TX0) (N := 2) hx hb hts (fun _ h => List.mem_cons_of_mem _ (List.mem_append_right _ h)) hown hK hP 0 rfl rfl 1 (by decide) (hts (.fieldLink RX0 17 "TemplateForge$Book" "told" "I") (List.mem_of_getElem? (i := 1) rfl)) (fun _ h9 => h9) rfl dX0_at_6 ?_
    refine lv_icmp_ge (tgt := 27) hx hb dX0_at_9 (by decide) (fun c_9 => ?_) (fun c_9 => absurd (Int32.not_lt.mp c_1) c_9)
    refine lv_null hx hb dX0_at_27 ?_
    exact W.aret hx hb hr (Or.inl ⟨_, rfl⟩) (Or.inl rfl) (fun t ht hW => ⟨none, rfl, rfl, ht⟩) (fun q h => by cases h) dX0_at_28

def zw_zc_X0_tell : List Cond := .code yX0_tell cX0_tell 3 (some .int) :: ([.fieldLink RX0 17 "TemplateForge$Book" "told" "I", .fieldLink RX0 11 "TemplateForge$Book" "programs" "[LTemplateForge$Program;", .classLink RX0 9 RX8, .instantiable RX8 10, .initialized RX8, .code yX8_init cX8_init 4 none, .methodLink RX8 3 objectInit, .instanceMethod objectInit, .code objectInit ⟨#[0xb1]⟩ 1 none, .classLink RX8 9 RX5, .instantiable RX5 9, .initialized RX5, .code yX5_init cX5_init 1 none, .methodLink RX5 3 objectInit, .arrayClass .int, .fieldLink RX5 9 "TemplateForge$Heat" "first" "[I", .arrayClass .boolean, .fieldLink RX5 15 "TemplateForge$Heat" "same" "[Z", .fieldLink RX5 19 "TemplateForge$Heat" "varying" "[Z", .instanceMethod yX5_init, .fieldLink RX8 12 "TemplateForge$Program" "heat" "LTemplateForge$Heat;", .fieldLink RX8 18 "TemplateForge$Program" "ops" "[I", .fieldLink RX8 22 "TemplateForge$Program" "xs" "[I", .fieldLink RX8 25 "TemplateForge$Program" "depths" "[I", .fieldLink RX8 28 "TemplateForge$Program" "deepest" "I", .fieldLink RX8 32 "TemplateForge$Program" "number" "I", .fieldLink RX8 35 "TemplateForge$Program" "args" "I", .fieldLink RX8 38 "TemplateForge$Program" "locals" "I", .instanceMethod yX8_init, .methodLink RX0 21 yX8_init] ++ wsX00 ++ wsX80 ++ wsX50)
set_option maxRecDepth 100000 in
theorem zg_zc_X0_tell_zc_X8_init : GoodIn zw_zc_X0_tell zw_zc_X8_init := goodIn_r _ [6, 7, 8, 9, 10, 11, 12, 13, 14, 15, 16, 17, 18, 19, 20, 21, 22, 23, 24, 25, 26, 27, 28, 43, 44, 45, 46, 47, 48, 49, 50, 51, 33, 34, 35, 36, 37, 38, 39, 40, 41, 42] (by decide +kernel) (by decide +kernel)
set_option maxHeartbeats 4000000 in
set_option maxRecDepth 100000 in
theorem zc_X0_tell (l : Launch) (D : va_G) (cI cZ cP cF : Nat) (h0 p1 : Nat) (a0 l0 : Int32) (sz : Nat) : Met l yX0_tell zw_zc_X0_tell ({ frames := 3, cells := 8, slots := 232, locals := 55 }) (va_Pc [.ref h0, .int a0, .int l0] (fun U => U.heap.size = sz ∧ va_P D vwCl [(h0, .inr (0, [.ref p1, .int 0])), (p1, .inl (cP, 8, .inr (.inr (.inr (.inr (fun _ => none))))))] U.heap ∧ zE D cI cZ cP cF U ∧ va_D (fun _ => True) [(h0, .inr (0, [.ref p1, .int 0])), (p1, .inl (cP, 8, .inr (.inr (.inr (.inr (fun _ => none))))))])) (va_Qi (fun (r : Int32) (_ : Unit) => r = 0) (fun (_ : Unit) t => va_P D vwCl [] t.heap ∧ va_D (va_A [(h0, .inr (0, [.ref p1, .int 0])), (p1, .inl (cP, 8, .inr (.inr (.inr (.inr (fun _ => none))))))] sz) []) (va_A [(h0, .inr (0, [.ref p1, .int 0])), (p1, .inl (cP, 8, .inr (.inr (.inr (.inr (fun _ => none))))))] sz)) 8 232 (va_A [(h0, .inr (0, [.ref p1, .int 0])), (p1, .inl (cP, 8, .inr (.inr (.inr (.inr (fun _ => none))))))] sz) := by
  refine Met.ofW (cc := cX0_tell) (maxL := 3) (ret := (some .int)) (by decide) rfl ?_
  intro p e s m args below meth c s₁ B hml hv
  obtain ⟨rfl, hsz, hP, hE, hD0⟩ := hv
  have hx := B.exec
  have hb := B.bytes
  have hr := B.returns
  have hts := atoms_spec (ws := zw_zc_X0_tell) B.pre
  have hown : s.vm.findClass RX0 = some m.cls := findClass_of_methodNamed B.named
  have hlocks := B.notSynchronized
  have hK := hE.k
  subst hsz
  have hD := hD0.self (sz := s.heap.size)
  generalize hAe : va_A [(h0, .inr (0, [.ref p1, .int 0])), (p1, .inl (cP, 8, .inr (.inr (.inr (.inr (fun _ => none))))))] s.heap.size = A at hD ⊢
  have hA : ∀ q : Nat, s.heap.size ≤ q → A q := fun q h => by rw [← hAe]; exact Or.inr h
  have hS : va_S A s.heap s.heap [] := va_S.rf
  have hP : va_P D vwCl [(h0, .inr (0, [.ref p1, .int 0])), (p1, .inl (cP, 8, .inr (.inr (.inr (.inr (fun _ => none))))))] s.heap := hP
  have hl := lv_entry ([.ref h0, .int a0, .int l0]) (n := 3) (Nat.le_of_ble_eq_true rfl)
  rw [lg_entry_eq]
  generalize (lg_sl ([.ref h0, .int a0, .int l0]) ++ List.replicate (3 - (lg_sl ([.ref h0, .int a0, .int l0])).length) Slot.unset).toArray = ls at hl ⊢
  have hl : lv_has ls 3 [(0, .ref h0), (1, .int a0), (2, .int l0)] := hl
  refine lv_aload_n hx hb dX0_tell_0 rfl (lv_at hl 0 rfl) ?_
  refine va_get (D := D) (ci := 0) (v := .int 0) (C := RX0) (T := TX0) (N := 2) hx hb hts (fun _ h => List.mem_cons_of_mem _ (List.mem_append_left _ (List.mem_append_left _ (List.mem_append_right _ h)))) hown hK hP 0 rfl rfl 1 (by decide) (hts (.fieldLink RX0 17 "TemplateForge$Book" "told" "I") (List.mem_of_getElem? (i := 1) rfl)) (fun _ h9 => h9) rfl dX0_tell_1 ?_
  refine lv_bipush (v := 8) hx hb dX0_tell_4 (by decide) ?_
  refine lv_icmp_lt (tgt := 12) hx hb dX0_tell_6 (by decide) (fun _ => ?_) (fun c => absurd (by decide) c)
  refine lv_aload_n hx hb dX0_tell_12 rfl (lv_at hl 0 rfl) ?_
  refine va_get (D := D) (ci := 0) (v := .ref p1) (C := RX0) (T := TX0) (N := 2) hx hb hts (fun _ h => List.mem_cons_of_mem _ (List.mem_append_left _ (List.mem_append_left _ (List.mem_append_right _ h)))) hown hK hP 0 rfl rfl 0 (by decide) (hts (.fieldLink RX0 11 "TemplateForge$Book" "programs" "[LTemplateForge$Program;") (List.mem_of_getElem? (i := 2) rfl)) (fun _ h9 => h9) rfl dX0_tell_13 ?_
  refine lv_aload_n hx hb dX0_tell_16 rfl (lv_at hl 0 rfl) ?_
  refine va_get (D := D) (ci := 0) (v := .int 0) (C := RX0) (T := TX0) (N := 2) hx hb hts (fun _ h => List.mem_cons_of_mem _ (List.mem_append_left _ (List.mem_append_left _ (List.mem_append_right _ h)))) hown hK hP 0 rfl rfl 1 (by decide) (hts (.fieldLink RX0 17 "TemplateForge$Book" "told" "I") (List.mem_of_getElem? (i := 1) rfl)) (fun _ h9 => h9) rfl dX0_tell_17 ?_
  refine va_new (ci := 8) (fs := [.int 0, .int 0, .int 0, .null, .null, .null, .null, .int 0, .int 0, .null]) (C := RX8) (T := TX8) (N := 10) hx hb hts (fun _ h => List.mem_cons_of_mem _ (List.mem_append_left _ (List.mem_append_right _ h))) tyX8 tyX8_ok hown (hts (.classLink RX0 9 RX8) (List.mem_of_getElem? (i := 3) rfl)) (hts (.instantiable RX8 10) (List.mem_of_getElem? (i := 4) rfl)) (hts (.initialized RX8) (List.mem_of_getElem? (i := 5) rfl)) hK hP hD hS hA rfl (fun j hj => by rcases (show j = 0 ∨ j = 1 ∨ j = 2 ∨ j = 3 ∨ j = 4 ∨ j = 5 ∨ j = 6 ∨ j = 7 ∨ j = 8 ∨ j = 9 by omega) with rfl | rfl | rfl | rfl | rfl | rfl | rfl | rfl | rfl | rfl <;> rfl) (Nat.le_of_ble_eq_true rfl) (Nat.le_of_ble_eq_true rfl) dX0_tell_20 (fun q1 H hP hD hS => ?_)
  have hP : va_P D vwCl [(h0, .inr (0, [.ref p1, .int 0])), (p1, .inl (cP, 8, .inr (.inr (.inr (.inr (fun _ => none)))))), (q1, .inr (8, [.int 0, .int 0, .int 0, .null, .null, .null, .null, .int 0, .int 0, .null]))] H := hP
  have hD : va_D A [(h0, .inr (0, [.ref p1, .int 0])), (p1, .inl (cP, 8, .inr (.inr (.inr (.inr (fun _ => none)))))), (q1, .inr (8, [.int 0, .int 0, .int 0, .null, .null, .null, .null, .int 0, .int 0, .null]))] := hD
  refine lv_dup hx hb dX0_tell_23 rfl ?_
  refine lv_aload_n hx hb dX0_tell_24 rfl (lv_at hl 0 rfl) ?_
  refine va_get (D := D) (ci := 0) (v := .int 0) (C := RX0) (T := TX0) (N := 2) hx hb hts (fun _ h => List.mem_cons_of_mem _ (List.mem_append_left _ (List.mem_append_left _ (List.mem_append_right _ h)))) hown hK hP 0 rfl rfl 1 (by decide) (hts (.fieldLink RX0 17 "TemplateForge$Book" "told" "I") (List.mem_of_getElem? (i := 1) rfl)) (fun _ h9 => h9) rfl dX0_tell_25 ?_
  refine lv_iload_n hx hb dX0_tell_28 rfl (lv_at hl 1 rfl) ?_
  refine lv_iload_n hx hb dX0_tell_29 rfl (lv_at hl 2 rfl) ?_
  have hPc := hP.sub (ws' := [(q1, .inr (8, [.int 0, .int 0, .int 0, .null, .null, .null, .null, .int 0, .int 0, .null]))]) [2] rfl
  have hDc := hD.sub (ws' := [(q1, .inr (8, [.int 0, .int 0, .int 0, .null, .null, .null, .null, .int 0, .int 0, .null]))]) [2] (by decide) rfl
  have hFc := va_free (wc := [(q1, .inr (8, [.int 0, .int 0, .int 0, .null, .null, .null, .null, .int 0, .int 0, .null]))]) hD hS hA [2] rfl
  refine va_callv (va_runI (As := [.int 0, .int a0, .int l0]) (rest := [.ref q1, .int 0, .ref p1]) ⟨hx, hb, hml, hown, hts⟩ (zc_X8_init l D cI cZ cP cF q1 0 a0 l0 H.size) (cwI 3 hts zg_zc_X0_tell_zc_X8_init rfl rfl rfl (hts (.initialized RX8) (List.mem_of_getElem? (i := 5) rfl)) (hts (.methodLink RX0 21 yX8_init) (List.mem_of_getElem? (i := 30) rfl)) (hts (.instanceMethod yX8_init) (List.mem_of_getElem? (i := 29) rfl)) rfl (by decide +kernel) ⟨Nat.le_of_ble_eq_true rfl, Nat.le_of_ble_eq_true rfl⟩) ⟨zBW, fun U hU hW => ⟨rfl, by rw [hU], by rw [hU]; exact hPc, hE.warm hW, hDc.weaken (fun _ _ _ _ => trivial)⟩⟩ rfl rfl hl.1 rfl (lv_room (Nat.le_of_ble_eq_true rfl)) dX0_tell_30 ⟨Nat.le_of_ble_eq_true rfl, Nat.le_of_ble_eq_true rfl⟩) hS (fun q _ h => hFc q h) hFc (fun u t H1 locs ht hvm h_30_2 hB hz1 hk1 hS => ?_)
  obtain ⟨q3, q4, q5, q6, hP1, hD1⟩ := hB
  rw [ht] at hP1
  obtain ⟨hP, hD⟩ := va_join (wr := [(h0, .inr (0, [.ref p1, .int 0])), (p1, .inl (cP, 8, .inr (.inr (.inr (.inr (fun _ => none))))))]) (w1 := [(q1, .inr (8, [.int 0, .int a0, .int l0, .ref q3, .ref q4, .ref q5, .ref q6, .int 0, .int (-1), .null]))]) hP hD [2] [0, 1] rfl rfl (by decide) (by decide) hk1 hFc hP1 hD1
  generalize H1 = H at hP hS ⊢
  have hP : va_P D vwCl [(h0, .inr (0, [.ref p1, .int 0])), (p1, .inl (cP, 8, .inr (.inr (.inr (.inr (fun _ => none)))))), (q1, .inr (8, [.int 0, .int a0, .int l0, .ref q3, .ref q4, .ref q5, .ref q6, .int 0, .int (-1), .null]))] H := hP
  have hD : va_D A [(h0, .inr (0, [.ref p1, .int 0])), (p1, .inl (cP, 8, .inr (.inr (.inr (.inr (fun _ => none)))))), (q1, .inr (8, [.int 0, .int a0, .int l0, .ref q3, .ref q4, .ref q5, .ref q6, .int 0, .int (-1), .null]))] := hD
  have hin_33 : vp_in 0 8 := by unfold vp_in; decide
  refine va_astq hx hb hK hP hD hS 1 2 2 8 rfl rfl rfl rfl hin_33 dX0_tell_33 (fun H locs hP hD hS => ?_)
  have hP : va_P D vwCl [(h0, .inr (0, [.ref p1, .int 0])), (p1, .inl (cP, 8, .inr (.inr (.inr (.inr (va_up (fun _ => none) (0 : Int32).toNatClampNeg (some q1))))))), (q1, .inr (8, [.int 0, .int a0, .int l0, .ref q3, .ref q4, .ref q5, .ref q6, .int 0, .int (-1), .null]))] H := hP
  have hD : va_D A [(h0, .inr (0, [.ref p1, .int 0])), (p1, .inl (cP, 8, .inr (.inr (.inr (.inr (va_up (fun _ => none) (0 : Int32).toNatClampNeg (some q1))))))), (q1, .inr (8, [.int 0, .int a0, .int l0, .ref q3, .ref q4, .ref q5, .ref q6, .int 0, .int (-1), .null]))] := hD
  refine lv_aload_n hx hb dX0_tell_34 rfl (lv_at hl 0 rfl) ?_
  refine lv_dup hx hb dX0_tell_35 rfl ?_
  refine va_get (D := D) (ci := 0) (v := .int 0) (C := RX0) (T := TX0) (N := 2) hx hb hts (fun _ h => List.mem_cons_of_mem _ (List.mem_append_left _ (List.mem_append_left _ (List.mem_append_right _ h)))) hown hK hP 0 rfl rfl 1 (by decide) (hts (.fieldLink RX0 17 "TemplateForge$Book" "told" "I") (List.mem_of_getElem? (i := 1) rfl)) (fun _ h9 => h9) rfl dX0_tell_36 ?_
  refine lv_iconst (v := 1) hx hb dX0_tell_39 (by decide) ?_
  refine lv_iadd hx hb dX0_tell_40 ?_
  refine lv_topi (fun y_7 e_7 => ?_)
  obtain rfl : y_7 = 1 := by rw [e_7]; decide
  refine va_put (D := D) (ci := 0) (v := .int 1) (ty := .int) (C := RX0) (T := TX0) (N := 2) hx hb hts (fun _ h => List.mem_cons_of_mem _ (List.mem_append_left _ (List.mem_append_left _ (List.mem_append_right _ h)))) tyX0 tyX0_ok nmX0 hown hK hP hD hS 0 rfl rfl 1 (by decide) (hts (.fieldLink RX0 17 "TemplateForge$Book" "told" "I") (List.mem_of_getElem? (i := 1) rfl)) (fun _ h9 => h9) rfl (by decide +kernel) rfl rfl (Nat.le_of_ble_eq_true rfl) dX0_tell_41 (fun H locs hP hD hS => ?_)
  have hP : va_P D vwCl [(h0, .inr (0, [.ref p1, .int 1])), (p1, .inl (cP, 8, .inr (.inr (.inr (.inr (va_up (fun _ => none) (0 : Int32).toNatClampNeg (some q1))))))), (q1, .inr (8, [.int 0, .int a0, .int l0, .ref q3, .ref q4, .ref q5, .ref q6, .int 0, .int (-1), .null]))] H := hP
  have hD : va_D A [(h0, .inr (0, [.ref p1, .int 1])), (p1, .inl (cP, 8, .inr (.inr (.inr (.inr (va_up (fun _ => none) (0 : Int32).toNatClampNeg (some q1))))))), (q1, .inr (8, [.int 0, .int a0, .int l0, .ref q3, .ref q4, .ref q5, .ref q6, .int 0, .int (-1), .null]))] := hD
  refine lv_aload_n hx hb dX0_tell_44 rfl (lv_at hl 0 rfl) ?_
  refine va_get (D := D) (ci := 0) (v := .int 1) (C := RX0) (T := TX0) (N := 2) hx hb hts (fun _ h => List.mem_cons_of_mem _ (List.mem_append_left _ (List.mem_append_left _ (List.mem_append_right _ h)))) hown hK hP 0 rfl rfl 1 (by decide) (hts (.fieldLink RX0 17 "TemplateForge$Book" "told" "I") (List.mem_of_getElem? (i := 1) rfl)) (fun _ h9 => h9) rfl dX0_tell_45 ?_
  refine lv_iconst (v := 1) hx hb dX0_tell_48 (by decide) ?_
  refine lv_isub hx hb dX0_tell_49 ?_
  refine lv_topi (fun y_8 e_8 => ?_)
  obtain rfl : y_8 = 0 := by rw [e_8]; decide
  have hP9 := hP.sub (ws' := []) [] rfl
  have hD9 := hD.sub (ws' := []) [] (by decide) rfl
  refine W.widen (k := 8) (n := 232) (Nat.le_of_ble_eq_true rfl) (Nat.le_of_ble_eq_true rfl) ?_
  exact W.iret (v := 0) hx hb hr (fun t ht hW => ⟨⟨0, (), rfl, rfl, by rw [ht]; exact hP9, hD9⟩, hS.F ht⟩) hS.2.2 dX0_tell_50

def zw_zc_X2_valueOf : List Cond := .code yX2_valueOf cX2_valueOf 2 (some .int) :: ([.fieldLink RX2 9 "TemplateForge$Data" "fields" "[I"] ++ wsX20)
set_option maxHeartbeats 4000000 in
set_option maxRecDepth 100000 in
theorem zc_X2_valueOf (l : Launch) (D : va_G) (cI cZ cP cF : Nat) (h0 p1 p2 p3 : Nat) (k0 : Int32) : Met l yX2_valueOf zw_zc_X2_valueOf ({ frames := 0, cells := 0, slots := 0, locals := 0 }) (va_Pc [.ref h0, .int k0] (fun U => va_P D vwCl [(h0, .inr (2, [.ref p1, .ref p2, .ref p3])), (p1, .inl (cI, 8, .inl (fun _ => 0)))] U.heap ∧ zE D cI cZ cP cF U)) (vp_Si (fun r => r = 0)) 0 0 (fun _ => False) := by
  refine Met.ofW (cc := cX2_valueOf) (maxL := 2) (ret := (some .int)) (by decide) rfl ?_
  intro p e s m args below meth c s₁ B hml hv
  obtain ⟨rfl, hP, hE⟩ := hv
  have hx := B.exec
  have hb := B.bytes
  have hr := B.returns
  have hts := atoms_spec (ws := zw_zc_X2_valueOf) B.pre
  have hown : s.vm.findClass RX2 = some m.cls := findClass_of_methodNamed B.named
  have hlocks := B.notSynchronized
  have hK := hE.k
  have hP : va_P D vwCl [(h0, .inr (2, [.ref p1, .ref p2, .ref p3])), (p1, .inl (cI, 8, .inl (fun _ => 0)))] s.heap := hP
  have hl := lv_entry ([.ref h0, .int k0]) (n := 2) (Nat.le_of_ble_eq_true rfl)
  rw [lg_entry_eq]
  generalize (lg_sl ([.ref h0, .int k0]) ++ List.replicate (2 - (lg_sl ([.ref h0, .int k0])).length) Slot.unset).toArray = ls at hl ⊢
  have hl : lv_has ls 2 [(0, .ref h0), (1, .int k0)] := hl
  refine lv_iload_n hx hb dX2_valueOf_0 rfl (lv_at hl 1 rfl) ?_
  refine lv_if_lt (tgt := 19) hx hb dX2_valueOf_1 (by decide) (fun c_1 => ?_) (fun c_1 => ?_)
  · refine lv_iconst (v := 0) hx hb dX2_valueOf_19 (by decide) ?_
    exact W.iret (v := 0) hx hb hr (fun t ht hW => ⟨0, rfl, rfl, ht⟩) (fun q h => by cases h) dX2_valueOf_20
  · refine lv_iload_n hx hb dX2_valueOf_4 rfl (lv_at hl 1 rfl) ?_
    refine lv_bipush (v := 8) hx hb dX2_valueOf_5 (by decide) ?_
    refine lv_icmp_ge (tgt := 19) hx hb dX2_valueOf_7 (by decide) (fun c_7 => ?_) (fun c_7 => ?_)
    · refine lv_iconst (v := 0) hx hb dX2_valueOf_19 (by decide) ?_
      exact W.iret (v := 0) hx hb hr (fun t ht hW => ⟨0, rfl, rfl, ht⟩) (fun q h => by cases h) dX2_valueOf_20
    · refine lv_aload_n hx hb dX2_valueOf_10 rfl (lv_at hl 0 rfl) ?_
      refine va_get (D := D) (ci := 2) (v := .ref p1) (C := RX2) (T := TX2) (N := 3) hx hb hts (fun _ h => List.mem_cons_of_mem _ (List.mem_append_right _ h)) hown hK hP 0 rfl rfl 0 (by decide) (hts (.fieldLink RX2 9 "TemplateForge$Data" "fields" "[I") (List.mem_of_getElem? (i := 1) rfl)) (fun _ h9 => h9) rfl dX2_valueOf_11 ?_
      refine lv_iload_n hx hb dX2_valueOf_14 rfl (lv_at hl 1 rfl) ?_
      have hin_15 : vp_in k0 8 := z_in (M := 8) (by decide) c_1 c_7
      refine va_iald hx hb hK hP 1 0 rfl rfl hin_15 dX2_valueOf_15 ?_
      refine lv_topi (fun y_2 e_2 => ?_)
      obtain rfl : y_2 = 0 := e_2
      refine lv_goto (tgt := 20) hx hb dX2_valueOf_16 (by decide) ?_
      exact W.iret (v := 0) hx hb hr (fun t ht hW => ⟨0, rfl, rfl, ht⟩) (fun q h => by cases h) dX2_valueOf_20

def zw_zc_X2_put : List Cond := .code yX2_put cX2_put 3 none :: ([.fieldLink RX2 9 "TemplateForge$Data" "fields" "[I"] ++ wsX20)
set_option maxHeartbeats 4000000 in
set_option maxRecDepth 100000 in
theorem zc_X2_put (l : Launch) (D : va_G) (cI cZ cP cF : Nat) (h0 p1 p2 p3 : Nat) (k0 v0 : Int32) (sz : Nat) : Met l yX2_put zw_zc_X2_put ({ frames := 0, cells := 0, slots := 0, locals := 0 }) (va_Pc [.ref h0, .int k0, .int v0] (fun U => U.heap.size = sz ∧ va_P D vwCl [(h0, .inr (2, [.ref p1, .ref p2, .ref p3])), (p1, .inl (cI, 8, .inl (fun _ => 0)))] U.heap ∧ zE D cI cZ cP cF U ∧ va_D (fun _ => True) [(h0, .inr (2, [.ref p1, .ref p2, .ref p3])), (p1, .inl (cI, 8, .inl (fun _ => 0)))])) (va_Qv (fun (_ : Unit) => True) (fun (_ : Unit) t => va_P D vwCl [] t.heap ∧ va_D (va_A [(h0, .inr (2, [.ref p1, .ref p2, .ref p3])), (p1, .inl (cI, 8, .inl (fun _ => 0)))] sz) []) (va_A [(h0, .inr (2, [.ref p1, .ref p2, .ref p3])), (p1, .inl (cI, 8, .inl (fun _ => 0)))] sz)) 0 0 (va_A [(h0, .inr (2, [.ref p1, .ref p2, .ref p3])), (p1, .inl (cI, 8, .inl (fun _ => 0)))] sz) := by
  refine Met.ofW (cc := cX2_put) (maxL := 3) (ret := none) (by decide) rfl ?_
  intro p e s m args below meth c s₁ B hml hv
  obtain ⟨rfl, hsz, hP, hE, hD0⟩ := hv
  have hx := B.exec
  have hb := B.bytes
  have hr := B.returns
  have hts := atoms_spec (ws := zw_zc_X2_put) B.pre
  have hown : s.vm.findClass RX2 = some m.cls := findClass_of_methodNamed B.named
  have hlocks := B.notSynchronized
  have hK := hE.k
  subst hsz
  have hD := hD0.self (sz := s.heap.size)
  generalize hAe : va_A [(h0, .inr (2, [.ref p1, .ref p2, .ref p3])), (p1, .inl (cI, 8, .inl (fun _ => 0)))] s.heap.size = A at hD ⊢
  have hA : ∀ q : Nat, s.heap.size ≤ q → A q := fun q h => by rw [← hAe]; exact Or.inr h
  have hS : va_S A s.heap s.heap [] := va_S.rf
  have hP : va_P D vwCl [(h0, .inr (2, [.ref p1, .ref p2, .ref p3])), (p1, .inl (cI, 8, .inl (fun _ => 0)))] s.heap := hP
  have hl := lv_entry ([.ref h0, .int k0, .int v0]) (n := 3) (Nat.le_of_ble_eq_true rfl)
  rw [lg_entry_eq]
  generalize (lg_sl ([.ref h0, .int k0, .int v0]) ++ List.replicate (3 - (lg_sl ([.ref h0, .int k0, .int v0])).length) Slot.unset).toArray = ls at hl ⊢
  have hl : lv_has ls 3 [(0, .ref h0), (1, .int k0), (2, .int v0)] := hl
  refine lv_iload_n hx hb dX2_put_0 rfl (lv_at hl 1 rfl) ?_
  refine lv_if_lt (tgt := 17) hx hb dX2_put_1 (by decide) (fun c_1 => ?_) (fun c_1 => ?_)
  · have hP9 := hP.sub (ws' := []) [] rfl
    have hD9 := hD.sub (ws' := []) [] (by decide) rfl
    refine W.widen (k := 0) (n := 0) (Nat.le_of_ble_eq_true rfl) (Nat.le_of_ble_eq_true rfl) ?_
    exact W.vret hx hb hr (fun t ht hW => ⟨⟨(), rfl, trivial, by rw [ht]; exact hP9, hD9⟩, hS.F ht⟩) hS.2.2 dX2_put_17
  · refine lv_iload_n hx hb dX2_put_4 rfl (lv_at hl 1 rfl) ?_
    refine lv_bipush (v := 8) hx hb dX2_put_5 (by decide) ?_
    refine lv_icmp_ge (tgt := 17) hx hb dX2_put_7 (by decide) (fun c_7 => ?_) (fun c_7 => ?_)
    · have hP9 := hP.sub (ws' := []) [] rfl
      have hD9 := hD.sub (ws' := []) [] (by decide) rfl
      refine W.widen (k := 0) (n := 0) (Nat.le_of_ble_eq_true rfl) (Nat.le_of_ble_eq_true rfl) ?_
      exact W.vret hx hb hr (fun t ht hW => ⟨⟨(), rfl, trivial, by rw [ht]; exact hP9, hD9⟩, hS.F ht⟩) hS.2.2 dX2_put_17
    · refine lv_aload_n hx hb dX2_put_10 rfl (lv_at hl 0 rfl) ?_
      refine va_get (D := D) (ci := 2) (v := .ref p1) (C := RX2) (T := TX2) (N := 3) hx hb hts (fun _ h => List.mem_cons_of_mem _ (List.mem_append_right _ h)) hown hK hP 0 rfl rfl 0 (by decide) (hts (.fieldLink RX2 9 "TemplateForge$Data" "fields" "[I") (List.mem_of_getElem? (i := 1) rfl)) (fun _ h9 => h9) rfl dX2_put_11 ?_
      refine lv_iload_n hx hb dX2_put_14 rfl (lv_at hl 1 rfl) ?_
      refine lv_iload_n hx hb dX2_put_15 rfl (lv_at hl 2 rfl) ?_
      have hin_16 : vp_in k0 8 := z_in (M := 8) (by decide) c_1 c_7
      refine va_iast hx hb hK hP hD hS 1 0 rfl rfl hin_16 dX2_put_16 (fun H locs hP hD hS => ?_)
      have hP : va_P D vwCl [(h0, .inr (2, [.ref p1, .ref p2, .ref p3])), (p1, .inl (cI, 8, .inl (upd (fun _ => 0) (k0 : Int32).toNatClampNeg v0)))] H := hP
      have hD : va_D A [(h0, .inr (2, [.ref p1, .ref p2, .ref p3])), (p1, .inl (cI, 8, .inl (upd (fun _ => 0) (k0 : Int32).toNatClampNeg v0)))] := hD
      have hP9 := hP.sub (ws' := []) [] rfl
      have hD9 := hD.sub (ws' := []) [] (by decide) rfl
      refine W.widen (k := 0) (n := 0) (Nat.le_of_ble_eq_true rfl) (Nat.le_of_ble_eq_true rfl) ?_
      exact W.vret hx hb hr (fun t ht hW => ⟨⟨(), rfl, trivial, by rw [ht]; exact hP9, hD9⟩, hS.F ht⟩) hS.2.2 dX2_put_17

def zw_zc_X2_lengthOf : List Cond := .code yX2_lengthOf cX2_lengthOf 2 (some .int) :: ([.fieldLink RX2 15 "TemplateForge$Data" "lengths" "[I"] ++ wsX20)
set_option maxHeartbeats 4000000 in
set_option maxRecDepth 100000 in
theorem zc_X2_lengthOf (l : Launch) (D : va_G) (cI cZ cP cF : Nat) (h0 p1 p2 p3 : Nat) (g : Nat → Int32) (k0 : Int32) (hM : zM4 g) : Met l yX2_lengthOf zw_zc_X2_lengthOf ({ frames := 0, cells := 0, slots := 0, locals := 0 }) (va_Pc [.ref h0, .int k0] (fun U => va_P D vwCl [(h0, .inr (2, [.ref p1, .ref p2, .ref p3])), (p2, .inl (cI, 4, .inl g))] U.heap ∧ zE D cI cZ cP cF U)) (vp_Si (fun r => r = -1)) 0 0 (fun _ => False) := by
  refine Met.ofW (cc := cX2_lengthOf) (maxL := 2) (ret := (some .int)) (by decide) rfl ?_
  intro p e s m args below meth c s₁ B hml hv
  obtain ⟨rfl, hP, hE⟩ := hv
  have hx := B.exec
  have hb := B.bytes
  have hr := B.returns
  have hts := atoms_spec (ws := zw_zc_X2_lengthOf) B.pre
  have hown : s.vm.findClass RX2 = some m.cls := findClass_of_methodNamed B.named
  have hlocks := B.notSynchronized
  have hK := hE.k
  have hP : va_P D vwCl [(h0, .inr (2, [.ref p1, .ref p2, .ref p3])), (p2, .inl (cI, 4, .inl g))] s.heap := hP
  have hl := lv_entry ([.ref h0, .int k0]) (n := 2) (Nat.le_of_ble_eq_true rfl)
  rw [lg_entry_eq]
  generalize (lg_sl ([.ref h0, .int k0]) ++ List.replicate (2 - (lg_sl ([.ref h0, .int k0])).length) Slot.unset).toArray = ls at hl ⊢
  have hl : lv_has ls 2 [(0, .ref h0), (1, .int k0)] := hl
  refine lv_iload_n hx hb dX2_lengthOf_0 rfl (lv_at hl 1 rfl) ?_
  refine lv_if_lt (tgt := 18) hx hb dX2_lengthOf_1 (by decide) (fun c_1 => ?_) (fun c_1 => ?_)
  · refine lv_iconst (v := (-1)) hx hb dX2_lengthOf_18 (by decide) ?_
    exact W.iret (v := (-1)) hx hb hr (fun t ht hW => ⟨(-1), rfl, rfl, ht⟩) (fun q h => by cases h) dX2_lengthOf_19
  · refine lv_iload_n hx hb dX2_lengthOf_4 rfl (lv_at hl 1 rfl) ?_
    refine lv_iconst (v := 4) hx hb dX2_lengthOf_5 (by decide) ?_
    refine lv_icmp_ge (tgt := 18) hx hb dX2_lengthOf_6 (by decide) (fun c_6 => ?_) (fun c_6 => ?_)
    · refine lv_iconst (v := (-1)) hx hb dX2_lengthOf_18 (by decide) ?_
      exact W.iret (v := (-1)) hx hb hr (fun t ht hW => ⟨(-1), rfl, rfl, ht⟩) (fun q h => by cases h) dX2_lengthOf_19
    · refine lv_aload_n hx hb dX2_lengthOf_9 rfl (lv_at hl 0 rfl) ?_
      refine va_get (D := D) (ci := 2) (v := .ref p2) (C := RX2) (T := TX2) (N := 3) hx hb hts (fun _ h => List.mem_cons_of_mem _ (List.mem_append_right _ h)) hown hK hP 0 rfl rfl 1 (by decide) (hts (.fieldLink RX2 15 "TemplateForge$Data" "lengths" "[I") (List.mem_of_getElem? (i := 1) rfl)) (fun _ h9 => h9) rfl dX2_lengthOf_10 ?_
      refine lv_iload_n hx hb dX2_lengthOf_13 rfl (lv_at hl 1 rfl) ?_
      have hin_14 : vp_in k0 4 := z_in (M := 4) (by decide) c_1 c_6
      refine va_iald hx hb hK hP 1 0 rfl rfl hin_14 dX2_lengthOf_14 ?_
      refine lv_topi (fun y_2 e_2 => ?_)
      obtain rfl : y_2 = -1 := by rw [e_2]; exact hM _ (Nat.not_le.mp (fun q => hin_14 (Or.inr q)))
      refine lv_goto (tgt := 19) hx hb dX2_lengthOf_15 (by decide) ?_
      exact W.iret (v := (-1)) hx hb hr (fun t ht hW => ⟨(-1), rfl, rfl, ht⟩) (fun q h => by cases h) dX2_lengthOf_19

def zw_zc_X2_itemOf : List Cond := .code yX2_itemOf cX2_itemOf 3 (some .int) :: ([.code yX2_lengthOf cX2_lengthOf 2 (some .int), .fieldLink RX2 15 "TemplateForge$Data" "lengths" "[I", .methodLink RX2 30 yX2_lengthOf, .instanceMethod yX2_lengthOf, .selects RX2 yX2_lengthOf yX2_lengthOf, .initialized RX2] ++ wsX20)
set_option maxRecDepth 100000 in
theorem zg_zc_X2_itemOf_zc_X2_lengthOf : GoodIn zw_zc_X2_itemOf (wsV RX2 30 RX2 yX2_lengthOf zw_zc_X2_lengthOf) := goodIn_r _ [3, 4, 5, 6, 1, 2, 7, 8, 9] (by decide +kernel) (by decide +kernel)
set_option maxHeartbeats 4000000 in
set_option maxRecDepth 100000 in
theorem zc_X2_itemOf (l : Launch) (D : va_G) (cI cZ cP cF : Nat) (h0 p1 p2 p3 : Nat) (g : Nat → Int32) (r0 i0 : Int32) (hM : zM4 g) : Met l yX2_itemOf zw_zc_X2_itemOf ({ frames := 1, cells := 0, slots := 0, locals := 21 }) (va_Pc [.ref h0, .int r0, .int i0] (fun U => va_P D vwCl [(h0, .inr (2, [.ref p1, .ref p2, .ref p3])), (p2, .inl (cI, 4, .inl g))] U.heap ∧ zE D cI cZ cP cF U)) (vp_Si (fun r => r = 0)) 0 0 (fun _ => False) := by
  refine Met.ofW (cc := cX2_itemOf) (maxL := 3) (ret := (some .int)) (by decide) rfl ?_
  intro p e s m args below meth c s₁ B hml hv
  obtain ⟨rfl, hP, hE⟩ := hv
  have hx := B.exec
  have hb := B.bytes
  have hr := B.returns
  have hts := atoms_spec (ws := zw_zc_X2_itemOf) B.pre
  have hown : s.vm.findClass RX2 = some m.cls := findClass_of_methodNamed B.named
  have hlocks := B.notSynchronized
  have hK := hE.k
  have hP : va_P D vwCl [(h0, .inr (2, [.ref p1, .ref p2, .ref p3])), (p2, .inl (cI, 4, .inl g))] s.heap := hP
  have hl := lv_entry ([.ref h0, .int r0, .int i0]) (n := 3) (Nat.le_of_ble_eq_true rfl)
  rw [lg_entry_eq]
  generalize (lg_sl ([.ref h0, .int r0, .int i0]) ++ List.replicate (3 - (lg_sl ([.ref h0, .int r0, .int i0])).length) Slot.unset).toArray = ls at hl ⊢
  have hl : lv_has ls 3 [(0, .ref h0), (1, .int r0), (2, .int i0)] := hl
  refine lv_iload_n hx hb dX2_itemOf_0 rfl (lv_at hl 2 rfl) ?_
  refine lv_if_lt (tgt := 33) hx hb dX2_itemOf_1 (by decide) (fun c_1 => ?_) (fun c_1 => ?_)
  · refine lv_iconst (v := 0) hx hb dX2_itemOf_33 (by decide) ?_
    exact W.iret (v := 0) hx hb hr (fun t ht hW => ⟨0, rfl, rfl, ht⟩) (fun q h => by cases h) dX2_itemOf_34
  · refine lv_iload_n hx hb dX2_itemOf_4 rfl (lv_at hl 2 rfl) ?_
    refine lv_aload_n hx hb dX2_itemOf_5 rfl (lv_at hl 0 rfl) ?_
    refine lv_iload_n hx hb dX2_itemOf_6 rfl (lv_at hl 1 rfl) ?_
    have hPc := hP.sub (ws' := [(h0, .inr (2, [.ref p1, .ref p2, .ref p3])), (p2, .inl (cI, 4, .inl g))]) [0, 1] rfl
    refine vp_callSi (va_Run.run (va_runV (As := [.int r0]) (rest := [.int i0]) ⟨hx, hb, hml, hown, hts⟩ (zc_X2_lengthOf l D cI cZ cP cF h0 p1 p2 p3 g r0 hM) (cwV 1 hts zg_zc_X2_itemOf_zc_X2_lengthOf rfl rfl rfl (by decide +kernel) ⟨Nat.le_of_ble_eq_true rfl, Nat.le_of_ble_eq_true rfl⟩) ⟨zBR, va_recv hK hPc (ci := 2) (q0 := 0) rfl rfl, fun U hU hW => ⟨rfl, by rw [hU]; exact hPc, hE.warm hW⟩⟩ rfl rfl hl.1 rfl (lv_room (Nat.le_of_ble_eq_true rfl)) dX2_itemOf_7 ⟨Nat.le_of_ble_eq_true rfl, Nat.le_of_ble_eq_true rfl⟩)) (fun r_7_1 h_7_1 => ?_)
    obtain rfl : r_7_1 = (-1) := h_7_1
    refine lv_icmp_ge (tgt := 33) hx hb dX2_itemOf_10 (by decide) (fun c_10 => ?_) (fun c_10 => absurd (z_m1 c_1) c_10)
    refine lv_iconst (v := 0) hx hb dX2_itemOf_33 (by decide) ?_
    exact W.iret (v := 0) hx hb hr (fun t ht hW => ⟨0, rfl, rfl, ht⟩) (fun q h => by cases h) dX2_itemOf_34

def zw_zc_X2_mixedInto : List Cond := .code yX2_mixedInto cX2_mixedInto 5 (some .long) :: ([.constantLong RX2 34 (31), .code yX2_valueOf cX2_valueOf 2 (some .int), .fieldLink RX2 9 "TemplateForge$Data" "fields" "[I", .methodLink RX2 36 yX2_valueOf, .instanceMethod yX2_valueOf, .selects RX2 yX2_valueOf yX2_valueOf, .initialized RX2, .code yX2_lengthOf cX2_lengthOf 2 (some .int), .fieldLink RX2 15 "TemplateForge$Data" "lengths" "[I", .methodLink RX2 30 yX2_lengthOf, .instanceMethod yX2_lengthOf, .selects RX2 yX2_lengthOf yX2_lengthOf] ++ wsX20)
set_option maxRecDepth 100000 in
theorem zg_zc_X2_mixedInto_zc_X2_valueOf : GoodIn zw_zc_X2_mixedInto (wsV RX2 36 RX2 yX2_valueOf zw_zc_X2_valueOf) := goodIn_r _ [4, 5, 6, 7, 2, 3, 13, 14, 15] (by decide +kernel) (by decide +kernel)
set_option maxRecDepth 100000 in
theorem zg_zc_X2_mixedInto_zc_X2_lengthOf : GoodIn zw_zc_X2_mixedInto (wsV RX2 30 RX2 yX2_lengthOf zw_zc_X2_lengthOf) := goodIn_r _ [10, 11, 12, 7, 8, 9, 13, 14, 15] (by decide +kernel) (by decide +kernel)
set_option maxHeartbeats 4000000 in
set_option maxRecDepth 100000 in
theorem zc_X2_mixedInto (l : Launch) (D : va_G) (cI cZ cP cF : Nat) (h0 p1 p2 p3 : Nat) (g : Nat → Int32) (hM : zM4 g) : Met l yX2_mixedInto zw_zc_X2_mixedInto ({ frames := 1, cells := 0, slots := 0, locals := 21 }) (va_Pc [.ref h0, .long 17] (fun U => va_P D vwCl [(h0, .inr (2, [.ref p1, .ref p2, .ref p3])), (p1, .inl (cI, 8, .inl (fun _ => 0))), (p2, .inl (cI, 4, .inl g))] U.heap ∧ zE D cI cZ cP cF U)) (vp_Sl (fun r => r = (-5056476749304236463))) 0 0 (fun _ => False) := by
  refine Met.ofW (cc := cX2_mixedInto) (maxL := 5) (ret := (some .long)) (by decide) rfl ?_
  intro p e s m args below meth c s₁ B hml hv
  obtain ⟨rfl, hP, hE⟩ := hv
  have hx := B.exec
  have hb := B.bytes
  have hr := B.returns
  have hts := atoms_spec (ws := zw_zc_X2_mixedInto) B.pre
  have hown : s.vm.findClass RX2 = some m.cls := findClass_of_methodNamed B.named
  have hlocks := B.notSynchronized
  have hK := hE.k
  have hP : va_P D vwCl [(h0, .inr (2, [.ref p1, .ref p2, .ref p3])), (p1, .inl (cI, 8, .inl (fun _ => 0))), (p2, .inl (cI, 4, .inl g))] s.heap := hP
  have hl := lv_entry ([.ref h0, .long 17]) (n := 5) (Nat.le_of_ble_eq_true rfl)
  rw [lg_entry_eq]
  generalize (lg_sl ([.ref h0, .long 17]) ++ List.replicate (5 - (lg_sl ([.ref h0, .long 17])).length) Slot.unset).toArray = ls at hl ⊢
  have hl : lv_has ls 5 [(0, .ref h0), (1, .long 17)] := hl
  refine lv_iconst (v := 0) hx hb dX2_mixedInto_0 (by decide) ?_
  refine lv_istore_n (lv' := [(3, .int 0), (0, .ref h0), (1, .long 17)]) hx hb dX2_mixedInto_1 rfl hl (by decide) rfl (fun ls hl => ?_)
  refine lv_iload_n hx hb dX2_mixedInto_2 rfl (lv_at hl 0 rfl) ?_
  refine lv_bipush (v := 8) hx hb dX2_mixedInto_3 (by decide) ?_
  refine lv_icmp_ge (tgt := 27) hx hb dX2_mixedInto_5 (by decide) (fun c => absurd c (by decide)) (fun _ => ?_)
  refine lv_ldc2 hx hb hown (hts (.constantLong RX2 34 (31)) (List.mem_of_getElem? (i := 1) rfl)) dX2_mixedInto_8 ?_
  refine lv_lload_n hx hb dX2_mixedInto_11 rfl (lv_at hl 2 rfl) ?_
  refine lv_lmul hx hb dX2_mixedInto_12 ?_
  refine lv_topl (fun y_1 e_1 => ?_)
  obtain rfl : y_1 = 527 := by rw [e_1]; decide +kernel
  refine lv_aload_n hx hb dX2_mixedInto_13 rfl (lv_at hl 1 rfl) ?_
  refine lv_iload_n hx hb dX2_mixedInto_14 rfl (lv_at hl 0 rfl) ?_
  have hPc := hP.sub (ws' := [(h0, .inr (2, [.ref p1, .ref p2, .ref p3])), (p1, .inl (cI, 8, .inl (fun _ => 0)))]) [0, 1] rfl
  refine vp_callSi (va_Run.run (va_runV (As := [.int 0]) (rest := [.long 527]) ⟨hx, hb, hml, hown, hts⟩ (zc_X2_valueOf l D cI cZ cP cF h0 p1 p2 p3 0) (cwV 1 hts zg_zc_X2_mixedInto_zc_X2_valueOf rfl rfl rfl (by decide +kernel) ⟨Nat.le_of_ble_eq_true rfl, Nat.le_of_ble_eq_true rfl⟩) ⟨zBR, va_recv hK hPc (ci := 2) (q0 := 0) rfl rfl, fun U hU hW => ⟨rfl, by rw [hU]; exact hPc, hE.warm hW⟩⟩ rfl rfl hl.1 rfl (lv_room (Nat.le_of_ble_eq_true rfl)) dX2_mixedInto_15 ⟨Nat.le_of_ble_eq_true rfl, Nat.le_of_ble_eq_true rfl⟩)) (fun r_15_2 h_15_2 => ?_)
  obtain rfl : r_15_2 = 0 := h_15_2
  refine lv_i2l (v := 0) hx hb dX2_mixedInto_18 (by decide) ?_
  refine lv_ladd hx hb dX2_mixedInto_19 ?_
  refine lv_topl (fun y_3 e_3 => ?_)
  obtain rfl : y_3 = 527 := by rw [e_3]; decide +kernel
  refine lv_lstore_n (lv' := [(1, .long 527), (3, .int 0), (0, .ref h0)]) hx hb dX2_mixedInto_20 rfl hl (by decide) rfl (fun ls hl => ?_)
  refine lv_iinc (v := 1) (lv' := [(3, .int 1), (1, .long 527), (0, .ref h0)]) hx hb dX2_mixedInto_21 hl (k := 1) rfl (by decide) (by decide) rfl (fun ls hl => ?_)
  refine lv_goto (tgt := 2) hx hb dX2_mixedInto_24 (by decide) ?_
  refine lv_iload_n hx hb dX2_mixedInto_2 rfl (lv_at hl 0 rfl) ?_
  refine lv_bipush (v := 8) hx hb dX2_mixedInto_3 (by decide) ?_
  refine lv_icmp_ge (tgt := 27) hx hb dX2_mixedInto_5 (by decide) (fun c => absurd c (by decide)) (fun _ => ?_)
  refine lv_ldc2 hx hb hown (hts (.constantLong RX2 34 (31)) (List.mem_of_getElem? (i := 1) rfl)) dX2_mixedInto_8 ?_
  refine lv_lload_n hx hb dX2_mixedInto_11 rfl (lv_at hl 1 rfl) ?_
  refine lv_lmul hx hb dX2_mixedInto_12 ?_
  refine lv_topl (fun y_4 e_4 => ?_)
  obtain rfl : y_4 = 16337 := by rw [e_4]; decide +kernel
  refine lv_aload_n hx hb dX2_mixedInto_13 rfl (lv_at hl 2 rfl) ?_
  refine lv_iload_n hx hb dX2_mixedInto_14 rfl (lv_at hl 0 rfl) ?_
  have hPc := hP.sub (ws' := [(h0, .inr (2, [.ref p1, .ref p2, .ref p3])), (p1, .inl (cI, 8, .inl (fun _ => 0)))]) [0, 1] rfl
  refine vp_callSi (va_Run.run (va_runV (As := [.int 1]) (rest := [.long 16337]) ⟨hx, hb, hml, hown, hts⟩ (zc_X2_valueOf l D cI cZ cP cF h0 p1 p2 p3 1) (cwV 1 hts zg_zc_X2_mixedInto_zc_X2_valueOf rfl rfl rfl (by decide +kernel) ⟨Nat.le_of_ble_eq_true rfl, Nat.le_of_ble_eq_true rfl⟩) ⟨zBR, va_recv hK hPc (ci := 2) (q0 := 0) rfl rfl, fun U hU hW => ⟨rfl, by rw [hU]; exact hPc, hE.warm hW⟩⟩ rfl rfl hl.1 rfl (lv_room (Nat.le_of_ble_eq_true rfl)) dX2_mixedInto_15 ⟨Nat.le_of_ble_eq_true rfl, Nat.le_of_ble_eq_true rfl⟩)) (fun r_15_5 h_15_5 => ?_)
  obtain rfl : r_15_5 = 0 := h_15_5
  refine lv_i2l (v := 0) hx hb dX2_mixedInto_18 (by decide) ?_
  refine lv_ladd hx hb dX2_mixedInto_19 ?_
  refine lv_topl (fun y_6 e_6 => ?_)
  obtain rfl : y_6 = 16337 := by rw [e_6]; decide +kernel
  refine lv_lstore_n (lv' := [(1, .long 16337), (3, .int 1), (0, .ref h0)]) hx hb dX2_mixedInto_20 rfl hl (by decide) rfl (fun ls hl => ?_)
  refine lv_iinc (v := 2) (lv' := [(3, .int 2), (1, .long 16337), (0, .ref h0)]) hx hb dX2_mixedInto_21 hl (k := 1) rfl (by decide) (by decide) rfl (fun ls hl => ?_)
  refine lv_goto (tgt := 2) hx hb dX2_mixedInto_24 (by decide) ?_
  refine lv_iload_n hx hb dX2_mixedInto_2 rfl (lv_at hl 0 rfl) ?_
  refine lv_bipush (v := 8) hx hb dX2_mixedInto_3 (by decide) ?_
  refine lv_icmp_ge (tgt := 27) hx hb dX2_mixedInto_5 (by decide) (fun c => absurd c (by decide)) (fun _ => ?_)
  refine lv_ldc2 hx hb hown (hts (.constantLong RX2 34 (31)) (List.mem_of_getElem? (i := 1) rfl)) dX2_mixedInto_8 ?_
  refine lv_lload_n hx hb dX2_mixedInto_11 rfl (lv_at hl 1 rfl) ?_
  refine lv_lmul hx hb dX2_mixedInto_12 ?_
  refine lv_topl (fun y_7 e_7 => ?_)
  obtain rfl : y_7 = 506447 := by rw [e_7]; decide +kernel
  refine lv_aload_n hx hb dX2_mixedInto_13 rfl (lv_at hl 2 rfl) ?_
  refine lv_iload_n hx hb dX2_mixedInto_14 rfl (lv_at hl 0 rfl) ?_
  have hPc := hP.sub (ws' := [(h0, .inr (2, [.ref p1, .ref p2, .ref p3])), (p1, .inl (cI, 8, .inl (fun _ => 0)))]) [0, 1] rfl
  refine vp_callSi (va_Run.run (va_runV (As := [.int 2]) (rest := [.long 506447]) ⟨hx, hb, hml, hown, hts⟩ (zc_X2_valueOf l D cI cZ cP cF h0 p1 p2 p3 2) (cwV 1 hts zg_zc_X2_mixedInto_zc_X2_valueOf rfl rfl rfl (by decide +kernel) ⟨Nat.le_of_ble_eq_true rfl, Nat.le_of_ble_eq_true rfl⟩) ⟨zBR, va_recv hK hPc (ci := 2) (q0 := 0) rfl rfl, fun U hU hW => ⟨rfl, by rw [hU]; exact hPc, hE.warm hW⟩⟩ rfl rfl hl.1 rfl (lv_room (Nat.le_of_ble_eq_true rfl)) dX2_mixedInto_15 ⟨Nat.le_of_ble_eq_true rfl, Nat.le_of_ble_eq_true rfl⟩)) (fun r_15_8 h_15_8 => ?_)
  obtain rfl : r_15_8 = 0 := h_15_8
  refine lv_i2l (v := 0) hx hb dX2_mixedInto_18 (by decide) ?_
  refine lv_ladd hx hb dX2_mixedInto_19 ?_
  refine lv_topl (fun y_9 e_9 => ?_)
  obtain rfl : y_9 = 506447 := by rw [e_9]; decide +kernel
  refine lv_lstore_n (lv' := [(1, .long 506447), (3, .int 2), (0, .ref h0)]) hx hb dX2_mixedInto_20 rfl hl (by decide) rfl (fun ls hl => ?_)
  refine lv_iinc (v := 3) (lv' := [(3, .int 3), (1, .long 506447), (0, .ref h0)]) hx hb dX2_mixedInto_21 hl (k := 1) rfl (by decide) (by decide) rfl (fun ls hl => ?_)
  refine lv_goto (tgt := 2) hx hb dX2_mixedInto_24 (by decide) ?_
  refine lv_iload_n hx hb dX2_mixedInto_2 rfl (lv_at hl 0 rfl) ?_
  refine lv_bipush (v := 8) hx hb dX2_mixedInto_3 (by decide) ?_
  refine lv_icmp_ge (tgt := 27) hx hb dX2_mixedInto_5 (by decide) (fun c => absurd c (by decide)) (fun _ => ?_)
  refine lv_ldc2 hx hb hown (hts (.constantLong RX2 34 (31)) (List.mem_of_getElem? (i := 1) rfl)) dX2_mixedInto_8 ?_
  refine lv_lload_n hx hb dX2_mixedInto_11 rfl (lv_at hl 1 rfl) ?_
  refine lv_lmul hx hb dX2_mixedInto_12 ?_
  refine lv_topl (fun y_10 e_10 => ?_)
  obtain rfl : y_10 = 15699857 := by rw [e_10]; decide +kernel
  refine lv_aload_n hx hb dX2_mixedInto_13 rfl (lv_at hl 2 rfl) ?_
  refine lv_iload_n hx hb dX2_mixedInto_14 rfl (lv_at hl 0 rfl) ?_
  have hPc := hP.sub (ws' := [(h0, .inr (2, [.ref p1, .ref p2, .ref p3])), (p1, .inl (cI, 8, .inl (fun _ => 0)))]) [0, 1] rfl
  refine vp_callSi (va_Run.run (va_runV (As := [.int 3]) (rest := [.long 15699857]) ⟨hx, hb, hml, hown, hts⟩ (zc_X2_valueOf l D cI cZ cP cF h0 p1 p2 p3 3) (cwV 1 hts zg_zc_X2_mixedInto_zc_X2_valueOf rfl rfl rfl (by decide +kernel) ⟨Nat.le_of_ble_eq_true rfl, Nat.le_of_ble_eq_true rfl⟩) ⟨zBR, va_recv hK hPc (ci := 2) (q0 := 0) rfl rfl, fun U hU hW => ⟨rfl, by rw [hU]; exact hPc, hE.warm hW⟩⟩ rfl rfl hl.1 rfl (lv_room (Nat.le_of_ble_eq_true rfl)) dX2_mixedInto_15 ⟨Nat.le_of_ble_eq_true rfl, Nat.le_of_ble_eq_true rfl⟩)) (fun r_15_11 h_15_11 => ?_)
  obtain rfl : r_15_11 = 0 := h_15_11
  refine lv_i2l (v := 0) hx hb dX2_mixedInto_18 (by decide) ?_
  refine lv_ladd hx hb dX2_mixedInto_19 ?_
  refine lv_topl (fun y_12 e_12 => ?_)
  obtain rfl : y_12 = 15699857 := by rw [e_12]; decide +kernel
  refine lv_lstore_n (lv' := [(1, .long 15699857), (3, .int 3), (0, .ref h0)]) hx hb dX2_mixedInto_20 rfl hl (by decide) rfl (fun ls hl => ?_)
  refine lv_iinc (v := 4) (lv' := [(3, .int 4), (1, .long 15699857), (0, .ref h0)]) hx hb dX2_mixedInto_21 hl (k := 1) rfl (by decide) (by decide) rfl (fun ls hl => ?_)
  refine lv_goto (tgt := 2) hx hb dX2_mixedInto_24 (by decide) ?_
  refine lv_iload_n hx hb dX2_mixedInto_2 rfl (lv_at hl 0 rfl) ?_
  refine lv_bipush (v := 8) hx hb dX2_mixedInto_3 (by decide) ?_
  refine lv_icmp_ge (tgt := 27) hx hb dX2_mixedInto_5 (by decide) (fun c => absurd c (by decide)) (fun _ => ?_)
  refine lv_ldc2 hx hb hown (hts (.constantLong RX2 34 (31)) (List.mem_of_getElem? (i := 1) rfl)) dX2_mixedInto_8 ?_
  refine lv_lload_n hx hb dX2_mixedInto_11 rfl (lv_at hl 1 rfl) ?_
  refine lv_lmul hx hb dX2_mixedInto_12 ?_
  refine lv_topl (fun y_13 e_13 => ?_)
  obtain rfl : y_13 = 486695567 := by rw [e_13]; decide +kernel
  refine lv_aload_n hx hb dX2_mixedInto_13 rfl (lv_at hl 2 rfl) ?_
  refine lv_iload_n hx hb dX2_mixedInto_14 rfl (lv_at hl 0 rfl) ?_
  have hPc := hP.sub (ws' := [(h0, .inr (2, [.ref p1, .ref p2, .ref p3])), (p1, .inl (cI, 8, .inl (fun _ => 0)))]) [0, 1] rfl
  refine vp_callSi (va_Run.run (va_runV (As := [.int 4]) (rest := [.long 486695567]) ⟨hx, hb, hml, hown, hts⟩ (zc_X2_valueOf l D cI cZ cP cF h0 p1 p2 p3 4) (cwV 1 hts zg_zc_X2_mixedInto_zc_X2_valueOf rfl rfl rfl (by decide +kernel) ⟨Nat.le_of_ble_eq_true rfl, Nat.le_of_ble_eq_true rfl⟩) ⟨zBR, va_recv hK hPc (ci := 2) (q0 := 0) rfl rfl, fun U hU hW => ⟨rfl, by rw [hU]; exact hPc, hE.warm hW⟩⟩ rfl rfl hl.1 rfl (lv_room (Nat.le_of_ble_eq_true rfl)) dX2_mixedInto_15 ⟨Nat.le_of_ble_eq_true rfl, Nat.le_of_ble_eq_true rfl⟩)) (fun r_15_14 h_15_14 => ?_)
  obtain rfl : r_15_14 = 0 := h_15_14
  refine lv_i2l (v := 0) hx hb dX2_mixedInto_18 (by decide) ?_
  refine lv_ladd hx hb dX2_mixedInto_19 ?_
  refine lv_topl (fun y_15 e_15 => ?_)
  obtain rfl : y_15 = 486695567 := by rw [e_15]; decide +kernel
  refine lv_lstore_n (lv' := [(1, .long 486695567), (3, .int 4), (0, .ref h0)]) hx hb dX2_mixedInto_20 rfl hl (by decide) rfl (fun ls hl => ?_)
  refine lv_iinc (v := 5) (lv' := [(3, .int 5), (1, .long 486695567), (0, .ref h0)]) hx hb dX2_mixedInto_21 hl (k := 1) rfl (by decide) (by decide) rfl (fun ls hl => ?_)
  refine lv_goto (tgt := 2) hx hb dX2_mixedInto_24 (by decide) ?_
  refine lv_iload_n hx hb dX2_mixedInto_2 rfl (lv_at hl 0 rfl) ?_
  refine lv_bipush (v := 8) hx hb dX2_mixedInto_3 (by decide) ?_
  refine lv_icmp_ge (tgt := 27) hx hb dX2_mixedInto_5 (by decide) (fun c => absurd c (by decide)) (fun _ => ?_)
  refine lv_ldc2 hx hb hown (hts (.constantLong RX2 34 (31)) (List.mem_of_getElem? (i := 1) rfl)) dX2_mixedInto_8 ?_
  refine lv_lload_n hx hb dX2_mixedInto_11 rfl (lv_at hl 1 rfl) ?_
  refine lv_lmul hx hb dX2_mixedInto_12 ?_
  refine lv_topl (fun y_16 e_16 => ?_)
  obtain rfl : y_16 = 15087562577 := by rw [e_16]; decide +kernel
  refine lv_aload_n hx hb dX2_mixedInto_13 rfl (lv_at hl 2 rfl) ?_
  refine lv_iload_n hx hb dX2_mixedInto_14 rfl (lv_at hl 0 rfl) ?_
  have hPc := hP.sub (ws' := [(h0, .inr (2, [.ref p1, .ref p2, .ref p3])), (p1, .inl (cI, 8, .inl (fun _ => 0)))]) [0, 1] rfl
  refine vp_callSi (va_Run.run (va_runV (As := [.int 5]) (rest := [.long 15087562577]) ⟨hx, hb, hml, hown, hts⟩ (zc_X2_valueOf l D cI cZ cP cF h0 p1 p2 p3 5) (cwV 1 hts zg_zc_X2_mixedInto_zc_X2_valueOf rfl rfl rfl (by decide +kernel) ⟨Nat.le_of_ble_eq_true rfl, Nat.le_of_ble_eq_true rfl⟩) ⟨zBR, va_recv hK hPc (ci := 2) (q0 := 0) rfl rfl, fun U hU hW => ⟨rfl, by rw [hU]; exact hPc, hE.warm hW⟩⟩ rfl rfl hl.1 rfl (lv_room (Nat.le_of_ble_eq_true rfl)) dX2_mixedInto_15 ⟨Nat.le_of_ble_eq_true rfl, Nat.le_of_ble_eq_true rfl⟩)) (fun r_15_17 h_15_17 => ?_)
  obtain rfl : r_15_17 = 0 := h_15_17
  refine lv_i2l (v := 0) hx hb dX2_mixedInto_18 (by decide) ?_
  refine lv_ladd hx hb dX2_mixedInto_19 ?_
  refine lv_topl (fun y_18 e_18 => ?_)
  obtain rfl : y_18 = 15087562577 := by rw [e_18]; decide +kernel
  refine lv_lstore_n (lv' := [(1, .long 15087562577), (3, .int 5), (0, .ref h0)]) hx hb dX2_mixedInto_20 rfl hl (by decide) rfl (fun ls hl => ?_)
  refine lv_iinc (v := 6) (lv' := [(3, .int 6), (1, .long 15087562577), (0, .ref h0)]) hx hb dX2_mixedInto_21 hl (k := 1) rfl (by decide) (by decide) rfl (fun ls hl => ?_)
  refine lv_goto (tgt := 2) hx hb dX2_mixedInto_24 (by decide) ?_
  refine lv_iload_n hx hb dX2_mixedInto_2 rfl (lv_at hl 0 rfl) ?_
  refine lv_bipush (v := 8) hx hb dX2_mixedInto_3 (by decide) ?_
  refine lv_icmp_ge (tgt := 27) hx hb dX2_mixedInto_5 (by decide) (fun c => absurd c (by decide)) (fun _ => ?_)
  refine lv_ldc2 hx hb hown (hts (.constantLong RX2 34 (31)) (List.mem_of_getElem? (i := 1) rfl)) dX2_mixedInto_8 ?_
  refine lv_lload_n hx hb dX2_mixedInto_11 rfl (lv_at hl 1 rfl) ?_
  refine lv_lmul hx hb dX2_mixedInto_12 ?_
  refine lv_topl (fun y_19 e_19 => ?_)
  obtain rfl : y_19 = 467714439887 := by rw [e_19]; decide +kernel
  refine lv_aload_n hx hb dX2_mixedInto_13 rfl (lv_at hl 2 rfl) ?_
  refine lv_iload_n hx hb dX2_mixedInto_14 rfl (lv_at hl 0 rfl) ?_
  have hPc := hP.sub (ws' := [(h0, .inr (2, [.ref p1, .ref p2, .ref p3])), (p1, .inl (cI, 8, .inl (fun _ => 0)))]) [0, 1] rfl
  refine vp_callSi (va_Run.run (va_runV (As := [.int 6]) (rest := [.long 467714439887]) ⟨hx, hb, hml, hown, hts⟩ (zc_X2_valueOf l D cI cZ cP cF h0 p1 p2 p3 6) (cwV 1 hts zg_zc_X2_mixedInto_zc_X2_valueOf rfl rfl rfl (by decide +kernel) ⟨Nat.le_of_ble_eq_true rfl, Nat.le_of_ble_eq_true rfl⟩) ⟨zBR, va_recv hK hPc (ci := 2) (q0 := 0) rfl rfl, fun U hU hW => ⟨rfl, by rw [hU]; exact hPc, hE.warm hW⟩⟩ rfl rfl hl.1 rfl (lv_room (Nat.le_of_ble_eq_true rfl)) dX2_mixedInto_15 ⟨Nat.le_of_ble_eq_true rfl, Nat.le_of_ble_eq_true rfl⟩)) (fun r_15_20 h_15_20 => ?_)
  obtain rfl : r_15_20 = 0 := h_15_20
  refine lv_i2l (v := 0) hx hb dX2_mixedInto_18 (by decide) ?_
  refine lv_ladd hx hb dX2_mixedInto_19 ?_
  refine lv_topl (fun y_21 e_21 => ?_)
  obtain rfl : y_21 = 467714439887 := by rw [e_21]; decide +kernel
  refine lv_lstore_n (lv' := [(1, .long 467714439887), (3, .int 6), (0, .ref h0)]) hx hb dX2_mixedInto_20 rfl hl (by decide) rfl (fun ls hl => ?_)
  refine lv_iinc (v := 7) (lv' := [(3, .int 7), (1, .long 467714439887), (0, .ref h0)]) hx hb dX2_mixedInto_21 hl (k := 1) rfl (by decide) (by decide) rfl (fun ls hl => ?_)
  refine lv_goto (tgt := 2) hx hb dX2_mixedInto_24 (by decide) ?_
  refine lv_iload_n hx hb dX2_mixedInto_2 rfl (lv_at hl 0 rfl) ?_
  refine lv_bipush (v := 8) hx hb dX2_mixedInto_3 (by decide) ?_
  refine lv_icmp_ge (tgt := 27) hx hb dX2_mixedInto_5 (by decide) (fun c => absurd c (by decide)) (fun _ => ?_)
  refine lv_ldc2 hx hb hown (hts (.constantLong RX2 34 (31)) (List.mem_of_getElem? (i := 1) rfl)) dX2_mixedInto_8 ?_
  refine lv_lload_n hx hb dX2_mixedInto_11 rfl (lv_at hl 1 rfl) ?_
  refine lv_lmul hx hb dX2_mixedInto_12 ?_
  refine lv_topl (fun y_22 e_22 => ?_)
  obtain rfl : y_22 = 14499147636497 := by rw [e_22]; decide +kernel
  refine lv_aload_n hx hb dX2_mixedInto_13 rfl (lv_at hl 2 rfl) ?_
  refine lv_iload_n hx hb dX2_mixedInto_14 rfl (lv_at hl 0 rfl) ?_
  have hPc := hP.sub (ws' := [(h0, .inr (2, [.ref p1, .ref p2, .ref p3])), (p1, .inl (cI, 8, .inl (fun _ => 0)))]) [0, 1] rfl
  refine vp_callSi (va_Run.run (va_runV (As := [.int 7]) (rest := [.long 14499147636497]) ⟨hx, hb, hml, hown, hts⟩ (zc_X2_valueOf l D cI cZ cP cF h0 p1 p2 p3 7) (cwV 1 hts zg_zc_X2_mixedInto_zc_X2_valueOf rfl rfl rfl (by decide +kernel) ⟨Nat.le_of_ble_eq_true rfl, Nat.le_of_ble_eq_true rfl⟩) ⟨zBR, va_recv hK hPc (ci := 2) (q0 := 0) rfl rfl, fun U hU hW => ⟨rfl, by rw [hU]; exact hPc, hE.warm hW⟩⟩ rfl rfl hl.1 rfl (lv_room (Nat.le_of_ble_eq_true rfl)) dX2_mixedInto_15 ⟨Nat.le_of_ble_eq_true rfl, Nat.le_of_ble_eq_true rfl⟩)) (fun r_15_23 h_15_23 => ?_)
  obtain rfl : r_15_23 = 0 := h_15_23
  refine lv_i2l (v := 0) hx hb dX2_mixedInto_18 (by decide) ?_
  refine lv_ladd hx hb dX2_mixedInto_19 ?_
  refine lv_topl (fun y_24 e_24 => ?_)
  obtain rfl : y_24 = 14499147636497 := by rw [e_24]; decide +kernel
  refine lv_lstore_n (lv' := [(1, .long 14499147636497), (3, .int 7), (0, .ref h0)]) hx hb dX2_mixedInto_20 rfl hl (by decide) rfl (fun ls hl => ?_)
  refine lv_iinc (v := 8) (lv' := [(3, .int 8), (1, .long 14499147636497), (0, .ref h0)]) hx hb dX2_mixedInto_21 hl (k := 1) rfl (by decide) (by decide) rfl (fun ls hl => ?_)
  refine lv_goto (tgt := 2) hx hb dX2_mixedInto_24 (by decide) ?_
  refine lv_iload_n hx hb dX2_mixedInto_2 rfl (lv_at hl 0 rfl) ?_
  refine lv_bipush (v := 8) hx hb dX2_mixedInto_3 (by decide) ?_
  refine lv_icmp_ge (tgt := 27) hx hb dX2_mixedInto_5 (by decide) (fun _ => ?_) (fun c => absurd (by decide) c)
  refine lv_iconst (v := 0) hx hb dX2_mixedInto_27 (by decide) ?_
  refine lv_istore_n (lv' := [(3, .int 0), (1, .long 14499147636497), (0, .ref h0)]) hx hb dX2_mixedInto_28 rfl hl (by decide) rfl (fun ls hl => ?_)
  refine lv_iload_n hx hb dX2_mixedInto_29 rfl (lv_at hl 0 rfl) ?_
  refine lv_iconst (v := 4) hx hb dX2_mixedInto_30 (by decide) ?_
  refine lv_icmp_ge (tgt := 87) hx hb dX2_mixedInto_31 (by decide) (fun c => absurd c (by decide)) (fun _ => ?_)
  refine lv_ldc2 hx hb hown (hts (.constantLong RX2 34 (31)) (List.mem_of_getElem? (i := 1) rfl)) dX2_mixedInto_34 ?_
  refine lv_lload_n hx hb dX2_mixedInto_37 rfl (lv_at hl 1 rfl) ?_
  refine lv_lmul hx hb dX2_mixedInto_38 ?_
  refine lv_topl (fun y_25 e_25 => ?_)
  obtain rfl : y_25 = 449473576731407 := by rw [e_25]; decide +kernel
  refine lv_aload_n hx hb dX2_mixedInto_39 rfl (lv_at hl 2 rfl) ?_
  refine lv_iload_n hx hb dX2_mixedInto_40 rfl (lv_at hl 0 rfl) ?_
  have hPc := hP.sub (ws' := [(h0, .inr (2, [.ref p1, .ref p2, .ref p3])), (p2, .inl (cI, 4, .inl g))]) [0, 2] rfl
  refine vp_callSi (va_Run.run (va_runV (As := [.int 0]) (rest := [.long 449473576731407]) ⟨hx, hb, hml, hown, hts⟩ (zc_X2_lengthOf l D cI cZ cP cF h0 p1 p2 p3 g 0 hM) (cwV 1 hts zg_zc_X2_mixedInto_zc_X2_lengthOf rfl rfl rfl (by decide +kernel) ⟨Nat.le_of_ble_eq_true rfl, Nat.le_of_ble_eq_true rfl⟩) ⟨zBR, va_recv hK hPc (ci := 2) (q0 := 0) rfl rfl, fun U hU hW => ⟨rfl, by rw [hU]; exact hPc, hE.warm hW⟩⟩ rfl rfl hl.1 rfl (lv_room (Nat.le_of_ble_eq_true rfl)) dX2_mixedInto_41 ⟨Nat.le_of_ble_eq_true rfl, Nat.le_of_ble_eq_true rfl⟩)) (fun r_41_26 h_41_26 => ?_)
  obtain rfl : r_41_26 = (-1) := h_41_26
  refine lv_i2l (v := (-1)) hx hb dX2_mixedInto_44 (by decide) ?_
  refine lv_ladd hx hb dX2_mixedInto_45 ?_
  refine lv_topl (fun y_27 e_27 => ?_)
  obtain rfl : y_27 = 449473576731406 := by rw [e_27]; decide +kernel
  refine lv_lstore_n (lv' := [(1, .long 449473576731406), (3, .int 0), (0, .ref h0)]) hx hb dX2_mixedInto_46 rfl hl (by decide) rfl (fun ls hl => ?_)
  refine lv_iconst (v := 0) hx hb dX2_mixedInto_47 (by decide) ?_
  refine lv_istore (lv' := [(4, .int 0), (1, .long 449473576731406), (3, .int 0), (0, .ref h0)]) hx hb dX2_mixedInto_48 hl (by decide) rfl (fun ls hl => ?_)
  refine lv_iload hx hb dX2_mixedInto_50 (lv_at hl 0 rfl) ?_
  refine lv_aload_n hx hb dX2_mixedInto_52 rfl (lv_at hl 3 rfl) ?_
  refine lv_iload_n hx hb dX2_mixedInto_53 rfl (lv_at hl 2 rfl) ?_
  have hPc := hP.sub (ws' := [(h0, .inr (2, [.ref p1, .ref p2, .ref p3])), (p2, .inl (cI, 4, .inl g))]) [0, 2] rfl
  refine vp_callSi (va_Run.run (va_runV (As := [.int 0]) (rest := [.int 0]) ⟨hx, hb, hml, hown, hts⟩ (zc_X2_lengthOf l D cI cZ cP cF h0 p1 p2 p3 g 0 hM) (cwV 1 hts zg_zc_X2_mixedInto_zc_X2_lengthOf rfl rfl rfl (by decide +kernel) ⟨Nat.le_of_ble_eq_true rfl, Nat.le_of_ble_eq_true rfl⟩) ⟨zBR, va_recv hK hPc (ci := 2) (q0 := 0) rfl rfl, fun U hU hW => ⟨rfl, by rw [hU]; exact hPc, hE.warm hW⟩⟩ rfl rfl hl.1 rfl (lv_room (Nat.le_of_ble_eq_true rfl)) dX2_mixedInto_54 ⟨Nat.le_of_ble_eq_true rfl, Nat.le_of_ble_eq_true rfl⟩)) (fun r_54_28 h_54_28 => ?_)
  obtain rfl : r_54_28 = (-1) := h_54_28
  refine lv_icmp_ge (tgt := 81) hx hb dX2_mixedInto_57 (by decide) (fun _ => ?_) (fun c => absurd (by decide) c)
  refine lv_iinc (v := 1) (lv' := [(3, .int 1), (4, .int 0), (1, .long 449473576731406), (0, .ref h0)]) hx hb dX2_mixedInto_81 hl (k := 2) rfl (by decide) (by decide) rfl (fun ls hl => ?_)
  refine lv_goto (tgt := 29) hx hb dX2_mixedInto_84 (by decide) ?_
  refine lv_iload_n hx hb dX2_mixedInto_29 rfl (lv_at hl 0 rfl) ?_
  refine lv_iconst (v := 4) hx hb dX2_mixedInto_30 (by decide) ?_
  refine lv_icmp_ge (tgt := 87) hx hb dX2_mixedInto_31 (by decide) (fun c => absurd c (by decide)) (fun _ => ?_)
  refine lv_ldc2 hx hb hown (hts (.constantLong RX2 34 (31)) (List.mem_of_getElem? (i := 1) rfl)) dX2_mixedInto_34 ?_
  refine lv_lload_n hx hb dX2_mixedInto_37 rfl (lv_at hl 2 rfl) ?_
  refine lv_lmul hx hb dX2_mixedInto_38 ?_
  refine lv_topl (fun y_29 e_29 => ?_)
  obtain rfl : y_29 = 13933680878673586 := by rw [e_29]; decide +kernel
  refine lv_aload_n hx hb dX2_mixedInto_39 rfl (lv_at hl 3 rfl) ?_
  refine lv_iload_n hx hb dX2_mixedInto_40 rfl (lv_at hl 0 rfl) ?_
  have hPc := hP.sub (ws' := [(h0, .inr (2, [.ref p1, .ref p2, .ref p3])), (p2, .inl (cI, 4, .inl g))]) [0, 2] rfl
  refine vp_callSi (va_Run.run (va_runV (As := [.int 1]) (rest := [.long 13933680878673586]) ⟨hx, hb, hml, hown, hts⟩ (zc_X2_lengthOf l D cI cZ cP cF h0 p1 p2 p3 g 1 hM) (cwV 1 hts zg_zc_X2_mixedInto_zc_X2_lengthOf rfl rfl rfl (by decide +kernel) ⟨Nat.le_of_ble_eq_true rfl, Nat.le_of_ble_eq_true rfl⟩) ⟨zBR, va_recv hK hPc (ci := 2) (q0 := 0) rfl rfl, fun U hU hW => ⟨rfl, by rw [hU]; exact hPc, hE.warm hW⟩⟩ rfl rfl hl.1 rfl (lv_room (Nat.le_of_ble_eq_true rfl)) dX2_mixedInto_41 ⟨Nat.le_of_ble_eq_true rfl, Nat.le_of_ble_eq_true rfl⟩)) (fun r_41_30 h_41_30 => ?_)
  obtain rfl : r_41_30 = (-1) := h_41_30
  refine lv_i2l (v := (-1)) hx hb dX2_mixedInto_44 (by decide) ?_
  refine lv_ladd hx hb dX2_mixedInto_45 ?_
  refine lv_topl (fun y_31 e_31 => ?_)
  obtain rfl : y_31 = 13933680878673585 := by rw [e_31]; decide +kernel
  refine lv_lstore_n (lv' := [(1, .long 13933680878673585), (3, .int 1), (4, .int 0), (0, .ref h0)]) hx hb dX2_mixedInto_46 rfl hl (by decide) rfl (fun ls hl => ?_)
  refine lv_iconst (v := 0) hx hb dX2_mixedInto_47 (by decide) ?_
  refine lv_istore (lv' := [(4, .int 0), (1, .long 13933680878673585), (3, .int 1), (0, .ref h0)]) hx hb dX2_mixedInto_48 hl (by decide) rfl (fun ls hl => ?_)
  refine lv_iload hx hb dX2_mixedInto_50 (lv_at hl 0 rfl) ?_
  refine lv_aload_n hx hb dX2_mixedInto_52 rfl (lv_at hl 3 rfl) ?_
  refine lv_iload_n hx hb dX2_mixedInto_53 rfl (lv_at hl 2 rfl) ?_
  have hPc := hP.sub (ws' := [(h0, .inr (2, [.ref p1, .ref p2, .ref p3])), (p2, .inl (cI, 4, .inl g))]) [0, 2] rfl
  refine vp_callSi (va_Run.run (va_runV (As := [.int 1]) (rest := [.int 0]) ⟨hx, hb, hml, hown, hts⟩ (zc_X2_lengthOf l D cI cZ cP cF h0 p1 p2 p3 g 1 hM) (cwV 1 hts zg_zc_X2_mixedInto_zc_X2_lengthOf rfl rfl rfl (by decide +kernel) ⟨Nat.le_of_ble_eq_true rfl, Nat.le_of_ble_eq_true rfl⟩) ⟨zBR, va_recv hK hPc (ci := 2) (q0 := 0) rfl rfl, fun U hU hW => ⟨rfl, by rw [hU]; exact hPc, hE.warm hW⟩⟩ rfl rfl hl.1 rfl (lv_room (Nat.le_of_ble_eq_true rfl)) dX2_mixedInto_54 ⟨Nat.le_of_ble_eq_true rfl, Nat.le_of_ble_eq_true rfl⟩)) (fun r_54_32 h_54_32 => ?_)
  obtain rfl : r_54_32 = (-1) := h_54_32
  refine lv_icmp_ge (tgt := 81) hx hb dX2_mixedInto_57 (by decide) (fun _ => ?_) (fun c => absurd (by decide) c)
  refine lv_iinc (v := 2) (lv' := [(3, .int 2), (4, .int 0), (1, .long 13933680878673585), (0, .ref h0)]) hx hb dX2_mixedInto_81 hl (k := 2) rfl (by decide) (by decide) rfl (fun ls hl => ?_)
  refine lv_goto (tgt := 29) hx hb dX2_mixedInto_84 (by decide) ?_
  refine lv_iload_n hx hb dX2_mixedInto_29 rfl (lv_at hl 0 rfl) ?_
  refine lv_iconst (v := 4) hx hb dX2_mixedInto_30 (by decide) ?_
  refine lv_icmp_ge (tgt := 87) hx hb dX2_mixedInto_31 (by decide) (fun c => absurd c (by decide)) (fun _ => ?_)
  refine lv_ldc2 hx hb hown (hts (.constantLong RX2 34 (31)) (List.mem_of_getElem? (i := 1) rfl)) dX2_mixedInto_34 ?_
  refine lv_lload_n hx hb dX2_mixedInto_37 rfl (lv_at hl 2 rfl) ?_
  refine lv_lmul hx hb dX2_mixedInto_38 ?_
  refine lv_topl (fun y_33 e_33 => ?_)
  obtain rfl : y_33 = 431944107238881135 := by rw [e_33]; decide +kernel
  refine lv_aload_n hx hb dX2_mixedInto_39 rfl (lv_at hl 3 rfl) ?_
  refine lv_iload_n hx hb dX2_mixedInto_40 rfl (lv_at hl 0 rfl) ?_
  have hPc := hP.sub (ws' := [(h0, .inr (2, [.ref p1, .ref p2, .ref p3])), (p2, .inl (cI, 4, .inl g))]) [0, 2] rfl
  refine vp_callSi (va_Run.run (va_runV (As := [.int 2]) (rest := [.long 431944107238881135]) ⟨hx, hb, hml, hown, hts⟩ (zc_X2_lengthOf l D cI cZ cP cF h0 p1 p2 p3 g 2 hM) (cwV 1 hts zg_zc_X2_mixedInto_zc_X2_lengthOf rfl rfl rfl (by decide +kernel) ⟨Nat.le_of_ble_eq_true rfl, Nat.le_of_ble_eq_true rfl⟩) ⟨zBR, va_recv hK hPc (ci := 2) (q0 := 0) rfl rfl, fun U hU hW => ⟨rfl, by rw [hU]; exact hPc, hE.warm hW⟩⟩ rfl rfl hl.1 rfl (lv_room (Nat.le_of_ble_eq_true rfl)) dX2_mixedInto_41 ⟨Nat.le_of_ble_eq_true rfl, Nat.le_of_ble_eq_true rfl⟩)) (fun r_41_34 h_41_34 => ?_)
  obtain rfl : r_41_34 = (-1) := h_41_34
  refine lv_i2l (v := (-1)) hx hb dX2_mixedInto_44 (by decide) ?_
  refine lv_ladd hx hb dX2_mixedInto_45 ?_
  refine lv_topl (fun y_35 e_35 => ?_)
  obtain rfl : y_35 = 431944107238881134 := by rw [e_35]; decide +kernel
  refine lv_lstore_n (lv' := [(1, .long 431944107238881134), (3, .int 2), (4, .int 0), (0, .ref h0)]) hx hb dX2_mixedInto_46 rfl hl (by decide) rfl (fun ls hl => ?_)
  refine lv_iconst (v := 0) hx hb dX2_mixedInto_47 (by decide) ?_
  refine lv_istore (lv' := [(4, .int 0), (1, .long 431944107238881134), (3, .int 2), (0, .ref h0)]) hx hb dX2_mixedInto_48 hl (by decide) rfl (fun ls hl => ?_)
  refine lv_iload hx hb dX2_mixedInto_50 (lv_at hl 0 rfl) ?_
  refine lv_aload_n hx hb dX2_mixedInto_52 rfl (lv_at hl 3 rfl) ?_
  refine lv_iload_n hx hb dX2_mixedInto_53 rfl (lv_at hl 2 rfl) ?_
  have hPc := hP.sub (ws' := [(h0, .inr (2, [.ref p1, .ref p2, .ref p3])), (p2, .inl (cI, 4, .inl g))]) [0, 2] rfl
  refine vp_callSi (va_Run.run (va_runV (As := [.int 2]) (rest := [.int 0]) ⟨hx, hb, hml, hown, hts⟩ (zc_X2_lengthOf l D cI cZ cP cF h0 p1 p2 p3 g 2 hM) (cwV 1 hts zg_zc_X2_mixedInto_zc_X2_lengthOf rfl rfl rfl (by decide +kernel) ⟨Nat.le_of_ble_eq_true rfl, Nat.le_of_ble_eq_true rfl⟩) ⟨zBR, va_recv hK hPc (ci := 2) (q0 := 0) rfl rfl, fun U hU hW => ⟨rfl, by rw [hU]; exact hPc, hE.warm hW⟩⟩ rfl rfl hl.1 rfl (lv_room (Nat.le_of_ble_eq_true rfl)) dX2_mixedInto_54 ⟨Nat.le_of_ble_eq_true rfl, Nat.le_of_ble_eq_true rfl⟩)) (fun r_54_36 h_54_36 => ?_)
  obtain rfl : r_54_36 = (-1) := h_54_36
  refine lv_icmp_ge (tgt := 81) hx hb dX2_mixedInto_57 (by decide) (fun _ => ?_) (fun c => absurd (by decide) c)
  refine lv_iinc (v := 3) (lv' := [(3, .int 3), (4, .int 0), (1, .long 431944107238881134), (0, .ref h0)]) hx hb dX2_mixedInto_81 hl (k := 2) rfl (by decide) (by decide) rfl (fun ls hl => ?_)
  refine lv_goto (tgt := 29) hx hb dX2_mixedInto_84 (by decide) ?_
  refine lv_iload_n hx hb dX2_mixedInto_29 rfl (lv_at hl 0 rfl) ?_
  refine lv_iconst (v := 4) hx hb dX2_mixedInto_30 (by decide) ?_
  refine lv_icmp_ge (tgt := 87) hx hb dX2_mixedInto_31 (by decide) (fun c => absurd c (by decide)) (fun _ => ?_)
  refine lv_ldc2 hx hb hown (hts (.constantLong RX2 34 (31)) (List.mem_of_getElem? (i := 1) rfl)) dX2_mixedInto_34 ?_
  refine lv_lload_n hx hb dX2_mixedInto_37 rfl (lv_at hl 2 rfl) ?_
  refine lv_lmul hx hb dX2_mixedInto_38 ?_
  refine lv_topl (fun y_37 e_37 => ?_)
  obtain rfl : y_37 = (-5056476749304236462) := by rw [e_37]; decide +kernel
  refine lv_aload_n hx hb dX2_mixedInto_39 rfl (lv_at hl 3 rfl) ?_
  refine lv_iload_n hx hb dX2_mixedInto_40 rfl (lv_at hl 0 rfl) ?_
  have hPc := hP.sub (ws' := [(h0, .inr (2, [.ref p1, .ref p2, .ref p3])), (p2, .inl (cI, 4, .inl g))]) [0, 2] rfl
  refine vp_callSi (va_Run.run (va_runV (As := [.int 3]) (rest := [.long (-5056476749304236462)]) ⟨hx, hb, hml, hown, hts⟩ (zc_X2_lengthOf l D cI cZ cP cF h0 p1 p2 p3 g 3 hM) (cwV 1 hts zg_zc_X2_mixedInto_zc_X2_lengthOf rfl rfl rfl (by decide +kernel) ⟨Nat.le_of_ble_eq_true rfl, Nat.le_of_ble_eq_true rfl⟩) ⟨zBR, va_recv hK hPc (ci := 2) (q0 := 0) rfl rfl, fun U hU hW => ⟨rfl, by rw [hU]; exact hPc, hE.warm hW⟩⟩ rfl rfl hl.1 rfl (lv_room (Nat.le_of_ble_eq_true rfl)) dX2_mixedInto_41 ⟨Nat.le_of_ble_eq_true rfl, Nat.le_of_ble_eq_true rfl⟩)) (fun r_41_38 h_41_38 => ?_)
  obtain rfl : r_41_38 = (-1) := h_41_38
  refine lv_i2l (v := (-1)) hx hb dX2_mixedInto_44 (by decide) ?_
  refine lv_ladd hx hb dX2_mixedInto_45 ?_
  refine lv_topl (fun y_39 e_39 => ?_)
  obtain rfl : y_39 = (-5056476749304236463) := by rw [e_39]; decide +kernel
  refine lv_lstore_n (lv' := [(1, .long (-5056476749304236463)), (3, .int 3), (4, .int 0), (0, .ref h0)]) hx hb dX2_mixedInto_46 rfl hl (by decide) rfl (fun ls hl => ?_)
  refine lv_iconst (v := 0) hx hb dX2_mixedInto_47 (by decide) ?_
  refine lv_istore (lv' := [(4, .int 0), (1, .long (-5056476749304236463)), (3, .int 3), (0, .ref h0)]) hx hb dX2_mixedInto_48 hl (by decide) rfl (fun ls hl => ?_)
  refine lv_iload hx hb dX2_mixedInto_50 (lv_at hl 0 rfl) ?_
  refine lv_aload_n hx hb dX2_mixedInto_52 rfl (lv_at hl 3 rfl) ?_
  refine lv_iload_n hx hb dX2_mixedInto_53 rfl (lv_at hl 2 rfl) ?_
  have hPc := hP.sub (ws' := [(h0, .inr (2, [.ref p1, .ref p2, .ref p3])), (p2, .inl (cI, 4, .inl g))]) [0, 2] rfl
  refine vp_callSi (va_Run.run (va_runV (As := [.int 3]) (rest := [.int 0]) ⟨hx, hb, hml, hown, hts⟩ (zc_X2_lengthOf l D cI cZ cP cF h0 p1 p2 p3 g 3 hM) (cwV 1 hts zg_zc_X2_mixedInto_zc_X2_lengthOf rfl rfl rfl (by decide +kernel) ⟨Nat.le_of_ble_eq_true rfl, Nat.le_of_ble_eq_true rfl⟩) ⟨zBR, va_recv hK hPc (ci := 2) (q0 := 0) rfl rfl, fun U hU hW => ⟨rfl, by rw [hU]; exact hPc, hE.warm hW⟩⟩ rfl rfl hl.1 rfl (lv_room (Nat.le_of_ble_eq_true rfl)) dX2_mixedInto_54 ⟨Nat.le_of_ble_eq_true rfl, Nat.le_of_ble_eq_true rfl⟩)) (fun r_54_40 h_54_40 => ?_)
  obtain rfl : r_54_40 = (-1) := h_54_40
  refine lv_icmp_ge (tgt := 81) hx hb dX2_mixedInto_57 (by decide) (fun _ => ?_) (fun c => absurd (by decide) c)
  refine lv_iinc (v := 4) (lv' := [(3, .int 4), (4, .int 0), (1, .long (-5056476749304236463)), (0, .ref h0)]) hx hb dX2_mixedInto_81 hl (k := 2) rfl (by decide) (by decide) rfl (fun ls hl => ?_)
  refine lv_goto (tgt := 29) hx hb dX2_mixedInto_84 (by decide) ?_
  refine lv_iload_n hx hb dX2_mixedInto_29 rfl (lv_at hl 0 rfl) ?_
  refine lv_iconst (v := 4) hx hb dX2_mixedInto_30 (by decide) ?_
  refine lv_icmp_ge (tgt := 87) hx hb dX2_mixedInto_31 (by decide) (fun _ => ?_) (fun c => absurd (by decide) c)
  refine lv_lload_n hx hb dX2_mixedInto_87 rfl (lv_at hl 2 rfl) ?_
  exact W.lret (v := (-5056476749304236463)) hx hb hr (fun t ht hW => ⟨(-5056476749304236463), rfl, rfl, ht⟩) (fun q h => by cases h) dX2_mixedInto_88

def zw_zc_X10_mixedInto : List Cond := .code yX10_mixedInto cX10_mixedInto 4 (some .long) :: ([.constantLong RX10 38 (31), .fieldLink RX10 31 "TemplateForge$Tally" "returned" "I", .fieldLink RX10 9 "TemplateForge$Tally" "trap" "[I"] ++ wsX100)
set_option maxHeartbeats 4000000 in
set_option maxRecDepth 100000 in
theorem zc_X10_mixedInto (l : Launch) (D : va_G) (cI cZ cP cF : Nat) (h0 p1 : Nat) : Met l yX10_mixedInto zw_zc_X10_mixedInto ({ frames := 0, cells := 0, slots := 0, locals := 0 }) (va_Pc [.ref h0, .long (-5056476749304236463)] (fun U => va_P D vwCl [(h0, .inr (10, [.int 0, .int 0, .int 0, .int 0, .int 0, .int 0, .ref p1])), (p1, .inl (cI, 4, .inl (fun _ => 0)))] U.heap ∧ zE D cI cZ cP cF U)) (vp_Sl (fun r => r = (-4484465200796314545))) 0 0 (fun _ => False) := by
  refine Met.ofW (cc := cX10_mixedInto) (maxL := 4) (ret := (some .long)) (by decide) rfl ?_
  intro p e s m args below meth c s₁ B hml hv
  obtain ⟨rfl, hP, hE⟩ := hv
  have hx := B.exec
  have hb := B.bytes
  have hr := B.returns
  have hts := atoms_spec (ws := zw_zc_X10_mixedInto) B.pre
  have hown : s.vm.findClass RX10 = some m.cls := findClass_of_methodNamed B.named
  have hlocks := B.notSynchronized
  have hK := hE.k
  have hP : va_P D vwCl [(h0, .inr (10, [.int 0, .int 0, .int 0, .int 0, .int 0, .int 0, .ref p1])), (p1, .inl (cI, 4, .inl (fun _ => 0)))] s.heap := hP
  have hl := lv_entry ([.ref h0, .long (-5056476749304236463)]) (n := 4) (Nat.le_of_ble_eq_true rfl)
  rw [lg_entry_eq]
  generalize (lg_sl ([.ref h0, .long (-5056476749304236463)]) ++ List.replicate (4 - (lg_sl ([.ref h0, .long (-5056476749304236463)])).length) Slot.unset).toArray = ls at hl ⊢
  have hl : lv_has ls 4 [(0, .ref h0), (1, .long (-5056476749304236463))] := hl
  refine lv_ldc2 hx hb hown (hts (.constantLong RX10 38 (31)) (List.mem_of_getElem? (i := 1) rfl)) dX10_mixedInto_0 ?_
  refine lv_lload_n hx hb dX10_mixedInto_3 rfl (lv_at hl 1 rfl) ?_
  refine lv_lmul hx hb dX10_mixedInto_4 ?_
  refine lv_topl (fun y_1 e_1 => ?_)
  obtain rfl : y_1 = (-9176826638754917425) := by rw [e_1]; decide +kernel
  refine lv_aload_n hx hb dX10_mixedInto_5 rfl (lv_at hl 0 rfl) ?_
  refine va_get (D := D) (ci := 10) (v := .int 0) (C := RX10) (T := TX10) (N := 7) hx hb hts (fun _ h => List.mem_cons_of_mem _ (List.mem_append_right _ h)) hown hK hP 0 rfl rfl 5 (by decide) (hts (.fieldLink RX10 31 "TemplateForge$Tally" "returned" "I") (List.mem_of_getElem? (i := 2) rfl)) (fun _ h9 => h9) rfl dX10_mixedInto_6 ?_
  refine lv_i2l (v := 0) hx hb dX10_mixedInto_9 (by decide) ?_
  refine lv_ladd hx hb dX10_mixedInto_10 ?_
  refine lv_topl (fun y_2 e_2 => ?_)
  obtain rfl : y_2 = (-9176826638754917425) := by rw [e_2]; decide +kernel
  refine lv_lstore_n (lv' := [(1, .long (-9176826638754917425)), (0, .ref h0)]) hx hb dX10_mixedInto_11 rfl hl (by decide) rfl (fun ls hl => ?_)
  refine lv_iconst (v := 0) hx hb dX10_mixedInto_12 (by decide) ?_
  refine lv_istore_n (lv' := [(3, .int 0), (1, .long (-9176826638754917425)), (0, .ref h0)]) hx hb dX10_mixedInto_13 rfl hl (by decide) rfl (fun ls hl => ?_)
  refine lv_iload_n hx hb dX10_mixedInto_14 rfl (lv_at hl 0 rfl) ?_
  refine lv_iconst (v := 4) hx hb dX10_mixedInto_15 (by decide) ?_
  refine lv_icmp_ge (tgt := 39) hx hb dX10_mixedInto_16 (by decide) (fun c => absurd c (by decide)) (fun _ => ?_)
  refine lv_ldc2 hx hb hown (hts (.constantLong RX10 38 (31)) (List.mem_of_getElem? (i := 1) rfl)) dX10_mixedInto_19 ?_
  refine lv_lload_n hx hb dX10_mixedInto_22 rfl (lv_at hl 1 rfl) ?_
  refine lv_lmul hx hb dX10_mixedInto_23 ?_
  refine lv_topl (fun y_3 e_3 => ?_)
  obtain rfl : y_3 = (-7780464695759165935) := by rw [e_3]; decide +kernel
  refine lv_aload_n hx hb dX10_mixedInto_24 rfl (lv_at hl 2 rfl) ?_
  refine va_get (D := D) (ci := 10) (v := .ref p1) (C := RX10) (T := TX10) (N := 7) hx hb hts (fun _ h => List.mem_cons_of_mem _ (List.mem_append_right _ h)) hown hK hP 0 rfl rfl 6 (by decide) (hts (.fieldLink RX10 9 "TemplateForge$Tally" "trap" "[I") (List.mem_of_getElem? (i := 3) rfl)) (fun _ h9 => h9) rfl dX10_mixedInto_25 ?_
  refine lv_iload_n hx hb dX10_mixedInto_28 rfl (lv_at hl 0 rfl) ?_
  have hin_29 : vp_in 0 4 := by unfold vp_in; decide
  refine va_iald hx hb hK hP 1 0 rfl rfl hin_29 dX10_mixedInto_29 ?_
  refine lv_topi (fun y_5 e_5 => ?_)
  obtain rfl : y_5 = 0 := e_5
  refine lv_i2l (v := 0) hx hb dX10_mixedInto_30 (by decide) ?_
  refine lv_ladd hx hb dX10_mixedInto_31 ?_
  refine lv_topl (fun y_6 e_6 => ?_)
  obtain rfl : y_6 = (-7780464695759165935) := by rw [e_6]; decide +kernel
  refine lv_lstore_n (lv' := [(1, .long (-7780464695759165935)), (3, .int 0), (0, .ref h0)]) hx hb dX10_mixedInto_32 rfl hl (by decide) rfl (fun ls hl => ?_)
  refine lv_iinc (v := 1) (lv' := [(3, .int 1), (1, .long (-7780464695759165935)), (0, .ref h0)]) hx hb dX10_mixedInto_33 hl (k := 1) rfl (by decide) (by decide) rfl (fun ls hl => ?_)
  refine lv_goto (tgt := 14) hx hb dX10_mixedInto_36 (by decide) ?_
  refine lv_iload_n hx hb dX10_mixedInto_14 rfl (lv_at hl 0 rfl) ?_
  refine lv_iconst (v := 4) hx hb dX10_mixedInto_15 (by decide) ?_
  refine lv_icmp_ge (tgt := 39) hx hb dX10_mixedInto_16 (by decide) (fun c => absurd c (by decide)) (fun _ => ?_)
  refine lv_ldc2 hx hb hown (hts (.constantLong RX10 38 (31)) (List.mem_of_getElem? (i := 1) rfl)) dX10_mixedInto_19 ?_
  refine lv_lload_n hx hb dX10_mixedInto_22 rfl (lv_at hl 1 rfl) ?_
  refine lv_lmul hx hb dX10_mixedInto_23 ?_
  refine lv_topl (fun y_7 e_7 => ?_)
  obtain rfl : y_7 = (-1386732610309972977) := by rw [e_7]; decide +kernel
  refine lv_aload_n hx hb dX10_mixedInto_24 rfl (lv_at hl 2 rfl) ?_
  refine va_get (D := D) (ci := 10) (v := .ref p1) (C := RX10) (T := TX10) (N := 7) hx hb hts (fun _ h => List.mem_cons_of_mem _ (List.mem_append_right _ h)) hown hK hP 0 rfl rfl 6 (by decide) (hts (.fieldLink RX10 9 "TemplateForge$Tally" "trap" "[I") (List.mem_of_getElem? (i := 3) rfl)) (fun _ h9 => h9) rfl dX10_mixedInto_25 ?_
  refine lv_iload_n hx hb dX10_mixedInto_28 rfl (lv_at hl 0 rfl) ?_
  have hin_29 : vp_in 1 4 := by unfold vp_in; decide
  refine va_iald hx hb hK hP 1 0 rfl rfl hin_29 dX10_mixedInto_29 ?_
  refine lv_topi (fun y_9 e_9 => ?_)
  obtain rfl : y_9 = 0 := e_9
  refine lv_i2l (v := 0) hx hb dX10_mixedInto_30 (by decide) ?_
  refine lv_ladd hx hb dX10_mixedInto_31 ?_
  refine lv_topl (fun y_10 e_10 => ?_)
  obtain rfl : y_10 = (-1386732610309972977) := by rw [e_10]; decide +kernel
  refine lv_lstore_n (lv' := [(1, .long (-1386732610309972977)), (3, .int 1), (0, .ref h0)]) hx hb dX10_mixedInto_32 rfl hl (by decide) rfl (fun ls hl => ?_)
  refine lv_iinc (v := 2) (lv' := [(3, .int 2), (1, .long (-1386732610309972977)), (0, .ref h0)]) hx hb dX10_mixedInto_33 hl (k := 1) rfl (by decide) (by decide) rfl (fun ls hl => ?_)
  refine lv_goto (tgt := 14) hx hb dX10_mixedInto_36 (by decide) ?_
  refine lv_iload_n hx hb dX10_mixedInto_14 rfl (lv_at hl 0 rfl) ?_
  refine lv_iconst (v := 4) hx hb dX10_mixedInto_15 (by decide) ?_
  refine lv_icmp_ge (tgt := 39) hx hb dX10_mixedInto_16 (by decide) (fun c => absurd c (by decide)) (fun _ => ?_)
  refine lv_ldc2 hx hb hown (hts (.constantLong RX10 38 (31)) (List.mem_of_getElem? (i := 1) rfl)) dX10_mixedInto_19 ?_
  refine lv_lload_n hx hb dX10_mixedInto_22 rfl (lv_at hl 1 rfl) ?_
  refine lv_lmul hx hb dX10_mixedInto_23 ?_
  refine lv_topl (fun y_11 e_11 => ?_)
  obtain rfl : y_11 = (-6095222772190059055) := by rw [e_11]; decide +kernel
  refine lv_aload_n hx hb dX10_mixedInto_24 rfl (lv_at hl 2 rfl) ?_
  refine va_get (D := D) (ci := 10) (v := .ref p1) (C := RX10) (T := TX10) (N := 7) hx hb hts (fun _ h => List.mem_cons_of_mem _ (List.mem_append_right _ h)) hown hK hP 0 rfl rfl 6 (by decide) (hts (.fieldLink RX10 9 "TemplateForge$Tally" "trap" "[I") (List.mem_of_getElem? (i := 3) rfl)) (fun _ h9 => h9) rfl dX10_mixedInto_25 ?_
  refine lv_iload_n hx hb dX10_mixedInto_28 rfl (lv_at hl 0 rfl) ?_
  have hin_29 : vp_in 2 4 := by unfold vp_in; decide
  refine va_iald hx hb hK hP 1 0 rfl rfl hin_29 dX10_mixedInto_29 ?_
  refine lv_topi (fun y_13 e_13 => ?_)
  obtain rfl : y_13 = 0 := e_13
  refine lv_i2l (v := 0) hx hb dX10_mixedInto_30 (by decide) ?_
  refine lv_ladd hx hb dX10_mixedInto_31 ?_
  refine lv_topl (fun y_14 e_14 => ?_)
  obtain rfl : y_14 = (-6095222772190059055) := by rw [e_14]; decide +kernel
  refine lv_lstore_n (lv' := [(1, .long (-6095222772190059055)), (3, .int 2), (0, .ref h0)]) hx hb dX10_mixedInto_32 rfl hl (by decide) rfl (fun ls hl => ?_)
  refine lv_iinc (v := 3) (lv' := [(3, .int 3), (1, .long (-6095222772190059055)), (0, .ref h0)]) hx hb dX10_mixedInto_33 hl (k := 1) rfl (by decide) (by decide) rfl (fun ls hl => ?_)
  refine lv_goto (tgt := 14) hx hb dX10_mixedInto_36 (by decide) ?_
  refine lv_iload_n hx hb dX10_mixedInto_14 rfl (lv_at hl 0 rfl) ?_
  refine lv_iconst (v := 4) hx hb dX10_mixedInto_15 (by decide) ?_
  refine lv_icmp_ge (tgt := 39) hx hb dX10_mixedInto_16 (by decide) (fun c => absurd c (by decide)) (fun _ => ?_)
  refine lv_ldc2 hx hb hown (hts (.constantLong RX10 38 (31)) (List.mem_of_getElem? (i := 1) rfl)) dX10_mixedInto_19 ?_
  refine lv_lload_n hx hb dX10_mixedInto_22 rfl (lv_at hl 1 rfl) ?_
  refine lv_lmul hx hb dX10_mixedInto_23 ?_
  refine lv_topl (fun y_15 e_15 => ?_)
  obtain rfl : y_15 = (-4484465200796314545) := by rw [e_15]; decide +kernel
  refine lv_aload_n hx hb dX10_mixedInto_24 rfl (lv_at hl 2 rfl) ?_
  refine va_get (D := D) (ci := 10) (v := .ref p1) (C := RX10) (T := TX10) (N := 7) hx hb hts (fun _ h => List.mem_cons_of_mem _ (List.mem_append_right _ h)) hown hK hP 0 rfl rfl 6 (by decide) (hts (.fieldLink RX10 9 "TemplateForge$Tally" "trap" "[I") (List.mem_of_getElem? (i := 3) rfl)) (fun _ h9 => h9) rfl dX10_mixedInto_25 ?_
  refine lv_iload_n hx hb dX10_mixedInto_28 rfl (lv_at hl 0 rfl) ?_
  have hin_29 : vp_in 3 4 := by unfold vp_in; decide
  refine va_iald hx hb hK hP 1 0 rfl rfl hin_29 dX10_mixedInto_29 ?_
  refine lv_topi (fun y_17 e_17 => ?_)
  obtain rfl : y_17 = 0 := e_17
  refine lv_i2l (v := 0) hx hb dX10_mixedInto_30 (by decide) ?_
  refine lv_ladd hx hb dX10_mixedInto_31 ?_
  refine lv_topl (fun y_18 e_18 => ?_)
  obtain rfl : y_18 = (-4484465200796314545) := by rw [e_18]; decide +kernel
  refine lv_lstore_n (lv' := [(1, .long (-4484465200796314545)), (3, .int 3), (0, .ref h0)]) hx hb dX10_mixedInto_32 rfl hl (by decide) rfl (fun ls hl => ?_)
  refine lv_iinc (v := 4) (lv' := [(3, .int 4), (1, .long (-4484465200796314545)), (0, .ref h0)]) hx hb dX10_mixedInto_33 hl (k := 1) rfl (by decide) (by decide) rfl (fun ls hl => ?_)
  refine lv_goto (tgt := 14) hx hb dX10_mixedInto_36 (by decide) ?_
  refine lv_iload_n hx hb dX10_mixedInto_14 rfl (lv_at hl 0 rfl) ?_
  refine lv_iconst (v := 4) hx hb dX10_mixedInto_15 (by decide) ?_
  refine lv_icmp_ge (tgt := 39) hx hb dX10_mixedInto_16 (by decide) (fun _ => ?_) (fun c => absurd (by decide) c)
  refine lv_lload_n hx hb dX10_mixedInto_39 rfl (lv_at hl 1 rfl) ?_
  exact W.lret (v := (-4484465200796314545)) hx hb hr (fun t ht hW => ⟨(-4484465200796314545), rfl, rfl, ht⟩) (fun q h => by cases h) dX10_mixedInto_40

def zw_zc_X10_ofTrap : List Cond := .code yX10_ofTrap cX10_ofTrap 2 (some .int) :: ([.fieldLink RX10 9 "TemplateForge$Tally" "trap" "[I"] ++ wsX100)
set_option maxHeartbeats 4000000 in
set_option maxRecDepth 100000 in
theorem zc_X10_ofTrap (l : Launch) (D : va_G) (cI cZ cP cF : Nat) (h0 p1 : Nat) (w0 : Int32) : Met l yX10_ofTrap zw_zc_X10_ofTrap ({ frames := 0, cells := 0, slots := 0, locals := 0 }) (va_Pc [.ref h0, .int w0] (fun U => va_P D vwCl [(h0, .inr (10, [.int 0, .int 0, .int 0, .int 0, .int 0, .int 0, .ref p1])), (p1, .inl (cI, 4, .inl (fun _ => 0)))] U.heap ∧ zE D cI cZ cP cF U)) (vp_Si (fun r => r = zsel w0 4 (-2) 0)) 0 0 (fun _ => False) := by
  refine Met.ofW (cc := cX10_ofTrap) (maxL := 2) (ret := (some .int)) (by decide) rfl ?_
  intro p e s m args below meth c s₁ B hml hv
  obtain ⟨rfl, hP, hE⟩ := hv
  have hx := B.exec
  have hb := B.bytes
  have hr := B.returns
  have hts := atoms_spec (ws := zw_zc_X10_ofTrap) B.pre
  have hown : s.vm.findClass RX10 = some m.cls := findClass_of_methodNamed B.named
  have hlocks := B.notSynchronized
  have hK := hE.k
  have hP : va_P D vwCl [(h0, .inr (10, [.int 0, .int 0, .int 0, .int 0, .int 0, .int 0, .ref p1])), (p1, .inl (cI, 4, .inl (fun _ => 0)))] s.heap := hP
  have hl := lv_entry ([.ref h0, .int w0]) (n := 2) (Nat.le_of_ble_eq_true rfl)
  rw [lg_entry_eq]
  generalize (lg_sl ([.ref h0, .int w0]) ++ List.replicate (2 - (lg_sl ([.ref h0, .int w0])).length) Slot.unset).toArray = ls at hl ⊢
  have hl : lv_has ls 2 [(0, .ref h0), (1, .int w0)] := hl
  refine lv_iload_n hx hb dX10_ofTrap_0 rfl (lv_at hl 1 rfl) ?_
  refine lv_if_lt (tgt := 18) hx hb dX10_ofTrap_1 (by decide) (fun c_1 => ?_) (fun c_1 => ?_)
  · refine lv_bipush (v := (-2)) hx hb dX10_ofTrap_18 (by decide) ?_
    exact W.iret (v := (-2)) hx hb hr (fun t ht hW => ⟨(-2), rfl, by simp only [zsel, c_1, if_true, if_false], ht⟩) (fun q h => by cases h) dX10_ofTrap_20
  · refine lv_iload_n hx hb dX10_ofTrap_4 rfl (lv_at hl 1 rfl) ?_
    refine lv_iconst (v := 4) hx hb dX10_ofTrap_5 (by decide) ?_
    refine lv_icmp_ge (tgt := 18) hx hb dX10_ofTrap_6 (by decide) (fun c_6 => ?_) (fun c_6 => ?_)
    · have c_60 : ¬ w0 < 4 := Int32.not_lt.mpr c_6
      refine lv_bipush (v := (-2)) hx hb dX10_ofTrap_18 (by decide) ?_
      exact W.iret (v := (-2)) hx hb hr (fun t ht hW => ⟨(-2), rfl, by simp only [zsel, c_1, c_60, if_true, if_false], ht⟩) (fun q h => by cases h) dX10_ofTrap_20
    · have c_60 : w0 < 4 := Int32.not_le.mp c_6
      refine lv_aload_n hx hb dX10_ofTrap_9 rfl (lv_at hl 0 rfl) ?_
      refine va_get (D := D) (ci := 10) (v := .ref p1) (C := RX10) (T := TX10) (N := 7) hx hb hts (fun _ h => List.mem_cons_of_mem _ (List.mem_append_right _ h)) hown hK hP 0 rfl rfl 6 (by decide) (hts (.fieldLink RX10 9 "TemplateForge$Tally" "trap" "[I") (List.mem_of_getElem? (i := 1) rfl)) (fun _ h9 => h9) rfl dX10_ofTrap_10 ?_
      refine lv_iload_n hx hb dX10_ofTrap_13 rfl (lv_at hl 1 rfl) ?_
      have hin_14 : vp_in w0 4 := z_in (M := 4) (by decide) c_1 c_6
      refine va_iald hx hb hK hP 1 0 rfl rfl hin_14 dX10_ofTrap_14 ?_
      refine lv_topi (fun y_2 e_2 => ?_)
      obtain rfl : y_2 = 0 := e_2
      refine lv_goto (tgt := 20) hx hb dX10_ofTrap_15 (by decide) ?_
      exact W.iret (v := 0) hx hb hr (fun t ht hW => ⟨0, rfl, by simp only [zsel, c_1, c_60, if_true, if_false], ht⟩) (fun q h => by cases h) dX10_ofTrap_20
end
