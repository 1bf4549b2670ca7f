section
-- ===== PART A: goes FIRST, ahead of the names: the tables' words, and 'selects' of the private methods out of them =====
/-- a private method of a class that the tables say can be made, by its rows of tables_1 -/
def lw_okq (q : MethodName × Nat) : Prop := (q.1.cls ≠ "java/lang/invoke/MethodHandle" ∧ q.1.cls ≠ "java/lang/invoke/VarHandle") ∧ Cond.instantiable q.1.cls q.2 ∈ tables_1 ∧ Cond.privateMethod q.1 ∈ tables_1 ∧ Cond.instanceMethod q.1 ∈ tables_1
theorem lw_p0 : lw_okq (⟨"JettyHoses", "keepPresent", "()V"⟩, 8) := ⟨⟨by decide +kernel, by decide +kernel⟩, List.mem_of_getElem? (i := 10) (by decide +kernel), List.mem_of_getElem? (i := 210) (by decide +kernel), List.mem_of_getElem? (i := 211) (by decide +kernel)⟩
theorem lw_p1 : lw_okq (⟨"JettyHoses", "recorded", "(I)I"⟩, 8) := ⟨⟨by decide +kernel, by decide +kernel⟩, List.mem_of_getElem? (i := 10) (by decide +kernel), List.mem_of_getElem? (i := 239) (by decide +kernel), List.mem_of_getElem? (i := 240) (by decide +kernel)⟩
theorem lw_p2 : lw_okq (⟨"JettyHoses", "recordKept", "()V"⟩, 8) := ⟨⟨by decide +kernel, by decide +kernel⟩, List.mem_of_getElem? (i := 10) (by decide +kernel), List.mem_of_getElem? (i := 248) (by decide +kernel), List.mem_of_getElem? (i := 249) (by decide +kernel)⟩
theorem lw_p3 : lw_okq (⟨"JettyHoses", "dropOldest", "()V"⟩, 8) := ⟨⟨by decide +kernel, by decide +kernel⟩, List.mem_of_getElem? (i := 10) (by decide +kernel), List.mem_of_getElem? (i := 252) (by decide +kernel), List.mem_of_getElem? (i := 253) (by decide +kernel)⟩
theorem lw_p4 : lw_okq (⟨"JettyHoses$Pad", "next", "()C"⟩, 8) := ⟨⟨by decide +kernel, by decide +kernel⟩, List.mem_of_getElem? (i := 140) (by decide +kernel), List.mem_of_getElem? (i := 450) (by decide +kernel), List.mem_of_getElem? (i := 451) (by decide +kernel)⟩
theorem lw_p5 : lw_okq (⟨"JettyHoses$Pad", "readUnits", "()Z"⟩, 8) := ⟨⟨by decide +kernel, by decide +kernel⟩, List.mem_of_getElem? (i := 140) (by decide +kernel), List.mem_of_getElem? (i := 454) (by decide +kernel), List.mem_of_getElem? (i := 455) (by decide +kernel)⟩
theorem lw_p6 : lw_okq (⟨"JettyHoses$Pad", "readNumber", "(I)I"⟩, 8) := ⟨⟨by decide +kernel, by decide +kernel⟩, List.mem_of_getElem? (i := 140) (by decide +kernel), List.mem_of_getElem? (i := 458) (by decide +kernel), List.mem_of_getElem? (i := 459) (by decide +kernel)⟩
theorem lw_p7 : lw_okq (⟨"JettyHoses$Pad", "readHoseOrder", "()Z"⟩, 8) := ⟨⟨by decide +kernel, by decide +kernel⟩, List.mem_of_getElem? (i := 140) (by decide +kernel), List.mem_of_getElem? (i := 463) (by decide +kernel), List.mem_of_getElem? (i := 464) (by decide +kernel)⟩
theorem lw_p8 : lw_okq (⟨"JettyHoses", "doOrder", "()I"⟩, 8) := ⟨⟨by decide +kernel, by decide +kernel⟩, List.mem_of_getElem? (i := 10) (by decide +kernel), List.mem_of_getElem? (i := 472) (by decide +kernel), List.mem_of_getElem? (i := 473) (by decide +kernel)⟩
theorem lw_p9 : lw_okq (⟨"JettyHosesModel", "setHose", "(III)V"⟩, 15) := ⟨⟨by decide +kernel, by decide +kernel⟩, List.mem_of_getElem? (i := 587) (by decide +kernel), List.mem_of_getElem? (i := 593) (by decide +kernel), List.mem_of_getElem? (i := 594) (by decide +kernel)⟩
theorem lw_p10 : lw_okq (⟨"JettyHosesModel", "record", "()V"⟩, 15) := ⟨⟨by decide +kernel, by decide +kernel⟩, List.mem_of_getElem? (i := 587) (by decide +kernel), List.mem_of_getElem? (i := 658) (by decide +kernel), List.mem_of_getElem? (i := 659) (by decide +kernel)⟩
theorem lw_p11 : lw_okq (⟨"JettyHosesModel", "doArrive", "(IIII)I"⟩, 15) := ⟨⟨by decide +kernel, by decide +kernel⟩, List.mem_of_getElem? (i := 587) (by decide +kernel), List.mem_of_getElem? (i := 667) (by decide +kernel), List.mem_of_getElem? (i := 668) (by decide +kernel)⟩
theorem lw_p12 : lw_okq (⟨"JettyHosesModel", "setTanker", "(III)V"⟩, 15) := ⟨⟨by decide +kernel, by decide +kernel⟩, List.mem_of_getElem? (i := 587) (by decide +kernel), List.mem_of_getElem? (i := 671) (by decide +kernel), List.mem_of_getElem? (i := 672) (by decide +kernel)⟩
theorem lw_p13 : lw_okq (⟨"JettyHosesModel", "floats", "(II)Z"⟩, 15) := ⟨⟨by decide +kernel, by decide +kernel⟩, List.mem_of_getElem? (i := 587) (by decide +kernel), List.mem_of_getElem? (i := 679) (by decide +kernel), List.mem_of_getElem? (i := 680) (by decide +kernel)⟩
theorem lw_p14 : lw_okq (⟨"JettyHosesModel", "tideAt", "(I)I"⟩, 15) := ⟨⟨by decide +kernel, by decide +kernel⟩, List.mem_of_getElem? (i := 587) (by decide +kernel), List.mem_of_getElem? (i := 683) (by decide +kernel), List.mem_of_getElem? (i := 684) (by decide +kernel)⟩
theorem lw_p15 : lw_okq (⟨"JettyHosesModel", "draughtOf", "(I)I"⟩, 15) := ⟨⟨by decide +kernel, by decide +kernel⟩, List.mem_of_getElem? (i := 587) (by decide +kernel), List.mem_of_getElem? (i := 687) (by decide +kernel), List.mem_of_getElem? (i := 688) (by decide +kernel)⟩
def lw_privs_1 : List (MethodName × Nat) := [(⟨"JettyHoses", "keepPresent", "()V"⟩, 8), (⟨"JettyHoses", "recorded", "(I)I"⟩, 8), (⟨"JettyHoses", "recordKept", "()V"⟩, 8), (⟨"JettyHoses", "dropOldest", "()V"⟩, 8), (⟨"JettyHoses$Pad", "next", "()C"⟩, 8), (⟨"JettyHoses$Pad", "readUnits", "()Z"⟩, 8), (⟨"JettyHoses$Pad", "readNumber", "(I)I"⟩, 8), (⟨"JettyHoses$Pad", "readHoseOrder", "()Z"⟩, 8), (⟨"JettyHoses", "doOrder", "()I"⟩, 8), (⟨"JettyHosesModel", "setHose", "(III)V"⟩, 15), (⟨"JettyHosesModel", "record", "()V"⟩, 15), (⟨"JettyHosesModel", "doArrive", "(IIII)I"⟩, 15), (⟨"JettyHosesModel", "setTanker", "(III)V"⟩, 15), (⟨"JettyHosesModel", "floats", "(II)Z"⟩, 15), (⟨"JettyHosesModel", "tideAt", "(I)I"⟩, 15), (⟨"JettyHosesModel", "draughtOf", "(I)I"⟩, 15)]
theorem lw_r1 : ∀ q ∈ lw_privs_1, lw_okq q := List.forall_mem_cons.mpr ⟨lw_p0, List.forall_mem_cons.mpr ⟨lw_p1, List.forall_mem_cons.mpr ⟨lw_p2, List.forall_mem_cons.mpr ⟨lw_p3, List.forall_mem_cons.mpr ⟨lw_p4, List.forall_mem_cons.mpr ⟨lw_p5, List.forall_mem_cons.mpr ⟨lw_p6, List.forall_mem_cons.mpr ⟨lw_p7, List.forall_mem_cons.mpr ⟨lw_p8, List.forall_mem_cons.mpr ⟨lw_p9, List.forall_mem_cons.mpr ⟨lw_p10, List.forall_mem_cons.mpr ⟨lw_p11, List.forall_mem_cons.mpr ⟨lw_p12, List.forall_mem_cons.mpr ⟨lw_p13, List.forall_mem_cons.mpr ⟨lw_p14, List.forall_mem_cons.mpr ⟨lw_p15, fun _ h => absurd h List.not_mem_nil⟩⟩⟩⟩⟩⟩⟩⟩⟩⟩⟩⟩⟩⟩⟩⟩
theorem lw_p16 : lw_okq (⟨"JettyHosesModel", "unitsOf", "(I)I"⟩, 15) := ⟨⟨by decide +kernel, by decide +kernel⟩, List.mem_of_getElem? (i := 587) (by decide +kernel), List.mem_of_getElem? (i := 691) (by decide +kernel), List.mem_of_getElem? (i := 692) (by decide +kernel)⟩
theorem lw_p17 : lw_okq (⟨"JettyHosesModel", "ofTanker", "(II)I"⟩, 15) := ⟨⟨by decide +kernel, by decide +kernel⟩, List.mem_of_getElem? (i := 587) (by decide +kernel), List.mem_of_getElem? (i := 695) (by decide +kernel), List.mem_of_getElem? (i := 696) (by decide +kernel)⟩
theorem lw_p18 : lw_okq (⟨"JettyHosesModel", "connected", "()I"⟩, 15) := ⟨⟨by decide +kernel, by decide +kernel⟩, List.mem_of_getElem? (i := 587) (by decide +kernel), List.mem_of_getElem? (i := 704) (by decide +kernel), List.mem_of_getElem? (i := 705) (by decide +kernel)⟩
theorem lw_p19 : lw_okq (⟨"JettyHosesModel", "isConnected", "(I)Z"⟩, 15) := ⟨⟨by decide +kernel, by decide +kernel⟩, List.mem_of_getElem? (i := 587) (by decide +kernel), List.mem_of_getElem? (i := 708) (by decide +kernel), List.mem_of_getElem? (i := 709) (by decide +kernel)⟩
theorem lw_p20 : lw_okq (⟨"JettyHosesModel", "hoseOf", "(II)I"⟩, 15) := ⟨⟨by decide +kernel, by decide +kernel⟩, List.mem_of_getElem? (i := 587) (by decide +kernel), List.mem_of_getElem? (i := 712) (by decide +kernel), List.mem_of_getElem? (i := 713) (by decide +kernel)⟩
theorem lw_p21 : lw_okq (⟨"JettyHosesModel", "canConnect", "(I)Z"⟩, 15) := ⟨⟨by decide +kernel, by decide +kernel⟩, List.mem_of_getElem? (i := 587) (by decide +kernel), List.mem_of_getElem? (i := 731) (by decide +kernel), List.mem_of_getElem? (i := 732) (by decide +kernel)⟩
theorem lw_p22 : lw_okq (⟨"JettyHosesModel", "heightOf", "(I)I"⟩, 15) := ⟨⟨by decide +kernel, by decide +kernel⟩, List.mem_of_getElem? (i := 587) (by decide +kernel), List.mem_of_getElem? (i := 735) (by decide +kernel), List.mem_of_getElem? (i := 736) (by decide +kernel)⟩
theorem lw_p23 : lw_okq (⟨"JettyHosesModel", "tideNow", "()I"⟩, 15) := ⟨⟨by decide +kernel, by decide +kernel⟩, List.mem_of_getElem? (i := 587) (by decide +kernel), List.mem_of_getElem? (i := 739) (by decide +kernel), List.mem_of_getElem? (i := 740) (by decide +kernel)⟩
theorem lw_p24 : lw_okq (⟨"JettyHosesModel", "doConnect", "(II)I"⟩, 15) := ⟨⟨by decide +kernel, by decide +kernel⟩, List.mem_of_getElem? (i := 587) (by decide +kernel), List.mem_of_getElem? (i := 743) (by decide +kernel), List.mem_of_getElem? (i := 744) (by decide +kernel)⟩
theorem lw_p25 : lw_okq (⟨"JettyHosesModel", "doDisconnect", "(I)I"⟩, 15) := ⟨⟨by decide +kernel, by decide +kernel⟩, List.mem_of_getElem? (i := 587) (by decide +kernel), List.mem_of_getElem? (i := 751) (by decide +kernel), List.mem_of_getElem? (i := 752) (by decide +kernel)⟩
theorem lw_p26 : lw_okq (⟨"JettyHosesModel", "canFlush", "(I)Z"⟩, 15) := ⟨⟨by decide +kernel, by decide +kernel⟩, List.mem_of_getElem? (i := 587) (by decide +kernel), List.mem_of_getElem? (i := 759) (by decide +kernel), List.mem_of_getElem? (i := 760) (by decide +kernel)⟩
theorem lw_p27 : lw_okq (⟨"JettyHosesModel", "doFlush", "(I)I"⟩, 15) := ⟨⟨by decide +kernel, by decide +kernel⟩, List.mem_of_getElem? (i := 587) (by decide +kernel), List.mem_of_getElem? (i := 763) (by decide +kernel), List.mem_of_getElem? (i := 764) (by decide +kernel)⟩
theorem lw_p28 : lw_okq (⟨"JettyHosesModel", "burst", "()I"⟩, 15) := ⟨⟨by decide +kernel, by decide +kernel⟩, List.mem_of_getElem? (i := 587) (by decide +kernel), List.mem_of_getElem? (i := 774) (by decide +kernel), List.mem_of_getElem? (i := 775) (by decide +kernel)⟩
theorem lw_p29 : lw_okq (⟨"JettyHosesModel", "doPass", "(I)I"⟩, 15) := ⟨⟨by decide +kernel, by decide +kernel⟩, List.mem_of_getElem? (i := 587) (by decide +kernel), List.mem_of_getElem? (i := 790) (by decide +kernel), List.mem_of_getElem? (i := 791) (by decide +kernel)⟩
theorem lw_p30 : lw_okq (⟨"JettyHosesModel", "hour", "()I"⟩, 15) := ⟨⟨by decide +kernel, by decide +kernel⟩, List.mem_of_getElem? (i := 587) (by decide +kernel), List.mem_of_getElem? (i := 794) (by decide +kernel), List.mem_of_getElem? (i := 795) (by decide +kernel)⟩
theorem lw_p31 : lw_okq (⟨"JettyHosesModel", "bursts", "(I)V"⟩, 15) := ⟨⟨by decide +kernel, by decide +kernel⟩, List.mem_of_getElem? (i := 587) (by decide +kernel), List.mem_of_getElem? (i := 798) (by decide +kernel), List.mem_of_getElem? (i := 799) (by decide +kernel)⟩
def lw_privs_2 : List (MethodName × Nat) := [(⟨"JettyHosesModel", "unitsOf", "(I)I"⟩, 15), (⟨"JettyHosesModel", "ofTanker", "(II)I"⟩, 15), (⟨"JettyHosesModel", "connected", "()I"⟩, 15), (⟨"JettyHosesModel", "isConnected", "(I)Z"⟩, 15), (⟨"JettyHosesModel", "hoseOf", "(II)I"⟩, 15), (⟨"JettyHosesModel", "canConnect", "(I)Z"⟩, 15), (⟨"JettyHosesModel", "heightOf", "(I)I"⟩, 15), (⟨"JettyHosesModel", "tideNow", "()I"⟩, 15), (⟨"JettyHosesModel", "doConnect", "(II)I"⟩, 15), (⟨"JettyHosesModel", "doDisconnect", "(I)I"⟩, 15), (⟨"JettyHosesModel", "canFlush", "(I)Z"⟩, 15), (⟨"JettyHosesModel", "doFlush", "(I)I"⟩, 15), (⟨"JettyHosesModel", "burst", "()I"⟩, 15), (⟨"JettyHosesModel", "doPass", "(I)I"⟩, 15), (⟨"JettyHosesModel", "hour", "()I"⟩, 15), (⟨"JettyHosesModel", "bursts", "(I)V"⟩, 15)]
theorem lw_r2 : ∀ q ∈ lw_privs_2, lw_okq q := List.forall_mem_cons.mpr ⟨lw_p16, List.forall_mem_cons.mpr ⟨lw_p17, List.forall_mem_cons.mpr ⟨lw_p18, List.forall_mem_cons.mpr ⟨lw_p19, List.forall_mem_cons.mpr ⟨lw_p20, List.forall_mem_cons.mpr ⟨lw_p21, List.forall_mem_cons.mpr ⟨lw_p22, List.forall_mem_cons.mpr ⟨lw_p23, List.forall_mem_cons.mpr ⟨lw_p24, List.forall_mem_cons.mpr ⟨lw_p25, List.forall_mem_cons.mpr ⟨lw_p26, List.forall_mem_cons.mpr ⟨lw_p27, List.forall_mem_cons.mpr ⟨lw_p28, List.forall_mem_cons.mpr ⟨lw_p29, List.forall_mem_cons.mpr ⟨lw_p30, List.forall_mem_cons.mpr ⟨lw_p31, fun _ h => absurd h List.not_mem_nil⟩⟩⟩⟩⟩⟩⟩⟩⟩⟩⟩⟩⟩⟩⟩⟩
theorem lw_p32 : lw_okq (⟨"JettyHosesModel", "moves", "(I)I"⟩, 15) := ⟨⟨by decide +kernel, by decide +kernel⟩, List.mem_of_getElem? (i := 587) (by decide +kernel), List.mem_of_getElem? (i := 802) (by decide +kernel), List.mem_of_getElem? (i := 803) (by decide +kernel)⟩
theorem lw_p33 : lw_okq (⟨"JettyHosesModel", "isTanker", "(I)Z"⟩, 15) := ⟨⟨by decide +kernel, by decide +kernel⟩, List.mem_of_getElem? (i := 587) (by decide +kernel), List.mem_of_getElem? (i := 806) (by decide +kernel), List.mem_of_getElem? (i := 807) (by decide +kernel)⟩
theorem lw_p34 : lw_okq (⟨"JettyHosesModel", "safeHours", "(II)I"⟩, 15) := ⟨⟨by decide +kernel, by decide +kernel⟩, List.mem_of_getElem? (i := 587) (by decide +kernel), List.mem_of_getElem? (i := 838) (by decide +kernel), List.mem_of_getElem? (i := 839) (by decide +kernel)⟩
theorem lw_p35 : lw_okq (⟨"JettyHosesModel", "keepRow", "()V"⟩, 15) := ⟨⟨by decide +kernel, by decide +kernel⟩, List.mem_of_getElem? (i := 587) (by decide +kernel), List.mem_of_getElem? (i := 842) (by decide +kernel), List.mem_of_getElem? (i := 843) (by decide +kernel)⟩
theorem lw_p36 : lw_okq (⟨"JettyHosesModel", "putBack", "()V"⟩, 15) := ⟨⟨by decide +kernel, by decide +kernel⟩, List.mem_of_getElem? (i := 587) (by decide +kernel), List.mem_of_getElem? (i := 846) (by decide +kernel), List.mem_of_getElem? (i := 847) (by decide +kernel)⟩
theorem lw_p37 : lw_okq (⟨"JettyHosesModel", "spoiltInAll", "()I"⟩, 15) := ⟨⟨by decide +kernel, by decide +kernel⟩, List.mem_of_getElem? (i := 587) (by decide +kernel), List.mem_of_getElem? (i := 858) (by decide +kernel), List.mem_of_getElem? (i := 859) (by decide +kernel)⟩
theorem lw_p38 : lw_okq (⟨"JettyHosesModel", "findFault", "()I"⟩, 15) := ⟨⟨by decide +kernel, by decide +kernel⟩, List.mem_of_getElem? (i := 587) (by decide +kernel), List.mem_of_getElem? (i := 879) (by decide +kernel), List.mem_of_getElem? (i := 880) (by decide +kernel)⟩
theorem lw_p39 : lw_okq (⟨"JettyHosesModel", "readOrder", "()V"⟩, 15) := ⟨⟨by decide +kernel, by decide +kernel⟩, List.mem_of_getElem? (i := 587) (by decide +kernel), List.mem_of_getElem? (i := 883) (by decide +kernel), List.mem_of_getElem? (i := 884) (by decide +kernel)⟩
theorem lw_p40 : lw_okq (⟨"JettyHosesModel", "sign", "()I"⟩, 15) := ⟨⟨by decide +kernel, by decide +kernel⟩, List.mem_of_getElem? (i := 587) (by decide +kernel), List.mem_of_getElem? (i := 887) (by decide +kernel), List.mem_of_getElem? (i := 888) (by decide +kernel)⟩
theorem lw_p41 : lw_okq (⟨"JettyHosesModel", "isNext", "(II)Z"⟩, 15) := ⟨⟨by decide +kernel, by decide +kernel⟩, List.mem_of_getElem? (i := 587) (by decide +kernel), List.mem_of_getElem? (i := 891) (by decide +kernel), List.mem_of_getElem? (i := 892) (by decide +kernel)⟩
theorem lw_p42 : lw_okq (⟨"JettyHosesModel", "readHose", "()V"⟩, 15) := ⟨⟨by decide +kernel, by decide +kernel⟩, List.mem_of_getElem? (i := 587) (by decide +kernel), List.mem_of_getElem? (i := 895) (by decide +kernel), List.mem_of_getElem? (i := 896) (by decide +kernel)⟩
theorem lw_p43 : lw_okq (⟨"JettyHosesModel", "readUnits", "()V"⟩, 15) := ⟨⟨by decide +kernel, by decide +kernel⟩, List.mem_of_getElem? (i := 587) (by decide +kernel), List.mem_of_getElem? (i := 899) (by decide +kernel), List.mem_of_getElem? (i := 900) (by decide +kernel)⟩
theorem lw_p44 : lw_okq (⟨"JettyHosesModel", "readNumber", "(I)V"⟩, 15) := ⟨⟨by decide +kernel, by decide +kernel⟩, List.mem_of_getElem? (i := 587) (by decide +kernel), List.mem_of_getElem? (i := 903) (by decide +kernel), List.mem_of_getElem? (i := 904) (by decide +kernel)⟩
theorem lw_p45 : lw_okq (⟨"JettyHosesModel", "doOrder", "()Z"⟩, 15) := ⟨⟨by decide +kernel, by decide +kernel⟩, List.mem_of_getElem? (i := 587) (by decide +kernel), List.mem_of_getElem? (i := 912) (by decide +kernel), List.mem_of_getElem? (i := 913) (by decide +kernel)⟩
def lw_privs_3 : List (MethodName × Nat) := [(⟨"JettyHosesModel", "moves", "(I)I"⟩, 15), (⟨"JettyHosesModel", "isTanker", "(I)Z"⟩, 15), (⟨"JettyHosesModel", "safeHours", "(II)I"⟩, 15), (⟨"JettyHosesModel", "keepRow", "()V"⟩, 15), (⟨"JettyHosesModel", "putBack", "()V"⟩, 15), (⟨"JettyHosesModel", "spoiltInAll", "()I"⟩, 15), (⟨"JettyHosesModel", "findFault", "()I"⟩, 15), (⟨"JettyHosesModel", "readOrder", "()V"⟩, 15), (⟨"JettyHosesModel", "sign", "()I"⟩, 15), (⟨"JettyHosesModel", "isNext", "(II)Z"⟩, 15), (⟨"JettyHosesModel", "readHose", "()V"⟩, 15), (⟨"JettyHosesModel", "readUnits", "()V"⟩, 15), (⟨"JettyHosesModel", "readNumber", "(I)V"⟩, 15), (⟨"JettyHosesModel", "doOrder", "()Z"⟩, 15)]
theorem lw_r3 : ∀ q ∈ lw_privs_3, lw_okq q := List.forall_mem_cons.mpr ⟨lw_p32, List.forall_mem_cons.mpr ⟨lw_p33, List.forall_mem_cons.mpr ⟨lw_p34, List.forall_mem_cons.mpr ⟨lw_p35, List.forall_mem_cons.mpr ⟨lw_p36, List.forall_mem_cons.mpr ⟨lw_p37, List.forall_mem_cons.mpr ⟨lw_p38, List.forall_mem_cons.mpr ⟨lw_p39, List.forall_mem_cons.mpr ⟨lw_p40, List.forall_mem_cons.mpr ⟨lw_p41, List.forall_mem_cons.mpr ⟨lw_p42, List.forall_mem_cons.mpr ⟨lw_p43, List.forall_mem_cons.mpr ⟨lw_p44, List.forall_mem_cons.mpr ⟨lw_p45, fun _ h => absurd h List.not_mem_nil⟩⟩⟩⟩⟩⟩⟩⟩⟩⟩⟩⟩⟩⟩
def lw_privs : List (MethodName × Nat) := lw_privs_1 ++ (lw_privs_2 ++ (lw_privs_3))
def lw_tbl : List Cond := k2_sels lw_privs ++ tables_1
theorem lw_privs_ok : ∀ q ∈ lw_privs, lw_okq q := by
  show ∀ q ∈ lw_privs_1 ++ (lw_privs_2 ++ (lw_privs_3)), lw_okq q
  exact List.forall_mem_append.mpr ⟨lw_r1, List.forall_mem_append.mpr ⟨lw_r2, lw_r3⟩⟩
end
section
def RX0 : String := "JettyHoses$Hose"
def TX0 : u_T := fun k => match k with
  | 0 => ("JettyHoses$Hose", "reach", "I", false)
  | 1 => ("JettyHoses$Hose", "last", "I", false)
  | 2 => ("JettyHoses$Hose", "connected", "I", false)
  | 3 => ("JettyHoses$Hose", "isBurst", "Z", false)
  | 4 => ("JettyHoses$Hose", "moved", "I", false)
  | 5 => ("JettyHoses$Hose", "spoilt", "I", false)
  | _ => ("JettyHoses$Hose", "isStretching", "Z", false)
def tyX0 : Nat → FieldType := fun k => match k with
  | 0 => .int
  | 1 => .int
  | 2 => .int
  | 3 => .boolean
  | 4 => .int
  | 5 => .int
  | _ => .boolean
theorem nmX0 : ∀ a, a < 7 → ∀ b, b < 7 → a ≠ b → (TX0 a).2.1 ≠ (TX0 b).2.1 := by decide +kernel
theorem tyX0_ok : ∀ k, k < 7 → parseFieldDescriptor (TX0 k).2.2.1 = some (tyX0 k) := by decide +kernel
abbrev cX0_init : ByteArray := prog_2_method_1_code
def yX0_init : MethodName := ⟨RX0, "<init>", "()V"⟩
abbrev cX0_copyFrom : ByteArray := prog_2_method_2_code
def yX0_copyFrom : MethodName := ⟨RX0, "copyFrom", "(LJettyHoses$Hose;)V"⟩
abbrev cX0_isConnected : ByteArray := prog_2_method_3_code
def yX0_isConnected : MethodName := ⟨RX0, "isConnected", "()Z"⟩
abbrev cX0_hasOtherLast : ByteArray := prog_2_method_4_code
def yX0_hasOtherLast : MethodName := ⟨RX0, "hasOtherLast", "()Z"⟩
def RX1 : String := "JettyHoses$Jetty"
def TX1 : u_T := fun k => match k with
  | 0 => ("JettyHoses$Jetty", "settings", "[I", true)
  | 1 => ("JettyHoses$Jetty", "stored", "[I", true)
  | 2 => ("JettyHoses$Jetty", "spoilt", "[I", true)
  | 3 => ("JettyHoses$Jetty", "spilt", "[I", true)
  | 4 => ("JettyHoses$Jetty", "hoses", "[LJettyHoses$Hose;", true)
  | 5 => ("JettyHoses$Jetty", "tankers", "[LJettyHoses$Tanker;", true)
  | 6 => ("JettyHoses$Jetty", "isBerthTaken", "Z", false)
  | 7 => ("JettyHoses$Jetty", "waiting", "I", false)
  | 8 => ("JettyHoses$Jetty", "hour", "I", false)
  | 9 => ("JettyHoses$Jetty", "isBoomLaid", "Z", false)
  | 10 => ("JettyHoses$Jetty", "held", "I", false)
  | 11 => ("JettyHoses$Jetty", "lost", "I", false)
  | 12 => ("JettyHoses$Jetty", "caught", "I", false)
  | _ => ("JettyHoses$Jetty", "demurrage", "I", false)
def tyX1 : Nat → FieldType := fun k => match k with
  | 0 => .array .int
  | 1 => .array .int
  | 2 => .array .int
  | 3 => .array .int
  | 4 => .array (.object "JettyHoses$Hose")
  | 5 => .array (.object "JettyHoses$Tanker")
  | 6 => .boolean
  | 7 => .int
  | 8 => .int
  | 9 => .boolean
  | 10 => .int
  | 11 => .int
  | 12 => .int
  | _ => .int
theorem nmX1 : ∀ a, a < 14 → ∀ b, b < 14 → a ≠ b → (TX1 a).2.1 ≠ (TX1 b).2.1 := by decide +kernel
theorem tyX1_ok : ∀ k, k < 14 → parseFieldDescriptor (TX1 k).2.2.1 = some (tyX1 k) := by decide +kernel
abbrev cX1_init : ByteArray := prog_3_method_1_code
def yX1_init : MethodName := ⟨RX1, "<init>", "()V"⟩
abbrev cX1_copyFrom : ByteArray := prog_3_method_2_code
def yX1_copyFrom : MethodName := ⟨RX1, "copyFrom", "(LJettyHoses$Jetty;)V"⟩
abbrev cX1_tideAt : ByteArray := prog_3_method_3_code
def yX1_tideAt : MethodName := ⟨RX1, "tideAt", "(I)I"⟩
abbrev cX1_heightAt : ByteArray := prog_3_method_4_code
def yX1_heightAt : MethodName := ⟨RX1, "heightAt", "(II)I"⟩
abbrev cX1_floatsAt : ByteArray := prog_3_method_5_code
def yX1_floatsAt : MethodName := ⟨RX1, "floatsAt", "(II)Z"⟩
abbrev cX1_isTankerAt : ByteArray := prog_3_method_6_code
def yX1_isTankerAt : MethodName := ⟨RX1, "isTankerAt", "(I)Z"⟩
abbrev cX1_changeSetting : ByteArray := prog_3_method_7_code
def yX1_changeSetting : MethodName := ⟨RX1, "changeSetting", "(II)I"⟩
abbrev cX1_letArrive : ByteArray := prog_3_method_8_code
def yX1_letArrive : MethodName := ⟨RX1, "letArrive", "(IIII)I"⟩
abbrev cX1_isLoad : ByteArray := prog_3_method_9_code
def yX1_isLoad : MethodName := ⟨RX1, "isLoad", "(I)Z"⟩
abbrev cX1_letBerth : ByteArray := prog_3_method_10_code
def yX1_letBerth : MethodName := ⟨RX1, "letBerth", "()I"⟩
abbrev cX1_letLeave : ByteArray := prog_3_method_11_code
def yX1_letLeave : MethodName := ⟨RX1, "letLeave", "()I"⟩
abbrev cX1_changeReach : ByteArray := prog_3_method_12_code
def yX1_changeReach : MethodName := ⟨RX1, "changeReach", "(II)I"⟩
abbrev cX1_connectHose : ByteArray := prog_3_method_13_code
def yX1_connectHose : MethodName := ⟨RX1, "connectHose", "(II)I"⟩
abbrev cX1_disconnectHose : ByteArray := prog_3_method_14_code
def yX1_disconnectHose : MethodName := ⟨RX1, "disconnectHose", "(I)I"⟩
abbrev cX1_flushHose : ByteArray := prog_3_method_15_code
def yX1_flushHose : MethodName := ⟨RX1, "flushHose", "(I)I"⟩
abbrev cX1_mendHose : ByteArray := prog_3_method_16_code
def yX1_mendHose : MethodName := ⟨RX1, "mendHose", "(I)I"⟩
abbrev cX1_changeBoom : ByteArray := prog_3_method_17_code
def yX1_changeBoom : MethodName := ⟨RX1, "changeBoom", "(Z)I"⟩
abbrev cX1_drawUnits : ByteArray := prog_3_method_18_code
def yX1_drawUnits : MethodName := ⟨RX1, "drawUnits", "(II)I"⟩
abbrev cX1_letPass : ByteArray := prog_3_method_19_code
def yX1_letPass : MethodName := ⟨RX1, "letPass", "(I)I"⟩
abbrev cX1_nextHour : ByteArray := prog_3_method_20_code
def yX1_nextHour : MethodName := ⟨RX1, "nextHour", "()I"⟩
abbrev cX1_tearBoom : ByteArray := prog_3_method_21_code
def yX1_tearBoom : MethodName := ⟨RX1, "tearBoom", "()V"⟩
abbrev cX1_burstShortHoses : ByteArray := prog_3_method_22_code
def yX1_burstShortHoses : MethodName := ⟨RX1, "burstShortHoses", "()V"⟩
abbrev cX1_burst : ByteArray := prog_3_method_23_code
def yX1_burst : MethodName := ⟨RX1, "burst", "(LJettyHoses$Hose;)V"⟩
abbrev cX1_moveUnits : ByteArray := prog_3_method_24_code
def yX1_moveUnits : MethodName := ⟨RX1, "moveUnits", "()I"⟩
abbrev cX1_moveThrough : ByteArray := prog_3_method_25_code
def yX1_moveThrough : MethodName := ⟨RX1, "moveThrough", "(LJettyHoses$Hose;)I"⟩
abbrev cX1_lateTankers : ByteArray := prog_3_method_26_code
def yX1_lateTankers : MethodName := ⟨RX1, "lateTankers", "()I"⟩
abbrev cX1_connectedHoses : ByteArray := prog_3_method_27_code
def yX1_connectedHoses : MethodName := ⟨RX1, "connectedHoses", "()I"⟩
abbrev cX1_burstHoses : ByteArray := prog_3_method_28_code
def yX1_burstHoses : MethodName := ⟨RX1, "burstHoses", "()I"⟩
abbrev cX1_allSpoilt : ByteArray := prog_3_method_29_code
def yX1_allSpoilt : MethodName := ⟨RX1, "allSpoilt", "()I"⟩
abbrev cX1_unitsInTankers : ByteArray := prog_3_method_30_code
def yX1_unitsInTankers : MethodName := ⟨RX1, "unitsInTankers", "(I)I"⟩
abbrev cX1_aboutTanker : ByteArray := prog_3_method_31_code
def yX1_aboutTanker : MethodName := ⟨RX1, "aboutTanker", "(II)I"⟩
abbrev cX1_aboutHose : ByteArray := prog_3_method_32_code
def yX1_aboutHose : MethodName := ⟨RX1, "aboutHose", "(II)I"⟩
abbrev cX1_aboutGrade : ByteArray := prog_3_method_33_code
def yX1_aboutGrade : MethodName := ⟨RX1, "aboutGrade", "(II)I"⟩
abbrev cX1_number : ByteArray := prog_3_method_34_code
def yX1_number : MethodName := ⟨RX1, "number", "(I)I"⟩
def RX2 : String := "JettyHoses$Pad"
def TX2 : u_T := fun k => match k with
  | 0 => ("JettyHoses$Pad", "text", "[C", true)
  | 1 => ("JettyHoses$Pad", "length", "I", false)
  | 2 => ("JettyHoses$Pad", "at", "I", false)
  | 3 => ("JettyHoses$Pad", "order", "I", false)
  | 4 => ("JettyHoses$Pad", "hose", "I", false)
  | 5 => ("JettyHoses$Pad", "grade", "I", false)
  | 6 => ("JettyHoses$Pad", "hours", "I", false)
  | _ => ("JettyHoses$Pad", "units", "[I", true)
def tyX2 : Nat → FieldType := fun k => match k with
  | 0 => .array .char
  | 1 => .int
  | 2 => .int
  | 3 => .int
  | 4 => .int
  | 5 => .int
  | 6 => .int
  | _ => .array .int
theorem nmX2 : ∀ a, a < 8 → ∀ b, b < 8 → a ≠ b → (TX2 a).2.1 ≠ (TX2 b).2.1 := by decide +kernel
theorem tyX2_ok : ∀ k, k < 8 → parseFieldDescriptor (TX2 k).2.2.1 = some (tyX2 k) := by decide +kernel
abbrev cX2_init : ByteArray := prog_4_method_1_code
def yX2_init : MethodName := ⟨RX2, "<init>", "()V"⟩
abbrev cX2_append : ByteArray := prog_4_method_2_code
def yX2_append : MethodName := ⟨RX2, "append", "(J)I"⟩
abbrev cX2_charactersIn : ByteArray := prog_4_method_3_code
def yX2_charactersIn : MethodName := ⟨RX2, "charactersIn", "(J)I"⟩
abbrev cX2_firstFault : ByteArray := prog_4_method_4_code
def yX2_firstFault : MethodName := ⟨RX2, "firstFault", "()I"⟩
abbrev cX2_readOrder : ByteArray := prog_4_method_5_code
def yX2_readOrder : MethodName := ⟨RX2, "readOrder", "()Z"⟩
abbrev cX2_readHoseOrder : ByteArray := prog_4_method_6_code
def yX2_readHoseOrder : MethodName := ⟨RX2, "readHoseOrder", "()Z"⟩
abbrev cX2_readUnits : ByteArray := prog_4_method_7_code
def yX2_readUnits : MethodName := ⟨RX2, "readUnits", "()Z"⟩
abbrev cX2_readNumber : ByteArray := prog_4_method_8_code
def yX2_readNumber : MethodName := ⟨RX2, "readNumber", "(I)I"⟩
abbrev cX2_next : ByteArray := prog_4_method_9_code
def yX2_next : MethodName := ⟨RX2, "next", "()C"⟩
def RX3 : String := "JettyHoses$Tanker"
def TX3 : u_T := fun k => match k with
  | 0 => ("JettyHoses$Tanker", "units", "[I", true)
  | _ => ("JettyHoses$Tanker", "came", "I", false)
def tyX3 : Nat → FieldType := fun k => match k with
  | 0 => .array .int
  | _ => .int
theorem nmX3 : ∀ a, a < 2 → ∀ b, b < 2 → a ≠ b → (TX3 a).2.1 ≠ (TX3 b).2.1 := by decide +kernel
theorem tyX3_ok : ∀ k, k < 2 → parseFieldDescriptor (TX3 k).2.2.1 = some (tyX3 k) := by decide +kernel
abbrev cX3_init : ByteArray := prog_5_method_1_code
def yX3_init : MethodName := ⟨RX3, "<init>", "()V"⟩
abbrev cX3_copyFrom : ByteArray := prog_5_method_2_code
def yX3_copyFrom : MethodName := ⟨RX3, "copyFrom", "(LJettyHoses$Tanker;)V"⟩
abbrev cX3_allUnits : ByteArray := prog_5_method_3_code
def yX3_allUnits : MethodName := ⟨RX3, "allUnits", "()I"⟩
abbrev cX3_draught : ByteArray := prog_5_method_4_code
def yX3_draught : MethodName := ⟨RX3, "draught", "()I"⟩
def RX4 : String := "JettyHoses"
def TX4 : u_T := fun k => match k with
  | 0 => ("JettyHoses", "now", "LJettyHoses$Jetty;", true)
  | 1 => ("JettyHoses", "trial", "LJettyHoses$Jetty;", true)
  | 2 => ("JettyHoses", "pad", "LJettyHoses$Pad;", true)
  | 3 => ("JettyHoses", "history", "[LJettyHoses$Jetty;", true)
  | 4 => ("JettyHoses", "undoable", "I", false)
  | 5 => ("JettyHoses", "spare", "LJettyHoses$Jetty;", false)
  | 6 => ("JettyHoses", "slots", "[LJettyHoses$Jetty;", true)
  | _ => ("JettyHoses", "isSaved", "[Z", true)
def tyX4 : Nat → FieldType := fun k => match k with
  | 0 => .object "JettyHoses$Jetty"
  | 1 => .object "JettyHoses$Jetty"
  | 2 => .object "JettyHoses$Pad"
  | 3 => .array (.object "JettyHoses$Jetty")
  | 4 => .int
  | 5 => .object "JettyHoses$Jetty"
  | 6 => .array (.object "JettyHoses$Jetty")
  | _ => .array .boolean
theorem nmX4 : ∀ a, a < 8 → ∀ b, b < 8 → a ≠ b → (TX4 a).2.1 ≠ (TX4 b).2.1 := by decide +kernel
theorem tyX4_ok : ∀ k, k < 8 → parseFieldDescriptor (TX4 k).2.2.1 = some (tyX4 k) := by decide +kernel
abbrev cX4_init : ByteArray := prog_1_method_1_code
def yX4_init : MethodName := ⟨RX4, "<init>", "()V"⟩
abbrev cX4_set : ByteArray := prog_1_method_2_code
def yX4_set : MethodName := ⟨RX4, "set", "(II)I"⟩
abbrev cX4_arrive : ByteArray := prog_1_method_3_code
def yX4_arrive : MethodName := ⟨RX4, "arrive", "(IIII)I"⟩
abbrev cX4_berth : ByteArray := prog_1_method_4_code
def yX4_berth : MethodName := ⟨RX4, "berth", "()I"⟩
abbrev cX4_leave : ByteArray := prog_1_method_5_code
def yX4_leave : MethodName := ⟨RX4, "leave", "()I"⟩
abbrev cX4_reach : ByteArray := prog_1_method_6_code
def yX4_reach : MethodName := ⟨RX4, "reach", "(II)I"⟩
abbrev cX4_connect : ByteArray := prog_1_method_7_code
def yX4_connect : MethodName := ⟨RX4, "connect", "(II)I"⟩
abbrev cX4_disconnect : ByteArray := prog_1_method_8_code
def yX4_disconnect : MethodName := ⟨RX4, "disconnect", "(I)I"⟩
abbrev cX4_flush : ByteArray := prog_1_method_9_code
def yX4_flush : MethodName := ⟨RX4, "flush", "(I)I"⟩
abbrev cX4_mend : ByteArray := prog_1_method_10_code
def yX4_mend : MethodName := ⟨RX4, "mend", "(I)I"⟩
abbrev cX4_boom : ByteArray := prog_1_method_11_code
def yX4_boom : MethodName := ⟨RX4, "boom", "(Z)I"⟩
abbrev cX4_draw : ByteArray := prog_1_method_12_code
def yX4_draw : MethodName := ⟨RX4, "draw", "(II)I"⟩
abbrev cX4_pass : ByteArray := prog_1_method_13_code
def yX4_pass : MethodName := ⟨RX4, "pass", "(I)I"⟩
abbrev cX4_run : ByteArray := prog_1_method_14_code
def yX4_run : MethodName := ⟨RX4, "run", "()I"⟩
abbrev cX4_tanker : ByteArray := prog_1_method_15_code
def yX4_tanker : MethodName := ⟨RX4, "tanker", "(II)I"⟩
abbrev cX4_hose : ByteArray := prog_1_method_16_code
def yX4_hose : MethodName := ⟨RX4, "hose", "(II)I"⟩
abbrev cX4_grade : ByteArray := prog_1_method_17_code
def yX4_grade : MethodName := ⟨RX4, "grade", "(II)I"⟩
abbrev cX4_count : ByteArray := prog_1_method_18_code
def yX4_count : MethodName := ⟨RX4, "count", "(I)I"⟩
abbrev cX4_tide : ByteArray := prog_1_method_19_code
def yX4_tide : MethodName := ⟨RX4, "tide", "(I)I"⟩
abbrev cX4_untilFloats : ByteArray := prog_1_method_20_code
def yX4_untilFloats : MethodName := ⟨RX4, "untilFloats", "()I"⟩
abbrev cX4_safeFor : ByteArray := prog_1_method_21_code
def yX4_safeFor : MethodName := ⟨RX4, "safeFor", "(I)I"⟩
abbrev cX4_untilEmpty : ByteArray := prog_1_method_22_code
def yX4_untilEmpty : MethodName := ⟨RX4, "untilEmpty", "()I"⟩
abbrev cX4_ifPassed : ByteArray := prog_1_method_23_code
def yX4_ifPassed : MethodName := ⟨RX4, "ifPassed", "(II)I"⟩
abbrev cX4_leastReach : ByteArray := prog_1_method_24_code
def yX4_leastReach : MethodName := ⟨RX4, "leastReach", "(I)I"⟩
abbrev cX4_put : ByteArray := prog_1_method_25_code
def yX4_put : MethodName := ⟨RX4, "put", "(J)I"⟩
abbrev cX4_wipe : ByteArray := prog_1_method_26_code
def yX4_wipe : MethodName := ⟨RX4, "wipe", "()I"⟩
abbrev cX4_fault : ByteArray := prog_1_method_27_code
def yX4_fault : MethodName := ⟨RX4, "fault", "()I"⟩
abbrev cX4_undo : ByteArray := prog_1_method_28_code
def yX4_undo : MethodName := ⟨RX4, "undo", "()I"⟩
abbrev cX4_save : ByteArray := prog_1_method_29_code
def yX4_save : MethodName := ⟨RX4, "save", "(I)I"⟩
abbrev cX4_restore : ByteArray := prog_1_method_30_code
def yX4_restore : MethodName := ⟨RX4, "restore", "(I)I"⟩
abbrev cX4_keepPresent : ByteArray := prog_1_method_31_code
def yX4_keepPresent : MethodName := ⟨RX4, "keepPresent", "()V"⟩
abbrev cX4_recorded : ByteArray := prog_1_method_32_code
def yX4_recorded : MethodName := ⟨RX4, "recorded", "(I)I"⟩
abbrev cX4_recordKept : ByteArray := prog_1_method_33_code
def yX4_recordKept : MethodName := ⟨RX4, "recordKept", "()V"⟩
abbrev cX4_dropOldest : ByteArray := prog_1_method_34_code
def yX4_dropOldest : MethodName := ⟨RX4, "dropOldest", "()V"⟩
abbrev cX4_doOrder : ByteArray := prog_1_method_35_code
def yX4_doOrder : MethodName := ⟨RX4, "doOrder", "()I"⟩
abbrev cX4_isError : ByteArray := prog_1_method_36_code
def yX4_isError : MethodName := ⟨RX4, "isError", "(I)Z"⟩
abbrev cX4_isHose : ByteArray := prog_1_method_37_code
def yX4_isHose : MethodName := ⟨RX4, "isHose", "(I)Z"⟩
abbrev cX4_isGrade : ByteArray := prog_1_method_38_code
def yX4_isGrade : MethodName := ⟨RX4, "isGrade", "(I)Z"⟩
abbrev cX4_isSlot : ByteArray := prog_1_method_39_code
def yX4_isSlot : MethodName := ⟨RX4, "isSlot", "(I)Z"⟩
def RX5 : String := "JettyHosesModel"
def TX5 : u_T := fun k => match k with
  | 0 => ("JettyHosesModel", "z", "[I", true)
  | 1 => ("JettyHosesModel", "was", "[I", true)
  | 2 => ("JettyHosesModel", "before", "[I", true)
  | 3 => ("JettyHosesModel", "known", "I", false)
  | 4 => ("JettyHosesModel", "slots", "[I", true)
  | 5 => ("JettyHosesModel", "isSaved", "[Z", true)
  | 6 => ("JettyHosesModel", "pad", "[I", true)
  | 7 => ("JettyHosesModel", "length", "I", false)
  | 8 => ("JettyHosesModel", "place", "I", false)
  | 9 => ("JettyHosesModel", "isWrong", "Z", false)
  | 10 => ("JettyHosesModel", "kind", "I", false)
  | 11 => ("JettyHosesModel", "number", "I", false)
  | 12 => ("JettyHosesModel", "hoseRead", "I", false)
  | 13 => ("JettyHosesModel", "gradeRead", "I", false)
  | _ => ("JettyHosesModel", "unitsRead", "[I", true)
def tyX5 : Nat → FieldType := fun k => match k with
  | 0 => .array .int
  | 1 => .array .int
  | 2 => .array .int
  | 3 => .int
  | 4 => .array .int
  | 5 => .array .boolean
  | 6 => .array .int
  | 7 => .int
  | 8 => .int
  | 9 => .boolean
  | 10 => .int
  | 11 => .int
  | 12 => .int
  | 13 => .int
  | _ => .array .int
theorem nmX5 : ∀ a, a < 15 → ∀ b, b < 15 → a ≠ b → (TX5 a).2.1 ≠ (TX5 b).2.1 := by decide +kernel
theorem tyX5_ok : ∀ k, k < 15 → parseFieldDescriptor (TX5 k).2.2.1 = some (tyX5 k) := by decide +kernel
abbrev cX5_init : ByteArray := prog_7_method_1_code
def yX5_init : MethodName := ⟨RX5, "<init>", "()V"⟩
abbrev cX5_in : ByteArray := prog_7_method_3_code
def yX5_in : MethodName := ⟨RX5, "in", "(III)Z"⟩
abbrev cX5_least : ByteArray := prog_7_method_4_code
def yX5_least : MethodName := ⟨RX5, "least", "(II)I"⟩
abbrev cX5_record : ByteArray := prog_7_method_5_code
def yX5_record : MethodName := ⟨RX5, "record", "()V"⟩
abbrev cX5_tideAt : ByteArray := prog_7_method_6_code
def yX5_tideAt : MethodName := ⟨RX5, "tideAt", "(I)I"⟩
abbrev cX5_tideNow : ByteArray := prog_7_method_7_code
def yX5_tideNow : MethodName := ⟨RX5, "tideNow", "()I"⟩
abbrev cX5_ofTanker : ByteArray := prog_7_method_8_code
def yX5_ofTanker : MethodName := ⟨RX5, "ofTanker", "(II)I"⟩
abbrev cX5_setTanker : ByteArray := prog_7_method_9_code
def yX5_setTanker : MethodName := ⟨RX5, "setTanker", "(III)V"⟩
abbrev cX5_unitsOf : ByteArray := prog_7_method_10_code
def yX5_unitsOf : MethodName := ⟨RX5, "unitsOf", "(I)I"⟩
abbrev cX5_draughtOf : ByteArray := prog_7_method_11_code
def yX5_draughtOf : MethodName := ⟨RX5, "draughtOf", "(I)I"⟩
abbrev cX5_heightOf : ByteArray := prog_7_method_12_code
def yX5_heightOf : MethodName := ⟨RX5, "heightOf", "(I)I"⟩
abbrev cX5_floats : ByteArray := prog_7_method_13_code
def yX5_floats : MethodName := ⟨RX5, "floats", "(II)Z"⟩
abbrev cX5_isTanker : ByteArray := prog_7_method_14_code
def yX5_isTanker : MethodName := ⟨RX5, "isTanker", "(I)Z"⟩
abbrev cX5_hoseOf : ByteArray := prog_7_method_15_code
def yX5_hoseOf : MethodName := ⟨RX5, "hoseOf", "(II)I"⟩
abbrev cX5_setHose : ByteArray := prog_7_method_16_code
def yX5_setHose : MethodName := ⟨RX5, "setHose", "(III)V"⟩
abbrev cX5_isHose : ByteArray := prog_7_method_17_code
def yX5_isHose : MethodName := ⟨RX5, "isHose", "(I)Z"⟩
abbrev cX5_isGrade : ByteArray := prog_7_method_18_code
def yX5_isGrade : MethodName := ⟨RX5, "isGrade", "(I)Z"⟩
abbrev cX5_isConnected : ByteArray := prog_7_method_19_code
def yX5_isConnected : MethodName := ⟨RX5, "isConnected", "(I)Z"⟩
abbrev cX5_connected : ByteArray := prog_7_method_20_code
def yX5_connected : MethodName := ⟨RX5, "connected", "()I"⟩
abbrev cX5_burst : ByteArray := prog_7_method_21_code
def yX5_burst : MethodName := ⟨RX5, "burst", "()I"⟩
abbrev cX5_spoiltInAll : ByteArray := prog_7_method_22_code
def yX5_spoiltInAll : MethodName := ⟨RX5, "spoiltInAll", "()I"⟩
abbrev cX5_bursts : ByteArray := prog_7_method_23_code
def yX5_bursts : MethodName := ⟨RX5, "bursts", "(I)V"⟩
abbrev cX5_moves : ByteArray := prog_7_method_24_code
def yX5_moves : MethodName := ⟨RX5, "moves", "(I)I"⟩
abbrev cX5_hour : ByteArray := prog_7_method_25_code
def yX5_hour : MethodName := ⟨RX5, "hour", "()I"⟩
abbrev cX5_lowest : ByteArray := prog_7_method_26_code
def yX5_lowest : MethodName := ⟨RX5, "lowest", "(I)I"⟩
abbrev cX5_highest : ByteArray := prog_7_method_27_code
def yX5_highest : MethodName := ⟨RX5, "highest", "(I)I"⟩
abbrev cX5_set : ByteArray := prog_7_method_28_code
def yX5_set : MethodName := ⟨RX5, "set", "(II)I"⟩
abbrev cX5_doArrive : ByteArray := prog_7_method_29_code
def yX5_doArrive : MethodName := ⟨RX5, "doArrive", "(IIII)I"⟩
abbrev cX5_arrive : ByteArray := prog_7_method_30_code
def yX5_arrive : MethodName := ⟨RX5, "arrive", "(IIII)I"⟩
abbrev cX5_berth : ByteArray := prog_7_method_31_code
def yX5_berth : MethodName := ⟨RX5, "berth", "()I"⟩
abbrev cX5_leave : ByteArray := prog_7_method_32_code
def yX5_leave : MethodName := ⟨RX5, "leave", "()I"⟩
abbrev cX5_reach : ByteArray := prog_7_method_33_code
def yX5_reach : MethodName := ⟨RX5, "reach", "(II)I"⟩
abbrev cX5_canConnect : ByteArray := prog_7_method_34_code
def yX5_canConnect : MethodName := ⟨RX5, "canConnect", "(I)Z"⟩
abbrev cX5_doConnect : ByteArray := prog_7_method_35_code
def yX5_doConnect : MethodName := ⟨RX5, "doConnect", "(II)I"⟩
abbrev cX5_connect : ByteArray := prog_7_method_36_code
def yX5_connect : MethodName := ⟨RX5, "connect", "(II)I"⟩
abbrev cX5_doDisconnect : ByteArray := prog_7_method_37_code
def yX5_doDisconnect : MethodName := ⟨RX5, "doDisconnect", "(I)I"⟩
abbrev cX5_disconnect : ByteArray := prog_7_method_38_code
def yX5_disconnect : MethodName := ⟨RX5, "disconnect", "(I)I"⟩
abbrev cX5_canFlush : ByteArray := prog_7_method_39_code
def yX5_canFlush : MethodName := ⟨RX5, "canFlush", "(I)Z"⟩
abbrev cX5_doFlush : ByteArray := prog_7_method_40_code
def yX5_doFlush : MethodName := ⟨RX5, "doFlush", "(I)I"⟩
abbrev cX5_flush : ByteArray := prog_7_method_41_code
def yX5_flush : MethodName := ⟨RX5, "flush", "(I)I"⟩
abbrev cX5_mend : ByteArray := prog_7_method_42_code
def yX5_mend : MethodName := ⟨RX5, "mend", "(I)I"⟩
abbrev cX5_boom : ByteArray := prog_7_method_43_code
def yX5_boom : MethodName := ⟨RX5, "boom", "(Z)I"⟩
abbrev cX5_draw : ByteArray := prog_7_method_44_code
def yX5_draw : MethodName := ⟨RX5, "draw", "(II)I"⟩
abbrev cX5_doPass : ByteArray := prog_7_method_45_code
def yX5_doPass : MethodName := ⟨RX5, "doPass", "(I)I"⟩
abbrev cX5_pass : ByteArray := prog_7_method_46_code
def yX5_pass : MethodName := ⟨RX5, "pass", "(I)I"⟩
abbrev cX5_tanker : ByteArray := prog_7_method_47_code
def yX5_tanker : MethodName := ⟨RX5, "tanker", "(II)I"⟩
abbrev cX5_hose : ByteArray := prog_7_method_48_code
def yX5_hose : MethodName := ⟨RX5, "hose", "(II)I"⟩
abbrev cX5_grade : ByteArray := prog_7_method_49_code
def yX5_grade : MethodName := ⟨RX5, "grade", "(II)I"⟩
abbrev cX5_count : ByteArray := prog_7_method_50_code
def yX5_count : MethodName := ⟨RX5, "count", "(I)I"⟩
abbrev cX5_tide : ByteArray := prog_7_method_51_code
def yX5_tide : MethodName := ⟨RX5, "tide", "(I)I"⟩
abbrev cX5_keepRow : ByteArray := prog_7_method_52_code
def yX5_keepRow : MethodName := ⟨RX5, "keepRow", "()V"⟩
abbrev cX5_putBack : ByteArray := prog_7_method_53_code
def yX5_putBack : MethodName := ⟨RX5, "putBack", "()V"⟩
abbrev cX5_untilFloats : ByteArray := prog_7_method_54_code
def yX5_untilFloats : MethodName := ⟨RX5, "untilFloats", "()I"⟩
abbrev cX5_safeHours : ByteArray := prog_7_method_55_code
def yX5_safeHours : MethodName := ⟨RX5, "safeHours", "(II)I"⟩
abbrev cX5_safeFor : ByteArray := prog_7_method_56_code
def yX5_safeFor : MethodName := ⟨RX5, "safeFor", "(I)I"⟩
abbrev cX5_untilEmpty : ByteArray := prog_7_method_57_code
def yX5_untilEmpty : MethodName := ⟨RX5, "untilEmpty", "()I"⟩
abbrev cX5_ifPassed : ByteArray := prog_7_method_58_code
def yX5_ifPassed : MethodName := ⟨RX5, "ifPassed", "(II)I"⟩
abbrev cX5_leastReach : ByteArray := prog_7_method_59_code
def yX5_leastReach : MethodName := ⟨RX5, "leastReach", "(I)I"⟩
abbrev cX5_put : ByteArray := prog_7_method_60_code
def yX5_put : MethodName := ⟨RX5, "put", "(J)I"⟩
abbrev cX5_wipe : ByteArray := prog_7_method_61_code
def yX5_wipe : MethodName := ⟨RX5, "wipe", "()I"⟩
abbrev cX5_sign : ByteArray := prog_7_method_62_code
def yX5_sign : MethodName := ⟨RX5, "sign", "()I"⟩
abbrev cX5_isNext : ByteArray := prog_7_method_63_code
def yX5_isNext : MethodName := ⟨RX5, "isNext", "(II)Z"⟩
abbrev cX5_readNumber : ByteArray := prog_7_method_64_code
def yX5_readNumber : MethodName := ⟨RX5, "readNumber", "(I)V"⟩
abbrev cX5_readUnits : ByteArray := prog_7_method_65_code
def yX5_readUnits : MethodName := ⟨RX5, "readUnits", "()V"⟩
abbrev cX5_readHose : ByteArray := prog_7_method_66_code
def yX5_readHose : MethodName := ⟨RX5, "readHose", "()V"⟩
abbrev cX5_readOrder : ByteArray := prog_7_method_67_code
def yX5_readOrder : MethodName := ⟨RX5, "readOrder", "()V"⟩
abbrev cX5_findFault : ByteArray := prog_7_method_68_code
def yX5_findFault : MethodName := ⟨RX5, "findFault", "()I"⟩
abbrev cX5_fault : ByteArray := prog_7_method_69_code
def yX5_fault : MethodName := ⟨RX5, "fault", "()I"⟩
abbrev cX5_doOrder : ByteArray := prog_7_method_70_code
def yX5_doOrder : MethodName := ⟨RX5, "doOrder", "()Z"⟩
abbrev cX5_run : ByteArray := prog_7_method_71_code
def yX5_run : MethodName := ⟨RX5, "run", "()I"⟩
abbrev cX5_undo : ByteArray := prog_7_method_72_code
def yX5_undo : MethodName := ⟨RX5, "undo", "()I"⟩
abbrev cX5_save : ByteArray := prog_7_method_73_code
def yX5_save : MethodName := ⟨RX5, "save", "(I)I"⟩
abbrev cX5_restore : ByteArray := prog_7_method_74_code
def yX5_restore : MethodName := ⟨RX5, "restore", "(I)I"⟩
def RJx8e188 : String := "java/lang/Cloneable"
def TJx8e188 : u_T := fun k => match k with
  | _ => ("", "", "", false)
def tyJx8e188 : Nat → FieldType := fun k => match k with
  | _ => .int
theorem nmJx8e188 : ∀ a, a < 0 → ∀ b, b < 0 → a ≠ b → (TJx8e188 a).2.1 ≠ (TJx8e188 b).2.1 := by decide +kernel
theorem tyJx8e188_ok : ∀ k, k < 0 → parseFieldDescriptor (TJx8e188 k).2.2.1 = some (tyJx8e188 k) := by decide +kernel
def RJ9 : String := "java/lang/Math"
def TJ9 : u_T := fun k => match k with
  | _ => ("", "", "", false)
def tyJ9 : Nat → FieldType := fun k => match k with
  | _ => .int
theorem nmJ9 : ∀ a, a < 0 → ∀ b, b < 0 → a ≠ b → (TJ9 a).2.1 ≠ (TJ9 b).2.1 := by decide +kernel
theorem tyJ9_ok : ∀ k, k < 0 → parseFieldDescriptor (TJ9 k).2.2.1 = some (tyJ9 k) := by decide +kernel
abbrev cJ9_floorMod_7cf53 : ByteArray := prog_9_method_50_code
def yJ9_floorMod_7cf53 : MethodName := ⟨RJ9, "floorMod", "(II)I"⟩
abbrev cJ9_abs_0f7a4 : ByteArray := prog_9_method_59_code
def yJ9_abs_0f7a4 : MethodName := ⟨RJ9, "abs", "(I)I"⟩
abbrev cJ9_min_7cf53 : ByteArray := prog_9_method_69_code
def yJ9_min_7cf53 : MethodName := ⟨RJ9, "min", "(II)I"⟩
def RJ10 : String := "java/lang/System"
def TJ10 : u_T := fun k => match k with
  | _ => ("", "", "", false)
def tyJ10 : Nat → FieldType := fun k => match k with
  | _ => .int
theorem nmJ10 : ∀ a, a < 0 → ∀ b, b < 0 → a ≠ b → (TJ10 a).2.1 ≠ (TJ10 b).2.1 := by decide +kernel
theorem tyJ10_ok : ∀ k, k < 0 → parseFieldDescriptor (TJ10 k).2.2.1 = some (tyJ10 k) := by decide +kernel
def RL : String := "JettyHosesLaw"
abbrev cL_law : ByteArray := code
def yL_law : MethodName := ⟨RL, "law", "([I)Z"⟩
end
section
theorem dX0_init_0 : decode cX0_init 0 = .ok (.aload_n 0, 1) := by decide +kernel
theorem dX0_init_1 : decode cX0_init 1 = .ok (.invokespecial 3, 3) := by decide +kernel
theorem dX0_init_4 : decode cX0_init 4 = .ok (.aload_n 0, 1) := by decide +kernel
theorem dX0_init_5 : decode cX0_init 5 = .ok (.bipush 90, 2) := by decide +kernel
theorem dX0_init_7 : decode cX0_init 7 = .ok (.putfield 9, 3) := by decide +kernel
theorem dX0_init_10 : decode cX0_init 10 = .ok (.aload_n 0, 1) := by decide +kernel
theorem dX0_init_11 : decode cX0_init 11 = .ok (.ldc 15, 2) := by decide +kernel
theorem dX0_init_13 : decode cX0_init 13 = .ok (.putfield 16, 3) := by decide +kernel
theorem dX0_init_16 : decode cX0_init 16 = .ok (.aload_n 0, 1) := by decide +kernel
theorem dX0_init_17 : decode cX0_init 17 = .ok (.ldc 15, 2) := by decide +kernel
theorem dX0_init_19 : decode cX0_init 19 = .ok (.putfield 19, 3) := by decide +kernel
theorem dX0_init_22 : decode cX0_init 22 = .ok (.aload_n 0, 1) := by decide +kernel
theorem dX0_init_23 : decode cX0_init 23 = .ok (.iconst 0, 1) := by decide +kernel
theorem dX0_init_24 : decode cX0_init 24 = .ok (.putfield 22, 3) := by decide +kernel
theorem dX0_init_27 : decode cX0_init 27 = .ok (.aload_n 0, 1) := by decide +kernel
theorem dX0_init_28 : decode cX0_init 28 = .ok (.iconst 0, 1) := by decide +kernel
theorem dX0_init_29 : decode cX0_init 29 = .ok (.putfield 26, 3) := by decide +kernel
theorem dX0_init_32 : decode cX0_init 32 = .ok (.aload_n 0, 1) := by decide +kernel
theorem dX0_init_33 : decode cX0_init 33 = .ok (.iconst 0, 1) := by decide +kernel
theorem dX0_init_34 : decode cX0_init 34 = .ok (.putfield 29, 3) := by decide +kernel
theorem dX0_init_37 : decode cX0_init 37 = .ok (.aload_n 0, 1) := by decide +kernel
theorem dX0_init_38 : decode cX0_init 38 = .ok (.iconst 0, 1) := by decide +kernel
theorem dX0_init_39 : decode cX0_init 39 = .ok (.putfield 32, 3) := by decide +kernel
theorem dX0_init_42 : decode cX0_init 42 = .ok (.return_, 1) := by decide +kernel
theorem dX0_copyFrom_0 : decode cX0_copyFrom 0 = .ok (.aload_n 0, 1) := by decide +kernel
theorem dX0_copyFrom_1 : decode cX0_copyFrom 1 = .ok (.aload_n 1, 1) := by decide +kernel
theorem dX0_copyFrom_2 : decode cX0_copyFrom 2 = .ok (.getfield 9, 3) := by decide +kernel
theorem dX0_copyFrom_5 : decode cX0_copyFrom 5 = .ok (.putfield 9, 3) := by decide +kernel
theorem dX0_copyFrom_8 : decode cX0_copyFrom 8 = .ok (.aload_n 0, 1) := by decide +kernel
theorem dX0_copyFrom_9 : decode cX0_copyFrom 9 = .ok (.aload_n 1, 1) := by decide +kernel
theorem dX0_copyFrom_10 : decode cX0_copyFrom 10 = .ok (.getfield 16, 3) := by decide +kernel
theorem dX0_copyFrom_13 : decode cX0_copyFrom 13 = .ok (.putfield 16, 3) := by decide +kernel
theorem dX0_copyFrom_16 : decode cX0_copyFrom 16 = .ok (.aload_n 0, 1) := by decide +kernel
theorem dX0_copyFrom_17 : decode cX0_copyFrom 17 = .ok (.aload_n 1, 1) := by decide +kernel
theorem dX0_copyFrom_18 : decode cX0_copyFrom 18 = .ok (.getfield 19, 3) := by decide +kernel
theorem dX0_copyFrom_21 : decode cX0_copyFrom 21 = .ok (.putfield 19, 3) := by decide +kernel
theorem dX0_copyFrom_24 : decode cX0_copyFrom 24 = .ok (.aload_n 0, 1) := by decide +kernel
theorem dX0_copyFrom_25 : decode cX0_copyFrom 25 = .ok (.aload_n 1, 1) := by decide +kernel
theorem dX0_copyFrom_26 : decode cX0_copyFrom 26 = .ok (.getfield 22, 3) := by decide +kernel
theorem dX0_copyFrom_29 : decode cX0_copyFrom 29 = .ok (.putfield 22, 3) := by decide +kernel
theorem dX0_copyFrom_32 : decode cX0_copyFrom 32 = .ok (.aload_n 0, 1) := by decide +kernel
theorem dX0_copyFrom_33 : decode cX0_copyFrom 33 = .ok (.aload_n 1, 1) := by decide +kernel
theorem dX0_copyFrom_34 : decode cX0_copyFrom 34 = .ok (.getfield 26, 3) := by decide +kernel
theorem dX0_copyFrom_37 : decode cX0_copyFrom 37 = .ok (.putfield 26, 3) := by decide +kernel
theorem dX0_copyFrom_40 : decode cX0_copyFrom 40 = .ok (.aload_n 0, 1) := by decide +kernel
theorem dX0_copyFrom_41 : decode cX0_copyFrom 41 = .ok (.aload_n 1, 1) := by decide +kernel
theorem dX0_copyFrom_42 : decode cX0_copyFrom 42 = .ok (.getfield 29, 3) := by decide +kernel
theorem dX0_copyFrom_45 : decode cX0_copyFrom 45 = .ok (.putfield 29, 3) := by decide +kernel
theorem dX0_copyFrom_48 : decode cX0_copyFrom 48 = .ok (.aload_n 0, 1) := by decide +kernel
theorem dX0_copyFrom_49 : decode cX0_copyFrom 49 = .ok (.aload_n 1, 1) := by decide +kernel
theorem dX0_copyFrom_50 : decode cX0_copyFrom 50 = .ok (.getfield 32, 3) := by decide +kernel
theorem dX0_copyFrom_53 : decode cX0_copyFrom 53 = .ok (.putfield 32, 3) := by decide +kernel
theorem dX0_copyFrom_56 : decode cX0_copyFrom 56 = .ok (.return_, 1) := by decide +kernel
theorem dX0_isConnected_0 : decode cX0_isConnected 0 = .ok (.aload_n 0, 1) := by decide +kernel
theorem dX0_isConnected_1 : decode cX0_isConnected 1 = .ok (.getfield 19, 3) := by decide +kernel
theorem dX0_isConnected_4 : decode cX0_isConnected 4 = .ok (.invokestatic 35, 3) := by decide +kernel
theorem dX0_isConnected_7 : decode cX0_isConnected 7 = .ok (.ireturn, 1) := by decide +kernel
theorem dX0_hasOtherLast_0 : decode cX0_hasOtherLast 0 = .ok (.aload_n 0, 1) := by decide +kernel
theorem dX0_hasOtherLast_1 : decode cX0_hasOtherLast 1 = .ok (.getfield 16, 3) := by decide +kernel
theorem dX0_hasOtherLast_4 : decode cX0_hasOtherLast 4 = .ok (.ldc 15, 2) := by decide +kernel
theorem dX0_hasOtherLast_6 : decode cX0_hasOtherLast 6 = .ok (.if_icmp .eq 18, 3) := by decide +kernel
theorem dX0_hasOtherLast_9 : decode cX0_hasOtherLast 9 = .ok (.aload_n 0, 1) := by decide +kernel
theorem dX0_hasOtherLast_10 : decode cX0_hasOtherLast 10 = .ok (.getfield 16, 3) := by decide +kernel
theorem dX0_hasOtherLast_13 : decode cX0_hasOtherLast 13 = .ok (.aload_n 0, 1) := by decide +kernel
theorem dX0_hasOtherLast_14 : decode cX0_hasOtherLast 14 = .ok (.getfield 19, 3) := by decide +kernel
theorem dX0_hasOtherLast_17 : decode cX0_hasOtherLast 17 = .ok (.if_icmp .eq 7, 3) := by decide +kernel
theorem dX0_hasOtherLast_20 : decode cX0_hasOtherLast 20 = .ok (.iconst 1, 1) := by decide +kernel
theorem dX0_hasOtherLast_21 : decode cX0_hasOtherLast 21 = .ok (.goto 4, 3) := by decide +kernel
theorem dX0_hasOtherLast_24 : decode cX0_hasOtherLast 24 = .ok (.iconst 0, 1) := by decide +kernel
theorem dX0_hasOtherLast_25 : decode cX0_hasOtherLast 25 = .ok (.ireturn, 1) := by decide +kernel
theorem dX1_init_0 : decode cX1_init 0 = .ok (.aload_n 0, 1) := by decide +kernel
theorem dX1_init_1 : decode cX1_init 1 = .ok (.invokespecial 3, 3) := by decide +kernel
theorem dX1_init_4 : decode cX1_init 4 = .ok (.aload_n 0, 1) := by decide +kernel
theorem dX1_init_5 : decode cX1_init 5 = .ok (.getstatic 9, 3) := by decide +kernel
theorem dX1_init_8 : decode cX1_init 8 = .ok (.invokevirtual 13, 3) := by decide +kernel
theorem dX1_init_11 : decode cX1_init 11 = .ok (.checkcast 14, 3) := by decide +kernel
theorem dX1_init_14 : decode cX1_init 14 = .ok (.putfield 18, 3) := by decide +kernel
theorem dX1_init_17 : decode cX1_init 17 = .ok (.aload_n 0, 1) := by decide +kernel
theorem dX1_init_18 : decode cX1_init 18 = .ok (.iconst 4, 1) := by decide +kernel
theorem dX1_init_19 : decode cX1_init 19 = .ok (.newarray .int, 2) := by decide +kernel
theorem dX1_init_21 : decode cX1_init 21 = .ok (.putfield 23, 3) := by decide +kernel
theorem dX1_init_24 : decode cX1_init 24 = .ok (.aload_n 0, 1) := by decide +kernel
theorem dX1_init_25 : decode cX1_init 25 = .ok (.iconst 4, 1) := by decide +kernel
theorem dX1_init_26 : decode cX1_init 26 = .ok (.newarray .int, 2) := by decide +kernel
theorem dX1_init_28 : decode cX1_init 28 = .ok (.putfield 26, 3) := by decide +kernel
theorem dX1_init_31 : decode cX1_init 31 = .ok (.aload_n 0, 1) := by decide +kernel
theorem dX1_init_32 : decode cX1_init 32 = .ok (.iconst 4, 1) := by decide +kernel
theorem dX1_init_33 : decode cX1_init 33 = .ok (.newarray .int, 2) := by decide +kernel
theorem dX1_init_35 : decode cX1_init 35 = .ok (.putfield 29, 3) := by decide +kernel
theorem dX1_init_38 : decode cX1_init 38 = .ok (.aload_n 0, 1) := by decide +kernel
theorem dX1_init_39 : decode cX1_init 39 = .ok (.iconst 4, 1) := by decide +kernel
theorem dX1_init_40 : decode cX1_init 40 = .ok (.anewarray 32, 3) := by decide +kernel
theorem dX1_init_43 : decode cX1_init 43 = .ok (.putfield 34, 3) := by decide +kernel
theorem dX1_init_46 : decode cX1_init 46 = .ok (.aload_n 0, 1) := by decide +kernel
theorem dX1_init_47 : decode cX1_init 47 = .ok (.bipush 6, 2) := by decide +kernel
theorem dX1_init_49 : decode cX1_init 49 = .ok (.anewarray 38, 3) := by decide +kernel
theorem dX1_init_52 : decode cX1_init 52 = .ok (.putfield 40, 3) := by decide +kernel
theorem dX1_init_55 : decode cX1_init 55 = .ok (.aload_n 0, 1) := by decide +kernel
theorem dX1_init_56 : decode cX1_init 56 = .ok (.iconst 0, 1) := by decide +kernel
theorem dX1_init_57 : decode cX1_init 57 = .ok (.putfield 44, 3) := by decide +kernel
theorem dX1_init_60 : decode cX1_init 60 = .ok (.aload_n 0, 1) := by decide +kernel
theorem dX1_init_61 : decode cX1_init 61 = .ok (.iconst 0, 1) := by decide +kernel
theorem dX1_init_62 : decode cX1_init 62 = .ok (.putfield 48, 3) := by decide +kernel
theorem dX1_init_65 : decode cX1_init 65 = .ok (.aload_n 0, 1) := by decide +kernel
theorem dX1_init_66 : decode cX1_init 66 = .ok (.iconst 0, 1) := by decide +kernel
theorem dX1_init_67 : decode cX1_init 67 = .ok (.putfield 52, 3) := by decide +kernel
theorem dX1_init_70 : decode cX1_init 70 = .ok (.aload_n 0, 1) := by decide +kernel
theorem dX1_init_71 : decode cX1_init 71 = .ok (.iconst 0, 1) := by decide +kernel
theorem dX1_init_72 : decode cX1_init 72 = .ok (.putfield 55, 3) := by decide +kernel
theorem dX1_init_75 : decode cX1_init 75 = .ok (.aload_n 0, 1) := by decide +kernel
theorem dX1_init_76 : decode cX1_init 76 = .ok (.iconst 0, 1) := by decide +kernel
theorem dX1_init_77 : decode cX1_init 77 = .ok (.putfield 58, 3) := by decide +kernel
theorem dX1_init_80 : decode cX1_init 80 = .ok (.aload_n 0, 1) := by decide +kernel
theorem dX1_init_81 : decode cX1_init 81 = .ok (.iconst 0, 1) := by decide +kernel
theorem dX1_init_82 : decode cX1_init 82 = .ok (.putfield 61, 3) := by decide +kernel
theorem dX1_init_85 : decode cX1_init 85 = .ok (.aload_n 0, 1) := by decide +kernel
theorem dX1_init_86 : decode cX1_init 86 = .ok (.iconst 0, 1) := by decide +kernel
theorem dX1_init_87 : decode cX1_init 87 = .ok (.putfield 64, 3) := by decide +kernel
theorem dX1_init_90 : decode cX1_init 90 = .ok (.aload_n 0, 1) := by decide +kernel
theorem dX1_init_91 : decode cX1_init 91 = .ok (.iconst 0, 1) := by decide +kernel
theorem dX1_init_92 : decode cX1_init 92 = .ok (.putfield 67, 3) := by decide +kernel
theorem dX1_init_95 : decode cX1_init 95 = .ok (.iconst 0, 1) := by decide +kernel
theorem dX1_init_96 : decode cX1_init 96 = .ok (.istore_n 1, 1) := by decide +kernel
theorem dX1_init_97 : decode cX1_init 97 = .ok (.iload_n 1, 1) := by decide +kernel
theorem dX1_init_98 : decode cX1_init 98 = .ok (.iconst 4, 1) := by decide +kernel
theorem dX1_init_99 : decode cX1_init 99 = .ok (.if_icmp .ge 22, 3) := by decide +kernel
theorem dX1_init_102 : decode cX1_init 102 = .ok (.aload_n 0, 1) := by decide +kernel
theorem dX1_init_103 : decode cX1_init 103 = .ok (.getfield 34, 3) := by decide +kernel
theorem dX1_init_106 : decode cX1_init 106 = .ok (.iload_n 1, 1) := by decide +kernel
theorem dX1_init_107 : decode cX1_init 107 = .ok (.new 32, 3) := by decide +kernel
theorem dX1_init_110 : decode cX1_init 110 = .ok (.dup, 1) := by decide +kernel
theorem dX1_init_111 : decode cX1_init 111 = .ok (.invokespecial 70, 3) := by decide +kernel
theorem dX1_init_114 : decode cX1_init 114 = .ok (.aastore, 1) := by decide +kernel
theorem dX1_init_115 : decode cX1_init 115 = .ok (.iinc 1 1, 3) := by decide +kernel
theorem dX1_init_118 : decode cX1_init 118 = .ok (.goto (-21), 3) := by decide +kernel
theorem dX1_init_121 : decode cX1_init 121 = .ok (.iconst 0, 1) := by decide +kernel
theorem dX1_init_122 : decode cX1_init 122 = .ok (.istore_n 1, 1) := by decide +kernel
theorem dX1_init_123 : decode cX1_init 123 = .ok (.iload_n 1, 1) := by decide +kernel
theorem dX1_init_124 : decode cX1_init 124 = .ok (.aload_n 0, 1) := by decide +kernel
theorem dX1_init_125 : decode cX1_init 125 = .ok (.getfield 40, 3) := by decide +kernel
theorem dX1_init_128 : decode cX1_init 128 = .ok (.arraylength, 1) := by decide +kernel
theorem dX1_init_129 : decode cX1_init 129 = .ok (.if_icmp .ge 22, 3) := by decide +kernel
theorem dX1_init_132 : decode cX1_init 132 = .ok (.aload_n 0, 1) := by decide +kernel
theorem dX1_init_133 : decode cX1_init 133 = .ok (.getfield 40, 3) := by decide +kernel
theorem dX1_init_136 : decode cX1_init 136 = .ok (.iload_n 1, 1) := by decide +kernel
theorem dX1_init_137 : decode cX1_init 137 = .ok (.new 38, 3) := by decide +kernel
theorem dX1_init_140 : decode cX1_init 140 = .ok (.dup, 1) := by decide +kernel
theorem dX1_init_141 : decode cX1_init 141 = .ok (.invokespecial 71, 3) := by decide +kernel
theorem dX1_init_144 : decode cX1_init 144 = .ok (.aastore, 1) := by decide +kernel
theorem dX1_init_145 : decode cX1_init 145 = .ok (.iinc 1 1, 3) := by decide +kernel
theorem dX1_init_148 : decode cX1_init 148 = .ok (.goto (-25), 3) := by decide +kernel
theorem dX1_init_151 : decode cX1_init 151 = .ok (.return_, 1) := by decide +kernel
theorem dX1_copyFrom_0 : decode cX1_copyFrom 0 = .ok (.aload_n 1, 1) := by decide +kernel
theorem dX1_copyFrom_1 : decode cX1_copyFrom 1 = .ok (.getfield 18, 3) := by decide +kernel
theorem dX1_copyFrom_4 : decode cX1_copyFrom 4 = .ok (.iconst 0, 1) := by decide +kernel
theorem dX1_copyFrom_5 : decode cX1_copyFrom 5 = .ok (.aload_n 0, 1) := by decide +kernel
theorem dX1_copyFrom_6 : decode cX1_copyFrom 6 = .ok (.getfield 18, 3) := by decide +kernel
theorem dX1_copyFrom_9 : decode cX1_copyFrom 9 = .ok (.iconst 0, 1) := by decide +kernel
theorem dX1_copyFrom_10 : decode cX1_copyFrom 10 = .ok (.aload_n 0, 1) := by decide +kernel
theorem dX1_copyFrom_11 : decode cX1_copyFrom 11 = .ok (.getfield 18, 3) := by decide +kernel
theorem dX1_copyFrom_14 : decode cX1_copyFrom 14 = .ok (.arraylength, 1) := by decide +kernel
theorem dX1_copyFrom_15 : decode cX1_copyFrom 15 = .ok (.invokestatic 72, 3) := by decide +kernel
theorem dX1_copyFrom_18 : decode cX1_copyFrom 18 = .ok (.aload_n 1, 1) := by decide +kernel
theorem dX1_copyFrom_19 : decode cX1_copyFrom 19 = .ok (.getfield 23, 3) := by decide +kernel
theorem dX1_copyFrom_22 : decode cX1_copyFrom 22 = .ok (.iconst 0, 1) := by decide +kernel
theorem dX1_copyFrom_23 : decode cX1_copyFrom 23 = .ok (.aload_n 0, 1) := by decide +kernel
theorem dX1_copyFrom_24 : decode cX1_copyFrom 24 = .ok (.getfield 23, 3) := by decide +kernel
theorem dX1_copyFrom_27 : decode cX1_copyFrom 27 = .ok (.iconst 0, 1) := by decide +kernel
theorem dX1_copyFrom_28 : decode cX1_copyFrom 28 = .ok (.iconst 4, 1) := by decide +kernel
theorem dX1_copyFrom_29 : decode cX1_copyFrom 29 = .ok (.invokestatic 72, 3) := by decide +kernel
theorem dX1_copyFrom_32 : decode cX1_copyFrom 32 = .ok (.aload_n 1, 1) := by decide +kernel
theorem dX1_copyFrom_33 : decode cX1_copyFrom 33 = .ok (.getfield 26, 3) := by decide +kernel
theorem dX1_copyFrom_36 : decode cX1_copyFrom 36 = .ok (.iconst 0, 1) := by decide +kernel
theorem dX1_copyFrom_37 : decode cX1_copyFrom 37 = .ok (.aload_n 0, 1) := by decide +kernel
theorem dX1_copyFrom_38 : decode cX1_copyFrom 38 = .ok (.getfield 26, 3) := by decide +kernel
theorem dX1_copyFrom_41 : decode cX1_copyFrom 41 = .ok (.iconst 0, 1) := by decide +kernel
theorem dX1_copyFrom_42 : decode cX1_copyFrom 42 = .ok (.iconst 4, 1) := by decide +kernel
theorem dX1_copyFrom_43 : decode cX1_copyFrom 43 = .ok (.invokestatic 72, 3) := by decide +kernel
theorem dX1_copyFrom_46 : decode cX1_copyFrom 46 = .ok (.aload_n 1, 1) := by decide +kernel
theorem dX1_copyFrom_47 : decode cX1_copyFrom 47 = .ok (.getfield 29, 3) := by decide +kernel
theorem dX1_copyFrom_50 : decode cX1_copyFrom 50 = .ok (.iconst 0, 1) := by decide +kernel
theorem dX1_copyFrom_51 : decode cX1_copyFrom 51 = .ok (.aload_n 0, 1) := by decide +kernel
theorem dX1_copyFrom_52 : decode cX1_copyFrom 52 = .ok (.getfield 29, 3) := by decide +kernel
theorem dX1_copyFrom_55 : decode cX1_copyFrom 55 = .ok (.iconst 0, 1) := by decide +kernel
theorem dX1_copyFrom_56 : decode cX1_copyFrom 56 = .ok (.iconst 4, 1) := by decide +kernel
theorem dX1_copyFrom_57 : decode cX1_copyFrom 57 = .ok (.invokestatic 72, 3) := by decide +kernel
theorem dX1_copyFrom_60 : decode cX1_copyFrom 60 = .ok (.iconst 0, 1) := by decide +kernel
theorem dX1_copyFrom_61 : decode cX1_copyFrom 61 = .ok (.istore_n 2, 1) := by decide +kernel
theorem dX1_copyFrom_62 : decode cX1_copyFrom 62 = .ok (.iload_n 2, 1) := by decide +kernel
theorem dX1_copyFrom_63 : decode cX1_copyFrom 63 = .ok (.iconst 4, 1) := by decide +kernel
theorem dX1_copyFrom_64 : decode cX1_copyFrom 64 = .ok (.if_icmp .ge 24, 3) := by decide +kernel
theorem dX1_copyFrom_67 : decode cX1_copyFrom 67 = .ok (.aload_n 0, 1) := by decide +kernel
theorem dX1_copyFrom_68 : decode cX1_copyFrom 68 = .ok (.getfield 34, 3) := by decide +kernel
theorem dX1_copyFrom_71 : decode cX1_copyFrom 71 = .ok (.iload_n 2, 1) := by decide +kernel
theorem dX1_copyFrom_72 : decode cX1_copyFrom 72 = .ok (.aaload, 1) := by decide +kernel
theorem dX1_copyFrom_73 : decode cX1_copyFrom 73 = .ok (.aload_n 1, 1) := by decide +kernel
theorem dX1_copyFrom_74 : decode cX1_copyFrom 74 = .ok (.getfield 34, 3) := by decide +kernel
theorem dX1_copyFrom_77 : decode cX1_copyFrom 77 = .ok (.iload_n 2, 1) := by decide +kernel
theorem dX1_copyFrom_78 : decode cX1_copyFrom 78 = .ok (.aaload, 1) := by decide +kernel
theorem dX1_copyFrom_79 : decode cX1_copyFrom 79 = .ok (.invokevirtual 78, 3) := by decide +kernel
theorem dX1_copyFrom_82 : decode cX1_copyFrom 82 = .ok (.iinc 2 1, 3) := by decide +kernel
theorem dX1_copyFrom_85 : decode cX1_copyFrom 85 = .ok (.goto (-23), 3) := by decide +kernel
theorem dX1_copyFrom_88 : decode cX1_copyFrom 88 = .ok (.iconst 0, 1) := by decide +kernel
theorem dX1_copyFrom_89 : decode cX1_copyFrom 89 = .ok (.istore_n 2, 1) := by decide +kernel
theorem dX1_copyFrom_90 : decode cX1_copyFrom 90 = .ok (.iload_n 2, 1) := by decide +kernel
theorem dX1_copyFrom_91 : decode cX1_copyFrom 91 = .ok (.aload_n 0, 1) := by decide +kernel
theorem dX1_copyFrom_92 : decode cX1_copyFrom 92 = .ok (.getfield 40, 3) := by decide +kernel
theorem dX1_copyFrom_95 : decode cX1_copyFrom 95 = .ok (.arraylength, 1) := by decide +kernel
theorem dX1_copyFrom_96 : decode cX1_copyFrom 96 = .ok (.if_icmp .ge 24, 3) := by decide +kernel
theorem dX1_copyFrom_99 : decode cX1_copyFrom 99 = .ok (.aload_n 0, 1) := by decide +kernel
theorem dX1_copyFrom_100 : decode cX1_copyFrom 100 = .ok (.getfield 40, 3) := by decide +kernel
theorem dX1_copyFrom_103 : decode cX1_copyFrom 103 = .ok (.iload_n 2, 1) := by decide +kernel
theorem dX1_copyFrom_104 : decode cX1_copyFrom 104 = .ok (.aaload, 1) := by decide +kernel
theorem dX1_copyFrom_105 : decode cX1_copyFrom 105 = .ok (.aload_n 1, 1) := by decide +kernel
theorem dX1_copyFrom_106 : decode cX1_copyFrom 106 = .ok (.getfield 40, 3) := by decide +kernel
theorem dX1_copyFrom_109 : decode cX1_copyFrom 109 = .ok (.iload_n 2, 1) := by decide +kernel
theorem dX1_copyFrom_110 : decode cX1_copyFrom 110 = .ok (.aaload, 1) := by decide +kernel
theorem dX1_copyFrom_111 : decode cX1_copyFrom 111 = .ok (.invokevirtual 82, 3) := by decide +kernel
theorem dX1_copyFrom_114 : decode cX1_copyFrom 114 = .ok (.iinc 2 1, 3) := by decide +kernel
theorem dX1_copyFrom_117 : decode cX1_copyFrom 117 = .ok (.goto (-27), 3) := by decide +kernel
theorem dX1_copyFrom_120 : decode cX1_copyFrom 120 = .ok (.aload_n 0, 1) := by decide +kernel
theorem dX1_copyFrom_121 : decode cX1_copyFrom 121 = .ok (.aload_n 1, 1) := by decide +kernel
theorem dX1_copyFrom_122 : decode cX1_copyFrom 122 = .ok (.getfield 44, 3) := by decide +kernel
theorem dX1_copyFrom_125 : decode cX1_copyFrom 125 = .ok (.putfield 44, 3) := by decide +kernel
theorem dX1_copyFrom_128 : decode cX1_copyFrom 128 = .ok (.aload_n 0, 1) := by decide +kernel
theorem dX1_copyFrom_129 : decode cX1_copyFrom 129 = .ok (.aload_n 1, 1) := by decide +kernel
theorem dX1_copyFrom_130 : decode cX1_copyFrom 130 = .ok (.getfield 48, 3) := by decide +kernel
theorem dX1_copyFrom_133 : decode cX1_copyFrom 133 = .ok (.putfield 48, 3) := by decide +kernel
theorem dX1_copyFrom_136 : decode cX1_copyFrom 136 = .ok (.aload_n 0, 1) := by decide +kernel
theorem dX1_copyFrom_137 : decode cX1_copyFrom 137 = .ok (.aload_n 1, 1) := by decide +kernel
theorem dX1_copyFrom_138 : decode cX1_copyFrom 138 = .ok (.getfield 52, 3) := by decide +kernel
theorem dX1_copyFrom_141 : decode cX1_copyFrom 141 = .ok (.putfield 52, 3) := by decide +kernel
theorem dX1_copyFrom_144 : decode cX1_copyFrom 144 = .ok (.aload_n 0, 1) := by decide +kernel
theorem dX1_copyFrom_145 : decode cX1_copyFrom 145 = .ok (.aload_n 1, 1) := by decide +kernel
theorem dX1_copyFrom_146 : decode cX1_copyFrom 146 = .ok (.getfield 55, 3) := by decide +kernel
theorem dX1_copyFrom_149 : decode cX1_copyFrom 149 = .ok (.putfield 55, 3) := by decide +kernel
theorem dX1_copyFrom_152 : decode cX1_copyFrom 152 = .ok (.aload_n 0, 1) := by decide +kernel
theorem dX1_copyFrom_153 : decode cX1_copyFrom 153 = .ok (.aload_n 1, 1) := by decide +kernel
theorem dX1_copyFrom_154 : decode cX1_copyFrom 154 = .ok (.getfield 58, 3) := by decide +kernel
theorem dX1_copyFrom_157 : decode cX1_copyFrom 157 = .ok (.putfield 58, 3) := by decide +kernel
theorem dX1_copyFrom_160 : decode cX1_copyFrom 160 = .ok (.aload_n 0, 1) := by decide +kernel
theorem dX1_copyFrom_161 : decode cX1_copyFrom 161 = .ok (.aload_n 1, 1) := by decide +kernel
theorem dX1_copyFrom_162 : decode cX1_copyFrom 162 = .ok (.getfield 61, 3) := by decide +kernel
theorem dX1_copyFrom_165 : decode cX1_copyFrom 165 = .ok (.putfield 61, 3) := by decide +kernel
theorem dX1_copyFrom_168 : decode cX1_copyFrom 168 = .ok (.aload_n 0, 1) := by decide +kernel
theorem dX1_copyFrom_169 : decode cX1_copyFrom 169 = .ok (.aload_n 1, 1) := by decide +kernel
theorem dX1_copyFrom_170 : decode cX1_copyFrom 170 = .ok (.getfield 64, 3) := by decide +kernel
theorem dX1_copyFrom_173 : decode cX1_copyFrom 173 = .ok (.putfield 64, 3) := by decide +kernel
theorem dX1_copyFrom_176 : decode cX1_copyFrom 176 = .ok (.aload_n 0, 1) := by decide +kernel
theorem dX1_copyFrom_177 : decode cX1_copyFrom 177 = .ok (.aload_n 1, 1) := by decide +kernel
theorem dX1_copyFrom_178 : decode cX1_copyFrom 178 = .ok (.getfield 67, 3) := by decide +kernel
theorem dX1_copyFrom_181 : decode cX1_copyFrom 181 = .ok (.putfield 67, 3) := by decide +kernel
theorem dX1_copyFrom_184 : decode cX1_copyFrom 184 = .ok (.return_, 1) := by decide +kernel
theorem dX1_tideAt_0 : decode cX1_tideAt 0 = .ok (.aload_n 0, 1) := by decide +kernel
theorem dX1_tideAt_1 : decode cX1_tideAt 1 = .ok (.getfield 18, 3) := by decide +kernel
theorem dX1_tideAt_4 : decode cX1_tideAt 4 = .ok (.iconst 1, 1) := by decide +kernel
theorem dX1_tideAt_5 : decode cX1_tideAt 5 = .ok (.iaload, 1) := by decide +kernel
theorem dX1_tideAt_6 : decode cX1_tideAt 6 = .ok (.getstatic 85, 3) := by decide +kernel
theorem dX1_tideAt_9 : decode cX1_tideAt 9 = .ok (.iload_n 1, 1) := by decide +kernel
theorem dX1_tideAt_10 : decode cX1_tideAt 10 = .ok (.bipush 12, 2) := by decide +kernel
theorem dX1_tideAt_12 : decode cX1_tideAt 12 = .ok (.invokestatic 88, 3) := by decide +kernel
theorem dX1_tideAt_15 : decode cX1_tideAt 15 = .ok (.iaload, 1) := by decide +kernel
theorem dX1_tideAt_16 : decode cX1_tideAt 16 = .ok (.imul, 1) := by decide +kernel
theorem dX1_tideAt_17 : decode cX1_tideAt 17 = .ok (.bipush 10, 2) := by decide +kernel
theorem dX1_tideAt_19 : decode cX1_tideAt 19 = .ok (.idiv, 1) := by decide +kernel
theorem dX1_tideAt_20 : decode cX1_tideAt 20 = .ok (.ireturn, 1) := by decide +kernel
theorem dX1_heightAt_0 : decode cX1_heightAt 0 = .ok (.bipush 100, 2) := by decide +kernel
theorem dX1_heightAt_2 : decode cX1_heightAt 2 = .ok (.aload_n 0, 1) := by decide +kernel
theorem dX1_heightAt_3 : decode cX1_heightAt 3 = .ok (.iload_n 2, 1) := by decide +kernel
theorem dX1_heightAt_4 : decode cX1_heightAt 4 = .ok (.invokevirtual 94, 3) := by decide +kernel
theorem dX1_heightAt_7 : decode cX1_heightAt 7 = .ok (.iadd, 1) := by decide +kernel
theorem dX1_heightAt_8 : decode cX1_heightAt 8 = .ok (.iload_n 1, 1) := by decide +kernel
theorem dX1_heightAt_9 : decode cX1_heightAt 9 = .ok (.isub, 1) := by decide +kernel
theorem dX1_heightAt_10 : decode cX1_heightAt 10 = .ok (.ireturn, 1) := by decide +kernel
theorem dX1_floatsAt_0 : decode cX1_floatsAt 0 = .ok (.aload_n 0, 1) := by decide +kernel
theorem dX1_floatsAt_1 : decode cX1_floatsAt 1 = .ok (.getfield 18, 3) := by decide +kernel
theorem dX1_floatsAt_4 : decode cX1_floatsAt 4 = .ok (.iconst 0, 1) := by decide +kernel
theorem dX1_floatsAt_5 : decode cX1_floatsAt 5 = .ok (.iaload, 1) := by decide +kernel
theorem dX1_floatsAt_6 : decode cX1_floatsAt 6 = .ok (.aload_n 0, 1) := by decide +kernel
theorem dX1_floatsAt_7 : decode cX1_floatsAt 7 = .ok (.iload_n 2, 1) := by decide +kernel
theorem dX1_floatsAt_8 : decode cX1_floatsAt 8 = .ok (.invokevirtual 94, 3) := by decide +kernel
theorem dX1_floatsAt_11 : decode cX1_floatsAt 11 = .ok (.iadd, 1) := by decide +kernel
theorem dX1_floatsAt_12 : decode cX1_floatsAt 12 = .ok (.iload_n 1, 1) := by decide +kernel
theorem dX1_floatsAt_13 : decode cX1_floatsAt 13 = .ok (.aload_n 0, 1) := by decide +kernel
theorem dX1_floatsAt_14 : decode cX1_floatsAt 14 = .ok (.getfield 18, 3) := by decide +kernel
theorem dX1_floatsAt_17 : decode cX1_floatsAt 17 = .ok (.iconst 2, 1) := by decide +kernel
theorem dX1_floatsAt_18 : decode cX1_floatsAt 18 = .ok (.iaload, 1) := by decide +kernel
theorem dX1_floatsAt_19 : decode cX1_floatsAt 19 = .ok (.iadd, 1) := by decide +kernel
theorem dX1_floatsAt_20 : decode cX1_floatsAt 20 = .ok (.if_icmp .lt 7, 3) := by decide +kernel
theorem dX1_floatsAt_23 : decode cX1_floatsAt 23 = .ok (.iconst 1, 1) := by decide +kernel
theorem dX1_floatsAt_24 : decode cX1_floatsAt 24 = .ok (.goto 4, 3) := by decide +kernel
theorem dX1_floatsAt_27 : decode cX1_floatsAt 27 = .ok (.iconst 0, 1) := by decide +kernel
theorem dX1_floatsAt_28 : decode cX1_floatsAt 28 = .ok (.ireturn, 1) := by decide +kernel
theorem dX1_isTankerAt_0 : decode cX1_isTankerAt 0 = .ok (.iload_n 1, 1) := by decide +kernel
theorem dX1_isTankerAt_1 : decode cX1_isTankerAt 1 = .ok (.ifCond .ne 10, 3) := by decide +kernel
theorem dX1_isTankerAt_4 : decode cX1_isTankerAt 4 = .ok (.aload_n 0, 1) := by decide +kernel
theorem dX1_isTankerAt_5 : decode cX1_isTankerAt 5 = .ok (.getfield 44, 3) := by decide +kernel
theorem dX1_isTankerAt_8 : decode cX1_isTankerAt 8 = .ok (.goto 29, 3) := by decide +kernel
theorem dX1_isTankerAt_11 : decode cX1_isTankerAt 11 = .ok (.iload_n 1, 1) := by decide +kernel
theorem dX1_isTankerAt_12 : decode cX1_isTankerAt 12 = .ok (.ifCond .le 24, 3) := by decide +kernel
theorem dX1_isTankerAt_15 : decode cX1_isTankerAt 15 = .ok (.iload_n 1, 1) := by decide +kernel
theorem dX1_isTankerAt_16 : decode cX1_isTankerAt 16 = .ok (.aload_n 0, 1) := by decide +kernel
theorem dX1_isTankerAt_17 : decode cX1_isTankerAt 17 = .ok (.getfield 48, 3) := by decide +kernel
theorem dX1_isTankerAt_20 : decode cX1_isTankerAt 20 = .ok (.if_icmp .gt 16, 3) := by decide +kernel
theorem dX1_isTankerAt_23 : decode cX1_isTankerAt 23 = .ok (.iload_n 1, 1) := by decide +kernel
theorem dX1_isTankerAt_24 : decode cX1_isTankerAt 24 = .ok (.aload_n 0, 1) := by decide +kernel
theorem dX1_isTankerAt_25 : decode cX1_isTankerAt 25 = .ok (.getfield 40, 3) := by decide +kernel
theorem dX1_isTankerAt_28 : decode cX1_isTankerAt 28 = .ok (.arraylength, 1) := by decide +kernel
theorem dX1_isTankerAt_29 : decode cX1_isTankerAt 29 = .ok (.if_icmp .ge 7, 3) := by decide +kernel
theorem dX1_isTankerAt_32 : decode cX1_isTankerAt 32 = .ok (.iconst 1, 1) := by decide +kernel
theorem dX1_isTankerAt_33 : decode cX1_isTankerAt 33 = .ok (.goto 4, 3) := by decide +kernel
theorem dX1_isTankerAt_36 : decode cX1_isTankerAt 36 = .ok (.iconst 0, 1) := by decide +kernel
theorem dX1_isTankerAt_37 : decode cX1_isTankerAt 37 = .ok (.ireturn, 1) := by decide +kernel
theorem dX1_changeSetting_0 : decode cX1_changeSetting 0 = .ok (.iload_n 1, 1) := by decide +kernel
theorem dX1_changeSetting_1 : decode cX1_changeSetting 1 = .ok (.ifCond .lt 12, 3) := by decide +kernel
theorem dX1_changeSetting_4 : decode cX1_changeSetting 4 = .ok (.iload_n 1, 1) := by decide +kernel
theorem dX1_changeSetting_5 : decode cX1_changeSetting 5 = .ok (.aload_n 0, 1) := by decide +kernel
theorem dX1_changeSetting_6 : decode cX1_changeSetting 6 = .ok (.getfield 18, 3) := by decide +kernel
theorem dX1_changeSetting_9 : decode cX1_changeSetting 9 = .ok (.arraylength, 1) := by decide +kernel
theorem dX1_changeSetting_10 : decode cX1_changeSetting 10 = .ok (.if_icmp .lt 6, 3) := by decide +kernel
theorem dX1_changeSetting_13 : decode cX1_changeSetting 13 = .ok (.ldc 98, 2) := by decide +kernel
theorem dX1_changeSetting_15 : decode cX1_changeSetting 15 = .ok (.ireturn, 1) := by decide +kernel
theorem dX1_changeSetting_16 : decode cX1_changeSetting 16 = .ok (.iload_n 2, 1) := by decide +kernel
theorem dX1_changeSetting_17 : decode cX1_changeSetting 17 = .ok (.getstatic 99, 3) := by decide +kernel
theorem dX1_changeSetting_20 : decode cX1_changeSetting 20 = .ok (.iload_n 1, 1) := by decide +kernel
theorem dX1_changeSetting_21 : decode cX1_changeSetting 21 = .ok (.iaload, 1) := by decide +kernel
theorem dX1_changeSetting_22 : decode cX1_changeSetting 22 = .ok (.if_icmp .lt 12, 3) := by decide +kernel
theorem dX1_changeSetting_25 : decode cX1_changeSetting 25 = .ok (.iload_n 2, 1) := by decide +kernel
theorem dX1_changeSetting_26 : decode cX1_changeSetting 26 = .ok (.getstatic 102, 3) := by decide +kernel
theorem dX1_changeSetting_29 : decode cX1_changeSetting 29 = .ok (.iload_n 1, 1) := by decide +kernel
theorem dX1_changeSetting_30 : decode cX1_changeSetting 30 = .ok (.iaload, 1) := by decide +kernel
theorem dX1_changeSetting_31 : decode cX1_changeSetting 31 = .ok (.if_icmp .le 6, 3) := by decide +kernel
theorem dX1_changeSetting_34 : decode cX1_changeSetting 34 = .ok (.ldc 98, 2) := by decide +kernel
theorem dX1_changeSetting_36 : decode cX1_changeSetting 36 = .ok (.ireturn, 1) := by decide +kernel
theorem dX1_changeSetting_37 : decode cX1_changeSetting 37 = .ok (.aload_n 0, 1) := by decide +kernel
theorem dX1_changeSetting_38 : decode cX1_changeSetting 38 = .ok (.getfield 18, 3) := by decide +kernel
theorem dX1_changeSetting_41 : decode cX1_changeSetting 41 = .ok (.iload_n 1, 1) := by decide +kernel
theorem dX1_changeSetting_42 : decode cX1_changeSetting 42 = .ok (.iaload, 1) := by decide +kernel
theorem dX1_changeSetting_43 : decode cX1_changeSetting 43 = .ok (.istore_n 3, 1) := by decide +kernel
theorem dX1_changeSetting_44 : decode cX1_changeSetting 44 = .ok (.aload_n 0, 1) := by decide +kernel
theorem dX1_changeSetting_45 : decode cX1_changeSetting 45 = .ok (.getfield 18, 3) := by decide +kernel
theorem dX1_changeSetting_48 : decode cX1_changeSetting 48 = .ok (.iload_n 1, 1) := by decide +kernel
theorem dX1_changeSetting_49 : decode cX1_changeSetting 49 = .ok (.iload_n 2, 1) := by decide +kernel
theorem dX1_changeSetting_50 : decode cX1_changeSetting 50 = .ok (.iastore, 1) := by decide +kernel
theorem dX1_changeSetting_51 : decode cX1_changeSetting 51 = .ok (.iload_n 3, 1) := by decide +kernel
theorem dX1_changeSetting_52 : decode cX1_changeSetting 52 = .ok (.ireturn, 1) := by decide +kernel
theorem dX1_letArrive_0 : decode cX1_letArrive 0 = .ok (.iload_n 1, 1) := by decide +kernel
theorem dX1_letArrive_1 : decode cX1_letArrive 1 = .ok (.invokestatic 105, 3) := by decide +kernel
theorem dX1_letArrive_4 : decode cX1_letArrive 4 = .ok (.ifCond .eq 36, 3) := by decide +kernel
theorem dX1_letArrive_7 : decode cX1_letArrive 7 = .ok (.iload_n 2, 1) := by decide +kernel
theorem dX1_letArrive_8 : decode cX1_letArrive 8 = .ok (.invokestatic 105, 3) := by decide +kernel
theorem dX1_letArrive_11 : decode cX1_letArrive 11 = .ok (.ifCond .eq 29, 3) := by decide +kernel
theorem dX1_letArrive_14 : decode cX1_letArrive 14 = .ok (.iload_n 3, 1) := by decide +kernel
theorem dX1_letArrive_15 : decode cX1_letArrive 15 = .ok (.invokestatic 105, 3) := by decide +kernel
theorem dX1_letArrive_18 : decode cX1_letArrive 18 = .ok (.ifCond .eq 22, 3) := by decide +kernel
theorem dX1_letArrive_21 : decode cX1_letArrive 21 = .ok (.iload 4, 2) := by decide +kernel
theorem dX1_letArrive_23 : decode cX1_letArrive 23 = .ok (.invokestatic 105, 3) := by decide +kernel
theorem dX1_letArrive_26 : decode cX1_letArrive 26 = .ok (.ifCond .eq 14, 3) := by decide +kernel
theorem dX1_letArrive_29 : decode cX1_letArrive 29 = .ok (.iload_n 1, 1) := by decide +kernel
theorem dX1_letArrive_30 : decode cX1_letArrive 30 = .ok (.iload_n 2, 1) := by decide +kernel
theorem dX1_letArrive_31 : decode cX1_letArrive 31 = .ok (.iadd, 1) := by decide +kernel
theorem dX1_letArrive_32 : decode cX1_letArrive 32 = .ok (.iload_n 3, 1) := by decide +kernel
theorem dX1_letArrive_33 : decode cX1_letArrive 33 = .ok (.iadd, 1) := by decide +kernel
theorem dX1_letArrive_34 : decode cX1_letArrive 34 = .ok (.iload 4, 2) := by decide +kernel
theorem dX1_letArrive_36 : decode cX1_letArrive 36 = .ok (.iadd, 1) := by decide +kernel
theorem dX1_letArrive_37 : decode cX1_letArrive 37 = .ok (.ifCond .ne 6, 3) := by decide +kernel
theorem dX1_letArrive_40 : decode cX1_letArrive 40 = .ok (.ldc 98, 2) := by decide +kernel
theorem dX1_letArrive_42 : decode cX1_letArrive 42 = .ok (.ireturn, 1) := by decide +kernel
theorem dX1_letArrive_43 : decode cX1_letArrive 43 = .ok (.aload_n 0, 1) := by decide +kernel
theorem dX1_letArrive_44 : decode cX1_letArrive 44 = .ok (.getfield 48, 3) := by decide +kernel
theorem dX1_letArrive_47 : decode cX1_letArrive 47 = .ok (.ifCond .lt 11, 3) := by decide +kernel
theorem dX1_letArrive_50 : decode cX1_letArrive 50 = .ok (.aload_n 0, 1) := by decide +kernel
theorem dX1_letArrive_51 : decode cX1_letArrive 51 = .ok (.getfield 48, 3) := by decide +kernel
theorem dX1_letArrive_54 : decode cX1_letArrive 54 = .ok (.iconst 5, 1) := by decide +kernel
theorem dX1_letArrive_55 : decode cX1_letArrive 55 = .ok (.if_icmp .lt 6, 3) := by decide +kernel
theorem dX1_letArrive_58 : decode cX1_letArrive 58 = .ok (.ldc 109, 2) := by decide +kernel
theorem dX1_letArrive_60 : decode cX1_letArrive 60 = .ok (.ireturn, 1) := by decide +kernel
theorem dX1_letArrive_61 : decode cX1_letArrive 61 = .ok (.aload_n 0, 1) := by decide +kernel
theorem dX1_letArrive_62 : decode cX1_letArrive 62 = .ok (.dup, 1) := by decide +kernel
theorem dX1_letArrive_63 : decode cX1_letArrive 63 = .ok (.getfield 48, 3) := by decide +kernel
theorem dX1_letArrive_66 : decode cX1_letArrive 66 = .ok (.iconst 1, 1) := by decide +kernel
theorem dX1_letArrive_67 : decode cX1_letArrive 67 = .ok (.iadd, 1) := by decide +kernel
theorem dX1_letArrive_68 : decode cX1_letArrive 68 = .ok (.putfield 48, 3) := by decide +kernel
theorem dX1_letArrive_71 : decode cX1_letArrive 71 = .ok (.aload_n 0, 1) := by decide +kernel
theorem dX1_letArrive_72 : decode cX1_letArrive 72 = .ok (.getfield 40, 3) := by decide +kernel
theorem dX1_letArrive_75 : decode cX1_letArrive 75 = .ok (.iconst 0, 1) := by decide +kernel
theorem dX1_letArrive_76 : decode cX1_letArrive 76 = .ok (.aload_n 0, 1) := by decide +kernel
theorem dX1_letArrive_77 : decode cX1_letArrive 77 = .ok (.getfield 48, 3) := by decide +kernel
theorem dX1_letArrive_80 : decode cX1_letArrive 80 = .ok (.iadd, 1) := by decide +kernel
theorem dX1_letArrive_81 : decode cX1_letArrive 81 = .ok (.aaload, 1) := by decide +kernel
theorem dX1_letArrive_82 : decode cX1_letArrive 82 = .ok (.astore 5, 2) := by decide +kernel
theorem dX1_letArrive_84 : decode cX1_letArrive 84 = .ok (.aload 5, 2) := by decide +kernel
theorem dX1_letArrive_86 : decode cX1_letArrive 86 = .ok (.getfield 110, 3) := by decide +kernel
theorem dX1_letArrive_89 : decode cX1_letArrive 89 = .ok (.iconst 0, 1) := by decide +kernel
theorem dX1_letArrive_90 : decode cX1_letArrive 90 = .ok (.iload_n 1, 1) := by decide +kernel
theorem dX1_letArrive_91 : decode cX1_letArrive 91 = .ok (.iastore, 1) := by decide +kernel
theorem dX1_letArrive_92 : decode cX1_letArrive 92 = .ok (.aload 5, 2) := by decide +kernel
theorem dX1_letArrive_94 : decode cX1_letArrive 94 = .ok (.getfield 110, 3) := by decide +kernel
theorem dX1_letArrive_97 : decode cX1_letArrive 97 = .ok (.iconst 1, 1) := by decide +kernel
theorem dX1_letArrive_98 : decode cX1_letArrive 98 = .ok (.iload_n 2, 1) := by decide +kernel
theorem dX1_letArrive_99 : decode cX1_letArrive 99 = .ok (.iastore, 1) := by decide +kernel
theorem dX1_letArrive_100 : decode cX1_letArrive 100 = .ok (.aload 5, 2) := by decide +kernel
theorem dX1_letArrive_102 : decode cX1_letArrive 102 = .ok (.getfield 110, 3) := by decide +kernel
theorem dX1_letArrive_105 : decode cX1_letArrive 105 = .ok (.iconst 2, 1) := by decide +kernel
theorem dX1_letArrive_106 : decode cX1_letArrive 106 = .ok (.iload_n 3, 1) := by decide +kernel
theorem dX1_letArrive_107 : decode cX1_letArrive 107 = .ok (.iastore, 1) := by decide +kernel
theorem dX1_letArrive_108 : decode cX1_letArrive 108 = .ok (.aload 5, 2) := by decide +kernel
theorem dX1_letArrive_110 : decode cX1_letArrive 110 = .ok (.getfield 110, 3) := by decide +kernel
theorem dX1_letArrive_113 : decode cX1_letArrive 113 = .ok (.iconst 3, 1) := by decide +kernel
theorem dX1_letArrive_114 : decode cX1_letArrive 114 = .ok (.iload 4, 2) := by decide +kernel
theorem dX1_letArrive_116 : decode cX1_letArrive 116 = .ok (.iastore, 1) := by decide +kernel
theorem dX1_letArrive_117 : decode cX1_letArrive 117 = .ok (.aload 5, 2) := by decide +kernel
theorem dX1_letArrive_119 : decode cX1_letArrive 119 = .ok (.aload_n 0, 1) := by decide +kernel
theorem dX1_letArrive_120 : decode cX1_letArrive 120 = .ok (.getfield 52, 3) := by decide +kernel
theorem dX1_letArrive_123 : decode cX1_letArrive 123 = .ok (.putfield 113, 3) := by decide +kernel
theorem dX1_letArrive_126 : decode cX1_letArrive 126 = .ok (.aload_n 0, 1) := by decide +kernel
theorem dX1_letArrive_127 : decode cX1_letArrive 127 = .ok (.getfield 48, 3) := by decide +kernel
theorem dX1_letArrive_130 : decode cX1_letArrive 130 = .ok (.ireturn, 1) := by decide +kernel
theorem dX1_isLoad_0 : decode cX1_isLoad 0 = .ok (.iload_n 0, 1) := by decide +kernel
theorem dX1_isLoad_1 : decode cX1_isLoad 1 = .ok (.ifCond .lt 14, 3) := by decide +kernel
theorem dX1_isLoad_4 : decode cX1_isLoad 4 = .ok (.iload_n 0, 1) := by decide +kernel
theorem dX1_isLoad_5 : decode cX1_isLoad 5 = .ok (.sipush 400, 3) := by decide +kernel
theorem dX1_isLoad_8 : decode cX1_isLoad 8 = .ok (.if_icmp .gt 7, 3) := by decide +kernel
theorem dX1_isLoad_11 : decode cX1_isLoad 11 = .ok (.iconst 1, 1) := by decide +kernel
theorem dX1_isLoad_12 : decode cX1_isLoad 12 = .ok (.goto 4, 3) := by decide +kernel
theorem dX1_isLoad_15 : decode cX1_isLoad 15 = .ok (.iconst 0, 1) := by decide +kernel
theorem dX1_isLoad_16 : decode cX1_isLoad 16 = .ok (.ireturn, 1) := by decide +kernel
theorem dX1_letBerth_0 : decode cX1_letBerth 0 = .ok (.aload_n 0, 1) := by decide +kernel
theorem dX1_letBerth_1 : decode cX1_letBerth 1 = .ok (.getfield 48, 3) := by decide +kernel
theorem dX1_letBerth_4 : decode cX1_letBerth 4 = .ok (.ifCond .eq 30, 3) := by decide +kernel
theorem dX1_letBerth_7 : decode cX1_letBerth 7 = .ok (.aload_n 0, 1) := by decide +kernel
theorem dX1_letBerth_8 : decode cX1_letBerth 8 = .ok (.getfield 44, 3) := by decide +kernel
theorem dX1_letBerth_11 : decode cX1_letBerth 11 = .ok (.ifCond .ne 23, 3) := by decide +kernel
theorem dX1_letBerth_14 : decode cX1_letBerth 14 = .ok (.aload_n 0, 1) := by decide +kernel
theorem dX1_letBerth_15 : decode cX1_letBerth 15 = .ok (.aload_n 0, 1) := by decide +kernel
theorem dX1_letBerth_16 : decode cX1_letBerth 16 = .ok (.getfield 40, 3) := by decide +kernel
theorem dX1_letBerth_19 : decode cX1_letBerth 19 = .ok (.iconst 1, 1) := by decide +kernel
theorem dX1_letBerth_20 : decode cX1_letBerth 20 = .ok (.aaload, 1) := by decide +kernel
theorem dX1_letBerth_21 : decode cX1_letBerth 21 = .ok (.invokevirtual 116, 3) := by decide +kernel
theorem dX1_letBerth_24 : decode cX1_letBerth 24 = .ok (.aload_n 0, 1) := by decide +kernel
theorem dX1_letBerth_25 : decode cX1_letBerth 25 = .ok (.getfield 52, 3) := by decide +kernel
theorem dX1_letBerth_28 : decode cX1_letBerth 28 = .ok (.invokevirtual 120, 3) := by decide +kernel
theorem dX1_letBerth_31 : decode cX1_letBerth 31 = .ok (.ifCond .ne 6, 3) := by decide +kernel
theorem dX1_letBerth_34 : decode cX1_letBerth 34 = .ok (.ldc 124, 2) := by decide +kernel
theorem dX1_letBerth_36 : decode cX1_letBerth 36 = .ok (.ireturn, 1) := by decide +kernel
theorem dX1_letBerth_37 : decode cX1_letBerth 37 = .ok (.aload_n 0, 1) := by decide +kernel
theorem dX1_letBerth_38 : decode cX1_letBerth 38 = .ok (.getfield 40, 3) := by decide +kernel
theorem dX1_letBerth_41 : decode cX1_letBerth 41 = .ok (.iconst 0, 1) := by decide +kernel
theorem dX1_letBerth_42 : decode cX1_letBerth 42 = .ok (.aaload, 1) := by decide +kernel
theorem dX1_letBerth_43 : decode cX1_letBerth 43 = .ok (.astore_n 1, 1) := by decide +kernel
theorem dX1_letBerth_44 : decode cX1_letBerth 44 = .ok (.iconst 1, 1) := by decide +kernel
theorem dX1_letBerth_45 : decode cX1_letBerth 45 = .ok (.istore_n 2, 1) := by decide +kernel
theorem dX1_letBerth_46 : decode cX1_letBerth 46 = .ok (.iload_n 2, 1) := by decide +kernel
theorem dX1_letBerth_47 : decode cX1_letBerth 47 = .ok (.aload_n 0, 1) := by decide +kernel
theorem dX1_letBerth_48 : decode cX1_letBerth 48 = .ok (.getfield 40, 3) := by decide +kernel
theorem dX1_letBerth_51 : decode cX1_letBerth 51 = .ok (.arraylength, 1) := by decide +kernel
theorem dX1_letBerth_52 : decode cX1_letBerth 52 = .ok (.if_icmp .ge 23, 3) := by decide +kernel
theorem dX1_letBerth_55 : decode cX1_letBerth 55 = .ok (.aload_n 0, 1) := by decide +kernel
theorem dX1_letBerth_56 : decode cX1_letBerth 56 = .ok (.getfield 40, 3) := by decide +kernel
theorem dX1_letBerth_59 : decode cX1_letBerth 59 = .ok (.iload_n 2, 1) := by decide +kernel
theorem dX1_letBerth_60 : decode cX1_letBerth 60 = .ok (.iconst 1, 1) := by decide +kernel
theorem dX1_letBerth_61 : decode cX1_letBerth 61 = .ok (.isub, 1) := by decide +kernel
theorem dX1_letBerth_62 : decode cX1_letBerth 62 = .ok (.aload_n 0, 1) := by decide +kernel
theorem dX1_letBerth_63 : decode cX1_letBerth 63 = .ok (.getfield 40, 3) := by decide +kernel
theorem dX1_letBerth_66 : decode cX1_letBerth 66 = .ok (.iload_n 2, 1) := by decide +kernel
theorem dX1_letBerth_67 : decode cX1_letBerth 67 = .ok (.aaload, 1) := by decide +kernel
theorem dX1_letBerth_68 : decode cX1_letBerth 68 = .ok (.aastore, 1) := by decide +kernel
theorem dX1_letBerth_69 : decode cX1_letBerth 69 = .ok (.iinc 2 1, 3) := by decide +kernel
theorem dX1_letBerth_72 : decode cX1_letBerth 72 = .ok (.goto (-26), 3) := by decide +kernel
theorem dX1_letBerth_75 : decode cX1_letBerth 75 = .ok (.aload_n 0, 1) := by decide +kernel
theorem dX1_letBerth_76 : decode cX1_letBerth 76 = .ok (.getfield 40, 3) := by decide +kernel
theorem dX1_letBerth_79 : decode cX1_letBerth 79 = .ok (.aload_n 0, 1) := by decide +kernel
theorem dX1_letBerth_80 : decode cX1_letBerth 80 = .ok (.getfield 40, 3) := by decide +kernel
theorem dX1_letBerth_83 : decode cX1_letBerth 83 = .ok (.arraylength, 1) := by decide +kernel
theorem dX1_letBerth_84 : decode cX1_letBerth 84 = .ok (.iconst 1, 1) := by decide +kernel
theorem dX1_letBerth_85 : decode cX1_letBerth 85 = .ok (.isub, 1) := by decide +kernel
theorem dX1_letBerth_86 : decode cX1_letBerth 86 = .ok (.aload_n 1, 1) := by decide +kernel
theorem dX1_letBerth_87 : decode cX1_letBerth 87 = .ok (.aastore, 1) := by decide +kernel
theorem dX1_letBerth_88 : decode cX1_letBerth 88 = .ok (.aload_n 0, 1) := by decide +kernel
theorem dX1_letBerth_89 : decode cX1_letBerth 89 = .ok (.dup, 1) := by decide +kernel
theorem dX1_letBerth_90 : decode cX1_letBerth 90 = .ok (.getfield 48, 3) := by decide +kernel
theorem dX1_letBerth_93 : decode cX1_letBerth 93 = .ok (.iconst 1, 1) := by decide +kernel
theorem dX1_letBerth_94 : decode cX1_letBerth 94 = .ok (.isub, 1) := by decide +kernel
theorem dX1_letBerth_95 : decode cX1_letBerth 95 = .ok (.putfield 48, 3) := by decide +kernel
theorem dX1_letBerth_98 : decode cX1_letBerth 98 = .ok (.aload_n 0, 1) := by decide +kernel
theorem dX1_letBerth_99 : decode cX1_letBerth 99 = .ok (.iconst 1, 1) := by decide +kernel
theorem dX1_letBerth_100 : decode cX1_letBerth 100 = .ok (.putfield 44, 3) := by decide +kernel
theorem dX1_letBerth_103 : decode cX1_letBerth 103 = .ok (.aload_n 0, 1) := by decide +kernel
theorem dX1_letBerth_104 : decode cX1_letBerth 104 = .ok (.getfield 40, 3) := by decide +kernel
theorem dX1_letBerth_107 : decode cX1_letBerth 107 = .ok (.iconst 0, 1) := by decide +kernel
theorem dX1_letBerth_108 : decode cX1_letBerth 108 = .ok (.aaload, 1) := by decide +kernel
theorem dX1_letBerth_109 : decode cX1_letBerth 109 = .ok (.invokevirtual 125, 3) := by decide +kernel
theorem dX1_letBerth_112 : decode cX1_letBerth 112 = .ok (.ireturn, 1) := by decide +kernel
theorem dX1_letLeave_0 : decode cX1_letLeave 0 = .ok (.aload_n 0, 1) := by decide +kernel
theorem dX1_letLeave_1 : decode cX1_letLeave 1 = .ok (.getfield 44, 3) := by decide +kernel
theorem dX1_letLeave_4 : decode cX1_letLeave 4 = .ok (.ifCond .eq 30, 3) := by decide +kernel
theorem dX1_letLeave_7 : decode cX1_letLeave 7 = .ok (.aload_n 0, 1) := by decide +kernel
theorem dX1_letLeave_8 : decode cX1_letLeave 8 = .ok (.aload_n 0, 1) := by decide +kernel
theorem dX1_letLeave_9 : decode cX1_letLeave 9 = .ok (.getfield 40, 3) := by decide +kernel
theorem dX1_letLeave_12 : decode cX1_letLeave 12 = .ok (.iconst 0, 1) := by decide +kernel
theorem dX1_letLeave_13 : decode cX1_letLeave 13 = .ok (.aaload, 1) := by decide +kernel
theorem dX1_letLeave_14 : decode cX1_letLeave 14 = .ok (.invokevirtual 116, 3) := by decide +kernel
theorem dX1_letLeave_17 : decode cX1_letLeave 17 = .ok (.aload_n 0, 1) := by decide +kernel
theorem dX1_letLeave_18 : decode cX1_letLeave 18 = .ok (.getfield 52, 3) := by decide +kernel
theorem dX1_letLeave_21 : decode cX1_letLeave 21 = .ok (.invokevirtual 120, 3) := by decide +kernel
theorem dX1_letLeave_24 : decode cX1_letLeave 24 = .ok (.ifCond .eq 10, 3) := by decide +kernel
theorem dX1_letLeave_27 : decode cX1_letLeave 27 = .ok (.aload_n 0, 1) := by decide +kernel
theorem dX1_letLeave_28 : decode cX1_letLeave 28 = .ok (.invokevirtual 128, 3) := by decide +kernel
theorem dX1_letLeave_31 : decode cX1_letLeave 31 = .ok (.ifCond .le 6, 3) := by decide +kernel
theorem dX1_letLeave_34 : decode cX1_letLeave 34 = .ok (.ldc 124, 2) := by decide +kernel
theorem dX1_letLeave_36 : decode cX1_letLeave 36 = .ok (.ireturn, 1) := by decide +kernel
theorem dX1_letLeave_37 : decode cX1_letLeave 37 = .ok (.aload_n 0, 1) := by decide +kernel
theorem dX1_letLeave_38 : decode cX1_letLeave 38 = .ok (.iconst 0, 1) := by decide +kernel
theorem dX1_letLeave_39 : decode cX1_letLeave 39 = .ok (.putfield 44, 3) := by decide +kernel
theorem dX1_letLeave_42 : decode cX1_letLeave 42 = .ok (.aload_n 0, 1) := by decide +kernel
theorem dX1_letLeave_43 : decode cX1_letLeave 43 = .ok (.getfield 40, 3) := by decide +kernel
theorem dX1_letLeave_46 : decode cX1_letLeave 46 = .ok (.iconst 0, 1) := by decide +kernel
theorem dX1_letLeave_47 : decode cX1_letLeave 47 = .ok (.aaload, 1) := by decide +kernel
theorem dX1_letLeave_48 : decode cX1_letLeave 48 = .ok (.invokevirtual 125, 3) := by decide +kernel
theorem dX1_letLeave_51 : decode cX1_letLeave 51 = .ok (.ireturn, 1) := by decide +kernel
theorem dX1_changeReach_0 : decode cX1_changeReach 0 = .ok (.iload_n 1, 1) := by decide +kernel
theorem dX1_changeReach_1 : decode cX1_changeReach 1 = .ok (.invokestatic 131, 3) := by decide +kernel
theorem dX1_changeReach_4 : decode cX1_changeReach 4 = .ok (.ifCond .ne 6, 3) := by decide +kernel
theorem dX1_changeReach_7 : decode cX1_changeReach 7 = .ok (.ldc 134, 2) := by decide +kernel
theorem dX1_changeReach_9 : decode cX1_changeReach 9 = .ok (.ireturn, 1) := by decide +kernel
theorem dX1_changeReach_10 : decode cX1_changeReach 10 = .ok (.iload_n 2, 1) := by decide +kernel
theorem dX1_changeReach_11 : decode cX1_changeReach 11 = .ok (.bipush 20, 2) := by decide +kernel
theorem dX1_changeReach_13 : decode cX1_changeReach 13 = .ok (.if_icmp .lt 9, 3) := by decide +kernel
theorem dX1_changeReach_16 : decode cX1_changeReach 16 = .ok (.iload_n 2, 1) := by decide +kernel
theorem dX1_changeReach_17 : decode cX1_changeReach 17 = .ok (.bipush 120, 2) := by decide +kernel
theorem dX1_changeReach_19 : decode cX1_changeReach 19 = .ok (.if_icmp .le 6, 3) := by decide +kernel
theorem dX1_changeReach_22 : decode cX1_changeReach 22 = .ok (.ldc 98, 2) := by decide +kernel
theorem dX1_changeReach_24 : decode cX1_changeReach 24 = .ok (.ireturn, 1) := by decide +kernel
theorem dX1_changeReach_25 : decode cX1_changeReach 25 = .ok (.aload_n 0, 1) := by decide +kernel
theorem dX1_changeReach_26 : decode cX1_changeReach 26 = .ok (.getfield 34, 3) := by decide +kernel
theorem dX1_changeReach_29 : decode cX1_changeReach 29 = .ok (.iload_n 1, 1) := by decide +kernel
theorem dX1_changeReach_30 : decode cX1_changeReach 30 = .ok (.aaload, 1) := by decide +kernel
theorem dX1_changeReach_31 : decode cX1_changeReach 31 = .ok (.getfield 135, 3) := by decide +kernel
theorem dX1_changeReach_34 : decode cX1_changeReach 34 = .ok (.istore_n 3, 1) := by decide +kernel
theorem dX1_changeReach_35 : decode cX1_changeReach 35 = .ok (.aload_n 0, 1) := by decide +kernel
theorem dX1_changeReach_36 : decode cX1_changeReach 36 = .ok (.getfield 34, 3) := by decide +kernel
theorem dX1_changeReach_39 : decode cX1_changeReach 39 = .ok (.iload_n 1, 1) := by decide +kernel
theorem dX1_changeReach_40 : decode cX1_changeReach 40 = .ok (.aaload, 1) := by decide +kernel
theorem dX1_changeReach_41 : decode cX1_changeReach 41 = .ok (.iload_n 2, 1) := by decide +kernel
theorem dX1_changeReach_42 : decode cX1_changeReach 42 = .ok (.putfield 135, 3) := by decide +kernel
theorem dX1_changeReach_45 : decode cX1_changeReach 45 = .ok (.iload_n 3, 1) := by decide +kernel
theorem dX1_changeReach_46 : decode cX1_changeReach 46 = .ok (.ireturn, 1) := by decide +kernel
theorem dX1_connectHose_0 : decode cX1_connectHose 0 = .ok (.iload_n 1, 1) := by decide +kernel
theorem dX1_connectHose_1 : decode cX1_connectHose 1 = .ok (.invokestatic 131, 3) := by decide +kernel
theorem dX1_connectHose_4 : decode cX1_connectHose 4 = .ok (.ifCond .eq 10, 3) := by decide +kernel
theorem dX1_connectHose_7 : decode cX1_connectHose 7 = .ok (.iload_n 2, 1) := by decide +kernel
theorem dX1_connectHose_8 : decode cX1_connectHose 8 = .ok (.invokestatic 138, 3) := by decide +kernel
theorem dX1_connectHose_11 : decode cX1_connectHose 11 = .ok (.ifCond .ne 6, 3) := by decide +kernel
theorem dX1_connectHose_14 : decode cX1_connectHose 14 = .ok (.ldc 134, 2) := by decide +kernel
theorem dX1_connectHose_16 : decode cX1_connectHose 16 = .ok (.ireturn, 1) := by decide +kernel
theorem dX1_connectHose_17 : decode cX1_connectHose 17 = .ok (.aload_n 0, 1) := by decide +kernel
theorem dX1_connectHose_18 : decode cX1_connectHose 18 = .ok (.getfield 34, 3) := by decide +kernel
theorem dX1_connectHose_21 : decode cX1_connectHose 21 = .ok (.iload_n 1, 1) := by decide +kernel
theorem dX1_connectHose_22 : decode cX1_connectHose 22 = .ok (.aaload, 1) := by decide +kernel
theorem dX1_connectHose_23 : decode cX1_connectHose 23 = .ok (.astore_n 3, 1) := by decide +kernel
theorem dX1_connectHose_24 : decode cX1_connectHose 24 = .ok (.aload_n 0, 1) := by decide +kernel
theorem dX1_connectHose_25 : decode cX1_connectHose 25 = .ok (.getfield 44, 3) := by decide +kernel
theorem dX1_connectHose_28 : decode cX1_connectHose 28 = .ok (.ifCond .eq 17, 3) := by decide +kernel
theorem dX1_connectHose_31 : decode cX1_connectHose 31 = .ok (.aload_n 3, 1) := by decide +kernel
theorem dX1_connectHose_32 : decode cX1_connectHose 32 = .ok (.getfield 141, 3) := by decide +kernel
theorem dX1_connectHose_35 : decode cX1_connectHose 35 = .ok (.ifCond .ne 10, 3) := by decide +kernel
theorem dX1_connectHose_38 : decode cX1_connectHose 38 = .ok (.aload_n 3, 1) := by decide +kernel
theorem dX1_connectHose_39 : decode cX1_connectHose 39 = .ok (.invokevirtual 144, 3) := by decide +kernel
theorem dX1_connectHose_42 : decode cX1_connectHose 42 = .ok (.ifCond .eq 6, 3) := by decide +kernel
theorem dX1_connectHose_45 : decode cX1_connectHose 45 = .ok (.ldc 124, 2) := by decide +kernel
theorem dX1_connectHose_47 : decode cX1_connectHose 47 = .ok (.ireturn, 1) := by decide +kernel
theorem dX1_connectHose_48 : decode cX1_connectHose 48 = .ok (.aload_n 0, 1) := by decide +kernel
theorem dX1_connectHose_49 : decode cX1_connectHose 49 = .ok (.aload_n 0, 1) := by decide +kernel
theorem dX1_connectHose_50 : decode cX1_connectHose 50 = .ok (.getfield 40, 3) := by decide +kernel
theorem dX1_connectHose_53 : decode cX1_connectHose 53 = .ok (.iconst 0, 1) := by decide +kernel
theorem dX1_connectHose_54 : decode cX1_connectHose 54 = .ok (.aaload, 1) := by decide +kernel
theorem dX1_connectHose_55 : decode cX1_connectHose 55 = .ok (.invokevirtual 116, 3) := by decide +kernel
theorem dX1_connectHose_58 : decode cX1_connectHose 58 = .ok (.aload_n 0, 1) := by decide +kernel
theorem dX1_connectHose_59 : decode cX1_connectHose 59 = .ok (.getfield 52, 3) := by decide +kernel
theorem dX1_connectHose_62 : decode cX1_connectHose 62 = .ok (.invokevirtual 148, 3) := by decide +kernel
theorem dX1_connectHose_65 : decode cX1_connectHose 65 = .ok (.aload_n 3, 1) := by decide +kernel
theorem dX1_connectHose_66 : decode cX1_connectHose 66 = .ok (.getfield 135, 3) := by decide +kernel
theorem dX1_connectHose_69 : decode cX1_connectHose 69 = .ok (.if_icmp .le 6, 3) := by decide +kernel
theorem dX1_connectHose_72 : decode cX1_connectHose 72 = .ok (.ldc 124, 2) := by decide +kernel
theorem dX1_connectHose_74 : decode cX1_connectHose 74 = .ok (.ireturn, 1) := by decide +kernel
theorem dX1_connectHose_75 : decode cX1_connectHose 75 = .ok (.aload_n 3, 1) := by decide +kernel
theorem dX1_connectHose_76 : decode cX1_connectHose 76 = .ok (.iload_n 2, 1) := by decide +kernel
theorem dX1_connectHose_77 : decode cX1_connectHose 77 = .ok (.putfield 151, 3) := by decide +kernel
theorem dX1_connectHose_80 : decode cX1_connectHose 80 = .ok (.aload_n 0, 1) := by decide +kernel
theorem dX1_connectHose_81 : decode cX1_connectHose 81 = .ok (.invokevirtual 128, 3) := by decide +kernel
theorem dX1_connectHose_84 : decode cX1_connectHose 84 = .ok (.ireturn, 1) := by decide +kernel
theorem dX1_disconnectHose_0 : decode cX1_disconnectHose 0 = .ok (.iload_n 1, 1) := by decide +kernel
theorem dX1_disconnectHose_1 : decode cX1_disconnectHose 1 = .ok (.invokestatic 131, 3) := by decide +kernel
theorem dX1_disconnectHose_4 : decode cX1_disconnectHose 4 = .ok (.ifCond .ne 6, 3) := by decide +kernel
theorem dX1_disconnectHose_7 : decode cX1_disconnectHose 7 = .ok (.ldc 134, 2) := by decide +kernel
theorem dX1_disconnectHose_9 : decode cX1_disconnectHose 9 = .ok (.ireturn, 1) := by decide +kernel
theorem dX1_disconnectHose_10 : decode cX1_disconnectHose 10 = .ok (.aload_n 0, 1) := by decide +kernel
theorem dX1_disconnectHose_11 : decode cX1_disconnectHose 11 = .ok (.getfield 34, 3) := by decide +kernel
theorem dX1_disconnectHose_14 : decode cX1_disconnectHose 14 = .ok (.iload_n 1, 1) := by decide +kernel
theorem dX1_disconnectHose_15 : decode cX1_disconnectHose 15 = .ok (.aaload, 1) := by decide +kernel
theorem dX1_disconnectHose_16 : decode cX1_disconnectHose 16 = .ok (.astore_n 2, 1) := by decide +kernel
theorem dX1_disconnectHose_17 : decode cX1_disconnectHose 17 = .ok (.aload_n 2, 1) := by decide +kernel
theorem dX1_disconnectHose_18 : decode cX1_disconnectHose 18 = .ok (.invokevirtual 144, 3) := by decide +kernel
theorem dX1_disconnectHose_21 : decode cX1_disconnectHose 21 = .ok (.ifCond .ne 6, 3) := by decide +kernel
theorem dX1_disconnectHose_24 : decode cX1_disconnectHose 24 = .ok (.ldc 124, 2) := by decide +kernel
theorem dX1_disconnectHose_26 : decode cX1_disconnectHose 26 = .ok (.ireturn, 1) := by decide +kernel
theorem dX1_disconnectHose_27 : decode cX1_disconnectHose 27 = .ok (.aload_n 2, 1) := by decide +kernel
theorem dX1_disconnectHose_28 : decode cX1_disconnectHose 28 = .ok (.getfield 151, 3) := by decide +kernel
theorem dX1_disconnectHose_31 : decode cX1_disconnectHose 31 = .ok (.istore_n 3, 1) := by decide +kernel
theorem dX1_disconnectHose_32 : decode cX1_disconnectHose 32 = .ok (.aload_n 2, 1) := by decide +kernel
theorem dX1_disconnectHose_33 : decode cX1_disconnectHose 33 = .ok (.ldc 154, 2) := by decide +kernel
theorem dX1_disconnectHose_35 : decode cX1_disconnectHose 35 = .ok (.putfield 151, 3) := by decide +kernel
theorem dX1_disconnectHose_38 : decode cX1_disconnectHose 38 = .ok (.iload_n 3, 1) := by decide +kernel
theorem dX1_disconnectHose_39 : decode cX1_disconnectHose 39 = .ok (.ireturn, 1) := by decide +kernel
theorem dX1_flushHose_0 : decode cX1_flushHose 0 = .ok (.iload_n 1, 1) := by decide +kernel
theorem dX1_flushHose_1 : decode cX1_flushHose 1 = .ok (.invokestatic 131, 3) := by decide +kernel
theorem dX1_flushHose_4 : decode cX1_flushHose 4 = .ok (.ifCond .ne 6, 3) := by decide +kernel
theorem dX1_flushHose_7 : decode cX1_flushHose 7 = .ok (.ldc 134, 2) := by decide +kernel
theorem dX1_flushHose_9 : decode cX1_flushHose 9 = .ok (.ireturn, 1) := by decide +kernel
theorem dX1_flushHose_10 : decode cX1_flushHose 10 = .ok (.aload_n 0, 1) := by decide +kernel
theorem dX1_flushHose_11 : decode cX1_flushHose 11 = .ok (.getfield 34, 3) := by decide +kernel
theorem dX1_flushHose_14 : decode cX1_flushHose 14 = .ok (.iload_n 1, 1) := by decide +kernel
theorem dX1_flushHose_15 : decode cX1_flushHose 15 = .ok (.aaload, 1) := by decide +kernel
theorem dX1_flushHose_16 : decode cX1_flushHose 16 = .ok (.astore_n 2, 1) := by decide +kernel
theorem dX1_flushHose_17 : decode cX1_flushHose 17 = .ok (.aload_n 2, 1) := by decide +kernel
theorem dX1_flushHose_18 : decode cX1_flushHose 18 = .ok (.getfield 155, 3) := by decide +kernel
theorem dX1_flushHose_21 : decode cX1_flushHose 21 = .ok (.istore_n 3, 1) := by decide +kernel
theorem dX1_flushHose_22 : decode cX1_flushHose 22 = .ok (.aload_n 2, 1) := by decide +kernel
theorem dX1_flushHose_23 : decode cX1_flushHose 23 = .ok (.invokevirtual 144, 3) := by decide +kernel
theorem dX1_flushHose_26 : decode cX1_flushHose 26 = .ok (.ifCond .ne 10, 3) := by decide +kernel
theorem dX1_flushHose_29 : decode cX1_flushHose 29 = .ok (.iload_n 3, 1) := by decide +kernel
theorem dX1_flushHose_30 : decode cX1_flushHose 30 = .ok (.invokestatic 138, 3) := by decide +kernel
theorem dX1_flushHose_33 : decode cX1_flushHose 33 = .ok (.ifCond .ne 6, 3) := by decide +kernel
theorem dX1_flushHose_36 : decode cX1_flushHose 36 = .ok (.ldc 124, 2) := by decide +kernel
theorem dX1_flushHose_38 : decode cX1_flushHose 38 = .ok (.ireturn, 1) := by decide +kernel
theorem dX1_flushHose_39 : decode cX1_flushHose 39 = .ok (.iconst 5, 1) := by decide +kernel
theorem dX1_flushHose_40 : decode cX1_flushHose 40 = .ok (.aload_n 0, 1) := by decide +kernel
theorem dX1_flushHose_41 : decode cX1_flushHose 41 = .ok (.getfield 23, 3) := by decide +kernel
theorem dX1_flushHose_44 : decode cX1_flushHose 44 = .ok (.iload_n 3, 1) := by decide +kernel
theorem dX1_flushHose_45 : decode cX1_flushHose 45 = .ok (.iaload, 1) := by decide +kernel
theorem dX1_flushHose_46 : decode cX1_flushHose 46 = .ok (.invokestatic 158, 3) := by decide +kernel
theorem dX1_flushHose_49 : decode cX1_flushHose 49 = .ok (.istore 4, 2) := by decide +kernel
theorem dX1_flushHose_51 : decode cX1_flushHose 51 = .ok (.aload_n 0, 1) := by decide +kernel
theorem dX1_flushHose_52 : decode cX1_flushHose 52 = .ok (.getfield 23, 3) := by decide +kernel
theorem dX1_flushHose_55 : decode cX1_flushHose 55 = .ok (.iload_n 3, 1) := by decide +kernel
theorem dX1_flushHose_56 : decode cX1_flushHose 56 = .ok (.dup2, 1) := by decide +kernel
theorem dX1_flushHose_57 : decode cX1_flushHose 57 = .ok (.iaload, 1) := by decide +kernel
theorem dX1_flushHose_58 : decode cX1_flushHose 58 = .ok (.iload 4, 2) := by decide +kernel
theorem dX1_flushHose_60 : decode cX1_flushHose 60 = .ok (.isub, 1) := by decide +kernel
theorem dX1_flushHose_61 : decode cX1_flushHose 61 = .ok (.iastore, 1) := by decide +kernel
theorem dX1_flushHose_62 : decode cX1_flushHose 62 = .ok (.aload_n 0, 1) := by decide +kernel
theorem dX1_flushHose_63 : decode cX1_flushHose 63 = .ok (.getfield 26, 3) := by decide +kernel
theorem dX1_flushHose_66 : decode cX1_flushHose 66 = .ok (.iload_n 3, 1) := by decide +kernel
theorem dX1_flushHose_67 : decode cX1_flushHose 67 = .ok (.dup2, 1) := by decide +kernel
theorem dX1_flushHose_68 : decode cX1_flushHose 68 = .ok (.iaload, 1) := by decide +kernel
theorem dX1_flushHose_69 : decode cX1_flushHose 69 = .ok (.iload 4, 2) := by decide +kernel
theorem dX1_flushHose_71 : decode cX1_flushHose 71 = .ok (.iadd, 1) := by decide +kernel
theorem dX1_flushHose_72 : decode cX1_flushHose 72 = .ok (.iastore, 1) := by decide +kernel
theorem dX1_flushHose_73 : decode cX1_flushHose 73 = .ok (.aload_n 2, 1) := by decide +kernel
theorem dX1_flushHose_74 : decode cX1_flushHose 74 = .ok (.ldc 154, 2) := by decide +kernel
theorem dX1_flushHose_76 : decode cX1_flushHose 76 = .ok (.putfield 155, 3) := by decide +kernel
theorem dX1_flushHose_79 : decode cX1_flushHose 79 = .ok (.iload 4, 2) := by decide +kernel
theorem dX1_flushHose_81 : decode cX1_flushHose 81 = .ok (.ireturn, 1) := by decide +kernel
theorem dX1_mendHose_0 : decode cX1_mendHose 0 = .ok (.iload_n 1, 1) := by decide +kernel
theorem dX1_mendHose_1 : decode cX1_mendHose 1 = .ok (.invokestatic 131, 3) := by decide +kernel
theorem dX1_mendHose_4 : decode cX1_mendHose 4 = .ok (.ifCond .ne 6, 3) := by decide +kernel
theorem dX1_mendHose_7 : decode cX1_mendHose 7 = .ok (.ldc 134, 2) := by decide +kernel
theorem dX1_mendHose_9 : decode cX1_mendHose 9 = .ok (.ireturn, 1) := by decide +kernel
theorem dX1_mendHose_10 : decode cX1_mendHose 10 = .ok (.aload_n 0, 1) := by decide +kernel
theorem dX1_mendHose_11 : decode cX1_mendHose 11 = .ok (.getfield 34, 3) := by decide +kernel
theorem dX1_mendHose_14 : decode cX1_mendHose 14 = .ok (.iload_n 1, 1) := by decide +kernel
theorem dX1_mendHose_15 : decode cX1_mendHose 15 = .ok (.aaload, 1) := by decide +kernel
theorem dX1_mendHose_16 : decode cX1_mendHose 16 = .ok (.astore_n 2, 1) := by decide +kernel
theorem dX1_mendHose_17 : decode cX1_mendHose 17 = .ok (.aload_n 2, 1) := by decide +kernel
theorem dX1_mendHose_18 : decode cX1_mendHose 18 = .ok (.getfield 141, 3) := by decide +kernel
theorem dX1_mendHose_21 : decode cX1_mendHose 21 = .ok (.ifCond .ne 6, 3) := by decide +kernel
theorem dX1_mendHose_24 : decode cX1_mendHose 24 = .ok (.ldc 124, 2) := by decide +kernel
theorem dX1_mendHose_26 : decode cX1_mendHose 26 = .ok (.ireturn, 1) := by decide +kernel
theorem dX1_mendHose_27 : decode cX1_mendHose 27 = .ok (.aload_n 2, 1) := by decide +kernel
theorem dX1_mendHose_28 : decode cX1_mendHose 28 = .ok (.iconst 0, 1) := by decide +kernel
theorem dX1_mendHose_29 : decode cX1_mendHose 29 = .ok (.putfield 141, 3) := by decide +kernel
theorem dX1_mendHose_32 : decode cX1_mendHose 32 = .ok (.aload_n 2, 1) := by decide +kernel
theorem dX1_mendHose_33 : decode cX1_mendHose 33 = .ok (.ldc 154, 2) := by decide +kernel
theorem dX1_mendHose_35 : decode cX1_mendHose 35 = .ok (.putfield 155, 3) := by decide +kernel
theorem dX1_mendHose_38 : decode cX1_mendHose 38 = .ok (.aload_n 0, 1) := by decide +kernel
theorem dX1_mendHose_39 : decode cX1_mendHose 39 = .ok (.invokevirtual 161, 3) := by decide +kernel
theorem dX1_mendHose_42 : decode cX1_mendHose 42 = .ok (.ireturn, 1) := by decide +kernel
theorem dX1_changeBoom_0 : decode cX1_changeBoom 0 = .ok (.aload_n 0, 1) := by decide +kernel
theorem dX1_changeBoom_1 : decode cX1_changeBoom 1 = .ok (.getfield 55, 3) := by decide +kernel
theorem dX1_changeBoom_4 : decode cX1_changeBoom 4 = .ok (.iload_n 1, 1) := by decide +kernel
theorem dX1_changeBoom_5 : decode cX1_changeBoom 5 = .ok (.if_icmp .ne 6, 3) := by decide +kernel
theorem dX1_changeBoom_8 : decode cX1_changeBoom 8 = .ok (.ldc 124, 2) := by decide +kernel
theorem dX1_changeBoom_10 : decode cX1_changeBoom 10 = .ok (.ireturn, 1) := by decide +kernel
theorem dX1_changeBoom_11 : decode cX1_changeBoom 11 = .ok (.aload_n 0, 1) := by decide +kernel
theorem dX1_changeBoom_12 : decode cX1_changeBoom 12 = .ok (.getfield 58, 3) := by decide +kernel
theorem dX1_changeBoom_15 : decode cX1_changeBoom 15 = .ok (.istore_n 2, 1) := by decide +kernel
theorem dX1_changeBoom_16 : decode cX1_changeBoom 16 = .ok (.aload_n 0, 1) := by decide +kernel
theorem dX1_changeBoom_17 : decode cX1_changeBoom 17 = .ok (.iload_n 1, 1) := by decide +kernel
theorem dX1_changeBoom_18 : decode cX1_changeBoom 18 = .ok (.putfield 55, 3) := by decide +kernel
theorem dX1_changeBoom_21 : decode cX1_changeBoom 21 = .ok (.aload_n 0, 1) := by decide +kernel
theorem dX1_changeBoom_22 : decode cX1_changeBoom 22 = .ok (.dup, 1) := by decide +kernel
theorem dX1_changeBoom_23 : decode cX1_changeBoom 23 = .ok (.getfield 64, 3) := by decide +kernel
theorem dX1_changeBoom_26 : decode cX1_changeBoom 26 = .ok (.iload_n 2, 1) := by decide +kernel
theorem dX1_changeBoom_27 : decode cX1_changeBoom 27 = .ok (.iadd, 1) := by decide +kernel
theorem dX1_changeBoom_28 : decode cX1_changeBoom 28 = .ok (.putfield 64, 3) := by decide +kernel
theorem dX1_changeBoom_31 : decode cX1_changeBoom 31 = .ok (.aload_n 0, 1) := by decide +kernel
theorem dX1_changeBoom_32 : decode cX1_changeBoom 32 = .ok (.iconst 0, 1) := by decide +kernel
theorem dX1_changeBoom_33 : decode cX1_changeBoom 33 = .ok (.putfield 58, 3) := by decide +kernel
theorem dX1_changeBoom_36 : decode cX1_changeBoom 36 = .ok (.iload_n 2, 1) := by decide +kernel
theorem dX1_changeBoom_37 : decode cX1_changeBoom 37 = .ok (.ireturn, 1) := by decide +kernel
theorem dX1_drawUnits_0 : decode cX1_drawUnits 0 = .ok (.iload_n 1, 1) := by decide +kernel
theorem dX1_drawUnits_1 : decode cX1_drawUnits 1 = .ok (.invokestatic 138, 3) := by decide +kernel
theorem dX1_drawUnits_4 : decode cX1_drawUnits 4 = .ok (.ifCond .ne 6, 3) := by decide +kernel
theorem dX1_drawUnits_7 : decode cX1_drawUnits 7 = .ok (.ldc 134, 2) := by decide +kernel
theorem dX1_drawUnits_9 : decode cX1_drawUnits 9 = .ok (.ireturn, 1) := by decide +kernel
theorem dX1_drawUnits_10 : decode cX1_drawUnits 10 = .ok (.iload_n 2, 1) := by decide +kernel
theorem dX1_drawUnits_11 : decode cX1_drawUnits 11 = .ok (.iconst 1, 1) := by decide +kernel
theorem dX1_drawUnits_12 : decode cX1_drawUnits 12 = .ok (.if_icmp .lt 10, 3) := by decide +kernel
theorem dX1_drawUnits_15 : decode cX1_drawUnits 15 = .ok (.iload_n 2, 1) := by decide +kernel
theorem dX1_drawUnits_16 : decode cX1_drawUnits 16 = .ok (.sipush 1000, 3) := by decide +kernel
theorem dX1_drawUnits_19 : decode cX1_drawUnits 19 = .ok (.if_icmp .le 6, 3) := by decide +kernel
theorem dX1_drawUnits_22 : decode cX1_drawUnits 22 = .ok (.ldc 98, 2) := by decide +kernel
theorem dX1_drawUnits_24 : decode cX1_drawUnits 24 = .ok (.ireturn, 1) := by decide +kernel
theorem dX1_drawUnits_25 : decode cX1_drawUnits 25 = .ok (.iload_n 2, 1) := by decide +kernel
theorem dX1_drawUnits_26 : decode cX1_drawUnits 26 = .ok (.aload_n 0, 1) := by decide +kernel
theorem dX1_drawUnits_27 : decode cX1_drawUnits 27 = .ok (.getfield 23, 3) := by decide +kernel
theorem dX1_drawUnits_30 : decode cX1_drawUnits 30 = .ok (.iload_n 1, 1) := by decide +kernel
theorem dX1_drawUnits_31 : decode cX1_drawUnits 31 = .ok (.iaload, 1) := by decide +kernel
theorem dX1_drawUnits_32 : decode cX1_drawUnits 32 = .ok (.if_icmp .le 6, 3) := by decide +kernel
theorem dX1_drawUnits_35 : decode cX1_drawUnits 35 = .ok (.ldc 124, 2) := by decide +kernel
theorem dX1_drawUnits_37 : decode cX1_drawUnits 37 = .ok (.ireturn, 1) := by decide +kernel
theorem dX1_drawUnits_38 : decode cX1_drawUnits 38 = .ok (.aload_n 0, 1) := by decide +kernel
theorem dX1_drawUnits_39 : decode cX1_drawUnits 39 = .ok (.getfield 23, 3) := by decide +kernel
theorem dX1_drawUnits_42 : decode cX1_drawUnits 42 = .ok (.iload_n 1, 1) := by decide +kernel
theorem dX1_drawUnits_43 : decode cX1_drawUnits 43 = .ok (.dup2, 1) := by decide +kernel
theorem dX1_drawUnits_44 : decode cX1_drawUnits 44 = .ok (.iaload, 1) := by decide +kernel
theorem dX1_drawUnits_45 : decode cX1_drawUnits 45 = .ok (.iload_n 2, 1) := by decide +kernel
theorem dX1_drawUnits_46 : decode cX1_drawUnits 46 = .ok (.isub, 1) := by decide +kernel
theorem dX1_drawUnits_47 : decode cX1_drawUnits 47 = .ok (.iastore, 1) := by decide +kernel
theorem dX1_drawUnits_48 : decode cX1_drawUnits 48 = .ok (.aload_n 0, 1) := by decide +kernel
theorem dX1_drawUnits_49 : decode cX1_drawUnits 49 = .ok (.getfield 23, 3) := by decide +kernel
theorem dX1_drawUnits_52 : decode cX1_drawUnits 52 = .ok (.iload_n 1, 1) := by decide +kernel
theorem dX1_drawUnits_53 : decode cX1_drawUnits 53 = .ok (.iaload, 1) := by decide +kernel
theorem dX1_drawUnits_54 : decode cX1_drawUnits 54 = .ok (.ireturn, 1) := by decide +kernel
theorem dX1_letPass_0 : decode cX1_letPass 0 = .ok (.iload_n 1, 1) := by decide +kernel
theorem dX1_letPass_1 : decode cX1_letPass 1 = .ok (.iconst 1, 1) := by decide +kernel
theorem dX1_letPass_2 : decode cX1_letPass 2 = .ok (.if_icmp .lt 9, 3) := by decide +kernel
theorem dX1_letPass_5 : decode cX1_letPass 5 = .ok (.iload_n 1, 1) := by decide +kernel
theorem dX1_letPass_6 : decode cX1_letPass 6 = .ok (.bipush 48, 2) := by decide +kernel
theorem dX1_letPass_8 : decode cX1_letPass 8 = .ok (.if_icmp .le 6, 3) := by decide +kernel
theorem dX1_letPass_11 : decode cX1_letPass 11 = .ok (.ldc 98, 2) := by decide +kernel
theorem dX1_letPass_13 : decode cX1_letPass 13 = .ok (.ireturn, 1) := by decide +kernel
theorem dX1_letPass_14 : decode cX1_letPass 14 = .ok (.aload_n 0, 1) := by decide +kernel
theorem dX1_letPass_15 : decode cX1_letPass 15 = .ok (.getfield 52, 3) := by decide +kernel
theorem dX1_letPass_18 : decode cX1_letPass 18 = .ok (.iload_n 1, 1) := by decide +kernel
theorem dX1_letPass_19 : decode cX1_letPass 19 = .ok (.iadd, 1) := by decide +kernel
theorem dX1_letPass_20 : decode cX1_letPass 20 = .ok (.sipush 9999, 3) := by decide +kernel
theorem dX1_letPass_23 : decode cX1_letPass 23 = .ok (.if_icmp .le 6, 3) := by decide +kernel
theorem dX1_letPass_26 : decode cX1_letPass 26 = .ok (.ldc 109, 2) := by decide +kernel
theorem dX1_letPass_28 : decode cX1_letPass 28 = .ok (.ireturn, 1) := by decide +kernel
theorem dX1_letPass_29 : decode cX1_letPass 29 = .ok (.iconst 0, 1) := by decide +kernel
theorem dX1_letPass_30 : decode cX1_letPass 30 = .ok (.istore_n 2, 1) := by decide +kernel
theorem dX1_letPass_31 : decode cX1_letPass 31 = .ok (.iconst 0, 1) := by decide +kernel
theorem dX1_letPass_32 : decode cX1_letPass 32 = .ok (.istore_n 3, 1) := by decide +kernel
theorem dX1_letPass_33 : decode cX1_letPass 33 = .ok (.iload_n 3, 1) := by decide +kernel
theorem dX1_letPass_34 : decode cX1_letPass 34 = .ok (.iload_n 1, 1) := by decide +kernel
theorem dX1_letPass_35 : decode cX1_letPass 35 = .ok (.if_icmp .ge 16, 3) := by decide +kernel
theorem dX1_letPass_38 : decode cX1_letPass 38 = .ok (.iload_n 2, 1) := by decide +kernel
theorem dX1_letPass_39 : decode cX1_letPass 39 = .ok (.aload_n 0, 1) := by decide +kernel
theorem dX1_letPass_40 : decode cX1_letPass 40 = .ok (.invokevirtual 164, 3) := by decide +kernel
theorem dX1_letPass_43 : decode cX1_letPass 43 = .ok (.iadd, 1) := by decide +kernel
theorem dX1_letPass_44 : decode cX1_letPass 44 = .ok (.istore_n 2, 1) := by decide +kernel
theorem dX1_letPass_45 : decode cX1_letPass 45 = .ok (.iinc 3 1, 3) := by decide +kernel
theorem dX1_letPass_48 : decode cX1_letPass 48 = .ok (.goto (-15), 3) := by decide +kernel
theorem dX1_letPass_51 : decode cX1_letPass 51 = .ok (.iload_n 2, 1) := by decide +kernel
theorem dX1_letPass_52 : decode cX1_letPass 52 = .ok (.ireturn, 1) := by decide +kernel
theorem dX1_nextHour_0 : decode cX1_nextHour 0 = .ok (.aload_n 0, 1) := by decide +kernel
theorem dX1_nextHour_1 : decode cX1_nextHour 1 = .ok (.dup, 1) := by decide +kernel
theorem dX1_nextHour_2 : decode cX1_nextHour 2 = .ok (.getfield 52, 3) := by decide +kernel
theorem dX1_nextHour_5 : decode cX1_nextHour 5 = .ok (.iconst 1, 1) := by decide +kernel
theorem dX1_nextHour_6 : decode cX1_nextHour 6 = .ok (.iadd, 1) := by decide +kernel
theorem dX1_nextHour_7 : decode cX1_nextHour 7 = .ok (.putfield 52, 3) := by decide +kernel
theorem dX1_nextHour_10 : decode cX1_nextHour 10 = .ok (.aload_n 0, 1) := by decide +kernel
theorem dX1_nextHour_11 : decode cX1_nextHour 11 = .ok (.invokevirtual 167, 3) := by decide +kernel
theorem dX1_nextHour_14 : decode cX1_nextHour 14 = .ok (.aload_n 0, 1) := by decide +kernel
theorem dX1_nextHour_15 : decode cX1_nextHour 15 = .ok (.invokevirtual 170, 3) := by decide +kernel
theorem dX1_nextHour_18 : decode cX1_nextHour 18 = .ok (.aload_n 0, 1) := by decide +kernel
theorem dX1_nextHour_19 : decode cX1_nextHour 19 = .ok (.invokevirtual 173, 3) := by decide +kernel
theorem dX1_nextHour_22 : decode cX1_nextHour 22 = .ok (.istore_n 1, 1) := by decide +kernel
theorem dX1_nextHour_23 : decode cX1_nextHour 23 = .ok (.aload_n 0, 1) := by decide +kernel
theorem dX1_nextHour_24 : decode cX1_nextHour 24 = .ok (.dup, 1) := by decide +kernel
theorem dX1_nextHour_25 : decode cX1_nextHour 25 = .ok (.getfield 67, 3) := by decide +kernel
theorem dX1_nextHour_28 : decode cX1_nextHour 28 = .ok (.aload_n 0, 1) := by decide +kernel
theorem dX1_nextHour_29 : decode cX1_nextHour 29 = .ok (.invokevirtual 176, 3) := by decide +kernel
theorem dX1_nextHour_32 : decode cX1_nextHour 32 = .ok (.aload_n 0, 1) := by decide +kernel
theorem dX1_nextHour_33 : decode cX1_nextHour 33 = .ok (.getfield 18, 3) := by decide +kernel
theorem dX1_nextHour_36 : decode cX1_nextHour 36 = .ok (.iconst 5, 1) := by decide +kernel
theorem dX1_nextHour_37 : decode cX1_nextHour 37 = .ok (.iaload, 1) := by decide +kernel
theorem dX1_nextHour_38 : decode cX1_nextHour 38 = .ok (.imul, 1) := by decide +kernel
theorem dX1_nextHour_39 : decode cX1_nextHour 39 = .ok (.iadd, 1) := by decide +kernel
theorem dX1_nextHour_40 : decode cX1_nextHour 40 = .ok (.putfield 67, 3) := by decide +kernel
theorem dX1_nextHour_43 : decode cX1_nextHour 43 = .ok (.iload_n 1, 1) := by decide +kernel
theorem dX1_nextHour_44 : decode cX1_nextHour 44 = .ok (.ireturn, 1) := by decide +kernel
theorem dX1_tearBoom_0 : decode cX1_tearBoom 0 = .ok (.aload_n 0, 1) := by decide +kernel
theorem dX1_tearBoom_1 : decode cX1_tearBoom 1 = .ok (.aload_n 0, 1) := by decide +kernel
theorem dX1_tearBoom_2 : decode cX1_tearBoom 2 = .ok (.getfield 52, 3) := by decide +kernel
theorem dX1_tearBoom_5 : decode cX1_tearBoom 5 = .ok (.invokevirtual 94, 3) := by decide +kernel
theorem dX1_tearBoom_8 : decode cX1_tearBoom 8 = .ok (.aload_n 0, 1) := by decide +kernel
theorem dX1_tearBoom_9 : decode cX1_tearBoom 9 = .ok (.aload_n 0, 1) := by decide +kernel
theorem dX1_tearBoom_10 : decode cX1_tearBoom 10 = .ok (.getfield 52, 3) := by decide +kernel
theorem dX1_tearBoom_13 : decode cX1_tearBoom 13 = .ok (.iconst 1, 1) := by decide +kernel
theorem dX1_tearBoom_14 : decode cX1_tearBoom 14 = .ok (.isub, 1) := by decide +kernel
theorem dX1_tearBoom_15 : decode cX1_tearBoom 15 = .ok (.invokevirtual 94, 3) := by decide +kernel
theorem dX1_tearBoom_18 : decode cX1_tearBoom 18 = .ok (.isub, 1) := by decide +kernel
theorem dX1_tearBoom_19 : decode cX1_tearBoom 19 = .ok (.invokestatic 179, 3) := by decide +kernel
theorem dX1_tearBoom_22 : decode cX1_tearBoom 22 = .ok (.istore_n 1, 1) := by decide +kernel
theorem dX1_tearBoom_23 : decode cX1_tearBoom 23 = .ok (.aload_n 0, 1) := by decide +kernel
theorem dX1_tearBoom_24 : decode cX1_tearBoom 24 = .ok (.getfield 55, 3) := by decide +kernel
theorem dX1_tearBoom_27 : decode cX1_tearBoom 27 = .ok (.ifCond .eq 9, 3) := by decide +kernel
theorem dX1_tearBoom_30 : decode cX1_tearBoom 30 = .ok (.iload_n 1, 1) := by decide +kernel
theorem dX1_tearBoom_31 : decode cX1_tearBoom 31 = .ok (.bipush 15, 2) := by decide +kernel
theorem dX1_tearBoom_33 : decode cX1_tearBoom 33 = .ok (.if_icmp .gt 4, 3) := by decide +kernel
theorem dX1_tearBoom_36 : decode cX1_tearBoom 36 = .ok (.return_, 1) := by decide +kernel
theorem dX1_tearBoom_37 : decode cX1_tearBoom 37 = .ok (.aload_n 0, 1) := by decide +kernel
theorem dX1_tearBoom_38 : decode cX1_tearBoom 38 = .ok (.iconst 0, 1) := by decide +kernel
theorem dX1_tearBoom_39 : decode cX1_tearBoom 39 = .ok (.putfield 55, 3) := by decide +kernel
theorem dX1_tearBoom_42 : decode cX1_tearBoom 42 = .ok (.aload_n 0, 1) := by decide +kernel
theorem dX1_tearBoom_43 : decode cX1_tearBoom 43 = .ok (.dup, 1) := by decide +kernel
theorem dX1_tearBoom_44 : decode cX1_tearBoom 44 = .ok (.getfield 61, 3) := by decide +kernel
theorem dX1_tearBoom_47 : decode cX1_tearBoom 47 = .ok (.aload_n 0, 1) := by decide +kernel
theorem dX1_tearBoom_48 : decode cX1_tearBoom 48 = .ok (.getfield 58, 3) := by decide +kernel
theorem dX1_tearBoom_51 : decode cX1_tearBoom 51 = .ok (.iadd, 1) := by decide +kernel
theorem dX1_tearBoom_52 : decode cX1_tearBoom 52 = .ok (.putfield 61, 3) := by decide +kernel
theorem dX1_tearBoom_55 : decode cX1_tearBoom 55 = .ok (.aload_n 0, 1) := by decide +kernel
theorem dX1_tearBoom_56 : decode cX1_tearBoom 56 = .ok (.iconst 0, 1) := by decide +kernel
theorem dX1_tearBoom_57 : decode cX1_tearBoom 57 = .ok (.putfield 58, 3) := by decide +kernel
theorem dX1_tearBoom_60 : decode cX1_tearBoom 60 = .ok (.return_, 1) := by decide +kernel
theorem dX1_burstShortHoses_0 : decode cX1_burstShortHoses 0 = .ok (.aload_n 0, 1) := by decide +kernel
theorem dX1_burstShortHoses_1 : decode cX1_burstShortHoses 1 = .ok (.getfield 44, 3) := by decide +kernel
theorem dX1_burstShortHoses_4 : decode cX1_burstShortHoses 4 = .ok (.ifCond .ne 4, 3) := by decide +kernel
theorem dX1_burstShortHoses_7 : decode cX1_burstShortHoses 7 = .ok (.return_, 1) := by decide +kernel
theorem dX1_burstShortHoses_8 : decode cX1_burstShortHoses 8 = .ok (.iconst 0, 1) := by decide +kernel
theorem dX1_burstShortHoses_9 : decode cX1_burstShortHoses 9 = .ok (.istore_n 1, 1) := by decide +kernel
theorem dX1_burstShortHoses_10 : decode cX1_burstShortHoses 10 = .ok (.iload_n 1, 1) := by decide +kernel
theorem dX1_burstShortHoses_11 : decode cX1_burstShortHoses 11 = .ok (.iconst 4, 1) := by decide +kernel
theorem dX1_burstShortHoses_12 : decode cX1_burstShortHoses 12 = .ok (.if_icmp .ge 72, 3) := by decide +kernel
theorem dX1_burstShortHoses_15 : decode cX1_burstShortHoses 15 = .ok (.aload_n 0, 1) := by decide +kernel
theorem dX1_burstShortHoses_16 : decode cX1_burstShortHoses 16 = .ok (.getfield 34, 3) := by decide +kernel
theorem dX1_burstShortHoses_19 : decode cX1_burstShortHoses 19 = .ok (.iload_n 1, 1) := by decide +kernel
theorem dX1_burstShortHoses_20 : decode cX1_burstShortHoses 20 = .ok (.aaload, 1) := by decide +kernel
theorem dX1_burstShortHoses_21 : decode cX1_burstShortHoses 21 = .ok (.astore_n 2, 1) := by decide +kernel
theorem dX1_burstShortHoses_22 : decode cX1_burstShortHoses 22 = .ok (.aload_n 0, 1) := by decide +kernel
theorem dX1_burstShortHoses_23 : decode cX1_burstShortHoses 23 = .ok (.aload_n 0, 1) := by decide +kernel
theorem dX1_burstShortHoses_24 : decode cX1_burstShortHoses 24 = .ok (.getfield 40, 3) := by decide +kernel
theorem dX1_burstShortHoses_27 : decode cX1_burstShortHoses 27 = .ok (.iconst 0, 1) := by decide +kernel
theorem dX1_burstShortHoses_28 : decode cX1_burstShortHoses 28 = .ok (.aaload, 1) := by decide +kernel
theorem dX1_burstShortHoses_29 : decode cX1_burstShortHoses 29 = .ok (.invokevirtual 116, 3) := by decide +kernel
theorem dX1_burstShortHoses_32 : decode cX1_burstShortHoses 32 = .ok (.aload_n 0, 1) := by decide +kernel
theorem dX1_burstShortHoses_33 : decode cX1_burstShortHoses 33 = .ok (.getfield 52, 3) := by decide +kernel
theorem dX1_burstShortHoses_36 : decode cX1_burstShortHoses 36 = .ok (.invokevirtual 148, 3) := by decide +kernel
theorem dX1_burstShortHoses_39 : decode cX1_burstShortHoses 39 = .ok (.istore_n 3, 1) := by decide +kernel
theorem dX1_burstShortHoses_40 : decode cX1_burstShortHoses 40 = .ok (.aload_n 2, 1) := by decide +kernel
theorem dX1_burstShortHoses_41 : decode cX1_burstShortHoses 41 = .ok (.invokevirtual 144, 3) := by decide +kernel
theorem dX1_burstShortHoses_44 : decode cX1_burstShortHoses 44 = .ok (.ifCond .eq 34, 3) := by decide +kernel
theorem dX1_burstShortHoses_47 : decode cX1_burstShortHoses 47 = .ok (.iload_n 3, 1) := by decide +kernel
theorem dX1_burstShortHoses_48 : decode cX1_burstShortHoses 48 = .ok (.aload_n 2, 1) := by decide +kernel
theorem dX1_burstShortHoses_49 : decode cX1_burstShortHoses 49 = .ok (.getfield 135, 3) := by decide +kernel
theorem dX1_burstShortHoses_52 : decode cX1_burstShortHoses 52 = .ok (.if_icmp .gt 6, 3) := by decide +kernel
theorem dX1_burstShortHoses_55 : decode cX1_burstShortHoses 55 = .ok (.goto 23, 3) := by decide +kernel
theorem dX1_burstShortHoses_58 : decode cX1_burstShortHoses 58 = .ok (.aload_n 2, 1) := by decide +kernel
theorem dX1_burstShortHoses_59 : decode cX1_burstShortHoses 59 = .ok (.getfield 182, 3) := by decide +kernel
theorem dX1_burstShortHoses_62 : decode cX1_burstShortHoses 62 = .ok (.ifCond .eq 11, 3) := by decide +kernel
theorem dX1_burstShortHoses_65 : decode cX1_burstShortHoses 65 = .ok (.aload_n 2, 1) := by decide +kernel
theorem dX1_burstShortHoses_66 : decode cX1_burstShortHoses 66 = .ok (.iload_n 3, 1) := by decide +kernel
theorem dX1_burstShortHoses_67 : decode cX1_burstShortHoses 67 = .ok (.putfield 135, 3) := by decide +kernel
theorem dX1_burstShortHoses_70 : decode cX1_burstShortHoses 70 = .ok (.goto 8, 3) := by decide +kernel
theorem dX1_burstShortHoses_73 : decode cX1_burstShortHoses 73 = .ok (.aload_n 0, 1) := by decide +kernel
theorem dX1_burstShortHoses_74 : decode cX1_burstShortHoses 74 = .ok (.aload_n 2, 1) := by decide +kernel
theorem dX1_burstShortHoses_75 : decode cX1_burstShortHoses 75 = .ok (.invokevirtual 185, 3) := by decide +kernel
theorem dX1_burstShortHoses_78 : decode cX1_burstShortHoses 78 = .ok (.iinc 1 1, 3) := by decide +kernel
theorem dX1_burstShortHoses_81 : decode cX1_burstShortHoses 81 = .ok (.goto (-71), 3) := by decide +kernel
theorem dX1_burstShortHoses_84 : decode cX1_burstShortHoses 84 = .ok (.return_, 1) := by decide +kernel
theorem dX1_burst_0 : decode cX1_burst 0 = .ok (.aload_n 1, 1) := by decide +kernel
theorem dX1_burst_1 : decode cX1_burst 1 = .ok (.getfield 151, 3) := by decide +kernel
theorem dX1_burst_4 : decode cX1_burst 4 = .ok (.istore_n 2, 1) := by decide +kernel
theorem dX1_burst_5 : decode cX1_burst 5 = .ok (.aload_n 1, 1) := by decide +kernel
theorem dX1_burst_6 : decode cX1_burst 6 = .ok (.iconst 1, 1) := by decide +kernel
theorem dX1_burst_7 : decode cX1_burst 7 = .ok (.putfield 141, 3) := by decide +kernel
theorem dX1_burst_10 : decode cX1_burst 10 = .ok (.aload_n 1, 1) := by decide +kernel
theorem dX1_burst_11 : decode cX1_burst 11 = .ok (.ldc 154, 2) := by decide +kernel
theorem dX1_burst_13 : decode cX1_burst 13 = .ok (.putfield 151, 3) := by decide +kernel
theorem dX1_burst_16 : decode cX1_burst 16 = .ok (.iload_n 2, 1) := by decide +kernel
theorem dX1_burst_17 : decode cX1_burst 17 = .ok (.invokestatic 138, 3) := by decide +kernel
theorem dX1_burst_20 : decode cX1_burst 20 = .ok (.ifCond .ne 4, 3) := by decide +kernel
theorem dX1_burst_23 : decode cX1_burst 23 = .ok (.return_, 1) := by decide +kernel
theorem dX1_burst_24 : decode cX1_burst 24 = .ok (.aload_n 0, 1) := by decide +kernel
theorem dX1_burst_25 : decode cX1_burst 25 = .ok (.getfield 40, 3) := by decide +kernel
theorem dX1_burst_28 : decode cX1_burst 28 = .ok (.iconst 0, 1) := by decide +kernel
theorem dX1_burst_29 : decode cX1_burst 29 = .ok (.aaload, 1) := by decide +kernel
theorem dX1_burst_30 : decode cX1_burst 30 = .ok (.getfield 110, 3) := by decide +kernel
theorem dX1_burst_33 : decode cX1_burst 33 = .ok (.astore_n 3, 1) := by decide +kernel
theorem dX1_burst_34 : decode cX1_burst 34 = .ok (.aload_n 0, 1) := by decide +kernel
theorem dX1_burst_35 : decode cX1_burst 35 = .ok (.getfield 18, 3) := by decide +kernel
theorem dX1_burst_38 : decode cX1_burst 38 = .ok (.iconst 3, 1) := by decide +kernel
theorem dX1_burst_39 : decode cX1_burst 39 = .ok (.iaload, 1) := by decide +kernel
theorem dX1_burst_40 : decode cX1_burst 40 = .ok (.aload_n 3, 1) := by decide +kernel
theorem dX1_burst_41 : decode cX1_burst 41 = .ok (.iload_n 2, 1) := by decide +kernel
theorem dX1_burst_42 : decode cX1_burst 42 = .ok (.iaload, 1) := by decide +kernel
theorem dX1_burst_43 : decode cX1_burst 43 = .ok (.invokestatic 158, 3) := by decide +kernel
theorem dX1_burst_46 : decode cX1_burst 46 = .ok (.istore 4, 2) := by decide +kernel
theorem dX1_burst_48 : decode cX1_burst 48 = .ok (.aload_n 0, 1) := by decide +kernel
theorem dX1_burst_49 : decode cX1_burst 49 = .ok (.getfield 55, 3) := by decide +kernel
theorem dX1_burst_52 : decode cX1_burst 52 = .ok (.ifCond .eq 19, 3) := by decide +kernel
theorem dX1_burst_55 : decode cX1_burst 55 = .ok (.iload 4, 2) := by decide +kernel
theorem dX1_burst_57 : decode cX1_burst 57 = .ok (.sipush 200, 3) := by decide +kernel
theorem dX1_burst_60 : decode cX1_burst 60 = .ok (.aload_n 0, 1) := by decide +kernel
theorem dX1_burst_61 : decode cX1_burst 61 = .ok (.getfield 58, 3) := by decide +kernel
theorem dX1_burst_64 : decode cX1_burst 64 = .ok (.isub, 1) := by decide +kernel
theorem dX1_burst_65 : decode cX1_burst 65 = .ok (.invokestatic 158, 3) := by decide +kernel
theorem dX1_burst_68 : decode cX1_burst 68 = .ok (.goto 4, 3) := by decide +kernel
theorem dX1_burst_71 : decode cX1_burst 71 = .ok (.iconst 0, 1) := by decide +kernel
theorem dX1_burst_72 : decode cX1_burst 72 = .ok (.istore 5, 2) := by decide +kernel
theorem dX1_burst_74 : decode cX1_burst 74 = .ok (.aload_n 3, 1) := by decide +kernel
theorem dX1_burst_75 : decode cX1_burst 75 = .ok (.iload_n 2, 1) := by decide +kernel
theorem dX1_burst_76 : decode cX1_burst 76 = .ok (.dup2, 1) := by decide +kernel
theorem dX1_burst_77 : decode cX1_burst 77 = .ok (.iaload, 1) := by decide +kernel
theorem dX1_burst_78 : decode cX1_burst 78 = .ok (.iload 4, 2) := by decide +kernel
theorem dX1_burst_80 : decode cX1_burst 80 = .ok (.isub, 1) := by decide +kernel
theorem dX1_burst_81 : decode cX1_burst 81 = .ok (.iastore, 1) := by decide +kernel
theorem dX1_burst_82 : decode cX1_burst 82 = .ok (.aload_n 0, 1) := by decide +kernel
theorem dX1_burst_83 : decode cX1_burst 83 = .ok (.getfield 29, 3) := by decide +kernel
theorem dX1_burst_86 : decode cX1_burst 86 = .ok (.iload_n 2, 1) := by decide +kernel
theorem dX1_burst_87 : decode cX1_burst 87 = .ok (.dup2, 1) := by decide +kernel
theorem dX1_burst_88 : decode cX1_burst 88 = .ok (.iaload, 1) := by decide +kernel
theorem dX1_burst_89 : decode cX1_burst 89 = .ok (.iload 4, 2) := by decide +kernel
theorem dX1_burst_91 : decode cX1_burst 91 = .ok (.iadd, 1) := by decide +kernel
theorem dX1_burst_92 : decode cX1_burst 92 = .ok (.iastore, 1) := by decide +kernel
theorem dX1_burst_93 : decode cX1_burst 93 = .ok (.aload_n 0, 1) := by decide +kernel
theorem dX1_burst_94 : decode cX1_burst 94 = .ok (.dup, 1) := by decide +kernel
theorem dX1_burst_95 : decode cX1_burst 95 = .ok (.getfield 58, 3) := by decide +kernel
theorem dX1_burst_98 : decode cX1_burst 98 = .ok (.iload 5, 2) := by decide +kernel
theorem dX1_burst_100 : decode cX1_burst 100 = .ok (.iadd, 1) := by decide +kernel
theorem dX1_burst_101 : decode cX1_burst 101 = .ok (.putfield 58, 3) := by decide +kernel
theorem dX1_burst_104 : decode cX1_burst 104 = .ok (.aload_n 0, 1) := by decide +kernel
theorem dX1_burst_105 : decode cX1_burst 105 = .ok (.dup, 1) := by decide +kernel
theorem dX1_burst_106 : decode cX1_burst 106 = .ok (.getfield 61, 3) := by decide +kernel
theorem dX1_burst_109 : decode cX1_burst 109 = .ok (.iload 4, 2) := by decide +kernel
theorem dX1_burst_111 : decode cX1_burst 111 = .ok (.iload 5, 2) := by decide +kernel
theorem dX1_burst_113 : decode cX1_burst 113 = .ok (.isub, 1) := by decide +kernel
theorem dX1_burst_114 : decode cX1_burst 114 = .ok (.iadd, 1) := by decide +kernel
theorem dX1_burst_115 : decode cX1_burst 115 = .ok (.putfield 61, 3) := by decide +kernel
theorem dX1_burst_118 : decode cX1_burst 118 = .ok (.return_, 1) := by decide +kernel
theorem dX1_moveUnits_0 : decode cX1_moveUnits 0 = .ok (.aload_n 0, 1) := by decide +kernel
theorem dX1_moveUnits_1 : decode cX1_moveUnits 1 = .ok (.getfield 44, 3) := by decide +kernel
theorem dX1_moveUnits_4 : decode cX1_moveUnits 4 = .ok (.ifCond .eq 30, 3) := by decide +kernel
theorem dX1_moveUnits_7 : decode cX1_moveUnits 7 = .ok (.aload_n 0, 1) := by decide +kernel
theorem dX1_moveUnits_8 : decode cX1_moveUnits 8 = .ok (.getfield 55, 3) := by decide +kernel
theorem dX1_moveUnits_11 : decode cX1_moveUnits 11 = .ok (.ifCond .eq 23, 3) := by decide +kernel
theorem dX1_moveUnits_14 : decode cX1_moveUnits 14 = .ok (.aload_n 0, 1) := by decide +kernel
theorem dX1_moveUnits_15 : decode cX1_moveUnits 15 = .ok (.aload_n 0, 1) := by decide +kernel
theorem dX1_moveUnits_16 : decode cX1_moveUnits 16 = .ok (.getfield 40, 3) := by decide +kernel
theorem dX1_moveUnits_19 : decode cX1_moveUnits 19 = .ok (.iconst 0, 1) := by decide +kernel
theorem dX1_moveUnits_20 : decode cX1_moveUnits 20 = .ok (.aaload, 1) := by decide +kernel
theorem dX1_moveUnits_21 : decode cX1_moveUnits 21 = .ok (.invokevirtual 116, 3) := by decide +kernel
theorem dX1_moveUnits_24 : decode cX1_moveUnits 24 = .ok (.aload_n 0, 1) := by decide +kernel
theorem dX1_moveUnits_25 : decode cX1_moveUnits 25 = .ok (.getfield 52, 3) := by decide +kernel
theorem dX1_moveUnits_28 : decode cX1_moveUnits 28 = .ok (.invokevirtual 120, 3) := by decide +kernel
theorem dX1_moveUnits_31 : decode cX1_moveUnits 31 = .ok (.ifCond .ne 5, 3) := by decide +kernel
theorem dX1_moveUnits_34 : decode cX1_moveUnits 34 = .ok (.iconst 0, 1) := by decide +kernel
theorem dX1_moveUnits_35 : decode cX1_moveUnits 35 = .ok (.ireturn, 1) := by decide +kernel
theorem dX1_moveUnits_36 : decode cX1_moveUnits 36 = .ok (.iconst 0, 1) := by decide +kernel
theorem dX1_moveUnits_37 : decode cX1_moveUnits 37 = .ok (.istore_n 1, 1) := by decide +kernel
theorem dX1_moveUnits_38 : decode cX1_moveUnits 38 = .ok (.iconst 0, 1) := by decide +kernel
theorem dX1_moveUnits_39 : decode cX1_moveUnits 39 = .ok (.istore_n 2, 1) := by decide +kernel
theorem dX1_moveUnits_40 : decode cX1_moveUnits 40 = .ok (.iload_n 2, 1) := by decide +kernel
theorem dX1_moveUnits_41 : decode cX1_moveUnits 41 = .ok (.iconst 4, 1) := by decide +kernel
theorem dX1_moveUnits_42 : decode cX1_moveUnits 42 = .ok (.if_icmp .ge 22, 3) := by decide +kernel
theorem dX1_moveUnits_45 : decode cX1_moveUnits 45 = .ok (.iload_n 1, 1) := by decide +kernel
theorem dX1_moveUnits_46 : decode cX1_moveUnits 46 = .ok (.aload_n 0, 1) := by decide +kernel
theorem dX1_moveUnits_47 : decode cX1_moveUnits 47 = .ok (.aload_n 0, 1) := by decide +kernel
theorem dX1_moveUnits_48 : decode cX1_moveUnits 48 = .ok (.getfield 34, 3) := by decide +kernel
theorem dX1_moveUnits_51 : decode cX1_moveUnits 51 = .ok (.iload_n 2, 1) := by decide +kernel
theorem dX1_moveUnits_52 : decode cX1_moveUnits 52 = .ok (.aaload, 1) := by decide +kernel
theorem dX1_moveUnits_53 : decode cX1_moveUnits 53 = .ok (.invokevirtual 188, 3) := by decide +kernel
theorem dX1_moveUnits_56 : decode cX1_moveUnits 56 = .ok (.iadd, 1) := by decide +kernel
theorem dX1_moveUnits_57 : decode cX1_moveUnits 57 = .ok (.istore_n 1, 1) := by decide +kernel
theorem dX1_moveUnits_58 : decode cX1_moveUnits 58 = .ok (.iinc 2 1, 3) := by decide +kernel
theorem dX1_moveUnits_61 : decode cX1_moveUnits 61 = .ok (.goto (-21), 3) := by decide +kernel
theorem dX1_moveUnits_64 : decode cX1_moveUnits 64 = .ok (.iload_n 1, 1) := by decide +kernel
theorem dX1_moveUnits_65 : decode cX1_moveUnits 65 = .ok (.ireturn, 1) := by decide +kernel
theorem dX1_moveThrough_0 : decode cX1_moveThrough 0 = .ok (.aload_n 1, 1) := by decide +kernel
theorem dX1_moveThrough_1 : decode cX1_moveThrough 1 = .ok (.getfield 151, 3) := by decide +kernel
theorem dX1_moveThrough_4 : decode cX1_moveThrough 4 = .ok (.istore_n 2, 1) := by decide +kernel
theorem dX1_moveThrough_5 : decode cX1_moveThrough 5 = .ok (.iload_n 2, 1) := by decide +kernel
theorem dX1_moveThrough_6 : decode cX1_moveThrough 6 = .ok (.invokestatic 138, 3) := by decide +kernel
theorem dX1_moveThrough_9 : decode cX1_moveThrough 9 = .ok (.ifCond .ne 5, 3) := by decide +kernel
theorem dX1_moveThrough_12 : decode cX1_moveThrough 12 = .ok (.iconst 0, 1) := by decide +kernel
theorem dX1_moveThrough_13 : decode cX1_moveThrough 13 = .ok (.ireturn, 1) := by decide +kernel
theorem dX1_moveThrough_14 : decode cX1_moveThrough 14 = .ok (.aload_n 0, 1) := by decide +kernel
theorem dX1_moveThrough_15 : decode cX1_moveThrough 15 = .ok (.getfield 40, 3) := by decide +kernel
theorem dX1_moveThrough_18 : decode cX1_moveThrough 18 = .ok (.iconst 0, 1) := by decide +kernel
theorem dX1_moveThrough_19 : decode cX1_moveThrough 19 = .ok (.aaload, 1) := by decide +kernel
theorem dX1_moveThrough_20 : decode cX1_moveThrough 20 = .ok (.getfield 110, 3) := by decide +kernel
theorem dX1_moveThrough_23 : decode cX1_moveThrough 23 = .ok (.astore_n 3, 1) := by decide +kernel
theorem dX1_moveThrough_24 : decode cX1_moveThrough 24 = .ok (.aload_n 0, 1) := by decide +kernel
theorem dX1_moveThrough_25 : decode cX1_moveThrough 25 = .ok (.getfield 18, 3) := by decide +kernel
theorem dX1_moveThrough_28 : decode cX1_moveThrough 28 = .ok (.iconst 3, 1) := by decide +kernel
theorem dX1_moveThrough_29 : decode cX1_moveThrough 29 = .ok (.iaload, 1) := by decide +kernel
theorem dX1_moveThrough_30 : decode cX1_moveThrough 30 = .ok (.aload_n 3, 1) := by decide +kernel
theorem dX1_moveThrough_31 : decode cX1_moveThrough 31 = .ok (.iload_n 2, 1) := by decide +kernel
theorem dX1_moveThrough_32 : decode cX1_moveThrough 32 = .ok (.iaload, 1) := by decide +kernel
theorem dX1_moveThrough_33 : decode cX1_moveThrough 33 = .ok (.sipush 1000, 3) := by decide +kernel
theorem dX1_moveThrough_36 : decode cX1_moveThrough 36 = .ok (.aload_n 0, 1) := by decide +kernel
theorem dX1_moveThrough_37 : decode cX1_moveThrough 37 = .ok (.getfield 23, 3) := by decide +kernel
theorem dX1_moveThrough_40 : decode cX1_moveThrough 40 = .ok (.iload_n 2, 1) := by decide +kernel
theorem dX1_moveThrough_41 : decode cX1_moveThrough 41 = .ok (.iaload, 1) := by decide +kernel
theorem dX1_moveThrough_42 : decode cX1_moveThrough 42 = .ok (.isub, 1) := by decide +kernel
theorem dX1_moveThrough_43 : decode cX1_moveThrough 43 = .ok (.invokestatic 158, 3) := by decide +kernel
theorem dX1_moveThrough_46 : decode cX1_moveThrough 46 = .ok (.invokestatic 158, 3) := by decide +kernel
theorem dX1_moveThrough_49 : decode cX1_moveThrough 49 = .ok (.istore 4, 2) := by decide +kernel
theorem dX1_moveThrough_51 : decode cX1_moveThrough 51 = .ok (.iload 4, 2) := by decide +kernel
theorem dX1_moveThrough_53 : decode cX1_moveThrough 53 = .ok (.ifCond .gt 5, 3) := by decide +kernel
theorem dX1_moveThrough_56 : decode cX1_moveThrough 56 = .ok (.iconst 0, 1) := by decide +kernel
theorem dX1_moveThrough_57 : decode cX1_moveThrough 57 = .ok (.ireturn, 1) := by decide +kernel
theorem dX1_moveThrough_58 : decode cX1_moveThrough 58 = .ok (.aload_n 1, 1) := by decide +kernel
theorem dX1_moveThrough_59 : decode cX1_moveThrough 59 = .ok (.invokevirtual 192, 3) := by decide +kernel
theorem dX1_moveThrough_62 : decode cX1_moveThrough 62 = .ok (.istore 5, 2) := by decide +kernel
theorem dX1_moveThrough_64 : decode cX1_moveThrough 64 = .ok (.aload_n 3, 1) := by decide +kernel
theorem dX1_moveThrough_65 : decode cX1_moveThrough 65 = .ok (.iload_n 2, 1) := by decide +kernel
theorem dX1_moveThrough_66 : decode cX1_moveThrough 66 = .ok (.dup2, 1) := by decide +kernel
theorem dX1_moveThrough_67 : decode cX1_moveThrough 67 = .ok (.iaload, 1) := by decide +kernel
theorem dX1_moveThrough_68 : decode cX1_moveThrough 68 = .ok (.iload 4, 2) := by decide +kernel
theorem dX1_moveThrough_70 : decode cX1_moveThrough 70 = .ok (.isub, 1) := by decide +kernel
theorem dX1_moveThrough_71 : decode cX1_moveThrough 71 = .ok (.iastore, 1) := by decide +kernel
theorem dX1_moveThrough_72 : decode cX1_moveThrough 72 = .ok (.aload_n 1, 1) := by decide +kernel
theorem dX1_moveThrough_73 : decode cX1_moveThrough 73 = .ok (.iload_n 2, 1) := by decide +kernel
theorem dX1_moveThrough_74 : decode cX1_moveThrough 74 = .ok (.putfield 155, 3) := by decide +kernel
theorem dX1_moveThrough_77 : decode cX1_moveThrough 77 = .ok (.iload 5, 2) := by decide +kernel
theorem dX1_moveThrough_79 : decode cX1_moveThrough 79 = .ok (.ifCond .eq 27, 3) := by decide +kernel
theorem dX1_moveThrough_82 : decode cX1_moveThrough 82 = .ok (.aload_n 0, 1) := by decide +kernel
theorem dX1_moveThrough_83 : decode cX1_moveThrough 83 = .ok (.getfield 26, 3) := by decide +kernel
theorem dX1_moveThrough_86 : decode cX1_moveThrough 86 = .ok (.iload_n 2, 1) := by decide +kernel
theorem dX1_moveThrough_87 : decode cX1_moveThrough 87 = .ok (.dup2, 1) := by decide +kernel
theorem dX1_moveThrough_88 : decode cX1_moveThrough 88 = .ok (.iaload, 1) := by decide +kernel
theorem dX1_moveThrough_89 : decode cX1_moveThrough 89 = .ok (.iload 4, 2) := by decide +kernel
theorem dX1_moveThrough_91 : decode cX1_moveThrough 91 = .ok (.iadd, 1) := by decide +kernel
theorem dX1_moveThrough_92 : decode cX1_moveThrough 92 = .ok (.iastore, 1) := by decide +kernel
theorem dX1_moveThrough_93 : decode cX1_moveThrough 93 = .ok (.aload_n 1, 1) := by decide +kernel
theorem dX1_moveThrough_94 : decode cX1_moveThrough 94 = .ok (.dup, 1) := by decide +kernel
theorem dX1_moveThrough_95 : decode cX1_moveThrough 95 = .ok (.getfield 195, 3) := by decide +kernel
theorem dX1_moveThrough_98 : decode cX1_moveThrough 98 = .ok (.iload 4, 2) := by decide +kernel
theorem dX1_moveThrough_100 : decode cX1_moveThrough 100 = .ok (.iadd, 1) := by decide +kernel
theorem dX1_moveThrough_101 : decode cX1_moveThrough 101 = .ok (.putfield 195, 3) := by decide +kernel
theorem dX1_moveThrough_104 : decode cX1_moveThrough 104 = .ok (.iconst 0, 1) := by decide +kernel
theorem dX1_moveThrough_105 : decode cX1_moveThrough 105 = .ok (.ireturn, 1) := by decide +kernel
theorem dX1_moveThrough_106 : decode cX1_moveThrough 106 = .ok (.aload_n 0, 1) := by decide +kernel
theorem dX1_moveThrough_107 : decode cX1_moveThrough 107 = .ok (.getfield 23, 3) := by decide +kernel
theorem dX1_moveThrough_110 : decode cX1_moveThrough 110 = .ok (.iload_n 2, 1) := by decide +kernel
theorem dX1_moveThrough_111 : decode cX1_moveThrough 111 = .ok (.dup2, 1) := by decide +kernel
theorem dX1_moveThrough_112 : decode cX1_moveThrough 112 = .ok (.iaload, 1) := by decide +kernel
theorem dX1_moveThrough_113 : decode cX1_moveThrough 113 = .ok (.iload 4, 2) := by decide +kernel
theorem dX1_moveThrough_115 : decode cX1_moveThrough 115 = .ok (.iadd, 1) := by decide +kernel
theorem dX1_moveThrough_116 : decode cX1_moveThrough 116 = .ok (.iastore, 1) := by decide +kernel
theorem dX1_moveThrough_117 : decode cX1_moveThrough 117 = .ok (.aload_n 1, 1) := by decide +kernel
theorem dX1_moveThrough_118 : decode cX1_moveThrough 118 = .ok (.dup, 1) := by decide +kernel
theorem dX1_moveThrough_119 : decode cX1_moveThrough 119 = .ok (.getfield 197, 3) := by decide +kernel
theorem dX1_moveThrough_122 : decode cX1_moveThrough 122 = .ok (.iload 4, 2) := by decide +kernel
theorem dX1_moveThrough_124 : decode cX1_moveThrough 124 = .ok (.iadd, 1) := by decide +kernel
theorem dX1_moveThrough_125 : decode cX1_moveThrough 125 = .ok (.putfield 197, 3) := by decide +kernel
theorem dX1_moveThrough_128 : decode cX1_moveThrough 128 = .ok (.iload 4, 2) := by decide +kernel
theorem dX1_moveThrough_130 : decode cX1_moveThrough 130 = .ok (.ireturn, 1) := by decide +kernel
theorem dX1_lateTankers_0 : decode cX1_lateTankers 0 = .ok (.iconst 0, 1) := by decide +kernel
theorem dX1_lateTankers_1 : decode cX1_lateTankers 1 = .ok (.istore_n 1, 1) := by decide +kernel
theorem dX1_lateTankers_2 : decode cX1_lateTankers 2 = .ok (.iconst 0, 1) := by decide +kernel
theorem dX1_lateTankers_3 : decode cX1_lateTankers 3 = .ok (.istore_n 2, 1) := by decide +kernel
theorem dX1_lateTankers_4 : decode cX1_lateTankers 4 = .ok (.iload_n 2, 1) := by decide +kernel
theorem dX1_lateTankers_5 : decode cX1_lateTankers 5 = .ok (.aload_n 0, 1) := by decide +kernel
theorem dX1_lateTankers_6 : decode cX1_lateTankers 6 = .ok (.getfield 40, 3) := by decide +kernel
theorem dX1_lateTankers_9 : decode cX1_lateTankers 9 = .ok (.arraylength, 1) := by decide +kernel
theorem dX1_lateTankers_10 : decode cX1_lateTankers 10 = .ok (.if_icmp .ge 43, 3) := by decide +kernel
theorem dX1_lateTankers_13 : decode cX1_lateTankers 13 = .ok (.aload_n 0, 1) := by decide +kernel
theorem dX1_lateTankers_14 : decode cX1_lateTankers 14 = .ok (.iload_n 2, 1) := by decide +kernel
theorem dX1_lateTankers_15 : decode cX1_lateTankers 15 = .ok (.invokevirtual 200, 3) := by decide +kernel
theorem dX1_lateTankers_18 : decode cX1_lateTankers 18 = .ok (.ifCond .eq 29, 3) := by decide +kernel
theorem dX1_lateTankers_21 : decode cX1_lateTankers 21 = .ok (.aload_n 0, 1) := by decide +kernel
theorem dX1_lateTankers_22 : decode cX1_lateTankers 22 = .ok (.getfield 52, 3) := by decide +kernel
theorem dX1_lateTankers_25 : decode cX1_lateTankers 25 = .ok (.aload_n 0, 1) := by decide +kernel
theorem dX1_lateTankers_26 : decode cX1_lateTankers 26 = .ok (.getfield 40, 3) := by decide +kernel
theorem dX1_lateTankers_29 : decode cX1_lateTankers 29 = .ok (.iload_n 2, 1) := by decide +kernel
theorem dX1_lateTankers_30 : decode cX1_lateTankers 30 = .ok (.aaload, 1) := by decide +kernel
theorem dX1_lateTankers_31 : decode cX1_lateTankers 31 = .ok (.getfield 113, 3) := by decide +kernel
theorem dX1_lateTankers_34 : decode cX1_lateTankers 34 = .ok (.isub, 1) := by decide +kernel
theorem dX1_lateTankers_35 : decode cX1_lateTankers 35 = .ok (.aload_n 0, 1) := by decide +kernel
theorem dX1_lateTankers_36 : decode cX1_lateTankers 36 = .ok (.getfield 18, 3) := by decide +kernel
theorem dX1_lateTankers_39 : decode cX1_lateTankers 39 = .ok (.iconst 4, 1) := by decide +kernel
theorem dX1_lateTankers_40 : decode cX1_lateTankers 40 = .ok (.iaload, 1) := by decide +kernel
theorem dX1_lateTankers_41 : decode cX1_lateTankers 41 = .ok (.if_icmp .le 6, 3) := by decide +kernel
theorem dX1_lateTankers_44 : decode cX1_lateTankers 44 = .ok (.iinc 1 1, 3) := by decide +kernel
theorem dX1_lateTankers_47 : decode cX1_lateTankers 47 = .ok (.iinc 2 1, 3) := by decide +kernel
theorem dX1_lateTankers_50 : decode cX1_lateTankers 50 = .ok (.goto (-46), 3) := by decide +kernel
theorem dX1_lateTankers_53 : decode cX1_lateTankers 53 = .ok (.iload_n 1, 1) := by decide +kernel
theorem dX1_lateTankers_54 : decode cX1_lateTankers 54 = .ok (.ireturn, 1) := by decide +kernel
theorem dX1_connectedHoses_0 : decode cX1_connectedHoses 0 = .ok (.iconst 0, 1) := by decide +kernel
theorem dX1_connectedHoses_1 : decode cX1_connectedHoses 1 = .ok (.istore_n 1, 1) := by decide +kernel
theorem dX1_connectedHoses_2 : decode cX1_connectedHoses 2 = .ok (.iconst 0, 1) := by decide +kernel
theorem dX1_connectedHoses_3 : decode cX1_connectedHoses 3 = .ok (.istore_n 2, 1) := by decide +kernel
theorem dX1_connectedHoses_4 : decode cX1_connectedHoses 4 = .ok (.iload_n 2, 1) := by decide +kernel
theorem dX1_connectedHoses_5 : decode cX1_connectedHoses 5 = .ok (.iconst 4, 1) := by decide +kernel
theorem dX1_connectedHoses_6 : decode cX1_connectedHoses 6 = .ok (.if_icmp .ge 29, 3) := by decide +kernel
theorem dX1_connectedHoses_9 : decode cX1_connectedHoses 9 = .ok (.iload_n 1, 1) := by decide +kernel
theorem dX1_connectedHoses_10 : decode cX1_connectedHoses 10 = .ok (.aload_n 0, 1) := by decide +kernel
theorem dX1_connectedHoses_11 : decode cX1_connectedHoses 11 = .ok (.getfield 34, 3) := by decide +kernel
theorem dX1_connectedHoses_14 : decode cX1_connectedHoses 14 = .ok (.iload_n 2, 1) := by decide +kernel
theorem dX1_connectedHoses_15 : decode cX1_connectedHoses 15 = .ok (.aaload, 1) := by decide +kernel
theorem dX1_connectedHoses_16 : decode cX1_connectedHoses 16 = .ok (.invokevirtual 144, 3) := by decide +kernel
theorem dX1_connectedHoses_19 : decode cX1_connectedHoses 19 = .ok (.ifCond .eq 7, 3) := by decide +kernel
theorem dX1_connectedHoses_22 : decode cX1_connectedHoses 22 = .ok (.iconst 1, 1) := by decide +kernel
theorem dX1_connectedHoses_23 : decode cX1_connectedHoses 23 = .ok (.goto 4, 3) := by decide +kernel
theorem dX1_connectedHoses_26 : decode cX1_connectedHoses 26 = .ok (.iconst 0, 1) := by decide +kernel
theorem dX1_connectedHoses_27 : decode cX1_connectedHoses 27 = .ok (.iadd, 1) := by decide +kernel
theorem dX1_connectedHoses_28 : decode cX1_connectedHoses 28 = .ok (.istore_n 1, 1) := by decide +kernel
theorem dX1_connectedHoses_29 : decode cX1_connectedHoses 29 = .ok (.iinc 2 1, 3) := by decide +kernel
theorem dX1_connectedHoses_32 : decode cX1_connectedHoses 32 = .ok (.goto (-28), 3) := by decide +kernel
theorem dX1_connectedHoses_35 : decode cX1_connectedHoses 35 = .ok (.iload_n 1, 1) := by decide +kernel
theorem dX1_connectedHoses_36 : decode cX1_connectedHoses 36 = .ok (.ireturn, 1) := by decide +kernel
theorem dX1_burstHoses_0 : decode cX1_burstHoses 0 = .ok (.iconst 0, 1) := by decide +kernel
theorem dX1_burstHoses_1 : decode cX1_burstHoses 1 = .ok (.istore_n 1, 1) := by decide +kernel
theorem dX1_burstHoses_2 : decode cX1_burstHoses 2 = .ok (.iconst 0, 1) := by decide +kernel
theorem dX1_burstHoses_3 : decode cX1_burstHoses 3 = .ok (.istore_n 2, 1) := by decide +kernel
theorem dX1_burstHoses_4 : decode cX1_burstHoses 4 = .ok (.iload_n 2, 1) := by decide +kernel
theorem dX1_burstHoses_5 : decode cX1_burstHoses 5 = .ok (.iconst 4, 1) := by decide +kernel
theorem dX1_burstHoses_6 : decode cX1_burstHoses 6 = .ok (.if_icmp .ge 29, 3) := by decide +kernel
theorem dX1_burstHoses_9 : decode cX1_burstHoses 9 = .ok (.iload_n 1, 1) := by decide +kernel
theorem dX1_burstHoses_10 : decode cX1_burstHoses 10 = .ok (.aload_n 0, 1) := by decide +kernel
theorem dX1_burstHoses_11 : decode cX1_burstHoses 11 = .ok (.getfield 34, 3) := by decide +kernel
theorem dX1_burstHoses_14 : decode cX1_burstHoses 14 = .ok (.iload_n 2, 1) := by decide +kernel
theorem dX1_burstHoses_15 : decode cX1_burstHoses 15 = .ok (.aaload, 1) := by decide +kernel
theorem dX1_burstHoses_16 : decode cX1_burstHoses 16 = .ok (.getfield 141, 3) := by decide +kernel
theorem dX1_burstHoses_19 : decode cX1_burstHoses 19 = .ok (.ifCond .eq 7, 3) := by decide +kernel
theorem dX1_burstHoses_22 : decode cX1_burstHoses 22 = .ok (.iconst 1, 1) := by decide +kernel
theorem dX1_burstHoses_23 : decode cX1_burstHoses 23 = .ok (.goto 4, 3) := by decide +kernel
theorem dX1_burstHoses_26 : decode cX1_burstHoses 26 = .ok (.iconst 0, 1) := by decide +kernel
theorem dX1_burstHoses_27 : decode cX1_burstHoses 27 = .ok (.iadd, 1) := by decide +kernel
theorem dX1_burstHoses_28 : decode cX1_burstHoses 28 = .ok (.istore_n 1, 1) := by decide +kernel
theorem dX1_burstHoses_29 : decode cX1_burstHoses 29 = .ok (.iinc 2 1, 3) := by decide +kernel
theorem dX1_burstHoses_32 : decode cX1_burstHoses 32 = .ok (.goto (-28), 3) := by decide +kernel
theorem dX1_burstHoses_35 : decode cX1_burstHoses 35 = .ok (.iload_n 1, 1) := by decide +kernel
theorem dX1_burstHoses_36 : decode cX1_burstHoses 36 = .ok (.ireturn, 1) := by decide +kernel
theorem dX1_allSpoilt_0 : decode cX1_allSpoilt 0 = .ok (.iconst 0, 1) := by decide +kernel
theorem dX1_allSpoilt_1 : decode cX1_allSpoilt 1 = .ok (.istore_n 1, 1) := by decide +kernel
theorem dX1_allSpoilt_2 : decode cX1_allSpoilt 2 = .ok (.iconst 0, 1) := by decide +kernel
theorem dX1_allSpoilt_3 : decode cX1_allSpoilt 3 = .ok (.istore_n 2, 1) := by decide +kernel
theorem dX1_allSpoilt_4 : decode cX1_allSpoilt 4 = .ok (.iload_n 2, 1) := by decide +kernel
theorem dX1_allSpoilt_5 : decode cX1_allSpoilt 5 = .ok (.iconst 4, 1) := by decide +kernel
theorem dX1_allSpoilt_6 : decode cX1_allSpoilt 6 = .ok (.if_icmp .ge 18, 3) := by decide +kernel
theorem dX1_allSpoilt_9 : decode cX1_allSpoilt 9 = .ok (.iload_n 1, 1) := by decide +kernel
theorem dX1_allSpoilt_10 : decode cX1_allSpoilt 10 = .ok (.aload_n 0, 1) := by decide +kernel
theorem dX1_allSpoilt_11 : decode cX1_allSpoilt 11 = .ok (.getfield 26, 3) := by decide +kernel
theorem dX1_allSpoilt_14 : decode cX1_allSpoilt 14 = .ok (.iload_n 2, 1) := by decide +kernel
theorem dX1_allSpoilt_15 : decode cX1_allSpoilt 15 = .ok (.iaload, 1) := by decide +kernel
theorem dX1_allSpoilt_16 : decode cX1_allSpoilt 16 = .ok (.iadd, 1) := by decide +kernel
theorem dX1_allSpoilt_17 : decode cX1_allSpoilt 17 = .ok (.istore_n 1, 1) := by decide +kernel
theorem dX1_allSpoilt_18 : decode cX1_allSpoilt 18 = .ok (.iinc 2 1, 3) := by decide +kernel
theorem dX1_allSpoilt_21 : decode cX1_allSpoilt 21 = .ok (.goto (-17), 3) := by decide +kernel
theorem dX1_allSpoilt_24 : decode cX1_allSpoilt 24 = .ok (.iload_n 1, 1) := by decide +kernel
theorem dX1_allSpoilt_25 : decode cX1_allSpoilt 25 = .ok (.ireturn, 1) := by decide +kernel
theorem dX1_unitsInTankers_0 : decode cX1_unitsInTankers 0 = .ok (.iconst 0, 1) := by decide +kernel
theorem dX1_unitsInTankers_1 : decode cX1_unitsInTankers 1 = .ok (.istore_n 2, 1) := by decide +kernel
theorem dX1_unitsInTankers_2 : decode cX1_unitsInTankers 2 = .ok (.iconst 0, 1) := by decide +kernel
theorem dX1_unitsInTankers_3 : decode cX1_unitsInTankers 3 = .ok (.istore_n 3, 1) := by decide +kernel
theorem dX1_unitsInTankers_4 : decode cX1_unitsInTankers 4 = .ok (.iload_n 3, 1) := by decide +kernel
theorem dX1_unitsInTankers_5 : decode cX1_unitsInTankers 5 = .ok (.aload_n 0, 1) := by decide +kernel
theorem dX1_unitsInTankers_6 : decode cX1_unitsInTankers 6 = .ok (.getfield 40, 3) := by decide +kernel
theorem dX1_unitsInTankers_9 : decode cX1_unitsInTankers 9 = .ok (.arraylength, 1) := by decide +kernel
theorem dX1_unitsInTankers_10 : decode cX1_unitsInTankers 10 = .ok (.if_icmp .ge 35, 3) := by decide +kernel
theorem dX1_unitsInTankers_13 : decode cX1_unitsInTankers 13 = .ok (.iload_n 2, 1) := by decide +kernel
theorem dX1_unitsInTankers_14 : decode cX1_unitsInTankers 14 = .ok (.aload_n 0, 1) := by decide +kernel
theorem dX1_unitsInTankers_15 : decode cX1_unitsInTankers 15 = .ok (.iload_n 3, 1) := by decide +kernel
theorem dX1_unitsInTankers_16 : decode cX1_unitsInTankers 16 = .ok (.invokevirtual 200, 3) := by decide +kernel
theorem dX1_unitsInTankers_19 : decode cX1_unitsInTankers 19 = .ok (.ifCond .eq 17, 3) := by decide +kernel
theorem dX1_unitsInTankers_22 : decode cX1_unitsInTankers 22 = .ok (.aload_n 0, 1) := by decide +kernel
theorem dX1_unitsInTankers_23 : decode cX1_unitsInTankers 23 = .ok (.getfield 40, 3) := by decide +kernel
theorem dX1_unitsInTankers_26 : decode cX1_unitsInTankers 26 = .ok (.iload_n 3, 1) := by decide +kernel
theorem dX1_unitsInTankers_27 : decode cX1_unitsInTankers 27 = .ok (.aaload, 1) := by decide +kernel
theorem dX1_unitsInTankers_28 : decode cX1_unitsInTankers 28 = .ok (.getfield 110, 3) := by decide +kernel
theorem dX1_unitsInTankers_31 : decode cX1_unitsInTankers 31 = .ok (.iload_n 1, 1) := by decide +kernel
theorem dX1_unitsInTankers_32 : decode cX1_unitsInTankers 32 = .ok (.iaload, 1) := by decide +kernel
theorem dX1_unitsInTankers_33 : decode cX1_unitsInTankers 33 = .ok (.goto 4, 3) := by decide +kernel
theorem dX1_unitsInTankers_36 : decode cX1_unitsInTankers 36 = .ok (.iconst 0, 1) := by decide +kernel
theorem dX1_unitsInTankers_37 : decode cX1_unitsInTankers 37 = .ok (.iadd, 1) := by decide +kernel
theorem dX1_unitsInTankers_38 : decode cX1_unitsInTankers 38 = .ok (.istore_n 2, 1) := by decide +kernel
theorem dX1_unitsInTankers_39 : decode cX1_unitsInTankers 39 = .ok (.iinc 3 1, 3) := by decide +kernel
theorem dX1_unitsInTankers_42 : decode cX1_unitsInTankers 42 = .ok (.goto (-38), 3) := by decide +kernel
theorem dX1_unitsInTankers_45 : decode cX1_unitsInTankers 45 = .ok (.iload_n 2, 1) := by decide +kernel
theorem dX1_unitsInTankers_46 : decode cX1_unitsInTankers 46 = .ok (.ireturn, 1) := by decide +kernel
theorem dX1_aboutTanker_0 : decode cX1_aboutTanker 0 = .ok (.iload_n 2, 1) := by decide +kernel
theorem dX1_aboutTanker_1 : decode cX1_aboutTanker 1 = .ok (.ifCond .lt 9, 3) := by decide +kernel
theorem dX1_aboutTanker_4 : decode cX1_aboutTanker 4 = .ok (.iload_n 2, 1) := by decide +kernel
theorem dX1_aboutTanker_5 : decode cX1_aboutTanker 5 = .ok (.bipush 7, 2) := by decide +kernel
theorem dX1_aboutTanker_7 : decode cX1_aboutTanker 7 = .ok (.if_icmp .le 6, 3) := by decide +kernel
theorem dX1_aboutTanker_10 : decode cX1_aboutTanker 10 = .ok (.ldc 98, 2) := by decide +kernel
theorem dX1_aboutTanker_12 : decode cX1_aboutTanker 12 = .ok (.ireturn, 1) := by decide +kernel
theorem dX1_aboutTanker_13 : decode cX1_aboutTanker 13 = .ok (.aload_n 0, 1) := by decide +kernel
theorem dX1_aboutTanker_14 : decode cX1_aboutTanker 14 = .ok (.iload_n 1, 1) := by decide +kernel
theorem dX1_aboutTanker_15 : decode cX1_aboutTanker 15 = .ok (.invokevirtual 200, 3) := by decide +kernel
theorem dX1_aboutTanker_18 : decode cX1_aboutTanker 18 = .ok (.ifCond .ne 6, 3) := by decide +kernel
theorem dX1_aboutTanker_21 : decode cX1_aboutTanker 21 = .ok (.ldc 134, 2) := by decide +kernel
theorem dX1_aboutTanker_23 : decode cX1_aboutTanker 23 = .ok (.ireturn, 1) := by decide +kernel
theorem dX1_aboutTanker_24 : decode cX1_aboutTanker 24 = .ok (.aload_n 0, 1) := by decide +kernel
theorem dX1_aboutTanker_25 : decode cX1_aboutTanker 25 = .ok (.getfield 40, 3) := by decide +kernel
theorem dX1_aboutTanker_28 : decode cX1_aboutTanker 28 = .ok (.iload_n 1, 1) := by decide +kernel
theorem dX1_aboutTanker_29 : decode cX1_aboutTanker 29 = .ok (.aaload, 1) := by decide +kernel
theorem dX1_aboutTanker_30 : decode cX1_aboutTanker 30 = .ok (.astore_n 3, 1) := by decide +kernel
theorem dX1_aboutTanker_31 : decode cX1_aboutTanker 31 = .ok (.iload_n 2, 1) := by decide +kernel
theorem dX1_aboutTanker_32 : decode cX1_aboutTanker 32 = .ok (.tableswitch 81 4 7 #[32, 37, 50, 71], 32) := by decide +kernel
theorem dX1_aboutTanker_64 : decode cX1_aboutTanker 64 = .ok (.aload_n 3, 1) := by decide +kernel
theorem dX1_aboutTanker_65 : decode cX1_aboutTanker 65 = .ok (.invokevirtual 116, 3) := by decide +kernel
theorem dX1_aboutTanker_68 : decode cX1_aboutTanker 68 = .ok (.ireturn, 1) := by decide +kernel
theorem dX1_aboutTanker_69 : decode cX1_aboutTanker 69 = .ok (.aload_n 0, 1) := by decide +kernel
theorem dX1_aboutTanker_70 : decode cX1_aboutTanker 70 = .ok (.aload_n 3, 1) := by decide +kernel
theorem dX1_aboutTanker_71 : decode cX1_aboutTanker 71 = .ok (.invokevirtual 116, 3) := by decide +kernel
theorem dX1_aboutTanker_74 : decode cX1_aboutTanker 74 = .ok (.aload_n 0, 1) := by decide +kernel
theorem dX1_aboutTanker_75 : decode cX1_aboutTanker 75 = .ok (.getfield 52, 3) := by decide +kernel
theorem dX1_aboutTanker_78 : decode cX1_aboutTanker 78 = .ok (.invokevirtual 148, 3) := by decide +kernel
theorem dX1_aboutTanker_81 : decode cX1_aboutTanker 81 = .ok (.ireturn, 1) := by decide +kernel
theorem dX1_aboutTanker_82 : decode cX1_aboutTanker 82 = .ok (.aload_n 0, 1) := by decide +kernel
theorem dX1_aboutTanker_83 : decode cX1_aboutTanker 83 = .ok (.aload_n 3, 1) := by decide +kernel
theorem dX1_aboutTanker_84 : decode cX1_aboutTanker 84 = .ok (.invokevirtual 116, 3) := by decide +kernel
theorem dX1_aboutTanker_87 : decode cX1_aboutTanker 87 = .ok (.aload_n 0, 1) := by decide +kernel
theorem dX1_aboutTanker_88 : decode cX1_aboutTanker 88 = .ok (.getfield 52, 3) := by decide +kernel
theorem dX1_aboutTanker_91 : decode cX1_aboutTanker 91 = .ok (.invokevirtual 120, 3) := by decide +kernel
theorem dX1_aboutTanker_94 : decode cX1_aboutTanker 94 = .ok (.ifCond .eq 7, 3) := by decide +kernel
theorem dX1_aboutTanker_97 : decode cX1_aboutTanker 97 = .ok (.iconst 1, 1) := by decide +kernel
theorem dX1_aboutTanker_98 : decode cX1_aboutTanker 98 = .ok (.goto 4, 3) := by decide +kernel
theorem dX1_aboutTanker_101 : decode cX1_aboutTanker 101 = .ok (.iconst 0, 1) := by decide +kernel
theorem dX1_aboutTanker_102 : decode cX1_aboutTanker 102 = .ok (.ireturn, 1) := by decide +kernel
theorem dX1_aboutTanker_103 : decode cX1_aboutTanker 103 = .ok (.aload_n 0, 1) := by decide +kernel
theorem dX1_aboutTanker_104 : decode cX1_aboutTanker 104 = .ok (.getfield 52, 3) := by decide +kernel
theorem dX1_aboutTanker_107 : decode cX1_aboutTanker 107 = .ok (.aload_n 3, 1) := by decide +kernel
theorem dX1_aboutTanker_108 : decode cX1_aboutTanker 108 = .ok (.getfield 113, 3) := by decide +kernel
theorem dX1_aboutTanker_111 : decode cX1_aboutTanker 111 = .ok (.isub, 1) := by decide +kernel
theorem dX1_aboutTanker_112 : decode cX1_aboutTanker 112 = .ok (.ireturn, 1) := by decide +kernel
theorem dX1_aboutTanker_113 : decode cX1_aboutTanker 113 = .ok (.aload_n 3, 1) := by decide +kernel
theorem dX1_aboutTanker_114 : decode cX1_aboutTanker 114 = .ok (.getfield 110, 3) := by decide +kernel
theorem dX1_aboutTanker_117 : decode cX1_aboutTanker 117 = .ok (.iload_n 2, 1) := by decide +kernel
theorem dX1_aboutTanker_118 : decode cX1_aboutTanker 118 = .ok (.iaload, 1) := by decide +kernel
theorem dX1_aboutTanker_119 : decode cX1_aboutTanker 119 = .ok (.ireturn, 1) := by decide +kernel
theorem dX1_aboutHose_0 : decode cX1_aboutHose 0 = .ok (.iload_n 1, 1) := by decide +kernel
theorem dX1_aboutHose_1 : decode cX1_aboutHose 1 = .ok (.invokestatic 131, 3) := by decide +kernel
theorem dX1_aboutHose_4 : decode cX1_aboutHose 4 = .ok (.ifCond .ne 6, 3) := by decide +kernel
theorem dX1_aboutHose_7 : decode cX1_aboutHose 7 = .ok (.ldc 134, 2) := by decide +kernel
theorem dX1_aboutHose_9 : decode cX1_aboutHose 9 = .ok (.ireturn, 1) := by decide +kernel
theorem dX1_aboutHose_10 : decode cX1_aboutHose 10 = .ok (.aload_n 0, 1) := by decide +kernel
theorem dX1_aboutHose_11 : decode cX1_aboutHose 11 = .ok (.getfield 34, 3) := by decide +kernel
theorem dX1_aboutHose_14 : decode cX1_aboutHose 14 = .ok (.iload_n 1, 1) := by decide +kernel
theorem dX1_aboutHose_15 : decode cX1_aboutHose 15 = .ok (.aaload, 1) := by decide +kernel
theorem dX1_aboutHose_16 : decode cX1_aboutHose 16 = .ok (.astore_n 3, 1) := by decide +kernel
theorem dX1_aboutHose_17 : decode cX1_aboutHose 17 = .ok (.iload_n 2, 1) := by decide +kernel
theorem dX1_aboutHose_18 : decode cX1_aboutHose 18 = .ok (.tableswitch 76 0 5 #[38, 43, 48, 53, 66, 71], 38) := by decide +kernel
theorem dX1_aboutHose_56 : decode cX1_aboutHose 56 = .ok (.aload_n 3, 1) := by decide +kernel
theorem dX1_aboutHose_57 : decode cX1_aboutHose 57 = .ok (.getfield 135, 3) := by decide +kernel
theorem dX1_aboutHose_60 : decode cX1_aboutHose 60 = .ok (.ireturn, 1) := by decide +kernel
theorem dX1_aboutHose_61 : decode cX1_aboutHose 61 = .ok (.aload_n 3, 1) := by decide +kernel
theorem dX1_aboutHose_62 : decode cX1_aboutHose 62 = .ok (.getfield 155, 3) := by decide +kernel
theorem dX1_aboutHose_65 : decode cX1_aboutHose 65 = .ok (.ireturn, 1) := by decide +kernel
theorem dX1_aboutHose_66 : decode cX1_aboutHose 66 = .ok (.aload_n 3, 1) := by decide +kernel
theorem dX1_aboutHose_67 : decode cX1_aboutHose 67 = .ok (.getfield 151, 3) := by decide +kernel
theorem dX1_aboutHose_70 : decode cX1_aboutHose 70 = .ok (.ireturn, 1) := by decide +kernel
theorem dX1_aboutHose_71 : decode cX1_aboutHose 71 = .ok (.aload_n 3, 1) := by decide +kernel
theorem dX1_aboutHose_72 : decode cX1_aboutHose 72 = .ok (.getfield 141, 3) := by decide +kernel
theorem dX1_aboutHose_75 : decode cX1_aboutHose 75 = .ok (.ifCond .eq 7, 3) := by decide +kernel
theorem dX1_aboutHose_78 : decode cX1_aboutHose 78 = .ok (.iconst 1, 1) := by decide +kernel
theorem dX1_aboutHose_79 : decode cX1_aboutHose 79 = .ok (.goto 4, 3) := by decide +kernel
theorem dX1_aboutHose_82 : decode cX1_aboutHose 82 = .ok (.iconst 0, 1) := by decide +kernel
theorem dX1_aboutHose_83 : decode cX1_aboutHose 83 = .ok (.ireturn, 1) := by decide +kernel
theorem dX1_aboutHose_84 : decode cX1_aboutHose 84 = .ok (.aload_n 3, 1) := by decide +kernel
theorem dX1_aboutHose_85 : decode cX1_aboutHose 85 = .ok (.getfield 197, 3) := by decide +kernel
theorem dX1_aboutHose_88 : decode cX1_aboutHose 88 = .ok (.ireturn, 1) := by decide +kernel
theorem dX1_aboutHose_89 : decode cX1_aboutHose 89 = .ok (.aload_n 3, 1) := by decide +kernel
theorem dX1_aboutHose_90 : decode cX1_aboutHose 90 = .ok (.getfield 195, 3) := by decide +kernel
theorem dX1_aboutHose_93 : decode cX1_aboutHose 93 = .ok (.ireturn, 1) := by decide +kernel
theorem dX1_aboutHose_94 : decode cX1_aboutHose 94 = .ok (.ldc 98, 2) := by decide +kernel
theorem dX1_aboutHose_96 : decode cX1_aboutHose 96 = .ok (.ireturn, 1) := by decide +kernel
theorem dX1_aboutGrade_0 : decode cX1_aboutGrade 0 = .ok (.iload_n 1, 1) := by decide +kernel
theorem dX1_aboutGrade_1 : decode cX1_aboutGrade 1 = .ok (.invokestatic 138, 3) := by decide +kernel
theorem dX1_aboutGrade_4 : decode cX1_aboutGrade 4 = .ok (.ifCond .ne 6, 3) := by decide +kernel
theorem dX1_aboutGrade_7 : decode cX1_aboutGrade 7 = .ok (.ldc 134, 2) := by decide +kernel
theorem dX1_aboutGrade_9 : decode cX1_aboutGrade 9 = .ok (.ireturn, 1) := by decide +kernel
theorem dX1_aboutGrade_10 : decode cX1_aboutGrade 10 = .ok (.iload_n 2, 1) := by decide +kernel
theorem dX1_aboutGrade_11 : decode cX1_aboutGrade 11 = .ok (.tableswitch 56 0 3 #[29, 36, 42, 49], 29) := by decide +kernel
theorem dX1_aboutGrade_40 : decode cX1_aboutGrade 40 = .ok (.aload_n 0, 1) := by decide +kernel
theorem dX1_aboutGrade_41 : decode cX1_aboutGrade 41 = .ok (.getfield 23, 3) := by decide +kernel
theorem dX1_aboutGrade_44 : decode cX1_aboutGrade 44 = .ok (.iload_n 1, 1) := by decide +kernel
theorem dX1_aboutGrade_45 : decode cX1_aboutGrade 45 = .ok (.iaload, 1) := by decide +kernel
theorem dX1_aboutGrade_46 : decode cX1_aboutGrade 46 = .ok (.ireturn, 1) := by decide +kernel
theorem dX1_aboutGrade_47 : decode cX1_aboutGrade 47 = .ok (.aload_n 0, 1) := by decide +kernel
theorem dX1_aboutGrade_48 : decode cX1_aboutGrade 48 = .ok (.iload_n 1, 1) := by decide +kernel
theorem dX1_aboutGrade_49 : decode cX1_aboutGrade 49 = .ok (.invokevirtual 203, 3) := by decide +kernel
theorem dX1_aboutGrade_52 : decode cX1_aboutGrade 52 = .ok (.ireturn, 1) := by decide +kernel
theorem dX1_aboutGrade_53 : decode cX1_aboutGrade 53 = .ok (.aload_n 0, 1) := by decide +kernel
theorem dX1_aboutGrade_54 : decode cX1_aboutGrade 54 = .ok (.getfield 26, 3) := by decide +kernel
theorem dX1_aboutGrade_57 : decode cX1_aboutGrade 57 = .ok (.iload_n 1, 1) := by decide +kernel
theorem dX1_aboutGrade_58 : decode cX1_aboutGrade 58 = .ok (.iaload, 1) := by decide +kernel
theorem dX1_aboutGrade_59 : decode cX1_aboutGrade 59 = .ok (.ireturn, 1) := by decide +kernel
theorem dX1_aboutGrade_60 : decode cX1_aboutGrade 60 = .ok (.aload_n 0, 1) := by decide +kernel
theorem dX1_aboutGrade_61 : decode cX1_aboutGrade 61 = .ok (.getfield 29, 3) := by decide +kernel
theorem dX1_aboutGrade_64 : decode cX1_aboutGrade 64 = .ok (.iload_n 1, 1) := by decide +kernel
theorem dX1_aboutGrade_65 : decode cX1_aboutGrade 65 = .ok (.iaload, 1) := by decide +kernel
theorem dX1_aboutGrade_66 : decode cX1_aboutGrade 66 = .ok (.ireturn, 1) := by decide +kernel
theorem dX1_aboutGrade_67 : decode cX1_aboutGrade 67 = .ok (.ldc 98, 2) := by decide +kernel
theorem dX1_aboutGrade_69 : decode cX1_aboutGrade 69 = .ok (.ireturn, 1) := by decide +kernel
theorem dX1_number_0 : decode cX1_number 0 = .ok (.iload_n 1, 1) := by decide +kernel
theorem dX1_number_1 : decode cX1_number 1 = .ok (.ifCond .lt 19, 3) := by decide +kernel
theorem dX1_number_4 : decode cX1_number 4 = .ok (.iload_n 1, 1) := by decide +kernel
theorem dX1_number_5 : decode cX1_number 5 = .ok (.aload_n 0, 1) := by decide +kernel
theorem dX1_number_6 : decode cX1_number 6 = .ok (.getfield 18, 3) := by decide +kernel
theorem dX1_number_9 : decode cX1_number 9 = .ok (.arraylength, 1) := by decide +kernel
theorem dX1_number_10 : decode cX1_number 10 = .ok (.if_icmp .ge 10, 3) := by decide +kernel
theorem dX1_number_13 : decode cX1_number 13 = .ok (.aload_n 0, 1) := by decide +kernel
theorem dX1_number_14 : decode cX1_number 14 = .ok (.getfield 18, 3) := by decide +kernel
theorem dX1_number_17 : decode cX1_number 17 = .ok (.iload_n 1, 1) := by decide +kernel
theorem dX1_number_18 : decode cX1_number 18 = .ok (.iaload, 1) := by decide +kernel
theorem dX1_number_19 : decode cX1_number 19 = .ok (.ireturn, 1) := by decide +kernel
theorem dX1_number_20 : decode cX1_number 20 = .ok (.iload_n 1, 1) := by decide +kernel
theorem dX1_number_21 : decode cX1_number 21 = .ok (.tableswitch 154 6 17 #[63, 68, 77, 93, 98, 111, 116, 121, 134, 139, 144, 149], 63) := by decide +kernel
theorem dX1_number_84 : decode cX1_number 84 = .ok (.aload_n 0, 1) := by decide +kernel
theorem dX1_number_85 : decode cX1_number 85 = .ok (.getfield 52, 3) := by decide +kernel
theorem dX1_number_88 : decode cX1_number 88 = .ok (.ireturn, 1) := by decide +kernel
theorem dX1_number_89 : decode cX1_number 89 = .ok (.aload_n 0, 1) := by decide +kernel
theorem dX1_number_90 : decode cX1_number 90 = .ok (.aload_n 0, 1) := by decide +kernel
theorem dX1_number_91 : decode cX1_number 91 = .ok (.getfield 52, 3) := by decide +kernel
theorem dX1_number_94 : decode cX1_number 94 = .ok (.invokevirtual 94, 3) := by decide +kernel
theorem dX1_number_97 : decode cX1_number 97 = .ok (.ireturn, 1) := by decide +kernel
theorem dX1_number_98 : decode cX1_number 98 = .ok (.aload_n 0, 1) := by decide +kernel
theorem dX1_number_99 : decode cX1_number 99 = .ok (.getfield 18, 3) := by decide +kernel
theorem dX1_number_102 : decode cX1_number 102 = .ok (.iconst 0, 1) := by decide +kernel
theorem dX1_number_103 : decode cX1_number 103 = .ok (.iaload, 1) := by decide +kernel
theorem dX1_number_104 : decode cX1_number 104 = .ok (.aload_n 0, 1) := by decide +kernel
theorem dX1_number_105 : decode cX1_number 105 = .ok (.aload_n 0, 1) := by decide +kernel
theorem dX1_number_106 : decode cX1_number 106 = .ok (.getfield 52, 3) := by decide +kernel
theorem dX1_number_109 : decode cX1_number 109 = .ok (.invokevirtual 94, 3) := by decide +kernel
theorem dX1_number_112 : decode cX1_number 112 = .ok (.iadd, 1) := by decide +kernel
theorem dX1_number_113 : decode cX1_number 113 = .ok (.ireturn, 1) := by decide +kernel
theorem dX1_number_114 : decode cX1_number 114 = .ok (.aload_n 0, 1) := by decide +kernel
theorem dX1_number_115 : decode cX1_number 115 = .ok (.getfield 48, 3) := by decide +kernel
theorem dX1_number_118 : decode cX1_number 118 = .ok (.ireturn, 1) := by decide +kernel
theorem dX1_number_119 : decode cX1_number 119 = .ok (.aload_n 0, 1) := by decide +kernel
theorem dX1_number_120 : decode cX1_number 120 = .ok (.getfield 44, 3) := by decide +kernel
theorem dX1_number_123 : decode cX1_number 123 = .ok (.ifCond .eq 7, 3) := by decide +kernel
theorem dX1_number_126 : decode cX1_number 126 = .ok (.iconst 1, 1) := by decide +kernel
theorem dX1_number_127 : decode cX1_number 127 = .ok (.goto 4, 3) := by decide +kernel
theorem dX1_number_130 : decode cX1_number 130 = .ok (.iconst 0, 1) := by decide +kernel
theorem dX1_number_131 : decode cX1_number 131 = .ok (.ireturn, 1) := by decide +kernel
theorem dX1_number_132 : decode cX1_number 132 = .ok (.aload_n 0, 1) := by decide +kernel
theorem dX1_number_133 : decode cX1_number 133 = .ok (.invokevirtual 128, 3) := by decide +kernel
theorem dX1_number_136 : decode cX1_number 136 = .ok (.ireturn, 1) := by decide +kernel
theorem dX1_number_137 : decode cX1_number 137 = .ok (.aload_n 0, 1) := by decide +kernel
theorem dX1_number_138 : decode cX1_number 138 = .ok (.invokevirtual 161, 3) := by decide +kernel
theorem dX1_number_141 : decode cX1_number 141 = .ok (.ireturn, 1) := by decide +kernel
theorem dX1_number_142 : decode cX1_number 142 = .ok (.aload_n 0, 1) := by decide +kernel
theorem dX1_number_143 : decode cX1_number 143 = .ok (.getfield 55, 3) := by decide +kernel
theorem dX1_number_146 : decode cX1_number 146 = .ok (.ifCond .eq 7, 3) := by decide +kernel
theorem dX1_number_149 : decode cX1_number 149 = .ok (.iconst 1, 1) := by decide +kernel
theorem dX1_number_150 : decode cX1_number 150 = .ok (.goto 4, 3) := by decide +kernel
theorem dX1_number_153 : decode cX1_number 153 = .ok (.iconst 0, 1) := by decide +kernel
theorem dX1_number_154 : decode cX1_number 154 = .ok (.ireturn, 1) := by decide +kernel
theorem dX1_number_155 : decode cX1_number 155 = .ok (.aload_n 0, 1) := by decide +kernel
theorem dX1_number_156 : decode cX1_number 156 = .ok (.getfield 58, 3) := by decide +kernel
theorem dX1_number_159 : decode cX1_number 159 = .ok (.ireturn, 1) := by decide +kernel
theorem dX1_number_160 : decode cX1_number 160 = .ok (.aload_n 0, 1) := by decide +kernel
theorem dX1_number_161 : decode cX1_number 161 = .ok (.getfield 61, 3) := by decide +kernel
theorem dX1_number_164 : decode cX1_number 164 = .ok (.ireturn, 1) := by decide +kernel
theorem dX1_number_165 : decode cX1_number 165 = .ok (.aload_n 0, 1) := by decide +kernel
theorem dX1_number_166 : decode cX1_number 166 = .ok (.getfield 64, 3) := by decide +kernel
theorem dX1_number_169 : decode cX1_number 169 = .ok (.ireturn, 1) := by decide +kernel
theorem dX1_number_170 : decode cX1_number 170 = .ok (.aload_n 0, 1) := by decide +kernel
theorem dX1_number_171 : decode cX1_number 171 = .ok (.getfield 67, 3) := by decide +kernel
theorem dX1_number_174 : decode cX1_number 174 = .ok (.ireturn, 1) := by decide +kernel
theorem dX1_number_175 : decode cX1_number 175 = .ok (.ldc 98, 2) := by decide +kernel
theorem dX1_number_177 : decode cX1_number 177 = .ok (.ireturn, 1) := by decide +kernel
theorem dX2_init_0 : decode cX2_init 0 = .ok (.aload_n 0, 1) := by decide +kernel
theorem dX2_init_1 : decode cX2_init 1 = .ok (.invokespecial 3, 3) := by decide +kernel
theorem dX2_init_4 : decode cX2_init 4 = .ok (.aload_n 0, 1) := by decide +kernel
theorem dX2_init_5 : decode cX2_init 5 = .ok (.bipush 60, 2) := by decide +kernel
theorem dX2_init_7 : decode cX2_init 7 = .ok (.newarray .char, 2) := by decide +kernel
theorem dX2_init_9 : decode cX2_init 9 = .ok (.putfield 9, 3) := by decide +kernel
theorem dX2_init_12 : decode cX2_init 12 = .ok (.aload_n 0, 1) := by decide +kernel
theorem dX2_init_13 : decode cX2_init 13 = .ok (.iconst 0, 1) := by decide +kernel
theorem dX2_init_14 : decode cX2_init 14 = .ok (.putfield 15, 3) := by decide +kernel
theorem dX2_init_17 : decode cX2_init 17 = .ok (.aload_n 0, 1) := by decide +kernel
theorem dX2_init_18 : decode cX2_init 18 = .ok (.iconst 0, 1) := by decide +kernel
theorem dX2_init_19 : decode cX2_init 19 = .ok (.putfield 19, 3) := by decide +kernel
theorem dX2_init_22 : decode cX2_init 22 = .ok (.aload_n 0, 1) := by decide +kernel
theorem dX2_init_23 : decode cX2_init 23 = .ok (.iconst 0, 1) := by decide +kernel
theorem dX2_init_24 : decode cX2_init 24 = .ok (.putfield 22, 3) := by decide +kernel
theorem dX2_init_27 : decode cX2_init 27 = .ok (.aload_n 0, 1) := by decide +kernel
theorem dX2_init_28 : decode cX2_init 28 = .ok (.iconst 0, 1) := by decide +kernel
theorem dX2_init_29 : decode cX2_init 29 = .ok (.putfield 25, 3) := by decide +kernel
theorem dX2_init_32 : decode cX2_init 32 = .ok (.aload_n 0, 1) := by decide +kernel
theorem dX2_init_33 : decode cX2_init 33 = .ok (.iconst 0, 1) := by decide +kernel
theorem dX2_init_34 : decode cX2_init 34 = .ok (.putfield 28, 3) := by decide +kernel
theorem dX2_init_37 : decode cX2_init 37 = .ok (.aload_n 0, 1) := by decide +kernel
theorem dX2_init_38 : decode cX2_init 38 = .ok (.iconst 0, 1) := by decide +kernel
theorem dX2_init_39 : decode cX2_init 39 = .ok (.putfield 31, 3) := by decide +kernel
theorem dX2_init_42 : decode cX2_init 42 = .ok (.aload_n 0, 1) := by decide +kernel
theorem dX2_init_43 : decode cX2_init 43 = .ok (.iconst 4, 1) := by decide +kernel
theorem dX2_init_44 : decode cX2_init 44 = .ok (.newarray .int, 2) := by decide +kernel
theorem dX2_init_46 : decode cX2_init 46 = .ok (.putfield 34, 3) := by decide +kernel
theorem dX2_init_49 : decode cX2_init 49 = .ok (.return_, 1) := by decide +kernel
theorem dX2_append_0 : decode cX2_append 0 = .ok (.lload_n 1, 1) := by decide +kernel
theorem dX2_append_1 : decode cX2_append 1 = .ok (.invokestatic 38, 3) := by decide +kernel
theorem dX2_append_4 : decode cX2_append 4 = .ok (.istore_n 3, 1) := by decide +kernel
theorem dX2_append_5 : decode cX2_append 5 = .ok (.iload_n 3, 1) := by decide +kernel
theorem dX2_append_6 : decode cX2_append 6 = .ok (.ifCond .ne 6, 3) := by decide +kernel
theorem dX2_append_9 : decode cX2_append 9 = .ok (.ldc 42, 2) := by decide +kernel
theorem dX2_append_11 : decode cX2_append 11 = .ok (.ireturn, 1) := by decide +kernel
theorem dX2_append_12 : decode cX2_append 12 = .ok (.aload_n 0, 1) := by decide +kernel
theorem dX2_append_13 : decode cX2_append 13 = .ok (.getfield 15, 3) := by decide +kernel
theorem dX2_append_16 : decode cX2_append 16 = .ok (.iload_n 3, 1) := by decide +kernel
theorem dX2_append_17 : decode cX2_append 17 = .ok (.iadd, 1) := by decide +kernel
theorem dX2_append_18 : decode cX2_append 18 = .ok (.bipush 60, 2) := by decide +kernel
theorem dX2_append_20 : decode cX2_append 20 = .ok (.if_icmp .le 6, 3) := by decide +kernel
theorem dX2_append_23 : decode cX2_append 23 = .ok (.ldc 43, 2) := by decide +kernel
theorem dX2_append_25 : decode cX2_append 25 = .ok (.ireturn, 1) := by decide +kernel
theorem dX2_append_26 : decode cX2_append 26 = .ok (.aload_n 0, 1) := by decide +kernel
theorem dX2_append_27 : decode cX2_append 27 = .ok (.dup, 1) := by decide +kernel
theorem dX2_append_28 : decode cX2_append 28 = .ok (.getfield 15, 3) := by decide +kernel
theorem dX2_append_31 : decode cX2_append 31 = .ok (.iload_n 3, 1) := by decide +kernel
theorem dX2_append_32 : decode cX2_append 32 = .ok (.iadd, 1) := by decide +kernel
theorem dX2_append_33 : decode cX2_append 33 = .ok (.putfield 15, 3) := by decide +kernel
theorem dX2_append_36 : decode cX2_append 36 = .ok (.iconst 0, 1) := by decide +kernel
theorem dX2_append_37 : decode cX2_append 37 = .ok (.istore 4, 2) := by decide +kernel
theorem dX2_append_39 : decode cX2_append 39 = .ok (.iload 4, 2) := by decide +kernel
theorem dX2_append_41 : decode cX2_append 41 = .ok (.iload_n 3, 1) := by decide +kernel
theorem dX2_append_42 : decode cX2_append 42 = .ok (.if_icmp .ge 36, 3) := by decide +kernel
theorem dX2_append_45 : decode cX2_append 45 = .ok (.aload_n 0, 1) := by decide +kernel
theorem dX2_append_46 : decode cX2_append 46 = .ok (.getfield 9, 3) := by decide +kernel
theorem dX2_append_49 : decode cX2_append 49 = .ok (.aload_n 0, 1) := by decide +kernel
theorem dX2_append_50 : decode cX2_append 50 = .ok (.getfield 15, 3) := by decide +kernel
theorem dX2_append_53 : decode cX2_append 53 = .ok (.iconst 1, 1) := by decide +kernel
theorem dX2_append_54 : decode cX2_append 54 = .ok (.isub, 1) := by decide +kernel
theorem dX2_append_55 : decode cX2_append 55 = .ok (.iload 4, 2) := by decide +kernel
theorem dX2_append_57 : decode cX2_append 57 = .ok (.isub, 1) := by decide +kernel
theorem dX2_append_58 : decode cX2_append 58 = .ok (.lload_n 1, 1) := by decide +kernel
theorem dX2_append_59 : decode cX2_append 59 = .ok (.bipush 8, 2) := by decide +kernel
theorem dX2_append_61 : decode cX2_append 61 = .ok (.iload 4, 2) := by decide +kernel
theorem dX2_append_63 : decode cX2_append 63 = .ok (.imul, 1) := by decide +kernel
theorem dX2_append_64 : decode cX2_append 64 = .ok (.lushr, 1) := by decide +kernel
theorem dX2_append_65 : decode cX2_append 65 = .ok (.ldc2_w 44, 3) := by decide +kernel
theorem dX2_append_68 : decode cX2_append 68 = .ok (.land, 1) := by decide +kernel
theorem dX2_append_69 : decode cX2_append 69 = .ok (.l2i, 1) := by decide +kernel
theorem dX2_append_70 : decode cX2_append 70 = .ok (.i2c, 1) := by decide +kernel
theorem dX2_append_71 : decode cX2_append 71 = .ok (.castore, 1) := by decide +kernel
theorem dX2_append_72 : decode cX2_append 72 = .ok (.iinc 4 1, 3) := by decide +kernel
theorem dX2_append_75 : decode cX2_append 75 = .ok (.goto (-36), 3) := by decide +kernel
theorem dX2_append_78 : decode cX2_append 78 = .ok (.aload_n 0, 1) := by decide +kernel
theorem dX2_append_79 : decode cX2_append 79 = .ok (.getfield 15, 3) := by decide +kernel
theorem dX2_append_82 : decode cX2_append 82 = .ok (.ireturn, 1) := by decide +kernel
theorem dX2_charactersIn_0 : decode cX2_charactersIn 0 = .ok (.lload_n 0, 1) := by decide +kernel
theorem dX2_charactersIn_1 : decode cX2_charactersIn 1 = .ok (.lstore_n 2, 1) := by decide +kernel
theorem dX2_charactersIn_2 : decode cX2_charactersIn 2 = .ok (.iconst 0, 1) := by decide +kernel
theorem dX2_charactersIn_3 : decode cX2_charactersIn 3 = .ok (.istore 4, 2) := by decide +kernel
theorem dX2_charactersIn_5 : decode cX2_charactersIn 5 = .ok (.lload_n 2, 1) := by decide +kernel
theorem dX2_charactersIn_6 : decode cX2_charactersIn 6 = .ok (.lconst 0, 1) := by decide +kernel
theorem dX2_charactersIn_7 : decode cX2_charactersIn 7 = .ok (.lcmp, 1) := by decide +kernel
theorem dX2_charactersIn_8 : decode cX2_charactersIn 8 = .ok (.ifCond .eq 48, 3) := by decide +kernel
theorem dX2_charactersIn_11 : decode cX2_charactersIn 11 = .ok (.iload 4, 2) := by decide +kernel
theorem dX2_charactersIn_13 : decode cX2_charactersIn 13 = .ok (.bipush 8, 2) := by decide +kernel
theorem dX2_charactersIn_15 : decode cX2_charactersIn 15 = .ok (.if_icmp .ge 41, 3) := by decide +kernel
theorem dX2_charactersIn_18 : decode cX2_charactersIn 18 = .ok (.lload_n 2, 1) := by decide +kernel
theorem dX2_charactersIn_19 : decode cX2_charactersIn 19 = .ok (.ldc2_w 44, 3) := by decide +kernel
theorem dX2_charactersIn_22 : decode cX2_charactersIn 22 = .ok (.land, 1) := by decide +kernel
theorem dX2_charactersIn_23 : decode cX2_charactersIn 23 = .ok (.lstore 5, 2) := by decide +kernel
theorem dX2_charactersIn_25 : decode cX2_charactersIn 25 = .ok (.lload 5, 2) := by decide +kernel
theorem dX2_charactersIn_27 : decode cX2_charactersIn 27 = .ok (.ldc2_w 46, 3) := by decide +kernel
theorem dX2_charactersIn_30 : decode cX2_charactersIn 30 = .ok (.lcmp, 1) := by decide +kernel
theorem dX2_charactersIn_31 : decode cX2_charactersIn 31 = .ok (.ifCond .lt 12, 3) := by decide +kernel
theorem dX2_charactersIn_34 : decode cX2_charactersIn 34 = .ok (.lload 5, 2) := by decide +kernel
theorem dX2_charactersIn_36 : decode cX2_charactersIn 36 = .ok (.ldc2_w 48, 3) := by decide +kernel
theorem dX2_charactersIn_39 : decode cX2_charactersIn 39 = .ok (.lcmp, 1) := by decide +kernel
theorem dX2_charactersIn_40 : decode cX2_charactersIn 40 = .ok (.ifCond .le 5, 3) := by decide +kernel
theorem dX2_charactersIn_43 : decode cX2_charactersIn 43 = .ok (.iconst 0, 1) := by decide +kernel
theorem dX2_charactersIn_44 : decode cX2_charactersIn 44 = .ok (.ireturn, 1) := by decide +kernel
theorem dX2_charactersIn_45 : decode cX2_charactersIn 45 = .ok (.lload_n 2, 1) := by decide +kernel
theorem dX2_charactersIn_46 : decode cX2_charactersIn 46 = .ok (.bipush 8, 2) := by decide +kernel
theorem dX2_charactersIn_48 : decode cX2_charactersIn 48 = .ok (.lushr, 1) := by decide +kernel
theorem dX2_charactersIn_49 : decode cX2_charactersIn 49 = .ok (.lstore_n 2, 1) := by decide +kernel
theorem dX2_charactersIn_50 : decode cX2_charactersIn 50 = .ok (.iinc 4 1, 3) := by decide +kernel
theorem dX2_charactersIn_53 : decode cX2_charactersIn 53 = .ok (.goto (-48), 3) := by decide +kernel
theorem dX2_charactersIn_56 : decode cX2_charactersIn 56 = .ok (.iload 4, 2) := by decide +kernel
theorem dX2_charactersIn_58 : decode cX2_charactersIn 58 = .ok (.ireturn, 1) := by decide +kernel
theorem dX2_firstFault_0 : decode cX2_firstFault 0 = .ok (.aload_n 0, 1) := by decide +kernel
theorem dX2_firstFault_1 : decode cX2_firstFault 1 = .ok (.iconst 0, 1) := by decide +kernel
theorem dX2_firstFault_2 : decode cX2_firstFault 2 = .ok (.putfield 19, 3) := by decide +kernel
theorem dX2_firstFault_5 : decode cX2_firstFault 5 = .ok (.aload_n 0, 1) := by decide +kernel
theorem dX2_firstFault_6 : decode cX2_firstFault 6 = .ok (.getfield 19, 3) := by decide +kernel
theorem dX2_firstFault_9 : decode cX2_firstFault 9 = .ok (.aload_n 0, 1) := by decide +kernel
theorem dX2_firstFault_10 : decode cX2_firstFault 10 = .ok (.getfield 15, 3) := by decide +kernel
theorem dX2_firstFault_13 : decode cX2_firstFault 13 = .ok (.if_icmp .gt 56, 3) := by decide +kernel
theorem dX2_firstFault_16 : decode cX2_firstFault 16 = .ok (.aload_n 0, 1) := by decide +kernel
theorem dX2_firstFault_17 : decode cX2_firstFault 17 = .ok (.invokevirtual 50, 3) := by decide +kernel
theorem dX2_firstFault_20 : decode cX2_firstFault 20 = .ok (.ifCond .ne 8, 3) := by decide +kernel
theorem dX2_firstFault_23 : decode cX2_firstFault 23 = .ok (.aload_n 0, 1) := by decide +kernel
theorem dX2_firstFault_24 : decode cX2_firstFault 24 = .ok (.getfield 19, 3) := by decide +kernel
theorem dX2_firstFault_27 : decode cX2_firstFault 27 = .ok (.ireturn, 1) := by decide +kernel
theorem dX2_firstFault_28 : decode cX2_firstFault 28 = .ok (.aload_n 0, 1) := by decide +kernel
theorem dX2_firstFault_29 : decode cX2_firstFault 29 = .ok (.getfield 19, 3) := by decide +kernel
theorem dX2_firstFault_32 : decode cX2_firstFault 32 = .ok (.aload_n 0, 1) := by decide +kernel
theorem dX2_firstFault_33 : decode cX2_firstFault 33 = .ok (.getfield 15, 3) := by decide +kernel
theorem dX2_firstFault_36 : decode cX2_firstFault 36 = .ok (.if_icmp .lt 6, 3) := by decide +kernel
theorem dX2_firstFault_39 : decode cX2_firstFault 39 = .ok (.ldc 54, 2) := by decide +kernel
theorem dX2_firstFault_41 : decode cX2_firstFault 41 = .ok (.ireturn, 1) := by decide +kernel
theorem dX2_firstFault_42 : decode cX2_firstFault 42 = .ok (.aload_n 0, 1) := by decide +kernel
theorem dX2_firstFault_43 : decode cX2_firstFault 43 = .ok (.invokevirtual 55, 3) := by decide +kernel
theorem dX2_firstFault_46 : decode cX2_firstFault 46 = .ok (.bipush 59, 2) := by decide +kernel
theorem dX2_firstFault_48 : decode cX2_firstFault 48 = .ok (.if_icmp .eq 8, 3) := by decide +kernel
theorem dX2_firstFault_51 : decode cX2_firstFault 51 = .ok (.aload_n 0, 1) := by decide +kernel
theorem dX2_firstFault_52 : decode cX2_firstFault 52 = .ok (.getfield 19, 3) := by decide +kernel
theorem dX2_firstFault_55 : decode cX2_firstFault 55 = .ok (.ireturn, 1) := by decide +kernel
theorem dX2_firstFault_56 : decode cX2_firstFault 56 = .ok (.aload_n 0, 1) := by decide +kernel
theorem dX2_firstFault_57 : decode cX2_firstFault 57 = .ok (.dup, 1) := by decide +kernel
theorem dX2_firstFault_58 : decode cX2_firstFault 58 = .ok (.getfield 19, 3) := by decide +kernel
theorem dX2_firstFault_61 : decode cX2_firstFault 61 = .ok (.iconst 1, 1) := by decide +kernel
theorem dX2_firstFault_62 : decode cX2_firstFault 62 = .ok (.iadd, 1) := by decide +kernel
theorem dX2_firstFault_63 : decode cX2_firstFault 63 = .ok (.putfield 19, 3) := by decide +kernel
theorem dX2_firstFault_66 : decode cX2_firstFault 66 = .ok (.goto (-61), 3) := by decide +kernel
theorem dX2_firstFault_69 : decode cX2_firstFault 69 = .ok (.aload_n 0, 1) := by decide +kernel
theorem dX2_firstFault_70 : decode cX2_firstFault 70 = .ok (.getfield 15, 3) := by decide +kernel
theorem dX2_firstFault_73 : decode cX2_firstFault 73 = .ok (.ireturn, 1) := by decide +kernel
theorem dX2_readOrder_0 : decode cX2_readOrder 0 = .ok (.aload_n 0, 1) := by decide +kernel
theorem dX2_readOrder_1 : decode cX2_readOrder 1 = .ok (.aload_n 0, 1) := by decide +kernel
theorem dX2_readOrder_2 : decode cX2_readOrder 2 = .ok (.invokevirtual 55, 3) := by decide +kernel
theorem dX2_readOrder_5 : decode cX2_readOrder 5 = .ok (.putfield 22, 3) := by decide +kernel
theorem dX2_readOrder_8 : decode cX2_readOrder 8 = .ok (.aload_n 0, 1) := by decide +kernel
theorem dX2_readOrder_9 : decode cX2_readOrder 9 = .ok (.getfield 22, 3) := by decide +kernel
theorem dX2_readOrder_12 : decode cX2_readOrder 12 = .ok (.bipush 43, 2) := by decide +kernel
theorem dX2_readOrder_14 : decode cX2_readOrder 14 = .ok (.if_icmp .ne 18, 3) := by decide +kernel
theorem dX2_readOrder_17 : decode cX2_readOrder 17 = .ok (.aload_n 0, 1) := by decide +kernel
theorem dX2_readOrder_18 : decode cX2_readOrder 18 = .ok (.dup, 1) := by decide +kernel
theorem dX2_readOrder_19 : decode cX2_readOrder 19 = .ok (.getfield 19, 3) := by decide +kernel
theorem dX2_readOrder_22 : decode cX2_readOrder 22 = .ok (.iconst 1, 1) := by decide +kernel
theorem dX2_readOrder_23 : decode cX2_readOrder 23 = .ok (.iadd, 1) := by decide +kernel
theorem dX2_readOrder_24 : decode cX2_readOrder 24 = .ok (.putfield 19, 3) := by decide +kernel
theorem dX2_readOrder_27 : decode cX2_readOrder 27 = .ok (.aload_n 0, 1) := by decide +kernel
theorem dX2_readOrder_28 : decode cX2_readOrder 28 = .ok (.invokevirtual 59, 3) := by decide +kernel
theorem dX2_readOrder_31 : decode cX2_readOrder 31 = .ok (.ireturn, 1) := by decide +kernel
theorem dX2_readOrder_32 : decode cX2_readOrder 32 = .ok (.aload_n 0, 1) := by decide +kernel
theorem dX2_readOrder_33 : decode cX2_readOrder 33 = .ok (.getfield 22, 3) := by decide +kernel
theorem dX2_readOrder_36 : decode cX2_readOrder 36 = .ok (.bipush 46, 2) := by decide +kernel
theorem dX2_readOrder_38 : decode cX2_readOrder 38 = .ok (.if_icmp .ne 36, 3) := by decide +kernel
theorem dX2_readOrder_41 : decode cX2_readOrder 41 = .ok (.aload_n 0, 1) := by decide +kernel
theorem dX2_readOrder_42 : decode cX2_readOrder 42 = .ok (.dup, 1) := by decide +kernel
theorem dX2_readOrder_43 : decode cX2_readOrder 43 = .ok (.getfield 19, 3) := by decide +kernel
theorem dX2_readOrder_46 : decode cX2_readOrder 46 = .ok (.iconst 1, 1) := by decide +kernel
theorem dX2_readOrder_47 : decode cX2_readOrder 47 = .ok (.iadd, 1) := by decide +kernel
theorem dX2_readOrder_48 : decode cX2_readOrder 48 = .ok (.putfield 19, 3) := by decide +kernel
theorem dX2_readOrder_51 : decode cX2_readOrder 51 = .ok (.aload_n 0, 1) := by decide +kernel
theorem dX2_readOrder_52 : decode cX2_readOrder 52 = .ok (.aload_n 0, 1) := by decide +kernel
theorem dX2_readOrder_53 : decode cX2_readOrder 53 = .ok (.bipush 48, 2) := by decide +kernel
theorem dX2_readOrder_55 : decode cX2_readOrder 55 = .ok (.invokevirtual 62, 3) := by decide +kernel
theorem dX2_readOrder_58 : decode cX2_readOrder 58 = .ok (.putfield 31, 3) := by decide +kernel
theorem dX2_readOrder_61 : decode cX2_readOrder 61 = .ok (.aload_n 0, 1) := by decide +kernel
theorem dX2_readOrder_62 : decode cX2_readOrder 62 = .ok (.getfield 31, 3) := by decide +kernel
theorem dX2_readOrder_65 : decode cX2_readOrder 65 = .ok (.ifCond .le 7, 3) := by decide +kernel
theorem dX2_readOrder_68 : decode cX2_readOrder 68 = .ok (.iconst 1, 1) := by decide +kernel
theorem dX2_readOrder_69 : decode cX2_readOrder 69 = .ok (.goto 4, 3) := by decide +kernel
theorem dX2_readOrder_72 : decode cX2_readOrder 72 = .ok (.iconst 0, 1) := by decide +kernel
theorem dX2_readOrder_73 : decode cX2_readOrder 73 = .ok (.ireturn, 1) := by decide +kernel
theorem dX2_readOrder_74 : decode cX2_readOrder 74 = .ok (.aload_n 0, 1) := by decide +kernel
theorem dX2_readOrder_75 : decode cX2_readOrder 75 = .ok (.aload_n 0, 1) := by decide +kernel
theorem dX2_readOrder_76 : decode cX2_readOrder 76 = .ok (.getfield 22, 3) := by decide +kernel
theorem dX2_readOrder_79 : decode cX2_readOrder 79 = .ok (.bipush 48, 2) := by decide +kernel
theorem dX2_readOrder_81 : decode cX2_readOrder 81 = .ok (.isub, 1) := by decide +kernel
theorem dX2_readOrder_82 : decode cX2_readOrder 82 = .ok (.putfield 25, 3) := by decide +kernel
theorem dX2_readOrder_85 : decode cX2_readOrder 85 = .ok (.aload_n 0, 1) := by decide +kernel
theorem dX2_readOrder_86 : decode cX2_readOrder 86 = .ok (.getfield 25, 3) := by decide +kernel
theorem dX2_readOrder_89 : decode cX2_readOrder 89 = .ok (.invokestatic 66, 3) := by decide +kernel
theorem dX2_readOrder_92 : decode cX2_readOrder 92 = .ok (.ifCond .ne 5, 3) := by decide +kernel
theorem dX2_readOrder_95 : decode cX2_readOrder 95 = .ok (.iconst 0, 1) := by decide +kernel
theorem dX2_readOrder_96 : decode cX2_readOrder 96 = .ok (.ireturn, 1) := by decide +kernel
theorem dX2_readOrder_97 : decode cX2_readOrder 97 = .ok (.aload_n 0, 1) := by decide +kernel
theorem dX2_readOrder_98 : decode cX2_readOrder 98 = .ok (.dup, 1) := by decide +kernel
theorem dX2_readOrder_99 : decode cX2_readOrder 99 = .ok (.getfield 19, 3) := by decide +kernel
theorem dX2_readOrder_102 : decode cX2_readOrder 102 = .ok (.iconst 1, 1) := by decide +kernel
theorem dX2_readOrder_103 : decode cX2_readOrder 103 = .ok (.iadd, 1) := by decide +kernel
theorem dX2_readOrder_104 : decode cX2_readOrder 104 = .ok (.putfield 19, 3) := by decide +kernel
theorem dX2_readOrder_107 : decode cX2_readOrder 107 = .ok (.aload_n 0, 1) := by decide +kernel
theorem dX2_readOrder_108 : decode cX2_readOrder 108 = .ok (.invokevirtual 70, 3) := by decide +kernel
theorem dX2_readOrder_111 : decode cX2_readOrder 111 = .ok (.ireturn, 1) := by decide +kernel
theorem dX2_readHoseOrder_0 : decode cX2_readHoseOrder 0 = .ok (.aload_n 0, 1) := by decide +kernel
theorem dX2_readHoseOrder_1 : decode cX2_readHoseOrder 1 = .ok (.aload_n 0, 1) := by decide +kernel
theorem dX2_readHoseOrder_2 : decode cX2_readHoseOrder 2 = .ok (.invokevirtual 55, 3) := by decide +kernel
theorem dX2_readHoseOrder_5 : decode cX2_readHoseOrder 5 = .ok (.putfield 22, 3) := by decide +kernel
theorem dX2_readHoseOrder_8 : decode cX2_readHoseOrder 8 = .ok (.aload_n 0, 1) := by decide +kernel
theorem dX2_readHoseOrder_9 : decode cX2_readHoseOrder 9 = .ok (.getfield 22, 3) := by decide +kernel
theorem dX2_readHoseOrder_12 : decode cX2_readHoseOrder 12 = .ok (.bipush 61, 2) := by decide +kernel
theorem dX2_readHoseOrder_14 : decode cX2_readHoseOrder 14 = .ok (.if_icmp .eq 23, 3) := by decide +kernel
theorem dX2_readHoseOrder_17 : decode cX2_readHoseOrder 17 = .ok (.aload_n 0, 1) := by decide +kernel
theorem dX2_readHoseOrder_18 : decode cX2_readHoseOrder 18 = .ok (.getfield 22, 3) := by decide +kernel
theorem dX2_readHoseOrder_21 : decode cX2_readHoseOrder 21 = .ok (.bipush 45, 2) := by decide +kernel
theorem dX2_readHoseOrder_23 : decode cX2_readHoseOrder 23 = .ok (.if_icmp .eq 14, 3) := by decide +kernel
theorem dX2_readHoseOrder_26 : decode cX2_readHoseOrder 26 = .ok (.aload_n 0, 1) := by decide +kernel
theorem dX2_readHoseOrder_27 : decode cX2_readHoseOrder 27 = .ok (.getfield 22, 3) := by decide +kernel
theorem dX2_readHoseOrder_30 : decode cX2_readHoseOrder 30 = .ok (.bipush 126, 2) := by decide +kernel
theorem dX2_readHoseOrder_32 : decode cX2_readHoseOrder 32 = .ok (.if_icmp .eq 5, 3) := by decide +kernel
theorem dX2_readHoseOrder_35 : decode cX2_readHoseOrder 35 = .ok (.iconst 0, 1) := by decide +kernel
theorem dX2_readHoseOrder_36 : decode cX2_readHoseOrder 36 = .ok (.ireturn, 1) := by decide +kernel
theorem dX2_readHoseOrder_37 : decode cX2_readHoseOrder 37 = .ok (.aload_n 0, 1) := by decide +kernel
theorem dX2_readHoseOrder_38 : decode cX2_readHoseOrder 38 = .ok (.dup, 1) := by decide +kernel
theorem dX2_readHoseOrder_39 : decode cX2_readHoseOrder 39 = .ok (.getfield 19, 3) := by decide +kernel
theorem dX2_readHoseOrder_42 : decode cX2_readHoseOrder 42 = .ok (.iconst 1, 1) := by decide +kernel
theorem dX2_readHoseOrder_43 : decode cX2_readHoseOrder 43 = .ok (.iadd, 1) := by decide +kernel
theorem dX2_readHoseOrder_44 : decode cX2_readHoseOrder 44 = .ok (.putfield 19, 3) := by decide +kernel
theorem dX2_readHoseOrder_47 : decode cX2_readHoseOrder 47 = .ok (.aload_n 0, 1) := by decide +kernel
theorem dX2_readHoseOrder_48 : decode cX2_readHoseOrder 48 = .ok (.getfield 22, 3) := by decide +kernel
theorem dX2_readHoseOrder_51 : decode cX2_readHoseOrder 51 = .ok (.bipush 61, 2) := by decide +kernel
theorem dX2_readHoseOrder_53 : decode cX2_readHoseOrder 53 = .ok (.if_icmp .eq 5, 3) := by decide +kernel
theorem dX2_readHoseOrder_56 : decode cX2_readHoseOrder 56 = .ok (.iconst 1, 1) := by decide +kernel
theorem dX2_readHoseOrder_57 : decode cX2_readHoseOrder 57 = .ok (.ireturn, 1) := by decide +kernel
theorem dX2_readHoseOrder_58 : decode cX2_readHoseOrder 58 = .ok (.aload_n 0, 1) := by decide +kernel
theorem dX2_readHoseOrder_59 : decode cX2_readHoseOrder 59 = .ok (.aload_n 0, 1) := by decide +kernel
theorem dX2_readHoseOrder_60 : decode cX2_readHoseOrder 60 = .ok (.invokevirtual 55, 3) := by decide +kernel
theorem dX2_readHoseOrder_63 : decode cX2_readHoseOrder 63 = .ok (.bipush 97, 2) := by decide +kernel
theorem dX2_readHoseOrder_65 : decode cX2_readHoseOrder 65 = .ok (.isub, 1) := by decide +kernel
theorem dX2_readHoseOrder_66 : decode cX2_readHoseOrder 66 = .ok (.putfield 28, 3) := by decide +kernel
theorem dX2_readHoseOrder_69 : decode cX2_readHoseOrder 69 = .ok (.aload_n 0, 1) := by decide +kernel
theorem dX2_readHoseOrder_70 : decode cX2_readHoseOrder 70 = .ok (.getfield 28, 3) := by decide +kernel
theorem dX2_readHoseOrder_73 : decode cX2_readHoseOrder 73 = .ok (.invokestatic 73, 3) := by decide +kernel
theorem dX2_readHoseOrder_76 : decode cX2_readHoseOrder 76 = .ok (.ifCond .ne 5, 3) := by decide +kernel
theorem dX2_readHoseOrder_79 : decode cX2_readHoseOrder 79 = .ok (.iconst 0, 1) := by decide +kernel
theorem dX2_readHoseOrder_80 : decode cX2_readHoseOrder 80 = .ok (.ireturn, 1) := by decide +kernel
theorem dX2_readHoseOrder_81 : decode cX2_readHoseOrder 81 = .ok (.aload_n 0, 1) := by decide +kernel
theorem dX2_readHoseOrder_82 : decode cX2_readHoseOrder 82 = .ok (.dup, 1) := by decide +kernel
theorem dX2_readHoseOrder_83 : decode cX2_readHoseOrder 83 = .ok (.getfield 19, 3) := by decide +kernel
theorem dX2_readHoseOrder_86 : decode cX2_readHoseOrder 86 = .ok (.iconst 1, 1) := by decide +kernel
theorem dX2_readHoseOrder_87 : decode cX2_readHoseOrder 87 = .ok (.iadd, 1) := by decide +kernel
theorem dX2_readHoseOrder_88 : decode cX2_readHoseOrder 88 = .ok (.putfield 19, 3) := by decide +kernel
theorem dX2_readHoseOrder_91 : decode cX2_readHoseOrder 91 = .ok (.iconst 1, 1) := by decide +kernel
theorem dX2_readHoseOrder_92 : decode cX2_readHoseOrder 92 = .ok (.ireturn, 1) := by decide +kernel
theorem dX2_readUnits_0 : decode cX2_readUnits 0 = .ok (.iconst 0, 1) := by decide +kernel
theorem dX2_readUnits_1 : decode cX2_readUnits 1 = .ok (.istore_n 1, 1) := by decide +kernel
theorem dX2_readUnits_2 : decode cX2_readUnits 2 = .ok (.iconst 0, 1) := by decide +kernel
theorem dX2_readUnits_3 : decode cX2_readUnits 3 = .ok (.istore_n 2, 1) := by decide +kernel
theorem dX2_readUnits_4 : decode cX2_readUnits 4 = .ok (.iload_n 2, 1) := by decide +kernel
theorem dX2_readUnits_5 : decode cX2_readUnits 5 = .ok (.iconst 4, 1) := by decide +kernel
theorem dX2_readUnits_6 : decode cX2_readUnits 6 = .ok (.if_icmp .ge 66, 3) := by decide +kernel
theorem dX2_readUnits_9 : decode cX2_readUnits 9 = .ok (.aload_n 0, 1) := by decide +kernel
theorem dX2_readUnits_10 : decode cX2_readUnits 10 = .ok (.getfield 34, 3) := by decide +kernel
theorem dX2_readUnits_13 : decode cX2_readUnits 13 = .ok (.iload_n 2, 1) := by decide +kernel
theorem dX2_readUnits_14 : decode cX2_readUnits 14 = .ok (.iconst 0, 1) := by decide +kernel
theorem dX2_readUnits_15 : decode cX2_readUnits 15 = .ok (.iastore, 1) := by decide +kernel
theorem dX2_readUnits_16 : decode cX2_readUnits 16 = .ok (.aload_n 0, 1) := by decide +kernel
theorem dX2_readUnits_17 : decode cX2_readUnits 17 = .ok (.invokevirtual 55, 3) := by decide +kernel
theorem dX2_readUnits_20 : decode cX2_readUnits 20 = .ok (.bipush 97, 2) := by decide +kernel
theorem dX2_readUnits_22 : decode cX2_readUnits 22 = .ok (.isub, 1) := by decide +kernel
theorem dX2_readUnits_23 : decode cX2_readUnits 23 = .ok (.iload_n 2, 1) := by decide +kernel
theorem dX2_readUnits_24 : decode cX2_readUnits 24 = .ok (.if_icmp .eq 6, 3) := by decide +kernel
theorem dX2_readUnits_27 : decode cX2_readUnits 27 = .ok (.goto 39, 3) := by decide +kernel
theorem dX2_readUnits_30 : decode cX2_readUnits 30 = .ok (.aload_n 0, 1) := by decide +kernel
theorem dX2_readUnits_31 : decode cX2_readUnits 31 = .ok (.dup, 1) := by decide +kernel
theorem dX2_readUnits_32 : decode cX2_readUnits 32 = .ok (.getfield 19, 3) := by decide +kernel
theorem dX2_readUnits_35 : decode cX2_readUnits 35 = .ok (.iconst 1, 1) := by decide +kernel
theorem dX2_readUnits_36 : decode cX2_readUnits 36 = .ok (.iadd, 1) := by decide +kernel
theorem dX2_readUnits_37 : decode cX2_readUnits 37 = .ok (.putfield 19, 3) := by decide +kernel
theorem dX2_readUnits_40 : decode cX2_readUnits 40 = .ok (.aload_n 0, 1) := by decide +kernel
theorem dX2_readUnits_41 : decode cX2_readUnits 41 = .ok (.getfield 34, 3) := by decide +kernel
theorem dX2_readUnits_44 : decode cX2_readUnits 44 = .ok (.iload_n 2, 1) := by decide +kernel
theorem dX2_readUnits_45 : decode cX2_readUnits 45 = .ok (.aload_n 0, 1) := by decide +kernel
theorem dX2_readUnits_46 : decode cX2_readUnits 46 = .ok (.sipush 400, 3) := by decide +kernel
theorem dX2_readUnits_49 : decode cX2_readUnits 49 = .ok (.invokevirtual 62, 3) := by decide +kernel
theorem dX2_readUnits_52 : decode cX2_readUnits 52 = .ok (.iastore, 1) := by decide +kernel
theorem dX2_readUnits_53 : decode cX2_readUnits 53 = .ok (.aload_n 0, 1) := by decide +kernel
theorem dX2_readUnits_54 : decode cX2_readUnits 54 = .ok (.getfield 34, 3) := by decide +kernel
theorem dX2_readUnits_57 : decode cX2_readUnits 57 = .ok (.iload_n 2, 1) := by decide +kernel
theorem dX2_readUnits_58 : decode cX2_readUnits 58 = .ok (.iaload, 1) := by decide +kernel
theorem dX2_readUnits_59 : decode cX2_readUnits 59 = .ok (.ifCond .ne 5, 3) := by decide +kernel
theorem dX2_readUnits_62 : decode cX2_readUnits 62 = .ok (.iconst 0, 1) := by decide +kernel
theorem dX2_readUnits_63 : decode cX2_readUnits 63 = .ok (.ireturn, 1) := by decide +kernel
theorem dX2_readUnits_64 : decode cX2_readUnits 64 = .ok (.iconst 1, 1) := by decide +kernel
theorem dX2_readUnits_65 : decode cX2_readUnits 65 = .ok (.istore_n 1, 1) := by decide +kernel
theorem dX2_readUnits_66 : decode cX2_readUnits 66 = .ok (.iinc 2 1, 3) := by decide +kernel
theorem dX2_readUnits_69 : decode cX2_readUnits 69 = .ok (.goto (-65), 3) := by decide +kernel
theorem dX2_readUnits_72 : decode cX2_readUnits 72 = .ok (.iload_n 1, 1) := by decide +kernel
theorem dX2_readUnits_73 : decode cX2_readUnits 73 = .ok (.ireturn, 1) := by decide +kernel
theorem dX2_readNumber_0 : decode cX2_readNumber 0 = .ok (.iconst 0, 1) := by decide +kernel
theorem dX2_readNumber_1 : decode cX2_readNumber 1 = .ok (.istore_n 2, 1) := by decide +kernel
theorem dX2_readNumber_2 : decode cX2_readNumber 2 = .ok (.aload_n 0, 1) := by decide +kernel
theorem dX2_readNumber_3 : decode cX2_readNumber 3 = .ok (.getfield 19, 3) := by decide +kernel
theorem dX2_readNumber_6 : decode cX2_readNumber 6 = .ok (.aload_n 0, 1) := by decide +kernel
theorem dX2_readNumber_7 : decode cX2_readNumber 7 = .ok (.getfield 15, 3) := by decide +kernel
theorem dX2_readNumber_10 : decode cX2_readNumber 10 = .ok (.if_icmp .ge 61, 3) := by decide +kernel
theorem dX2_readNumber_13 : decode cX2_readNumber 13 = .ok (.aload_n 0, 1) := by decide +kernel
theorem dX2_readNumber_14 : decode cX2_readNumber 14 = .ok (.invokevirtual 55, 3) := by decide +kernel
theorem dX2_readNumber_17 : decode cX2_readNumber 17 = .ok (.bipush 48, 2) := by decide +kernel
theorem dX2_readNumber_19 : decode cX2_readNumber 19 = .ok (.isub, 1) := by decide +kernel
theorem dX2_readNumber_20 : decode cX2_readNumber 20 = .ok (.istore_n 3, 1) := by decide +kernel
theorem dX2_readNumber_21 : decode cX2_readNumber 21 = .ok (.iload_n 3, 1) := by decide +kernel
theorem dX2_readNumber_22 : decode cX2_readNumber 22 = .ok (.ifCond .lt 49, 3) := by decide +kernel
theorem dX2_readNumber_25 : decode cX2_readNumber 25 = .ok (.iload_n 3, 1) := by decide +kernel
theorem dX2_readNumber_26 : decode cX2_readNumber 26 = .ok (.bipush 9, 2) := by decide +kernel
theorem dX2_readNumber_28 : decode cX2_readNumber 28 = .ok (.if_icmp .le 6, 3) := by decide +kernel
theorem dX2_readNumber_31 : decode cX2_readNumber 31 = .ok (.goto 40, 3) := by decide +kernel
theorem dX2_readNumber_34 : decode cX2_readNumber 34 = .ok (.bipush 10, 2) := by decide +kernel
theorem dX2_readNumber_36 : decode cX2_readNumber 36 = .ok (.iload_n 2, 1) := by decide +kernel
theorem dX2_readNumber_37 : decode cX2_readNumber 37 = .ok (.imul, 1) := by decide +kernel
theorem dX2_readNumber_38 : decode cX2_readNumber 38 = .ok (.iload_n 3, 1) := by decide +kernel
theorem dX2_readNumber_39 : decode cX2_readNumber 39 = .ok (.iadd, 1) := by decide +kernel
theorem dX2_readNumber_40 : decode cX2_readNumber 40 = .ok (.istore 4, 2) := by decide +kernel
theorem dX2_readNumber_42 : decode cX2_readNumber 42 = .ok (.iload 4, 2) := by decide +kernel
theorem dX2_readNumber_44 : decode cX2_readNumber 44 = .ok (.ifCond .eq 9, 3) := by decide +kernel
theorem dX2_readNumber_47 : decode cX2_readNumber 47 = .ok (.iload 4, 2) := by decide +kernel
theorem dX2_readNumber_49 : decode cX2_readNumber 49 = .ok (.iload_n 1, 1) := by decide +kernel
theorem dX2_readNumber_50 : decode cX2_readNumber 50 = .ok (.if_icmp .le 5, 3) := by decide +kernel
theorem dX2_readNumber_53 : decode cX2_readNumber 53 = .ok (.iconst 0, 1) := by decide +kernel
theorem dX2_readNumber_54 : decode cX2_readNumber 54 = .ok (.ireturn, 1) := by decide +kernel
theorem dX2_readNumber_55 : decode cX2_readNumber 55 = .ok (.iload 4, 2) := by decide +kernel
theorem dX2_readNumber_57 : decode cX2_readNumber 57 = .ok (.istore_n 2, 1) := by decide +kernel
theorem dX2_readNumber_58 : decode cX2_readNumber 58 = .ok (.aload_n 0, 1) := by decide +kernel
theorem dX2_readNumber_59 : decode cX2_readNumber 59 = .ok (.dup, 1) := by decide +kernel
theorem dX2_readNumber_60 : decode cX2_readNumber 60 = .ok (.getfield 19, 3) := by decide +kernel
theorem dX2_readNumber_63 : decode cX2_readNumber 63 = .ok (.iconst 1, 1) := by decide +kernel
theorem dX2_readNumber_64 : decode cX2_readNumber 64 = .ok (.iadd, 1) := by decide +kernel
theorem dX2_readNumber_65 : decode cX2_readNumber 65 = .ok (.putfield 19, 3) := by decide +kernel
theorem dX2_readNumber_68 : decode cX2_readNumber 68 = .ok (.goto (-66), 3) := by decide +kernel
theorem dX2_readNumber_71 : decode cX2_readNumber 71 = .ok (.iload_n 2, 1) := by decide +kernel
theorem dX2_readNumber_72 : decode cX2_readNumber 72 = .ok (.ireturn, 1) := by decide +kernel
theorem dX2_next_0 : decode cX2_next 0 = .ok (.aload_n 0, 1) := by decide +kernel
theorem dX2_next_1 : decode cX2_next 1 = .ok (.getfield 19, 3) := by decide +kernel
theorem dX2_next_4 : decode cX2_next 4 = .ok (.ifCond .lt 38, 3) := by decide +kernel
theorem dX2_next_7 : decode cX2_next 7 = .ok (.aload_n 0, 1) := by decide +kernel
theorem dX2_next_8 : decode cX2_next 8 = .ok (.getfield 19, 3) := by decide +kernel
theorem dX2_next_11 : decode cX2_next 11 = .ok (.aload_n 0, 1) := by decide +kernel
theorem dX2_next_12 : decode cX2_next 12 = .ok (.getfield 15, 3) := by decide +kernel
theorem dX2_next_15 : decode cX2_next 15 = .ok (.if_icmp .ge 27, 3) := by decide +kernel
theorem dX2_next_18 : decode cX2_next 18 = .ok (.aload_n 0, 1) := by decide +kernel
theorem dX2_next_19 : decode cX2_next 19 = .ok (.getfield 19, 3) := by decide +kernel
theorem dX2_next_22 : decode cX2_next 22 = .ok (.aload_n 0, 1) := by decide +kernel
theorem dX2_next_23 : decode cX2_next 23 = .ok (.getfield 9, 3) := by decide +kernel
theorem dX2_next_26 : decode cX2_next 26 = .ok (.arraylength, 1) := by decide +kernel
theorem dX2_next_27 : decode cX2_next 27 = .ok (.if_icmp .ge 15, 3) := by decide +kernel
theorem dX2_next_30 : decode cX2_next 30 = .ok (.aload_n 0, 1) := by decide +kernel
theorem dX2_next_31 : decode cX2_next 31 = .ok (.getfield 9, 3) := by decide +kernel
theorem dX2_next_34 : decode cX2_next 34 = .ok (.aload_n 0, 1) := by decide +kernel
theorem dX2_next_35 : decode cX2_next 35 = .ok (.getfield 19, 3) := by decide +kernel
theorem dX2_next_38 : decode cX2_next 38 = .ok (.caload, 1) := by decide +kernel
theorem dX2_next_39 : decode cX2_next 39 = .ok (.goto 4, 3) := by decide +kernel
theorem dX2_next_42 : decode cX2_next 42 = .ok (.iconst 0, 1) := by decide +kernel
theorem dX2_next_43 : decode cX2_next 43 = .ok (.ireturn, 1) := by decide +kernel
theorem dX3_init_0 : decode cX3_init 0 = .ok (.aload_n 0, 1) := by decide +kernel
theorem dX3_init_1 : decode cX3_init 1 = .ok (.invokespecial 3, 3) := by decide +kernel
theorem dX3_init_4 : decode cX3_init 4 = .ok (.aload_n 0, 1) := by decide +kernel
theorem dX3_init_5 : decode cX3_init 5 = .ok (.iconst 4, 1) := by decide +kernel
theorem dX3_init_6 : decode cX3_init 6 = .ok (.newarray .int, 2) := by decide +kernel
theorem dX3_init_8 : decode cX3_init 8 = .ok (.putfield 9, 3) := by decide +kernel
theorem dX3_init_11 : decode cX3_init 11 = .ok (.aload_n 0, 1) := by decide +kernel
theorem dX3_init_12 : decode cX3_init 12 = .ok (.iconst 0, 1) := by decide +kernel
theorem dX3_init_13 : decode cX3_init 13 = .ok (.putfield 15, 3) := by decide +kernel
theorem dX3_init_16 : decode cX3_init 16 = .ok (.return_, 1) := by decide +kernel
theorem dX3_copyFrom_0 : decode cX3_copyFrom 0 = .ok (.aload_n 1, 1) := by decide +kernel
theorem dX3_copyFrom_1 : decode cX3_copyFrom 1 = .ok (.getfield 9, 3) := by decide +kernel
theorem dX3_copyFrom_4 : decode cX3_copyFrom 4 = .ok (.iconst 0, 1) := by decide +kernel
theorem dX3_copyFrom_5 : decode cX3_copyFrom 5 = .ok (.aload_n 0, 1) := by decide +kernel
theorem dX3_copyFrom_6 : decode cX3_copyFrom 6 = .ok (.getfield 9, 3) := by decide +kernel
theorem dX3_copyFrom_9 : decode cX3_copyFrom 9 = .ok (.iconst 0, 1) := by decide +kernel
theorem dX3_copyFrom_10 : decode cX3_copyFrom 10 = .ok (.iconst 4, 1) := by decide +kernel
theorem dX3_copyFrom_11 : decode cX3_copyFrom 11 = .ok (.invokestatic 19, 3) := by decide +kernel
theorem dX3_copyFrom_14 : decode cX3_copyFrom 14 = .ok (.aload_n 0, 1) := by decide +kernel
theorem dX3_copyFrom_15 : decode cX3_copyFrom 15 = .ok (.aload_n 1, 1) := by decide +kernel
theorem dX3_copyFrom_16 : decode cX3_copyFrom 16 = .ok (.getfield 15, 3) := by decide +kernel
theorem dX3_copyFrom_19 : decode cX3_copyFrom 19 = .ok (.putfield 15, 3) := by decide +kernel
theorem dX3_copyFrom_22 : decode cX3_copyFrom 22 = .ok (.return_, 1) := by decide +kernel
theorem dX3_allUnits_0 : decode cX3_allUnits 0 = .ok (.iconst 0, 1) := by decide +kernel
theorem dX3_allUnits_1 : decode cX3_allUnits 1 = .ok (.istore_n 1, 1) := by decide +kernel
theorem dX3_allUnits_2 : decode cX3_allUnits 2 = .ok (.iconst 0, 1) := by decide +kernel
theorem dX3_allUnits_3 : decode cX3_allUnits 3 = .ok (.istore_n 2, 1) := by decide +kernel
theorem dX3_allUnits_4 : decode cX3_allUnits 4 = .ok (.iload_n 2, 1) := by decide +kernel
theorem dX3_allUnits_5 : decode cX3_allUnits 5 = .ok (.iconst 4, 1) := by decide +kernel
theorem dX3_allUnits_6 : decode cX3_allUnits 6 = .ok (.if_icmp .ge 18, 3) := by decide +kernel
theorem dX3_allUnits_9 : decode cX3_allUnits 9 = .ok (.iload_n 1, 1) := by decide +kernel
theorem dX3_allUnits_10 : decode cX3_allUnits 10 = .ok (.aload_n 0, 1) := by decide +kernel
theorem dX3_allUnits_11 : decode cX3_allUnits 11 = .ok (.getfield 9, 3) := by decide +kernel
theorem dX3_allUnits_14 : decode cX3_allUnits 14 = .ok (.iload_n 2, 1) := by decide +kernel
theorem dX3_allUnits_15 : decode cX3_allUnits 15 = .ok (.iaload, 1) := by decide +kernel
theorem dX3_allUnits_16 : decode cX3_allUnits 16 = .ok (.iadd, 1) := by decide +kernel
theorem dX3_allUnits_17 : decode cX3_allUnits 17 = .ok (.istore_n 1, 1) := by decide +kernel
theorem dX3_allUnits_18 : decode cX3_allUnits 18 = .ok (.iinc 2 1, 3) := by decide +kernel
theorem dX3_allUnits_21 : decode cX3_allUnits 21 = .ok (.goto (-17), 3) := by decide +kernel
theorem dX3_allUnits_24 : decode cX3_allUnits 24 = .ok (.iload_n 1, 1) := by decide +kernel
theorem dX3_allUnits_25 : decode cX3_allUnits 25 = .ok (.ireturn, 1) := by decide +kernel
theorem dX3_draught_0 : decode cX3_draught 0 = .ok (.bipush 40, 2) := by decide +kernel
theorem dX3_draught_2 : decode cX3_draught 2 = .ok (.aload_n 0, 1) := by decide +kernel
theorem dX3_draught_3 : decode cX3_draught 3 = .ok (.invokevirtual 25, 3) := by decide +kernel
theorem dX3_draught_6 : decode cX3_draught 6 = .ok (.bipush 20, 2) := by decide +kernel
theorem dX3_draught_8 : decode cX3_draught 8 = .ok (.idiv, 1) := by decide +kernel
theorem dX3_draught_9 : decode cX3_draught 9 = .ok (.iadd, 1) := by decide +kernel
theorem dX3_draught_10 : decode cX3_draught 10 = .ok (.ireturn, 1) := by decide +kernel
end
section
theorem dX4_init_0 : decode cX4_init 0 = .ok (.aload_n 0, 1) := by decide +kernel
theorem dX4_init_1 : decode cX4_init 1 = .ok (.invokespecial 1, 3) := by decide +kernel
theorem dX4_init_4 : decode cX4_init 4 = .ok (.aload_n 0, 1) := by decide +kernel
theorem dX4_init_5 : decode cX4_init 5 = .ok (.new 7, 3) := by decide +kernel
theorem dX4_init_8 : decode cX4_init 8 = .ok (.dup, 1) := by decide +kernel
theorem dX4_init_9 : decode cX4_init 9 = .ok (.invokespecial 9, 3) := by decide +kernel
theorem dX4_init_12 : decode cX4_init 12 = .ok (.putfield 10, 3) := by decide +kernel
theorem dX4_init_15 : decode cX4_init 15 = .ok (.aload_n 0, 1) := by decide +kernel
theorem dX4_init_16 : decode cX4_init 16 = .ok (.new 7, 3) := by decide +kernel
theorem dX4_init_19 : decode cX4_init 19 = .ok (.dup, 1) := by decide +kernel
theorem dX4_init_20 : decode cX4_init 20 = .ok (.invokespecial 9, 3) := by decide +kernel
theorem dX4_init_23 : decode cX4_init 23 = .ok (.putfield 16, 3) := by decide +kernel
theorem dX4_init_26 : decode cX4_init 26 = .ok (.aload_n 0, 1) := by decide +kernel
theorem dX4_init_27 : decode cX4_init 27 = .ok (.new 19, 3) := by decide +kernel
theorem dX4_init_30 : decode cX4_init 30 = .ok (.dup, 1) := by decide +kernel
theorem dX4_init_31 : decode cX4_init 31 = .ok (.invokespecial 21, 3) := by decide +kernel
theorem dX4_init_34 : decode cX4_init 34 = .ok (.putfield 22, 3) := by decide +kernel
theorem dX4_init_37 : decode cX4_init 37 = .ok (.aload_n 0, 1) := by decide +kernel
theorem dX4_init_38 : decode cX4_init 38 = .ok (.bipush 6, 2) := by decide +kernel
theorem dX4_init_40 : decode cX4_init 40 = .ok (.anewarray 7, 3) := by decide +kernel
theorem dX4_init_43 : decode cX4_init 43 = .ok (.putfield 26, 3) := by decide +kernel
theorem dX4_init_46 : decode cX4_init 46 = .ok (.aload_n 0, 1) := by decide +kernel
theorem dX4_init_47 : decode cX4_init 47 = .ok (.iconst 0, 1) := by decide +kernel
theorem dX4_init_48 : decode cX4_init 48 = .ok (.putfield 30, 3) := by decide +kernel
theorem dX4_init_51 : decode cX4_init 51 = .ok (.aload_n 0, 1) := by decide +kernel
theorem dX4_init_52 : decode cX4_init 52 = .ok (.new 7, 3) := by decide +kernel
theorem dX4_init_55 : decode cX4_init 55 = .ok (.dup, 1) := by decide +kernel
theorem dX4_init_56 : decode cX4_init 56 = .ok (.invokespecial 9, 3) := by decide +kernel
theorem dX4_init_59 : decode cX4_init 59 = .ok (.putfield 34, 3) := by decide +kernel
theorem dX4_init_62 : decode cX4_init 62 = .ok (.aload_n 0, 1) := by decide +kernel
theorem dX4_init_63 : decode cX4_init 63 = .ok (.iconst 2, 1) := by decide +kernel
theorem dX4_init_64 : decode cX4_init 64 = .ok (.anewarray 7, 3) := by decide +kernel
theorem dX4_init_67 : decode cX4_init 67 = .ok (.putfield 37, 3) := by decide +kernel
theorem dX4_init_70 : decode cX4_init 70 = .ok (.aload_n 0, 1) := by decide +kernel
theorem dX4_init_71 : decode cX4_init 71 = .ok (.iconst 2, 1) := by decide +kernel
theorem dX4_init_72 : decode cX4_init 72 = .ok (.newarray .boolean, 2) := by decide +kernel
theorem dX4_init_74 : decode cX4_init 74 = .ok (.putfield 40, 3) := by decide +kernel
theorem dX4_init_77 : decode cX4_init 77 = .ok (.iconst 0, 1) := by decide +kernel
theorem dX4_init_78 : decode cX4_init 78 = .ok (.istore_n 1, 1) := by decide +kernel
theorem dX4_init_79 : decode cX4_init 79 = .ok (.iload_n 1, 1) := by decide +kernel
theorem dX4_init_80 : decode cX4_init 80 = .ok (.bipush 6, 2) := by decide +kernel
theorem dX4_init_82 : decode cX4_init 82 = .ok (.if_icmp .ge 22, 3) := by decide +kernel
theorem dX4_init_85 : decode cX4_init 85 = .ok (.aload_n 0, 1) := by decide +kernel
theorem dX4_init_86 : decode cX4_init 86 = .ok (.getfield 26, 3) := by decide +kernel
theorem dX4_init_89 : decode cX4_init 89 = .ok (.iload_n 1, 1) := by decide +kernel
theorem dX4_init_90 : decode cX4_init 90 = .ok (.new 7, 3) := by decide +kernel
theorem dX4_init_93 : decode cX4_init 93 = .ok (.dup, 1) := by decide +kernel
theorem dX4_init_94 : decode cX4_init 94 = .ok (.invokespecial 9, 3) := by decide +kernel
theorem dX4_init_97 : decode cX4_init 97 = .ok (.aastore, 1) := by decide +kernel
theorem dX4_init_98 : decode cX4_init 98 = .ok (.iinc 1 1, 3) := by decide +kernel
theorem dX4_init_101 : decode cX4_init 101 = .ok (.goto (-22), 3) := by decide +kernel
theorem dX4_init_104 : decode cX4_init 104 = .ok (.iconst 0, 1) := by decide +kernel
theorem dX4_init_105 : decode cX4_init 105 = .ok (.istore_n 1, 1) := by decide +kernel
theorem dX4_init_106 : decode cX4_init 106 = .ok (.iload_n 1, 1) := by decide +kernel
theorem dX4_init_107 : decode cX4_init 107 = .ok (.iconst 2, 1) := by decide +kernel
theorem dX4_init_108 : decode cX4_init 108 = .ok (.if_icmp .ge 22, 3) := by decide +kernel
theorem dX4_init_111 : decode cX4_init 111 = .ok (.aload_n 0, 1) := by decide +kernel
theorem dX4_init_112 : decode cX4_init 112 = .ok (.getfield 37, 3) := by decide +kernel
theorem dX4_init_115 : decode cX4_init 115 = .ok (.iload_n 1, 1) := by decide +kernel
theorem dX4_init_116 : decode cX4_init 116 = .ok (.new 7, 3) := by decide +kernel
theorem dX4_init_119 : decode cX4_init 119 = .ok (.dup, 1) := by decide +kernel
theorem dX4_init_120 : decode cX4_init 120 = .ok (.invokespecial 9, 3) := by decide +kernel
theorem dX4_init_123 : decode cX4_init 123 = .ok (.aastore, 1) := by decide +kernel
theorem dX4_init_124 : decode cX4_init 124 = .ok (.iinc 1 1, 3) := by decide +kernel
theorem dX4_init_127 : decode cX4_init 127 = .ok (.goto (-21), 3) := by decide +kernel
theorem dX4_init_130 : decode cX4_init 130 = .ok (.return_, 1) := by decide +kernel
theorem dX4_set_0 : decode cX4_set 0 = .ok (.aload_n 0, 1) := by decide +kernel
theorem dX4_set_1 : decode cX4_set 1 = .ok (.invokevirtual 44, 3) := by decide +kernel
theorem dX4_set_4 : decode cX4_set 4 = .ok (.aload_n 0, 1) := by decide +kernel
theorem dX4_set_5 : decode cX4_set 5 = .ok (.aload_n 0, 1) := by decide +kernel
theorem dX4_set_6 : decode cX4_set 6 = .ok (.getfield 10, 3) := by decide +kernel
theorem dX4_set_9 : decode cX4_set 9 = .ok (.iload_n 1, 1) := by decide +kernel
theorem dX4_set_10 : decode cX4_set 10 = .ok (.iload_n 2, 1) := by decide +kernel
theorem dX4_set_11 : decode cX4_set 11 = .ok (.invokevirtual 47, 3) := by decide +kernel
theorem dX4_set_14 : decode cX4_set 14 = .ok (.invokevirtual 51, 3) := by decide +kernel
theorem dX4_set_17 : decode cX4_set 17 = .ok (.ireturn, 1) := by decide +kernel
theorem dX4_arrive_0 : decode cX4_arrive 0 = .ok (.aload_n 0, 1) := by decide +kernel
theorem dX4_arrive_1 : decode cX4_arrive 1 = .ok (.invokevirtual 44, 3) := by decide +kernel
theorem dX4_arrive_4 : decode cX4_arrive 4 = .ok (.aload_n 0, 1) := by decide +kernel
theorem dX4_arrive_5 : decode cX4_arrive 5 = .ok (.aload_n 0, 1) := by decide +kernel
theorem dX4_arrive_6 : decode cX4_arrive 6 = .ok (.getfield 10, 3) := by decide +kernel
theorem dX4_arrive_9 : decode cX4_arrive 9 = .ok (.iload_n 1, 1) := by decide +kernel
theorem dX4_arrive_10 : decode cX4_arrive 10 = .ok (.iload_n 2, 1) := by decide +kernel
theorem dX4_arrive_11 : decode cX4_arrive 11 = .ok (.iload_n 3, 1) := by decide +kernel
theorem dX4_arrive_12 : decode cX4_arrive 12 = .ok (.iload 4, 2) := by decide +kernel
theorem dX4_arrive_14 : decode cX4_arrive 14 = .ok (.invokevirtual 55, 3) := by decide +kernel
theorem dX4_arrive_17 : decode cX4_arrive 17 = .ok (.invokevirtual 51, 3) := by decide +kernel
theorem dX4_arrive_20 : decode cX4_arrive 20 = .ok (.ireturn, 1) := by decide +kernel
theorem dX4_berth_0 : decode cX4_berth 0 = .ok (.aload_n 0, 1) := by decide +kernel
theorem dX4_berth_1 : decode cX4_berth 1 = .ok (.invokevirtual 44, 3) := by decide +kernel
theorem dX4_berth_4 : decode cX4_berth 4 = .ok (.aload_n 0, 1) := by decide +kernel
theorem dX4_berth_5 : decode cX4_berth 5 = .ok (.aload_n 0, 1) := by decide +kernel
theorem dX4_berth_6 : decode cX4_berth 6 = .ok (.getfield 10, 3) := by decide +kernel
theorem dX4_berth_9 : decode cX4_berth 9 = .ok (.invokevirtual 59, 3) := by decide +kernel
theorem dX4_berth_12 : decode cX4_berth 12 = .ok (.invokevirtual 51, 3) := by decide +kernel
theorem dX4_berth_15 : decode cX4_berth 15 = .ok (.ireturn, 1) := by decide +kernel
theorem dX4_leave_0 : decode cX4_leave 0 = .ok (.aload_n 0, 1) := by decide +kernel
theorem dX4_leave_1 : decode cX4_leave 1 = .ok (.invokevirtual 44, 3) := by decide +kernel
theorem dX4_leave_4 : decode cX4_leave 4 = .ok (.aload_n 0, 1) := by decide +kernel
theorem dX4_leave_5 : decode cX4_leave 5 = .ok (.aload_n 0, 1) := by decide +kernel
theorem dX4_leave_6 : decode cX4_leave 6 = .ok (.getfield 10, 3) := by decide +kernel
theorem dX4_leave_9 : decode cX4_leave 9 = .ok (.invokevirtual 63, 3) := by decide +kernel
theorem dX4_leave_12 : decode cX4_leave 12 = .ok (.invokevirtual 51, 3) := by decide +kernel
theorem dX4_leave_15 : decode cX4_leave 15 = .ok (.ireturn, 1) := by decide +kernel
theorem dX4_reach_0 : decode cX4_reach 0 = .ok (.aload_n 0, 1) := by decide +kernel
theorem dX4_reach_1 : decode cX4_reach 1 = .ok (.invokevirtual 44, 3) := by decide +kernel
theorem dX4_reach_4 : decode cX4_reach 4 = .ok (.aload_n 0, 1) := by decide +kernel
theorem dX4_reach_5 : decode cX4_reach 5 = .ok (.aload_n 0, 1) := by decide +kernel
theorem dX4_reach_6 : decode cX4_reach 6 = .ok (.getfield 10, 3) := by decide +kernel
theorem dX4_reach_9 : decode cX4_reach 9 = .ok (.iload_n 1, 1) := by decide +kernel
theorem dX4_reach_10 : decode cX4_reach 10 = .ok (.iload_n 2, 1) := by decide +kernel
theorem dX4_reach_11 : decode cX4_reach 11 = .ok (.invokevirtual 66, 3) := by decide +kernel
theorem dX4_reach_14 : decode cX4_reach 14 = .ok (.invokevirtual 51, 3) := by decide +kernel
theorem dX4_reach_17 : decode cX4_reach 17 = .ok (.ireturn, 1) := by decide +kernel
theorem dX4_connect_0 : decode cX4_connect 0 = .ok (.aload_n 0, 1) := by decide +kernel
theorem dX4_connect_1 : decode cX4_connect 1 = .ok (.invokevirtual 44, 3) := by decide +kernel
theorem dX4_connect_4 : decode cX4_connect 4 = .ok (.aload_n 0, 1) := by decide +kernel
theorem dX4_connect_5 : decode cX4_connect 5 = .ok (.aload_n 0, 1) := by decide +kernel
theorem dX4_connect_6 : decode cX4_connect 6 = .ok (.getfield 10, 3) := by decide +kernel
theorem dX4_connect_9 : decode cX4_connect 9 = .ok (.iload_n 1, 1) := by decide +kernel
theorem dX4_connect_10 : decode cX4_connect 10 = .ok (.iload_n 2, 1) := by decide +kernel
theorem dX4_connect_11 : decode cX4_connect 11 = .ok (.invokevirtual 69, 3) := by decide +kernel
theorem dX4_connect_14 : decode cX4_connect 14 = .ok (.invokevirtual 51, 3) := by decide +kernel
theorem dX4_connect_17 : decode cX4_connect 17 = .ok (.ireturn, 1) := by decide +kernel
theorem dX4_disconnect_0 : decode cX4_disconnect 0 = .ok (.aload_n 0, 1) := by decide +kernel
theorem dX4_disconnect_1 : decode cX4_disconnect 1 = .ok (.invokevirtual 44, 3) := by decide +kernel
theorem dX4_disconnect_4 : decode cX4_disconnect 4 = .ok (.aload_n 0, 1) := by decide +kernel
theorem dX4_disconnect_5 : decode cX4_disconnect 5 = .ok (.aload_n 0, 1) := by decide +kernel
theorem dX4_disconnect_6 : decode cX4_disconnect 6 = .ok (.getfield 10, 3) := by decide +kernel
theorem dX4_disconnect_9 : decode cX4_disconnect 9 = .ok (.iload_n 1, 1) := by decide +kernel
theorem dX4_disconnect_10 : decode cX4_disconnect 10 = .ok (.invokevirtual 72, 3) := by decide +kernel
theorem dX4_disconnect_13 : decode cX4_disconnect 13 = .ok (.invokevirtual 51, 3) := by decide +kernel
theorem dX4_disconnect_16 : decode cX4_disconnect 16 = .ok (.ireturn, 1) := by decide +kernel
theorem dX4_flush_0 : decode cX4_flush 0 = .ok (.aload_n 0, 1) := by decide +kernel
theorem dX4_flush_1 : decode cX4_flush 1 = .ok (.invokevirtual 44, 3) := by decide +kernel
theorem dX4_flush_4 : decode cX4_flush 4 = .ok (.aload_n 0, 1) := by decide +kernel
theorem dX4_flush_5 : decode cX4_flush 5 = .ok (.aload_n 0, 1) := by decide +kernel
theorem dX4_flush_6 : decode cX4_flush 6 = .ok (.getfield 10, 3) := by decide +kernel
theorem dX4_flush_9 : decode cX4_flush 9 = .ok (.iload_n 1, 1) := by decide +kernel
theorem dX4_flush_10 : decode cX4_flush 10 = .ok (.invokevirtual 75, 3) := by decide +kernel
theorem dX4_flush_13 : decode cX4_flush 13 = .ok (.invokevirtual 51, 3) := by decide +kernel
theorem dX4_flush_16 : decode cX4_flush 16 = .ok (.ireturn, 1) := by decide +kernel
theorem dX4_mend_0 : decode cX4_mend 0 = .ok (.aload_n 0, 1) := by decide +kernel
theorem dX4_mend_1 : decode cX4_mend 1 = .ok (.invokevirtual 44, 3) := by decide +kernel
theorem dX4_mend_4 : decode cX4_mend 4 = .ok (.aload_n 0, 1) := by decide +kernel
theorem dX4_mend_5 : decode cX4_mend 5 = .ok (.aload_n 0, 1) := by decide +kernel
theorem dX4_mend_6 : decode cX4_mend 6 = .ok (.getfield 10, 3) := by decide +kernel
theorem dX4_mend_9 : decode cX4_mend 9 = .ok (.iload_n 1, 1) := by decide +kernel
theorem dX4_mend_10 : decode cX4_mend 10 = .ok (.invokevirtual 78, 3) := by decide +kernel
theorem dX4_mend_13 : decode cX4_mend 13 = .ok (.invokevirtual 51, 3) := by decide +kernel
theorem dX4_mend_16 : decode cX4_mend 16 = .ok (.ireturn, 1) := by decide +kernel
theorem dX4_boom_0 : decode cX4_boom 0 = .ok (.aload_n 0, 1) := by decide +kernel
theorem dX4_boom_1 : decode cX4_boom 1 = .ok (.invokevirtual 44, 3) := by decide +kernel
theorem dX4_boom_4 : decode cX4_boom 4 = .ok (.aload_n 0, 1) := by decide +kernel
theorem dX4_boom_5 : decode cX4_boom 5 = .ok (.aload_n 0, 1) := by decide +kernel
theorem dX4_boom_6 : decode cX4_boom 6 = .ok (.getfield 10, 3) := by decide +kernel
theorem dX4_boom_9 : decode cX4_boom 9 = .ok (.iload_n 1, 1) := by decide +kernel
theorem dX4_boom_10 : decode cX4_boom 10 = .ok (.invokevirtual 81, 3) := by decide +kernel
theorem dX4_boom_13 : decode cX4_boom 13 = .ok (.invokevirtual 51, 3) := by decide +kernel
theorem dX4_boom_16 : decode cX4_boom 16 = .ok (.ireturn, 1) := by decide +kernel
theorem dX4_draw_0 : decode cX4_draw 0 = .ok (.aload_n 0, 1) := by decide +kernel
theorem dX4_draw_1 : decode cX4_draw 1 = .ok (.invokevirtual 44, 3) := by decide +kernel
theorem dX4_draw_4 : decode cX4_draw 4 = .ok (.aload_n 0, 1) := by decide +kernel
theorem dX4_draw_5 : decode cX4_draw 5 = .ok (.aload_n 0, 1) := by decide +kernel
theorem dX4_draw_6 : decode cX4_draw 6 = .ok (.getfield 10, 3) := by decide +kernel
theorem dX4_draw_9 : decode cX4_draw 9 = .ok (.iload_n 1, 1) := by decide +kernel
theorem dX4_draw_10 : decode cX4_draw 10 = .ok (.iload_n 2, 1) := by decide +kernel
theorem dX4_draw_11 : decode cX4_draw 11 = .ok (.invokevirtual 85, 3) := by decide +kernel
theorem dX4_draw_14 : decode cX4_draw 14 = .ok (.invokevirtual 51, 3) := by decide +kernel
theorem dX4_draw_17 : decode cX4_draw 17 = .ok (.ireturn, 1) := by decide +kernel
theorem dX4_pass_0 : decode cX4_pass 0 = .ok (.aload_n 0, 1) := by decide +kernel
theorem dX4_pass_1 : decode cX4_pass 1 = .ok (.invokevirtual 44, 3) := by decide +kernel
theorem dX4_pass_4 : decode cX4_pass 4 = .ok (.aload_n 0, 1) := by decide +kernel
theorem dX4_pass_5 : decode cX4_pass 5 = .ok (.aload_n 0, 1) := by decide +kernel
theorem dX4_pass_6 : decode cX4_pass 6 = .ok (.getfield 10, 3) := by decide +kernel
theorem dX4_pass_9 : decode cX4_pass 9 = .ok (.iload_n 1, 1) := by decide +kernel
theorem dX4_pass_10 : decode cX4_pass 10 = .ok (.invokevirtual 88, 3) := by decide +kernel
theorem dX4_pass_13 : decode cX4_pass 13 = .ok (.invokevirtual 51, 3) := by decide +kernel
theorem dX4_pass_16 : decode cX4_pass 16 = .ok (.ireturn, 1) := by decide +kernel
theorem dX4_run_0 : decode cX4_run 0 = .ok (.aload_n 0, 1) := by decide +kernel
theorem dX4_run_1 : decode cX4_run 1 = .ok (.getfield 22, 3) := by decide +kernel
theorem dX4_run_4 : decode cX4_run 4 = .ok (.invokevirtual 91, 3) := by decide +kernel
theorem dX4_run_7 : decode cX4_run 7 = .ok (.ldc 94, 2) := by decide +kernel
theorem dX4_run_9 : decode cX4_run 9 = .ok (.if_icmp .eq 6, 3) := by decide +kernel
theorem dX4_run_12 : decode cX4_run 12 = .ok (.ldc 95, 2) := by decide +kernel
theorem dX4_run_14 : decode cX4_run 14 = .ok (.ireturn, 1) := by decide +kernel
theorem dX4_run_15 : decode cX4_run 15 = .ok (.aload_n 0, 1) := by decide +kernel
theorem dX4_run_16 : decode cX4_run 16 = .ok (.invokevirtual 44, 3) := by decide +kernel
theorem dX4_run_19 : decode cX4_run 19 = .ok (.iconst 0, 1) := by decide +kernel
theorem dX4_run_20 : decode cX4_run 20 = .ok (.istore_n 1, 1) := by decide +kernel
theorem dX4_run_21 : decode cX4_run 21 = .ok (.aload_n 0, 1) := by decide +kernel
theorem dX4_run_22 : decode cX4_run 22 = .ok (.getfield 22, 3) := by decide +kernel
theorem dX4_run_25 : decode cX4_run 25 = .ok (.iconst 0, 1) := by decide +kernel
theorem dX4_run_26 : decode cX4_run 26 = .ok (.putfield 96, 3) := by decide +kernel
theorem dX4_run_29 : decode cX4_run 29 = .ok (.aload_n 0, 1) := by decide +kernel
theorem dX4_run_30 : decode cX4_run 30 = .ok (.getfield 22, 3) := by decide +kernel
theorem dX4_run_33 : decode cX4_run 33 = .ok (.getfield 96, 3) := by decide +kernel
theorem dX4_run_36 : decode cX4_run 36 = .ok (.aload_n 0, 1) := by decide +kernel
theorem dX4_run_37 : decode cX4_run 37 = .ok (.getfield 22, 3) := by decide +kernel
theorem dX4_run_40 : decode cX4_run 40 = .ok (.getfield 99, 3) := by decide +kernel
theorem dX4_run_43 : decode cX4_run 43 = .ok (.if_icmp .ge 40, 3) := by decide +kernel
theorem dX4_run_46 : decode cX4_run 46 = .ok (.aload_n 0, 1) := by decide +kernel
theorem dX4_run_47 : decode cX4_run 47 = .ok (.getfield 22, 3) := by decide +kernel
theorem dX4_run_50 : decode cX4_run 50 = .ok (.invokevirtual 102, 3) := by decide +kernel
theorem dX4_run_53 : decode cX4_run 53 = .ok (.pop, 1) := by decide +kernel
theorem dX4_run_54 : decode cX4_run 54 = .ok (.aload_n 0, 1) := by decide +kernel
theorem dX4_run_55 : decode cX4_run 55 = .ok (.invokevirtual 106, 3) := by decide +kernel
theorem dX4_run_58 : decode cX4_run 58 = .ok (.invokestatic 109, 3) := by decide +kernel
theorem dX4_run_61 : decode cX4_run 61 = .ok (.ifCond .ne 6, 3) := by decide +kernel
theorem dX4_run_64 : decode cX4_run 64 = .ok (.iinc 1 1, 3) := by decide +kernel
theorem dX4_run_67 : decode cX4_run 67 = .ok (.aload_n 0, 1) := by decide +kernel
theorem dX4_run_68 : decode cX4_run 68 = .ok (.getfield 22, 3) := by decide +kernel
theorem dX4_run_71 : decode cX4_run 71 = .ok (.dup, 1) := by decide +kernel
theorem dX4_run_72 : decode cX4_run 72 = .ok (.getfield 96, 3) := by decide +kernel
theorem dX4_run_75 : decode cX4_run 75 = .ok (.iconst 1, 1) := by decide +kernel
theorem dX4_run_76 : decode cX4_run 76 = .ok (.iadd, 1) := by decide +kernel
theorem dX4_run_77 : decode cX4_run 77 = .ok (.putfield 96, 3) := by decide +kernel
theorem dX4_run_80 : decode cX4_run 80 = .ok (.goto (-51), 3) := by decide +kernel
theorem dX4_run_83 : decode cX4_run 83 = .ok (.aload_n 0, 1) := by decide +kernel
theorem dX4_run_84 : decode cX4_run 84 = .ok (.getfield 22, 3) := by decide +kernel
theorem dX4_run_87 : decode cX4_run 87 = .ok (.iconst 0, 1) := by decide +kernel
theorem dX4_run_88 : decode cX4_run 88 = .ok (.putfield 99, 3) := by decide +kernel
theorem dX4_run_91 : decode cX4_run 91 = .ok (.aload_n 0, 1) := by decide +kernel
theorem dX4_run_92 : decode cX4_run 92 = .ok (.iload_n 1, 1) := by decide +kernel
theorem dX4_run_93 : decode cX4_run 93 = .ok (.invokevirtual 51, 3) := by decide +kernel
theorem dX4_run_96 : decode cX4_run 96 = .ok (.ireturn, 1) := by decide +kernel
theorem dX4_tanker_0 : decode cX4_tanker 0 = .ok (.aload_n 0, 1) := by decide +kernel
theorem dX4_tanker_1 : decode cX4_tanker 1 = .ok (.getfield 10, 3) := by decide +kernel
theorem dX4_tanker_4 : decode cX4_tanker 4 = .ok (.iload_n 1, 1) := by decide +kernel
theorem dX4_tanker_5 : decode cX4_tanker 5 = .ok (.iload_n 2, 1) := by decide +kernel
theorem dX4_tanker_6 : decode cX4_tanker 6 = .ok (.invokevirtual 113, 3) := by decide +kernel
theorem dX4_tanker_9 : decode cX4_tanker 9 = .ok (.ireturn, 1) := by decide +kernel
theorem dX4_hose_0 : decode cX4_hose 0 = .ok (.aload_n 0, 1) := by decide +kernel
theorem dX4_hose_1 : decode cX4_hose 1 = .ok (.getfield 10, 3) := by decide +kernel
theorem dX4_hose_4 : decode cX4_hose 4 = .ok (.iload_n 1, 1) := by decide +kernel
theorem dX4_hose_5 : decode cX4_hose 5 = .ok (.iload_n 2, 1) := by decide +kernel
theorem dX4_hose_6 : decode cX4_hose 6 = .ok (.invokevirtual 116, 3) := by decide +kernel
theorem dX4_hose_9 : decode cX4_hose 9 = .ok (.ireturn, 1) := by decide +kernel
theorem dX4_grade_0 : decode cX4_grade 0 = .ok (.aload_n 0, 1) := by decide +kernel
theorem dX4_grade_1 : decode cX4_grade 1 = .ok (.getfield 10, 3) := by decide +kernel
theorem dX4_grade_4 : decode cX4_grade 4 = .ok (.iload_n 1, 1) := by decide +kernel
theorem dX4_grade_5 : decode cX4_grade 5 = .ok (.iload_n 2, 1) := by decide +kernel
theorem dX4_grade_6 : decode cX4_grade 6 = .ok (.invokevirtual 119, 3) := by decide +kernel
theorem dX4_grade_9 : decode cX4_grade 9 = .ok (.ireturn, 1) := by decide +kernel
theorem dX4_count_0 : decode cX4_count 0 = .ok (.iload_n 1, 1) := by decide +kernel
theorem dX4_count_1 : decode cX4_count 1 = .ok (.bipush 18, 2) := by decide +kernel
theorem dX4_count_3 : decode cX4_count 3 = .ok (.if_icmp .ne 11, 3) := by decide +kernel
theorem dX4_count_6 : decode cX4_count 6 = .ok (.aload_n 0, 1) := by decide +kernel
theorem dX4_count_7 : decode cX4_count 7 = .ok (.getfield 22, 3) := by decide +kernel
theorem dX4_count_10 : decode cX4_count 10 = .ok (.getfield 99, 3) := by decide +kernel
theorem dX4_count_13 : decode cX4_count 13 = .ok (.ireturn, 1) := by decide +kernel
theorem dX4_count_14 : decode cX4_count 14 = .ok (.iload_n 1, 1) := by decide +kernel
theorem dX4_count_15 : decode cX4_count 15 = .ok (.bipush 19, 2) := by decide +kernel
theorem dX4_count_17 : decode cX4_count 17 = .ok (.if_icmp .ne 8, 3) := by decide +kernel
theorem dX4_count_20 : decode cX4_count 20 = .ok (.aload_n 0, 1) := by decide +kernel
theorem dX4_count_21 : decode cX4_count 21 = .ok (.getfield 30, 3) := by decide +kernel
theorem dX4_count_24 : decode cX4_count 24 = .ok (.ireturn, 1) := by decide +kernel
theorem dX4_count_25 : decode cX4_count 25 = .ok (.aload_n 0, 1) := by decide +kernel
theorem dX4_count_26 : decode cX4_count 26 = .ok (.getfield 10, 3) := by decide +kernel
theorem dX4_count_29 : decode cX4_count 29 = .ok (.iload_n 1, 1) := by decide +kernel
theorem dX4_count_30 : decode cX4_count 30 = .ok (.invokevirtual 122, 3) := by decide +kernel
theorem dX4_count_33 : decode cX4_count 33 = .ok (.ireturn, 1) := by decide +kernel
theorem dX4_tide_0 : decode cX4_tide 0 = .ok (.iload_n 1, 1) := by decide +kernel
theorem dX4_tide_1 : decode cX4_tide 1 = .ok (.ifCond .ge 8, 3) := by decide +kernel
theorem dX4_tide_4 : decode cX4_tide 4 = .ok (.ldc 125, 2) := by decide +kernel
theorem dX4_tide_6 : decode cX4_tide 6 = .ok (.goto 11, 3) := by decide +kernel
theorem dX4_tide_9 : decode cX4_tide 9 = .ok (.aload_n 0, 1) := by decide +kernel
theorem dX4_tide_10 : decode cX4_tide 10 = .ok (.getfield 10, 3) := by decide +kernel
theorem dX4_tide_13 : decode cX4_tide 13 = .ok (.iload_n 1, 1) := by decide +kernel
theorem dX4_tide_14 : decode cX4_tide 14 = .ok (.invokevirtual 126, 3) := by decide +kernel
theorem dX4_tide_17 : decode cX4_tide 17 = .ok (.ireturn, 1) := by decide +kernel
theorem dX4_untilFloats_0 : decode cX4_untilFloats 0 = .ok (.aload_n 0, 1) := by decide +kernel
theorem dX4_untilFloats_1 : decode cX4_untilFloats 1 = .ok (.getfield 10, 3) := by decide +kernel
theorem dX4_untilFloats_4 : decode cX4_untilFloats 4 = .ok (.getfield 129, 3) := by decide +kernel
theorem dX4_untilFloats_7 : decode cX4_untilFloats 7 = .ok (.ifCond .ne 6, 3) := by decide +kernel
theorem dX4_untilFloats_10 : decode cX4_untilFloats 10 = .ok (.ldc 132, 2) := by decide +kernel
theorem dX4_untilFloats_12 : decode cX4_untilFloats 12 = .ok (.ireturn, 1) := by decide +kernel
theorem dX4_untilFloats_13 : decode cX4_untilFloats 13 = .ok (.aload_n 0, 1) := by decide +kernel
theorem dX4_untilFloats_14 : decode cX4_untilFloats 14 = .ok (.getfield 10, 3) := by decide +kernel
theorem dX4_untilFloats_17 : decode cX4_untilFloats 17 = .ok (.getfield 133, 3) := by decide +kernel
theorem dX4_untilFloats_20 : decode cX4_untilFloats 20 = .ok (.iconst 1, 1) := by decide +kernel
theorem dX4_untilFloats_21 : decode cX4_untilFloats 21 = .ok (.aaload, 1) := by decide +kernel
theorem dX4_untilFloats_22 : decode cX4_untilFloats 22 = .ok (.invokevirtual 137, 3) := by decide +kernel
theorem dX4_untilFloats_25 : decode cX4_untilFloats 25 = .ok (.istore_n 1, 1) := by decide +kernel
theorem dX4_untilFloats_26 : decode cX4_untilFloats 26 = .ok (.iconst 0, 1) := by decide +kernel
theorem dX4_untilFloats_27 : decode cX4_untilFloats 27 = .ok (.istore_n 2, 1) := by decide +kernel
theorem dX4_untilFloats_28 : decode cX4_untilFloats 28 = .ok (.iload_n 2, 1) := by decide +kernel
theorem dX4_untilFloats_29 : decode cX4_untilFloats 29 = .ok (.bipush 12, 2) := by decide +kernel
theorem dX4_untilFloats_31 : decode cX4_untilFloats 31 = .ok (.if_icmp .gt 31, 3) := by decide +kernel
theorem dX4_untilFloats_34 : decode cX4_untilFloats 34 = .ok (.aload_n 0, 1) := by decide +kernel
theorem dX4_untilFloats_35 : decode cX4_untilFloats 35 = .ok (.getfield 10, 3) := by decide +kernel
theorem dX4_untilFloats_38 : decode cX4_untilFloats 38 = .ok (.iload_n 1, 1) := by decide +kernel
theorem dX4_untilFloats_39 : decode cX4_untilFloats 39 = .ok (.aload_n 0, 1) := by decide +kernel
theorem dX4_untilFloats_40 : decode cX4_untilFloats 40 = .ok (.getfield 10, 3) := by decide +kernel
theorem dX4_untilFloats_43 : decode cX4_untilFloats 43 = .ok (.getfield 142, 3) := by decide +kernel
theorem dX4_untilFloats_46 : decode cX4_untilFloats 46 = .ok (.iload_n 2, 1) := by decide +kernel
theorem dX4_untilFloats_47 : decode cX4_untilFloats 47 = .ok (.iadd, 1) := by decide +kernel
theorem dX4_untilFloats_48 : decode cX4_untilFloats 48 = .ok (.invokevirtual 145, 3) := by decide +kernel
theorem dX4_untilFloats_51 : decode cX4_untilFloats 51 = .ok (.ifCond .eq 5, 3) := by decide +kernel
theorem dX4_untilFloats_54 : decode cX4_untilFloats 54 = .ok (.iload_n 2, 1) := by decide +kernel
theorem dX4_untilFloats_55 : decode cX4_untilFloats 55 = .ok (.ireturn, 1) := by decide +kernel
theorem dX4_untilFloats_56 : decode cX4_untilFloats 56 = .ok (.iinc 2 1, 3) := by decide +kernel
theorem dX4_untilFloats_59 : decode cX4_untilFloats 59 = .ok (.goto (-31), 3) := by decide +kernel
theorem dX4_untilFloats_62 : decode cX4_untilFloats 62 = .ok (.ldc 94, 2) := by decide +kernel
theorem dX4_untilFloats_64 : decode cX4_untilFloats 64 = .ok (.ireturn, 1) := by decide +kernel
theorem dX4_safeFor_0 : decode cX4_safeFor 0 = .ok (.iload_n 1, 1) := by decide +kernel
theorem dX4_safeFor_1 : decode cX4_safeFor 1 = .ok (.invokestatic 149, 3) := by decide +kernel
theorem dX4_safeFor_4 : decode cX4_safeFor 4 = .ok (.ifCond .ne 6, 3) := by decide +kernel
theorem dX4_safeFor_7 : decode cX4_safeFor 7 = .ok (.ldc 152, 2) := by decide +kernel
theorem dX4_safeFor_9 : decode cX4_safeFor 9 = .ok (.ireturn, 1) := by decide +kernel
theorem dX4_safeFor_10 : decode cX4_safeFor 10 = .ok (.aload_n 0, 1) := by decide +kernel
theorem dX4_safeFor_11 : decode cX4_safeFor 11 = .ok (.getfield 10, 3) := by decide +kernel
theorem dX4_safeFor_14 : decode cX4_safeFor 14 = .ok (.getfield 153, 3) := by decide +kernel
theorem dX4_safeFor_17 : decode cX4_safeFor 17 = .ok (.iload_n 1, 1) := by decide +kernel
theorem dX4_safeFor_18 : decode cX4_safeFor 18 = .ok (.aaload, 1) := by decide +kernel
theorem dX4_safeFor_19 : decode cX4_safeFor 19 = .ok (.invokevirtual 157, 3) := by decide +kernel
theorem dX4_safeFor_22 : decode cX4_safeFor 22 = .ok (.ifCond .ne 6, 3) := by decide +kernel
theorem dX4_safeFor_25 : decode cX4_safeFor 25 = .ok (.ldc 132, 2) := by decide +kernel
theorem dX4_safeFor_27 : decode cX4_safeFor 27 = .ok (.ireturn, 1) := by decide +kernel
theorem dX4_safeFor_28 : decode cX4_safeFor 28 = .ok (.aload_n 0, 1) := by decide +kernel
theorem dX4_safeFor_29 : decode cX4_safeFor 29 = .ok (.getfield 16, 3) := by decide +kernel
theorem dX4_safeFor_32 : decode cX4_safeFor 32 = .ok (.aload_n 0, 1) := by decide +kernel
theorem dX4_safeFor_33 : decode cX4_safeFor 33 = .ok (.getfield 10, 3) := by decide +kernel
theorem dX4_safeFor_36 : decode cX4_safeFor 36 = .ok (.invokevirtual 162, 3) := by decide +kernel
theorem dX4_safeFor_39 : decode cX4_safeFor 39 = .ok (.iconst 0, 1) := by decide +kernel
theorem dX4_safeFor_40 : decode cX4_safeFor 40 = .ok (.istore_n 2, 1) := by decide +kernel
theorem dX4_safeFor_41 : decode cX4_safeFor 41 = .ok (.iload_n 2, 1) := by decide +kernel
theorem dX4_safeFor_42 : decode cX4_safeFor 42 = .ok (.sipush 200, 3) := by decide +kernel
theorem dX4_safeFor_45 : decode cX4_safeFor 45 = .ok (.if_icmp .ge 34, 3) := by decide +kernel
theorem dX4_safeFor_48 : decode cX4_safeFor 48 = .ok (.aload_n 0, 1) := by decide +kernel
theorem dX4_safeFor_49 : decode cX4_safeFor 49 = .ok (.getfield 16, 3) := by decide +kernel
theorem dX4_safeFor_52 : decode cX4_safeFor 52 = .ok (.invokevirtual 166, 3) := by decide +kernel
theorem dX4_safeFor_55 : decode cX4_safeFor 55 = .ok (.pop, 1) := by decide +kernel
theorem dX4_safeFor_56 : decode cX4_safeFor 56 = .ok (.aload_n 0, 1) := by decide +kernel
theorem dX4_safeFor_57 : decode cX4_safeFor 57 = .ok (.getfield 16, 3) := by decide +kernel
theorem dX4_safeFor_60 : decode cX4_safeFor 60 = .ok (.getfield 153, 3) := by decide +kernel
theorem dX4_safeFor_63 : decode cX4_safeFor 63 = .ok (.iload_n 1, 1) := by decide +kernel
theorem dX4_safeFor_64 : decode cX4_safeFor 64 = .ok (.aaload, 1) := by decide +kernel
theorem dX4_safeFor_65 : decode cX4_safeFor 65 = .ok (.getfield 169, 3) := by decide +kernel
theorem dX4_safeFor_68 : decode cX4_safeFor 68 = .ok (.ifCond .eq 5, 3) := by decide +kernel
theorem dX4_safeFor_71 : decode cX4_safeFor 71 = .ok (.iload_n 2, 1) := by decide +kernel
theorem dX4_safeFor_72 : decode cX4_safeFor 72 = .ok (.ireturn, 1) := by decide +kernel
theorem dX4_safeFor_73 : decode cX4_safeFor 73 = .ok (.iinc 2 1, 3) := by decide +kernel
theorem dX4_safeFor_76 : decode cX4_safeFor 76 = .ok (.goto (-35), 3) := by decide +kernel
theorem dX4_safeFor_79 : decode cX4_safeFor 79 = .ok (.ldc 94, 2) := by decide +kernel
theorem dX4_safeFor_81 : decode cX4_safeFor 81 = .ok (.ireturn, 1) := by decide +kernel
theorem dX4_untilEmpty_0 : decode cX4_untilEmpty 0 = .ok (.aload_n 0, 1) := by decide +kernel
theorem dX4_untilEmpty_1 : decode cX4_untilEmpty 1 = .ok (.getfield 10, 3) := by decide +kernel
theorem dX4_untilEmpty_4 : decode cX4_untilEmpty 4 = .ok (.getfield 173, 3) := by decide +kernel
theorem dX4_untilEmpty_7 : decode cX4_untilEmpty 7 = .ok (.ifCond .ne 6, 3) := by decide +kernel
theorem dX4_untilEmpty_10 : decode cX4_untilEmpty 10 = .ok (.ldc 132, 2) := by decide +kernel
theorem dX4_untilEmpty_12 : decode cX4_untilEmpty 12 = .ok (.ireturn, 1) := by decide +kernel
theorem dX4_untilEmpty_13 : decode cX4_untilEmpty 13 = .ok (.aload_n 0, 1) := by decide +kernel
theorem dX4_untilEmpty_14 : decode cX4_untilEmpty 14 = .ok (.getfield 16, 3) := by decide +kernel
theorem dX4_untilEmpty_17 : decode cX4_untilEmpty 17 = .ok (.aload_n 0, 1) := by decide +kernel
theorem dX4_untilEmpty_18 : decode cX4_untilEmpty 18 = .ok (.getfield 10, 3) := by decide +kernel
theorem dX4_untilEmpty_21 : decode cX4_untilEmpty 21 = .ok (.invokevirtual 162, 3) := by decide +kernel
theorem dX4_untilEmpty_24 : decode cX4_untilEmpty 24 = .ok (.iconst 0, 1) := by decide +kernel
theorem dX4_untilEmpty_25 : decode cX4_untilEmpty 25 = .ok (.istore_n 1, 1) := by decide +kernel
theorem dX4_untilEmpty_26 : decode cX4_untilEmpty 26 = .ok (.iload_n 1, 1) := by decide +kernel
theorem dX4_untilEmpty_27 : decode cX4_untilEmpty 27 = .ok (.sipush 200, 3) := by decide +kernel
theorem dX4_untilEmpty_30 : decode cX4_untilEmpty 30 = .ok (.if_icmp .ge 34, 3) := by decide +kernel
theorem dX4_untilEmpty_33 : decode cX4_untilEmpty 33 = .ok (.aload_n 0, 1) := by decide +kernel
theorem dX4_untilEmpty_34 : decode cX4_untilEmpty 34 = .ok (.getfield 16, 3) := by decide +kernel
theorem dX4_untilEmpty_37 : decode cX4_untilEmpty 37 = .ok (.getfield 133, 3) := by decide +kernel
theorem dX4_untilEmpty_40 : decode cX4_untilEmpty 40 = .ok (.iconst 0, 1) := by decide +kernel
theorem dX4_untilEmpty_41 : decode cX4_untilEmpty 41 = .ok (.aaload, 1) := by decide +kernel
theorem dX4_untilEmpty_42 : decode cX4_untilEmpty 42 = .ok (.invokevirtual 176, 3) := by decide +kernel
theorem dX4_untilEmpty_45 : decode cX4_untilEmpty 45 = .ok (.ifCond .ne 5, 3) := by decide +kernel
theorem dX4_untilEmpty_48 : decode cX4_untilEmpty 48 = .ok (.iload_n 1, 1) := by decide +kernel
theorem dX4_untilEmpty_49 : decode cX4_untilEmpty 49 = .ok (.ireturn, 1) := by decide +kernel
theorem dX4_untilEmpty_50 : decode cX4_untilEmpty 50 = .ok (.aload_n 0, 1) := by decide +kernel
theorem dX4_untilEmpty_51 : decode cX4_untilEmpty 51 = .ok (.getfield 16, 3) := by decide +kernel
theorem dX4_untilEmpty_54 : decode cX4_untilEmpty 54 = .ok (.invokevirtual 166, 3) := by decide +kernel
theorem dX4_untilEmpty_57 : decode cX4_untilEmpty 57 = .ok (.pop, 1) := by decide +kernel
theorem dX4_untilEmpty_58 : decode cX4_untilEmpty 58 = .ok (.iinc 1 1, 3) := by decide +kernel
theorem dX4_untilEmpty_61 : decode cX4_untilEmpty 61 = .ok (.goto (-35), 3) := by decide +kernel
theorem dX4_untilEmpty_64 : decode cX4_untilEmpty 64 = .ok (.aload_n 0, 1) := by decide +kernel
theorem dX4_untilEmpty_65 : decode cX4_untilEmpty 65 = .ok (.getfield 16, 3) := by decide +kernel
theorem dX4_untilEmpty_68 : decode cX4_untilEmpty 68 = .ok (.getfield 133, 3) := by decide +kernel
theorem dX4_untilEmpty_71 : decode cX4_untilEmpty 71 = .ok (.iconst 0, 1) := by decide +kernel
theorem dX4_untilEmpty_72 : decode cX4_untilEmpty 72 = .ok (.aaload, 1) := by decide +kernel
theorem dX4_untilEmpty_73 : decode cX4_untilEmpty 73 = .ok (.invokevirtual 176, 3) := by decide +kernel
theorem dX4_untilEmpty_76 : decode cX4_untilEmpty 76 = .ok (.ifCond .ne 9, 3) := by decide +kernel
theorem dX4_untilEmpty_79 : decode cX4_untilEmpty 79 = .ok (.sipush 200, 3) := by decide +kernel
theorem dX4_untilEmpty_82 : decode cX4_untilEmpty 82 = .ok (.goto 5, 3) := by decide +kernel
theorem dX4_untilEmpty_85 : decode cX4_untilEmpty 85 = .ok (.ldc 94, 2) := by decide +kernel
theorem dX4_untilEmpty_87 : decode cX4_untilEmpty 87 = .ok (.ireturn, 1) := by decide +kernel
theorem dX4_ifPassed_0 : decode cX4_ifPassed 0 = .ok (.iload_n 1, 1) := by decide +kernel
theorem dX4_ifPassed_1 : decode cX4_ifPassed 1 = .ok (.iconst 1, 1) := by decide +kernel
theorem dX4_ifPassed_2 : decode cX4_ifPassed 2 = .ok (.if_icmp .lt 19, 3) := by decide +kernel
theorem dX4_ifPassed_5 : decode cX4_ifPassed 5 = .ok (.iload_n 1, 1) := by decide +kernel
theorem dX4_ifPassed_6 : decode cX4_ifPassed 6 = .ok (.sipush 200, 3) := by decide +kernel
theorem dX4_ifPassed_9 : decode cX4_ifPassed 9 = .ok (.if_icmp .gt 12, 3) := by decide +kernel
theorem dX4_ifPassed_12 : decode cX4_ifPassed 12 = .ok (.iload_n 2, 1) := by decide +kernel
theorem dX4_ifPassed_13 : decode cX4_ifPassed 13 = .ok (.ifCond .lt 8, 3) := by decide +kernel
theorem dX4_ifPassed_16 : decode cX4_ifPassed 16 = .ok (.iload_n 2, 1) := by decide +kernel
theorem dX4_ifPassed_17 : decode cX4_ifPassed 17 = .ok (.iconst 3, 1) := by decide +kernel
theorem dX4_ifPassed_18 : decode cX4_ifPassed 18 = .ok (.if_icmp .le 6, 3) := by decide +kernel
theorem dX4_ifPassed_21 : decode cX4_ifPassed 21 = .ok (.ldc 125, 2) := by decide +kernel
theorem dX4_ifPassed_23 : decode cX4_ifPassed 23 = .ok (.ireturn, 1) := by decide +kernel
theorem dX4_ifPassed_24 : decode cX4_ifPassed 24 = .ok (.aload_n 0, 1) := by decide +kernel
theorem dX4_ifPassed_25 : decode cX4_ifPassed 25 = .ok (.getfield 16, 3) := by decide +kernel
theorem dX4_ifPassed_28 : decode cX4_ifPassed 28 = .ok (.aload_n 0, 1) := by decide +kernel
theorem dX4_ifPassed_29 : decode cX4_ifPassed 29 = .ok (.getfield 10, 3) := by decide +kernel
theorem dX4_ifPassed_32 : decode cX4_ifPassed 32 = .ok (.invokevirtual 162, 3) := by decide +kernel
theorem dX4_ifPassed_35 : decode cX4_ifPassed 35 = .ok (.iconst 0, 1) := by decide +kernel
theorem dX4_ifPassed_36 : decode cX4_ifPassed 36 = .ok (.istore_n 3, 1) := by decide +kernel
theorem dX4_ifPassed_37 : decode cX4_ifPassed 37 = .ok (.iconst 0, 1) := by decide +kernel
theorem dX4_ifPassed_38 : decode cX4_ifPassed 38 = .ok (.istore 4, 2) := by decide +kernel
theorem dX4_ifPassed_40 : decode cX4_ifPassed 40 = .ok (.iload 4, 2) := by decide +kernel
theorem dX4_ifPassed_42 : decode cX4_ifPassed 42 = .ok (.iload_n 1, 1) := by decide +kernel
theorem dX4_ifPassed_43 : decode cX4_ifPassed 43 = .ok (.if_icmp .ge 19, 3) := by decide +kernel
theorem dX4_ifPassed_46 : decode cX4_ifPassed 46 = .ok (.iload_n 3, 1) := by decide +kernel
theorem dX4_ifPassed_47 : decode cX4_ifPassed 47 = .ok (.aload_n 0, 1) := by decide +kernel
theorem dX4_ifPassed_48 : decode cX4_ifPassed 48 = .ok (.getfield 16, 3) := by decide +kernel
theorem dX4_ifPassed_51 : decode cX4_ifPassed 51 = .ok (.invokevirtual 166, 3) := by decide +kernel
theorem dX4_ifPassed_54 : decode cX4_ifPassed 54 = .ok (.iadd, 1) := by decide +kernel
theorem dX4_ifPassed_55 : decode cX4_ifPassed 55 = .ok (.istore_n 3, 1) := by decide +kernel
theorem dX4_ifPassed_56 : decode cX4_ifPassed 56 = .ok (.iinc 4 1, 3) := by decide +kernel
theorem dX4_ifPassed_59 : decode cX4_ifPassed 59 = .ok (.goto (-19), 3) := by decide +kernel
theorem dX4_ifPassed_62 : decode cX4_ifPassed 62 = .ok (.iload_n 2, 1) := by decide +kernel
theorem dX4_ifPassed_63 : decode cX4_ifPassed 63 = .ok (.tableswitch 59 0 2 #[25, 27, 43], 25) := by decide +kernel
theorem dX4_ifPassed_88 : decode cX4_ifPassed 88 = .ok (.iload_n 3, 1) := by decide +kernel
theorem dX4_ifPassed_89 : decode cX4_ifPassed 89 = .ok (.ireturn, 1) := by decide +kernel
theorem dX4_ifPassed_90 : decode cX4_ifPassed 90 = .ok (.aload_n 0, 1) := by decide +kernel
theorem dX4_ifPassed_91 : decode cX4_ifPassed 91 = .ok (.getfield 16, 3) := by decide +kernel
theorem dX4_ifPassed_94 : decode cX4_ifPassed 94 = .ok (.getfield 179, 3) := by decide +kernel
theorem dX4_ifPassed_97 : decode cX4_ifPassed 97 = .ok (.aload_n 0, 1) := by decide +kernel
theorem dX4_ifPassed_98 : decode cX4_ifPassed 98 = .ok (.getfield 10, 3) := by decide +kernel
theorem dX4_ifPassed_101 : decode cX4_ifPassed 101 = .ok (.getfield 179, 3) := by decide +kernel
theorem dX4_ifPassed_104 : decode cX4_ifPassed 104 = .ok (.isub, 1) := by decide +kernel
theorem dX4_ifPassed_105 : decode cX4_ifPassed 105 = .ok (.ireturn, 1) := by decide +kernel
theorem dX4_ifPassed_106 : decode cX4_ifPassed 106 = .ok (.aload_n 0, 1) := by decide +kernel
theorem dX4_ifPassed_107 : decode cX4_ifPassed 107 = .ok (.getfield 16, 3) := by decide +kernel
theorem dX4_ifPassed_110 : decode cX4_ifPassed 110 = .ok (.invokevirtual 182, 3) := by decide +kernel
theorem dX4_ifPassed_113 : decode cX4_ifPassed 113 = .ok (.aload_n 0, 1) := by decide +kernel
theorem dX4_ifPassed_114 : decode cX4_ifPassed 114 = .ok (.getfield 10, 3) := by decide +kernel
theorem dX4_ifPassed_117 : decode cX4_ifPassed 117 = .ok (.invokevirtual 182, 3) := by decide +kernel
theorem dX4_ifPassed_120 : decode cX4_ifPassed 120 = .ok (.isub, 1) := by decide +kernel
theorem dX4_ifPassed_121 : decode cX4_ifPassed 121 = .ok (.ireturn, 1) := by decide +kernel
theorem dX4_ifPassed_122 : decode cX4_ifPassed 122 = .ok (.aload_n 0, 1) := by decide +kernel
theorem dX4_ifPassed_123 : decode cX4_ifPassed 123 = .ok (.getfield 16, 3) := by decide +kernel
theorem dX4_ifPassed_126 : decode cX4_ifPassed 126 = .ok (.getfield 185, 3) := by decide +kernel
theorem dX4_ifPassed_129 : decode cX4_ifPassed 129 = .ok (.aload_n 0, 1) := by decide +kernel
theorem dX4_ifPassed_130 : decode cX4_ifPassed 130 = .ok (.getfield 10, 3) := by decide +kernel
theorem dX4_ifPassed_133 : decode cX4_ifPassed 133 = .ok (.getfield 185, 3) := by decide +kernel
theorem dX4_ifPassed_136 : decode cX4_ifPassed 136 = .ok (.isub, 1) := by decide +kernel
theorem dX4_ifPassed_137 : decode cX4_ifPassed 137 = .ok (.ireturn, 1) := by decide +kernel
theorem dX4_leastReach_0 : decode cX4_leastReach 0 = .ok (.iload_n 1, 1) := by decide +kernel
theorem dX4_leastReach_1 : decode cX4_leastReach 1 = .ok (.invokestatic 149, 3) := by decide +kernel
theorem dX4_leastReach_4 : decode cX4_leastReach 4 = .ok (.ifCond .ne 6, 3) := by decide +kernel
theorem dX4_leastReach_7 : decode cX4_leastReach 7 = .ok (.ldc 152, 2) := by decide +kernel
theorem dX4_leastReach_9 : decode cX4_leastReach 9 = .ok (.ireturn, 1) := by decide +kernel
theorem dX4_leastReach_10 : decode cX4_leastReach 10 = .ok (.aload_n 0, 1) := by decide +kernel
theorem dX4_leastReach_11 : decode cX4_leastReach 11 = .ok (.getfield 10, 3) := by decide +kernel
theorem dX4_leastReach_14 : decode cX4_leastReach 14 = .ok (.getfield 153, 3) := by decide +kernel
theorem dX4_leastReach_17 : decode cX4_leastReach 17 = .ok (.iload_n 1, 1) := by decide +kernel
theorem dX4_leastReach_18 : decode cX4_leastReach 18 = .ok (.aaload, 1) := by decide +kernel
theorem dX4_leastReach_19 : decode cX4_leastReach 19 = .ok (.invokevirtual 157, 3) := by decide +kernel
theorem dX4_leastReach_22 : decode cX4_leastReach 22 = .ok (.ifCond .ne 6, 3) := by decide +kernel
theorem dX4_leastReach_25 : decode cX4_leastReach 25 = .ok (.ldc 132, 2) := by decide +kernel
theorem dX4_leastReach_27 : decode cX4_leastReach 27 = .ok (.ireturn, 1) := by decide +kernel
theorem dX4_leastReach_28 : decode cX4_leastReach 28 = .ok (.aload_n 0, 1) := by decide +kernel
theorem dX4_leastReach_29 : decode cX4_leastReach 29 = .ok (.getfield 16, 3) := by decide +kernel
theorem dX4_leastReach_32 : decode cX4_leastReach 32 = .ok (.aload_n 0, 1) := by decide +kernel
theorem dX4_leastReach_33 : decode cX4_leastReach 33 = .ok (.getfield 10, 3) := by decide +kernel
theorem dX4_leastReach_36 : decode cX4_leastReach 36 = .ok (.invokevirtual 162, 3) := by decide +kernel
theorem dX4_leastReach_39 : decode cX4_leastReach 39 = .ok (.aload_n 0, 1) := by decide +kernel
theorem dX4_leastReach_40 : decode cX4_leastReach 40 = .ok (.getfield 16, 3) := by decide +kernel
theorem dX4_leastReach_43 : decode cX4_leastReach 43 = .ok (.getfield 153, 3) := by decide +kernel
theorem dX4_leastReach_46 : decode cX4_leastReach 46 = .ok (.iload_n 1, 1) := by decide +kernel
theorem dX4_leastReach_47 : decode cX4_leastReach 47 = .ok (.aaload, 1) := by decide +kernel
theorem dX4_leastReach_48 : decode cX4_leastReach 48 = .ok (.astore_n 2, 1) := by decide +kernel
theorem dX4_leastReach_49 : decode cX4_leastReach 49 = .ok (.aload_n 2, 1) := by decide +kernel
theorem dX4_leastReach_50 : decode cX4_leastReach 50 = .ok (.iconst 1, 1) := by decide +kernel
theorem dX4_leastReach_51 : decode cX4_leastReach 51 = .ok (.putfield 188, 3) := by decide +kernel
theorem dX4_leastReach_54 : decode cX4_leastReach 54 = .ok (.aload_n 2, 1) := by decide +kernel
theorem dX4_leastReach_55 : decode cX4_leastReach 55 = .ok (.bipush 20, 2) := by decide +kernel
theorem dX4_leastReach_57 : decode cX4_leastReach 57 = .ok (.putfield 191, 3) := by decide +kernel
theorem dX4_leastReach_60 : decode cX4_leastReach 60 = .ok (.iconst 0, 1) := by decide +kernel
theorem dX4_leastReach_61 : decode cX4_leastReach 61 = .ok (.istore_n 3, 1) := by decide +kernel
theorem dX4_leastReach_62 : decode cX4_leastReach 62 = .ok (.iload_n 3, 1) := by decide +kernel
theorem dX4_leastReach_63 : decode cX4_leastReach 63 = .ok (.sipush 200, 3) := by decide +kernel
theorem dX4_leastReach_66 : decode cX4_leastReach 66 = .ok (.if_icmp .ge 17, 3) := by decide +kernel
theorem dX4_leastReach_69 : decode cX4_leastReach 69 = .ok (.aload_n 0, 1) := by decide +kernel
theorem dX4_leastReach_70 : decode cX4_leastReach 70 = .ok (.getfield 16, 3) := by decide +kernel
theorem dX4_leastReach_73 : decode cX4_leastReach 73 = .ok (.invokevirtual 166, 3) := by decide +kernel
theorem dX4_leastReach_76 : decode cX4_leastReach 76 = .ok (.pop, 1) := by decide +kernel
theorem dX4_leastReach_77 : decode cX4_leastReach 77 = .ok (.iinc 3 1, 3) := by decide +kernel
theorem dX4_leastReach_80 : decode cX4_leastReach 80 = .ok (.goto (-18), 3) := by decide +kernel
theorem dX4_leastReach_83 : decode cX4_leastReach 83 = .ok (.aload_n 2, 1) := by decide +kernel
theorem dX4_leastReach_84 : decode cX4_leastReach 84 = .ok (.getfield 191, 3) := by decide +kernel
theorem dX4_leastReach_87 : decode cX4_leastReach 87 = .ok (.bipush 120, 2) := by decide +kernel
theorem dX4_leastReach_89 : decode cX4_leastReach 89 = .ok (.if_icmp .le 8, 3) := by decide +kernel
theorem dX4_leastReach_92 : decode cX4_leastReach 92 = .ok (.ldc 94, 2) := by decide +kernel
theorem dX4_leastReach_94 : decode cX4_leastReach 94 = .ok (.goto 7, 3) := by decide +kernel
theorem dX4_leastReach_97 : decode cX4_leastReach 97 = .ok (.aload_n 2, 1) := by decide +kernel
theorem dX4_leastReach_98 : decode cX4_leastReach 98 = .ok (.getfield 191, 3) := by decide +kernel
theorem dX4_leastReach_101 : decode cX4_leastReach 101 = .ok (.ireturn, 1) := by decide +kernel
theorem dX4_put_0 : decode cX4_put 0 = .ok (.aload_n 0, 1) := by decide +kernel
theorem dX4_put_1 : decode cX4_put 1 = .ok (.getfield 22, 3) := by decide +kernel
theorem dX4_put_4 : decode cX4_put 4 = .ok (.lload_n 1, 1) := by decide +kernel
theorem dX4_put_5 : decode cX4_put 5 = .ok (.invokevirtual 194, 3) := by decide +kernel
theorem dX4_put_8 : decode cX4_put 8 = .ok (.ireturn, 1) := by decide +kernel
theorem dX4_wipe_0 : decode cX4_wipe 0 = .ok (.aload_n 0, 1) := by decide +kernel
theorem dX4_wipe_1 : decode cX4_wipe 1 = .ok (.getfield 22, 3) := by decide +kernel
theorem dX4_wipe_4 : decode cX4_wipe 4 = .ok (.getfield 99, 3) := by decide +kernel
theorem dX4_wipe_7 : decode cX4_wipe 7 = .ok (.istore_n 1, 1) := by decide +kernel
theorem dX4_wipe_8 : decode cX4_wipe 8 = .ok (.aload_n 0, 1) := by decide +kernel
theorem dX4_wipe_9 : decode cX4_wipe 9 = .ok (.getfield 22, 3) := by decide +kernel
theorem dX4_wipe_12 : decode cX4_wipe 12 = .ok (.iconst 0, 1) := by decide +kernel
theorem dX4_wipe_13 : decode cX4_wipe 13 = .ok (.putfield 99, 3) := by decide +kernel
theorem dX4_wipe_16 : decode cX4_wipe 16 = .ok (.iload_n 1, 1) := by decide +kernel
theorem dX4_wipe_17 : decode cX4_wipe 17 = .ok (.ireturn, 1) := by decide +kernel
theorem dX4_fault_0 : decode cX4_fault 0 = .ok (.aload_n 0, 1) := by decide +kernel
theorem dX4_fault_1 : decode cX4_fault 1 = .ok (.getfield 22, 3) := by decide +kernel
theorem dX4_fault_4 : decode cX4_fault 4 = .ok (.invokevirtual 91, 3) := by decide +kernel
theorem dX4_fault_7 : decode cX4_fault 7 = .ok (.ireturn, 1) := by decide +kernel
theorem dX4_undo_0 : decode cX4_undo 0 = .ok (.aload_n 0, 1) := by decide +kernel
theorem dX4_undo_1 : decode cX4_undo 1 = .ok (.getfield 30, 3) := by decide +kernel
theorem dX4_undo_4 : decode cX4_undo 4 = .ok (.ifCond .le 12, 3) := by decide +kernel
theorem dX4_undo_7 : decode cX4_undo 7 = .ok (.aload_n 0, 1) := by decide +kernel
theorem dX4_undo_8 : decode cX4_undo 8 = .ok (.getfield 30, 3) := by decide +kernel
theorem dX4_undo_11 : decode cX4_undo 11 = .ok (.bipush 6, 2) := by decide +kernel
theorem dX4_undo_13 : decode cX4_undo 13 = .ok (.if_icmp .le 6, 3) := by decide +kernel
theorem dX4_undo_16 : decode cX4_undo 16 = .ok (.ldc 132, 2) := by decide +kernel
theorem dX4_undo_18 : decode cX4_undo 18 = .ok (.ireturn, 1) := by decide +kernel
theorem dX4_undo_19 : decode cX4_undo 19 = .ok (.aload_n 0, 1) := by decide +kernel
theorem dX4_undo_20 : decode cX4_undo 20 = .ok (.dup, 1) := by decide +kernel
theorem dX4_undo_21 : decode cX4_undo 21 = .ok (.getfield 30, 3) := by decide +kernel
theorem dX4_undo_24 : decode cX4_undo 24 = .ok (.iconst 1, 1) := by decide +kernel
theorem dX4_undo_25 : decode cX4_undo 25 = .ok (.isub, 1) := by decide +kernel
theorem dX4_undo_26 : decode cX4_undo 26 = .ok (.putfield 30, 3) := by decide +kernel
theorem dX4_undo_29 : decode cX4_undo 29 = .ok (.aload_n 0, 1) := by decide +kernel
theorem dX4_undo_30 : decode cX4_undo 30 = .ok (.getfield 10, 3) := by decide +kernel
theorem dX4_undo_33 : decode cX4_undo 33 = .ok (.aload_n 0, 1) := by decide +kernel
theorem dX4_undo_34 : decode cX4_undo 34 = .ok (.getfield 26, 3) := by decide +kernel
theorem dX4_undo_37 : decode cX4_undo 37 = .ok (.aload_n 0, 1) := by decide +kernel
theorem dX4_undo_38 : decode cX4_undo 38 = .ok (.getfield 30, 3) := by decide +kernel
theorem dX4_undo_41 : decode cX4_undo 41 = .ok (.aaload, 1) := by decide +kernel
theorem dX4_undo_42 : decode cX4_undo 42 = .ok (.invokevirtual 162, 3) := by decide +kernel
theorem dX4_undo_45 : decode cX4_undo 45 = .ok (.aload_n 0, 1) := by decide +kernel
theorem dX4_undo_46 : decode cX4_undo 46 = .ok (.getfield 30, 3) := by decide +kernel
theorem dX4_undo_49 : decode cX4_undo 49 = .ok (.ireturn, 1) := by decide +kernel
theorem dX4_save_0 : decode cX4_save 0 = .ok (.iload_n 1, 1) := by decide +kernel
theorem dX4_save_1 : decode cX4_save 1 = .ok (.invokestatic 198, 3) := by decide +kernel
theorem dX4_save_4 : decode cX4_save 4 = .ok (.ifCond .ne 6, 3) := by decide +kernel
theorem dX4_save_7 : decode cX4_save 7 = .ok (.ldc 125, 2) := by decide +kernel
theorem dX4_save_9 : decode cX4_save 9 = .ok (.ireturn, 1) := by decide +kernel
theorem dX4_save_10 : decode cX4_save 10 = .ok (.aload_n 0, 1) := by decide +kernel
theorem dX4_save_11 : decode cX4_save 11 = .ok (.getfield 37, 3) := by decide +kernel
theorem dX4_save_14 : decode cX4_save 14 = .ok (.iload_n 1, 1) := by decide +kernel
theorem dX4_save_15 : decode cX4_save 15 = .ok (.aaload, 1) := by decide +kernel
theorem dX4_save_16 : decode cX4_save 16 = .ok (.aload_n 0, 1) := by decide +kernel
theorem dX4_save_17 : decode cX4_save 17 = .ok (.getfield 10, 3) := by decide +kernel
theorem dX4_save_20 : decode cX4_save 20 = .ok (.invokevirtual 162, 3) := by decide +kernel
theorem dX4_save_23 : decode cX4_save 23 = .ok (.aload_n 0, 1) := by decide +kernel
theorem dX4_save_24 : decode cX4_save 24 = .ok (.getfield 40, 3) := by decide +kernel
theorem dX4_save_27 : decode cX4_save 27 = .ok (.iload_n 1, 1) := by decide +kernel
theorem dX4_save_28 : decode cX4_save 28 = .ok (.iconst 1, 1) := by decide +kernel
theorem dX4_save_29 : decode cX4_save 29 = .ok (.bastore, 1) := by decide +kernel
theorem dX4_save_30 : decode cX4_save 30 = .ok (.aload_n 0, 1) := by decide +kernel
theorem dX4_save_31 : decode cX4_save 31 = .ok (.getfield 10, 3) := by decide +kernel
theorem dX4_save_34 : decode cX4_save 34 = .ok (.getfield 142, 3) := by decide +kernel
theorem dX4_save_37 : decode cX4_save 37 = .ok (.ireturn, 1) := by decide +kernel
theorem dX4_restore_0 : decode cX4_restore 0 = .ok (.iload_n 1, 1) := by decide +kernel
theorem dX4_restore_1 : decode cX4_restore 1 = .ok (.invokestatic 198, 3) := by decide +kernel
theorem dX4_restore_4 : decode cX4_restore 4 = .ok (.ifCond .ne 6, 3) := by decide +kernel
theorem dX4_restore_7 : decode cX4_restore 7 = .ok (.ldc 125, 2) := by decide +kernel
theorem dX4_restore_9 : decode cX4_restore 9 = .ok (.ireturn, 1) := by decide +kernel
theorem dX4_restore_10 : decode cX4_restore 10 = .ok (.aload_n 0, 1) := by decide +kernel
theorem dX4_restore_11 : decode cX4_restore 11 = .ok (.getfield 40, 3) := by decide +kernel
theorem dX4_restore_14 : decode cX4_restore 14 = .ok (.iload_n 1, 1) := by decide +kernel
theorem dX4_restore_15 : decode cX4_restore 15 = .ok (.baload, 1) := by decide +kernel
theorem dX4_restore_16 : decode cX4_restore 16 = .ok (.ifCond .ne 6, 3) := by decide +kernel
theorem dX4_restore_19 : decode cX4_restore 19 = .ok (.ldc 132, 2) := by decide +kernel
theorem dX4_restore_21 : decode cX4_restore 21 = .ok (.ireturn, 1) := by decide +kernel
theorem dX4_restore_22 : decode cX4_restore 22 = .ok (.aload_n 0, 1) := by decide +kernel
theorem dX4_restore_23 : decode cX4_restore 23 = .ok (.invokevirtual 44, 3) := by decide +kernel
theorem dX4_restore_26 : decode cX4_restore 26 = .ok (.aload_n 0, 1) := by decide +kernel
theorem dX4_restore_27 : decode cX4_restore 27 = .ok (.getfield 10, 3) := by decide +kernel
theorem dX4_restore_30 : decode cX4_restore 30 = .ok (.aload_n 0, 1) := by decide +kernel
theorem dX4_restore_31 : decode cX4_restore 31 = .ok (.getfield 37, 3) := by decide +kernel
theorem dX4_restore_34 : decode cX4_restore 34 = .ok (.iload_n 1, 1) := by decide +kernel
theorem dX4_restore_35 : decode cX4_restore 35 = .ok (.aaload, 1) := by decide +kernel
theorem dX4_restore_36 : decode cX4_restore 36 = .ok (.invokevirtual 162, 3) := by decide +kernel
theorem dX4_restore_39 : decode cX4_restore 39 = .ok (.aload_n 0, 1) := by decide +kernel
theorem dX4_restore_40 : decode cX4_restore 40 = .ok (.aload_n 0, 1) := by decide +kernel
theorem dX4_restore_41 : decode cX4_restore 41 = .ok (.getfield 10, 3) := by decide +kernel
theorem dX4_restore_44 : decode cX4_restore 44 = .ok (.getfield 142, 3) := by decide +kernel
theorem dX4_restore_47 : decode cX4_restore 47 = .ok (.invokevirtual 51, 3) := by decide +kernel
theorem dX4_restore_50 : decode cX4_restore 50 = .ok (.ireturn, 1) := by decide +kernel
theorem dX4_keepPresent_0 : decode cX4_keepPresent 0 = .ok (.aload_n 0, 1) := by decide +kernel
theorem dX4_keepPresent_1 : decode cX4_keepPresent 1 = .ok (.getfield 34, 3) := by decide +kernel
theorem dX4_keepPresent_4 : decode cX4_keepPresent 4 = .ok (.aload_n 0, 1) := by decide +kernel
theorem dX4_keepPresent_5 : decode cX4_keepPresent 5 = .ok (.getfield 10, 3) := by decide +kernel
theorem dX4_keepPresent_8 : decode cX4_keepPresent 8 = .ok (.invokevirtual 162, 3) := by decide +kernel
theorem dX4_keepPresent_11 : decode cX4_keepPresent 11 = .ok (.return_, 1) := by decide +kernel
theorem dX4_recorded_0 : decode cX4_recorded 0 = .ok (.iload_n 1, 1) := by decide +kernel
theorem dX4_recorded_1 : decode cX4_recorded 1 = .ok (.invokestatic 109, 3) := by decide +kernel
theorem dX4_recorded_4 : decode cX4_recorded 4 = .ok (.ifCond .ne 7, 3) := by decide +kernel
theorem dX4_recorded_7 : decode cX4_recorded 7 = .ok (.aload_n 0, 1) := by decide +kernel
theorem dX4_recorded_8 : decode cX4_recorded 8 = .ok (.invokevirtual 201, 3) := by decide +kernel
theorem dX4_recorded_11 : decode cX4_recorded 11 = .ok (.iload_n 1, 1) := by decide +kernel
theorem dX4_recorded_12 : decode cX4_recorded 12 = .ok (.ireturn, 1) := by decide +kernel
theorem dX4_recordKept_0 : decode cX4_recordKept 0 = .ok (.aload_n 0, 1) := by decide +kernel
theorem dX4_recordKept_1 : decode cX4_recordKept 1 = .ok (.getfield 30, 3) := by decide +kernel
theorem dX4_recordKept_4 : decode cX4_recordKept 4 = .ok (.bipush 6, 2) := by decide +kernel
theorem dX4_recordKept_6 : decode cX4_recordKept 6 = .ok (.if_icmp .ne 7, 3) := by decide +kernel
theorem dX4_recordKept_9 : decode cX4_recordKept 9 = .ok (.aload_n 0, 1) := by decide +kernel
theorem dX4_recordKept_10 : decode cX4_recordKept 10 = .ok (.invokevirtual 204, 3) := by decide +kernel
theorem dX4_recordKept_13 : decode cX4_recordKept 13 = .ok (.aload_n 0, 1) := by decide +kernel
theorem dX4_recordKept_14 : decode cX4_recordKept 14 = .ok (.getfield 30, 3) := by decide +kernel
theorem dX4_recordKept_17 : decode cX4_recordKept 17 = .ok (.ifCond .lt 12, 3) := by decide +kernel
theorem dX4_recordKept_20 : decode cX4_recordKept 20 = .ok (.aload_n 0, 1) := by decide +kernel
theorem dX4_recordKept_21 : decode cX4_recordKept 21 = .ok (.getfield 30, 3) := by decide +kernel
theorem dX4_recordKept_24 : decode cX4_recordKept 24 = .ok (.bipush 6, 2) := by decide +kernel
theorem dX4_recordKept_26 : decode cX4_recordKept 26 = .ok (.if_icmp .lt 4, 3) := by decide +kernel
theorem dX4_recordKept_29 : decode cX4_recordKept 29 = .ok (.return_, 1) := by decide +kernel
theorem dX4_recordKept_30 : decode cX4_recordKept 30 = .ok (.aload_n 0, 1) := by decide +kernel
theorem dX4_recordKept_31 : decode cX4_recordKept 31 = .ok (.getfield 26, 3) := by decide +kernel
theorem dX4_recordKept_34 : decode cX4_recordKept 34 = .ok (.aload_n 0, 1) := by decide +kernel
theorem dX4_recordKept_35 : decode cX4_recordKept 35 = .ok (.getfield 30, 3) := by decide +kernel
theorem dX4_recordKept_38 : decode cX4_recordKept 38 = .ok (.aaload, 1) := by decide +kernel
theorem dX4_recordKept_39 : decode cX4_recordKept 39 = .ok (.astore_n 1, 1) := by decide +kernel
theorem dX4_recordKept_40 : decode cX4_recordKept 40 = .ok (.aload_n 0, 1) := by decide +kernel
theorem dX4_recordKept_41 : decode cX4_recordKept 41 = .ok (.getfield 26, 3) := by decide +kernel
theorem dX4_recordKept_44 : decode cX4_recordKept 44 = .ok (.aload_n 0, 1) := by decide +kernel
theorem dX4_recordKept_45 : decode cX4_recordKept 45 = .ok (.getfield 30, 3) := by decide +kernel
theorem dX4_recordKept_48 : decode cX4_recordKept 48 = .ok (.aload_n 0, 1) := by decide +kernel
theorem dX4_recordKept_49 : decode cX4_recordKept 49 = .ok (.getfield 34, 3) := by decide +kernel
theorem dX4_recordKept_52 : decode cX4_recordKept 52 = .ok (.aastore, 1) := by decide +kernel
theorem dX4_recordKept_53 : decode cX4_recordKept 53 = .ok (.aload_n 0, 1) := by decide +kernel
theorem dX4_recordKept_54 : decode cX4_recordKept 54 = .ok (.aload_n 1, 1) := by decide +kernel
theorem dX4_recordKept_55 : decode cX4_recordKept 55 = .ok (.putfield 34, 3) := by decide +kernel
theorem dX4_recordKept_58 : decode cX4_recordKept 58 = .ok (.aload_n 0, 1) := by decide +kernel
theorem dX4_recordKept_59 : decode cX4_recordKept 59 = .ok (.dup, 1) := by decide +kernel
theorem dX4_recordKept_60 : decode cX4_recordKept 60 = .ok (.getfield 30, 3) := by decide +kernel
theorem dX4_recordKept_63 : decode cX4_recordKept 63 = .ok (.iconst 1, 1) := by decide +kernel
theorem dX4_recordKept_64 : decode cX4_recordKept 64 = .ok (.iadd, 1) := by decide +kernel
theorem dX4_recordKept_65 : decode cX4_recordKept 65 = .ok (.putfield 30, 3) := by decide +kernel
theorem dX4_recordKept_68 : decode cX4_recordKept 68 = .ok (.return_, 1) := by decide +kernel
theorem dX4_dropOldest_0 : decode cX4_dropOldest 0 = .ok (.aload_n 0, 1) := by decide +kernel
theorem dX4_dropOldest_1 : decode cX4_dropOldest 1 = .ok (.getfield 26, 3) := by decide +kernel
theorem dX4_dropOldest_4 : decode cX4_dropOldest 4 = .ok (.iconst 0, 1) := by decide +kernel
theorem dX4_dropOldest_5 : decode cX4_dropOldest 5 = .ok (.aaload, 1) := by decide +kernel
theorem dX4_dropOldest_6 : decode cX4_dropOldest 6 = .ok (.astore_n 1, 1) := by decide +kernel
theorem dX4_dropOldest_7 : decode cX4_dropOldest 7 = .ok (.iconst 1, 1) := by decide +kernel
theorem dX4_dropOldest_8 : decode cX4_dropOldest 8 = .ok (.istore_n 2, 1) := by decide +kernel
theorem dX4_dropOldest_9 : decode cX4_dropOldest 9 = .ok (.iload_n 2, 1) := by decide +kernel
theorem dX4_dropOldest_10 : decode cX4_dropOldest 10 = .ok (.bipush 6, 2) := by decide +kernel
theorem dX4_dropOldest_12 : decode cX4_dropOldest 12 = .ok (.if_icmp .ge 23, 3) := by decide +kernel
theorem dX4_dropOldest_15 : decode cX4_dropOldest 15 = .ok (.aload_n 0, 1) := by decide +kernel
theorem dX4_dropOldest_16 : decode cX4_dropOldest 16 = .ok (.getfield 26, 3) := by decide +kernel
theorem dX4_dropOldest_19 : decode cX4_dropOldest 19 = .ok (.iload_n 2, 1) := by decide +kernel
theorem dX4_dropOldest_20 : decode cX4_dropOldest 20 = .ok (.iconst 1, 1) := by decide +kernel
theorem dX4_dropOldest_21 : decode cX4_dropOldest 21 = .ok (.isub, 1) := by decide +kernel
theorem dX4_dropOldest_22 : decode cX4_dropOldest 22 = .ok (.aload_n 0, 1) := by decide +kernel
theorem dX4_dropOldest_23 : decode cX4_dropOldest 23 = .ok (.getfield 26, 3) := by decide +kernel
theorem dX4_dropOldest_26 : decode cX4_dropOldest 26 = .ok (.iload_n 2, 1) := by decide +kernel
theorem dX4_dropOldest_27 : decode cX4_dropOldest 27 = .ok (.aaload, 1) := by decide +kernel
theorem dX4_dropOldest_28 : decode cX4_dropOldest 28 = .ok (.aastore, 1) := by decide +kernel
theorem dX4_dropOldest_29 : decode cX4_dropOldest 29 = .ok (.iinc 2 1, 3) := by decide +kernel
theorem dX4_dropOldest_32 : decode cX4_dropOldest 32 = .ok (.goto (-23), 3) := by decide +kernel
theorem dX4_dropOldest_35 : decode cX4_dropOldest 35 = .ok (.aload_n 0, 1) := by decide +kernel
theorem dX4_dropOldest_36 : decode cX4_dropOldest 36 = .ok (.getfield 26, 3) := by decide +kernel
theorem dX4_dropOldest_39 : decode cX4_dropOldest 39 = .ok (.iconst 5, 1) := by decide +kernel
theorem dX4_dropOldest_40 : decode cX4_dropOldest 40 = .ok (.aload_n 1, 1) := by decide +kernel
theorem dX4_dropOldest_41 : decode cX4_dropOldest 41 = .ok (.aastore, 1) := by decide +kernel
theorem dX4_dropOldest_42 : decode cX4_dropOldest 42 = .ok (.aload_n 0, 1) := by decide +kernel
theorem dX4_dropOldest_43 : decode cX4_dropOldest 43 = .ok (.iconst 5, 1) := by decide +kernel
theorem dX4_dropOldest_44 : decode cX4_dropOldest 44 = .ok (.putfield 30, 3) := by decide +kernel
theorem dX4_dropOldest_47 : decode cX4_dropOldest 47 = .ok (.return_, 1) := by decide +kernel
theorem dX4_doOrder_0 : decode cX4_doOrder 0 = .ok (.aload_n 0, 1) := by decide +kernel
theorem dX4_doOrder_1 : decode cX4_doOrder 1 = .ok (.getfield 22, 3) := by decide +kernel
theorem dX4_doOrder_4 : decode cX4_doOrder 4 = .ok (.getfield 207, 3) := by decide +kernel
theorem dX4_doOrder_7 : decode cX4_doOrder 7 = .ok (.lookupswitch 160 #[(43, 49), (45, 115), (46, 145), (61, 93), (126, 130)], 49) := by decide +kernel
theorem dX4_doOrder_56 : decode cX4_doOrder 56 = .ok (.aload_n 0, 1) := by decide +kernel
theorem dX4_doOrder_57 : decode cX4_doOrder 57 = .ok (.getfield 10, 3) := by decide +kernel
theorem dX4_doOrder_60 : decode cX4_doOrder 60 = .ok (.aload_n 0, 1) := by decide +kernel
theorem dX4_doOrder_61 : decode cX4_doOrder 61 = .ok (.getfield 22, 3) := by decide +kernel
theorem dX4_doOrder_64 : decode cX4_doOrder 64 = .ok (.getfield 210, 3) := by decide +kernel
theorem dX4_doOrder_67 : decode cX4_doOrder 67 = .ok (.iconst 0, 1) := by decide +kernel
theorem dX4_doOrder_68 : decode cX4_doOrder 68 = .ok (.iaload, 1) := by decide +kernel
theorem dX4_doOrder_69 : decode cX4_doOrder 69 = .ok (.aload_n 0, 1) := by decide +kernel
theorem dX4_doOrder_70 : decode cX4_doOrder 70 = .ok (.getfield 22, 3) := by decide +kernel
theorem dX4_doOrder_73 : decode cX4_doOrder 73 = .ok (.getfield 210, 3) := by decide +kernel
theorem dX4_doOrder_76 : decode cX4_doOrder 76 = .ok (.iconst 1, 1) := by decide +kernel
theorem dX4_doOrder_77 : decode cX4_doOrder 77 = .ok (.iaload, 1) := by decide +kernel
theorem dX4_doOrder_78 : decode cX4_doOrder 78 = .ok (.aload_n 0, 1) := by decide +kernel
theorem dX4_doOrder_79 : decode cX4_doOrder 79 = .ok (.getfield 22, 3) := by decide +kernel
theorem dX4_doOrder_82 : decode cX4_doOrder 82 = .ok (.getfield 210, 3) := by decide +kernel
theorem dX4_doOrder_85 : decode cX4_doOrder 85 = .ok (.iconst 2, 1) := by decide +kernel
theorem dX4_doOrder_86 : decode cX4_doOrder 86 = .ok (.iaload, 1) := by decide +kernel
theorem dX4_doOrder_87 : decode cX4_doOrder 87 = .ok (.aload_n 0, 1) := by decide +kernel
theorem dX4_doOrder_88 : decode cX4_doOrder 88 = .ok (.getfield 22, 3) := by decide +kernel
theorem dX4_doOrder_91 : decode cX4_doOrder 91 = .ok (.getfield 210, 3) := by decide +kernel
theorem dX4_doOrder_94 : decode cX4_doOrder 94 = .ok (.iconst 3, 1) := by decide +kernel
theorem dX4_doOrder_95 : decode cX4_doOrder 95 = .ok (.iaload, 1) := by decide +kernel
theorem dX4_doOrder_96 : decode cX4_doOrder 96 = .ok (.invokevirtual 55, 3) := by decide +kernel
theorem dX4_doOrder_99 : decode cX4_doOrder 99 = .ok (.ireturn, 1) := by decide +kernel
theorem dX4_doOrder_100 : decode cX4_doOrder 100 = .ok (.aload_n 0, 1) := by decide +kernel
theorem dX4_doOrder_101 : decode cX4_doOrder 101 = .ok (.getfield 10, 3) := by decide +kernel
theorem dX4_doOrder_104 : decode cX4_doOrder 104 = .ok (.aload_n 0, 1) := by decide +kernel
theorem dX4_doOrder_105 : decode cX4_doOrder 105 = .ok (.getfield 22, 3) := by decide +kernel
theorem dX4_doOrder_108 : decode cX4_doOrder 108 = .ok (.getfield 214, 3) := by decide +kernel
theorem dX4_doOrder_111 : decode cX4_doOrder 111 = .ok (.aload_n 0, 1) := by decide +kernel
theorem dX4_doOrder_112 : decode cX4_doOrder 112 = .ok (.getfield 22, 3) := by decide +kernel
theorem dX4_doOrder_115 : decode cX4_doOrder 115 = .ok (.getfield 217, 3) := by decide +kernel
theorem dX4_doOrder_118 : decode cX4_doOrder 118 = .ok (.invokevirtual 69, 3) := by decide +kernel
theorem dX4_doOrder_121 : decode cX4_doOrder 121 = .ok (.ireturn, 1) := by decide +kernel
theorem dX4_doOrder_122 : decode cX4_doOrder 122 = .ok (.aload_n 0, 1) := by decide +kernel
theorem dX4_doOrder_123 : decode cX4_doOrder 123 = .ok (.getfield 10, 3) := by decide +kernel
theorem dX4_doOrder_126 : decode cX4_doOrder 126 = .ok (.aload_n 0, 1) := by decide +kernel
theorem dX4_doOrder_127 : decode cX4_doOrder 127 = .ok (.getfield 22, 3) := by decide +kernel
theorem dX4_doOrder_130 : decode cX4_doOrder 130 = .ok (.getfield 214, 3) := by decide +kernel
theorem dX4_doOrder_133 : decode cX4_doOrder 133 = .ok (.invokevirtual 72, 3) := by decide +kernel
theorem dX4_doOrder_136 : decode cX4_doOrder 136 = .ok (.ireturn, 1) := by decide +kernel
theorem dX4_doOrder_137 : decode cX4_doOrder 137 = .ok (.aload_n 0, 1) := by decide +kernel
theorem dX4_doOrder_138 : decode cX4_doOrder 138 = .ok (.getfield 10, 3) := by decide +kernel
theorem dX4_doOrder_141 : decode cX4_doOrder 141 = .ok (.aload_n 0, 1) := by decide +kernel
theorem dX4_doOrder_142 : decode cX4_doOrder 142 = .ok (.getfield 22, 3) := by decide +kernel
theorem dX4_doOrder_145 : decode cX4_doOrder 145 = .ok (.getfield 214, 3) := by decide +kernel
theorem dX4_doOrder_148 : decode cX4_doOrder 148 = .ok (.invokevirtual 75, 3) := by decide +kernel
theorem dX4_doOrder_151 : decode cX4_doOrder 151 = .ok (.ireturn, 1) := by decide +kernel
theorem dX4_doOrder_152 : decode cX4_doOrder 152 = .ok (.aload_n 0, 1) := by decide +kernel
theorem dX4_doOrder_153 : decode cX4_doOrder 153 = .ok (.getfield 10, 3) := by decide +kernel
theorem dX4_doOrder_156 : decode cX4_doOrder 156 = .ok (.aload_n 0, 1) := by decide +kernel
theorem dX4_doOrder_157 : decode cX4_doOrder 157 = .ok (.getfield 22, 3) := by decide +kernel
theorem dX4_doOrder_160 : decode cX4_doOrder 160 = .ok (.getfield 220, 3) := by decide +kernel
theorem dX4_doOrder_163 : decode cX4_doOrder 163 = .ok (.invokevirtual 88, 3) := by decide +kernel
theorem dX4_doOrder_166 : decode cX4_doOrder 166 = .ok (.ireturn, 1) := by decide +kernel
theorem dX4_doOrder_167 : decode cX4_doOrder 167 = .ok (.ldc 95, 2) := by decide +kernel
theorem dX4_doOrder_169 : decode cX4_doOrder 169 = .ok (.ireturn, 1) := by decide +kernel
theorem dX4_isError_0 : decode cX4_isError 0 = .ok (.iload_n 0, 1) := by decide +kernel
theorem dX4_isError_1 : decode cX4_isError 1 = .ok (.ldc 152, 2) := by decide +kernel
theorem dX4_isError_3 : decode cX4_isError 3 = .ok (.if_icmp .gt 13, 3) := by decide +kernel
theorem dX4_isError_6 : decode cX4_isError 6 = .ok (.iload_n 0, 1) := by decide +kernel
theorem dX4_isError_7 : decode cX4_isError 7 = .ok (.ldc 132, 2) := by decide +kernel
theorem dX4_isError_9 : decode cX4_isError 9 = .ok (.if_icmp .lt 7, 3) := by decide +kernel
theorem dX4_isError_12 : decode cX4_isError 12 = .ok (.iconst 1, 1) := by decide +kernel
theorem dX4_isError_13 : decode cX4_isError 13 = .ok (.goto 4, 3) := by decide +kernel
theorem dX4_isError_16 : decode cX4_isError 16 = .ok (.iconst 0, 1) := by decide +kernel
theorem dX4_isError_17 : decode cX4_isError 17 = .ok (.ireturn, 1) := by decide +kernel
theorem dX4_isHose_0 : decode cX4_isHose 0 = .ok (.iload_n 0, 1) := by decide +kernel
theorem dX4_isHose_1 : decode cX4_isHose 1 = .ok (.ifCond .lt 12, 3) := by decide +kernel
theorem dX4_isHose_4 : decode cX4_isHose 4 = .ok (.iload_n 0, 1) := by decide +kernel
theorem dX4_isHose_5 : decode cX4_isHose 5 = .ok (.iconst 4, 1) := by decide +kernel
theorem dX4_isHose_6 : decode cX4_isHose 6 = .ok (.if_icmp .ge 7, 3) := by decide +kernel
theorem dX4_isHose_9 : decode cX4_isHose 9 = .ok (.iconst 1, 1) := by decide +kernel
theorem dX4_isHose_10 : decode cX4_isHose 10 = .ok (.goto 4, 3) := by decide +kernel
theorem dX4_isHose_13 : decode cX4_isHose 13 = .ok (.iconst 0, 1) := by decide +kernel
theorem dX4_isHose_14 : decode cX4_isHose 14 = .ok (.ireturn, 1) := by decide +kernel
theorem dX4_isGrade_0 : decode cX4_isGrade 0 = .ok (.iload_n 0, 1) := by decide +kernel
theorem dX4_isGrade_1 : decode cX4_isGrade 1 = .ok (.ifCond .lt 12, 3) := by decide +kernel
theorem dX4_isGrade_4 : decode cX4_isGrade 4 = .ok (.iload_n 0, 1) := by decide +kernel
theorem dX4_isGrade_5 : decode cX4_isGrade 5 = .ok (.iconst 4, 1) := by decide +kernel
theorem dX4_isGrade_6 : decode cX4_isGrade 6 = .ok (.if_icmp .ge 7, 3) := by decide +kernel
theorem dX4_isGrade_9 : decode cX4_isGrade 9 = .ok (.iconst 1, 1) := by decide +kernel
theorem dX4_isGrade_10 : decode cX4_isGrade 10 = .ok (.goto 4, 3) := by decide +kernel
theorem dX4_isGrade_13 : decode cX4_isGrade 13 = .ok (.iconst 0, 1) := by decide +kernel
theorem dX4_isGrade_14 : decode cX4_isGrade 14 = .ok (.ireturn, 1) := by decide +kernel
theorem dX4_isSlot_0 : decode cX4_isSlot 0 = .ok (.iload_n 0, 1) := by decide +kernel
theorem dX4_isSlot_1 : decode cX4_isSlot 1 = .ok (.ifCond .lt 12, 3) := by decide +kernel
theorem dX4_isSlot_4 : decode cX4_isSlot 4 = .ok (.iload_n 0, 1) := by decide +kernel
theorem dX4_isSlot_5 : decode cX4_isSlot 5 = .ok (.iconst 2, 1) := by decide +kernel
theorem dX4_isSlot_6 : decode cX4_isSlot 6 = .ok (.if_icmp .ge 7, 3) := by decide +kernel
theorem dX4_isSlot_9 : decode cX4_isSlot 9 = .ok (.iconst 1, 1) := by decide +kernel
theorem dX4_isSlot_10 : decode cX4_isSlot 10 = .ok (.goto 4, 3) := by decide +kernel
theorem dX4_isSlot_13 : decode cX4_isSlot 13 = .ok (.iconst 0, 1) := by decide +kernel
theorem dX4_isSlot_14 : decode cX4_isSlot 14 = .ok (.ireturn, 1) := by decide +kernel
theorem dJ9_floorMod_7cf53_0 : decode cJ9_floorMod_7cf53 0 = .ok (.iload_n 0, 1) := by decide +kernel
theorem dJ9_floorMod_7cf53_1 : decode cJ9_floorMod_7cf53 1 = .ok (.iload_n 1, 1) := by decide +kernel
theorem dJ9_floorMod_7cf53_2 : decode cJ9_floorMod_7cf53 2 = .ok (.irem, 1) := by decide +kernel
theorem dJ9_floorMod_7cf53_3 : decode cJ9_floorMod_7cf53 3 = .ok (.istore_n 2, 1) := by decide +kernel
theorem dJ9_floorMod_7cf53_4 : decode cJ9_floorMod_7cf53 4 = .ok (.iload_n 0, 1) := by decide +kernel
theorem dJ9_floorMod_7cf53_5 : decode cJ9_floorMod_7cf53 5 = .ok (.iload_n 1, 1) := by decide +kernel
theorem dJ9_floorMod_7cf53_6 : decode cJ9_floorMod_7cf53 6 = .ok (.ixor, 1) := by decide +kernel
theorem dJ9_floorMod_7cf53_7 : decode cJ9_floorMod_7cf53 7 = .ok (.ifCond .ge 11, 3) := by decide +kernel
theorem dJ9_floorMod_7cf53_10 : decode cJ9_floorMod_7cf53 10 = .ok (.iload_n 2, 1) := by decide +kernel
theorem dJ9_floorMod_7cf53_11 : decode cJ9_floorMod_7cf53 11 = .ok (.ifCond .eq 7, 3) := by decide +kernel
theorem dJ9_floorMod_7cf53_14 : decode cJ9_floorMod_7cf53 14 = .ok (.iload_n 2, 1) := by decide +kernel
theorem dJ9_floorMod_7cf53_15 : decode cJ9_floorMod_7cf53 15 = .ok (.iload_n 1, 1) := by decide +kernel
theorem dJ9_floorMod_7cf53_16 : decode cJ9_floorMod_7cf53 16 = .ok (.iadd, 1) := by decide +kernel
theorem dJ9_floorMod_7cf53_17 : decode cJ9_floorMod_7cf53 17 = .ok (.ireturn, 1) := by decide +kernel
theorem dJ9_floorMod_7cf53_18 : decode cJ9_floorMod_7cf53 18 = .ok (.iload_n 2, 1) := by decide +kernel
theorem dJ9_floorMod_7cf53_19 : decode cJ9_floorMod_7cf53 19 = .ok (.ireturn, 1) := by decide +kernel
theorem dJ9_abs_0f7a4_0 : decode cJ9_abs_0f7a4 0 = .ok (.iload_n 0, 1) := by decide +kernel
theorem dJ9_abs_0f7a4_1 : decode cJ9_abs_0f7a4 1 = .ok (.ifCond .ge 8, 3) := by decide +kernel
theorem dJ9_abs_0f7a4_4 : decode cJ9_abs_0f7a4 4 = .ok (.iload_n 0, 1) := by decide +kernel
theorem dJ9_abs_0f7a4_5 : decode cJ9_abs_0f7a4 5 = .ok (.ineg, 1) := by decide +kernel
theorem dJ9_abs_0f7a4_6 : decode cJ9_abs_0f7a4 6 = .ok (.goto 4, 3) := by decide +kernel
theorem dJ9_abs_0f7a4_9 : decode cJ9_abs_0f7a4 9 = .ok (.iload_n 0, 1) := by decide +kernel
theorem dJ9_abs_0f7a4_10 : decode cJ9_abs_0f7a4 10 = .ok (.ireturn, 1) := by decide +kernel
theorem dJ9_min_7cf53_0 : decode cJ9_min_7cf53 0 = .ok (.iload_n 0, 1) := by decide +kernel
theorem dJ9_min_7cf53_1 : decode cJ9_min_7cf53 1 = .ok (.iload_n 1, 1) := by decide +kernel
theorem dJ9_min_7cf53_2 : decode cJ9_min_7cf53 2 = .ok (.if_icmp .gt 7, 3) := by decide +kernel
theorem dJ9_min_7cf53_5 : decode cJ9_min_7cf53 5 = .ok (.iload_n 0, 1) := by decide +kernel
theorem dJ9_min_7cf53_6 : decode cJ9_min_7cf53 6 = .ok (.goto 4, 3) := by decide +kernel
theorem dJ9_min_7cf53_9 : decode cJ9_min_7cf53 9 = .ok (.iload_n 1, 1) := by decide +kernel
theorem dJ9_min_7cf53_10 : decode cJ9_min_7cf53 10 = .ok (.ireturn, 1) := by decide +kernel
end
section
theorem dX5_init_0 : decode cX5_init 0 = .ok (.aload_n 0, 1) := by decide +kernel
theorem dX5_init_1 : decode cX5_init 1 = .ok (.invokespecial 1, 3) := by decide +kernel
theorem dX5_init_4 : decode cX5_init 4 = .ok (.aload_n 0, 1) := by decide +kernel
theorem dX5_init_5 : decode cX5_init 5 = .ok (.bipush 80, 2) := by decide +kernel
theorem dX5_init_7 : decode cX5_init 7 = .ok (.newarray .int, 2) := by decide +kernel
theorem dX5_init_9 : decode cX5_init 9 = .ok (.putfield 7, 3) := by decide +kernel
theorem dX5_init_12 : decode cX5_init 12 = .ok (.aload_n 0, 1) := by decide +kernel
theorem dX5_init_13 : decode cX5_init 13 = .ok (.bipush 80, 2) := by decide +kernel
theorem dX5_init_15 : decode cX5_init 15 = .ok (.newarray .int, 2) := by decide +kernel
theorem dX5_init_17 : decode cX5_init 17 = .ok (.putfield 13, 3) := by decide +kernel
theorem dX5_init_20 : decode cX5_init 20 = .ok (.aload_n 0, 1) := by decide +kernel
theorem dX5_init_21 : decode cX5_init 21 = .ok (.sipush 480, 3) := by decide +kernel
theorem dX5_init_24 : decode cX5_init 24 = .ok (.newarray .int, 2) := by decide +kernel
theorem dX5_init_26 : decode cX5_init 26 = .ok (.putfield 16, 3) := by decide +kernel
theorem dX5_init_29 : decode cX5_init 29 = .ok (.aload_n 0, 1) := by decide +kernel
theorem dX5_init_30 : decode cX5_init 30 = .ok (.sipush 160, 3) := by decide +kernel
theorem dX5_init_33 : decode cX5_init 33 = .ok (.newarray .int, 2) := by decide +kernel
theorem dX5_init_35 : decode cX5_init 35 = .ok (.putfield 19, 3) := by decide +kernel
theorem dX5_init_38 : decode cX5_init 38 = .ok (.aload_n 0, 1) := by decide +kernel
theorem dX5_init_39 : decode cX5_init 39 = .ok (.iconst 2, 1) := by decide +kernel
theorem dX5_init_40 : decode cX5_init 40 = .ok (.newarray .boolean, 2) := by decide +kernel
theorem dX5_init_42 : decode cX5_init 42 = .ok (.putfield 22, 3) := by decide +kernel
theorem dX5_init_45 : decode cX5_init 45 = .ok (.aload_n 0, 1) := by decide +kernel
theorem dX5_init_46 : decode cX5_init 46 = .ok (.bipush 60, 2) := by decide +kernel
theorem dX5_init_48 : decode cX5_init 48 = .ok (.newarray .int, 2) := by decide +kernel
theorem dX5_init_50 : decode cX5_init 50 = .ok (.putfield 26, 3) := by decide +kernel
theorem dX5_init_53 : decode cX5_init 53 = .ok (.aload_n 0, 1) := by decide +kernel
theorem dX5_init_54 : decode cX5_init 54 = .ok (.iconst 4, 1) := by decide +kernel
theorem dX5_init_55 : decode cX5_init 55 = .ok (.newarray .int, 2) := by decide +kernel
theorem dX5_init_57 : decode cX5_init 57 = .ok (.putfield 29, 3) := by decide +kernel
theorem dX5_init_60 : decode cX5_init 60 = .ok (.aload_n 0, 1) := by decide +kernel
theorem dX5_init_61 : decode cX5_init 61 = .ok (.getfield 7, 3) := by decide +kernel
theorem dX5_init_64 : decode cX5_init 64 = .ok (.iconst 0, 1) := by decide +kernel
theorem dX5_init_65 : decode cX5_init 65 = .ok (.bipush 90, 2) := by decide +kernel
theorem dX5_init_67 : decode cX5_init 67 = .ok (.iastore, 1) := by decide +kernel
theorem dX5_init_68 : decode cX5_init 68 = .ok (.aload_n 0, 1) := by decide +kernel
theorem dX5_init_69 : decode cX5_init 69 = .ok (.getfield 7, 3) := by decide +kernel
theorem dX5_init_72 : decode cX5_init 72 = .ok (.iconst 1, 1) := by decide +kernel
theorem dX5_init_73 : decode cX5_init 73 = .ok (.bipush 20, 2) := by decide +kernel
theorem dX5_init_75 : decode cX5_init 75 = .ok (.iastore, 1) := by decide +kernel
theorem dX5_init_76 : decode cX5_init 76 = .ok (.aload_n 0, 1) := by decide +kernel
theorem dX5_init_77 : decode cX5_init 77 = .ok (.getfield 7, 3) := by decide +kernel
theorem dX5_init_80 : decode cX5_init 80 = .ok (.iconst 2, 1) := by decide +kernel
theorem dX5_init_81 : decode cX5_init 81 = .ok (.iconst 5, 1) := by decide +kernel
theorem dX5_init_82 : decode cX5_init 82 = .ok (.iastore, 1) := by decide +kernel
theorem dX5_init_83 : decode cX5_init 83 = .ok (.aload_n 0, 1) := by decide +kernel
theorem dX5_init_84 : decode cX5_init 84 = .ok (.getfield 7, 3) := by decide +kernel
theorem dX5_init_87 : decode cX5_init 87 = .ok (.iconst 3, 1) := by decide +kernel
theorem dX5_init_88 : decode cX5_init 88 = .ok (.bipush 10, 2) := by decide +kernel
theorem dX5_init_90 : decode cX5_init 90 = .ok (.iastore, 1) := by decide +kernel
theorem dX5_init_91 : decode cX5_init 91 = .ok (.aload_n 0, 1) := by decide +kernel
theorem dX5_init_92 : decode cX5_init 92 = .ok (.getfield 7, 3) := by decide +kernel
theorem dX5_init_95 : decode cX5_init 95 = .ok (.iconst 4, 1) := by decide +kernel
theorem dX5_init_96 : decode cX5_init 96 = .ok (.bipush 24, 2) := by decide +kernel
theorem dX5_init_98 : decode cX5_init 98 = .ok (.iastore, 1) := by decide +kernel
theorem dX5_init_99 : decode cX5_init 99 = .ok (.aload_n 0, 1) := by decide +kernel
theorem dX5_init_100 : decode cX5_init 100 = .ok (.getfield 7, 3) := by decide +kernel
theorem dX5_init_103 : decode cX5_init 103 = .ok (.iconst 5, 1) := by decide +kernel
theorem dX5_init_104 : decode cX5_init 104 = .ok (.iconst 5, 1) := by decide +kernel
theorem dX5_init_105 : decode cX5_init 105 = .ok (.iastore, 1) := by decide +kernel
theorem dX5_init_106 : decode cX5_init 106 = .ok (.iconst 0, 1) := by decide +kernel
theorem dX5_init_107 : decode cX5_init 107 = .ok (.istore_n 1, 1) := by decide +kernel
theorem dX5_init_108 : decode cX5_init 108 = .ok (.iload_n 1, 1) := by decide +kernel
theorem dX5_init_109 : decode cX5_init 109 = .ok (.iconst 4, 1) := by decide +kernel
theorem dX5_init_110 : decode cX5_init 110 = .ok (.if_icmp .ge 33, 3) := by decide +kernel
theorem dX5_init_113 : decode cX5_init 113 = .ok (.aload_n 0, 1) := by decide +kernel
theorem dX5_init_114 : decode cX5_init 114 = .ok (.iload_n 1, 1) := by decide +kernel
theorem dX5_init_115 : decode cX5_init 115 = .ok (.iconst 0, 1) := by decide +kernel
theorem dX5_init_116 : decode cX5_init 116 = .ok (.bipush 90, 2) := by decide +kernel
theorem dX5_init_118 : decode cX5_init 118 = .ok (.invokevirtual 32, 3) := by decide +kernel
theorem dX5_init_121 : decode cX5_init 121 = .ok (.aload_n 0, 1) := by decide +kernel
theorem dX5_init_122 : decode cX5_init 122 = .ok (.iload_n 1, 1) := by decide +kernel
theorem dX5_init_123 : decode cX5_init 123 = .ok (.iconst 1, 1) := by decide +kernel
theorem dX5_init_124 : decode cX5_init 124 = .ok (.ldc 36, 2) := by decide +kernel
theorem dX5_init_126 : decode cX5_init 126 = .ok (.invokevirtual 32, 3) := by decide +kernel
theorem dX5_init_129 : decode cX5_init 129 = .ok (.aload_n 0, 1) := by decide +kernel
theorem dX5_init_130 : decode cX5_init 130 = .ok (.iload_n 1, 1) := by decide +kernel
theorem dX5_init_131 : decode cX5_init 131 = .ok (.iconst 2, 1) := by decide +kernel
theorem dX5_init_132 : decode cX5_init 132 = .ok (.ldc 36, 2) := by decide +kernel
theorem dX5_init_134 : decode cX5_init 134 = .ok (.invokevirtual 32, 3) := by decide +kernel
theorem dX5_init_137 : decode cX5_init 137 = .ok (.iinc 1 1, 3) := by decide +kernel
theorem dX5_init_140 : decode cX5_init 140 = .ok (.goto (-32), 3) := by decide +kernel
theorem dX5_init_143 : decode cX5_init 143 = .ok (.return_, 1) := by decide +kernel
theorem dX5_in_0 : decode cX5_in 0 = .ok (.iload_n 0, 1) := by decide +kernel
theorem dX5_in_1 : decode cX5_in 1 = .ok (.iload_n 1, 1) := by decide +kernel
theorem dX5_in_2 : decode cX5_in 2 = .ok (.if_icmp .lt 12, 3) := by decide +kernel
theorem dX5_in_5 : decode cX5_in 5 = .ok (.iload_n 0, 1) := by decide +kernel
theorem dX5_in_6 : decode cX5_in 6 = .ok (.iload_n 2, 1) := by decide +kernel
theorem dX5_in_7 : decode cX5_in 7 = .ok (.if_icmp .gt 7, 3) := by decide +kernel
theorem dX5_in_10 : decode cX5_in 10 = .ok (.iconst 1, 1) := by decide +kernel
theorem dX5_in_11 : decode cX5_in 11 = .ok (.goto 4, 3) := by decide +kernel
theorem dX5_in_14 : decode cX5_in 14 = .ok (.iconst 0, 1) := by decide +kernel
theorem dX5_in_15 : decode cX5_in 15 = .ok (.ireturn, 1) := by decide +kernel
theorem dX5_least_0 : decode cX5_least 0 = .ok (.iload_n 0, 1) := by decide +kernel
theorem dX5_least_1 : decode cX5_least 1 = .ok (.iload_n 1, 1) := by decide +kernel
theorem dX5_least_2 : decode cX5_least 2 = .ok (.if_icmp .ge 7, 3) := by decide +kernel
theorem dX5_least_5 : decode cX5_least 5 = .ok (.iload_n 0, 1) := by decide +kernel
theorem dX5_least_6 : decode cX5_least 6 = .ok (.goto 4, 3) := by decide +kernel
theorem dX5_least_9 : decode cX5_least 9 = .ok (.iload_n 1, 1) := by decide +kernel
theorem dX5_least_10 : decode cX5_least 10 = .ok (.ireturn, 1) := by decide +kernel
theorem dX5_record_0 : decode cX5_record 0 = .ok (.aload_n 0, 1) := by decide +kernel
theorem dX5_record_1 : decode cX5_record 1 = .ok (.getfield 37, 3) := by decide +kernel
theorem dX5_record_4 : decode cX5_record 4 = .ok (.bipush 6, 2) := by decide +kernel
theorem dX5_record_6 : decode cX5_record 6 = .ok (.if_icmp .ne 43, 3) := by decide +kernel
theorem dX5_record_9 : decode cX5_record 9 = .ok (.iconst 0, 1) := by decide +kernel
theorem dX5_record_10 : decode cX5_record 10 = .ok (.istore_n 1, 1) := by decide +kernel
theorem dX5_record_11 : decode cX5_record 11 = .ok (.iload_n 1, 1) := by decide +kernel
theorem dX5_record_12 : decode cX5_record 12 = .ok (.sipush 400, 3) := by decide +kernel
theorem dX5_record_15 : decode cX5_record 15 = .ok (.if_icmp .ge 24, 3) := by decide +kernel
theorem dX5_record_18 : decode cX5_record 18 = .ok (.aload_n 0, 1) := by decide +kernel
theorem dX5_record_19 : decode cX5_record 19 = .ok (.getfield 16, 3) := by decide +kernel
theorem dX5_record_22 : decode cX5_record 22 = .ok (.iload_n 1, 1) := by decide +kernel
theorem dX5_record_23 : decode cX5_record 23 = .ok (.aload_n 0, 1) := by decide +kernel
theorem dX5_record_24 : decode cX5_record 24 = .ok (.getfield 16, 3) := by decide +kernel
theorem dX5_record_27 : decode cX5_record 27 = .ok (.bipush 80, 2) := by decide +kernel
theorem dX5_record_29 : decode cX5_record 29 = .ok (.iload_n 1, 1) := by decide +kernel
theorem dX5_record_30 : decode cX5_record 30 = .ok (.iadd, 1) := by decide +kernel
theorem dX5_record_31 : decode cX5_record 31 = .ok (.iaload, 1) := by decide +kernel
theorem dX5_record_32 : decode cX5_record 32 = .ok (.iastore, 1) := by decide +kernel
theorem dX5_record_33 : decode cX5_record 33 = .ok (.iinc 1 1, 3) := by decide +kernel
theorem dX5_record_36 : decode cX5_record 36 = .ok (.goto (-25), 3) := by decide +kernel
theorem dX5_record_39 : decode cX5_record 39 = .ok (.aload_n 0, 1) := by decide +kernel
theorem dX5_record_40 : decode cX5_record 40 = .ok (.dup, 1) := by decide +kernel
theorem dX5_record_41 : decode cX5_record 41 = .ok (.getfield 37, 3) := by decide +kernel
theorem dX5_record_44 : decode cX5_record 44 = .ok (.iconst 1, 1) := by decide +kernel
theorem dX5_record_45 : decode cX5_record 45 = .ok (.isub, 1) := by decide +kernel
theorem dX5_record_46 : decode cX5_record 46 = .ok (.putfield 37, 3) := by decide +kernel
theorem dX5_record_49 : decode cX5_record 49 = .ok (.iconst 0, 1) := by decide +kernel
theorem dX5_record_50 : decode cX5_record 50 = .ok (.istore_n 1, 1) := by decide +kernel
theorem dX5_record_51 : decode cX5_record 51 = .ok (.iload_n 1, 1) := by decide +kernel
theorem dX5_record_52 : decode cX5_record 52 = .ok (.bipush 80, 2) := by decide +kernel
theorem dX5_record_54 : decode cX5_record 54 = .ok (.if_icmp .ge 29, 3) := by decide +kernel
theorem dX5_record_57 : decode cX5_record 57 = .ok (.aload_n 0, 1) := by decide +kernel
theorem dX5_record_58 : decode cX5_record 58 = .ok (.getfield 16, 3) := by decide +kernel
theorem dX5_record_61 : decode cX5_record 61 = .ok (.bipush 80, 2) := by decide +kernel
theorem dX5_record_63 : decode cX5_record 63 = .ok (.aload_n 0, 1) := by decide +kernel
theorem dX5_record_64 : decode cX5_record 64 = .ok (.getfield 37, 3) := by decide +kernel
theorem dX5_record_67 : decode cX5_record 67 = .ok (.imul, 1) := by decide +kernel
theorem dX5_record_68 : decode cX5_record 68 = .ok (.iload_n 1, 1) := by decide +kernel
theorem dX5_record_69 : decode cX5_record 69 = .ok (.iadd, 1) := by decide +kernel
theorem dX5_record_70 : decode cX5_record 70 = .ok (.aload_n 0, 1) := by decide +kernel
theorem dX5_record_71 : decode cX5_record 71 = .ok (.getfield 7, 3) := by decide +kernel
theorem dX5_record_74 : decode cX5_record 74 = .ok (.iload_n 1, 1) := by decide +kernel
theorem dX5_record_75 : decode cX5_record 75 = .ok (.iaload, 1) := by decide +kernel
theorem dX5_record_76 : decode cX5_record 76 = .ok (.iastore, 1) := by decide +kernel
theorem dX5_record_77 : decode cX5_record 77 = .ok (.iinc 1 1, 3) := by decide +kernel
theorem dX5_record_80 : decode cX5_record 80 = .ok (.goto (-29), 3) := by decide +kernel
theorem dX5_record_83 : decode cX5_record 83 = .ok (.aload_n 0, 1) := by decide +kernel
theorem dX5_record_84 : decode cX5_record 84 = .ok (.dup, 1) := by decide +kernel
theorem dX5_record_85 : decode cX5_record 85 = .ok (.getfield 37, 3) := by decide +kernel
theorem dX5_record_88 : decode cX5_record 88 = .ok (.iconst 1, 1) := by decide +kernel
theorem dX5_record_89 : decode cX5_record 89 = .ok (.iadd, 1) := by decide +kernel
theorem dX5_record_90 : decode cX5_record 90 = .ok (.putfield 37, 3) := by decide +kernel
theorem dX5_record_93 : decode cX5_record 93 = .ok (.return_, 1) := by decide +kernel
theorem dX5_tideAt_0 : decode cX5_tideAt 0 = .ok (.iconst 0, 1) := by decide +kernel
theorem dX5_tideAt_1 : decode cX5_tideAt 1 = .ok (.istore_n 2, 1) := by decide +kernel
theorem dX5_tideAt_2 : decode cX5_tideAt 2 = .ok (.iload_n 1, 1) := by decide +kernel
theorem dX5_tideAt_3 : decode cX5_tideAt 3 = .ok (.bipush 6, 2) := by decide +kernel
theorem dX5_tideAt_5 : decode cX5_tideAt 5 = .ok (.irem, 1) := by decide +kernel
theorem dX5_tideAt_6 : decode cX5_tideAt 6 = .ok (.tableswitch 54 0 5 #[38, 43, 54, 48, 54, 43], 38) := by decide +kernel
theorem dX5_tideAt_44 : decode cX5_tideAt 44 = .ok (.iconst 0, 1) := by decide +kernel
theorem dX5_tideAt_45 : decode cX5_tideAt 45 = .ok (.istore_n 2, 1) := by decide +kernel
theorem dX5_tideAt_46 : decode cX5_tideAt 46 = .ok (.goto 17, 3) := by decide +kernel
theorem dX5_tideAt_49 : decode cX5_tideAt 49 = .ok (.iconst 5, 1) := by decide +kernel
theorem dX5_tideAt_50 : decode cX5_tideAt 50 = .ok (.istore_n 2, 1) := by decide +kernel
theorem dX5_tideAt_51 : decode cX5_tideAt 51 = .ok (.goto 12, 3) := by decide +kernel
theorem dX5_tideAt_54 : decode cX5_tideAt 54 = .ok (.bipush 10, 2) := by decide +kernel
theorem dX5_tideAt_56 : decode cX5_tideAt 56 = .ok (.istore_n 2, 1) := by decide +kernel
theorem dX5_tideAt_57 : decode cX5_tideAt 57 = .ok (.goto 6, 3) := by decide +kernel
theorem dX5_tideAt_60 : decode cX5_tideAt 60 = .ok (.bipush 9, 2) := by decide +kernel
theorem dX5_tideAt_62 : decode cX5_tideAt 62 = .ok (.istore_n 2, 1) := by decide +kernel
theorem dX5_tideAt_63 : decode cX5_tideAt 63 = .ok (.iload_n 1, 1) := by decide +kernel
theorem dX5_tideAt_64 : decode cX5_tideAt 64 = .ok (.bipush 12, 2) := by decide +kernel
theorem dX5_tideAt_66 : decode cX5_tideAt 66 = .ok (.irem, 1) := by decide +kernel
theorem dX5_tideAt_67 : decode cX5_tideAt 67 = .ok (.bipush 6, 2) := by decide +kernel
theorem dX5_tideAt_69 : decode cX5_tideAt 69 = .ok (.if_icmp .ge 7, 3) := by decide +kernel
theorem dX5_tideAt_72 : decode cX5_tideAt 72 = .ok (.iload_n 2, 1) := by decide +kernel
theorem dX5_tideAt_73 : decode cX5_tideAt 73 = .ok (.goto 5, 3) := by decide +kernel
theorem dX5_tideAt_76 : decode cX5_tideAt 76 = .ok (.iload_n 2, 1) := by decide +kernel
theorem dX5_tideAt_77 : decode cX5_tideAt 77 = .ok (.ineg, 1) := by decide +kernel
theorem dX5_tideAt_78 : decode cX5_tideAt 78 = .ok (.aload_n 0, 1) := by decide +kernel
theorem dX5_tideAt_79 : decode cX5_tideAt 79 = .ok (.getfield 7, 3) := by decide +kernel
theorem dX5_tideAt_82 : decode cX5_tideAt 82 = .ok (.iconst 1, 1) := by decide +kernel
theorem dX5_tideAt_83 : decode cX5_tideAt 83 = .ok (.iaload, 1) := by decide +kernel
theorem dX5_tideAt_84 : decode cX5_tideAt 84 = .ok (.imul, 1) := by decide +kernel
theorem dX5_tideAt_85 : decode cX5_tideAt 85 = .ok (.bipush 10, 2) := by decide +kernel
theorem dX5_tideAt_87 : decode cX5_tideAt 87 = .ok (.idiv, 1) := by decide +kernel
theorem dX5_tideAt_88 : decode cX5_tideAt 88 = .ok (.ireturn, 1) := by decide +kernel
theorem dX5_tideNow_0 : decode cX5_tideNow 0 = .ok (.aload_n 0, 1) := by decide +kernel
theorem dX5_tideNow_1 : decode cX5_tideNow 1 = .ok (.aload_n 0, 1) := by decide +kernel
theorem dX5_tideNow_2 : decode cX5_tideNow 2 = .ok (.getfield 7, 3) := by decide +kernel
theorem dX5_tideNow_5 : decode cX5_tideNow 5 = .ok (.bipush 6, 2) := by decide +kernel
theorem dX5_tideNow_7 : decode cX5_tideNow 7 = .ok (.iaload, 1) := by decide +kernel
theorem dX5_tideNow_8 : decode cX5_tideNow 8 = .ok (.invokevirtual 41, 3) := by decide +kernel
theorem dX5_tideNow_11 : decode cX5_tideNow 11 = .ok (.ireturn, 1) := by decide +kernel
theorem dX5_ofTanker_0 : decode cX5_ofTanker 0 = .ok (.aload_n 0, 1) := by decide +kernel
theorem dX5_ofTanker_1 : decode cX5_ofTanker 1 = .ok (.getfield 7, 3) := by decide +kernel
theorem dX5_ofTanker_4 : decode cX5_ofTanker 4 = .ok (.bipush 50, 2) := by decide +kernel
theorem dX5_ofTanker_6 : decode cX5_ofTanker 6 = .ok (.iconst 5, 1) := by decide +kernel
theorem dX5_ofTanker_7 : decode cX5_ofTanker 7 = .ok (.iload_n 1, 1) := by decide +kernel
theorem dX5_ofTanker_8 : decode cX5_ofTanker 8 = .ok (.imul, 1) := by decide +kernel
theorem dX5_ofTanker_9 : decode cX5_ofTanker 9 = .ok (.iadd, 1) := by decide +kernel
theorem dX5_ofTanker_10 : decode cX5_ofTanker 10 = .ok (.iload_n 2, 1) := by decide +kernel
theorem dX5_ofTanker_11 : decode cX5_ofTanker 11 = .ok (.iadd, 1) := by decide +kernel
theorem dX5_ofTanker_12 : decode cX5_ofTanker 12 = .ok (.iaload, 1) := by decide +kernel
theorem dX5_ofTanker_13 : decode cX5_ofTanker 13 = .ok (.ireturn, 1) := by decide +kernel
theorem dX5_setTanker_0 : decode cX5_setTanker 0 = .ok (.aload_n 0, 1) := by decide +kernel
theorem dX5_setTanker_1 : decode cX5_setTanker 1 = .ok (.getfield 7, 3) := by decide +kernel
theorem dX5_setTanker_4 : decode cX5_setTanker 4 = .ok (.bipush 50, 2) := by decide +kernel
theorem dX5_setTanker_6 : decode cX5_setTanker 6 = .ok (.iconst 5, 1) := by decide +kernel
theorem dX5_setTanker_7 : decode cX5_setTanker 7 = .ok (.iload_n 1, 1) := by decide +kernel
theorem dX5_setTanker_8 : decode cX5_setTanker 8 = .ok (.imul, 1) := by decide +kernel
theorem dX5_setTanker_9 : decode cX5_setTanker 9 = .ok (.iadd, 1) := by decide +kernel
theorem dX5_setTanker_10 : decode cX5_setTanker 10 = .ok (.iload_n 2, 1) := by decide +kernel
theorem dX5_setTanker_11 : decode cX5_setTanker 11 = .ok (.iadd, 1) := by decide +kernel
theorem dX5_setTanker_12 : decode cX5_setTanker 12 = .ok (.iload_n 3, 1) := by decide +kernel
theorem dX5_setTanker_13 : decode cX5_setTanker 13 = .ok (.iastore, 1) := by decide +kernel
theorem dX5_setTanker_14 : decode cX5_setTanker 14 = .ok (.return_, 1) := by decide +kernel
theorem dX5_unitsOf_0 : decode cX5_unitsOf 0 = .ok (.iconst 0, 1) := by decide +kernel
theorem dX5_unitsOf_1 : decode cX5_unitsOf 1 = .ok (.istore_n 2, 1) := by decide +kernel
theorem dX5_unitsOf_2 : decode cX5_unitsOf 2 = .ok (.iconst 0, 1) := by decide +kernel
theorem dX5_unitsOf_3 : decode cX5_unitsOf 3 = .ok (.istore_n 3, 1) := by decide +kernel
theorem dX5_unitsOf_4 : decode cX5_unitsOf 4 = .ok (.iload_n 3, 1) := by decide +kernel
theorem dX5_unitsOf_5 : decode cX5_unitsOf 5 = .ok (.iconst 4, 1) := by decide +kernel
theorem dX5_unitsOf_6 : decode cX5_unitsOf 6 = .ok (.if_icmp .ge 18, 3) := by decide +kernel
theorem dX5_unitsOf_9 : decode cX5_unitsOf 9 = .ok (.iload_n 2, 1) := by decide +kernel
theorem dX5_unitsOf_10 : decode cX5_unitsOf 10 = .ok (.aload_n 0, 1) := by decide +kernel
theorem dX5_unitsOf_11 : decode cX5_unitsOf 11 = .ok (.iload_n 1, 1) := by decide +kernel
theorem dX5_unitsOf_12 : decode cX5_unitsOf 12 = .ok (.iload_n 3, 1) := by decide +kernel
theorem dX5_unitsOf_13 : decode cX5_unitsOf 13 = .ok (.invokevirtual 45, 3) := by decide +kernel
theorem dX5_unitsOf_16 : decode cX5_unitsOf 16 = .ok (.iadd, 1) := by decide +kernel
theorem dX5_unitsOf_17 : decode cX5_unitsOf 17 = .ok (.istore_n 2, 1) := by decide +kernel
theorem dX5_unitsOf_18 : decode cX5_unitsOf 18 = .ok (.iinc 3 1, 3) := by decide +kernel
theorem dX5_unitsOf_21 : decode cX5_unitsOf 21 = .ok (.goto (-17), 3) := by decide +kernel
theorem dX5_unitsOf_24 : decode cX5_unitsOf 24 = .ok (.iload_n 2, 1) := by decide +kernel
theorem dX5_unitsOf_25 : decode cX5_unitsOf 25 = .ok (.ireturn, 1) := by decide +kernel
theorem dX5_draughtOf_0 : decode cX5_draughtOf 0 = .ok (.bipush 40, 2) := by decide +kernel
theorem dX5_draughtOf_2 : decode cX5_draughtOf 2 = .ok (.aload_n 0, 1) := by decide +kernel
theorem dX5_draughtOf_3 : decode cX5_draughtOf 3 = .ok (.iload_n 1, 1) := by decide +kernel
theorem dX5_draughtOf_4 : decode cX5_draughtOf 4 = .ok (.invokevirtual 49, 3) := by decide +kernel
theorem dX5_draughtOf_7 : decode cX5_draughtOf 7 = .ok (.bipush 20, 2) := by decide +kernel
theorem dX5_draughtOf_9 : decode cX5_draughtOf 9 = .ok (.idiv, 1) := by decide +kernel
theorem dX5_draughtOf_10 : decode cX5_draughtOf 10 = .ok (.iadd, 1) := by decide +kernel
theorem dX5_draughtOf_11 : decode cX5_draughtOf 11 = .ok (.ireturn, 1) := by decide +kernel
theorem dX5_heightOf_0 : decode cX5_heightOf 0 = .ok (.bipush 100, 2) := by decide +kernel
theorem dX5_heightOf_2 : decode cX5_heightOf 2 = .ok (.aload_n 0, 1) := by decide +kernel
theorem dX5_heightOf_3 : decode cX5_heightOf 3 = .ok (.invokevirtual 52, 3) := by decide +kernel
theorem dX5_heightOf_6 : decode cX5_heightOf 6 = .ok (.iadd, 1) := by decide +kernel
theorem dX5_heightOf_7 : decode cX5_heightOf 7 = .ok (.aload_n 0, 1) := by decide +kernel
theorem dX5_heightOf_8 : decode cX5_heightOf 8 = .ok (.iload_n 1, 1) := by decide +kernel
theorem dX5_heightOf_9 : decode cX5_heightOf 9 = .ok (.invokevirtual 56, 3) := by decide +kernel
theorem dX5_heightOf_12 : decode cX5_heightOf 12 = .ok (.isub, 1) := by decide +kernel
theorem dX5_heightOf_13 : decode cX5_heightOf 13 = .ok (.ireturn, 1) := by decide +kernel
theorem dX5_floats_0 : decode cX5_floats 0 = .ok (.aload_n 0, 1) := by decide +kernel
theorem dX5_floats_1 : decode cX5_floats 1 = .ok (.getfield 7, 3) := by decide +kernel
theorem dX5_floats_4 : decode cX5_floats 4 = .ok (.iconst 0, 1) := by decide +kernel
theorem dX5_floats_5 : decode cX5_floats 5 = .ok (.iaload, 1) := by decide +kernel
theorem dX5_floats_6 : decode cX5_floats 6 = .ok (.aload_n 0, 1) := by decide +kernel
theorem dX5_floats_7 : decode cX5_floats 7 = .ok (.iload_n 2, 1) := by decide +kernel
theorem dX5_floats_8 : decode cX5_floats 8 = .ok (.invokevirtual 41, 3) := by decide +kernel
theorem dX5_floats_11 : decode cX5_floats 11 = .ok (.iadd, 1) := by decide +kernel
theorem dX5_floats_12 : decode cX5_floats 12 = .ok (.aload_n 0, 1) := by decide +kernel
theorem dX5_floats_13 : decode cX5_floats 13 = .ok (.iload_n 1, 1) := by decide +kernel
theorem dX5_floats_14 : decode cX5_floats 14 = .ok (.invokevirtual 56, 3) := by decide +kernel
theorem dX5_floats_17 : decode cX5_floats 17 = .ok (.aload_n 0, 1) := by decide +kernel
theorem dX5_floats_18 : decode cX5_floats 18 = .ok (.getfield 7, 3) := by decide +kernel
theorem dX5_floats_21 : decode cX5_floats 21 = .ok (.iconst 2, 1) := by decide +kernel
theorem dX5_floats_22 : decode cX5_floats 22 = .ok (.iaload, 1) := by decide +kernel
theorem dX5_floats_23 : decode cX5_floats 23 = .ok (.iadd, 1) := by decide +kernel
theorem dX5_floats_24 : decode cX5_floats 24 = .ok (.if_icmp .lt 7, 3) := by decide +kernel
theorem dX5_floats_27 : decode cX5_floats 27 = .ok (.iconst 1, 1) := by decide +kernel
theorem dX5_floats_28 : decode cX5_floats 28 = .ok (.goto 4, 3) := by decide +kernel
theorem dX5_floats_31 : decode cX5_floats 31 = .ok (.iconst 0, 1) := by decide +kernel
theorem dX5_floats_32 : decode cX5_floats 32 = .ok (.ireturn, 1) := by decide +kernel
theorem dX5_isTanker_0 : decode cX5_isTanker 0 = .ok (.iload_n 1, 1) := by decide +kernel
theorem dX5_isTanker_1 : decode cX5_isTanker 1 = .ok (.ifCond .ne 22, 3) := by decide +kernel
theorem dX5_isTanker_4 : decode cX5_isTanker 4 = .ok (.aload_n 0, 1) := by decide +kernel
theorem dX5_isTanker_5 : decode cX5_isTanker 5 = .ok (.getfield 7, 3) := by decide +kernel
theorem dX5_isTanker_8 : decode cX5_isTanker 8 = .ok (.bipush 13, 2) := by decide +kernel
theorem dX5_isTanker_10 : decode cX5_isTanker 10 = .ok (.iaload, 1) := by decide +kernel
theorem dX5_isTanker_11 : decode cX5_isTanker 11 = .ok (.iconst 1, 1) := by decide +kernel
theorem dX5_isTanker_12 : decode cX5_isTanker 12 = .ok (.if_icmp .ne 7, 3) := by decide +kernel
theorem dX5_isTanker_15 : decode cX5_isTanker 15 = .ok (.iconst 1, 1) := by decide +kernel
theorem dX5_isTanker_16 : decode cX5_isTanker 16 = .ok (.goto 19, 3) := by decide +kernel
theorem dX5_isTanker_19 : decode cX5_isTanker 19 = .ok (.iconst 0, 1) := by decide +kernel
theorem dX5_isTanker_20 : decode cX5_isTanker 20 = .ok (.goto 15, 3) := by decide +kernel
theorem dX5_isTanker_23 : decode cX5_isTanker 23 = .ok (.iload_n 1, 1) := by decide +kernel
theorem dX5_isTanker_24 : decode cX5_isTanker 24 = .ok (.iconst 1, 1) := by decide +kernel
theorem dX5_isTanker_25 : decode cX5_isTanker 25 = .ok (.aload_n 0, 1) := by decide +kernel
theorem dX5_isTanker_26 : decode cX5_isTanker 26 = .ok (.getfield 7, 3) := by decide +kernel
theorem dX5_isTanker_29 : decode cX5_isTanker 29 = .ok (.bipush 12, 2) := by decide +kernel
theorem dX5_isTanker_31 : decode cX5_isTanker 31 = .ok (.iaload, 1) := by decide +kernel
theorem dX5_isTanker_32 : decode cX5_isTanker 32 = .ok (.invokestatic 59, 3) := by decide +kernel
theorem dX5_isTanker_35 : decode cX5_isTanker 35 = .ok (.ireturn, 1) := by decide +kernel
theorem dX5_hoseOf_0 : decode cX5_hoseOf 0 = .ok (.aload_n 0, 1) := by decide +kernel
theorem dX5_hoseOf_1 : decode cX5_hoseOf 1 = .ok (.getfield 7, 3) := by decide +kernel
theorem dX5_hoseOf_4 : decode cX5_hoseOf 4 = .ok (.bipush 26, 2) := by decide +kernel
theorem dX5_hoseOf_6 : decode cX5_hoseOf 6 = .ok (.bipush 6, 2) := by decide +kernel
theorem dX5_hoseOf_8 : decode cX5_hoseOf 8 = .ok (.iload_n 1, 1) := by decide +kernel
theorem dX5_hoseOf_9 : decode cX5_hoseOf 9 = .ok (.imul, 1) := by decide +kernel
theorem dX5_hoseOf_10 : decode cX5_hoseOf 10 = .ok (.iadd, 1) := by decide +kernel
theorem dX5_hoseOf_11 : decode cX5_hoseOf 11 = .ok (.iload_n 2, 1) := by decide +kernel
theorem dX5_hoseOf_12 : decode cX5_hoseOf 12 = .ok (.iadd, 1) := by decide +kernel
theorem dX5_hoseOf_13 : decode cX5_hoseOf 13 = .ok (.iaload, 1) := by decide +kernel
theorem dX5_hoseOf_14 : decode cX5_hoseOf 14 = .ok (.ireturn, 1) := by decide +kernel
theorem dX5_setHose_0 : decode cX5_setHose 0 = .ok (.aload_n 0, 1) := by decide +kernel
theorem dX5_setHose_1 : decode cX5_setHose 1 = .ok (.getfield 7, 3) := by decide +kernel
theorem dX5_setHose_4 : decode cX5_setHose 4 = .ok (.bipush 26, 2) := by decide +kernel
theorem dX5_setHose_6 : decode cX5_setHose 6 = .ok (.bipush 6, 2) := by decide +kernel
theorem dX5_setHose_8 : decode cX5_setHose 8 = .ok (.iload_n 1, 1) := by decide +kernel
theorem dX5_setHose_9 : decode cX5_setHose 9 = .ok (.imul, 1) := by decide +kernel
theorem dX5_setHose_10 : decode cX5_setHose 10 = .ok (.iadd, 1) := by decide +kernel
theorem dX5_setHose_11 : decode cX5_setHose 11 = .ok (.iload_n 2, 1) := by decide +kernel
theorem dX5_setHose_12 : decode cX5_setHose 12 = .ok (.iadd, 1) := by decide +kernel
theorem dX5_setHose_13 : decode cX5_setHose 13 = .ok (.iload_n 3, 1) := by decide +kernel
theorem dX5_setHose_14 : decode cX5_setHose 14 = .ok (.iastore, 1) := by decide +kernel
theorem dX5_setHose_15 : decode cX5_setHose 15 = .ok (.return_, 1) := by decide +kernel
theorem dX5_isHose_0 : decode cX5_isHose 0 = .ok (.iload_n 0, 1) := by decide +kernel
theorem dX5_isHose_1 : decode cX5_isHose 1 = .ok (.iconst 0, 1) := by decide +kernel
theorem dX5_isHose_2 : decode cX5_isHose 2 = .ok (.iconst 3, 1) := by decide +kernel
theorem dX5_isHose_3 : decode cX5_isHose 3 = .ok (.invokestatic 59, 3) := by decide +kernel
theorem dX5_isHose_6 : decode cX5_isHose 6 = .ok (.ireturn, 1) := by decide +kernel
theorem dX5_isGrade_0 : decode cX5_isGrade 0 = .ok (.iload_n 0, 1) := by decide +kernel
theorem dX5_isGrade_1 : decode cX5_isGrade 1 = .ok (.iconst 0, 1) := by decide +kernel
theorem dX5_isGrade_2 : decode cX5_isGrade 2 = .ok (.iconst 3, 1) := by decide +kernel
theorem dX5_isGrade_3 : decode cX5_isGrade 3 = .ok (.invokestatic 59, 3) := by decide +kernel
theorem dX5_isGrade_6 : decode cX5_isGrade 6 = .ok (.ireturn, 1) := by decide +kernel
theorem dX5_isConnected_0 : decode cX5_isConnected 0 = .ok (.aload_n 0, 1) := by decide +kernel
theorem dX5_isConnected_1 : decode cX5_isConnected 1 = .ok (.iload_n 1, 1) := by decide +kernel
theorem dX5_isConnected_2 : decode cX5_isConnected 2 = .ok (.iconst 2, 1) := by decide +kernel
theorem dX5_isConnected_3 : decode cX5_isConnected 3 = .ok (.invokevirtual 63, 3) := by decide +kernel
theorem dX5_isConnected_6 : decode cX5_isConnected 6 = .ok (.ifCond .lt 7, 3) := by decide +kernel
theorem dX5_isConnected_9 : decode cX5_isConnected 9 = .ok (.iconst 1, 1) := by decide +kernel
theorem dX5_isConnected_10 : decode cX5_isConnected 10 = .ok (.goto 4, 3) := by decide +kernel
theorem dX5_isConnected_13 : decode cX5_isConnected 13 = .ok (.iconst 0, 1) := by decide +kernel
theorem dX5_isConnected_14 : decode cX5_isConnected 14 = .ok (.ireturn, 1) := by decide +kernel
theorem dX5_connected_0 : decode cX5_connected 0 = .ok (.iconst 0, 1) := by decide +kernel
theorem dX5_connected_1 : decode cX5_connected 1 = .ok (.istore_n 1, 1) := by decide +kernel
theorem dX5_connected_2 : decode cX5_connected 2 = .ok (.iconst 0, 1) := by decide +kernel
theorem dX5_connected_3 : decode cX5_connected 3 = .ok (.istore_n 2, 1) := by decide +kernel
theorem dX5_connected_4 : decode cX5_connected 4 = .ok (.iload_n 2, 1) := by decide +kernel
theorem dX5_connected_5 : decode cX5_connected 5 = .ok (.iconst 4, 1) := by decide +kernel
theorem dX5_connected_6 : decode cX5_connected 6 = .ok (.if_icmp .ge 25, 3) := by decide +kernel
theorem dX5_connected_9 : decode cX5_connected 9 = .ok (.iload_n 1, 1) := by decide +kernel
theorem dX5_connected_10 : decode cX5_connected 10 = .ok (.aload_n 0, 1) := by decide +kernel
theorem dX5_connected_11 : decode cX5_connected 11 = .ok (.iload_n 2, 1) := by decide +kernel
theorem dX5_connected_12 : decode cX5_connected 12 = .ok (.invokevirtual 66, 3) := by decide +kernel
theorem dX5_connected_15 : decode cX5_connected 15 = .ok (.ifCond .eq 7, 3) := by decide +kernel
theorem dX5_connected_18 : decode cX5_connected 18 = .ok (.iconst 1, 1) := by decide +kernel
theorem dX5_connected_19 : decode cX5_connected 19 = .ok (.goto 4, 3) := by decide +kernel
theorem dX5_connected_22 : decode cX5_connected 22 = .ok (.iconst 0, 1) := by decide +kernel
theorem dX5_connected_23 : decode cX5_connected 23 = .ok (.iadd, 1) := by decide +kernel
theorem dX5_connected_24 : decode cX5_connected 24 = .ok (.istore_n 1, 1) := by decide +kernel
theorem dX5_connected_25 : decode cX5_connected 25 = .ok (.iinc 2 1, 3) := by decide +kernel
theorem dX5_connected_28 : decode cX5_connected 28 = .ok (.goto (-24), 3) := by decide +kernel
theorem dX5_connected_31 : decode cX5_connected 31 = .ok (.iload_n 1, 1) := by decide +kernel
theorem dX5_connected_32 : decode cX5_connected 32 = .ok (.ireturn, 1) := by decide +kernel
theorem dX5_burst_0 : decode cX5_burst 0 = .ok (.iconst 0, 1) := by decide +kernel
theorem dX5_burst_1 : decode cX5_burst 1 = .ok (.istore_n 1, 1) := by decide +kernel
theorem dX5_burst_2 : decode cX5_burst 2 = .ok (.iconst 0, 1) := by decide +kernel
theorem dX5_burst_3 : decode cX5_burst 3 = .ok (.istore_n 2, 1) := by decide +kernel
theorem dX5_burst_4 : decode cX5_burst 4 = .ok (.iload_n 2, 1) := by decide +kernel
theorem dX5_burst_5 : decode cX5_burst 5 = .ok (.iconst 4, 1) := by decide +kernel
theorem dX5_burst_6 : decode cX5_burst 6 = .ok (.if_icmp .ge 18, 3) := by decide +kernel
theorem dX5_burst_9 : decode cX5_burst 9 = .ok (.iload_n 1, 1) := by decide +kernel
theorem dX5_burst_10 : decode cX5_burst 10 = .ok (.aload_n 0, 1) := by decide +kernel
theorem dX5_burst_11 : decode cX5_burst 11 = .ok (.iload_n 2, 1) := by decide +kernel
theorem dX5_burst_12 : decode cX5_burst 12 = .ok (.iconst 3, 1) := by decide +kernel
theorem dX5_burst_13 : decode cX5_burst 13 = .ok (.invokevirtual 63, 3) := by decide +kernel
theorem dX5_burst_16 : decode cX5_burst 16 = .ok (.iadd, 1) := by decide +kernel
theorem dX5_burst_17 : decode cX5_burst 17 = .ok (.istore_n 1, 1) := by decide +kernel
theorem dX5_burst_18 : decode cX5_burst 18 = .ok (.iinc 2 1, 3) := by decide +kernel
theorem dX5_burst_21 : decode cX5_burst 21 = .ok (.goto (-17), 3) := by decide +kernel
theorem dX5_burst_24 : decode cX5_burst 24 = .ok (.iload_n 1, 1) := by decide +kernel
theorem dX5_burst_25 : decode cX5_burst 25 = .ok (.ireturn, 1) := by decide +kernel
theorem dX5_spoiltInAll_0 : decode cX5_spoiltInAll 0 = .ok (.iconst 0, 1) := by decide +kernel
theorem dX5_spoiltInAll_1 : decode cX5_spoiltInAll 1 = .ok (.istore_n 1, 1) := by decide +kernel
theorem dX5_spoiltInAll_2 : decode cX5_spoiltInAll 2 = .ok (.iconst 0, 1) := by decide +kernel
theorem dX5_spoiltInAll_3 : decode cX5_spoiltInAll 3 = .ok (.istore_n 2, 1) := by decide +kernel
theorem dX5_spoiltInAll_4 : decode cX5_spoiltInAll 4 = .ok (.iload_n 2, 1) := by decide +kernel
theorem dX5_spoiltInAll_5 : decode cX5_spoiltInAll 5 = .ok (.iconst 4, 1) := by decide +kernel
theorem dX5_spoiltInAll_6 : decode cX5_spoiltInAll 6 = .ok (.if_icmp .ge 21, 3) := by decide +kernel
theorem dX5_spoiltInAll_9 : decode cX5_spoiltInAll 9 = .ok (.iload_n 1, 1) := by decide +kernel
theorem dX5_spoiltInAll_10 : decode cX5_spoiltInAll 10 = .ok (.aload_n 0, 1) := by decide +kernel
theorem dX5_spoiltInAll_11 : decode cX5_spoiltInAll 11 = .ok (.getfield 7, 3) := by decide +kernel
theorem dX5_spoiltInAll_14 : decode cX5_spoiltInAll 14 = .ok (.bipush 18, 2) := by decide +kernel
theorem dX5_spoiltInAll_16 : decode cX5_spoiltInAll 16 = .ok (.iload_n 2, 1) := by decide +kernel
theorem dX5_spoiltInAll_17 : decode cX5_spoiltInAll 17 = .ok (.iadd, 1) := by decide +kernel
theorem dX5_spoiltInAll_18 : decode cX5_spoiltInAll 18 = .ok (.iaload, 1) := by decide +kernel
theorem dX5_spoiltInAll_19 : decode cX5_spoiltInAll 19 = .ok (.iadd, 1) := by decide +kernel
theorem dX5_spoiltInAll_20 : decode cX5_spoiltInAll 20 = .ok (.istore_n 1, 1) := by decide +kernel
theorem dX5_spoiltInAll_21 : decode cX5_spoiltInAll 21 = .ok (.iinc 2 1, 3) := by decide +kernel
theorem dX5_spoiltInAll_24 : decode cX5_spoiltInAll 24 = .ok (.goto (-20), 3) := by decide +kernel
theorem dX5_spoiltInAll_27 : decode cX5_spoiltInAll 27 = .ok (.iload_n 1, 1) := by decide +kernel
theorem dX5_spoiltInAll_28 : decode cX5_spoiltInAll 28 = .ok (.ireturn, 1) := by decide +kernel
theorem dX5_bursts_0 : decode cX5_bursts 0 = .ok (.aload_n 0, 1) := by decide +kernel
theorem dX5_bursts_1 : decode cX5_bursts 1 = .ok (.iload_n 1, 1) := by decide +kernel
theorem dX5_bursts_2 : decode cX5_bursts 2 = .ok (.iconst 2, 1) := by decide +kernel
theorem dX5_bursts_3 : decode cX5_bursts 3 = .ok (.invokevirtual 63, 3) := by decide +kernel
theorem dX5_bursts_6 : decode cX5_bursts 6 = .ok (.istore_n 2, 1) := by decide +kernel
theorem dX5_bursts_7 : decode cX5_bursts 7 = .ok (.aload_n 0, 1) := by decide +kernel
theorem dX5_bursts_8 : decode cX5_bursts 8 = .ok (.getfield 7, 3) := by decide +kernel
theorem dX5_bursts_11 : decode cX5_bursts 11 = .ok (.iconst 3, 1) := by decide +kernel
theorem dX5_bursts_12 : decode cX5_bursts 12 = .ok (.iaload, 1) := by decide +kernel
theorem dX5_bursts_13 : decode cX5_bursts 13 = .ok (.aload_n 0, 1) := by decide +kernel
theorem dX5_bursts_14 : decode cX5_bursts 14 = .ok (.iconst 0, 1) := by decide +kernel
theorem dX5_bursts_15 : decode cX5_bursts 15 = .ok (.iload_n 2, 1) := by decide +kernel
theorem dX5_bursts_16 : decode cX5_bursts 16 = .ok (.invokevirtual 45, 3) := by decide +kernel
theorem dX5_bursts_19 : decode cX5_bursts 19 = .ok (.invokestatic 70, 3) := by decide +kernel
theorem dX5_bursts_22 : decode cX5_bursts 22 = .ok (.istore_n 3, 1) := by decide +kernel
theorem dX5_bursts_23 : decode cX5_bursts 23 = .ok (.aload_n 0, 1) := by decide +kernel
theorem dX5_bursts_24 : decode cX5_bursts 24 = .ok (.getfield 7, 3) := by decide +kernel
theorem dX5_bursts_27 : decode cX5_bursts 27 = .ok (.bipush 7, 2) := by decide +kernel
theorem dX5_bursts_29 : decode cX5_bursts 29 = .ok (.iaload, 1) := by decide +kernel
theorem dX5_bursts_30 : decode cX5_bursts 30 = .ok (.iconst 1, 1) := by decide +kernel
theorem dX5_bursts_31 : decode cX5_bursts 31 = .ok (.if_icmp .ne 21, 3) := by decide +kernel
theorem dX5_bursts_34 : decode cX5_bursts 34 = .ok (.iload_n 3, 1) := by decide +kernel
theorem dX5_bursts_35 : decode cX5_bursts 35 = .ok (.sipush 200, 3) := by decide +kernel
theorem dX5_bursts_38 : decode cX5_bursts 38 = .ok (.aload_n 0, 1) := by decide +kernel
theorem dX5_bursts_39 : decode cX5_bursts 39 = .ok (.getfield 7, 3) := by decide +kernel
theorem dX5_bursts_42 : decode cX5_bursts 42 = .ok (.bipush 8, 2) := by decide +kernel
theorem dX5_bursts_44 : decode cX5_bursts 44 = .ok (.iaload, 1) := by decide +kernel
theorem dX5_bursts_45 : decode cX5_bursts 45 = .ok (.isub, 1) := by decide +kernel
theorem dX5_bursts_46 : decode cX5_bursts 46 = .ok (.invokestatic 70, 3) := by decide +kernel
theorem dX5_bursts_49 : decode cX5_bursts 49 = .ok (.goto 4, 3) := by decide +kernel
theorem dX5_bursts_52 : decode cX5_bursts 52 = .ok (.iconst 0, 1) := by decide +kernel
theorem dX5_bursts_53 : decode cX5_bursts 53 = .ok (.istore 4, 2) := by decide +kernel
theorem dX5_bursts_55 : decode cX5_bursts 55 = .ok (.aload_n 0, 1) := by decide +kernel
theorem dX5_bursts_56 : decode cX5_bursts 56 = .ok (.iconst 0, 1) := by decide +kernel
theorem dX5_bursts_57 : decode cX5_bursts 57 = .ok (.iload_n 2, 1) := by decide +kernel
theorem dX5_bursts_58 : decode cX5_bursts 58 = .ok (.aload_n 0, 1) := by decide +kernel
theorem dX5_bursts_59 : decode cX5_bursts 59 = .ok (.iconst 0, 1) := by decide +kernel
theorem dX5_bursts_60 : decode cX5_bursts 60 = .ok (.iload_n 2, 1) := by decide +kernel
theorem dX5_bursts_61 : decode cX5_bursts 61 = .ok (.invokevirtual 45, 3) := by decide +kernel
theorem dX5_bursts_64 : decode cX5_bursts 64 = .ok (.iload_n 3, 1) := by decide +kernel
theorem dX5_bursts_65 : decode cX5_bursts 65 = .ok (.isub, 1) := by decide +kernel
theorem dX5_bursts_66 : decode cX5_bursts 66 = .ok (.invokevirtual 73, 3) := by decide +kernel
theorem dX5_bursts_69 : decode cX5_bursts 69 = .ok (.aload_n 0, 1) := by decide +kernel
theorem dX5_bursts_70 : decode cX5_bursts 70 = .ok (.getfield 7, 3) := by decide +kernel
theorem dX5_bursts_73 : decode cX5_bursts 73 = .ok (.bipush 22, 2) := by decide +kernel
theorem dX5_bursts_75 : decode cX5_bursts 75 = .ok (.iload_n 2, 1) := by decide +kernel
theorem dX5_bursts_76 : decode cX5_bursts 76 = .ok (.iadd, 1) := by decide +kernel
theorem dX5_bursts_77 : decode cX5_bursts 77 = .ok (.dup2, 1) := by decide +kernel
theorem dX5_bursts_78 : decode cX5_bursts 78 = .ok (.iaload, 1) := by decide +kernel
theorem dX5_bursts_79 : decode cX5_bursts 79 = .ok (.iload_n 3, 1) := by decide +kernel
theorem dX5_bursts_80 : decode cX5_bursts 80 = .ok (.iadd, 1) := by decide +kernel
theorem dX5_bursts_81 : decode cX5_bursts 81 = .ok (.iastore, 1) := by decide +kernel
theorem dX5_bursts_82 : decode cX5_bursts 82 = .ok (.aload_n 0, 1) := by decide +kernel
theorem dX5_bursts_83 : decode cX5_bursts 83 = .ok (.getfield 7, 3) := by decide +kernel
theorem dX5_bursts_86 : decode cX5_bursts 86 = .ok (.bipush 8, 2) := by decide +kernel
theorem dX5_bursts_88 : decode cX5_bursts 88 = .ok (.dup2, 1) := by decide +kernel
theorem dX5_bursts_89 : decode cX5_bursts 89 = .ok (.iaload, 1) := by decide +kernel
theorem dX5_bursts_90 : decode cX5_bursts 90 = .ok (.iload 4, 2) := by decide +kernel
theorem dX5_bursts_92 : decode cX5_bursts 92 = .ok (.iadd, 1) := by decide +kernel
theorem dX5_bursts_93 : decode cX5_bursts 93 = .ok (.iastore, 1) := by decide +kernel
theorem dX5_bursts_94 : decode cX5_bursts 94 = .ok (.aload_n 0, 1) := by decide +kernel
theorem dX5_bursts_95 : decode cX5_bursts 95 = .ok (.getfield 7, 3) := by decide +kernel
theorem dX5_bursts_98 : decode cX5_bursts 98 = .ok (.bipush 9, 2) := by decide +kernel
theorem dX5_bursts_100 : decode cX5_bursts 100 = .ok (.dup2, 1) := by decide +kernel
theorem dX5_bursts_101 : decode cX5_bursts 101 = .ok (.iaload, 1) := by decide +kernel
theorem dX5_bursts_102 : decode cX5_bursts 102 = .ok (.iload_n 3, 1) := by decide +kernel
theorem dX5_bursts_103 : decode cX5_bursts 103 = .ok (.iload 4, 2) := by decide +kernel
theorem dX5_bursts_105 : decode cX5_bursts 105 = .ok (.isub, 1) := by decide +kernel
theorem dX5_bursts_106 : decode cX5_bursts 106 = .ok (.iadd, 1) := by decide +kernel
theorem dX5_bursts_107 : decode cX5_bursts 107 = .ok (.iastore, 1) := by decide +kernel
theorem dX5_bursts_108 : decode cX5_bursts 108 = .ok (.aload_n 0, 1) := by decide +kernel
theorem dX5_bursts_109 : decode cX5_bursts 109 = .ok (.iload_n 1, 1) := by decide +kernel
theorem dX5_bursts_110 : decode cX5_bursts 110 = .ok (.iconst 2, 1) := by decide +kernel
theorem dX5_bursts_111 : decode cX5_bursts 111 = .ok (.ldc 36, 2) := by decide +kernel
theorem dX5_bursts_113 : decode cX5_bursts 113 = .ok (.invokevirtual 32, 3) := by decide +kernel
theorem dX5_bursts_116 : decode cX5_bursts 116 = .ok (.aload_n 0, 1) := by decide +kernel
theorem dX5_bursts_117 : decode cX5_bursts 117 = .ok (.iload_n 1, 1) := by decide +kernel
theorem dX5_bursts_118 : decode cX5_bursts 118 = .ok (.iconst 3, 1) := by decide +kernel
theorem dX5_bursts_119 : decode cX5_bursts 119 = .ok (.iconst 1, 1) := by decide +kernel
theorem dX5_bursts_120 : decode cX5_bursts 120 = .ok (.invokevirtual 32, 3) := by decide +kernel
theorem dX5_bursts_123 : decode cX5_bursts 123 = .ok (.return_, 1) := by decide +kernel
theorem dX5_moves_0 : decode cX5_moves 0 = .ok (.aload_n 0, 1) := by decide +kernel
theorem dX5_moves_1 : decode cX5_moves 1 = .ok (.iload_n 1, 1) := by decide +kernel
theorem dX5_moves_2 : decode cX5_moves 2 = .ok (.iconst 2, 1) := by decide +kernel
theorem dX5_moves_3 : decode cX5_moves 3 = .ok (.invokevirtual 63, 3) := by decide +kernel
theorem dX5_moves_6 : decode cX5_moves 6 = .ok (.istore_n 2, 1) := by decide +kernel
theorem dX5_moves_7 : decode cX5_moves 7 = .ok (.aload_n 0, 1) := by decide +kernel
theorem dX5_moves_8 : decode cX5_moves 8 = .ok (.getfield 7, 3) := by decide +kernel
theorem dX5_moves_11 : decode cX5_moves 11 = .ok (.iconst 3, 1) := by decide +kernel
theorem dX5_moves_12 : decode cX5_moves 12 = .ok (.iaload, 1) := by decide +kernel
theorem dX5_moves_13 : decode cX5_moves 13 = .ok (.aload_n 0, 1) := by decide +kernel
theorem dX5_moves_14 : decode cX5_moves 14 = .ok (.iconst 0, 1) := by decide +kernel
theorem dX5_moves_15 : decode cX5_moves 15 = .ok (.iload_n 2, 1) := by decide +kernel
theorem dX5_moves_16 : decode cX5_moves 16 = .ok (.invokevirtual 45, 3) := by decide +kernel
theorem dX5_moves_19 : decode cX5_moves 19 = .ok (.invokestatic 70, 3) := by decide +kernel
theorem dX5_moves_22 : decode cX5_moves 22 = .ok (.sipush 1000, 3) := by decide +kernel
theorem dX5_moves_25 : decode cX5_moves 25 = .ok (.aload_n 0, 1) := by decide +kernel
theorem dX5_moves_26 : decode cX5_moves 26 = .ok (.getfield 7, 3) := by decide +kernel
theorem dX5_moves_29 : decode cX5_moves 29 = .ok (.bipush 14, 2) := by decide +kernel
theorem dX5_moves_31 : decode cX5_moves 31 = .ok (.iload_n 2, 1) := by decide +kernel
theorem dX5_moves_32 : decode cX5_moves 32 = .ok (.iadd, 1) := by decide +kernel
theorem dX5_moves_33 : decode cX5_moves 33 = .ok (.iaload, 1) := by decide +kernel
theorem dX5_moves_34 : decode cX5_moves 34 = .ok (.isub, 1) := by decide +kernel
theorem dX5_moves_35 : decode cX5_moves 35 = .ok (.invokestatic 70, 3) := by decide +kernel
theorem dX5_moves_38 : decode cX5_moves 38 = .ok (.istore_n 3, 1) := by decide +kernel
theorem dX5_moves_39 : decode cX5_moves 39 = .ok (.aload_n 0, 1) := by decide +kernel
theorem dX5_moves_40 : decode cX5_moves 40 = .ok (.iload_n 1, 1) := by decide +kernel
theorem dX5_moves_41 : decode cX5_moves 41 = .ok (.iconst 1, 1) := by decide +kernel
theorem dX5_moves_42 : decode cX5_moves 42 = .ok (.invokevirtual 63, 3) := by decide +kernel
theorem dX5_moves_45 : decode cX5_moves 45 = .ok (.ifCond .lt 17, 3) := by decide +kernel
theorem dX5_moves_48 : decode cX5_moves 48 = .ok (.aload_n 0, 1) := by decide +kernel
theorem dX5_moves_49 : decode cX5_moves 49 = .ok (.iload_n 1, 1) := by decide +kernel
theorem dX5_moves_50 : decode cX5_moves 50 = .ok (.iconst 1, 1) := by decide +kernel
theorem dX5_moves_51 : decode cX5_moves 51 = .ok (.invokevirtual 63, 3) := by decide +kernel
theorem dX5_moves_54 : decode cX5_moves 54 = .ok (.iload_n 2, 1) := by decide +kernel
theorem dX5_moves_55 : decode cX5_moves 55 = .ok (.if_icmp .eq 7, 3) := by decide +kernel
theorem dX5_moves_58 : decode cX5_moves 58 = .ok (.iconst 1, 1) := by decide +kernel
theorem dX5_moves_59 : decode cX5_moves 59 = .ok (.goto 4, 3) := by decide +kernel
theorem dX5_moves_62 : decode cX5_moves 62 = .ok (.iconst 0, 1) := by decide +kernel
theorem dX5_moves_63 : decode cX5_moves 63 = .ok (.istore 4, 2) := by decide +kernel
theorem dX5_moves_65 : decode cX5_moves 65 = .ok (.aload_n 0, 1) := by decide +kernel
theorem dX5_moves_66 : decode cX5_moves 66 = .ok (.iconst 0, 1) := by decide +kernel
theorem dX5_moves_67 : decode cX5_moves 67 = .ok (.iload_n 2, 1) := by decide +kernel
theorem dX5_moves_68 : decode cX5_moves 68 = .ok (.aload_n 0, 1) := by decide +kernel
theorem dX5_moves_69 : decode cX5_moves 69 = .ok (.iconst 0, 1) := by decide +kernel
theorem dX5_moves_70 : decode cX5_moves 70 = .ok (.iload_n 2, 1) := by decide +kernel
theorem dX5_moves_71 : decode cX5_moves 71 = .ok (.invokevirtual 45, 3) := by decide +kernel
theorem dX5_moves_74 : decode cX5_moves 74 = .ok (.iload_n 3, 1) := by decide +kernel
theorem dX5_moves_75 : decode cX5_moves 75 = .ok (.isub, 1) := by decide +kernel
theorem dX5_moves_76 : decode cX5_moves 76 = .ok (.invokevirtual 73, 3) := by decide +kernel
theorem dX5_moves_79 : decode cX5_moves 79 = .ok (.iload 4, 2) := by decide +kernel
theorem dX5_moves_81 : decode cX5_moves 81 = .ok (.ifCond .eq 33, 3) := by decide +kernel
theorem dX5_moves_84 : decode cX5_moves 84 = .ok (.aload_n 0, 1) := by decide +kernel
theorem dX5_moves_85 : decode cX5_moves 85 = .ok (.getfield 7, 3) := by decide +kernel
theorem dX5_moves_88 : decode cX5_moves 88 = .ok (.bipush 18, 2) := by decide +kernel
theorem dX5_moves_90 : decode cX5_moves 90 = .ok (.iload_n 2, 1) := by decide +kernel
theorem dX5_moves_91 : decode cX5_moves 91 = .ok (.iadd, 1) := by decide +kernel
theorem dX5_moves_92 : decode cX5_moves 92 = .ok (.dup2, 1) := by decide +kernel
theorem dX5_moves_93 : decode cX5_moves 93 = .ok (.iaload, 1) := by decide +kernel
theorem dX5_moves_94 : decode cX5_moves 94 = .ok (.iload_n 3, 1) := by decide +kernel
theorem dX5_moves_95 : decode cX5_moves 95 = .ok (.iadd, 1) := by decide +kernel
theorem dX5_moves_96 : decode cX5_moves 96 = .ok (.iastore, 1) := by decide +kernel
theorem dX5_moves_97 : decode cX5_moves 97 = .ok (.aload_n 0, 1) := by decide +kernel
theorem dX5_moves_98 : decode cX5_moves 98 = .ok (.iload_n 1, 1) := by decide +kernel
theorem dX5_moves_99 : decode cX5_moves 99 = .ok (.iconst 5, 1) := by decide +kernel
theorem dX5_moves_100 : decode cX5_moves 100 = .ok (.aload_n 0, 1) := by decide +kernel
theorem dX5_moves_101 : decode cX5_moves 101 = .ok (.iload_n 1, 1) := by decide +kernel
theorem dX5_moves_102 : decode cX5_moves 102 = .ok (.iconst 5, 1) := by decide +kernel
theorem dX5_moves_103 : decode cX5_moves 103 = .ok (.invokevirtual 63, 3) := by decide +kernel
theorem dX5_moves_106 : decode cX5_moves 106 = .ok (.iload_n 3, 1) := by decide +kernel
theorem dX5_moves_107 : decode cX5_moves 107 = .ok (.iadd, 1) := by decide +kernel
theorem dX5_moves_108 : decode cX5_moves 108 = .ok (.invokevirtual 32, 3) := by decide +kernel
theorem dX5_moves_111 : decode cX5_moves 111 = .ok (.goto 30, 3) := by decide +kernel
theorem dX5_moves_114 : decode cX5_moves 114 = .ok (.aload_n 0, 1) := by decide +kernel
theorem dX5_moves_115 : decode cX5_moves 115 = .ok (.getfield 7, 3) := by decide +kernel
theorem dX5_moves_118 : decode cX5_moves 118 = .ok (.bipush 14, 2) := by decide +kernel
theorem dX5_moves_120 : decode cX5_moves 120 = .ok (.iload_n 2, 1) := by decide +kernel
theorem dX5_moves_121 : decode cX5_moves 121 = .ok (.iadd, 1) := by decide +kernel
theorem dX5_moves_122 : decode cX5_moves 122 = .ok (.dup2, 1) := by decide +kernel
theorem dX5_moves_123 : decode cX5_moves 123 = .ok (.iaload, 1) := by decide +kernel
theorem dX5_moves_124 : decode cX5_moves 124 = .ok (.iload_n 3, 1) := by decide +kernel
theorem dX5_moves_125 : decode cX5_moves 125 = .ok (.iadd, 1) := by decide +kernel
theorem dX5_moves_126 : decode cX5_moves 126 = .ok (.iastore, 1) := by decide +kernel
theorem dX5_moves_127 : decode cX5_moves 127 = .ok (.aload_n 0, 1) := by decide +kernel
theorem dX5_moves_128 : decode cX5_moves 128 = .ok (.iload_n 1, 1) := by decide +kernel
theorem dX5_moves_129 : decode cX5_moves 129 = .ok (.iconst 4, 1) := by decide +kernel
theorem dX5_moves_130 : decode cX5_moves 130 = .ok (.aload_n 0, 1) := by decide +kernel
theorem dX5_moves_131 : decode cX5_moves 131 = .ok (.iload_n 1, 1) := by decide +kernel
theorem dX5_moves_132 : decode cX5_moves 132 = .ok (.iconst 4, 1) := by decide +kernel
theorem dX5_moves_133 : decode cX5_moves 133 = .ok (.invokevirtual 63, 3) := by decide +kernel
theorem dX5_moves_136 : decode cX5_moves 136 = .ok (.iload_n 3, 1) := by decide +kernel
theorem dX5_moves_137 : decode cX5_moves 137 = .ok (.iadd, 1) := by decide +kernel
theorem dX5_moves_138 : decode cX5_moves 138 = .ok (.invokevirtual 32, 3) := by decide +kernel
theorem dX5_moves_141 : decode cX5_moves 141 = .ok (.aload_n 0, 1) := by decide +kernel
theorem dX5_moves_142 : decode cX5_moves 142 = .ok (.iload_n 1, 1) := by decide +kernel
theorem dX5_moves_143 : decode cX5_moves 143 = .ok (.iconst 1, 1) := by decide +kernel
theorem dX5_moves_144 : decode cX5_moves 144 = .ok (.iload_n 3, 1) := by decide +kernel
theorem dX5_moves_145 : decode cX5_moves 145 = .ok (.ifCond .le 7, 3) := by decide +kernel
theorem dX5_moves_148 : decode cX5_moves 148 = .ok (.iload_n 2, 1) := by decide +kernel
theorem dX5_moves_149 : decode cX5_moves 149 = .ok (.goto 9, 3) := by decide +kernel
theorem dX5_moves_152 : decode cX5_moves 152 = .ok (.aload_n 0, 1) := by decide +kernel
theorem dX5_moves_153 : decode cX5_moves 153 = .ok (.iload_n 1, 1) := by decide +kernel
theorem dX5_moves_154 : decode cX5_moves 154 = .ok (.iconst 1, 1) := by decide +kernel
theorem dX5_moves_155 : decode cX5_moves 155 = .ok (.invokevirtual 63, 3) := by decide +kernel
theorem dX5_moves_158 : decode cX5_moves 158 = .ok (.invokevirtual 32, 3) := by decide +kernel
theorem dX5_moves_161 : decode cX5_moves 161 = .ok (.iload 4, 2) := by decide +kernel
theorem dX5_moves_163 : decode cX5_moves 163 = .ok (.ifCond .eq 7, 3) := by decide +kernel
theorem dX5_moves_166 : decode cX5_moves 166 = .ok (.iconst 0, 1) := by decide +kernel
theorem dX5_moves_167 : decode cX5_moves 167 = .ok (.goto 4, 3) := by decide +kernel
theorem dX5_moves_170 : decode cX5_moves 170 = .ok (.iload_n 3, 1) := by decide +kernel
theorem dX5_moves_171 : decode cX5_moves 171 = .ok (.ireturn, 1) := by decide +kernel
theorem dX5_hour_0 : decode cX5_hour 0 = .ok (.aload_n 0, 1) := by decide +kernel
theorem dX5_hour_1 : decode cX5_hour 1 = .ok (.invokevirtual 52, 3) := by decide +kernel
theorem dX5_hour_4 : decode cX5_hour 4 = .ok (.istore_n 1, 1) := by decide +kernel
theorem dX5_hour_5 : decode cX5_hour 5 = .ok (.aload_n 0, 1) := by decide +kernel
theorem dX5_hour_6 : decode cX5_hour 6 = .ok (.getfield 7, 3) := by decide +kernel
theorem dX5_hour_9 : decode cX5_hour 9 = .ok (.bipush 6, 2) := by decide +kernel
theorem dX5_hour_11 : decode cX5_hour 11 = .ok (.dup2, 1) := by decide +kernel
theorem dX5_hour_12 : decode cX5_hour 12 = .ok (.iaload, 1) := by decide +kernel
theorem dX5_hour_13 : decode cX5_hour 13 = .ok (.iconst 1, 1) := by decide +kernel
theorem dX5_hour_14 : decode cX5_hour 14 = .ok (.iadd, 1) := by decide +kernel
theorem dX5_hour_15 : decode cX5_hour 15 = .ok (.iastore, 1) := by decide +kernel
theorem dX5_hour_16 : decode cX5_hour 16 = .ok (.aload_n 0, 1) := by decide +kernel
theorem dX5_hour_17 : decode cX5_hour 17 = .ok (.invokevirtual 52, 3) := by decide +kernel
theorem dX5_hour_20 : decode cX5_hour 20 = .ok (.iload_n 1, 1) := by decide +kernel
theorem dX5_hour_21 : decode cX5_hour 21 = .ok (.isub, 1) := by decide +kernel
theorem dX5_hour_22 : decode cX5_hour 22 = .ok (.istore_n 2, 1) := by decide +kernel
theorem dX5_hour_23 : decode cX5_hour 23 = .ok (.aload_n 0, 1) := by decide +kernel
theorem dX5_hour_24 : decode cX5_hour 24 = .ok (.getfield 7, 3) := by decide +kernel
theorem dX5_hour_27 : decode cX5_hour 27 = .ok (.bipush 7, 2) := by decide +kernel
theorem dX5_hour_29 : decode cX5_hour 29 = .ok (.iaload, 1) := by decide +kernel
theorem dX5_hour_30 : decode cX5_hour 30 = .ok (.iconst 1, 1) := by decide +kernel
theorem dX5_hour_31 : decode cX5_hour 31 = .ok (.if_icmp .ne 48, 3) := by decide +kernel
theorem dX5_hour_34 : decode cX5_hour 34 = .ok (.iload_n 2, 1) := by decide +kernel
theorem dX5_hour_35 : decode cX5_hour 35 = .ok (.bipush 15, 2) := by decide +kernel
theorem dX5_hour_37 : decode cX5_hour 37 = .ok (.if_icmp .gt 9, 3) := by decide +kernel
theorem dX5_hour_40 : decode cX5_hour 40 = .ok (.iload_n 2, 1) := by decide +kernel
theorem dX5_hour_41 : decode cX5_hour 41 = .ok (.bipush (-15), 2) := by decide +kernel
theorem dX5_hour_43 : decode cX5_hour 43 = .ok (.if_icmp .ge 36, 3) := by decide +kernel
theorem dX5_hour_46 : decode cX5_hour 46 = .ok (.aload_n 0, 1) := by decide +kernel
theorem dX5_hour_47 : decode cX5_hour 47 = .ok (.getfield 7, 3) := by decide +kernel
theorem dX5_hour_50 : decode cX5_hour 50 = .ok (.bipush 7, 2) := by decide +kernel
theorem dX5_hour_52 : decode cX5_hour 52 = .ok (.iconst 0, 1) := by decide +kernel
theorem dX5_hour_53 : decode cX5_hour 53 = .ok (.iastore, 1) := by decide +kernel
theorem dX5_hour_54 : decode cX5_hour 54 = .ok (.aload_n 0, 1) := by decide +kernel
theorem dX5_hour_55 : decode cX5_hour 55 = .ok (.getfield 7, 3) := by decide +kernel
theorem dX5_hour_58 : decode cX5_hour 58 = .ok (.bipush 9, 2) := by decide +kernel
theorem dX5_hour_60 : decode cX5_hour 60 = .ok (.dup2, 1) := by decide +kernel
theorem dX5_hour_61 : decode cX5_hour 61 = .ok (.iaload, 1) := by decide +kernel
theorem dX5_hour_62 : decode cX5_hour 62 = .ok (.aload_n 0, 1) := by decide +kernel
theorem dX5_hour_63 : decode cX5_hour 63 = .ok (.getfield 7, 3) := by decide +kernel
theorem dX5_hour_66 : decode cX5_hour 66 = .ok (.bipush 8, 2) := by decide +kernel
theorem dX5_hour_68 : decode cX5_hour 68 = .ok (.iaload, 1) := by decide +kernel
theorem dX5_hour_69 : decode cX5_hour 69 = .ok (.iadd, 1) := by decide +kernel
theorem dX5_hour_70 : decode cX5_hour 70 = .ok (.iastore, 1) := by decide +kernel
theorem dX5_hour_71 : decode cX5_hour 71 = .ok (.aload_n 0, 1) := by decide +kernel
theorem dX5_hour_72 : decode cX5_hour 72 = .ok (.getfield 7, 3) := by decide +kernel
theorem dX5_hour_75 : decode cX5_hour 75 = .ok (.bipush 8, 2) := by decide +kernel
theorem dX5_hour_77 : decode cX5_hour 77 = .ok (.iconst 0, 1) := by decide +kernel
theorem dX5_hour_78 : decode cX5_hour 78 = .ok (.iastore, 1) := by decide +kernel
theorem dX5_hour_79 : decode cX5_hour 79 = .ok (.iconst 0, 1) := by decide +kernel
theorem dX5_hour_80 : decode cX5_hour 80 = .ok (.istore_n 3, 1) := by decide +kernel
theorem dX5_hour_81 : decode cX5_hour 81 = .ok (.iload_n 3, 1) := by decide +kernel
theorem dX5_hour_82 : decode cX5_hour 82 = .ok (.iconst 4, 1) := by decide +kernel
theorem dX5_hour_83 : decode cX5_hour 83 = .ok (.if_icmp .ge 36, 3) := by decide +kernel
theorem dX5_hour_86 : decode cX5_hour 86 = .ok (.aload_n 0, 1) := by decide +kernel
theorem dX5_hour_87 : decode cX5_hour 87 = .ok (.iload_n 3, 1) := by decide +kernel
theorem dX5_hour_88 : decode cX5_hour 88 = .ok (.invokevirtual 66, 3) := by decide +kernel
theorem dX5_hour_91 : decode cX5_hour 91 = .ok (.ifCond .eq 22, 3) := by decide +kernel
theorem dX5_hour_94 : decode cX5_hour 94 = .ok (.aload_n 0, 1) := by decide +kernel
theorem dX5_hour_95 : decode cX5_hour 95 = .ok (.iconst 0, 1) := by decide +kernel
theorem dX5_hour_96 : decode cX5_hour 96 = .ok (.invokevirtual 76, 3) := by decide +kernel
theorem dX5_hour_99 : decode cX5_hour 99 = .ok (.aload_n 0, 1) := by decide +kernel
theorem dX5_hour_100 : decode cX5_hour 100 = .ok (.iload_n 3, 1) := by decide +kernel
theorem dX5_hour_101 : decode cX5_hour 101 = .ok (.iconst 0, 1) := by decide +kernel
theorem dX5_hour_102 : decode cX5_hour 102 = .ok (.invokevirtual 63, 3) := by decide +kernel
theorem dX5_hour_105 : decode cX5_hour 105 = .ok (.if_icmp .le 8, 3) := by decide +kernel
theorem dX5_hour_108 : decode cX5_hour 108 = .ok (.aload_n 0, 1) := by decide +kernel
theorem dX5_hour_109 : decode cX5_hour 109 = .ok (.iload_n 3, 1) := by decide +kernel
theorem dX5_hour_110 : decode cX5_hour 110 = .ok (.invokevirtual 79, 3) := by decide +kernel
theorem dX5_hour_113 : decode cX5_hour 113 = .ok (.iinc 3 1, 3) := by decide +kernel
theorem dX5_hour_116 : decode cX5_hour 116 = .ok (.goto (-35), 3) := by decide +kernel
theorem dX5_hour_119 : decode cX5_hour 119 = .ok (.iconst 0, 1) := by decide +kernel
theorem dX5_hour_120 : decode cX5_hour 120 = .ok (.istore_n 3, 1) := by decide +kernel
theorem dX5_hour_121 : decode cX5_hour 121 = .ok (.aload_n 0, 1) := by decide +kernel
theorem dX5_hour_122 : decode cX5_hour 122 = .ok (.getfield 7, 3) := by decide +kernel
theorem dX5_hour_125 : decode cX5_hour 125 = .ok (.bipush 13, 2) := by decide +kernel
theorem dX5_hour_127 : decode cX5_hour 127 = .ok (.iaload, 1) := by decide +kernel
theorem dX5_hour_128 : decode cX5_hour 128 = .ok (.iconst 1, 1) := by decide +kernel
theorem dX5_hour_129 : decode cX5_hour 129 = .ok (.if_icmp .ne 33, 3) := by decide +kernel
theorem dX5_hour_132 : decode cX5_hour 132 = .ok (.aload_n 0, 1) := by decide +kernel
theorem dX5_hour_133 : decode cX5_hour 133 = .ok (.iconst 0, 1) := by decide +kernel
theorem dX5_hour_134 : decode cX5_hour 134 = .ok (.aload_n 0, 1) := by decide +kernel
theorem dX5_hour_135 : decode cX5_hour 135 = .ok (.getfield 7, 3) := by decide +kernel
theorem dX5_hour_138 : decode cX5_hour 138 = .ok (.bipush 6, 2) := by decide +kernel
theorem dX5_hour_140 : decode cX5_hour 140 = .ok (.iaload, 1) := by decide +kernel
theorem dX5_hour_141 : decode cX5_hour 141 = .ok (.invokevirtual 83, 3) := by decide +kernel
theorem dX5_hour_144 : decode cX5_hour 144 = .ok (.ifCond .eq 18, 3) := by decide +kernel
theorem dX5_hour_147 : decode cX5_hour 147 = .ok (.aload_n 0, 1) := by decide +kernel
theorem dX5_hour_148 : decode cX5_hour 148 = .ok (.getfield 7, 3) := by decide +kernel
theorem dX5_hour_151 : decode cX5_hour 151 = .ok (.bipush 7, 2) := by decide +kernel
theorem dX5_hour_153 : decode cX5_hour 153 = .ok (.iaload, 1) := by decide +kernel
theorem dX5_hour_154 : decode cX5_hour 154 = .ok (.iconst 1, 1) := by decide +kernel
theorem dX5_hour_155 : decode cX5_hour 155 = .ok (.if_icmp .ne 7, 3) := by decide +kernel
theorem dX5_hour_158 : decode cX5_hour 158 = .ok (.iconst 1, 1) := by decide +kernel
theorem dX5_hour_159 : decode cX5_hour 159 = .ok (.goto 4, 3) := by decide +kernel
theorem dX5_hour_162 : decode cX5_hour 162 = .ok (.iconst 0, 1) := by decide +kernel
theorem dX5_hour_163 : decode cX5_hour 163 = .ok (.istore 4, 2) := by decide +kernel
theorem dX5_hour_165 : decode cX5_hour 165 = .ok (.iconst 0, 1) := by decide +kernel
theorem dX5_hour_166 : decode cX5_hour 166 = .ok (.istore 5, 2) := by decide +kernel
theorem dX5_hour_168 : decode cX5_hour 168 = .ok (.iload 5, 2) := by decide +kernel
theorem dX5_hour_170 : decode cX5_hour 170 = .ok (.iconst 4, 1) := by decide +kernel
theorem dX5_hour_171 : decode cX5_hour 171 = .ok (.if_icmp .ge 36, 3) := by decide +kernel
theorem dX5_hour_174 : decode cX5_hour 174 = .ok (.iload 4, 2) := by decide +kernel
theorem dX5_hour_176 : decode cX5_hour 176 = .ok (.ifCond .eq 31, 3) := by decide +kernel
theorem dX5_hour_179 : decode cX5_hour 179 = .ok (.iload_n 3, 1) := by decide +kernel
theorem dX5_hour_180 : decode cX5_hour 180 = .ok (.aload_n 0, 1) := by decide +kernel
theorem dX5_hour_181 : decode cX5_hour 181 = .ok (.iload 5, 2) := by decide +kernel
theorem dX5_hour_183 : decode cX5_hour 183 = .ok (.invokevirtual 66, 3) := by decide +kernel
theorem dX5_hour_186 : decode cX5_hour 186 = .ok (.ifCond .eq 12, 3) := by decide +kernel
theorem dX5_hour_189 : decode cX5_hour 189 = .ok (.aload_n 0, 1) := by decide +kernel
theorem dX5_hour_190 : decode cX5_hour 190 = .ok (.iload 5, 2) := by decide +kernel
theorem dX5_hour_192 : decode cX5_hour 192 = .ok (.invokevirtual 87, 3) := by decide +kernel
theorem dX5_hour_195 : decode cX5_hour 195 = .ok (.goto 4, 3) := by decide +kernel
theorem dX5_hour_198 : decode cX5_hour 198 = .ok (.iconst 0, 1) := by decide +kernel
theorem dX5_hour_199 : decode cX5_hour 199 = .ok (.iadd, 1) := by decide +kernel
theorem dX5_hour_200 : decode cX5_hour 200 = .ok (.istore_n 3, 1) := by decide +kernel
theorem dX5_hour_201 : decode cX5_hour 201 = .ok (.iinc 5 1, 3) := by decide +kernel
theorem dX5_hour_204 : decode cX5_hour 204 = .ok (.goto (-36), 3) := by decide +kernel
theorem dX5_hour_207 : decode cX5_hour 207 = .ok (.iconst 0, 1) := by decide +kernel
theorem dX5_hour_208 : decode cX5_hour 208 = .ok (.istore 5, 2) := by decide +kernel
theorem dX5_hour_210 : decode cX5_hour 210 = .ok (.iload 5, 2) := by decide +kernel
theorem dX5_hour_212 : decode cX5_hour 212 = .ok (.aload_n 0, 1) := by decide +kernel
theorem dX5_hour_213 : decode cX5_hour 213 = .ok (.getfield 7, 3) := by decide +kernel
theorem dX5_hour_216 : decode cX5_hour 216 = .ok (.bipush 12, 2) := by decide +kernel
theorem dX5_hour_218 : decode cX5_hour 218 = .ok (.iaload, 1) := by decide +kernel
theorem dX5_hour_219 : decode cX5_hour 219 = .ok (.if_icmp .gt 62, 3) := by decide +kernel
theorem dX5_hour_222 : decode cX5_hour 222 = .ok (.aload_n 0, 1) := by decide +kernel
theorem dX5_hour_223 : decode cX5_hour 223 = .ok (.getfield 7, 3) := by decide +kernel
theorem dX5_hour_226 : decode cX5_hour 226 = .ok (.bipush 11, 2) := by decide +kernel
theorem dX5_hour_228 : decode cX5_hour 228 = .ok (.dup2, 1) := by decide +kernel
theorem dX5_hour_229 : decode cX5_hour 229 = .ok (.iaload, 1) := by decide +kernel
theorem dX5_hour_230 : decode cX5_hour 230 = .ok (.aload_n 0, 1) := by decide +kernel
theorem dX5_hour_231 : decode cX5_hour 231 = .ok (.iload 5, 2) := by decide +kernel
theorem dX5_hour_233 : decode cX5_hour 233 = .ok (.invokevirtual 90, 3) := by decide +kernel
theorem dX5_hour_236 : decode cX5_hour 236 = .ok (.ifCond .eq 36, 3) := by decide +kernel
theorem dX5_hour_239 : decode cX5_hour 239 = .ok (.aload_n 0, 1) := by decide +kernel
theorem dX5_hour_240 : decode cX5_hour 240 = .ok (.getfield 7, 3) := by decide +kernel
theorem dX5_hour_243 : decode cX5_hour 243 = .ok (.bipush 6, 2) := by decide +kernel
theorem dX5_hour_245 : decode cX5_hour 245 = .ok (.iaload, 1) := by decide +kernel
theorem dX5_hour_246 : decode cX5_hour 246 = .ok (.aload_n 0, 1) := by decide +kernel
theorem dX5_hour_247 : decode cX5_hour 247 = .ok (.iload 5, 2) := by decide +kernel
theorem dX5_hour_249 : decode cX5_hour 249 = .ok (.iconst 4, 1) := by decide +kernel
theorem dX5_hour_250 : decode cX5_hour 250 = .ok (.invokevirtual 45, 3) := by decide +kernel
theorem dX5_hour_253 : decode cX5_hour 253 = .ok (.isub, 1) := by decide +kernel
theorem dX5_hour_254 : decode cX5_hour 254 = .ok (.aload_n 0, 1) := by decide +kernel
theorem dX5_hour_255 : decode cX5_hour 255 = .ok (.getfield 7, 3) := by decide +kernel
theorem dX5_hour_258 : decode cX5_hour 258 = .ok (.iconst 4, 1) := by decide +kernel
theorem dX5_hour_259 : decode cX5_hour 259 = .ok (.iaload, 1) := by decide +kernel
theorem dX5_hour_260 : decode cX5_hour 260 = .ok (.if_icmp .le 12, 3) := by decide +kernel
theorem dX5_hour_263 : decode cX5_hour 263 = .ok (.aload_n 0, 1) := by decide +kernel
theorem dX5_hour_264 : decode cX5_hour 264 = .ok (.getfield 7, 3) := by decide +kernel
theorem dX5_hour_267 : decode cX5_hour 267 = .ok (.iconst 5, 1) := by decide +kernel
theorem dX5_hour_268 : decode cX5_hour 268 = .ok (.iaload, 1) := by decide +kernel
theorem dX5_hour_269 : decode cX5_hour 269 = .ok (.goto 4, 3) := by decide +kernel
theorem dX5_hour_272 : decode cX5_hour 272 = .ok (.iconst 0, 1) := by decide +kernel
theorem dX5_hour_273 : decode cX5_hour 273 = .ok (.iadd, 1) := by decide +kernel
theorem dX5_hour_274 : decode cX5_hour 274 = .ok (.iastore, 1) := by decide +kernel
theorem dX5_hour_275 : decode cX5_hour 275 = .ok (.iinc 5 1, 3) := by decide +kernel
theorem dX5_hour_278 : decode cX5_hour 278 = .ok (.goto (-68), 3) := by decide +kernel
theorem dX5_hour_281 : decode cX5_hour 281 = .ok (.iload_n 3, 1) := by decide +kernel
theorem dX5_hour_282 : decode cX5_hour 282 = .ok (.ireturn, 1) := by decide +kernel
theorem dX5_lowest_0 : decode cX5_lowest 0 = .ok (.iload_n 0, 1) := by decide +kernel
theorem dX5_lowest_1 : decode cX5_lowest 1 = .ok (.ifCond .ne 8, 3) := by decide +kernel
theorem dX5_lowest_4 : decode cX5_lowest 4 = .ok (.bipush 50, 2) := by decide +kernel
theorem dX5_lowest_6 : decode cX5_lowest 6 = .ok (.goto 18, 3) := by decide +kernel
theorem dX5_lowest_9 : decode cX5_lowest 9 = .ok (.iload_n 0, 1) := by decide +kernel
theorem dX5_lowest_10 : decode cX5_lowest 10 = .ok (.iconst 3, 1) := by decide +kernel
theorem dX5_lowest_11 : decode cX5_lowest 11 = .ok (.if_icmp .eq 8, 3) := by decide +kernel
theorem dX5_lowest_14 : decode cX5_lowest 14 = .ok (.iload_n 0, 1) := by decide +kernel
theorem dX5_lowest_15 : decode cX5_lowest 15 = .ok (.iconst 5, 1) := by decide +kernel
theorem dX5_lowest_16 : decode cX5_lowest 16 = .ok (.if_icmp .ne 7, 3) := by decide +kernel
theorem dX5_lowest_19 : decode cX5_lowest 19 = .ok (.iconst 1, 1) := by decide +kernel
theorem dX5_lowest_20 : decode cX5_lowest 20 = .ok (.goto 4, 3) := by decide +kernel
theorem dX5_lowest_23 : decode cX5_lowest 23 = .ok (.iconst 0, 1) := by decide +kernel
theorem dX5_lowest_24 : decode cX5_lowest 24 = .ok (.ireturn, 1) := by decide +kernel
theorem dX5_highest_0 : decode cX5_highest 0 = .ok (.iload_n 0, 1) := by decide +kernel
theorem dX5_highest_1 : decode cX5_highest 1 = .ok (.tableswitch 41 0 3 #[31, 35, 38, 35], 31) := by decide +kernel
theorem dX5_highest_32 : decode cX5_highest 32 = .ok (.sipush 150, 3) := by decide +kernel
theorem dX5_highest_35 : decode cX5_highest 35 = .ok (.ireturn, 1) := by decide +kernel
theorem dX5_highest_36 : decode cX5_highest 36 = .ok (.bipush 40, 2) := by decide +kernel
theorem dX5_highest_38 : decode cX5_highest 38 = .ok (.ireturn, 1) := by decide +kernel
theorem dX5_highest_39 : decode cX5_highest 39 = .ok (.bipush 20, 2) := by decide +kernel
theorem dX5_highest_41 : decode cX5_highest 41 = .ok (.ireturn, 1) := by decide +kernel
theorem dX5_highest_42 : decode cX5_highest 42 = .ok (.bipush 99, 2) := by decide +kernel
theorem dX5_highest_44 : decode cX5_highest 44 = .ok (.ireturn, 1) := by decide +kernel
theorem dX5_set_0 : decode cX5_set 0 = .ok (.iload_n 1, 1) := by decide +kernel
theorem dX5_set_1 : decode cX5_set 1 = .ok (.iconst 0, 1) := by decide +kernel
theorem dX5_set_2 : decode cX5_set 2 = .ok (.iconst 5, 1) := by decide +kernel
theorem dX5_set_3 : decode cX5_set 3 = .ok (.invokestatic 59, 3) := by decide +kernel
theorem dX5_set_6 : decode cX5_set 6 = .ok (.ifCond .eq 18, 3) := by decide +kernel
theorem dX5_set_9 : decode cX5_set 9 = .ok (.iload_n 2, 1) := by decide +kernel
theorem dX5_set_10 : decode cX5_set 10 = .ok (.iload_n 1, 1) := by decide +kernel
theorem dX5_set_11 : decode cX5_set 11 = .ok (.invokestatic 93, 3) := by decide +kernel
theorem dX5_set_14 : decode cX5_set 14 = .ok (.iload_n 1, 1) := by decide +kernel
theorem dX5_set_15 : decode cX5_set 15 = .ok (.invokestatic 96, 3) := by decide +kernel
theorem dX5_set_18 : decode cX5_set 18 = .ok (.invokestatic 59, 3) := by decide +kernel
theorem dX5_set_21 : decode cX5_set 21 = .ok (.ifCond .ne 6, 3) := by decide +kernel
theorem dX5_set_24 : decode cX5_set 24 = .ok (.ldc 99, 2) := by decide +kernel
theorem dX5_set_26 : decode cX5_set 26 = .ok (.ireturn, 1) := by decide +kernel
theorem dX5_set_27 : decode cX5_set 27 = .ok (.aload_n 0, 1) := by decide +kernel
theorem dX5_set_28 : decode cX5_set 28 = .ok (.invokevirtual 100, 3) := by decide +kernel
theorem dX5_set_31 : decode cX5_set 31 = .ok (.aload_n 0, 1) := by decide +kernel
theorem dX5_set_32 : decode cX5_set 32 = .ok (.getfield 7, 3) := by decide +kernel
theorem dX5_set_35 : decode cX5_set 35 = .ok (.iload_n 1, 1) := by decide +kernel
theorem dX5_set_36 : decode cX5_set 36 = .ok (.iaload, 1) := by decide +kernel
theorem dX5_set_37 : decode cX5_set 37 = .ok (.istore_n 3, 1) := by decide +kernel
theorem dX5_set_38 : decode cX5_set 38 = .ok (.aload_n 0, 1) := by decide +kernel
theorem dX5_set_39 : decode cX5_set 39 = .ok (.getfield 7, 3) := by decide +kernel
theorem dX5_set_42 : decode cX5_set 42 = .ok (.iload_n 1, 1) := by decide +kernel
theorem dX5_set_43 : decode cX5_set 43 = .ok (.iload_n 2, 1) := by decide +kernel
theorem dX5_set_44 : decode cX5_set 44 = .ok (.iastore, 1) := by decide +kernel
theorem dX5_set_45 : decode cX5_set 45 = .ok (.iload_n 3, 1) := by decide +kernel
theorem dX5_set_46 : decode cX5_set 46 = .ok (.ireturn, 1) := by decide +kernel
theorem dX5_doArrive_0 : decode cX5_doArrive 0 = .ok (.aload_n 0, 1) := by decide +kernel
theorem dX5_doArrive_1 : decode cX5_doArrive 1 = .ok (.getfield 7, 3) := by decide +kernel
theorem dX5_doArrive_4 : decode cX5_doArrive 4 = .ok (.bipush 12, 2) := by decide +kernel
theorem dX5_doArrive_6 : decode cX5_doArrive 6 = .ok (.dup2, 1) := by decide +kernel
theorem dX5_doArrive_7 : decode cX5_doArrive 7 = .ok (.iaload, 1) := by decide +kernel
theorem dX5_doArrive_8 : decode cX5_doArrive 8 = .ok (.iconst 1, 1) := by decide +kernel
theorem dX5_doArrive_9 : decode cX5_doArrive 9 = .ok (.iadd, 1) := by decide +kernel
theorem dX5_doArrive_10 : decode cX5_doArrive 10 = .ok (.iastore, 1) := by decide +kernel
theorem dX5_doArrive_11 : decode cX5_doArrive 11 = .ok (.aload_n 0, 1) := by decide +kernel
theorem dX5_doArrive_12 : decode cX5_doArrive 12 = .ok (.aload_n 0, 1) := by decide +kernel
theorem dX5_doArrive_13 : decode cX5_doArrive 13 = .ok (.getfield 7, 3) := by decide +kernel
theorem dX5_doArrive_16 : decode cX5_doArrive 16 = .ok (.bipush 12, 2) := by decide +kernel
theorem dX5_doArrive_18 : decode cX5_doArrive 18 = .ok (.iaload, 1) := by decide +kernel
theorem dX5_doArrive_19 : decode cX5_doArrive 19 = .ok (.iconst 0, 1) := by decide +kernel
theorem dX5_doArrive_20 : decode cX5_doArrive 20 = .ok (.iload_n 1, 1) := by decide +kernel
theorem dX5_doArrive_21 : decode cX5_doArrive 21 = .ok (.invokevirtual 73, 3) := by decide +kernel
theorem dX5_doArrive_24 : decode cX5_doArrive 24 = .ok (.aload_n 0, 1) := by decide +kernel
theorem dX5_doArrive_25 : decode cX5_doArrive 25 = .ok (.aload_n 0, 1) := by decide +kernel
theorem dX5_doArrive_26 : decode cX5_doArrive 26 = .ok (.getfield 7, 3) := by decide +kernel
theorem dX5_doArrive_29 : decode cX5_doArrive 29 = .ok (.bipush 12, 2) := by decide +kernel
theorem dX5_doArrive_31 : decode cX5_doArrive 31 = .ok (.iaload, 1) := by decide +kernel
theorem dX5_doArrive_32 : decode cX5_doArrive 32 = .ok (.iconst 1, 1) := by decide +kernel
theorem dX5_doArrive_33 : decode cX5_doArrive 33 = .ok (.iload_n 2, 1) := by decide +kernel
theorem dX5_doArrive_34 : decode cX5_doArrive 34 = .ok (.invokevirtual 73, 3) := by decide +kernel
theorem dX5_doArrive_37 : decode cX5_doArrive 37 = .ok (.aload_n 0, 1) := by decide +kernel
theorem dX5_doArrive_38 : decode cX5_doArrive 38 = .ok (.aload_n 0, 1) := by decide +kernel
theorem dX5_doArrive_39 : decode cX5_doArrive 39 = .ok (.getfield 7, 3) := by decide +kernel
theorem dX5_doArrive_42 : decode cX5_doArrive 42 = .ok (.bipush 12, 2) := by decide +kernel
theorem dX5_doArrive_44 : decode cX5_doArrive 44 = .ok (.iaload, 1) := by decide +kernel
theorem dX5_doArrive_45 : decode cX5_doArrive 45 = .ok (.iconst 2, 1) := by decide +kernel
theorem dX5_doArrive_46 : decode cX5_doArrive 46 = .ok (.iload_n 3, 1) := by decide +kernel
theorem dX5_doArrive_47 : decode cX5_doArrive 47 = .ok (.invokevirtual 73, 3) := by decide +kernel
theorem dX5_doArrive_50 : decode cX5_doArrive 50 = .ok (.aload_n 0, 1) := by decide +kernel
theorem dX5_doArrive_51 : decode cX5_doArrive 51 = .ok (.aload_n 0, 1) := by decide +kernel
theorem dX5_doArrive_52 : decode cX5_doArrive 52 = .ok (.getfield 7, 3) := by decide +kernel
theorem dX5_doArrive_55 : decode cX5_doArrive 55 = .ok (.bipush 12, 2) := by decide +kernel
theorem dX5_doArrive_57 : decode cX5_doArrive 57 = .ok (.iaload, 1) := by decide +kernel
theorem dX5_doArrive_58 : decode cX5_doArrive 58 = .ok (.iconst 3, 1) := by decide +kernel
theorem dX5_doArrive_59 : decode cX5_doArrive 59 = .ok (.iload 4, 2) := by decide +kernel
theorem dX5_doArrive_61 : decode cX5_doArrive 61 = .ok (.invokevirtual 73, 3) := by decide +kernel
theorem dX5_doArrive_64 : decode cX5_doArrive 64 = .ok (.aload_n 0, 1) := by decide +kernel
theorem dX5_doArrive_65 : decode cX5_doArrive 65 = .ok (.aload_n 0, 1) := by decide +kernel
theorem dX5_doArrive_66 : decode cX5_doArrive 66 = .ok (.getfield 7, 3) := by decide +kernel
theorem dX5_doArrive_69 : decode cX5_doArrive 69 = .ok (.bipush 12, 2) := by decide +kernel
theorem dX5_doArrive_71 : decode cX5_doArrive 71 = .ok (.iaload, 1) := by decide +kernel
theorem dX5_doArrive_72 : decode cX5_doArrive 72 = .ok (.iconst 4, 1) := by decide +kernel
theorem dX5_doArrive_73 : decode cX5_doArrive 73 = .ok (.aload_n 0, 1) := by decide +kernel
theorem dX5_doArrive_74 : decode cX5_doArrive 74 = .ok (.getfield 7, 3) := by decide +kernel
theorem dX5_doArrive_77 : decode cX5_doArrive 77 = .ok (.bipush 6, 2) := by decide +kernel
theorem dX5_doArrive_79 : decode cX5_doArrive 79 = .ok (.iaload, 1) := by decide +kernel
theorem dX5_doArrive_80 : decode cX5_doArrive 80 = .ok (.invokevirtual 73, 3) := by decide +kernel
theorem dX5_doArrive_83 : decode cX5_doArrive 83 = .ok (.aload_n 0, 1) := by decide +kernel
theorem dX5_doArrive_84 : decode cX5_doArrive 84 = .ok (.getfield 7, 3) := by decide +kernel
theorem dX5_doArrive_87 : decode cX5_doArrive 87 = .ok (.bipush 12, 2) := by decide +kernel
theorem dX5_doArrive_89 : decode cX5_doArrive 89 = .ok (.iaload, 1) := by decide +kernel
theorem dX5_doArrive_90 : decode cX5_doArrive 90 = .ok (.ireturn, 1) := by decide +kernel
theorem dX5_arrive_0 : decode cX5_arrive 0 = .ok (.iload_n 1, 1) := by decide +kernel
theorem dX5_arrive_1 : decode cX5_arrive 1 = .ok (.iconst 0, 1) := by decide +kernel
theorem dX5_arrive_2 : decode cX5_arrive 2 = .ok (.sipush 400, 3) := by decide +kernel
theorem dX5_arrive_5 : decode cX5_arrive 5 = .ok (.invokestatic 59, 3) := by decide +kernel
theorem dX5_arrive_8 : decode cX5_arrive 8 = .ok (.ifCond .eq 48, 3) := by decide +kernel
theorem dX5_arrive_11 : decode cX5_arrive 11 = .ok (.iload_n 2, 1) := by decide +kernel
theorem dX5_arrive_12 : decode cX5_arrive 12 = .ok (.iconst 0, 1) := by decide +kernel
theorem dX5_arrive_13 : decode cX5_arrive 13 = .ok (.sipush 400, 3) := by decide +kernel
theorem dX5_arrive_16 : decode cX5_arrive 16 = .ok (.invokestatic 59, 3) := by decide +kernel
theorem dX5_arrive_19 : decode cX5_arrive 19 = .ok (.ifCond .eq 37, 3) := by decide +kernel
theorem dX5_arrive_22 : decode cX5_arrive 22 = .ok (.iload_n 3, 1) := by decide +kernel
theorem dX5_arrive_23 : decode cX5_arrive 23 = .ok (.iconst 0, 1) := by decide +kernel
theorem dX5_arrive_24 : decode cX5_arrive 24 = .ok (.sipush 400, 3) := by decide +kernel
theorem dX5_arrive_27 : decode cX5_arrive 27 = .ok (.invokestatic 59, 3) := by decide +kernel
theorem dX5_arrive_30 : decode cX5_arrive 30 = .ok (.ifCond .eq 26, 3) := by decide +kernel
theorem dX5_arrive_33 : decode cX5_arrive 33 = .ok (.iload 4, 2) := by decide +kernel
theorem dX5_arrive_35 : decode cX5_arrive 35 = .ok (.iconst 0, 1) := by decide +kernel
theorem dX5_arrive_36 : decode cX5_arrive 36 = .ok (.sipush 400, 3) := by decide +kernel
theorem dX5_arrive_39 : decode cX5_arrive 39 = .ok (.invokestatic 59, 3) := by decide +kernel
theorem dX5_arrive_42 : decode cX5_arrive 42 = .ok (.ifCond .eq 14, 3) := by decide +kernel
theorem dX5_arrive_45 : decode cX5_arrive 45 = .ok (.iload_n 1, 1) := by decide +kernel
theorem dX5_arrive_46 : decode cX5_arrive 46 = .ok (.iload_n 2, 1) := by decide +kernel
theorem dX5_arrive_47 : decode cX5_arrive 47 = .ok (.iadd, 1) := by decide +kernel
theorem dX5_arrive_48 : decode cX5_arrive 48 = .ok (.iload_n 3, 1) := by decide +kernel
theorem dX5_arrive_49 : decode cX5_arrive 49 = .ok (.iadd, 1) := by decide +kernel
theorem dX5_arrive_50 : decode cX5_arrive 50 = .ok (.iload 4, 2) := by decide +kernel
theorem dX5_arrive_52 : decode cX5_arrive 52 = .ok (.iadd, 1) := by decide +kernel
theorem dX5_arrive_53 : decode cX5_arrive 53 = .ok (.ifCond .ne 6, 3) := by decide +kernel
theorem dX5_arrive_56 : decode cX5_arrive 56 = .ok (.ldc 99, 2) := by decide +kernel
theorem dX5_arrive_58 : decode cX5_arrive 58 = .ok (.ireturn, 1) := by decide +kernel
theorem dX5_arrive_59 : decode cX5_arrive 59 = .ok (.aload_n 0, 1) := by decide +kernel
theorem dX5_arrive_60 : decode cX5_arrive 60 = .ok (.getfield 7, 3) := by decide +kernel
theorem dX5_arrive_63 : decode cX5_arrive 63 = .ok (.bipush 12, 2) := by decide +kernel
theorem dX5_arrive_65 : decode cX5_arrive 65 = .ok (.iaload, 1) := by decide +kernel
theorem dX5_arrive_66 : decode cX5_arrive 66 = .ok (.iconst 5, 1) := by decide +kernel
theorem dX5_arrive_67 : decode cX5_arrive 67 = .ok (.if_icmp .ne 6, 3) := by decide +kernel
theorem dX5_arrive_70 : decode cX5_arrive 70 = .ok (.ldc 103, 2) := by decide +kernel
theorem dX5_arrive_72 : decode cX5_arrive 72 = .ok (.ireturn, 1) := by decide +kernel
theorem dX5_arrive_73 : decode cX5_arrive 73 = .ok (.aload_n 0, 1) := by decide +kernel
theorem dX5_arrive_74 : decode cX5_arrive 74 = .ok (.invokevirtual 100, 3) := by decide +kernel
theorem dX5_arrive_77 : decode cX5_arrive 77 = .ok (.aload_n 0, 1) := by decide +kernel
theorem dX5_arrive_78 : decode cX5_arrive 78 = .ok (.iload_n 1, 1) := by decide +kernel
theorem dX5_arrive_79 : decode cX5_arrive 79 = .ok (.iload_n 2, 1) := by decide +kernel
theorem dX5_arrive_80 : decode cX5_arrive 80 = .ok (.iload_n 3, 1) := by decide +kernel
theorem dX5_arrive_81 : decode cX5_arrive 81 = .ok (.iload 4, 2) := by decide +kernel
theorem dX5_arrive_83 : decode cX5_arrive 83 = .ok (.invokevirtual 104, 3) := by decide +kernel
theorem dX5_arrive_86 : decode cX5_arrive 86 = .ok (.ireturn, 1) := by decide +kernel
theorem dX5_berth_0 : decode cX5_berth 0 = .ok (.aload_n 0, 1) := by decide +kernel
theorem dX5_berth_1 : decode cX5_berth 1 = .ok (.getfield 7, 3) := by decide +kernel
theorem dX5_berth_4 : decode cX5_berth 4 = .ok (.bipush 12, 2) := by decide +kernel
theorem dX5_berth_6 : decode cX5_berth 6 = .ok (.iaload, 1) := by decide +kernel
theorem dX5_berth_7 : decode cX5_berth 7 = .ok (.ifCond .eq 29, 3) := by decide +kernel
theorem dX5_berth_10 : decode cX5_berth 10 = .ok (.aload_n 0, 1) := by decide +kernel
theorem dX5_berth_11 : decode cX5_berth 11 = .ok (.getfield 7, 3) := by decide +kernel
theorem dX5_berth_14 : decode cX5_berth 14 = .ok (.bipush 13, 2) := by decide +kernel
theorem dX5_berth_16 : decode cX5_berth 16 = .ok (.iaload, 1) := by decide +kernel
theorem dX5_berth_17 : decode cX5_berth 17 = .ok (.iconst 1, 1) := by decide +kernel
theorem dX5_berth_18 : decode cX5_berth 18 = .ok (.if_icmp .eq 18, 3) := by decide +kernel
theorem dX5_berth_21 : decode cX5_berth 21 = .ok (.aload_n 0, 1) := by decide +kernel
theorem dX5_berth_22 : decode cX5_berth 22 = .ok (.iconst 1, 1) := by decide +kernel
theorem dX5_berth_23 : decode cX5_berth 23 = .ok (.aload_n 0, 1) := by decide +kernel
theorem dX5_berth_24 : decode cX5_berth 24 = .ok (.getfield 7, 3) := by decide +kernel
theorem dX5_berth_27 : decode cX5_berth 27 = .ok (.bipush 6, 2) := by decide +kernel
theorem dX5_berth_29 : decode cX5_berth 29 = .ok (.iaload, 1) := by decide +kernel
theorem dX5_berth_30 : decode cX5_berth 30 = .ok (.invokevirtual 83, 3) := by decide +kernel
theorem dX5_berth_33 : decode cX5_berth 33 = .ok (.ifCond .ne 6, 3) := by decide +kernel
theorem dX5_berth_36 : decode cX5_berth 36 = .ok (.ldc 108, 2) := by decide +kernel
theorem dX5_berth_38 : decode cX5_berth 38 = .ok (.ireturn, 1) := by decide +kernel
theorem dX5_berth_39 : decode cX5_berth 39 = .ok (.aload_n 0, 1) := by decide +kernel
theorem dX5_berth_40 : decode cX5_berth 40 = .ok (.invokevirtual 100, 3) := by decide +kernel
theorem dX5_berth_43 : decode cX5_berth 43 = .ok (.iconst 0, 1) := by decide +kernel
theorem dX5_berth_44 : decode cX5_berth 44 = .ok (.istore_n 1, 1) := by decide +kernel
theorem dX5_berth_45 : decode cX5_berth 45 = .ok (.iload_n 1, 1) := by decide +kernel
theorem dX5_berth_46 : decode cX5_berth 46 = .ok (.bipush 25, 2) := by decide +kernel
theorem dX5_berth_48 : decode cX5_berth 48 = .ok (.if_icmp .ge 27, 3) := by decide +kernel
theorem dX5_berth_51 : decode cX5_berth 51 = .ok (.aload_n 0, 1) := by decide +kernel
theorem dX5_berth_52 : decode cX5_berth 52 = .ok (.getfield 7, 3) := by decide +kernel
theorem dX5_berth_55 : decode cX5_berth 55 = .ok (.bipush 50, 2) := by decide +kernel
theorem dX5_berth_57 : decode cX5_berth 57 = .ok (.iload_n 1, 1) := by decide +kernel
theorem dX5_berth_58 : decode cX5_berth 58 = .ok (.iadd, 1) := by decide +kernel
theorem dX5_berth_59 : decode cX5_berth 59 = .ok (.aload_n 0, 1) := by decide +kernel
theorem dX5_berth_60 : decode cX5_berth 60 = .ok (.getfield 7, 3) := by decide +kernel
theorem dX5_berth_63 : decode cX5_berth 63 = .ok (.bipush 55, 2) := by decide +kernel
theorem dX5_berth_65 : decode cX5_berth 65 = .ok (.iload_n 1, 1) := by decide +kernel
theorem dX5_berth_66 : decode cX5_berth 66 = .ok (.iadd, 1) := by decide +kernel
theorem dX5_berth_67 : decode cX5_berth 67 = .ok (.iaload, 1) := by decide +kernel
theorem dX5_berth_68 : decode cX5_berth 68 = .ok (.iastore, 1) := by decide +kernel
theorem dX5_berth_69 : decode cX5_berth 69 = .ok (.iinc 1 1, 3) := by decide +kernel
theorem dX5_berth_72 : decode cX5_berth 72 = .ok (.goto (-27), 3) := by decide +kernel
theorem dX5_berth_75 : decode cX5_berth 75 = .ok (.aload_n 0, 1) := by decide +kernel
theorem dX5_berth_76 : decode cX5_berth 76 = .ok (.getfield 7, 3) := by decide +kernel
theorem dX5_berth_79 : decode cX5_berth 79 = .ok (.bipush 12, 2) := by decide +kernel
theorem dX5_berth_81 : decode cX5_berth 81 = .ok (.dup2, 1) := by decide +kernel
theorem dX5_berth_82 : decode cX5_berth 82 = .ok (.iaload, 1) := by decide +kernel
theorem dX5_berth_83 : decode cX5_berth 83 = .ok (.iconst 1, 1) := by decide +kernel
theorem dX5_berth_84 : decode cX5_berth 84 = .ok (.isub, 1) := by decide +kernel
theorem dX5_berth_85 : decode cX5_berth 85 = .ok (.iastore, 1) := by decide +kernel
theorem dX5_berth_86 : decode cX5_berth 86 = .ok (.aload_n 0, 1) := by decide +kernel
theorem dX5_berth_87 : decode cX5_berth 87 = .ok (.getfield 7, 3) := by decide +kernel
theorem dX5_berth_90 : decode cX5_berth 90 = .ok (.bipush 13, 2) := by decide +kernel
theorem dX5_berth_92 : decode cX5_berth 92 = .ok (.iconst 1, 1) := by decide +kernel
theorem dX5_berth_93 : decode cX5_berth 93 = .ok (.iastore, 1) := by decide +kernel
theorem dX5_berth_94 : decode cX5_berth 94 = .ok (.aload_n 0, 1) := by decide +kernel
theorem dX5_berth_95 : decode cX5_berth 95 = .ok (.iconst 0, 1) := by decide +kernel
theorem dX5_berth_96 : decode cX5_berth 96 = .ok (.invokevirtual 49, 3) := by decide +kernel
theorem dX5_berth_99 : decode cX5_berth 99 = .ok (.ireturn, 1) := by decide +kernel
theorem dX5_leave_0 : decode cX5_leave 0 = .ok (.aload_n 0, 1) := by decide +kernel
theorem dX5_leave_1 : decode cX5_leave 1 = .ok (.getfield 7, 3) := by decide +kernel
theorem dX5_leave_4 : decode cX5_leave 4 = .ok (.bipush 13, 2) := by decide +kernel
theorem dX5_leave_6 : decode cX5_leave 6 = .ok (.iaload, 1) := by decide +kernel
theorem dX5_leave_7 : decode cX5_leave 7 = .ok (.ifCond .eq 25, 3) := by decide +kernel
theorem dX5_leave_10 : decode cX5_leave 10 = .ok (.aload_n 0, 1) := by decide +kernel
theorem dX5_leave_11 : decode cX5_leave 11 = .ok (.iconst 0, 1) := by decide +kernel
theorem dX5_leave_12 : decode cX5_leave 12 = .ok (.aload_n 0, 1) := by decide +kernel
theorem dX5_leave_13 : decode cX5_leave 13 = .ok (.getfield 7, 3) := by decide +kernel
theorem dX5_leave_16 : decode cX5_leave 16 = .ok (.bipush 6, 2) := by decide +kernel
theorem dX5_leave_18 : decode cX5_leave 18 = .ok (.iaload, 1) := by decide +kernel
theorem dX5_leave_19 : decode cX5_leave 19 = .ok (.invokevirtual 83, 3) := by decide +kernel
theorem dX5_leave_22 : decode cX5_leave 22 = .ok (.ifCond .eq 10, 3) := by decide +kernel
theorem dX5_leave_25 : decode cX5_leave 25 = .ok (.aload_n 0, 1) := by decide +kernel
theorem dX5_leave_26 : decode cX5_leave 26 = .ok (.invokevirtual 109, 3) := by decide +kernel
theorem dX5_leave_29 : decode cX5_leave 29 = .ok (.ifCond .le 6, 3) := by decide +kernel
theorem dX5_leave_32 : decode cX5_leave 32 = .ok (.ldc 108, 2) := by decide +kernel
theorem dX5_leave_34 : decode cX5_leave 34 = .ok (.ireturn, 1) := by decide +kernel
theorem dX5_leave_35 : decode cX5_leave 35 = .ok (.aload_n 0, 1) := by decide +kernel
theorem dX5_leave_36 : decode cX5_leave 36 = .ok (.invokevirtual 100, 3) := by decide +kernel
theorem dX5_leave_39 : decode cX5_leave 39 = .ok (.aload_n 0, 1) := by decide +kernel
theorem dX5_leave_40 : decode cX5_leave 40 = .ok (.iconst 0, 1) := by decide +kernel
theorem dX5_leave_41 : decode cX5_leave 41 = .ok (.invokevirtual 49, 3) := by decide +kernel
theorem dX5_leave_44 : decode cX5_leave 44 = .ok (.istore_n 1, 1) := by decide +kernel
theorem dX5_leave_45 : decode cX5_leave 45 = .ok (.aload_n 0, 1) := by decide +kernel
theorem dX5_leave_46 : decode cX5_leave 46 = .ok (.getfield 7, 3) := by decide +kernel
theorem dX5_leave_49 : decode cX5_leave 49 = .ok (.bipush 13, 2) := by decide +kernel
theorem dX5_leave_51 : decode cX5_leave 51 = .ok (.iconst 0, 1) := by decide +kernel
theorem dX5_leave_52 : decode cX5_leave 52 = .ok (.iastore, 1) := by decide +kernel
theorem dX5_leave_53 : decode cX5_leave 53 = .ok (.iload_n 1, 1) := by decide +kernel
theorem dX5_leave_54 : decode cX5_leave 54 = .ok (.ireturn, 1) := by decide +kernel
theorem dX5_reach_0 : decode cX5_reach 0 = .ok (.iload_n 1, 1) := by decide +kernel
theorem dX5_reach_1 : decode cX5_reach 1 = .ok (.invokestatic 112, 3) := by decide +kernel
theorem dX5_reach_4 : decode cX5_reach 4 = .ok (.ifCond .ne 6, 3) := by decide +kernel
theorem dX5_reach_7 : decode cX5_reach 7 = .ok (.ldc 115, 2) := by decide +kernel
theorem dX5_reach_9 : decode cX5_reach 9 = .ok (.ireturn, 1) := by decide +kernel
theorem dX5_reach_10 : decode cX5_reach 10 = .ok (.iload_n 2, 1) := by decide +kernel
theorem dX5_reach_11 : decode cX5_reach 11 = .ok (.bipush 20, 2) := by decide +kernel
theorem dX5_reach_13 : decode cX5_reach 13 = .ok (.bipush 120, 2) := by decide +kernel
theorem dX5_reach_15 : decode cX5_reach 15 = .ok (.invokestatic 59, 3) := by decide +kernel
theorem dX5_reach_18 : decode cX5_reach 18 = .ok (.ifCond .ne 6, 3) := by decide +kernel
theorem dX5_reach_21 : decode cX5_reach 21 = .ok (.ldc 99, 2) := by decide +kernel
theorem dX5_reach_23 : decode cX5_reach 23 = .ok (.ireturn, 1) := by decide +kernel
theorem dX5_reach_24 : decode cX5_reach 24 = .ok (.aload_n 0, 1) := by decide +kernel
theorem dX5_reach_25 : decode cX5_reach 25 = .ok (.invokevirtual 100, 3) := by decide +kernel
theorem dX5_reach_28 : decode cX5_reach 28 = .ok (.aload_n 0, 1) := by decide +kernel
theorem dX5_reach_29 : decode cX5_reach 29 = .ok (.iload_n 1, 1) := by decide +kernel
theorem dX5_reach_30 : decode cX5_reach 30 = .ok (.iconst 0, 1) := by decide +kernel
theorem dX5_reach_31 : decode cX5_reach 31 = .ok (.invokevirtual 63, 3) := by decide +kernel
theorem dX5_reach_34 : decode cX5_reach 34 = .ok (.istore_n 3, 1) := by decide +kernel
theorem dX5_reach_35 : decode cX5_reach 35 = .ok (.aload_n 0, 1) := by decide +kernel
theorem dX5_reach_36 : decode cX5_reach 36 = .ok (.iload_n 1, 1) := by decide +kernel
theorem dX5_reach_37 : decode cX5_reach 37 = .ok (.iconst 0, 1) := by decide +kernel
theorem dX5_reach_38 : decode cX5_reach 38 = .ok (.iload_n 2, 1) := by decide +kernel
theorem dX5_reach_39 : decode cX5_reach 39 = .ok (.invokevirtual 32, 3) := by decide +kernel
theorem dX5_reach_42 : decode cX5_reach 42 = .ok (.iload_n 3, 1) := by decide +kernel
theorem dX5_reach_43 : decode cX5_reach 43 = .ok (.ireturn, 1) := by decide +kernel
theorem dX5_canConnect_0 : decode cX5_canConnect 0 = .ok (.aload_n 0, 1) := by decide +kernel
theorem dX5_canConnect_1 : decode cX5_canConnect 1 = .ok (.getfield 7, 3) := by decide +kernel
theorem dX5_canConnect_4 : decode cX5_canConnect 4 = .ok (.bipush 13, 2) := by decide +kernel
theorem dX5_canConnect_6 : decode cX5_canConnect 6 = .ok (.iaload, 1) := by decide +kernel
theorem dX5_canConnect_7 : decode cX5_canConnect 7 = .ok (.iconst 1, 1) := by decide +kernel
theorem dX5_canConnect_8 : decode cX5_canConnect 8 = .ok (.if_icmp .ne 38, 3) := by decide +kernel
theorem dX5_canConnect_11 : decode cX5_canConnect 11 = .ok (.aload_n 0, 1) := by decide +kernel
theorem dX5_canConnect_12 : decode cX5_canConnect 12 = .ok (.iload_n 1, 1) := by decide +kernel
theorem dX5_canConnect_13 : decode cX5_canConnect 13 = .ok (.iconst 3, 1) := by decide +kernel
theorem dX5_canConnect_14 : decode cX5_canConnect 14 = .ok (.invokevirtual 63, 3) := by decide +kernel
theorem dX5_canConnect_17 : decode cX5_canConnect 17 = .ok (.ifCond .ne 29, 3) := by decide +kernel
theorem dX5_canConnect_20 : decode cX5_canConnect 20 = .ok (.aload_n 0, 1) := by decide +kernel
theorem dX5_canConnect_21 : decode cX5_canConnect 21 = .ok (.iload_n 1, 1) := by decide +kernel
theorem dX5_canConnect_22 : decode cX5_canConnect 22 = .ok (.invokevirtual 66, 3) := by decide +kernel
theorem dX5_canConnect_25 : decode cX5_canConnect 25 = .ok (.ifCond .ne 21, 3) := by decide +kernel
theorem dX5_canConnect_28 : decode cX5_canConnect 28 = .ok (.aload_n 0, 1) := by decide +kernel
theorem dX5_canConnect_29 : decode cX5_canConnect 29 = .ok (.iconst 0, 1) := by decide +kernel
theorem dX5_canConnect_30 : decode cX5_canConnect 30 = .ok (.invokevirtual 76, 3) := by decide +kernel
theorem dX5_canConnect_33 : decode cX5_canConnect 33 = .ok (.aload_n 0, 1) := by decide +kernel
theorem dX5_canConnect_34 : decode cX5_canConnect 34 = .ok (.iload_n 1, 1) := by decide +kernel
theorem dX5_canConnect_35 : decode cX5_canConnect 35 = .ok (.iconst 0, 1) := by decide +kernel
theorem dX5_canConnect_36 : decode cX5_canConnect 36 = .ok (.invokevirtual 63, 3) := by decide +kernel
theorem dX5_canConnect_39 : decode cX5_canConnect 39 = .ok (.if_icmp .gt 7, 3) := by decide +kernel
theorem dX5_canConnect_42 : decode cX5_canConnect 42 = .ok (.iconst 1, 1) := by decide +kernel
theorem dX5_canConnect_43 : decode cX5_canConnect 43 = .ok (.goto 4, 3) := by decide +kernel
theorem dX5_canConnect_46 : decode cX5_canConnect 46 = .ok (.iconst 0, 1) := by decide +kernel
theorem dX5_canConnect_47 : decode cX5_canConnect 47 = .ok (.ireturn, 1) := by decide +kernel
theorem dX5_doConnect_0 : decode cX5_doConnect 0 = .ok (.aload_n 0, 1) := by decide +kernel
theorem dX5_doConnect_1 : decode cX5_doConnect 1 = .ok (.iload_n 1, 1) := by decide +kernel
theorem dX5_doConnect_2 : decode cX5_doConnect 2 = .ok (.iconst 2, 1) := by decide +kernel
theorem dX5_doConnect_3 : decode cX5_doConnect 3 = .ok (.iload_n 2, 1) := by decide +kernel
theorem dX5_doConnect_4 : decode cX5_doConnect 4 = .ok (.invokevirtual 32, 3) := by decide +kernel
theorem dX5_doConnect_7 : decode cX5_doConnect 7 = .ok (.aload_n 0, 1) := by decide +kernel
theorem dX5_doConnect_8 : decode cX5_doConnect 8 = .ok (.invokevirtual 109, 3) := by decide +kernel
theorem dX5_doConnect_11 : decode cX5_doConnect 11 = .ok (.ireturn, 1) := by decide +kernel
theorem dX5_connect_0 : decode cX5_connect 0 = .ok (.iload_n 1, 1) := by decide +kernel
theorem dX5_connect_1 : decode cX5_connect 1 = .ok (.invokestatic 112, 3) := by decide +kernel
theorem dX5_connect_4 : decode cX5_connect 4 = .ok (.ifCond .eq 10, 3) := by decide +kernel
theorem dX5_connect_7 : decode cX5_connect 7 = .ok (.iload_n 2, 1) := by decide +kernel
theorem dX5_connect_8 : decode cX5_connect 8 = .ok (.invokestatic 116, 3) := by decide +kernel
theorem dX5_connect_11 : decode cX5_connect 11 = .ok (.ifCond .ne 6, 3) := by decide +kernel
theorem dX5_connect_14 : decode cX5_connect 14 = .ok (.ldc 115, 2) := by decide +kernel
theorem dX5_connect_16 : decode cX5_connect 16 = .ok (.ireturn, 1) := by decide +kernel
theorem dX5_connect_17 : decode cX5_connect 17 = .ok (.aload_n 0, 1) := by decide +kernel
theorem dX5_connect_18 : decode cX5_connect 18 = .ok (.iload_n 1, 1) := by decide +kernel
theorem dX5_connect_19 : decode cX5_connect 19 = .ok (.invokevirtual 119, 3) := by decide +kernel
theorem dX5_connect_22 : decode cX5_connect 22 = .ok (.ifCond .ne 6, 3) := by decide +kernel
theorem dX5_connect_25 : decode cX5_connect 25 = .ok (.ldc 108, 2) := by decide +kernel
theorem dX5_connect_27 : decode cX5_connect 27 = .ok (.ireturn, 1) := by decide +kernel
theorem dX5_connect_28 : decode cX5_connect 28 = .ok (.aload_n 0, 1) := by decide +kernel
theorem dX5_connect_29 : decode cX5_connect 29 = .ok (.invokevirtual 100, 3) := by decide +kernel
theorem dX5_connect_32 : decode cX5_connect 32 = .ok (.aload_n 0, 1) := by decide +kernel
theorem dX5_connect_33 : decode cX5_connect 33 = .ok (.iload_n 1, 1) := by decide +kernel
theorem dX5_connect_34 : decode cX5_connect 34 = .ok (.iload_n 2, 1) := by decide +kernel
theorem dX5_connect_35 : decode cX5_connect 35 = .ok (.invokevirtual 122, 3) := by decide +kernel
theorem dX5_connect_38 : decode cX5_connect 38 = .ok (.ireturn, 1) := by decide +kernel
theorem dX5_doDisconnect_0 : decode cX5_doDisconnect 0 = .ok (.aload_n 0, 1) := by decide +kernel
theorem dX5_doDisconnect_1 : decode cX5_doDisconnect 1 = .ok (.iload_n 1, 1) := by decide +kernel
theorem dX5_doDisconnect_2 : decode cX5_doDisconnect 2 = .ok (.iconst 2, 1) := by decide +kernel
theorem dX5_doDisconnect_3 : decode cX5_doDisconnect 3 = .ok (.invokevirtual 63, 3) := by decide +kernel
theorem dX5_doDisconnect_6 : decode cX5_doDisconnect 6 = .ok (.istore_n 2, 1) := by decide +kernel
theorem dX5_doDisconnect_7 : decode cX5_doDisconnect 7 = .ok (.aload_n 0, 1) := by decide +kernel
theorem dX5_doDisconnect_8 : decode cX5_doDisconnect 8 = .ok (.iload_n 1, 1) := by decide +kernel
theorem dX5_doDisconnect_9 : decode cX5_doDisconnect 9 = .ok (.iconst 2, 1) := by decide +kernel
theorem dX5_doDisconnect_10 : decode cX5_doDisconnect 10 = .ok (.ldc 36, 2) := by decide +kernel
theorem dX5_doDisconnect_12 : decode cX5_doDisconnect 12 = .ok (.invokevirtual 32, 3) := by decide +kernel
theorem dX5_doDisconnect_15 : decode cX5_doDisconnect 15 = .ok (.iload_n 2, 1) := by decide +kernel
theorem dX5_doDisconnect_16 : decode cX5_doDisconnect 16 = .ok (.ireturn, 1) := by decide +kernel
theorem dX5_disconnect_0 : decode cX5_disconnect 0 = .ok (.iload_n 1, 1) := by decide +kernel
theorem dX5_disconnect_1 : decode cX5_disconnect 1 = .ok (.invokestatic 112, 3) := by decide +kernel
theorem dX5_disconnect_4 : decode cX5_disconnect 4 = .ok (.ifCond .ne 6, 3) := by decide +kernel
theorem dX5_disconnect_7 : decode cX5_disconnect 7 = .ok (.ldc 115, 2) := by decide +kernel
theorem dX5_disconnect_9 : decode cX5_disconnect 9 = .ok (.ireturn, 1) := by decide +kernel
theorem dX5_disconnect_10 : decode cX5_disconnect 10 = .ok (.aload_n 0, 1) := by decide +kernel
theorem dX5_disconnect_11 : decode cX5_disconnect 11 = .ok (.iload_n 1, 1) := by decide +kernel
theorem dX5_disconnect_12 : decode cX5_disconnect 12 = .ok (.invokevirtual 66, 3) := by decide +kernel
theorem dX5_disconnect_15 : decode cX5_disconnect 15 = .ok (.ifCond .ne 6, 3) := by decide +kernel
theorem dX5_disconnect_18 : decode cX5_disconnect 18 = .ok (.ldc 108, 2) := by decide +kernel
theorem dX5_disconnect_20 : decode cX5_disconnect 20 = .ok (.ireturn, 1) := by decide +kernel
theorem dX5_disconnect_21 : decode cX5_disconnect 21 = .ok (.aload_n 0, 1) := by decide +kernel
theorem dX5_disconnect_22 : decode cX5_disconnect 22 = .ok (.invokevirtual 100, 3) := by decide +kernel
theorem dX5_disconnect_25 : decode cX5_disconnect 25 = .ok (.aload_n 0, 1) := by decide +kernel
theorem dX5_disconnect_26 : decode cX5_disconnect 26 = .ok (.iload_n 1, 1) := by decide +kernel
theorem dX5_disconnect_27 : decode cX5_disconnect 27 = .ok (.invokevirtual 125, 3) := by decide +kernel
theorem dX5_disconnect_30 : decode cX5_disconnect 30 = .ok (.ireturn, 1) := by decide +kernel
theorem dX5_canFlush_0 : decode cX5_canFlush 0 = .ok (.aload_n 0, 1) := by decide +kernel
theorem dX5_canFlush_1 : decode cX5_canFlush 1 = .ok (.iload_n 1, 1) := by decide +kernel
theorem dX5_canFlush_2 : decode cX5_canFlush 2 = .ok (.invokevirtual 66, 3) := by decide +kernel
theorem dX5_canFlush_5 : decode cX5_canFlush 5 = .ok (.ifCond .ne 16, 3) := by decide +kernel
theorem dX5_canFlush_8 : decode cX5_canFlush 8 = .ok (.aload_n 0, 1) := by decide +kernel
theorem dX5_canFlush_9 : decode cX5_canFlush 9 = .ok (.iload_n 1, 1) := by decide +kernel
theorem dX5_canFlush_10 : decode cX5_canFlush 10 = .ok (.iconst 1, 1) := by decide +kernel
theorem dX5_canFlush_11 : decode cX5_canFlush 11 = .ok (.invokevirtual 63, 3) := by decide +kernel
theorem dX5_canFlush_14 : decode cX5_canFlush 14 = .ok (.ifCond .lt 7, 3) := by decide +kernel
theorem dX5_canFlush_17 : decode cX5_canFlush 17 = .ok (.iconst 1, 1) := by decide +kernel
theorem dX5_canFlush_18 : decode cX5_canFlush 18 = .ok (.goto 4, 3) := by decide +kernel
theorem dX5_canFlush_21 : decode cX5_canFlush 21 = .ok (.iconst 0, 1) := by decide +kernel
theorem dX5_canFlush_22 : decode cX5_canFlush 22 = .ok (.ireturn, 1) := by decide +kernel
theorem dX5_doFlush_0 : decode cX5_doFlush 0 = .ok (.aload_n 0, 1) := by decide +kernel
theorem dX5_doFlush_1 : decode cX5_doFlush 1 = .ok (.iload_n 1, 1) := by decide +kernel
theorem dX5_doFlush_2 : decode cX5_doFlush 2 = .ok (.iconst 1, 1) := by decide +kernel
theorem dX5_doFlush_3 : decode cX5_doFlush 3 = .ok (.invokevirtual 63, 3) := by decide +kernel
theorem dX5_doFlush_6 : decode cX5_doFlush 6 = .ok (.istore_n 2, 1) := by decide +kernel
theorem dX5_doFlush_7 : decode cX5_doFlush 7 = .ok (.iconst 5, 1) := by decide +kernel
theorem dX5_doFlush_8 : decode cX5_doFlush 8 = .ok (.aload_n 0, 1) := by decide +kernel
theorem dX5_doFlush_9 : decode cX5_doFlush 9 = .ok (.getfield 7, 3) := by decide +kernel
theorem dX5_doFlush_12 : decode cX5_doFlush 12 = .ok (.bipush 14, 2) := by decide +kernel
theorem dX5_doFlush_14 : decode cX5_doFlush 14 = .ok (.iload_n 2, 1) := by decide +kernel
theorem dX5_doFlush_15 : decode cX5_doFlush 15 = .ok (.iadd, 1) := by decide +kernel
theorem dX5_doFlush_16 : decode cX5_doFlush 16 = .ok (.iaload, 1) := by decide +kernel
theorem dX5_doFlush_17 : decode cX5_doFlush 17 = .ok (.invokestatic 70, 3) := by decide +kernel
theorem dX5_doFlush_20 : decode cX5_doFlush 20 = .ok (.istore_n 3, 1) := by decide +kernel
theorem dX5_doFlush_21 : decode cX5_doFlush 21 = .ok (.aload_n 0, 1) := by decide +kernel
theorem dX5_doFlush_22 : decode cX5_doFlush 22 = .ok (.getfield 7, 3) := by decide +kernel
theorem dX5_doFlush_25 : decode cX5_doFlush 25 = .ok (.bipush 14, 2) := by decide +kernel
theorem dX5_doFlush_27 : decode cX5_doFlush 27 = .ok (.iload_n 2, 1) := by decide +kernel
theorem dX5_doFlush_28 : decode cX5_doFlush 28 = .ok (.iadd, 1) := by decide +kernel
theorem dX5_doFlush_29 : decode cX5_doFlush 29 = .ok (.dup2, 1) := by decide +kernel
theorem dX5_doFlush_30 : decode cX5_doFlush 30 = .ok (.iaload, 1) := by decide +kernel
theorem dX5_doFlush_31 : decode cX5_doFlush 31 = .ok (.iload_n 3, 1) := by decide +kernel
theorem dX5_doFlush_32 : decode cX5_doFlush 32 = .ok (.isub, 1) := by decide +kernel
theorem dX5_doFlush_33 : decode cX5_doFlush 33 = .ok (.iastore, 1) := by decide +kernel
theorem dX5_doFlush_34 : decode cX5_doFlush 34 = .ok (.aload_n 0, 1) := by decide +kernel
theorem dX5_doFlush_35 : decode cX5_doFlush 35 = .ok (.getfield 7, 3) := by decide +kernel
theorem dX5_doFlush_38 : decode cX5_doFlush 38 = .ok (.bipush 18, 2) := by decide +kernel
theorem dX5_doFlush_40 : decode cX5_doFlush 40 = .ok (.iload_n 2, 1) := by decide +kernel
theorem dX5_doFlush_41 : decode cX5_doFlush 41 = .ok (.iadd, 1) := by decide +kernel
theorem dX5_doFlush_42 : decode cX5_doFlush 42 = .ok (.dup2, 1) := by decide +kernel
theorem dX5_doFlush_43 : decode cX5_doFlush 43 = .ok (.iaload, 1) := by decide +kernel
theorem dX5_doFlush_44 : decode cX5_doFlush 44 = .ok (.iload_n 3, 1) := by decide +kernel
theorem dX5_doFlush_45 : decode cX5_doFlush 45 = .ok (.iadd, 1) := by decide +kernel
theorem dX5_doFlush_46 : decode cX5_doFlush 46 = .ok (.iastore, 1) := by decide +kernel
theorem dX5_doFlush_47 : decode cX5_doFlush 47 = .ok (.aload_n 0, 1) := by decide +kernel
theorem dX5_doFlush_48 : decode cX5_doFlush 48 = .ok (.iload_n 1, 1) := by decide +kernel
theorem dX5_doFlush_49 : decode cX5_doFlush 49 = .ok (.iconst 1, 1) := by decide +kernel
theorem dX5_doFlush_50 : decode cX5_doFlush 50 = .ok (.ldc 36, 2) := by decide +kernel
theorem dX5_doFlush_52 : decode cX5_doFlush 52 = .ok (.invokevirtual 32, 3) := by decide +kernel
theorem dX5_doFlush_55 : decode cX5_doFlush 55 = .ok (.iload_n 3, 1) := by decide +kernel
theorem dX5_doFlush_56 : decode cX5_doFlush 56 = .ok (.ireturn, 1) := by decide +kernel
theorem dX5_flush_0 : decode cX5_flush 0 = .ok (.iload_n 1, 1) := by decide +kernel
theorem dX5_flush_1 : decode cX5_flush 1 = .ok (.invokestatic 112, 3) := by decide +kernel
theorem dX5_flush_4 : decode cX5_flush 4 = .ok (.ifCond .ne 6, 3) := by decide +kernel
theorem dX5_flush_7 : decode cX5_flush 7 = .ok (.ldc 115, 2) := by decide +kernel
theorem dX5_flush_9 : decode cX5_flush 9 = .ok (.ireturn, 1) := by decide +kernel
theorem dX5_flush_10 : decode cX5_flush 10 = .ok (.aload_n 0, 1) := by decide +kernel
theorem dX5_flush_11 : decode cX5_flush 11 = .ok (.iload_n 1, 1) := by decide +kernel
theorem dX5_flush_12 : decode cX5_flush 12 = .ok (.invokevirtual 128, 3) := by decide +kernel
theorem dX5_flush_15 : decode cX5_flush 15 = .ok (.ifCond .ne 6, 3) := by decide +kernel
theorem dX5_flush_18 : decode cX5_flush 18 = .ok (.ldc 108, 2) := by decide +kernel
theorem dX5_flush_20 : decode cX5_flush 20 = .ok (.ireturn, 1) := by decide +kernel
theorem dX5_flush_21 : decode cX5_flush 21 = .ok (.aload_n 0, 1) := by decide +kernel
theorem dX5_flush_22 : decode cX5_flush 22 = .ok (.invokevirtual 100, 3) := by decide +kernel
theorem dX5_flush_25 : decode cX5_flush 25 = .ok (.aload_n 0, 1) := by decide +kernel
theorem dX5_flush_26 : decode cX5_flush 26 = .ok (.iload_n 1, 1) := by decide +kernel
theorem dX5_flush_27 : decode cX5_flush 27 = .ok (.invokevirtual 131, 3) := by decide +kernel
theorem dX5_flush_30 : decode cX5_flush 30 = .ok (.ireturn, 1) := by decide +kernel
theorem dX5_mend_0 : decode cX5_mend 0 = .ok (.iload_n 1, 1) := by decide +kernel
theorem dX5_mend_1 : decode cX5_mend 1 = .ok (.invokestatic 112, 3) := by decide +kernel
theorem dX5_mend_4 : decode cX5_mend 4 = .ok (.ifCond .ne 6, 3) := by decide +kernel
theorem dX5_mend_7 : decode cX5_mend 7 = .ok (.ldc 115, 2) := by decide +kernel
theorem dX5_mend_9 : decode cX5_mend 9 = .ok (.ireturn, 1) := by decide +kernel
theorem dX5_mend_10 : decode cX5_mend 10 = .ok (.aload_n 0, 1) := by decide +kernel
theorem dX5_mend_11 : decode cX5_mend 11 = .ok (.iload_n 1, 1) := by decide +kernel
theorem dX5_mend_12 : decode cX5_mend 12 = .ok (.iconst 3, 1) := by decide +kernel
theorem dX5_mend_13 : decode cX5_mend 13 = .ok (.invokevirtual 63, 3) := by decide +kernel
theorem dX5_mend_16 : decode cX5_mend 16 = .ok (.ifCond .ne 6, 3) := by decide +kernel
theorem dX5_mend_19 : decode cX5_mend 19 = .ok (.ldc 108, 2) := by decide +kernel
theorem dX5_mend_21 : decode cX5_mend 21 = .ok (.ireturn, 1) := by decide +kernel
theorem dX5_mend_22 : decode cX5_mend 22 = .ok (.aload_n 0, 1) := by decide +kernel
theorem dX5_mend_23 : decode cX5_mend 23 = .ok (.invokevirtual 100, 3) := by decide +kernel
theorem dX5_mend_26 : decode cX5_mend 26 = .ok (.aload_n 0, 1) := by decide +kernel
theorem dX5_mend_27 : decode cX5_mend 27 = .ok (.iload_n 1, 1) := by decide +kernel
theorem dX5_mend_28 : decode cX5_mend 28 = .ok (.iconst 3, 1) := by decide +kernel
theorem dX5_mend_29 : decode cX5_mend 29 = .ok (.iconst 0, 1) := by decide +kernel
theorem dX5_mend_30 : decode cX5_mend 30 = .ok (.invokevirtual 32, 3) := by decide +kernel
theorem dX5_mend_33 : decode cX5_mend 33 = .ok (.aload_n 0, 1) := by decide +kernel
theorem dX5_mend_34 : decode cX5_mend 34 = .ok (.iload_n 1, 1) := by decide +kernel
theorem dX5_mend_35 : decode cX5_mend 35 = .ok (.iconst 1, 1) := by decide +kernel
theorem dX5_mend_36 : decode cX5_mend 36 = .ok (.ldc 36, 2) := by decide +kernel
theorem dX5_mend_38 : decode cX5_mend 38 = .ok (.invokevirtual 32, 3) := by decide +kernel
theorem dX5_mend_41 : decode cX5_mend 41 = .ok (.aload_n 0, 1) := by decide +kernel
theorem dX5_mend_42 : decode cX5_mend 42 = .ok (.invokevirtual 134, 3) := by decide +kernel
theorem dX5_mend_45 : decode cX5_mend 45 = .ok (.ireturn, 1) := by decide +kernel
theorem dX5_boom_0 : decode cX5_boom 0 = .ok (.iload_n 1, 1) := by decide +kernel
theorem dX5_boom_1 : decode cX5_boom 1 = .ok (.aload_n 0, 1) := by decide +kernel
theorem dX5_boom_2 : decode cX5_boom 2 = .ok (.getfield 7, 3) := by decide +kernel
theorem dX5_boom_5 : decode cX5_boom 5 = .ok (.bipush 7, 2) := by decide +kernel
theorem dX5_boom_7 : decode cX5_boom 7 = .ok (.iaload, 1) := by decide +kernel
theorem dX5_boom_8 : decode cX5_boom 8 = .ok (.iconst 1, 1) := by decide +kernel
theorem dX5_boom_9 : decode cX5_boom 9 = .ok (.if_icmp .ne 7, 3) := by decide +kernel
theorem dX5_boom_12 : decode cX5_boom 12 = .ok (.iconst 1, 1) := by decide +kernel
theorem dX5_boom_13 : decode cX5_boom 13 = .ok (.goto 4, 3) := by decide +kernel
theorem dX5_boom_16 : decode cX5_boom 16 = .ok (.iconst 0, 1) := by decide +kernel
theorem dX5_boom_17 : decode cX5_boom 17 = .ok (.if_icmp .ne 6, 3) := by decide +kernel
theorem dX5_boom_20 : decode cX5_boom 20 = .ok (.ldc 108, 2) := by decide +kernel
theorem dX5_boom_22 : decode cX5_boom 22 = .ok (.ireturn, 1) := by decide +kernel
theorem dX5_boom_23 : decode cX5_boom 23 = .ok (.aload_n 0, 1) := by decide +kernel
theorem dX5_boom_24 : decode cX5_boom 24 = .ok (.invokevirtual 100, 3) := by decide +kernel
theorem dX5_boom_27 : decode cX5_boom 27 = .ok (.aload_n 0, 1) := by decide +kernel
theorem dX5_boom_28 : decode cX5_boom 28 = .ok (.getfield 7, 3) := by decide +kernel
theorem dX5_boom_31 : decode cX5_boom 31 = .ok (.bipush 8, 2) := by decide +kernel
theorem dX5_boom_33 : decode cX5_boom 33 = .ok (.iaload, 1) := by decide +kernel
theorem dX5_boom_34 : decode cX5_boom 34 = .ok (.istore_n 2, 1) := by decide +kernel
theorem dX5_boom_35 : decode cX5_boom 35 = .ok (.aload_n 0, 1) := by decide +kernel
theorem dX5_boom_36 : decode cX5_boom 36 = .ok (.getfield 7, 3) := by decide +kernel
theorem dX5_boom_39 : decode cX5_boom 39 = .ok (.bipush 10, 2) := by decide +kernel
theorem dX5_boom_41 : decode cX5_boom 41 = .ok (.dup2, 1) := by decide +kernel
theorem dX5_boom_42 : decode cX5_boom 42 = .ok (.iaload, 1) := by decide +kernel
theorem dX5_boom_43 : decode cX5_boom 43 = .ok (.iload_n 2, 1) := by decide +kernel
theorem dX5_boom_44 : decode cX5_boom 44 = .ok (.iadd, 1) := by decide +kernel
theorem dX5_boom_45 : decode cX5_boom 45 = .ok (.iastore, 1) := by decide +kernel
theorem dX5_boom_46 : decode cX5_boom 46 = .ok (.aload_n 0, 1) := by decide +kernel
theorem dX5_boom_47 : decode cX5_boom 47 = .ok (.getfield 7, 3) := by decide +kernel
theorem dX5_boom_50 : decode cX5_boom 50 = .ok (.bipush 8, 2) := by decide +kernel
theorem dX5_boom_52 : decode cX5_boom 52 = .ok (.iconst 0, 1) := by decide +kernel
theorem dX5_boom_53 : decode cX5_boom 53 = .ok (.iastore, 1) := by decide +kernel
theorem dX5_boom_54 : decode cX5_boom 54 = .ok (.aload_n 0, 1) := by decide +kernel
theorem dX5_boom_55 : decode cX5_boom 55 = .ok (.getfield 7, 3) := by decide +kernel
theorem dX5_boom_58 : decode cX5_boom 58 = .ok (.bipush 7, 2) := by decide +kernel
theorem dX5_boom_60 : decode cX5_boom 60 = .ok (.iload_n 1, 1) := by decide +kernel
theorem dX5_boom_61 : decode cX5_boom 61 = .ok (.ifCond .eq 7, 3) := by decide +kernel
theorem dX5_boom_64 : decode cX5_boom 64 = .ok (.iconst 1, 1) := by decide +kernel
theorem dX5_boom_65 : decode cX5_boom 65 = .ok (.goto 4, 3) := by decide +kernel
theorem dX5_boom_68 : decode cX5_boom 68 = .ok (.iconst 0, 1) := by decide +kernel
theorem dX5_boom_69 : decode cX5_boom 69 = .ok (.iastore, 1) := by decide +kernel
theorem dX5_boom_70 : decode cX5_boom 70 = .ok (.iload_n 2, 1) := by decide +kernel
theorem dX5_boom_71 : decode cX5_boom 71 = .ok (.ireturn, 1) := by decide +kernel
theorem dX5_draw_0 : decode cX5_draw 0 = .ok (.iload_n 1, 1) := by decide +kernel
theorem dX5_draw_1 : decode cX5_draw 1 = .ok (.invokestatic 116, 3) := by decide +kernel
theorem dX5_draw_4 : decode cX5_draw 4 = .ok (.ifCond .ne 6, 3) := by decide +kernel
theorem dX5_draw_7 : decode cX5_draw 7 = .ok (.ldc 115, 2) := by decide +kernel
theorem dX5_draw_9 : decode cX5_draw 9 = .ok (.ireturn, 1) := by decide +kernel
theorem dX5_draw_10 : decode cX5_draw 10 = .ok (.iload_n 2, 1) := by decide +kernel
theorem dX5_draw_11 : decode cX5_draw 11 = .ok (.iconst 1, 1) := by decide +kernel
theorem dX5_draw_12 : decode cX5_draw 12 = .ok (.sipush 1000, 3) := by decide +kernel
theorem dX5_draw_15 : decode cX5_draw 15 = .ok (.invokestatic 59, 3) := by decide +kernel
theorem dX5_draw_18 : decode cX5_draw 18 = .ok (.ifCond .ne 6, 3) := by decide +kernel
theorem dX5_draw_21 : decode cX5_draw 21 = .ok (.ldc 99, 2) := by decide +kernel
theorem dX5_draw_23 : decode cX5_draw 23 = .ok (.ireturn, 1) := by decide +kernel
theorem dX5_draw_24 : decode cX5_draw 24 = .ok (.aload_n 0, 1) := by decide +kernel
theorem dX5_draw_25 : decode cX5_draw 25 = .ok (.getfield 7, 3) := by decide +kernel
theorem dX5_draw_28 : decode cX5_draw 28 = .ok (.bipush 14, 2) := by decide +kernel
theorem dX5_draw_30 : decode cX5_draw 30 = .ok (.iload_n 1, 1) := by decide +kernel
theorem dX5_draw_31 : decode cX5_draw 31 = .ok (.iadd, 1) := by decide +kernel
theorem dX5_draw_32 : decode cX5_draw 32 = .ok (.iaload, 1) := by decide +kernel
theorem dX5_draw_33 : decode cX5_draw 33 = .ok (.iload_n 2, 1) := by decide +kernel
theorem dX5_draw_34 : decode cX5_draw 34 = .ok (.if_icmp .ge 6, 3) := by decide +kernel
theorem dX5_draw_37 : decode cX5_draw 37 = .ok (.ldc 108, 2) := by decide +kernel
theorem dX5_draw_39 : decode cX5_draw 39 = .ok (.ireturn, 1) := by decide +kernel
theorem dX5_draw_40 : decode cX5_draw 40 = .ok (.aload_n 0, 1) := by decide +kernel
theorem dX5_draw_41 : decode cX5_draw 41 = .ok (.invokevirtual 100, 3) := by decide +kernel
theorem dX5_draw_44 : decode cX5_draw 44 = .ok (.aload_n 0, 1) := by decide +kernel
theorem dX5_draw_45 : decode cX5_draw 45 = .ok (.getfield 7, 3) := by decide +kernel
theorem dX5_draw_48 : decode cX5_draw 48 = .ok (.bipush 14, 2) := by decide +kernel
theorem dX5_draw_50 : decode cX5_draw 50 = .ok (.iload_n 1, 1) := by decide +kernel
theorem dX5_draw_51 : decode cX5_draw 51 = .ok (.iadd, 1) := by decide +kernel
theorem dX5_draw_52 : decode cX5_draw 52 = .ok (.dup2, 1) := by decide +kernel
theorem dX5_draw_53 : decode cX5_draw 53 = .ok (.iaload, 1) := by decide +kernel
theorem dX5_draw_54 : decode cX5_draw 54 = .ok (.iload_n 2, 1) := by decide +kernel
theorem dX5_draw_55 : decode cX5_draw 55 = .ok (.isub, 1) := by decide +kernel
theorem dX5_draw_56 : decode cX5_draw 56 = .ok (.iastore, 1) := by decide +kernel
theorem dX5_draw_57 : decode cX5_draw 57 = .ok (.aload_n 0, 1) := by decide +kernel
theorem dX5_draw_58 : decode cX5_draw 58 = .ok (.getfield 7, 3) := by decide +kernel
theorem dX5_draw_61 : decode cX5_draw 61 = .ok (.bipush 14, 2) := by decide +kernel
theorem dX5_draw_63 : decode cX5_draw 63 = .ok (.iload_n 1, 1) := by decide +kernel
theorem dX5_draw_64 : decode cX5_draw 64 = .ok (.iadd, 1) := by decide +kernel
theorem dX5_draw_65 : decode cX5_draw 65 = .ok (.iaload, 1) := by decide +kernel
theorem dX5_draw_66 : decode cX5_draw 66 = .ok (.ireturn, 1) := by decide +kernel
theorem dX5_doPass_0 : decode cX5_doPass 0 = .ok (.iconst 0, 1) := by decide +kernel
theorem dX5_doPass_1 : decode cX5_doPass 1 = .ok (.istore_n 2, 1) := by decide +kernel
theorem dX5_doPass_2 : decode cX5_doPass 2 = .ok (.iconst 0, 1) := by decide +kernel
theorem dX5_doPass_3 : decode cX5_doPass 3 = .ok (.istore_n 3, 1) := by decide +kernel
theorem dX5_doPass_4 : decode cX5_doPass 4 = .ok (.iload_n 3, 1) := by decide +kernel
theorem dX5_doPass_5 : decode cX5_doPass 5 = .ok (.iload_n 1, 1) := by decide +kernel
theorem dX5_doPass_6 : decode cX5_doPass 6 = .ok (.if_icmp .ge 16, 3) := by decide +kernel
theorem dX5_doPass_9 : decode cX5_doPass 9 = .ok (.iload_n 2, 1) := by decide +kernel
theorem dX5_doPass_10 : decode cX5_doPass 10 = .ok (.aload_n 0, 1) := by decide +kernel
theorem dX5_doPass_11 : decode cX5_doPass 11 = .ok (.invokevirtual 137, 3) := by decide +kernel
theorem dX5_doPass_14 : decode cX5_doPass 14 = .ok (.iadd, 1) := by decide +kernel
theorem dX5_doPass_15 : decode cX5_doPass 15 = .ok (.istore_n 2, 1) := by decide +kernel
theorem dX5_doPass_16 : decode cX5_doPass 16 = .ok (.iinc 3 1, 3) := by decide +kernel
theorem dX5_doPass_19 : decode cX5_doPass 19 = .ok (.goto (-15), 3) := by decide +kernel
theorem dX5_doPass_22 : decode cX5_doPass 22 = .ok (.iload_n 2, 1) := by decide +kernel
theorem dX5_doPass_23 : decode cX5_doPass 23 = .ok (.ireturn, 1) := by decide +kernel
theorem dX5_pass_0 : decode cX5_pass 0 = .ok (.iload_n 1, 1) := by decide +kernel
theorem dX5_pass_1 : decode cX5_pass 1 = .ok (.iconst 1, 1) := by decide +kernel
theorem dX5_pass_2 : decode cX5_pass 2 = .ok (.bipush 48, 2) := by decide +kernel
theorem dX5_pass_4 : decode cX5_pass 4 = .ok (.invokestatic 59, 3) := by decide +kernel
theorem dX5_pass_7 : decode cX5_pass 7 = .ok (.ifCond .ne 6, 3) := by decide +kernel
theorem dX5_pass_10 : decode cX5_pass 10 = .ok (.ldc 99, 2) := by decide +kernel
theorem dX5_pass_12 : decode cX5_pass 12 = .ok (.ireturn, 1) := by decide +kernel
theorem dX5_pass_13 : decode cX5_pass 13 = .ok (.aload_n 0, 1) := by decide +kernel
theorem dX5_pass_14 : decode cX5_pass 14 = .ok (.getfield 7, 3) := by decide +kernel
theorem dX5_pass_17 : decode cX5_pass 17 = .ok (.bipush 6, 2) := by decide +kernel
theorem dX5_pass_19 : decode cX5_pass 19 = .ok (.iaload, 1) := by decide +kernel
theorem dX5_pass_20 : decode cX5_pass 20 = .ok (.iload_n 1, 1) := by decide +kernel
theorem dX5_pass_21 : decode cX5_pass 21 = .ok (.iadd, 1) := by decide +kernel
theorem dX5_pass_22 : decode cX5_pass 22 = .ok (.sipush 9999, 3) := by decide +kernel
theorem dX5_pass_25 : decode cX5_pass 25 = .ok (.if_icmp .le 6, 3) := by decide +kernel
theorem dX5_pass_28 : decode cX5_pass 28 = .ok (.ldc 103, 2) := by decide +kernel
theorem dX5_pass_30 : decode cX5_pass 30 = .ok (.ireturn, 1) := by decide +kernel
theorem dX5_pass_31 : decode cX5_pass 31 = .ok (.aload_n 0, 1) := by decide +kernel
theorem dX5_pass_32 : decode cX5_pass 32 = .ok (.invokevirtual 100, 3) := by decide +kernel
theorem dX5_pass_35 : decode cX5_pass 35 = .ok (.aload_n 0, 1) := by decide +kernel
theorem dX5_pass_36 : decode cX5_pass 36 = .ok (.iload_n 1, 1) := by decide +kernel
theorem dX5_pass_37 : decode cX5_pass 37 = .ok (.invokevirtual 140, 3) := by decide +kernel
theorem dX5_pass_40 : decode cX5_pass 40 = .ok (.ireturn, 1) := by decide +kernel
theorem dX5_tanker_0 : decode cX5_tanker 0 = .ok (.iload_n 2, 1) := by decide +kernel
theorem dX5_tanker_1 : decode cX5_tanker 1 = .ok (.iconst 0, 1) := by decide +kernel
theorem dX5_tanker_2 : decode cX5_tanker 2 = .ok (.bipush 7, 2) := by decide +kernel
theorem dX5_tanker_4 : decode cX5_tanker 4 = .ok (.invokestatic 59, 3) := by decide +kernel
theorem dX5_tanker_7 : decode cX5_tanker 7 = .ok (.ifCond .ne 6, 3) := by decide +kernel
theorem dX5_tanker_10 : decode cX5_tanker 10 = .ok (.ldc 99, 2) := by decide +kernel
theorem dX5_tanker_12 : decode cX5_tanker 12 = .ok (.ireturn, 1) := by decide +kernel
theorem dX5_tanker_13 : decode cX5_tanker 13 = .ok (.aload_n 0, 1) := by decide +kernel
theorem dX5_tanker_14 : decode cX5_tanker 14 = .ok (.iload_n 1, 1) := by decide +kernel
theorem dX5_tanker_15 : decode cX5_tanker 15 = .ok (.invokevirtual 90, 3) := by decide +kernel
theorem dX5_tanker_18 : decode cX5_tanker 18 = .ok (.ifCond .ne 6, 3) := by decide +kernel
theorem dX5_tanker_21 : decode cX5_tanker 21 = .ok (.ldc 115, 2) := by decide +kernel
theorem dX5_tanker_23 : decode cX5_tanker 23 = .ok (.ireturn, 1) := by decide +kernel
theorem dX5_tanker_24 : decode cX5_tanker 24 = .ok (.iload_n 2, 1) := by decide +kernel
theorem dX5_tanker_25 : decode cX5_tanker 25 = .ok (.tableswitch 79 4 7 #[31, 37, 43, 64], 31) := by decide +kernel
theorem dX5_tanker_56 : decode cX5_tanker 56 = .ok (.aload_n 0, 1) := by decide +kernel
theorem dX5_tanker_57 : decode cX5_tanker 57 = .ok (.iload_n 1, 1) := by decide +kernel
theorem dX5_tanker_58 : decode cX5_tanker 58 = .ok (.invokevirtual 56, 3) := by decide +kernel
theorem dX5_tanker_61 : decode cX5_tanker 61 = .ok (.ireturn, 1) := by decide +kernel
theorem dX5_tanker_62 : decode cX5_tanker 62 = .ok (.aload_n 0, 1) := by decide +kernel
theorem dX5_tanker_63 : decode cX5_tanker 63 = .ok (.iload_n 1, 1) := by decide +kernel
theorem dX5_tanker_64 : decode cX5_tanker 64 = .ok (.invokevirtual 76, 3) := by decide +kernel
theorem dX5_tanker_67 : decode cX5_tanker 67 = .ok (.ireturn, 1) := by decide +kernel
theorem dX5_tanker_68 : decode cX5_tanker 68 = .ok (.aload_n 0, 1) := by decide +kernel
theorem dX5_tanker_69 : decode cX5_tanker 69 = .ok (.iload_n 1, 1) := by decide +kernel
theorem dX5_tanker_70 : decode cX5_tanker 70 = .ok (.aload_n 0, 1) := by decide +kernel
theorem dX5_tanker_71 : decode cX5_tanker 71 = .ok (.getfield 7, 3) := by decide +kernel
theorem dX5_tanker_74 : decode cX5_tanker 74 = .ok (.bipush 6, 2) := by decide +kernel
theorem dX5_tanker_76 : decode cX5_tanker 76 = .ok (.iaload, 1) := by decide +kernel
theorem dX5_tanker_77 : decode cX5_tanker 77 = .ok (.invokevirtual 83, 3) := by decide +kernel
theorem dX5_tanker_80 : decode cX5_tanker 80 = .ok (.ifCond .eq 7, 3) := by decide +kernel
theorem dX5_tanker_83 : decode cX5_tanker 83 = .ok (.iconst 1, 1) := by decide +kernel
theorem dX5_tanker_84 : decode cX5_tanker 84 = .ok (.goto 4, 3) := by decide +kernel
theorem dX5_tanker_87 : decode cX5_tanker 87 = .ok (.iconst 0, 1) := by decide +kernel
theorem dX5_tanker_88 : decode cX5_tanker 88 = .ok (.ireturn, 1) := by decide +kernel
theorem dX5_tanker_89 : decode cX5_tanker 89 = .ok (.aload_n 0, 1) := by decide +kernel
theorem dX5_tanker_90 : decode cX5_tanker 90 = .ok (.getfield 7, 3) := by decide +kernel
theorem dX5_tanker_93 : decode cX5_tanker 93 = .ok (.bipush 6, 2) := by decide +kernel
theorem dX5_tanker_95 : decode cX5_tanker 95 = .ok (.iaload, 1) := by decide +kernel
theorem dX5_tanker_96 : decode cX5_tanker 96 = .ok (.aload_n 0, 1) := by decide +kernel
theorem dX5_tanker_97 : decode cX5_tanker 97 = .ok (.iload_n 1, 1) := by decide +kernel
theorem dX5_tanker_98 : decode cX5_tanker 98 = .ok (.iconst 4, 1) := by decide +kernel
theorem dX5_tanker_99 : decode cX5_tanker 99 = .ok (.invokevirtual 45, 3) := by decide +kernel
theorem dX5_tanker_102 : decode cX5_tanker 102 = .ok (.isub, 1) := by decide +kernel
theorem dX5_tanker_103 : decode cX5_tanker 103 = .ok (.ireturn, 1) := by decide +kernel
theorem dX5_tanker_104 : decode cX5_tanker 104 = .ok (.aload_n 0, 1) := by decide +kernel
theorem dX5_tanker_105 : decode cX5_tanker 105 = .ok (.iload_n 1, 1) := by decide +kernel
theorem dX5_tanker_106 : decode cX5_tanker 106 = .ok (.iload_n 2, 1) := by decide +kernel
theorem dX5_tanker_107 : decode cX5_tanker 107 = .ok (.invokevirtual 45, 3) := by decide +kernel
theorem dX5_tanker_110 : decode cX5_tanker 110 = .ok (.ireturn, 1) := by decide +kernel
theorem dX5_hose_0 : decode cX5_hose 0 = .ok (.iload_n 1, 1) := by decide +kernel
theorem dX5_hose_1 : decode cX5_hose 1 = .ok (.invokestatic 112, 3) := by decide +kernel
theorem dX5_hose_4 : decode cX5_hose 4 = .ok (.ifCond .ne 6, 3) := by decide +kernel
theorem dX5_hose_7 : decode cX5_hose 7 = .ok (.ldc 115, 2) := by decide +kernel
theorem dX5_hose_9 : decode cX5_hose 9 = .ok (.ireturn, 1) := by decide +kernel
theorem dX5_hose_10 : decode cX5_hose 10 = .ok (.iload_n 2, 1) := by decide +kernel
theorem dX5_hose_11 : decode cX5_hose 11 = .ok (.iconst 0, 1) := by decide +kernel
theorem dX5_hose_12 : decode cX5_hose 12 = .ok (.iconst 5, 1) := by decide +kernel
theorem dX5_hose_13 : decode cX5_hose 13 = .ok (.invokestatic 59, 3) := by decide +kernel
theorem dX5_hose_16 : decode cX5_hose 16 = .ok (.ifCond .eq 12, 3) := by decide +kernel
theorem dX5_hose_19 : decode cX5_hose 19 = .ok (.aload_n 0, 1) := by decide +kernel
theorem dX5_hose_20 : decode cX5_hose 20 = .ok (.iload_n 1, 1) := by decide +kernel
theorem dX5_hose_21 : decode cX5_hose 21 = .ok (.iload_n 2, 1) := by decide +kernel
theorem dX5_hose_22 : decode cX5_hose 22 = .ok (.invokevirtual 63, 3) := by decide +kernel
theorem dX5_hose_25 : decode cX5_hose 25 = .ok (.goto 5, 3) := by decide +kernel
theorem dX5_hose_28 : decode cX5_hose 28 = .ok (.ldc 99, 2) := by decide +kernel
theorem dX5_hose_30 : decode cX5_hose 30 = .ok (.ireturn, 1) := by decide +kernel
theorem dX5_grade_0 : decode cX5_grade 0 = .ok (.iload_n 1, 1) := by decide +kernel
theorem dX5_grade_1 : decode cX5_grade 1 = .ok (.invokestatic 116, 3) := by decide +kernel
theorem dX5_grade_4 : decode cX5_grade 4 = .ok (.ifCond .ne 6, 3) := by decide +kernel
theorem dX5_grade_7 : decode cX5_grade 7 = .ok (.ldc 115, 2) := by decide +kernel
theorem dX5_grade_9 : decode cX5_grade 9 = .ok (.ireturn, 1) := by decide +kernel
theorem dX5_grade_10 : decode cX5_grade 10 = .ok (.iload_n 2, 1) := by decide +kernel
theorem dX5_grade_11 : decode cX5_grade 11 = .ok (.iconst 0, 1) := by decide +kernel
theorem dX5_grade_12 : decode cX5_grade 12 = .ok (.iconst 3, 1) := by decide +kernel
theorem dX5_grade_13 : decode cX5_grade 13 = .ok (.invokestatic 59, 3) := by decide +kernel
theorem dX5_grade_16 : decode cX5_grade 16 = .ok (.ifCond .ne 6, 3) := by decide +kernel
theorem dX5_grade_19 : decode cX5_grade 19 = .ok (.ldc 99, 2) := by decide +kernel
theorem dX5_grade_21 : decode cX5_grade 21 = .ok (.ireturn, 1) := by decide +kernel
theorem dX5_grade_22 : decode cX5_grade 22 = .ok (.iload_n 2, 1) := by decide +kernel
theorem dX5_grade_23 : decode cX5_grade 23 = .ok (.iconst 1, 1) := by decide +kernel
theorem dX5_grade_24 : decode cX5_grade 24 = .ok (.if_icmp .ne 51, 3) := by decide +kernel
theorem dX5_grade_27 : decode cX5_grade 27 = .ok (.iconst 0, 1) := by decide +kernel
theorem dX5_grade_28 : decode cX5_grade 28 = .ok (.istore_n 3, 1) := by decide +kernel
theorem dX5_grade_29 : decode cX5_grade 29 = .ok (.iconst 0, 1) := by decide +kernel
theorem dX5_grade_30 : decode cX5_grade 30 = .ok (.istore 4, 2) := by decide +kernel
theorem dX5_grade_32 : decode cX5_grade 32 = .ok (.iload 4, 2) := by decide +kernel
theorem dX5_grade_34 : decode cX5_grade 34 = .ok (.aload_n 0, 1) := by decide +kernel
theorem dX5_grade_35 : decode cX5_grade 35 = .ok (.getfield 7, 3) := by decide +kernel
theorem dX5_grade_38 : decode cX5_grade 38 = .ok (.bipush 12, 2) := by decide +kernel
theorem dX5_grade_40 : decode cX5_grade 40 = .ok (.iaload, 1) := by decide +kernel
theorem dX5_grade_41 : decode cX5_grade 41 = .ok (.if_icmp .gt 32, 3) := by decide +kernel
theorem dX5_grade_44 : decode cX5_grade 44 = .ok (.iload_n 3, 1) := by decide +kernel
theorem dX5_grade_45 : decode cX5_grade 45 = .ok (.aload_n 0, 1) := by decide +kernel
theorem dX5_grade_46 : decode cX5_grade 46 = .ok (.iload 4, 2) := by decide +kernel
theorem dX5_grade_48 : decode cX5_grade 48 = .ok (.invokevirtual 90, 3) := by decide +kernel
theorem dX5_grade_51 : decode cX5_grade 51 = .ok (.ifCond .eq 13, 3) := by decide +kernel
theorem dX5_grade_54 : decode cX5_grade 54 = .ok (.aload_n 0, 1) := by decide +kernel
theorem dX5_grade_55 : decode cX5_grade 55 = .ok (.iload 4, 2) := by decide +kernel
theorem dX5_grade_57 : decode cX5_grade 57 = .ok (.iload_n 1, 1) := by decide +kernel
theorem dX5_grade_58 : decode cX5_grade 58 = .ok (.invokevirtual 45, 3) := by decide +kernel
theorem dX5_grade_61 : decode cX5_grade 61 = .ok (.goto 4, 3) := by decide +kernel
theorem dX5_grade_64 : decode cX5_grade 64 = .ok (.iconst 0, 1) := by decide +kernel
theorem dX5_grade_65 : decode cX5_grade 65 = .ok (.iadd, 1) := by decide +kernel
theorem dX5_grade_66 : decode cX5_grade 66 = .ok (.istore_n 3, 1) := by decide +kernel
theorem dX5_grade_67 : decode cX5_grade 67 = .ok (.iinc 4 1, 3) := by decide +kernel
theorem dX5_grade_70 : decode cX5_grade 70 = .ok (.goto (-38), 3) := by decide +kernel
theorem dX5_grade_73 : decode cX5_grade 73 = .ok (.iload_n 3, 1) := by decide +kernel
theorem dX5_grade_74 : decode cX5_grade 74 = .ok (.ireturn, 1) := by decide +kernel
theorem dX5_grade_75 : decode cX5_grade 75 = .ok (.iload_n 2, 1) := by decide +kernel
theorem dX5_grade_76 : decode cX5_grade 76 = .ok (.ifCond .ne 15, 3) := by decide +kernel
theorem dX5_grade_79 : decode cX5_grade 79 = .ok (.aload_n 0, 1) := by decide +kernel
theorem dX5_grade_80 : decode cX5_grade 80 = .ok (.getfield 7, 3) := by decide +kernel
theorem dX5_grade_83 : decode cX5_grade 83 = .ok (.bipush 14, 2) := by decide +kernel
theorem dX5_grade_85 : decode cX5_grade 85 = .ok (.iload_n 1, 1) := by decide +kernel
theorem dX5_grade_86 : decode cX5_grade 86 = .ok (.iadd, 1) := by decide +kernel
theorem dX5_grade_87 : decode cX5_grade 87 = .ok (.iaload, 1) := by decide +kernel
theorem dX5_grade_88 : decode cX5_grade 88 = .ok (.goto 29, 3) := by decide +kernel
theorem dX5_grade_91 : decode cX5_grade 91 = .ok (.iload_n 2, 1) := by decide +kernel
theorem dX5_grade_92 : decode cX5_grade 92 = .ok (.iconst 2, 1) := by decide +kernel
theorem dX5_grade_93 : decode cX5_grade 93 = .ok (.if_icmp .ne 15, 3) := by decide +kernel
theorem dX5_grade_96 : decode cX5_grade 96 = .ok (.aload_n 0, 1) := by decide +kernel
theorem dX5_grade_97 : decode cX5_grade 97 = .ok (.getfield 7, 3) := by decide +kernel
theorem dX5_grade_100 : decode cX5_grade 100 = .ok (.bipush 18, 2) := by decide +kernel
theorem dX5_grade_102 : decode cX5_grade 102 = .ok (.iload_n 1, 1) := by decide +kernel
theorem dX5_grade_103 : decode cX5_grade 103 = .ok (.iadd, 1) := by decide +kernel
theorem dX5_grade_104 : decode cX5_grade 104 = .ok (.iaload, 1) := by decide +kernel
theorem dX5_grade_105 : decode cX5_grade 105 = .ok (.goto 12, 3) := by decide +kernel
theorem dX5_grade_108 : decode cX5_grade 108 = .ok (.aload_n 0, 1) := by decide +kernel
theorem dX5_grade_109 : decode cX5_grade 109 = .ok (.getfield 7, 3) := by decide +kernel
theorem dX5_grade_112 : decode cX5_grade 112 = .ok (.bipush 22, 2) := by decide +kernel
theorem dX5_grade_114 : decode cX5_grade 114 = .ok (.iload_n 1, 1) := by decide +kernel
theorem dX5_grade_115 : decode cX5_grade 115 = .ok (.iadd, 1) := by decide +kernel
theorem dX5_grade_116 : decode cX5_grade 116 = .ok (.iaload, 1) := by decide +kernel
theorem dX5_grade_117 : decode cX5_grade 117 = .ok (.ireturn, 1) := by decide +kernel
theorem dX5_count_0 : decode cX5_count 0 = .ok (.iload_n 1, 1) := by decide +kernel
theorem dX5_count_1 : decode cX5_count 1 = .ok (.iconst 0, 1) := by decide +kernel
theorem dX5_count_2 : decode cX5_count 2 = .ok (.bipush 6, 2) := by decide +kernel
theorem dX5_count_4 : decode cX5_count 4 = .ok (.invokestatic 59, 3) := by decide +kernel
theorem dX5_count_7 : decode cX5_count 7 = .ok (.ifCond .eq 10, 3) := by decide +kernel
theorem dX5_count_10 : decode cX5_count 10 = .ok (.aload_n 0, 1) := by decide +kernel
theorem dX5_count_11 : decode cX5_count 11 = .ok (.getfield 7, 3) := by decide +kernel
theorem dX5_count_14 : decode cX5_count 14 = .ok (.iload_n 1, 1) := by decide +kernel
theorem dX5_count_15 : decode cX5_count 15 = .ok (.iaload, 1) := by decide +kernel
theorem dX5_count_16 : decode cX5_count 16 = .ok (.ireturn, 1) := by decide +kernel
theorem dX5_count_17 : decode cX5_count 17 = .ok (.iload_n 1, 1) := by decide +kernel
theorem dX5_count_18 : decode cX5_count 18 = .ok (.tableswitch 159 7 19 #[66, 71, 83, 91, 99, 104, 109, 117, 125, 133, 141, 149, 154], 66) := by decide +kernel
theorem dX5_count_84 : decode cX5_count 84 = .ok (.aload_n 0, 1) := by decide +kernel
theorem dX5_count_85 : decode cX5_count 85 = .ok (.invokevirtual 52, 3) := by decide +kernel
theorem dX5_count_88 : decode cX5_count 88 = .ok (.ireturn, 1) := by decide +kernel
theorem dX5_count_89 : decode cX5_count 89 = .ok (.aload_n 0, 1) := by decide +kernel
theorem dX5_count_90 : decode cX5_count 90 = .ok (.getfield 7, 3) := by decide +kernel
theorem dX5_count_93 : decode cX5_count 93 = .ok (.iconst 0, 1) := by decide +kernel
theorem dX5_count_94 : decode cX5_count 94 = .ok (.iaload, 1) := by decide +kernel
theorem dX5_count_95 : decode cX5_count 95 = .ok (.aload_n 0, 1) := by decide +kernel
theorem dX5_count_96 : decode cX5_count 96 = .ok (.invokevirtual 52, 3) := by decide +kernel
theorem dX5_count_99 : decode cX5_count 99 = .ok (.iadd, 1) := by decide +kernel
theorem dX5_count_100 : decode cX5_count 100 = .ok (.ireturn, 1) := by decide +kernel
theorem dX5_count_101 : decode cX5_count 101 = .ok (.aload_n 0, 1) := by decide +kernel
theorem dX5_count_102 : decode cX5_count 102 = .ok (.getfield 7, 3) := by decide +kernel
theorem dX5_count_105 : decode cX5_count 105 = .ok (.bipush 12, 2) := by decide +kernel
theorem dX5_count_107 : decode cX5_count 107 = .ok (.iaload, 1) := by decide +kernel
theorem dX5_count_108 : decode cX5_count 108 = .ok (.ireturn, 1) := by decide +kernel
theorem dX5_count_109 : decode cX5_count 109 = .ok (.aload_n 0, 1) := by decide +kernel
theorem dX5_count_110 : decode cX5_count 110 = .ok (.getfield 7, 3) := by decide +kernel
theorem dX5_count_113 : decode cX5_count 113 = .ok (.bipush 13, 2) := by decide +kernel
theorem dX5_count_115 : decode cX5_count 115 = .ok (.iaload, 1) := by decide +kernel
theorem dX5_count_116 : decode cX5_count 116 = .ok (.ireturn, 1) := by decide +kernel
theorem dX5_count_117 : decode cX5_count 117 = .ok (.aload_n 0, 1) := by decide +kernel
theorem dX5_count_118 : decode cX5_count 118 = .ok (.invokevirtual 109, 3) := by decide +kernel
theorem dX5_count_121 : decode cX5_count 121 = .ok (.ireturn, 1) := by decide +kernel
theorem dX5_count_122 : decode cX5_count 122 = .ok (.aload_n 0, 1) := by decide +kernel
theorem dX5_count_123 : decode cX5_count 123 = .ok (.invokevirtual 134, 3) := by decide +kernel
theorem dX5_count_126 : decode cX5_count 126 = .ok (.ireturn, 1) := by decide +kernel
theorem dX5_count_127 : decode cX5_count 127 = .ok (.aload_n 0, 1) := by decide +kernel
theorem dX5_count_128 : decode cX5_count 128 = .ok (.getfield 7, 3) := by decide +kernel
theorem dX5_count_131 : decode cX5_count 131 = .ok (.bipush 7, 2) := by decide +kernel
theorem dX5_count_133 : decode cX5_count 133 = .ok (.iaload, 1) := by decide +kernel
theorem dX5_count_134 : decode cX5_count 134 = .ok (.ireturn, 1) := by decide +kernel
theorem dX5_count_135 : decode cX5_count 135 = .ok (.aload_n 0, 1) := by decide +kernel
theorem dX5_count_136 : decode cX5_count 136 = .ok (.getfield 7, 3) := by decide +kernel
theorem dX5_count_139 : decode cX5_count 139 = .ok (.bipush 8, 2) := by decide +kernel
theorem dX5_count_141 : decode cX5_count 141 = .ok (.iaload, 1) := by decide +kernel
theorem dX5_count_142 : decode cX5_count 142 = .ok (.ireturn, 1) := by decide +kernel
theorem dX5_count_143 : decode cX5_count 143 = .ok (.aload_n 0, 1) := by decide +kernel
theorem dX5_count_144 : decode cX5_count 144 = .ok (.getfield 7, 3) := by decide +kernel
theorem dX5_count_147 : decode cX5_count 147 = .ok (.bipush 9, 2) := by decide +kernel
theorem dX5_count_149 : decode cX5_count 149 = .ok (.iaload, 1) := by decide +kernel
theorem dX5_count_150 : decode cX5_count 150 = .ok (.ireturn, 1) := by decide +kernel
theorem dX5_count_151 : decode cX5_count 151 = .ok (.aload_n 0, 1) := by decide +kernel
theorem dX5_count_152 : decode cX5_count 152 = .ok (.getfield 7, 3) := by decide +kernel
theorem dX5_count_155 : decode cX5_count 155 = .ok (.bipush 10, 2) := by decide +kernel
theorem dX5_count_157 : decode cX5_count 157 = .ok (.iaload, 1) := by decide +kernel
theorem dX5_count_158 : decode cX5_count 158 = .ok (.ireturn, 1) := by decide +kernel
theorem dX5_count_159 : decode cX5_count 159 = .ok (.aload_n 0, 1) := by decide +kernel
theorem dX5_count_160 : decode cX5_count 160 = .ok (.getfield 7, 3) := by decide +kernel
theorem dX5_count_163 : decode cX5_count 163 = .ok (.bipush 11, 2) := by decide +kernel
theorem dX5_count_165 : decode cX5_count 165 = .ok (.iaload, 1) := by decide +kernel
theorem dX5_count_166 : decode cX5_count 166 = .ok (.ireturn, 1) := by decide +kernel
theorem dX5_count_167 : decode cX5_count 167 = .ok (.aload_n 0, 1) := by decide +kernel
theorem dX5_count_168 : decode cX5_count 168 = .ok (.getfield 143, 3) := by decide +kernel
theorem dX5_count_171 : decode cX5_count 171 = .ok (.ireturn, 1) := by decide +kernel
theorem dX5_count_172 : decode cX5_count 172 = .ok (.aload_n 0, 1) := by decide +kernel
theorem dX5_count_173 : decode cX5_count 173 = .ok (.getfield 37, 3) := by decide +kernel
theorem dX5_count_176 : decode cX5_count 176 = .ok (.ireturn, 1) := by decide +kernel
theorem dX5_count_177 : decode cX5_count 177 = .ok (.ldc 99, 2) := by decide +kernel
theorem dX5_count_179 : decode cX5_count 179 = .ok (.ireturn, 1) := by decide +kernel
theorem dX5_tide_0 : decode cX5_tide 0 = .ok (.iload_n 1, 1) := by decide +kernel
theorem dX5_tide_1 : decode cX5_tide 1 = .ok (.ifCond .ge 8, 3) := by decide +kernel
theorem dX5_tide_4 : decode cX5_tide 4 = .ok (.ldc 99, 2) := by decide +kernel
theorem dX5_tide_6 : decode cX5_tide 6 = .ok (.goto 8, 3) := by decide +kernel
theorem dX5_tide_9 : decode cX5_tide 9 = .ok (.aload_n 0, 1) := by decide +kernel
theorem dX5_tide_10 : decode cX5_tide 10 = .ok (.iload_n 1, 1) := by decide +kernel
theorem dX5_tide_11 : decode cX5_tide 11 = .ok (.invokevirtual 41, 3) := by decide +kernel
theorem dX5_tide_14 : decode cX5_tide 14 = .ok (.ireturn, 1) := by decide +kernel
theorem dX5_keepRow_0 : decode cX5_keepRow 0 = .ok (.iconst 0, 1) := by decide +kernel
theorem dX5_keepRow_1 : decode cX5_keepRow 1 = .ok (.istore_n 1, 1) := by decide +kernel
theorem dX5_keepRow_2 : decode cX5_keepRow 2 = .ok (.iload_n 1, 1) := by decide +kernel
theorem dX5_keepRow_3 : decode cX5_keepRow 3 = .ok (.bipush 80, 2) := by decide +kernel
theorem dX5_keepRow_5 : decode cX5_keepRow 5 = .ok (.if_icmp .ge 21, 3) := by decide +kernel
theorem dX5_keepRow_8 : decode cX5_keepRow 8 = .ok (.aload_n 0, 1) := by decide +kernel
theorem dX5_keepRow_9 : decode cX5_keepRow 9 = .ok (.getfield 13, 3) := by decide +kernel
theorem dX5_keepRow_12 : decode cX5_keepRow 12 = .ok (.iload_n 1, 1) := by decide +kernel
theorem dX5_keepRow_13 : decode cX5_keepRow 13 = .ok (.aload_n 0, 1) := by decide +kernel
theorem dX5_keepRow_14 : decode cX5_keepRow 14 = .ok (.getfield 7, 3) := by decide +kernel
theorem dX5_keepRow_17 : decode cX5_keepRow 17 = .ok (.iload_n 1, 1) := by decide +kernel
theorem dX5_keepRow_18 : decode cX5_keepRow 18 = .ok (.iaload, 1) := by decide +kernel
theorem dX5_keepRow_19 : decode cX5_keepRow 19 = .ok (.iastore, 1) := by decide +kernel
theorem dX5_keepRow_20 : decode cX5_keepRow 20 = .ok (.iinc 1 1, 3) := by decide +kernel
theorem dX5_keepRow_23 : decode cX5_keepRow 23 = .ok (.goto (-21), 3) := by decide +kernel
theorem dX5_keepRow_26 : decode cX5_keepRow 26 = .ok (.return_, 1) := by decide +kernel
theorem dX5_putBack_0 : decode cX5_putBack 0 = .ok (.iconst 0, 1) := by decide +kernel
theorem dX5_putBack_1 : decode cX5_putBack 1 = .ok (.istore_n 1, 1) := by decide +kernel
theorem dX5_putBack_2 : decode cX5_putBack 2 = .ok (.iload_n 1, 1) := by decide +kernel
theorem dX5_putBack_3 : decode cX5_putBack 3 = .ok (.bipush 80, 2) := by decide +kernel
theorem dX5_putBack_5 : decode cX5_putBack 5 = .ok (.if_icmp .ge 21, 3) := by decide +kernel
theorem dX5_putBack_8 : decode cX5_putBack 8 = .ok (.aload_n 0, 1) := by decide +kernel
theorem dX5_putBack_9 : decode cX5_putBack 9 = .ok (.getfield 7, 3) := by decide +kernel
theorem dX5_putBack_12 : decode cX5_putBack 12 = .ok (.iload_n 1, 1) := by decide +kernel
theorem dX5_putBack_13 : decode cX5_putBack 13 = .ok (.aload_n 0, 1) := by decide +kernel
theorem dX5_putBack_14 : decode cX5_putBack 14 = .ok (.getfield 13, 3) := by decide +kernel
theorem dX5_putBack_17 : decode cX5_putBack 17 = .ok (.iload_n 1, 1) := by decide +kernel
theorem dX5_putBack_18 : decode cX5_putBack 18 = .ok (.iaload, 1) := by decide +kernel
theorem dX5_putBack_19 : decode cX5_putBack 19 = .ok (.iastore, 1) := by decide +kernel
theorem dX5_putBack_20 : decode cX5_putBack 20 = .ok (.iinc 1 1, 3) := by decide +kernel
theorem dX5_putBack_23 : decode cX5_putBack 23 = .ok (.goto (-21), 3) := by decide +kernel
theorem dX5_putBack_26 : decode cX5_putBack 26 = .ok (.return_, 1) := by decide +kernel
theorem dX5_untilFloats_0 : decode cX5_untilFloats 0 = .ok (.aload_n 0, 1) := by decide +kernel
theorem dX5_untilFloats_1 : decode cX5_untilFloats 1 = .ok (.getfield 7, 3) := by decide +kernel
theorem dX5_untilFloats_4 : decode cX5_untilFloats 4 = .ok (.bipush 12, 2) := by decide +kernel
theorem dX5_untilFloats_6 : decode cX5_untilFloats 6 = .ok (.iaload, 1) := by decide +kernel
theorem dX5_untilFloats_7 : decode cX5_untilFloats 7 = .ok (.ifCond .ne 6, 3) := by decide +kernel
theorem dX5_untilFloats_10 : decode cX5_untilFloats 10 = .ok (.ldc 108, 2) := by decide +kernel
theorem dX5_untilFloats_12 : decode cX5_untilFloats 12 = .ok (.ireturn, 1) := by decide +kernel
theorem dX5_untilFloats_13 : decode cX5_untilFloats 13 = .ok (.ldc 36, 2) := by decide +kernel
theorem dX5_untilFloats_15 : decode cX5_untilFloats 15 = .ok (.istore_n 1, 1) := by decide +kernel
theorem dX5_untilFloats_16 : decode cX5_untilFloats 16 = .ok (.bipush 12, 2) := by decide +kernel
theorem dX5_untilFloats_18 : decode cX5_untilFloats 18 = .ok (.istore_n 2, 1) := by decide +kernel
theorem dX5_untilFloats_19 : decode cX5_untilFloats 19 = .ok (.iload_n 2, 1) := by decide +kernel
theorem dX5_untilFloats_20 : decode cX5_untilFloats 20 = .ok (.ifCond .lt 32, 3) := by decide +kernel
theorem dX5_untilFloats_23 : decode cX5_untilFloats 23 = .ok (.aload_n 0, 1) := by decide +kernel
theorem dX5_untilFloats_24 : decode cX5_untilFloats 24 = .ok (.iconst 1, 1) := by decide +kernel
theorem dX5_untilFloats_25 : decode cX5_untilFloats 25 = .ok (.aload_n 0, 1) := by decide +kernel
theorem dX5_untilFloats_26 : decode cX5_untilFloats 26 = .ok (.getfield 7, 3) := by decide +kernel
theorem dX5_untilFloats_29 : decode cX5_untilFloats 29 = .ok (.bipush 6, 2) := by decide +kernel
theorem dX5_untilFloats_31 : decode cX5_untilFloats 31 = .ok (.iaload, 1) := by decide +kernel
theorem dX5_untilFloats_32 : decode cX5_untilFloats 32 = .ok (.iload_n 2, 1) := by decide +kernel
theorem dX5_untilFloats_33 : decode cX5_untilFloats 33 = .ok (.iadd, 1) := by decide +kernel
theorem dX5_untilFloats_34 : decode cX5_untilFloats 34 = .ok (.invokevirtual 83, 3) := by decide +kernel
theorem dX5_untilFloats_37 : decode cX5_untilFloats 37 = .ok (.ifCond .eq 7, 3) := by decide +kernel
theorem dX5_untilFloats_40 : decode cX5_untilFloats 40 = .ok (.iload_n 2, 1) := by decide +kernel
theorem dX5_untilFloats_41 : decode cX5_untilFloats 41 = .ok (.goto 4, 3) := by decide +kernel
theorem dX5_untilFloats_44 : decode cX5_untilFloats 44 = .ok (.iload_n 1, 1) := by decide +kernel
theorem dX5_untilFloats_45 : decode cX5_untilFloats 45 = .ok (.istore_n 1, 1) := by decide +kernel
theorem dX5_untilFloats_46 : decode cX5_untilFloats 46 = .ok (.iinc 2 (-1), 3) := by decide +kernel
theorem dX5_untilFloats_49 : decode cX5_untilFloats 49 = .ok (.goto (-30), 3) := by decide +kernel
theorem dX5_untilFloats_52 : decode cX5_untilFloats 52 = .ok (.iload_n 1, 1) := by decide +kernel
theorem dX5_untilFloats_53 : decode cX5_untilFloats 53 = .ok (.ireturn, 1) := by decide +kernel
theorem dX5_safeHours_0 : decode cX5_safeHours 0 = .ok (.aload_n 0, 1) := by decide +kernel
theorem dX5_safeHours_1 : decode cX5_safeHours 1 = .ok (.invokevirtual 146, 3) := by decide +kernel
theorem dX5_safeHours_4 : decode cX5_safeHours 4 = .ok (.aload_n 0, 1) := by decide +kernel
theorem dX5_safeHours_5 : decode cX5_safeHours 5 = .ok (.iload_n 1, 1) := by decide +kernel
theorem dX5_safeHours_6 : decode cX5_safeHours 6 = .ok (.iconst 0, 1) := by decide +kernel
theorem dX5_safeHours_7 : decode cX5_safeHours 7 = .ok (.iload_n 2, 1) := by decide +kernel
theorem dX5_safeHours_8 : decode cX5_safeHours 8 = .ok (.invokevirtual 32, 3) := by decide +kernel
theorem dX5_safeHours_11 : decode cX5_safeHours 11 = .ok (.iconst 0, 1) := by decide +kernel
theorem dX5_safeHours_12 : decode cX5_safeHours 12 = .ok (.istore_n 3, 1) := by decide +kernel
theorem dX5_safeHours_13 : decode cX5_safeHours 13 = .ok (.iconst 1, 1) := by decide +kernel
theorem dX5_safeHours_14 : decode cX5_safeHours 14 = .ok (.istore 4, 2) := by decide +kernel
theorem dX5_safeHours_16 : decode cX5_safeHours 16 = .ok (.iload 4, 2) := by decide +kernel
theorem dX5_safeHours_18 : decode cX5_safeHours 18 = .ok (.ifCond .eq 47, 3) := by decide +kernel
theorem dX5_safeHours_21 : decode cX5_safeHours 21 = .ok (.iload_n 3, 1) := by decide +kernel
theorem dX5_safeHours_22 : decode cX5_safeHours 22 = .ok (.sipush 200, 3) := by decide +kernel
theorem dX5_safeHours_25 : decode cX5_safeHours 25 = .ok (.if_icmp .ge 40, 3) := by decide +kernel
theorem dX5_safeHours_28 : decode cX5_safeHours 28 = .ok (.aload_n 0, 1) := by decide +kernel
theorem dX5_safeHours_29 : decode cX5_safeHours 29 = .ok (.invokevirtual 137, 3) := by decide +kernel
theorem dX5_safeHours_32 : decode cX5_safeHours 32 = .ok (.pop, 1) := by decide +kernel
theorem dX5_safeHours_33 : decode cX5_safeHours 33 = .ok (.aload_n 0, 1) := by decide +kernel
theorem dX5_safeHours_34 : decode cX5_safeHours 34 = .ok (.iload_n 1, 1) := by decide +kernel
theorem dX5_safeHours_35 : decode cX5_safeHours 35 = .ok (.iconst 3, 1) := by decide +kernel
theorem dX5_safeHours_36 : decode cX5_safeHours 36 = .ok (.invokevirtual 63, 3) := by decide +kernel
theorem dX5_safeHours_39 : decode cX5_safeHours 39 = .ok (.ifCond .ne 7, 3) := by decide +kernel
theorem dX5_safeHours_42 : decode cX5_safeHours 42 = .ok (.iconst 1, 1) := by decide +kernel
theorem dX5_safeHours_43 : decode cX5_safeHours 43 = .ok (.goto 4, 3) := by decide +kernel
theorem dX5_safeHours_46 : decode cX5_safeHours 46 = .ok (.iconst 0, 1) := by decide +kernel
theorem dX5_safeHours_47 : decode cX5_safeHours 47 = .ok (.istore 4, 2) := by decide +kernel
theorem dX5_safeHours_49 : decode cX5_safeHours 49 = .ok (.iload_n 3, 1) := by decide +kernel
theorem dX5_safeHours_50 : decode cX5_safeHours 50 = .ok (.iload 4, 2) := by decide +kernel
theorem dX5_safeHours_52 : decode cX5_safeHours 52 = .ok (.ifCond .eq 7, 3) := by decide +kernel
theorem dX5_safeHours_55 : decode cX5_safeHours 55 = .ok (.iconst 1, 1) := by decide +kernel
theorem dX5_safeHours_56 : decode cX5_safeHours 56 = .ok (.goto 4, 3) := by decide +kernel
theorem dX5_safeHours_59 : decode cX5_safeHours 59 = .ok (.iconst 0, 1) := by decide +kernel
theorem dX5_safeHours_60 : decode cX5_safeHours 60 = .ok (.iadd, 1) := by decide +kernel
theorem dX5_safeHours_61 : decode cX5_safeHours 61 = .ok (.istore_n 3, 1) := by decide +kernel
theorem dX5_safeHours_62 : decode cX5_safeHours 62 = .ok (.goto (-46), 3) := by decide +kernel
theorem dX5_safeHours_65 : decode cX5_safeHours 65 = .ok (.aload_n 0, 1) := by decide +kernel
theorem dX5_safeHours_66 : decode cX5_safeHours 66 = .ok (.invokevirtual 149, 3) := by decide +kernel
theorem dX5_safeHours_69 : decode cX5_safeHours 69 = .ok (.iload_n 3, 1) := by decide +kernel
theorem dX5_safeHours_70 : decode cX5_safeHours 70 = .ok (.ireturn, 1) := by decide +kernel
theorem dX5_safeFor_0 : decode cX5_safeFor 0 = .ok (.iload_n 1, 1) := by decide +kernel
theorem dX5_safeFor_1 : decode cX5_safeFor 1 = .ok (.invokestatic 112, 3) := by decide +kernel
theorem dX5_safeFor_4 : decode cX5_safeFor 4 = .ok (.ifCond .ne 6, 3) := by decide +kernel
theorem dX5_safeFor_7 : decode cX5_safeFor 7 = .ok (.ldc 115, 2) := by decide +kernel
theorem dX5_safeFor_9 : decode cX5_safeFor 9 = .ok (.ireturn, 1) := by decide +kernel
theorem dX5_safeFor_10 : decode cX5_safeFor 10 = .ok (.aload_n 0, 1) := by decide +kernel
theorem dX5_safeFor_11 : decode cX5_safeFor 11 = .ok (.iload_n 1, 1) := by decide +kernel
theorem dX5_safeFor_12 : decode cX5_safeFor 12 = .ok (.invokevirtual 66, 3) := by decide +kernel
theorem dX5_safeFor_15 : decode cX5_safeFor 15 = .ok (.ifCond .ne 6, 3) := by decide +kernel
theorem dX5_safeFor_18 : decode cX5_safeFor 18 = .ok (.ldc 108, 2) := by decide +kernel
theorem dX5_safeFor_20 : decode cX5_safeFor 20 = .ok (.ireturn, 1) := by decide +kernel
theorem dX5_safeFor_21 : decode cX5_safeFor 21 = .ok (.aload_n 0, 1) := by decide +kernel
theorem dX5_safeFor_22 : decode cX5_safeFor 22 = .ok (.iload_n 1, 1) := by decide +kernel
theorem dX5_safeFor_23 : decode cX5_safeFor 23 = .ok (.aload_n 0, 1) := by decide +kernel
theorem dX5_safeFor_24 : decode cX5_safeFor 24 = .ok (.iload_n 1, 1) := by decide +kernel
theorem dX5_safeFor_25 : decode cX5_safeFor 25 = .ok (.iconst 0, 1) := by decide +kernel
theorem dX5_safeFor_26 : decode cX5_safeFor 26 = .ok (.invokevirtual 63, 3) := by decide +kernel
theorem dX5_safeFor_29 : decode cX5_safeFor 29 = .ok (.invokevirtual 152, 3) := by decide +kernel
theorem dX5_safeFor_32 : decode cX5_safeFor 32 = .ok (.istore_n 2, 1) := by decide +kernel
theorem dX5_safeFor_33 : decode cX5_safeFor 33 = .ok (.iload_n 2, 1) := by decide +kernel
theorem dX5_safeFor_34 : decode cX5_safeFor 34 = .ok (.sipush 200, 3) := by decide +kernel
theorem dX5_safeFor_37 : decode cX5_safeFor 37 = .ok (.if_icmp .ne 8, 3) := by decide +kernel
theorem dX5_safeFor_40 : decode cX5_safeFor 40 = .ok (.ldc 36, 2) := by decide +kernel
theorem dX5_safeFor_42 : decode cX5_safeFor 42 = .ok (.goto 4, 3) := by decide +kernel
theorem dX5_safeFor_45 : decode cX5_safeFor 45 = .ok (.iload_n 2, 1) := by decide +kernel
theorem dX5_safeFor_46 : decode cX5_safeFor 46 = .ok (.ireturn, 1) := by decide +kernel
theorem dX5_untilEmpty_0 : decode cX5_untilEmpty 0 = .ok (.aload_n 0, 1) := by decide +kernel
theorem dX5_untilEmpty_1 : decode cX5_untilEmpty 1 = .ok (.getfield 7, 3) := by decide +kernel
theorem dX5_untilEmpty_4 : decode cX5_untilEmpty 4 = .ok (.bipush 13, 2) := by decide +kernel
theorem dX5_untilEmpty_6 : decode cX5_untilEmpty 6 = .ok (.iaload, 1) := by decide +kernel
theorem dX5_untilEmpty_7 : decode cX5_untilEmpty 7 = .ok (.ifCond .ne 6, 3) := by decide +kernel
theorem dX5_untilEmpty_10 : decode cX5_untilEmpty 10 = .ok (.ldc 108, 2) := by decide +kernel
theorem dX5_untilEmpty_12 : decode cX5_untilEmpty 12 = .ok (.ireturn, 1) := by decide +kernel
theorem dX5_untilEmpty_13 : decode cX5_untilEmpty 13 = .ok (.aload_n 0, 1) := by decide +kernel
theorem dX5_untilEmpty_14 : decode cX5_untilEmpty 14 = .ok (.invokevirtual 146, 3) := by decide +kernel
theorem dX5_untilEmpty_17 : decode cX5_untilEmpty 17 = .ok (.iconst 0, 1) := by decide +kernel
theorem dX5_untilEmpty_18 : decode cX5_untilEmpty 18 = .ok (.istore_n 1, 1) := by decide +kernel
theorem dX5_untilEmpty_19 : decode cX5_untilEmpty 19 = .ok (.aload_n 0, 1) := by decide +kernel
theorem dX5_untilEmpty_20 : decode cX5_untilEmpty 20 = .ok (.iconst 0, 1) := by decide +kernel
theorem dX5_untilEmpty_21 : decode cX5_untilEmpty 21 = .ok (.invokevirtual 49, 3) := by decide +kernel
theorem dX5_untilEmpty_24 : decode cX5_untilEmpty 24 = .ok (.ifCond .le 21, 3) := by decide +kernel
theorem dX5_untilEmpty_27 : decode cX5_untilEmpty 27 = .ok (.iload_n 1, 1) := by decide +kernel
theorem dX5_untilEmpty_28 : decode cX5_untilEmpty 28 = .ok (.sipush 200, 3) := by decide +kernel
theorem dX5_untilEmpty_31 : decode cX5_untilEmpty 31 = .ok (.if_icmp .ge 14, 3) := by decide +kernel
theorem dX5_untilEmpty_34 : decode cX5_untilEmpty 34 = .ok (.aload_n 0, 1) := by decide +kernel
theorem dX5_untilEmpty_35 : decode cX5_untilEmpty 35 = .ok (.invokevirtual 137, 3) := by decide +kernel
theorem dX5_untilEmpty_38 : decode cX5_untilEmpty 38 = .ok (.pop, 1) := by decide +kernel
theorem dX5_untilEmpty_39 : decode cX5_untilEmpty 39 = .ok (.iinc 1 1, 3) := by decide +kernel
theorem dX5_untilEmpty_42 : decode cX5_untilEmpty 42 = .ok (.goto (-23), 3) := by decide +kernel
theorem dX5_untilEmpty_45 : decode cX5_untilEmpty 45 = .ok (.aload_n 0, 1) := by decide +kernel
theorem dX5_untilEmpty_46 : decode cX5_untilEmpty 46 = .ok (.iconst 0, 1) := by decide +kernel
theorem dX5_untilEmpty_47 : decode cX5_untilEmpty 47 = .ok (.invokevirtual 49, 3) := by decide +kernel
theorem dX5_untilEmpty_50 : decode cX5_untilEmpty 50 = .ok (.ifCond .ne 7, 3) := by decide +kernel
theorem dX5_untilEmpty_53 : decode cX5_untilEmpty 53 = .ok (.iconst 1, 1) := by decide +kernel
theorem dX5_untilEmpty_54 : decode cX5_untilEmpty 54 = .ok (.goto 4, 3) := by decide +kernel
theorem dX5_untilEmpty_57 : decode cX5_untilEmpty 57 = .ok (.iconst 0, 1) := by decide +kernel
theorem dX5_untilEmpty_58 : decode cX5_untilEmpty 58 = .ok (.istore_n 2, 1) := by decide +kernel
theorem dX5_untilEmpty_59 : decode cX5_untilEmpty 59 = .ok (.aload_n 0, 1) := by decide +kernel
theorem dX5_untilEmpty_60 : decode cX5_untilEmpty 60 = .ok (.invokevirtual 149, 3) := by decide +kernel
theorem dX5_untilEmpty_63 : decode cX5_untilEmpty 63 = .ok (.iload_n 2, 1) := by decide +kernel
theorem dX5_untilEmpty_64 : decode cX5_untilEmpty 64 = .ok (.ifCond .eq 7, 3) := by decide +kernel
theorem dX5_untilEmpty_67 : decode cX5_untilEmpty 67 = .ok (.iload_n 1, 1) := by decide +kernel
theorem dX5_untilEmpty_68 : decode cX5_untilEmpty 68 = .ok (.goto 5, 3) := by decide +kernel
theorem dX5_untilEmpty_71 : decode cX5_untilEmpty 71 = .ok (.ldc 36, 2) := by decide +kernel
theorem dX5_untilEmpty_73 : decode cX5_untilEmpty 73 = .ok (.ireturn, 1) := by decide +kernel
theorem dX5_ifPassed_0 : decode cX5_ifPassed 0 = .ok (.iload_n 1, 1) := by decide +kernel
theorem dX5_ifPassed_1 : decode cX5_ifPassed 1 = .ok (.iconst 1, 1) := by decide +kernel
theorem dX5_ifPassed_2 : decode cX5_ifPassed 2 = .ok (.sipush 200, 3) := by decide +kernel
theorem dX5_ifPassed_5 : decode cX5_ifPassed 5 = .ok (.invokestatic 59, 3) := by decide +kernel
theorem dX5_ifPassed_8 : decode cX5_ifPassed 8 = .ok (.ifCond .eq 12, 3) := by decide +kernel
theorem dX5_ifPassed_11 : decode cX5_ifPassed 11 = .ok (.iload_n 2, 1) := by decide +kernel
theorem dX5_ifPassed_12 : decode cX5_ifPassed 12 = .ok (.iconst 0, 1) := by decide +kernel
theorem dX5_ifPassed_13 : decode cX5_ifPassed 13 = .ok (.iconst 3, 1) := by decide +kernel
theorem dX5_ifPassed_14 : decode cX5_ifPassed 14 = .ok (.invokestatic 59, 3) := by decide +kernel
theorem dX5_ifPassed_17 : decode cX5_ifPassed 17 = .ok (.ifCond .ne 6, 3) := by decide +kernel
theorem dX5_ifPassed_20 : decode cX5_ifPassed 20 = .ok (.ldc 99, 2) := by decide +kernel
theorem dX5_ifPassed_22 : decode cX5_ifPassed 22 = .ok (.ireturn, 1) := by decide +kernel
theorem dX5_ifPassed_23 : decode cX5_ifPassed 23 = .ok (.aload_n 0, 1) := by decide +kernel
theorem dX5_ifPassed_24 : decode cX5_ifPassed 24 = .ok (.invokevirtual 146, 3) := by decide +kernel
theorem dX5_ifPassed_27 : decode cX5_ifPassed 27 = .ok (.aload_n 0, 1) := by decide +kernel
theorem dX5_ifPassed_28 : decode cX5_ifPassed 28 = .ok (.getfield 7, 3) := by decide +kernel
theorem dX5_ifPassed_31 : decode cX5_ifPassed 31 = .ok (.bipush 9, 2) := by decide +kernel
theorem dX5_ifPassed_33 : decode cX5_ifPassed 33 = .ok (.iaload, 1) := by decide +kernel
theorem dX5_ifPassed_34 : decode cX5_ifPassed 34 = .ok (.istore_n 3, 1) := by decide +kernel
theorem dX5_ifPassed_35 : decode cX5_ifPassed 35 = .ok (.aload_n 0, 1) := by decide +kernel
theorem dX5_ifPassed_36 : decode cX5_ifPassed 36 = .ok (.invokevirtual 155, 3) := by decide +kernel
theorem dX5_ifPassed_39 : decode cX5_ifPassed 39 = .ok (.istore 4, 2) := by decide +kernel
theorem dX5_ifPassed_41 : decode cX5_ifPassed 41 = .ok (.aload_n 0, 1) := by decide +kernel
theorem dX5_ifPassed_42 : decode cX5_ifPassed 42 = .ok (.getfield 7, 3) := by decide +kernel
theorem dX5_ifPassed_45 : decode cX5_ifPassed 45 = .ok (.bipush 11, 2) := by decide +kernel
theorem dX5_ifPassed_47 : decode cX5_ifPassed 47 = .ok (.iaload, 1) := by decide +kernel
theorem dX5_ifPassed_48 : decode cX5_ifPassed 48 = .ok (.istore 5, 2) := by decide +kernel
theorem dX5_ifPassed_50 : decode cX5_ifPassed 50 = .ok (.aload_n 0, 1) := by decide +kernel
theorem dX5_ifPassed_51 : decode cX5_ifPassed 51 = .ok (.iload_n 1, 1) := by decide +kernel
theorem dX5_ifPassed_52 : decode cX5_ifPassed 52 = .ok (.invokevirtual 140, 3) := by decide +kernel
theorem dX5_ifPassed_55 : decode cX5_ifPassed 55 = .ok (.istore 6, 2) := by decide +kernel
theorem dX5_ifPassed_57 : decode cX5_ifPassed 57 = .ok (.iload_n 2, 1) := by decide +kernel
theorem dX5_ifPassed_58 : decode cX5_ifPassed 58 = .ok (.ifCond .ne 8, 3) := by decide +kernel
theorem dX5_ifPassed_61 : decode cX5_ifPassed 61 = .ok (.iload 6, 2) := by decide +kernel
theorem dX5_ifPassed_63 : decode cX5_ifPassed 63 = .ok (.goto 45, 3) := by decide +kernel
theorem dX5_ifPassed_66 : decode cX5_ifPassed 66 = .ok (.iload_n 2, 1) := by decide +kernel
theorem dX5_ifPassed_67 : decode cX5_ifPassed 67 = .ok (.iconst 1, 1) := by decide +kernel
theorem dX5_ifPassed_68 : decode cX5_ifPassed 68 = .ok (.if_icmp .ne 15, 3) := by decide +kernel
theorem dX5_ifPassed_71 : decode cX5_ifPassed 71 = .ok (.aload_n 0, 1) := by decide +kernel
theorem dX5_ifPassed_72 : decode cX5_ifPassed 72 = .ok (.getfield 7, 3) := by decide +kernel
theorem dX5_ifPassed_75 : decode cX5_ifPassed 75 = .ok (.bipush 9, 2) := by decide +kernel
theorem dX5_ifPassed_77 : decode cX5_ifPassed 77 = .ok (.iaload, 1) := by decide +kernel
theorem dX5_ifPassed_78 : decode cX5_ifPassed 78 = .ok (.iload_n 3, 1) := by decide +kernel
theorem dX5_ifPassed_79 : decode cX5_ifPassed 79 = .ok (.isub, 1) := by decide +kernel
theorem dX5_ifPassed_80 : decode cX5_ifPassed 80 = .ok (.goto 28, 3) := by decide +kernel
theorem dX5_ifPassed_83 : decode cX5_ifPassed 83 = .ok (.iload_n 2, 1) := by decide +kernel
theorem dX5_ifPassed_84 : decode cX5_ifPassed 84 = .ok (.iconst 2, 1) := by decide +kernel
theorem dX5_ifPassed_85 : decode cX5_ifPassed 85 = .ok (.if_icmp .ne 13, 3) := by decide +kernel
theorem dX5_ifPassed_88 : decode cX5_ifPassed 88 = .ok (.aload_n 0, 1) := by decide +kernel
theorem dX5_ifPassed_89 : decode cX5_ifPassed 89 = .ok (.invokevirtual 155, 3) := by decide +kernel
theorem dX5_ifPassed_92 : decode cX5_ifPassed 92 = .ok (.iload 4, 2) := by decide +kernel
theorem dX5_ifPassed_94 : decode cX5_ifPassed 94 = .ok (.isub, 1) := by decide +kernel
theorem dX5_ifPassed_95 : decode cX5_ifPassed 95 = .ok (.goto 13, 3) := by decide +kernel
theorem dX5_ifPassed_98 : decode cX5_ifPassed 98 = .ok (.aload_n 0, 1) := by decide +kernel
theorem dX5_ifPassed_99 : decode cX5_ifPassed 99 = .ok (.getfield 7, 3) := by decide +kernel
theorem dX5_ifPassed_102 : decode cX5_ifPassed 102 = .ok (.bipush 11, 2) := by decide +kernel
theorem dX5_ifPassed_104 : decode cX5_ifPassed 104 = .ok (.iaload, 1) := by decide +kernel
theorem dX5_ifPassed_105 : decode cX5_ifPassed 105 = .ok (.iload 5, 2) := by decide +kernel
theorem dX5_ifPassed_107 : decode cX5_ifPassed 107 = .ok (.isub, 1) := by decide +kernel
theorem dX5_ifPassed_108 : decode cX5_ifPassed 108 = .ok (.istore 7, 2) := by decide +kernel
theorem dX5_ifPassed_110 : decode cX5_ifPassed 110 = .ok (.aload_n 0, 1) := by decide +kernel
theorem dX5_ifPassed_111 : decode cX5_ifPassed 111 = .ok (.invokevirtual 149, 3) := by decide +kernel
theorem dX5_ifPassed_114 : decode cX5_ifPassed 114 = .ok (.iload 7, 2) := by decide +kernel
theorem dX5_ifPassed_116 : decode cX5_ifPassed 116 = .ok (.ireturn, 1) := by decide +kernel
theorem dX5_leastReach_0 : decode cX5_leastReach 0 = .ok (.iload_n 1, 1) := by decide +kernel
theorem dX5_leastReach_1 : decode cX5_leastReach 1 = .ok (.invokestatic 112, 3) := by decide +kernel
theorem dX5_leastReach_4 : decode cX5_leastReach 4 = .ok (.ifCond .ne 6, 3) := by decide +kernel
theorem dX5_leastReach_7 : decode cX5_leastReach 7 = .ok (.ldc 115, 2) := by decide +kernel
theorem dX5_leastReach_9 : decode cX5_leastReach 9 = .ok (.ireturn, 1) := by decide +kernel
theorem dX5_leastReach_10 : decode cX5_leastReach 10 = .ok (.aload_n 0, 1) := by decide +kernel
theorem dX5_leastReach_11 : decode cX5_leastReach 11 = .ok (.iload_n 1, 1) := by decide +kernel
theorem dX5_leastReach_12 : decode cX5_leastReach 12 = .ok (.invokevirtual 66, 3) := by decide +kernel
theorem dX5_leastReach_15 : decode cX5_leastReach 15 = .ok (.ifCond .ne 6, 3) := by decide +kernel
theorem dX5_leastReach_18 : decode cX5_leastReach 18 = .ok (.ldc 108, 2) := by decide +kernel
theorem dX5_leastReach_20 : decode cX5_leastReach 20 = .ok (.ireturn, 1) := by decide +kernel
theorem dX5_leastReach_21 : decode cX5_leastReach 21 = .ok (.ldc 36, 2) := by decide +kernel
theorem dX5_leastReach_23 : decode cX5_leastReach 23 = .ok (.istore_n 2, 1) := by decide +kernel
theorem dX5_leastReach_24 : decode cX5_leastReach 24 = .ok (.bipush 20, 2) := by decide +kernel
theorem dX5_leastReach_26 : decode cX5_leastReach 26 = .ok (.istore_n 3, 1) := by decide +kernel
theorem dX5_leastReach_27 : decode cX5_leastReach 27 = .ok (.iload_n 3, 1) := by decide +kernel
theorem dX5_leastReach_28 : decode cX5_leastReach 28 = .ok (.bipush 120, 2) := by decide +kernel
theorem dX5_leastReach_30 : decode cX5_leastReach 30 = .ok (.if_icmp .gt 31, 3) := by decide +kernel
theorem dX5_leastReach_33 : decode cX5_leastReach 33 = .ok (.iload_n 2, 1) := by decide +kernel
theorem dX5_leastReach_34 : decode cX5_leastReach 34 = .ok (.ifCond .ge 27, 3) := by decide +kernel
theorem dX5_leastReach_37 : decode cX5_leastReach 37 = .ok (.aload_n 0, 1) := by decide +kernel
theorem dX5_leastReach_38 : decode cX5_leastReach 38 = .ok (.iload_n 1, 1) := by decide +kernel
theorem dX5_leastReach_39 : decode cX5_leastReach 39 = .ok (.iload_n 3, 1) := by decide +kernel
theorem dX5_leastReach_40 : decode cX5_leastReach 40 = .ok (.invokevirtual 152, 3) := by decide +kernel
theorem dX5_leastReach_43 : decode cX5_leastReach 43 = .ok (.sipush 200, 3) := by decide +kernel
theorem dX5_leastReach_46 : decode cX5_leastReach 46 = .ok (.if_icmp .ne 7, 3) := by decide +kernel
theorem dX5_leastReach_49 : decode cX5_leastReach 49 = .ok (.iload_n 3, 1) := by decide +kernel
theorem dX5_leastReach_50 : decode cX5_leastReach 50 = .ok (.goto 4, 3) := by decide +kernel
theorem dX5_leastReach_53 : decode cX5_leastReach 53 = .ok (.iload_n 2, 1) := by decide +kernel
theorem dX5_leastReach_54 : decode cX5_leastReach 54 = .ok (.istore_n 2, 1) := by decide +kernel
theorem dX5_leastReach_55 : decode cX5_leastReach 55 = .ok (.iinc 3 1, 3) := by decide +kernel
theorem dX5_leastReach_58 : decode cX5_leastReach 58 = .ok (.goto (-31), 3) := by decide +kernel
theorem dX5_leastReach_61 : decode cX5_leastReach 61 = .ok (.iload_n 2, 1) := by decide +kernel
theorem dX5_leastReach_62 : decode cX5_leastReach 62 = .ok (.ireturn, 1) := by decide +kernel
theorem dX5_put_0 : decode cX5_put 0 = .ok (.iconst 0, 1) := by decide +kernel
theorem dX5_put_1 : decode cX5_put 1 = .ok (.istore_n 3, 1) := by decide +kernel
theorem dX5_put_2 : decode cX5_put 2 = .ok (.iconst 0, 1) := by decide +kernel
theorem dX5_put_3 : decode cX5_put 3 = .ok (.istore 4, 2) := by decide +kernel
theorem dX5_put_5 : decode cX5_put 5 = .ok (.iconst 0, 1) := by decide +kernel
theorem dX5_put_6 : decode cX5_put 6 = .ok (.istore 5, 2) := by decide +kernel
theorem dX5_put_8 : decode cX5_put 8 = .ok (.iload 5, 2) := by decide +kernel
theorem dX5_put_10 : decode cX5_put 10 = .ok (.bipush 8, 2) := by decide +kernel
theorem dX5_put_12 : decode cX5_put 12 = .ok (.if_icmp .ge 89, 3) := by decide +kernel
theorem dX5_put_15 : decode cX5_put 15 = .ok (.lload_n 1, 1) := by decide +kernel
theorem dX5_put_16 : decode cX5_put 16 = .ok (.bipush 8, 2) := by decide +kernel
theorem dX5_put_18 : decode cX5_put 18 = .ok (.iload 5, 2) := by decide +kernel
theorem dX5_put_20 : decode cX5_put 20 = .ok (.imul, 1) := by decide +kernel
theorem dX5_put_21 : decode cX5_put 21 = .ok (.lushr, 1) := by decide +kernel
theorem dX5_put_22 : decode cX5_put 22 = .ok (.ldc2_w 158, 3) := by decide +kernel
theorem dX5_put_25 : decode cX5_put 25 = .ok (.land, 1) := by decide +kernel
theorem dX5_put_26 : decode cX5_put 26 = .ok (.l2i, 1) := by decide +kernel
theorem dX5_put_27 : decode cX5_put 27 = .ok (.istore 6, 2) := by decide +kernel
theorem dX5_put_29 : decode cX5_put 29 = .ok (.iload 5, 2) := by decide +kernel
theorem dX5_put_31 : decode cX5_put 31 = .ok (.ifCond .le 19, 3) := by decide +kernel
theorem dX5_put_34 : decode cX5_put 34 = .ok (.lload_n 1, 1) := by decide +kernel
theorem dX5_put_35 : decode cX5_put 35 = .ok (.bipush 8, 2) := by decide +kernel
theorem dX5_put_37 : decode cX5_put 37 = .ok (.iload 5, 2) := by decide +kernel
theorem dX5_put_39 : decode cX5_put 39 = .ok (.imul, 1) := by decide +kernel
theorem dX5_put_40 : decode cX5_put 40 = .ok (.lushr, 1) := by decide +kernel
theorem dX5_put_41 : decode cX5_put 41 = .ok (.lconst 0, 1) := by decide +kernel
theorem dX5_put_42 : decode cX5_put 42 = .ok (.lcmp, 1) := by decide +kernel
theorem dX5_put_43 : decode cX5_put 43 = .ok (.ifCond .ne 7, 3) := by decide +kernel
theorem dX5_put_46 : decode cX5_put 46 = .ok (.iconst 1, 1) := by decide +kernel
theorem dX5_put_47 : decode cX5_put 47 = .ok (.goto 4, 3) := by decide +kernel
theorem dX5_put_50 : decode cX5_put 50 = .ok (.iconst 0, 1) := by decide +kernel
theorem dX5_put_51 : decode cX5_put 51 = .ok (.istore 7, 2) := by decide +kernel
theorem dX5_put_53 : decode cX5_put 53 = .ok (.iload 4, 2) := by decide +kernel
theorem dX5_put_55 : decode cX5_put 55 = .ok (.ifCond .ne 20, 3) := by decide +kernel
theorem dX5_put_58 : decode cX5_put 58 = .ok (.iload 7, 2) := by decide +kernel
theorem dX5_put_60 : decode cX5_put 60 = .ok (.ifCond .ne 19, 3) := by decide +kernel
theorem dX5_put_63 : decode cX5_put 63 = .ok (.iload 6, 2) := by decide +kernel
theorem dX5_put_65 : decode cX5_put 65 = .ok (.bipush 33, 2) := by decide +kernel
theorem dX5_put_67 : decode cX5_put 67 = .ok (.bipush 126, 2) := by decide +kernel
theorem dX5_put_69 : decode cX5_put 69 = .ok (.invokestatic 59, 3) := by decide +kernel
theorem dX5_put_72 : decode cX5_put 72 = .ok (.ifCond .ne 7, 3) := by decide +kernel
theorem dX5_put_75 : decode cX5_put 75 = .ok (.iconst 1, 1) := by decide +kernel
theorem dX5_put_76 : decode cX5_put 76 = .ok (.goto 4, 3) := by decide +kernel
theorem dX5_put_79 : decode cX5_put 79 = .ok (.iconst 0, 1) := by decide +kernel
theorem dX5_put_80 : decode cX5_put 80 = .ok (.istore 4, 2) := by decide +kernel
theorem dX5_put_82 : decode cX5_put 82 = .ok (.iload_n 3, 1) := by decide +kernel
theorem dX5_put_83 : decode cX5_put 83 = .ok (.iload 7, 2) := by decide +kernel
theorem dX5_put_85 : decode cX5_put 85 = .ok (.ifCond .eq 7, 3) := by decide +kernel
theorem dX5_put_88 : decode cX5_put 88 = .ok (.iconst 0, 1) := by decide +kernel
theorem dX5_put_89 : decode cX5_put 89 = .ok (.goto 4, 3) := by decide +kernel
theorem dX5_put_92 : decode cX5_put 92 = .ok (.iconst 1, 1) := by decide +kernel
theorem dX5_put_93 : decode cX5_put 93 = .ok (.iadd, 1) := by decide +kernel
theorem dX5_put_94 : decode cX5_put 94 = .ok (.istore_n 3, 1) := by decide +kernel
theorem dX5_put_95 : decode cX5_put 95 = .ok (.iinc 5 1, 3) := by decide +kernel
theorem dX5_put_98 : decode cX5_put 98 = .ok (.goto (-90), 3) := by decide +kernel
theorem dX5_put_101 : decode cX5_put 101 = .ok (.iload 4, 2) := by decide +kernel
theorem dX5_put_103 : decode cX5_put 103 = .ok (.ifCond .eq 6, 3) := by decide +kernel
theorem dX5_put_106 : decode cX5_put 106 = .ok (.ldc 99, 2) := by decide +kernel
theorem dX5_put_108 : decode cX5_put 108 = .ok (.ireturn, 1) := by decide +kernel
theorem dX5_put_109 : decode cX5_put 109 = .ok (.aload_n 0, 1) := by decide +kernel
theorem dX5_put_110 : decode cX5_put 110 = .ok (.getfield 143, 3) := by decide +kernel
theorem dX5_put_113 : decode cX5_put 113 = .ok (.iload_n 3, 1) := by decide +kernel
theorem dX5_put_114 : decode cX5_put 114 = .ok (.iadd, 1) := by decide +kernel
theorem dX5_put_115 : decode cX5_put 115 = .ok (.bipush 60, 2) := by decide +kernel
theorem dX5_put_117 : decode cX5_put 117 = .ok (.if_icmp .le 6, 3) := by decide +kernel
theorem dX5_put_120 : decode cX5_put 120 = .ok (.ldc 103, 2) := by decide +kernel
theorem dX5_put_122 : decode cX5_put 122 = .ok (.ireturn, 1) := by decide +kernel
theorem dX5_put_123 : decode cX5_put 123 = .ok (.iconst 0, 1) := by decide +kernel
theorem dX5_put_124 : decode cX5_put 124 = .ok (.istore 5, 2) := by decide +kernel
theorem dX5_put_126 : decode cX5_put 126 = .ok (.iload 5, 2) := by decide +kernel
theorem dX5_put_128 : decode cX5_put 128 = .ok (.iload_n 3, 1) := by decide +kernel
theorem dX5_put_129 : decode cX5_put 129 = .ok (.if_icmp .ge 37, 3) := by decide +kernel
theorem dX5_put_132 : decode cX5_put 132 = .ok (.aload_n 0, 1) := by decide +kernel
theorem dX5_put_133 : decode cX5_put 133 = .ok (.getfield 26, 3) := by decide +kernel
theorem dX5_put_136 : decode cX5_put 136 = .ok (.aload_n 0, 1) := by decide +kernel
theorem dX5_put_137 : decode cX5_put 137 = .ok (.getfield 143, 3) := by decide +kernel
theorem dX5_put_140 : decode cX5_put 140 = .ok (.iload_n 3, 1) := by decide +kernel
theorem dX5_put_141 : decode cX5_put 141 = .ok (.iadd, 1) := by decide +kernel
theorem dX5_put_142 : decode cX5_put 142 = .ok (.iconst 1, 1) := by decide +kernel
theorem dX5_put_143 : decode cX5_put 143 = .ok (.isub, 1) := by decide +kernel
theorem dX5_put_144 : decode cX5_put 144 = .ok (.iload 5, 2) := by decide +kernel
theorem dX5_put_146 : decode cX5_put 146 = .ok (.isub, 1) := by decide +kernel
theorem dX5_put_147 : decode cX5_put 147 = .ok (.lload_n 1, 1) := by decide +kernel
theorem dX5_put_148 : decode cX5_put 148 = .ok (.bipush 8, 2) := by decide +kernel
theorem dX5_put_150 : decode cX5_put 150 = .ok (.iload 5, 2) := by decide +kernel
theorem dX5_put_152 : decode cX5_put 152 = .ok (.imul, 1) := by decide +kernel
theorem dX5_put_153 : decode cX5_put 153 = .ok (.lushr, 1) := by decide +kernel
theorem dX5_put_154 : decode cX5_put 154 = .ok (.ldc2_w 158, 3) := by decide +kernel
theorem dX5_put_157 : decode cX5_put 157 = .ok (.land, 1) := by decide +kernel
theorem dX5_put_158 : decode cX5_put 158 = .ok (.l2i, 1) := by decide +kernel
theorem dX5_put_159 : decode cX5_put 159 = .ok (.iastore, 1) := by decide +kernel
theorem dX5_put_160 : decode cX5_put 160 = .ok (.iinc 5 1, 3) := by decide +kernel
theorem dX5_put_163 : decode cX5_put 163 = .ok (.goto (-37), 3) := by decide +kernel
theorem dX5_put_166 : decode cX5_put 166 = .ok (.aload_n 0, 1) := by decide +kernel
theorem dX5_put_167 : decode cX5_put 167 = .ok (.dup, 1) := by decide +kernel
theorem dX5_put_168 : decode cX5_put 168 = .ok (.getfield 143, 3) := by decide +kernel
theorem dX5_put_171 : decode cX5_put 171 = .ok (.iload_n 3, 1) := by decide +kernel
theorem dX5_put_172 : decode cX5_put 172 = .ok (.iadd, 1) := by decide +kernel
theorem dX5_put_173 : decode cX5_put 173 = .ok (.putfield 143, 3) := by decide +kernel
theorem dX5_put_176 : decode cX5_put 176 = .ok (.aload_n 0, 1) := by decide +kernel
theorem dX5_put_177 : decode cX5_put 177 = .ok (.getfield 143, 3) := by decide +kernel
theorem dX5_put_180 : decode cX5_put 180 = .ok (.ireturn, 1) := by decide +kernel
theorem dX5_wipe_0 : decode cX5_wipe 0 = .ok (.aload_n 0, 1) := by decide +kernel
theorem dX5_wipe_1 : decode cX5_wipe 1 = .ok (.getfield 143, 3) := by decide +kernel
theorem dX5_wipe_4 : decode cX5_wipe 4 = .ok (.istore_n 1, 1) := by decide +kernel
theorem dX5_wipe_5 : decode cX5_wipe 5 = .ok (.aload_n 0, 1) := by decide +kernel
theorem dX5_wipe_6 : decode cX5_wipe 6 = .ok (.iconst 0, 1) := by decide +kernel
theorem dX5_wipe_7 : decode cX5_wipe 7 = .ok (.putfield 143, 3) := by decide +kernel
theorem dX5_wipe_10 : decode cX5_wipe 10 = .ok (.iload_n 1, 1) := by decide +kernel
theorem dX5_wipe_11 : decode cX5_wipe 11 = .ok (.ireturn, 1) := by decide +kernel
theorem dX5_sign_0 : decode cX5_sign 0 = .ok (.aload_n 0, 1) := by decide +kernel
theorem dX5_sign_1 : decode cX5_sign 1 = .ok (.getfield 160, 3) := by decide +kernel
theorem dX5_sign_4 : decode cX5_sign 4 = .ok (.aload_n 0, 1) := by decide +kernel
theorem dX5_sign_5 : decode cX5_sign 5 = .ok (.getfield 143, 3) := by decide +kernel
theorem dX5_sign_8 : decode cX5_sign 8 = .ok (.if_icmp .ge 15, 3) := by decide +kernel
theorem dX5_sign_11 : decode cX5_sign 11 = .ok (.aload_n 0, 1) := by decide +kernel
theorem dX5_sign_12 : decode cX5_sign 12 = .ok (.getfield 26, 3) := by decide +kernel
theorem dX5_sign_15 : decode cX5_sign 15 = .ok (.aload_n 0, 1) := by decide +kernel
theorem dX5_sign_16 : decode cX5_sign 16 = .ok (.getfield 160, 3) := by decide +kernel
theorem dX5_sign_19 : decode cX5_sign 19 = .ok (.iaload, 1) := by decide +kernel
theorem dX5_sign_20 : decode cX5_sign 20 = .ok (.goto 4, 3) := by decide +kernel
theorem dX5_sign_23 : decode cX5_sign 23 = .ok (.iconst 0, 1) := by decide +kernel
theorem dX5_sign_24 : decode cX5_sign 24 = .ok (.ireturn, 1) := by decide +kernel
theorem dX5_isNext_0 : decode cX5_isNext 0 = .ok (.aload_n 0, 1) := by decide +kernel
theorem dX5_isNext_1 : decode cX5_isNext 1 = .ok (.getfield 163, 3) := by decide +kernel
theorem dX5_isNext_4 : decode cX5_isNext 4 = .ok (.ifCond .ne 19, 3) := by decide +kernel
theorem dX5_isNext_7 : decode cX5_isNext 7 = .ok (.aload_n 0, 1) := by decide +kernel
theorem dX5_isNext_8 : decode cX5_isNext 8 = .ok (.invokevirtual 167, 3) := by decide +kernel
theorem dX5_isNext_11 : decode cX5_isNext 11 = .ok (.iload_n 1, 1) := by decide +kernel
theorem dX5_isNext_12 : decode cX5_isNext 12 = .ok (.iload_n 2, 1) := by decide +kernel
theorem dX5_isNext_13 : decode cX5_isNext 13 = .ok (.invokestatic 59, 3) := by decide +kernel
theorem dX5_isNext_16 : decode cX5_isNext 16 = .ok (.ifCond .eq 7, 3) := by decide +kernel
theorem dX5_isNext_19 : decode cX5_isNext 19 = .ok (.iconst 1, 1) := by decide +kernel
theorem dX5_isNext_20 : decode cX5_isNext 20 = .ok (.goto 4, 3) := by decide +kernel
theorem dX5_isNext_23 : decode cX5_isNext 23 = .ok (.iconst 0, 1) := by decide +kernel
theorem dX5_isNext_24 : decode cX5_isNext 24 = .ok (.ireturn, 1) := by decide +kernel
theorem dX5_readNumber_0 : decode cX5_readNumber 0 = .ok (.aload_n 0, 1) := by decide +kernel
theorem dX5_readNumber_1 : decode cX5_readNumber 1 = .ok (.iconst 0, 1) := by decide +kernel
theorem dX5_readNumber_2 : decode cX5_readNumber 2 = .ok (.putfield 170, 3) := by decide +kernel
theorem dX5_readNumber_5 : decode cX5_readNumber 5 = .ok (.aload_n 0, 1) := by decide +kernel
theorem dX5_readNumber_6 : decode cX5_readNumber 6 = .ok (.aload_n 0, 1) := by decide +kernel
theorem dX5_readNumber_7 : decode cX5_readNumber 7 = .ok (.getfield 170, 3) := by decide +kernel
theorem dX5_readNumber_10 : decode cX5_readNumber 10 = .ok (.ifCond .ne 8, 3) := by decide +kernel
theorem dX5_readNumber_13 : decode cX5_readNumber 13 = .ok (.bipush 49, 2) := by decide +kernel
theorem dX5_readNumber_15 : decode cX5_readNumber 15 = .ok (.goto 5, 3) := by decide +kernel
theorem dX5_readNumber_18 : decode cX5_readNumber 18 = .ok (.bipush 48, 2) := by decide +kernel
theorem dX5_readNumber_20 : decode cX5_readNumber 20 = .ok (.bipush 57, 2) := by decide +kernel
theorem dX5_readNumber_22 : decode cX5_readNumber 22 = .ok (.invokevirtual 173, 3) := by decide +kernel
theorem dX5_readNumber_25 : decode cX5_readNumber 25 = .ok (.ifCond .eq 54, 3) := by decide +kernel
theorem dX5_readNumber_28 : decode cX5_readNumber 28 = .ok (.bipush 10, 2) := by decide +kernel
theorem dX5_readNumber_30 : decode cX5_readNumber 30 = .ok (.aload_n 0, 1) := by decide +kernel
theorem dX5_readNumber_31 : decode cX5_readNumber 31 = .ok (.getfield 170, 3) := by decide +kernel
theorem dX5_readNumber_34 : decode cX5_readNumber 34 = .ok (.imul, 1) := by decide +kernel
theorem dX5_readNumber_35 : decode cX5_readNumber 35 = .ok (.aload_n 0, 1) := by decide +kernel
theorem dX5_readNumber_36 : decode cX5_readNumber 36 = .ok (.invokevirtual 167, 3) := by decide +kernel
theorem dX5_readNumber_39 : decode cX5_readNumber 39 = .ok (.iadd, 1) := by decide +kernel
theorem dX5_readNumber_40 : decode cX5_readNumber 40 = .ok (.bipush 48, 2) := by decide +kernel
theorem dX5_readNumber_42 : decode cX5_readNumber 42 = .ok (.isub, 1) := by decide +kernel
theorem dX5_readNumber_43 : decode cX5_readNumber 43 = .ok (.iload_n 1, 1) := by decide +kernel
theorem dX5_readNumber_44 : decode cX5_readNumber 44 = .ok (.if_icmp .gt 35, 3) := by decide +kernel
theorem dX5_readNumber_47 : decode cX5_readNumber 47 = .ok (.aload_n 0, 1) := by decide +kernel
theorem dX5_readNumber_48 : decode cX5_readNumber 48 = .ok (.bipush 10, 2) := by decide +kernel
theorem dX5_readNumber_50 : decode cX5_readNumber 50 = .ok (.aload_n 0, 1) := by decide +kernel
theorem dX5_readNumber_51 : decode cX5_readNumber 51 = .ok (.getfield 170, 3) := by decide +kernel
theorem dX5_readNumber_54 : decode cX5_readNumber 54 = .ok (.imul, 1) := by decide +kernel
theorem dX5_readNumber_55 : decode cX5_readNumber 55 = .ok (.aload_n 0, 1) := by decide +kernel
theorem dX5_readNumber_56 : decode cX5_readNumber 56 = .ok (.invokevirtual 167, 3) := by decide +kernel
theorem dX5_readNumber_59 : decode cX5_readNumber 59 = .ok (.iadd, 1) := by decide +kernel
theorem dX5_readNumber_60 : decode cX5_readNumber 60 = .ok (.bipush 48, 2) := by decide +kernel
theorem dX5_readNumber_62 : decode cX5_readNumber 62 = .ok (.isub, 1) := by decide +kernel
theorem dX5_readNumber_63 : decode cX5_readNumber 63 = .ok (.putfield 170, 3) := by decide +kernel
theorem dX5_readNumber_66 : decode cX5_readNumber 66 = .ok (.aload_n 0, 1) := by decide +kernel
theorem dX5_readNumber_67 : decode cX5_readNumber 67 = .ok (.dup, 1) := by decide +kernel
theorem dX5_readNumber_68 : decode cX5_readNumber 68 = .ok (.getfield 160, 3) := by decide +kernel
theorem dX5_readNumber_71 : decode cX5_readNumber 71 = .ok (.iconst 1, 1) := by decide +kernel
theorem dX5_readNumber_72 : decode cX5_readNumber 72 = .ok (.iadd, 1) := by decide +kernel
theorem dX5_readNumber_73 : decode cX5_readNumber 73 = .ok (.putfield 160, 3) := by decide +kernel
theorem dX5_readNumber_76 : decode cX5_readNumber 76 = .ok (.goto (-71), 3) := by decide +kernel
theorem dX5_readNumber_79 : decode cX5_readNumber 79 = .ok (.aload_n 0, 1) := by decide +kernel
theorem dX5_readNumber_80 : decode cX5_readNumber 80 = .ok (.aload_n 0, 1) := by decide +kernel
theorem dX5_readNumber_81 : decode cX5_readNumber 81 = .ok (.getfield 163, 3) := by decide +kernel
theorem dX5_readNumber_84 : decode cX5_readNumber 84 = .ok (.ifCond .ne 10, 3) := by decide +kernel
theorem dX5_readNumber_87 : decode cX5_readNumber 87 = .ok (.aload_n 0, 1) := by decide +kernel
theorem dX5_readNumber_88 : decode cX5_readNumber 88 = .ok (.getfield 170, 3) := by decide +kernel
theorem dX5_readNumber_91 : decode cX5_readNumber 91 = .ok (.ifCond .ne 7, 3) := by decide +kernel
theorem dX5_readNumber_94 : decode cX5_readNumber 94 = .ok (.iconst 1, 1) := by decide +kernel
theorem dX5_readNumber_95 : decode cX5_readNumber 95 = .ok (.goto 4, 3) := by decide +kernel
theorem dX5_readNumber_98 : decode cX5_readNumber 98 = .ok (.iconst 0, 1) := by decide +kernel
theorem dX5_readNumber_99 : decode cX5_readNumber 99 = .ok (.putfield 163, 3) := by decide +kernel
theorem dX5_readNumber_102 : decode cX5_readNumber 102 = .ok (.return_, 1) := by decide +kernel
theorem dX5_readUnits_0 : decode cX5_readUnits 0 = .ok (.iconst 0, 1) := by decide +kernel
theorem dX5_readUnits_1 : decode cX5_readUnits 1 = .ok (.istore_n 1, 1) := by decide +kernel
theorem dX5_readUnits_2 : decode cX5_readUnits 2 = .ok (.iload_n 1, 1) := by decide +kernel
theorem dX5_readUnits_3 : decode cX5_readUnits 3 = .ok (.iconst 4, 1) := by decide +kernel
theorem dX5_readUnits_4 : decode cX5_readUnits 4 = .ok (.if_icmp .ge 16, 3) := by decide +kernel
theorem dX5_readUnits_7 : decode cX5_readUnits 7 = .ok (.aload_n 0, 1) := by decide +kernel
theorem dX5_readUnits_8 : decode cX5_readUnits 8 = .ok (.getfield 29, 3) := by decide +kernel
theorem dX5_readUnits_11 : decode cX5_readUnits 11 = .ok (.iload_n 1, 1) := by decide +kernel
theorem dX5_readUnits_12 : decode cX5_readUnits 12 = .ok (.iconst 0, 1) := by decide +kernel
theorem dX5_readUnits_13 : decode cX5_readUnits 13 = .ok (.iastore, 1) := by decide +kernel
theorem dX5_readUnits_14 : decode cX5_readUnits 14 = .ok (.iinc 1 1, 3) := by decide +kernel
theorem dX5_readUnits_17 : decode cX5_readUnits 17 = .ok (.goto (-15), 3) := by decide +kernel
theorem dX5_readUnits_20 : decode cX5_readUnits 20 = .ok (.bipush 97, 2) := by decide +kernel
theorem dX5_readUnits_22 : decode cX5_readUnits 22 = .ok (.istore_n 1, 1) := by decide +kernel
theorem dX5_readUnits_23 : decode cX5_readUnits 23 = .ok (.aload_n 0, 1) := by decide +kernel
theorem dX5_readUnits_24 : decode cX5_readUnits 24 = .ok (.aload_n 0, 1) := by decide +kernel
theorem dX5_readUnits_25 : decode cX5_readUnits 25 = .ok (.iload_n 1, 1) := by decide +kernel
theorem dX5_readUnits_26 : decode cX5_readUnits 26 = .ok (.bipush 100, 2) := by decide +kernel
theorem dX5_readUnits_28 : decode cX5_readUnits 28 = .ok (.invokevirtual 173, 3) := by decide +kernel
theorem dX5_readUnits_31 : decode cX5_readUnits 31 = .ok (.ifCond .ne 7, 3) := by decide +kernel
theorem dX5_readUnits_34 : decode cX5_readUnits 34 = .ok (.iconst 1, 1) := by decide +kernel
theorem dX5_readUnits_35 : decode cX5_readUnits 35 = .ok (.goto 4, 3) := by decide +kernel
theorem dX5_readUnits_38 : decode cX5_readUnits 38 = .ok (.iconst 0, 1) := by decide +kernel
theorem dX5_readUnits_39 : decode cX5_readUnits 39 = .ok (.putfield 163, 3) := by decide +kernel
theorem dX5_readUnits_42 : decode cX5_readUnits 42 = .ok (.aload_n 0, 1) := by decide +kernel
theorem dX5_readUnits_43 : decode cX5_readUnits 43 = .ok (.iload_n 1, 1) := by decide +kernel
theorem dX5_readUnits_44 : decode cX5_readUnits 44 = .ok (.bipush 100, 2) := by decide +kernel
theorem dX5_readUnits_46 : decode cX5_readUnits 46 = .ok (.invokevirtual 173, 3) := by decide +kernel
theorem dX5_readUnits_49 : decode cX5_readUnits 49 = .ok (.ifCond .eq 48, 3) := by decide +kernel
theorem dX5_readUnits_52 : decode cX5_readUnits 52 = .ok (.aload_n 0, 1) := by decide +kernel
theorem dX5_readUnits_53 : decode cX5_readUnits 53 = .ok (.invokevirtual 167, 3) := by decide +kernel
theorem dX5_readUnits_56 : decode cX5_readUnits 56 = .ok (.bipush 97, 2) := by decide +kernel
theorem dX5_readUnits_58 : decode cX5_readUnits 58 = .ok (.isub, 1) := by decide +kernel
theorem dX5_readUnits_59 : decode cX5_readUnits 59 = .ok (.istore_n 2, 1) := by decide +kernel
theorem dX5_readUnits_60 : decode cX5_readUnits 60 = .ok (.aload_n 0, 1) := by decide +kernel
theorem dX5_readUnits_61 : decode cX5_readUnits 61 = .ok (.dup, 1) := by decide +kernel
theorem dX5_readUnits_62 : decode cX5_readUnits 62 = .ok (.getfield 160, 3) := by decide +kernel
theorem dX5_readUnits_65 : decode cX5_readUnits 65 = .ok (.iconst 1, 1) := by decide +kernel
theorem dX5_readUnits_66 : decode cX5_readUnits 66 = .ok (.iadd, 1) := by decide +kernel
theorem dX5_readUnits_67 : decode cX5_readUnits 67 = .ok (.putfield 160, 3) := by decide +kernel
theorem dX5_readUnits_70 : decode cX5_readUnits 70 = .ok (.aload_n 0, 1) := by decide +kernel
theorem dX5_readUnits_71 : decode cX5_readUnits 71 = .ok (.sipush 400, 3) := by decide +kernel
theorem dX5_readUnits_74 : decode cX5_readUnits 74 = .ok (.invokevirtual 176, 3) := by decide +kernel
theorem dX5_readUnits_77 : decode cX5_readUnits 77 = .ok (.aload_n 0, 1) := by decide +kernel
theorem dX5_readUnits_78 : decode cX5_readUnits 78 = .ok (.getfield 29, 3) := by decide +kernel
theorem dX5_readUnits_81 : decode cX5_readUnits 81 = .ok (.iload_n 2, 1) := by decide +kernel
theorem dX5_readUnits_82 : decode cX5_readUnits 82 = .ok (.aload_n 0, 1) := by decide +kernel
theorem dX5_readUnits_83 : decode cX5_readUnits 83 = .ok (.getfield 170, 3) := by decide +kernel
theorem dX5_readUnits_86 : decode cX5_readUnits 86 = .ok (.iastore, 1) := by decide +kernel
theorem dX5_readUnits_87 : decode cX5_readUnits 87 = .ok (.bipush 97, 2) := by decide +kernel
theorem dX5_readUnits_89 : decode cX5_readUnits 89 = .ok (.iload_n 2, 1) := by decide +kernel
theorem dX5_readUnits_90 : decode cX5_readUnits 90 = .ok (.iadd, 1) := by decide +kernel
theorem dX5_readUnits_91 : decode cX5_readUnits 91 = .ok (.iconst 1, 1) := by decide +kernel
theorem dX5_readUnits_92 : decode cX5_readUnits 92 = .ok (.iadd, 1) := by decide +kernel
theorem dX5_readUnits_93 : decode cX5_readUnits 93 = .ok (.istore_n 1, 1) := by decide +kernel
theorem dX5_readUnits_94 : decode cX5_readUnits 94 = .ok (.goto (-52), 3) := by decide +kernel
theorem dX5_readUnits_97 : decode cX5_readUnits 97 = .ok (.return_, 1) := by decide +kernel
theorem dX5_readHose_0 : decode cX5_readHose 0 = .ok (.aload_n 0, 1) := by decide +kernel
theorem dX5_readHose_1 : decode cX5_readHose 1 = .ok (.aload_n 0, 1) := by decide +kernel
theorem dX5_readHose_2 : decode cX5_readHose 2 = .ok (.invokevirtual 167, 3) := by decide +kernel
theorem dX5_readHose_5 : decode cX5_readHose 5 = .ok (.bipush 48, 2) := by decide +kernel
theorem dX5_readHose_7 : decode cX5_readHose 7 = .ok (.isub, 1) := by decide +kernel
theorem dX5_readHose_8 : decode cX5_readHose 8 = .ok (.putfield 179, 3) := by decide +kernel
theorem dX5_readHose_11 : decode cX5_readHose 11 = .ok (.aload_n 0, 1) := by decide +kernel
theorem dX5_readHose_12 : decode cX5_readHose 12 = .ok (.dup, 1) := by decide +kernel
theorem dX5_readHose_13 : decode cX5_readHose 13 = .ok (.getfield 160, 3) := by decide +kernel
theorem dX5_readHose_16 : decode cX5_readHose 16 = .ok (.iconst 1, 1) := by decide +kernel
theorem dX5_readHose_17 : decode cX5_readHose 17 = .ok (.iadd, 1) := by decide +kernel
theorem dX5_readHose_18 : decode cX5_readHose 18 = .ok (.putfield 160, 3) := by decide +kernel
theorem dX5_readHose_21 : decode cX5_readHose 21 = .ok (.aload_n 0, 1) := by decide +kernel
theorem dX5_readHose_22 : decode cX5_readHose 22 = .ok (.aload_n 0, 1) := by decide +kernel
theorem dX5_readHose_23 : decode cX5_readHose 23 = .ok (.invokevirtual 167, 3) := by decide +kernel
theorem dX5_readHose_26 : decode cX5_readHose 26 = .ok (.putfield 182, 3) := by decide +kernel
theorem dX5_readHose_29 : decode cX5_readHose 29 = .ok (.aload_n 0, 1) := by decide +kernel
theorem dX5_readHose_30 : decode cX5_readHose 30 = .ok (.aload_n 0, 1) := by decide +kernel
theorem dX5_readHose_31 : decode cX5_readHose 31 = .ok (.getfield 182, 3) := by decide +kernel
theorem dX5_readHose_34 : decode cX5_readHose 34 = .ok (.bipush 61, 2) := by decide +kernel
theorem dX5_readHose_36 : decode cX5_readHose 36 = .ok (.if_icmp .eq 25, 3) := by decide +kernel
theorem dX5_readHose_39 : decode cX5_readHose 39 = .ok (.aload_n 0, 1) := by decide +kernel
theorem dX5_readHose_40 : decode cX5_readHose 40 = .ok (.getfield 182, 3) := by decide +kernel
theorem dX5_readHose_43 : decode cX5_readHose 43 = .ok (.bipush 45, 2) := by decide +kernel
theorem dX5_readHose_45 : decode cX5_readHose 45 = .ok (.if_icmp .eq 16, 3) := by decide +kernel
theorem dX5_readHose_48 : decode cX5_readHose 48 = .ok (.aload_n 0, 1) := by decide +kernel
theorem dX5_readHose_49 : decode cX5_readHose 49 = .ok (.getfield 182, 3) := by decide +kernel
theorem dX5_readHose_52 : decode cX5_readHose 52 = .ok (.bipush 126, 2) := by decide +kernel
theorem dX5_readHose_54 : decode cX5_readHose 54 = .ok (.if_icmp .eq 7, 3) := by decide +kernel
theorem dX5_readHose_57 : decode cX5_readHose 57 = .ok (.iconst 1, 1) := by decide +kernel
theorem dX5_readHose_58 : decode cX5_readHose 58 = .ok (.goto 4, 3) := by decide +kernel
theorem dX5_readHose_61 : decode cX5_readHose 61 = .ok (.iconst 0, 1) := by decide +kernel
theorem dX5_readHose_62 : decode cX5_readHose 62 = .ok (.putfield 163, 3) := by decide +kernel
theorem dX5_readHose_65 : decode cX5_readHose 65 = .ok (.aload_n 0, 1) := by decide +kernel
theorem dX5_readHose_66 : decode cX5_readHose 66 = .ok (.dup, 1) := by decide +kernel
theorem dX5_readHose_67 : decode cX5_readHose 67 = .ok (.getfield 160, 3) := by decide +kernel
theorem dX5_readHose_70 : decode cX5_readHose 70 = .ok (.aload_n 0, 1) := by decide +kernel
theorem dX5_readHose_71 : decode cX5_readHose 71 = .ok (.getfield 163, 3) := by decide +kernel
theorem dX5_readHose_74 : decode cX5_readHose 74 = .ok (.ifCond .eq 7, 3) := by decide +kernel
theorem dX5_readHose_77 : decode cX5_readHose 77 = .ok (.iconst 0, 1) := by decide +kernel
theorem dX5_readHose_78 : decode cX5_readHose 78 = .ok (.goto 4, 3) := by decide +kernel
theorem dX5_readHose_81 : decode cX5_readHose 81 = .ok (.iconst 1, 1) := by decide +kernel
theorem dX5_readHose_82 : decode cX5_readHose 82 = .ok (.iadd, 1) := by decide +kernel
theorem dX5_readHose_83 : decode cX5_readHose 83 = .ok (.putfield 160, 3) := by decide +kernel
theorem dX5_readHose_86 : decode cX5_readHose 86 = .ok (.aload_n 0, 1) := by decide +kernel
theorem dX5_readHose_87 : decode cX5_readHose 87 = .ok (.getfield 182, 3) := by decide +kernel
theorem dX5_readHose_90 : decode cX5_readHose 90 = .ok (.bipush 61, 2) := by decide +kernel
theorem dX5_readHose_92 : decode cX5_readHose 92 = .ok (.if_icmp .ne 54, 3) := by decide +kernel
theorem dX5_readHose_95 : decode cX5_readHose 95 = .ok (.aload_n 0, 1) := by decide +kernel
theorem dX5_readHose_96 : decode cX5_readHose 96 = .ok (.aload_n 0, 1) := by decide +kernel
theorem dX5_readHose_97 : decode cX5_readHose 97 = .ok (.invokevirtual 167, 3) := by decide +kernel
theorem dX5_readHose_100 : decode cX5_readHose 100 = .ok (.bipush 97, 2) := by decide +kernel
theorem dX5_readHose_102 : decode cX5_readHose 102 = .ok (.isub, 1) := by decide +kernel
theorem dX5_readHose_103 : decode cX5_readHose 103 = .ok (.putfield 185, 3) := by decide +kernel
theorem dX5_readHose_106 : decode cX5_readHose 106 = .ok (.aload_n 0, 1) := by decide +kernel
theorem dX5_readHose_107 : decode cX5_readHose 107 = .ok (.aload_n 0, 1) := by decide +kernel
theorem dX5_readHose_108 : decode cX5_readHose 108 = .ok (.getfield 185, 3) := by decide +kernel
theorem dX5_readHose_111 : decode cX5_readHose 111 = .ok (.invokestatic 116, 3) := by decide +kernel
theorem dX5_readHose_114 : decode cX5_readHose 114 = .ok (.ifCond .ne 7, 3) := by decide +kernel
theorem dX5_readHose_117 : decode cX5_readHose 117 = .ok (.iconst 1, 1) := by decide +kernel
theorem dX5_readHose_118 : decode cX5_readHose 118 = .ok (.goto 4, 3) := by decide +kernel
theorem dX5_readHose_121 : decode cX5_readHose 121 = .ok (.iconst 0, 1) := by decide +kernel
theorem dX5_readHose_122 : decode cX5_readHose 122 = .ok (.putfield 163, 3) := by decide +kernel
theorem dX5_readHose_125 : decode cX5_readHose 125 = .ok (.aload_n 0, 1) := by decide +kernel
theorem dX5_readHose_126 : decode cX5_readHose 126 = .ok (.dup, 1) := by decide +kernel
theorem dX5_readHose_127 : decode cX5_readHose 127 = .ok (.getfield 160, 3) := by decide +kernel
theorem dX5_readHose_130 : decode cX5_readHose 130 = .ok (.aload_n 0, 1) := by decide +kernel
theorem dX5_readHose_131 : decode cX5_readHose 131 = .ok (.getfield 163, 3) := by decide +kernel
theorem dX5_readHose_134 : decode cX5_readHose 134 = .ok (.ifCond .eq 7, 3) := by decide +kernel
theorem dX5_readHose_137 : decode cX5_readHose 137 = .ok (.iconst 0, 1) := by decide +kernel
theorem dX5_readHose_138 : decode cX5_readHose 138 = .ok (.goto 4, 3) := by decide +kernel
theorem dX5_readHose_141 : decode cX5_readHose 141 = .ok (.iconst 1, 1) := by decide +kernel
theorem dX5_readHose_142 : decode cX5_readHose 142 = .ok (.iadd, 1) := by decide +kernel
theorem dX5_readHose_143 : decode cX5_readHose 143 = .ok (.putfield 160, 3) := by decide +kernel
theorem dX5_readHose_146 : decode cX5_readHose 146 = .ok (.return_, 1) := by decide +kernel
theorem dX5_readOrder_0 : decode cX5_readOrder 0 = .ok (.aload_n 0, 1) := by decide +kernel
theorem dX5_readOrder_1 : decode cX5_readOrder 1 = .ok (.aload_n 0, 1) := by decide +kernel
theorem dX5_readOrder_2 : decode cX5_readOrder 2 = .ok (.invokevirtual 167, 3) := by decide +kernel
theorem dX5_readOrder_5 : decode cX5_readOrder 5 = .ok (.putfield 182, 3) := by decide +kernel
theorem dX5_readOrder_8 : decode cX5_readOrder 8 = .ok (.aload_n 0, 1) := by decide +kernel
theorem dX5_readOrder_9 : decode cX5_readOrder 9 = .ok (.bipush 48, 2) := by decide +kernel
theorem dX5_readOrder_11 : decode cX5_readOrder 11 = .ok (.bipush 51, 2) := by decide +kernel
theorem dX5_readOrder_13 : decode cX5_readOrder 13 = .ok (.invokevirtual 173, 3) := by decide +kernel
theorem dX5_readOrder_16 : decode cX5_readOrder 16 = .ok (.ifCond .eq 10, 3) := by decide +kernel
theorem dX5_readOrder_19 : decode cX5_readOrder 19 = .ok (.aload_n 0, 1) := by decide +kernel
theorem dX5_readOrder_20 : decode cX5_readOrder 20 = .ok (.invokevirtual 188, 3) := by decide +kernel
theorem dX5_readOrder_23 : decode cX5_readOrder 23 = .ok (.goto 61, 3) := by decide +kernel
theorem dX5_readOrder_26 : decode cX5_readOrder 26 = .ok (.aload_n 0, 1) := by decide +kernel
theorem dX5_readOrder_27 : decode cX5_readOrder 27 = .ok (.getfield 182, 3) := by decide +kernel
theorem dX5_readOrder_30 : decode cX5_readOrder 30 = .ok (.bipush 43, 2) := by decide +kernel
theorem dX5_readOrder_32 : decode cX5_readOrder 32 = .ok (.if_icmp .eq 12, 3) := by decide +kernel
theorem dX5_readOrder_35 : decode cX5_readOrder 35 = .ok (.aload_n 0, 1) := by decide +kernel
theorem dX5_readOrder_36 : decode cX5_readOrder 36 = .ok (.getfield 182, 3) := by decide +kernel
theorem dX5_readOrder_39 : decode cX5_readOrder 39 = .ok (.bipush 46, 2) := by decide +kernel
theorem dX5_readOrder_41 : decode cX5_readOrder 41 = .ok (.if_icmp .ne 38, 3) := by decide +kernel
theorem dX5_readOrder_44 : decode cX5_readOrder 44 = .ok (.aload_n 0, 1) := by decide +kernel
theorem dX5_readOrder_45 : decode cX5_readOrder 45 = .ok (.dup, 1) := by decide +kernel
theorem dX5_readOrder_46 : decode cX5_readOrder 46 = .ok (.getfield 160, 3) := by decide +kernel
theorem dX5_readOrder_49 : decode cX5_readOrder 49 = .ok (.iconst 1, 1) := by decide +kernel
theorem dX5_readOrder_50 : decode cX5_readOrder 50 = .ok (.iadd, 1) := by decide +kernel
theorem dX5_readOrder_51 : decode cX5_readOrder 51 = .ok (.putfield 160, 3) := by decide +kernel
theorem dX5_readOrder_54 : decode cX5_readOrder 54 = .ok (.aload_n 0, 1) := by decide +kernel
theorem dX5_readOrder_55 : decode cX5_readOrder 55 = .ok (.getfield 182, 3) := by decide +kernel
theorem dX5_readOrder_58 : decode cX5_readOrder 58 = .ok (.bipush 43, 2) := by decide +kernel
theorem dX5_readOrder_60 : decode cX5_readOrder 60 = .ok (.if_icmp .ne 10, 3) := by decide +kernel
theorem dX5_readOrder_63 : decode cX5_readOrder 63 = .ok (.aload_n 0, 1) := by decide +kernel
theorem dX5_readOrder_64 : decode cX5_readOrder 64 = .ok (.invokevirtual 191, 3) := by decide +kernel
theorem dX5_readOrder_67 : decode cX5_readOrder 67 = .ok (.goto 17, 3) := by decide +kernel
theorem dX5_readOrder_70 : decode cX5_readOrder 70 = .ok (.aload_n 0, 1) := by decide +kernel
theorem dX5_readOrder_71 : decode cX5_readOrder 71 = .ok (.bipush 48, 2) := by decide +kernel
theorem dX5_readOrder_73 : decode cX5_readOrder 73 = .ok (.invokevirtual 176, 3) := by decide +kernel
theorem dX5_readOrder_76 : decode cX5_readOrder 76 = .ok (.goto 8, 3) := by decide +kernel
theorem dX5_readOrder_79 : decode cX5_readOrder 79 = .ok (.aload_n 0, 1) := by decide +kernel
theorem dX5_readOrder_80 : decode cX5_readOrder 80 = .ok (.iconst 1, 1) := by decide +kernel
theorem dX5_readOrder_81 : decode cX5_readOrder 81 = .ok (.putfield 163, 3) := by decide +kernel
theorem dX5_readOrder_84 : decode cX5_readOrder 84 = .ok (.return_, 1) := by decide +kernel
theorem dX5_findFault_0 : decode cX5_findFault 0 = .ok (.aload_n 0, 1) := by decide +kernel
theorem dX5_findFault_1 : decode cX5_findFault 1 = .ok (.iconst 0, 1) := by decide +kernel
theorem dX5_findFault_2 : decode cX5_findFault 2 = .ok (.putfield 160, 3) := by decide +kernel
theorem dX5_findFault_5 : decode cX5_findFault 5 = .ok (.aload_n 0, 1) := by decide +kernel
theorem dX5_findFault_6 : decode cX5_findFault 6 = .ok (.iconst 0, 1) := by decide +kernel
theorem dX5_findFault_7 : decode cX5_findFault 7 = .ok (.putfield 163, 3) := by decide +kernel
theorem dX5_findFault_10 : decode cX5_findFault 10 = .ok (.aload_n 0, 1) := by decide +kernel
theorem dX5_findFault_11 : decode cX5_findFault 11 = .ok (.invokevirtual 194, 3) := by decide +kernel
theorem dX5_findFault_14 : decode cX5_findFault 14 = .ok (.aload_n 0, 1) := by decide +kernel
theorem dX5_findFault_15 : decode cX5_findFault 15 = .ok (.getfield 163, 3) := by decide +kernel
theorem dX5_findFault_18 : decode cX5_findFault 18 = .ok (.ifCond .eq 8, 3) := by decide +kernel
theorem dX5_findFault_21 : decode cX5_findFault 21 = .ok (.aload_n 0, 1) := by decide +kernel
theorem dX5_findFault_22 : decode cX5_findFault 22 = .ok (.getfield 160, 3) := by decide +kernel
theorem dX5_findFault_25 : decode cX5_findFault 25 = .ok (.ireturn, 1) := by decide +kernel
theorem dX5_findFault_26 : decode cX5_findFault 26 = .ok (.aload_n 0, 1) := by decide +kernel
theorem dX5_findFault_27 : decode cX5_findFault 27 = .ok (.getfield 160, 3) := by decide +kernel
theorem dX5_findFault_30 : decode cX5_findFault 30 = .ok (.aload_n 0, 1) := by decide +kernel
theorem dX5_findFault_31 : decode cX5_findFault 31 = .ok (.getfield 143, 3) := by decide +kernel
theorem dX5_findFault_34 : decode cX5_findFault 34 = .ok (.if_icmp .ne 6, 3) := by decide +kernel
theorem dX5_findFault_37 : decode cX5_findFault 37 = .ok (.ldc 36, 2) := by decide +kernel
theorem dX5_findFault_39 : decode cX5_findFault 39 = .ok (.ireturn, 1) := by decide +kernel
theorem dX5_findFault_40 : decode cX5_findFault 40 = .ok (.aload_n 0, 1) := by decide +kernel
theorem dX5_findFault_41 : decode cX5_findFault 41 = .ok (.invokevirtual 167, 3) := by decide +kernel
theorem dX5_findFault_44 : decode cX5_findFault 44 = .ok (.bipush 59, 2) := by decide +kernel
theorem dX5_findFault_46 : decode cX5_findFault 46 = .ok (.if_icmp .eq 8, 3) := by decide +kernel
theorem dX5_findFault_49 : decode cX5_findFault 49 = .ok (.aload_n 0, 1) := by decide +kernel
theorem dX5_findFault_50 : decode cX5_findFault 50 = .ok (.getfield 160, 3) := by decide +kernel
theorem dX5_findFault_53 : decode cX5_findFault 53 = .ok (.ireturn, 1) := by decide +kernel
theorem dX5_findFault_54 : decode cX5_findFault 54 = .ok (.aload_n 0, 1) := by decide +kernel
theorem dX5_findFault_55 : decode cX5_findFault 55 = .ok (.dup, 1) := by decide +kernel
theorem dX5_findFault_56 : decode cX5_findFault 56 = .ok (.getfield 160, 3) := by decide +kernel
theorem dX5_findFault_59 : decode cX5_findFault 59 = .ok (.iconst 1, 1) := by decide +kernel
theorem dX5_findFault_60 : decode cX5_findFault 60 = .ok (.iadd, 1) := by decide +kernel
theorem dX5_findFault_61 : decode cX5_findFault 61 = .ok (.putfield 160, 3) := by decide +kernel
theorem dX5_findFault_64 : decode cX5_findFault 64 = .ok (.goto (-54), 3) := by decide +kernel
theorem dX5_fault_0 : decode cX5_fault 0 = .ok (.aload_n 0, 1) := by decide +kernel
theorem dX5_fault_1 : decode cX5_fault 1 = .ok (.invokevirtual 197, 3) := by decide +kernel
theorem dX5_fault_4 : decode cX5_fault 4 = .ok (.ireturn, 1) := by decide +kernel
theorem dX5_doOrder_0 : decode cX5_doOrder 0 = .ok (.aload_n 0, 1) := by decide +kernel
theorem dX5_doOrder_1 : decode cX5_doOrder 1 = .ok (.getfield 182, 3) := by decide +kernel
theorem dX5_doOrder_4 : decode cX5_doOrder 4 = .ok (.bipush 43, 2) := by decide +kernel
theorem dX5_doOrder_6 : decode cX5_doOrder 6 = .ok (.if_icmp .ne 22, 3) := by decide +kernel
theorem dX5_doOrder_9 : decode cX5_doOrder 9 = .ok (.aload_n 0, 1) := by decide +kernel
theorem dX5_doOrder_10 : decode cX5_doOrder 10 = .ok (.getfield 7, 3) := by decide +kernel
theorem dX5_doOrder_13 : decode cX5_doOrder 13 = .ok (.bipush 12, 2) := by decide +kernel
theorem dX5_doOrder_15 : decode cX5_doOrder 15 = .ok (.iaload, 1) := by decide +kernel
theorem dX5_doOrder_16 : decode cX5_doOrder 16 = .ok (.iconst 5, 1) := by decide +kernel
theorem dX5_doOrder_17 : decode cX5_doOrder 17 = .ok (.if_icmp .ge 7, 3) := by decide +kernel
theorem dX5_doOrder_20 : decode cX5_doOrder 20 = .ok (.iconst 1, 1) := by decide +kernel
theorem dX5_doOrder_21 : decode cX5_doOrder 21 = .ok (.goto 90, 3) := by decide +kernel
theorem dX5_doOrder_24 : decode cX5_doOrder 24 = .ok (.iconst 0, 1) := by decide +kernel
theorem dX5_doOrder_25 : decode cX5_doOrder 25 = .ok (.goto 86, 3) := by decide +kernel
theorem dX5_doOrder_28 : decode cX5_doOrder 28 = .ok (.aload_n 0, 1) := by decide +kernel
theorem dX5_doOrder_29 : decode cX5_doOrder 29 = .ok (.getfield 182, 3) := by decide +kernel
theorem dX5_doOrder_32 : decode cX5_doOrder 32 = .ok (.bipush 61, 2) := by decide +kernel
theorem dX5_doOrder_34 : decode cX5_doOrder 34 = .ok (.if_icmp .ne 14, 3) := by decide +kernel
theorem dX5_doOrder_37 : decode cX5_doOrder 37 = .ok (.aload_n 0, 1) := by decide +kernel
theorem dX5_doOrder_38 : decode cX5_doOrder 38 = .ok (.aload_n 0, 1) := by decide +kernel
theorem dX5_doOrder_39 : decode cX5_doOrder 39 = .ok (.getfield 179, 3) := by decide +kernel
theorem dX5_doOrder_42 : decode cX5_doOrder 42 = .ok (.invokevirtual 119, 3) := by decide +kernel
theorem dX5_doOrder_45 : decode cX5_doOrder 45 = .ok (.goto 66, 3) := by decide +kernel
theorem dX5_doOrder_48 : decode cX5_doOrder 48 = .ok (.aload_n 0, 1) := by decide +kernel
theorem dX5_doOrder_49 : decode cX5_doOrder 49 = .ok (.getfield 182, 3) := by decide +kernel
theorem dX5_doOrder_52 : decode cX5_doOrder 52 = .ok (.bipush 45, 2) := by decide +kernel
theorem dX5_doOrder_54 : decode cX5_doOrder 54 = .ok (.if_icmp .ne 14, 3) := by decide +kernel
theorem dX5_doOrder_57 : decode cX5_doOrder 57 = .ok (.aload_n 0, 1) := by decide +kernel
theorem dX5_doOrder_58 : decode cX5_doOrder 58 = .ok (.aload_n 0, 1) := by decide +kernel
theorem dX5_doOrder_59 : decode cX5_doOrder 59 = .ok (.getfield 179, 3) := by decide +kernel
theorem dX5_doOrder_62 : decode cX5_doOrder 62 = .ok (.invokevirtual 66, 3) := by decide +kernel
theorem dX5_doOrder_65 : decode cX5_doOrder 65 = .ok (.goto 46, 3) := by decide +kernel
theorem dX5_doOrder_68 : decode cX5_doOrder 68 = .ok (.aload_n 0, 1) := by decide +kernel
theorem dX5_doOrder_69 : decode cX5_doOrder 69 = .ok (.getfield 182, 3) := by decide +kernel
theorem dX5_doOrder_72 : decode cX5_doOrder 72 = .ok (.bipush 126, 2) := by decide +kernel
theorem dX5_doOrder_74 : decode cX5_doOrder 74 = .ok (.if_icmp .ne 14, 3) := by decide +kernel
theorem dX5_doOrder_77 : decode cX5_doOrder 77 = .ok (.aload_n 0, 1) := by decide +kernel
theorem dX5_doOrder_78 : decode cX5_doOrder 78 = .ok (.aload_n 0, 1) := by decide +kernel
theorem dX5_doOrder_79 : decode cX5_doOrder 79 = .ok (.getfield 179, 3) := by decide +kernel
theorem dX5_doOrder_82 : decode cX5_doOrder 82 = .ok (.invokevirtual 128, 3) := by decide +kernel
theorem dX5_doOrder_85 : decode cX5_doOrder 85 = .ok (.goto 26, 3) := by decide +kernel
theorem dX5_doOrder_88 : decode cX5_doOrder 88 = .ok (.aload_n 0, 1) := by decide +kernel
theorem dX5_doOrder_89 : decode cX5_doOrder 89 = .ok (.getfield 7, 3) := by decide +kernel
theorem dX5_doOrder_92 : decode cX5_doOrder 92 = .ok (.bipush 6, 2) := by decide +kernel
theorem dX5_doOrder_94 : decode cX5_doOrder 94 = .ok (.iaload, 1) := by decide +kernel
theorem dX5_doOrder_95 : decode cX5_doOrder 95 = .ok (.aload_n 0, 1) := by decide +kernel
theorem dX5_doOrder_96 : decode cX5_doOrder 96 = .ok (.getfield 170, 3) := by decide +kernel
theorem dX5_doOrder_99 : decode cX5_doOrder 99 = .ok (.iadd, 1) := by decide +kernel
theorem dX5_doOrder_100 : decode cX5_doOrder 100 = .ok (.sipush 9999, 3) := by decide +kernel
theorem dX5_doOrder_103 : decode cX5_doOrder 103 = .ok (.if_icmp .gt 7, 3) := by decide +kernel
theorem dX5_doOrder_106 : decode cX5_doOrder 106 = .ok (.iconst 1, 1) := by decide +kernel
theorem dX5_doOrder_107 : decode cX5_doOrder 107 = .ok (.goto 4, 3) := by decide +kernel
theorem dX5_doOrder_110 : decode cX5_doOrder 110 = .ok (.iconst 0, 1) := by decide +kernel
theorem dX5_doOrder_111 : decode cX5_doOrder 111 = .ok (.istore_n 1, 1) := by decide +kernel
theorem dX5_doOrder_112 : decode cX5_doOrder 112 = .ok (.iload_n 1, 1) := by decide +kernel
theorem dX5_doOrder_113 : decode cX5_doOrder 113 = .ok (.ifCond .eq 132, 3) := by decide +kernel
theorem dX5_doOrder_116 : decode cX5_doOrder 116 = .ok (.aload_n 0, 1) := by decide +kernel
theorem dX5_doOrder_117 : decode cX5_doOrder 117 = .ok (.getfield 182, 3) := by decide +kernel
theorem dX5_doOrder_120 : decode cX5_doOrder 120 = .ok (.lookupswitch 116 #[(43, 44), (45, 92), (61, 76), (126, 104)], 44) := by decide +kernel
theorem dX5_doOrder_164 : decode cX5_doOrder 164 = .ok (.aload_n 0, 1) := by decide +kernel
theorem dX5_doOrder_165 : decode cX5_doOrder 165 = .ok (.aload_n 0, 1) := by decide +kernel
theorem dX5_doOrder_166 : decode cX5_doOrder 166 = .ok (.getfield 29, 3) := by decide +kernel
theorem dX5_doOrder_169 : decode cX5_doOrder 169 = .ok (.iconst 0, 1) := by decide +kernel
theorem dX5_doOrder_170 : decode cX5_doOrder 170 = .ok (.iaload, 1) := by decide +kernel
theorem dX5_doOrder_171 : decode cX5_doOrder 171 = .ok (.aload_n 0, 1) := by decide +kernel
theorem dX5_doOrder_172 : decode cX5_doOrder 172 = .ok (.getfield 29, 3) := by decide +kernel
theorem dX5_doOrder_175 : decode cX5_doOrder 175 = .ok (.iconst 1, 1) := by decide +kernel
theorem dX5_doOrder_176 : decode cX5_doOrder 176 = .ok (.iaload, 1) := by decide +kernel
theorem dX5_doOrder_177 : decode cX5_doOrder 177 = .ok (.aload_n 0, 1) := by decide +kernel
theorem dX5_doOrder_178 : decode cX5_doOrder 178 = .ok (.getfield 29, 3) := by decide +kernel
theorem dX5_doOrder_181 : decode cX5_doOrder 181 = .ok (.iconst 2, 1) := by decide +kernel
theorem dX5_doOrder_182 : decode cX5_doOrder 182 = .ok (.iaload, 1) := by decide +kernel
theorem dX5_doOrder_183 : decode cX5_doOrder 183 = .ok (.aload_n 0, 1) := by decide +kernel
theorem dX5_doOrder_184 : decode cX5_doOrder 184 = .ok (.getfield 29, 3) := by decide +kernel
theorem dX5_doOrder_187 : decode cX5_doOrder 187 = .ok (.iconst 3, 1) := by decide +kernel
theorem dX5_doOrder_188 : decode cX5_doOrder 188 = .ok (.iaload, 1) := by decide +kernel
theorem dX5_doOrder_189 : decode cX5_doOrder 189 = .ok (.invokevirtual 104, 3) := by decide +kernel
theorem dX5_doOrder_192 : decode cX5_doOrder 192 = .ok (.pop, 1) := by decide +kernel
theorem dX5_doOrder_193 : decode cX5_doOrder 193 = .ok (.goto 52, 3) := by decide +kernel
theorem dX5_doOrder_196 : decode cX5_doOrder 196 = .ok (.aload_n 0, 1) := by decide +kernel
theorem dX5_doOrder_197 : decode cX5_doOrder 197 = .ok (.aload_n 0, 1) := by decide +kernel
theorem dX5_doOrder_198 : decode cX5_doOrder 198 = .ok (.getfield 179, 3) := by decide +kernel
theorem dX5_doOrder_201 : decode cX5_doOrder 201 = .ok (.aload_n 0, 1) := by decide +kernel
theorem dX5_doOrder_202 : decode cX5_doOrder 202 = .ok (.getfield 185, 3) := by decide +kernel
theorem dX5_doOrder_205 : decode cX5_doOrder 205 = .ok (.invokevirtual 122, 3) := by decide +kernel
theorem dX5_doOrder_208 : decode cX5_doOrder 208 = .ok (.pop, 1) := by decide +kernel
theorem dX5_doOrder_209 : decode cX5_doOrder 209 = .ok (.goto 36, 3) := by decide +kernel
theorem dX5_doOrder_212 : decode cX5_doOrder 212 = .ok (.aload_n 0, 1) := by decide +kernel
theorem dX5_doOrder_213 : decode cX5_doOrder 213 = .ok (.aload_n 0, 1) := by decide +kernel
theorem dX5_doOrder_214 : decode cX5_doOrder 214 = .ok (.getfield 179, 3) := by decide +kernel
theorem dX5_doOrder_217 : decode cX5_doOrder 217 = .ok (.invokevirtual 125, 3) := by decide +kernel
theorem dX5_doOrder_220 : decode cX5_doOrder 220 = .ok (.pop, 1) := by decide +kernel
theorem dX5_doOrder_221 : decode cX5_doOrder 221 = .ok (.goto 24, 3) := by decide +kernel
theorem dX5_doOrder_224 : decode cX5_doOrder 224 = .ok (.aload_n 0, 1) := by decide +kernel
theorem dX5_doOrder_225 : decode cX5_doOrder 225 = .ok (.aload_n 0, 1) := by decide +kernel
theorem dX5_doOrder_226 : decode cX5_doOrder 226 = .ok (.getfield 179, 3) := by decide +kernel
theorem dX5_doOrder_229 : decode cX5_doOrder 229 = .ok (.invokevirtual 131, 3) := by decide +kernel
theorem dX5_doOrder_232 : decode cX5_doOrder 232 = .ok (.pop, 1) := by decide +kernel
theorem dX5_doOrder_233 : decode cX5_doOrder 233 = .ok (.goto 12, 3) := by decide +kernel
theorem dX5_doOrder_236 : decode cX5_doOrder 236 = .ok (.aload_n 0, 1) := by decide +kernel
theorem dX5_doOrder_237 : decode cX5_doOrder 237 = .ok (.aload_n 0, 1) := by decide +kernel
theorem dX5_doOrder_238 : decode cX5_doOrder 238 = .ok (.getfield 170, 3) := by decide +kernel
theorem dX5_doOrder_241 : decode cX5_doOrder 241 = .ok (.invokevirtual 140, 3) := by decide +kernel
theorem dX5_doOrder_244 : decode cX5_doOrder 244 = .ok (.pop, 1) := by decide +kernel
theorem dX5_doOrder_245 : decode cX5_doOrder 245 = .ok (.iload_n 1, 1) := by decide +kernel
theorem dX5_doOrder_246 : decode cX5_doOrder 246 = .ok (.ireturn, 1) := by decide +kernel
theorem dX5_run_0 : decode cX5_run 0 = .ok (.aload_n 0, 1) := by decide +kernel
theorem dX5_run_1 : decode cX5_run 1 = .ok (.invokevirtual 197, 3) := by decide +kernel
theorem dX5_run_4 : decode cX5_run 4 = .ok (.ldc 36, 2) := by decide +kernel
theorem dX5_run_6 : decode cX5_run 6 = .ok (.if_icmp .eq 6, 3) := by decide +kernel
theorem dX5_run_9 : decode cX5_run 9 = .ok (.ldc 200, 2) := by decide +kernel
theorem dX5_run_11 : decode cX5_run 11 = .ok (.ireturn, 1) := by decide +kernel
theorem dX5_run_12 : decode cX5_run 12 = .ok (.aload_n 0, 1) := by decide +kernel
theorem dX5_run_13 : decode cX5_run 13 = .ok (.invokevirtual 100, 3) := by decide +kernel
theorem dX5_run_16 : decode cX5_run 16 = .ok (.iconst 0, 1) := by decide +kernel
theorem dX5_run_17 : decode cX5_run 17 = .ok (.istore_n 1, 1) := by decide +kernel
theorem dX5_run_18 : decode cX5_run 18 = .ok (.aload_n 0, 1) := by decide +kernel
theorem dX5_run_19 : decode cX5_run 19 = .ok (.iconst 0, 1) := by decide +kernel
theorem dX5_run_20 : decode cX5_run 20 = .ok (.putfield 160, 3) := by decide +kernel
theorem dX5_run_23 : decode cX5_run 23 = .ok (.aload_n 0, 1) := by decide +kernel
theorem dX5_run_24 : decode cX5_run 24 = .ok (.getfield 160, 3) := by decide +kernel
theorem dX5_run_27 : decode cX5_run 27 = .ok (.aload_n 0, 1) := by decide +kernel
theorem dX5_run_28 : decode cX5_run 28 = .ok (.getfield 143, 3) := by decide +kernel
theorem dX5_run_31 : decode cX5_run 31 = .ok (.if_icmp .ge 35, 3) := by decide +kernel
theorem dX5_run_34 : decode cX5_run 34 = .ok (.aload_n 0, 1) := by decide +kernel
theorem dX5_run_35 : decode cX5_run 35 = .ok (.invokevirtual 194, 3) := by decide +kernel
theorem dX5_run_38 : decode cX5_run 38 = .ok (.aload_n 0, 1) := by decide +kernel
theorem dX5_run_39 : decode cX5_run 39 = .ok (.dup, 1) := by decide +kernel
theorem dX5_run_40 : decode cX5_run 40 = .ok (.getfield 160, 3) := by decide +kernel
theorem dX5_run_43 : decode cX5_run 43 = .ok (.iconst 1, 1) := by decide +kernel
theorem dX5_run_44 : decode cX5_run 44 = .ok (.iadd, 1) := by decide +kernel
theorem dX5_run_45 : decode cX5_run 45 = .ok (.putfield 160, 3) := by decide +kernel
theorem dX5_run_48 : decode cX5_run 48 = .ok (.iload_n 1, 1) := by decide +kernel
theorem dX5_run_49 : decode cX5_run 49 = .ok (.aload_n 0, 1) := by decide +kernel
theorem dX5_run_50 : decode cX5_run 50 = .ok (.invokevirtual 201, 3) := by decide +kernel
theorem dX5_run_53 : decode cX5_run 53 = .ok (.ifCond .eq 7, 3) := by decide +kernel
theorem dX5_run_56 : decode cX5_run 56 = .ok (.iconst 1, 1) := by decide +kernel
theorem dX5_run_57 : decode cX5_run 57 = .ok (.goto 4, 3) := by decide +kernel
theorem dX5_run_60 : decode cX5_run 60 = .ok (.iconst 0, 1) := by decide +kernel
theorem dX5_run_61 : decode cX5_run 61 = .ok (.iadd, 1) := by decide +kernel
theorem dX5_run_62 : decode cX5_run 62 = .ok (.istore_n 1, 1) := by decide +kernel
theorem dX5_run_63 : decode cX5_run 63 = .ok (.goto (-40), 3) := by decide +kernel
theorem dX5_run_66 : decode cX5_run 66 = .ok (.aload_n 0, 1) := by decide +kernel
theorem dX5_run_67 : decode cX5_run 67 = .ok (.iconst 0, 1) := by decide +kernel
theorem dX5_run_68 : decode cX5_run 68 = .ok (.putfield 143, 3) := by decide +kernel
theorem dX5_run_71 : decode cX5_run 71 = .ok (.iload_n 1, 1) := by decide +kernel
theorem dX5_run_72 : decode cX5_run 72 = .ok (.ireturn, 1) := by decide +kernel
theorem dX5_undo_0 : decode cX5_undo 0 = .ok (.aload_n 0, 1) := by decide +kernel
theorem dX5_undo_1 : decode cX5_undo 1 = .ok (.getfield 37, 3) := by decide +kernel
theorem dX5_undo_4 : decode cX5_undo 4 = .ok (.ifCond .ne 6, 3) := by decide +kernel
theorem dX5_undo_7 : decode cX5_undo 7 = .ok (.ldc 108, 2) := by decide +kernel
theorem dX5_undo_9 : decode cX5_undo 9 = .ok (.ireturn, 1) := by decide +kernel
theorem dX5_undo_10 : decode cX5_undo 10 = .ok (.aload_n 0, 1) := by decide +kernel
theorem dX5_undo_11 : decode cX5_undo 11 = .ok (.dup, 1) := by decide +kernel
theorem dX5_undo_12 : decode cX5_undo 12 = .ok (.getfield 37, 3) := by decide +kernel
theorem dX5_undo_15 : decode cX5_undo 15 = .ok (.iconst 1, 1) := by decide +kernel
theorem dX5_undo_16 : decode cX5_undo 16 = .ok (.isub, 1) := by decide +kernel
theorem dX5_undo_17 : decode cX5_undo 17 = .ok (.putfield 37, 3) := by decide +kernel
theorem dX5_undo_20 : decode cX5_undo 20 = .ok (.iconst 0, 1) := by decide +kernel
theorem dX5_undo_21 : decode cX5_undo 21 = .ok (.istore_n 1, 1) := by decide +kernel
theorem dX5_undo_22 : decode cX5_undo 22 = .ok (.iload_n 1, 1) := by decide +kernel
theorem dX5_undo_23 : decode cX5_undo 23 = .ok (.bipush 80, 2) := by decide +kernel
theorem dX5_undo_25 : decode cX5_undo 25 = .ok (.if_icmp .ge 29, 3) := by decide +kernel
theorem dX5_undo_28 : decode cX5_undo 28 = .ok (.aload_n 0, 1) := by decide +kernel
theorem dX5_undo_29 : decode cX5_undo 29 = .ok (.getfield 7, 3) := by decide +kernel
theorem dX5_undo_32 : decode cX5_undo 32 = .ok (.iload_n 1, 1) := by decide +kernel
theorem dX5_undo_33 : decode cX5_undo 33 = .ok (.aload_n 0, 1) := by decide +kernel
theorem dX5_undo_34 : decode cX5_undo 34 = .ok (.getfield 16, 3) := by decide +kernel
theorem dX5_undo_37 : decode cX5_undo 37 = .ok (.bipush 80, 2) := by decide +kernel
theorem dX5_undo_39 : decode cX5_undo 39 = .ok (.aload_n 0, 1) := by decide +kernel
theorem dX5_undo_40 : decode cX5_undo 40 = .ok (.getfield 37, 3) := by decide +kernel
theorem dX5_undo_43 : decode cX5_undo 43 = .ok (.imul, 1) := by decide +kernel
theorem dX5_undo_44 : decode cX5_undo 44 = .ok (.iload_n 1, 1) := by decide +kernel
theorem dX5_undo_45 : decode cX5_undo 45 = .ok (.iadd, 1) := by decide +kernel
theorem dX5_undo_46 : decode cX5_undo 46 = .ok (.iaload, 1) := by decide +kernel
theorem dX5_undo_47 : decode cX5_undo 47 = .ok (.iastore, 1) := by decide +kernel
theorem dX5_undo_48 : decode cX5_undo 48 = .ok (.iinc 1 1, 3) := by decide +kernel
theorem dX5_undo_51 : decode cX5_undo 51 = .ok (.goto (-29), 3) := by decide +kernel
theorem dX5_undo_54 : decode cX5_undo 54 = .ok (.aload_n 0, 1) := by decide +kernel
theorem dX5_undo_55 : decode cX5_undo 55 = .ok (.getfield 37, 3) := by decide +kernel
theorem dX5_undo_58 : decode cX5_undo 58 = .ok (.ireturn, 1) := by decide +kernel
theorem dX5_save_0 : decode cX5_save 0 = .ok (.iload_n 1, 1) := by decide +kernel
theorem dX5_save_1 : decode cX5_save 1 = .ok (.iconst 0, 1) := by decide +kernel
theorem dX5_save_2 : decode cX5_save 2 = .ok (.iconst 1, 1) := by decide +kernel
theorem dX5_save_3 : decode cX5_save 3 = .ok (.invokestatic 59, 3) := by decide +kernel
theorem dX5_save_6 : decode cX5_save 6 = .ok (.ifCond .ne 6, 3) := by decide +kernel
theorem dX5_save_9 : decode cX5_save 9 = .ok (.ldc 99, 2) := by decide +kernel
theorem dX5_save_11 : decode cX5_save 11 = .ok (.ireturn, 1) := by decide +kernel
theorem dX5_save_12 : decode cX5_save 12 = .ok (.iconst 0, 1) := by decide +kernel
theorem dX5_save_13 : decode cX5_save 13 = .ok (.istore_n 2, 1) := by decide +kernel
theorem dX5_save_14 : decode cX5_save 14 = .ok (.iload_n 2, 1) := by decide +kernel
theorem dX5_save_15 : decode cX5_save 15 = .ok (.bipush 80, 2) := by decide +kernel
theorem dX5_save_17 : decode cX5_save 17 = .ok (.if_icmp .ge 26, 3) := by decide +kernel
theorem dX5_save_20 : decode cX5_save 20 = .ok (.aload_n 0, 1) := by decide +kernel
theorem dX5_save_21 : decode cX5_save 21 = .ok (.getfield 19, 3) := by decide +kernel
theorem dX5_save_24 : decode cX5_save 24 = .ok (.bipush 80, 2) := by decide +kernel
theorem dX5_save_26 : decode cX5_save 26 = .ok (.iload_n 1, 1) := by decide +kernel
theorem dX5_save_27 : decode cX5_save 27 = .ok (.imul, 1) := by decide +kernel
theorem dX5_save_28 : decode cX5_save 28 = .ok (.iload_n 2, 1) := by decide +kernel
theorem dX5_save_29 : decode cX5_save 29 = .ok (.iadd, 1) := by decide +kernel
theorem dX5_save_30 : decode cX5_save 30 = .ok (.aload_n 0, 1) := by decide +kernel
theorem dX5_save_31 : decode cX5_save 31 = .ok (.getfield 7, 3) := by decide +kernel
theorem dX5_save_34 : decode cX5_save 34 = .ok (.iload_n 2, 1) := by decide +kernel
theorem dX5_save_35 : decode cX5_save 35 = .ok (.iaload, 1) := by decide +kernel
theorem dX5_save_36 : decode cX5_save 36 = .ok (.iastore, 1) := by decide +kernel
theorem dX5_save_37 : decode cX5_save 37 = .ok (.iinc 2 1, 3) := by decide +kernel
theorem dX5_save_40 : decode cX5_save 40 = .ok (.goto (-26), 3) := by decide +kernel
theorem dX5_save_43 : decode cX5_save 43 = .ok (.aload_n 0, 1) := by decide +kernel
theorem dX5_save_44 : decode cX5_save 44 = .ok (.getfield 22, 3) := by decide +kernel
theorem dX5_save_47 : decode cX5_save 47 = .ok (.iload_n 1, 1) := by decide +kernel
theorem dX5_save_48 : decode cX5_save 48 = .ok (.iconst 1, 1) := by decide +kernel
theorem dX5_save_49 : decode cX5_save 49 = .ok (.bastore, 1) := by decide +kernel
theorem dX5_save_50 : decode cX5_save 50 = .ok (.aload_n 0, 1) := by decide +kernel
theorem dX5_save_51 : decode cX5_save 51 = .ok (.getfield 7, 3) := by decide +kernel
theorem dX5_save_54 : decode cX5_save 54 = .ok (.bipush 6, 2) := by decide +kernel
theorem dX5_save_56 : decode cX5_save 56 = .ok (.iaload, 1) := by decide +kernel
theorem dX5_save_57 : decode cX5_save 57 = .ok (.ireturn, 1) := by decide +kernel
theorem dX5_restore_0 : decode cX5_restore 0 = .ok (.iload_n 1, 1) := by decide +kernel
theorem dX5_restore_1 : decode cX5_restore 1 = .ok (.iconst 0, 1) := by decide +kernel
theorem dX5_restore_2 : decode cX5_restore 2 = .ok (.iconst 1, 1) := by decide +kernel
theorem dX5_restore_3 : decode cX5_restore 3 = .ok (.invokestatic 59, 3) := by decide +kernel
theorem dX5_restore_6 : decode cX5_restore 6 = .ok (.ifCond .ne 6, 3) := by decide +kernel
theorem dX5_restore_9 : decode cX5_restore 9 = .ok (.ldc 99, 2) := by decide +kernel
theorem dX5_restore_11 : decode cX5_restore 11 = .ok (.ireturn, 1) := by decide +kernel
theorem dX5_restore_12 : decode cX5_restore 12 = .ok (.aload_n 0, 1) := by decide +kernel
theorem dX5_restore_13 : decode cX5_restore 13 = .ok (.getfield 22, 3) := by decide +kernel
theorem dX5_restore_16 : decode cX5_restore 16 = .ok (.iload_n 1, 1) := by decide +kernel
theorem dX5_restore_17 : decode cX5_restore 17 = .ok (.baload, 1) := by decide +kernel
theorem dX5_restore_18 : decode cX5_restore 18 = .ok (.ifCond .ne 6, 3) := by decide +kernel
theorem dX5_restore_21 : decode cX5_restore 21 = .ok (.ldc 108, 2) := by decide +kernel
theorem dX5_restore_23 : decode cX5_restore 23 = .ok (.ireturn, 1) := by decide +kernel
theorem dX5_restore_24 : decode cX5_restore 24 = .ok (.aload_n 0, 1) := by decide +kernel
theorem dX5_restore_25 : decode cX5_restore 25 = .ok (.invokevirtual 100, 3) := by decide +kernel
theorem dX5_restore_28 : decode cX5_restore 28 = .ok (.iconst 0, 1) := by decide +kernel
theorem dX5_restore_29 : decode cX5_restore 29 = .ok (.istore_n 2, 1) := by decide +kernel
theorem dX5_restore_30 : decode cX5_restore 30 = .ok (.iload_n 2, 1) := by decide +kernel
theorem dX5_restore_31 : decode cX5_restore 31 = .ok (.bipush 80, 2) := by decide +kernel
theorem dX5_restore_33 : decode cX5_restore 33 = .ok (.if_icmp .ge 26, 3) := by decide +kernel
theorem dX5_restore_36 : decode cX5_restore 36 = .ok (.aload_n 0, 1) := by decide +kernel
theorem dX5_restore_37 : decode cX5_restore 37 = .ok (.getfield 7, 3) := by decide +kernel
theorem dX5_restore_40 : decode cX5_restore 40 = .ok (.iload_n 2, 1) := by decide +kernel
theorem dX5_restore_41 : decode cX5_restore 41 = .ok (.aload_n 0, 1) := by decide +kernel
theorem dX5_restore_42 : decode cX5_restore 42 = .ok (.getfield 19, 3) := by decide +kernel
theorem dX5_restore_45 : decode cX5_restore 45 = .ok (.bipush 80, 2) := by decide +kernel
theorem dX5_restore_47 : decode cX5_restore 47 = .ok (.iload_n 1, 1) := by decide +kernel
theorem dX5_restore_48 : decode cX5_restore 48 = .ok (.imul, 1) := by decide +kernel
theorem dX5_restore_49 : decode cX5_restore 49 = .ok (.iload_n 2, 1) := by decide +kernel
theorem dX5_restore_50 : decode cX5_restore 50 = .ok (.iadd, 1) := by decide +kernel
theorem dX5_restore_51 : decode cX5_restore 51 = .ok (.iaload, 1) := by decide +kernel
theorem dX5_restore_52 : decode cX5_restore 52 = .ok (.iastore, 1) := by decide +kernel
theorem dX5_restore_53 : decode cX5_restore 53 = .ok (.iinc 2 1, 3) := by decide +kernel
theorem dX5_restore_56 : decode cX5_restore 56 = .ok (.goto (-26), 3) := by decide +kernel
theorem dX5_restore_59 : decode cX5_restore 59 = .ok (.aload_n 0, 1) := by decide +kernel
theorem dX5_restore_60 : decode cX5_restore 60 = .ok (.getfield 7, 3) := by decide +kernel
theorem dX5_restore_63 : decode cX5_restore 63 = .ok (.bipush 6, 2) := by decide +kernel
theorem dX5_restore_65 : decode cX5_restore 65 = .ok (.iaload, 1) := by decide +kernel
theorem dX5_restore_66 : decode cX5_restore 66 = .ok (.ireturn, 1) := by decide +kernel
end
section
theorem dL_law_0 : decode cL_law 0 = .ok (.new 7, 3) := by decide +kernel
theorem dL_law_3 : decode cL_law 3 = .ok (.dup, 1) := by decide +kernel
theorem dL_law_4 : decode cL_law 4 = .ok (.invokespecial 9, 3) := by decide +kernel
theorem dL_law_7 : decode cL_law 7 = .ok (.astore_n 1, 1) := by decide +kernel
theorem dL_law_8 : decode cL_law 8 = .ok (.new 10, 3) := by decide +kernel
theorem dL_law_11 : decode cL_law 11 = .ok (.dup, 1) := by decide +kernel
theorem dL_law_12 : decode cL_law 12 = .ok (.invokespecial 12, 3) := by decide +kernel
theorem dL_law_15 : decode cL_law 15 = .ok (.astore_n 2, 1) := by decide +kernel
theorem dL_law_16 : decode cL_law 16 = .ok (.iconst 0, 1) := by decide +kernel
theorem dL_law_17 : decode cL_law 17 = .ok (.istore_n 3, 1) := by decide +kernel
theorem dL_law_18 : decode cL_law 18 = .ok (.iload_n 3, 1) := by decide +kernel
theorem dL_law_19 : decode cL_law 19 = .ok (.aload_n 0, 1) := by decide +kernel
theorem dL_law_20 : decode cL_law 20 = .ok (.arraylength, 1) := by decide +kernel
theorem dL_law_21 : decode cL_law 21 = .ok (.iconst 5, 1) := by decide +kernel
theorem dL_law_22 : decode cL_law 22 = .ok (.isub, 1) := by decide +kernel
theorem dL_law_23 : decode cL_law 23 = .ok (.if_icmp .gt 890, 3) := by decide +kernel
theorem dL_law_26 : decode cL_law 26 = .ok (.aload_n 0, 1) := by decide +kernel
theorem dL_law_27 : decode cL_law 27 = .ok (.iload_n 3, 1) := by decide +kernel
theorem dL_law_28 : decode cL_law 28 = .ok (.iaload, 1) := by decide +kernel
theorem dL_law_29 : decode cL_law 29 = .ok (.bipush 31, 2) := by decide +kernel
theorem dL_law_31 : decode cL_law 31 = .ok (.iand, 1) := by decide +kernel
theorem dL_law_32 : decode cL_law 32 = .ok (.tableswitch 875 0 28 #[132, 165, 218, 231, 244, 277, 310, 333, 356, 379, 418, 451, 474, 487, 520, 553, 586, 609, 632, 645, 668, 681, 714, 737, 790, 803, 816, 829, 852], 132) := by decide +kernel
theorem dL_law_164 : decode cL_law 164 = .ok (.aload_n 1, 1) := by decide +kernel
theorem dL_law_165 : decode cL_law 165 = .ok (.aload_n 0, 1) := by decide +kernel
theorem dL_law_166 : decode cL_law 166 = .ok (.iload_n 3, 1) := by decide +kernel
theorem dL_law_167 : decode cL_law 167 = .ok (.iconst 1, 1) := by decide +kernel
theorem dL_law_168 : decode cL_law 168 = .ok (.iadd, 1) := by decide +kernel
theorem dL_law_169 : decode cL_law 169 = .ok (.iaload, 1) := by decide +kernel
theorem dL_law_170 : decode cL_law 170 = .ok (.aload_n 0, 1) := by decide +kernel
theorem dL_law_171 : decode cL_law 171 = .ok (.iload_n 3, 1) := by decide +kernel
theorem dL_law_172 : decode cL_law 172 = .ok (.iconst 2, 1) := by decide +kernel
theorem dL_law_173 : decode cL_law 173 = .ok (.iadd, 1) := by decide +kernel
theorem dL_law_174 : decode cL_law 174 = .ok (.iaload, 1) := by decide +kernel
theorem dL_law_175 : decode cL_law 175 = .ok (.invokevirtual 13, 3) := by decide +kernel
theorem dL_law_178 : decode cL_law 178 = .ok (.aload_n 2, 1) := by decide +kernel
theorem dL_law_179 : decode cL_law 179 = .ok (.aload_n 0, 1) := by decide +kernel
theorem dL_law_180 : decode cL_law 180 = .ok (.iload_n 3, 1) := by decide +kernel
theorem dL_law_181 : decode cL_law 181 = .ok (.iconst 1, 1) := by decide +kernel
theorem dL_law_182 : decode cL_law 182 = .ok (.iadd, 1) := by decide +kernel
theorem dL_law_183 : decode cL_law 183 = .ok (.iaload, 1) := by decide +kernel
theorem dL_law_184 : decode cL_law 184 = .ok (.aload_n 0, 1) := by decide +kernel
theorem dL_law_185 : decode cL_law 185 = .ok (.iload_n 3, 1) := by decide +kernel
theorem dL_law_186 : decode cL_law 186 = .ok (.iconst 2, 1) := by decide +kernel
theorem dL_law_187 : decode cL_law 187 = .ok (.iadd, 1) := by decide +kernel
theorem dL_law_188 : decode cL_law 188 = .ok (.iaload, 1) := by decide +kernel
theorem dL_law_189 : decode cL_law 189 = .ok (.invokevirtual 17, 3) := by decide +kernel
theorem dL_law_192 : decode cL_law 192 = .ok (.if_icmp .eq 715, 3) := by decide +kernel
theorem dL_law_195 : decode cL_law 195 = .ok (.iconst 0, 1) := by decide +kernel
theorem dL_law_196 : decode cL_law 196 = .ok (.ireturn, 1) := by decide +kernel
theorem dL_law_197 : decode cL_law 197 = .ok (.aload_n 1, 1) := by decide +kernel
theorem dL_law_198 : decode cL_law 198 = .ok (.aload_n 0, 1) := by decide +kernel
theorem dL_law_199 : decode cL_law 199 = .ok (.iload_n 3, 1) := by decide +kernel
theorem dL_law_200 : decode cL_law 200 = .ok (.iconst 1, 1) := by decide +kernel
theorem dL_law_201 : decode cL_law 201 = .ok (.iadd, 1) := by decide +kernel
theorem dL_law_202 : decode cL_law 202 = .ok (.iaload, 1) := by decide +kernel
theorem dL_law_203 : decode cL_law 203 = .ok (.aload_n 0, 1) := by decide +kernel
theorem dL_law_204 : decode cL_law 204 = .ok (.iload_n 3, 1) := by decide +kernel
theorem dL_law_205 : decode cL_law 205 = .ok (.iconst 2, 1) := by decide +kernel
theorem dL_law_206 : decode cL_law 206 = .ok (.iadd, 1) := by decide +kernel
theorem dL_law_207 : decode cL_law 207 = .ok (.iaload, 1) := by decide +kernel
theorem dL_law_208 : decode cL_law 208 = .ok (.aload_n 0, 1) := by decide +kernel
theorem dL_law_209 : decode cL_law 209 = .ok (.iload_n 3, 1) := by decide +kernel
theorem dL_law_210 : decode cL_law 210 = .ok (.iconst 3, 1) := by decide +kernel
theorem dL_law_211 : decode cL_law 211 = .ok (.iadd, 1) := by decide +kernel
theorem dL_law_212 : decode cL_law 212 = .ok (.iaload, 1) := by decide +kernel
theorem dL_law_213 : decode cL_law 213 = .ok (.aload_n 0, 1) := by decide +kernel
theorem dL_law_214 : decode cL_law 214 = .ok (.iload_n 3, 1) := by decide +kernel
theorem dL_law_215 : decode cL_law 215 = .ok (.iconst 4, 1) := by decide +kernel
theorem dL_law_216 : decode cL_law 216 = .ok (.iadd, 1) := by decide +kernel
theorem dL_law_217 : decode cL_law 217 = .ok (.iaload, 1) := by decide +kernel
theorem dL_law_218 : decode cL_law 218 = .ok (.invokevirtual 18, 3) := by decide +kernel
theorem dL_law_221 : decode cL_law 221 = .ok (.aload_n 2, 1) := by decide +kernel
theorem dL_law_222 : decode cL_law 222 = .ok (.aload_n 0, 1) := by decide +kernel
theorem dL_law_223 : decode cL_law 223 = .ok (.iload_n 3, 1) := by decide +kernel
theorem dL_law_224 : decode cL_law 224 = .ok (.iconst 1, 1) := by decide +kernel
theorem dL_law_225 : decode cL_law 225 = .ok (.iadd, 1) := by decide +kernel
theorem dL_law_226 : decode cL_law 226 = .ok (.iaload, 1) := by decide +kernel
theorem dL_law_227 : decode cL_law 227 = .ok (.aload_n 0, 1) := by decide +kernel
theorem dL_law_228 : decode cL_law 228 = .ok (.iload_n 3, 1) := by decide +kernel
theorem dL_law_229 : decode cL_law 229 = .ok (.iconst 2, 1) := by decide +kernel
theorem dL_law_230 : decode cL_law 230 = .ok (.iadd, 1) := by decide +kernel
theorem dL_law_231 : decode cL_law 231 = .ok (.iaload, 1) := by decide +kernel
theorem dL_law_232 : decode cL_law 232 = .ok (.aload_n 0, 1) := by decide +kernel
theorem dL_law_233 : decode cL_law 233 = .ok (.iload_n 3, 1) := by decide +kernel
theorem dL_law_234 : decode cL_law 234 = .ok (.iconst 3, 1) := by decide +kernel
theorem dL_law_235 : decode cL_law 235 = .ok (.iadd, 1) := by decide +kernel
theorem dL_law_236 : decode cL_law 236 = .ok (.iaload, 1) := by decide +kernel
theorem dL_law_237 : decode cL_law 237 = .ok (.aload_n 0, 1) := by decide +kernel
theorem dL_law_238 : decode cL_law 238 = .ok (.iload_n 3, 1) := by decide +kernel
theorem dL_law_239 : decode cL_law 239 = .ok (.iconst 4, 1) := by decide +kernel
theorem dL_law_240 : decode cL_law 240 = .ok (.iadd, 1) := by decide +kernel
theorem dL_law_241 : decode cL_law 241 = .ok (.iaload, 1) := by decide +kernel
theorem dL_law_242 : decode cL_law 242 = .ok (.invokevirtual 22, 3) := by decide +kernel
theorem dL_law_245 : decode cL_law 245 = .ok (.if_icmp .eq 662, 3) := by decide +kernel
theorem dL_law_248 : decode cL_law 248 = .ok (.iconst 0, 1) := by decide +kernel
theorem dL_law_249 : decode cL_law 249 = .ok (.ireturn, 1) := by decide +kernel
theorem dL_law_250 : decode cL_law 250 = .ok (.aload_n 1, 1) := by decide +kernel
theorem dL_law_251 : decode cL_law 251 = .ok (.invokevirtual 23, 3) := by decide +kernel
theorem dL_law_254 : decode cL_law 254 = .ok (.aload_n 2, 1) := by decide +kernel
theorem dL_law_255 : decode cL_law 255 = .ok (.invokevirtual 27, 3) := by decide +kernel
theorem dL_law_258 : decode cL_law 258 = .ok (.if_icmp .eq 649, 3) := by decide +kernel
theorem dL_law_261 : decode cL_law 261 = .ok (.iconst 0, 1) := by decide +kernel
theorem dL_law_262 : decode cL_law 262 = .ok (.ireturn, 1) := by decide +kernel
theorem dL_law_263 : decode cL_law 263 = .ok (.aload_n 1, 1) := by decide +kernel
theorem dL_law_264 : decode cL_law 264 = .ok (.invokevirtual 28, 3) := by decide +kernel
theorem dL_law_267 : decode cL_law 267 = .ok (.aload_n 2, 1) := by decide +kernel
theorem dL_law_268 : decode cL_law 268 = .ok (.invokevirtual 31, 3) := by decide +kernel
theorem dL_law_271 : decode cL_law 271 = .ok (.if_icmp .eq 636, 3) := by decide +kernel
theorem dL_law_274 : decode cL_law 274 = .ok (.iconst 0, 1) := by decide +kernel
theorem dL_law_275 : decode cL_law 275 = .ok (.ireturn, 1) := by decide +kernel
theorem dL_law_276 : decode cL_law 276 = .ok (.aload_n 1, 1) := by decide +kernel
theorem dL_law_277 : decode cL_law 277 = .ok (.aload_n 0, 1) := by decide +kernel
theorem dL_law_278 : decode cL_law 278 = .ok (.iload_n 3, 1) := by decide +kernel
theorem dL_law_279 : decode cL_law 279 = .ok (.iconst 1, 1) := by decide +kernel
theorem dL_law_280 : decode cL_law 280 = .ok (.iadd, 1) := by decide +kernel
theorem dL_law_281 : decode cL_law 281 = .ok (.iaload, 1) := by decide +kernel
theorem dL_law_282 : decode cL_law 282 = .ok (.aload_n 0, 1) := by decide +kernel
theorem dL_law_283 : decode cL_law 283 = .ok (.iload_n 3, 1) := by decide +kernel
theorem dL_law_284 : decode cL_law 284 = .ok (.iconst 2, 1) := by decide +kernel
theorem dL_law_285 : decode cL_law 285 = .ok (.iadd, 1) := by decide +kernel
theorem dL_law_286 : decode cL_law 286 = .ok (.iaload, 1) := by decide +kernel
theorem dL_law_287 : decode cL_law 287 = .ok (.invokevirtual 32, 3) := by decide +kernel
theorem dL_law_290 : decode cL_law 290 = .ok (.aload_n 2, 1) := by decide +kernel
theorem dL_law_291 : decode cL_law 291 = .ok (.aload_n 0, 1) := by decide +kernel
theorem dL_law_292 : decode cL_law 292 = .ok (.iload_n 3, 1) := by decide +kernel
theorem dL_law_293 : decode cL_law 293 = .ok (.iconst 1, 1) := by decide +kernel
theorem dL_law_294 : decode cL_law 294 = .ok (.iadd, 1) := by decide +kernel
theorem dL_law_295 : decode cL_law 295 = .ok (.iaload, 1) := by decide +kernel
theorem dL_law_296 : decode cL_law 296 = .ok (.aload_n 0, 1) := by decide +kernel
theorem dL_law_297 : decode cL_law 297 = .ok (.iload_n 3, 1) := by decide +kernel
theorem dL_law_298 : decode cL_law 298 = .ok (.iconst 2, 1) := by decide +kernel
theorem dL_law_299 : decode cL_law 299 = .ok (.iadd, 1) := by decide +kernel
theorem dL_law_300 : decode cL_law 300 = .ok (.iaload, 1) := by decide +kernel
theorem dL_law_301 : decode cL_law 301 = .ok (.invokevirtual 35, 3) := by decide +kernel
theorem dL_law_304 : decode cL_law 304 = .ok (.if_icmp .eq 603, 3) := by decide +kernel
theorem dL_law_307 : decode cL_law 307 = .ok (.iconst 0, 1) := by decide +kernel
theorem dL_law_308 : decode cL_law 308 = .ok (.ireturn, 1) := by decide +kernel
theorem dL_law_309 : decode cL_law 309 = .ok (.aload_n 1, 1) := by decide +kernel
theorem dL_law_310 : decode cL_law 310 = .ok (.aload_n 0, 1) := by decide +kernel
theorem dL_law_311 : decode cL_law 311 = .ok (.iload_n 3, 1) := by decide +kernel
theorem dL_law_312 : decode cL_law 312 = .ok (.iconst 1, 1) := by decide +kernel
theorem dL_law_313 : decode cL_law 313 = .ok (.iadd, 1) := by decide +kernel
theorem dL_law_314 : decode cL_law 314 = .ok (.iaload, 1) := by decide +kernel
theorem dL_law_315 : decode cL_law 315 = .ok (.aload_n 0, 1) := by decide +kernel
theorem dL_law_316 : decode cL_law 316 = .ok (.iload_n 3, 1) := by decide +kernel
theorem dL_law_317 : decode cL_law 317 = .ok (.iconst 2, 1) := by decide +kernel
theorem dL_law_318 : decode cL_law 318 = .ok (.iadd, 1) := by decide +kernel
theorem dL_law_319 : decode cL_law 319 = .ok (.iaload, 1) := by decide +kernel
theorem dL_law_320 : decode cL_law 320 = .ok (.invokevirtual 36, 3) := by decide +kernel
theorem dL_law_323 : decode cL_law 323 = .ok (.aload_n 2, 1) := by decide +kernel
theorem dL_law_324 : decode cL_law 324 = .ok (.aload_n 0, 1) := by decide +kernel
theorem dL_law_325 : decode cL_law 325 = .ok (.iload_n 3, 1) := by decide +kernel
theorem dL_law_326 : decode cL_law 326 = .ok (.iconst 1, 1) := by decide +kernel
theorem dL_law_327 : decode cL_law 327 = .ok (.iadd, 1) := by decide +kernel
theorem dL_law_328 : decode cL_law 328 = .ok (.iaload, 1) := by decide +kernel
theorem dL_law_329 : decode cL_law 329 = .ok (.aload_n 0, 1) := by decide +kernel
theorem dL_law_330 : decode cL_law 330 = .ok (.iload_n 3, 1) := by decide +kernel
theorem dL_law_331 : decode cL_law 331 = .ok (.iconst 2, 1) := by decide +kernel
theorem dL_law_332 : decode cL_law 332 = .ok (.iadd, 1) := by decide +kernel
theorem dL_law_333 : decode cL_law 333 = .ok (.iaload, 1) := by decide +kernel
theorem dL_law_334 : decode cL_law 334 = .ok (.invokevirtual 39, 3) := by decide +kernel
theorem dL_law_337 : decode cL_law 337 = .ok (.if_icmp .eq 570, 3) := by decide +kernel
theorem dL_law_340 : decode cL_law 340 = .ok (.iconst 0, 1) := by decide +kernel
theorem dL_law_341 : decode cL_law 341 = .ok (.ireturn, 1) := by decide +kernel
theorem dL_law_342 : decode cL_law 342 = .ok (.aload_n 1, 1) := by decide +kernel
theorem dL_law_343 : decode cL_law 343 = .ok (.aload_n 0, 1) := by decide +kernel
theorem dL_law_344 : decode cL_law 344 = .ok (.iload_n 3, 1) := by decide +kernel
theorem dL_law_345 : decode cL_law 345 = .ok (.iconst 1, 1) := by decide +kernel
theorem dL_law_346 : decode cL_law 346 = .ok (.iadd, 1) := by decide +kernel
theorem dL_law_347 : decode cL_law 347 = .ok (.iaload, 1) := by decide +kernel
theorem dL_law_348 : decode cL_law 348 = .ok (.invokevirtual 40, 3) := by decide +kernel
theorem dL_law_351 : decode cL_law 351 = .ok (.aload_n 2, 1) := by decide +kernel
theorem dL_law_352 : decode cL_law 352 = .ok (.aload_n 0, 1) := by decide +kernel
theorem dL_law_353 : decode cL_law 353 = .ok (.iload_n 3, 1) := by decide +kernel
theorem dL_law_354 : decode cL_law 354 = .ok (.iconst 1, 1) := by decide +kernel
theorem dL_law_355 : decode cL_law 355 = .ok (.iadd, 1) := by decide +kernel
theorem dL_law_356 : decode cL_law 356 = .ok (.iaload, 1) := by decide +kernel
theorem dL_law_357 : decode cL_law 357 = .ok (.invokevirtual 44, 3) := by decide +kernel
theorem dL_law_360 : decode cL_law 360 = .ok (.if_icmp .eq 547, 3) := by decide +kernel
theorem dL_law_363 : decode cL_law 363 = .ok (.iconst 0, 1) := by decide +kernel
theorem dL_law_364 : decode cL_law 364 = .ok (.ireturn, 1) := by decide +kernel
theorem dL_law_365 : decode cL_law 365 = .ok (.aload_n 1, 1) := by decide +kernel
theorem dL_law_366 : decode cL_law 366 = .ok (.aload_n 0, 1) := by decide +kernel
theorem dL_law_367 : decode cL_law 367 = .ok (.iload_n 3, 1) := by decide +kernel
theorem dL_law_368 : decode cL_law 368 = .ok (.iconst 1, 1) := by decide +kernel
theorem dL_law_369 : decode cL_law 369 = .ok (.iadd, 1) := by decide +kernel
theorem dL_law_370 : decode cL_law 370 = .ok (.iaload, 1) := by decide +kernel
theorem dL_law_371 : decode cL_law 371 = .ok (.invokevirtual 45, 3) := by decide +kernel
theorem dL_law_374 : decode cL_law 374 = .ok (.aload_n 2, 1) := by decide +kernel
theorem dL_law_375 : decode cL_law 375 = .ok (.aload_n 0, 1) := by decide +kernel
theorem dL_law_376 : decode cL_law 376 = .ok (.iload_n 3, 1) := by decide +kernel
theorem dL_law_377 : decode cL_law 377 = .ok (.iconst 1, 1) := by decide +kernel
theorem dL_law_378 : decode cL_law 378 = .ok (.iadd, 1) := by decide +kernel
theorem dL_law_379 : decode cL_law 379 = .ok (.iaload, 1) := by decide +kernel
theorem dL_law_380 : decode cL_law 380 = .ok (.invokevirtual 48, 3) := by decide +kernel
theorem dL_law_383 : decode cL_law 383 = .ok (.if_icmp .eq 524, 3) := by decide +kernel
theorem dL_law_386 : decode cL_law 386 = .ok (.iconst 0, 1) := by decide +kernel
theorem dL_law_387 : decode cL_law 387 = .ok (.ireturn, 1) := by decide +kernel
theorem dL_law_388 : decode cL_law 388 = .ok (.aload_n 1, 1) := by decide +kernel
theorem dL_law_389 : decode cL_law 389 = .ok (.aload_n 0, 1) := by decide +kernel
theorem dL_law_390 : decode cL_law 390 = .ok (.iload_n 3, 1) := by decide +kernel
theorem dL_law_391 : decode cL_law 391 = .ok (.iconst 1, 1) := by decide +kernel
theorem dL_law_392 : decode cL_law 392 = .ok (.iadd, 1) := by decide +kernel
theorem dL_law_393 : decode cL_law 393 = .ok (.iaload, 1) := by decide +kernel
theorem dL_law_394 : decode cL_law 394 = .ok (.invokevirtual 49, 3) := by decide +kernel
theorem dL_law_397 : decode cL_law 397 = .ok (.aload_n 2, 1) := by decide +kernel
theorem dL_law_398 : decode cL_law 398 = .ok (.aload_n 0, 1) := by decide +kernel
theorem dL_law_399 : decode cL_law 399 = .ok (.iload_n 3, 1) := by decide +kernel
theorem dL_law_400 : decode cL_law 400 = .ok (.iconst 1, 1) := by decide +kernel
theorem dL_law_401 : decode cL_law 401 = .ok (.iadd, 1) := by decide +kernel
theorem dL_law_402 : decode cL_law 402 = .ok (.iaload, 1) := by decide +kernel
theorem dL_law_403 : decode cL_law 403 = .ok (.invokevirtual 52, 3) := by decide +kernel
theorem dL_law_406 : decode cL_law 406 = .ok (.if_icmp .eq 501, 3) := by decide +kernel
theorem dL_law_409 : decode cL_law 409 = .ok (.iconst 0, 1) := by decide +kernel
theorem dL_law_410 : decode cL_law 410 = .ok (.ireturn, 1) := by decide +kernel
theorem dL_law_411 : decode cL_law 411 = .ok (.aload_n 1, 1) := by decide +kernel
theorem dL_law_412 : decode cL_law 412 = .ok (.aload_n 0, 1) := by decide +kernel
theorem dL_law_413 : decode cL_law 413 = .ok (.iload_n 3, 1) := by decide +kernel
theorem dL_law_414 : decode cL_law 414 = .ok (.iconst 1, 1) := by decide +kernel
theorem dL_law_415 : decode cL_law 415 = .ok (.iadd, 1) := by decide +kernel
theorem dL_law_416 : decode cL_law 416 = .ok (.iaload, 1) := by decide +kernel
theorem dL_law_417 : decode cL_law 417 = .ok (.ifCond .eq 7, 3) := by decide +kernel
theorem dL_law_420 : decode cL_law 420 = .ok (.iconst 1, 1) := by decide +kernel
theorem dL_law_421 : decode cL_law 421 = .ok (.goto 4, 3) := by decide +kernel
theorem dL_law_424 : decode cL_law 424 = .ok (.iconst 0, 1) := by decide +kernel
theorem dL_law_425 : decode cL_law 425 = .ok (.invokevirtual 53, 3) := by decide +kernel
theorem dL_law_428 : decode cL_law 428 = .ok (.aload_n 2, 1) := by decide +kernel
theorem dL_law_429 : decode cL_law 429 = .ok (.aload_n 0, 1) := by decide +kernel
theorem dL_law_430 : decode cL_law 430 = .ok (.iload_n 3, 1) := by decide +kernel
theorem dL_law_431 : decode cL_law 431 = .ok (.iconst 1, 1) := by decide +kernel
theorem dL_law_432 : decode cL_law 432 = .ok (.iadd, 1) := by decide +kernel
theorem dL_law_433 : decode cL_law 433 = .ok (.iaload, 1) := by decide +kernel
theorem dL_law_434 : decode cL_law 434 = .ok (.ifCond .eq 7, 3) := by decide +kernel
theorem dL_law_437 : decode cL_law 437 = .ok (.iconst 1, 1) := by decide +kernel
theorem dL_law_438 : decode cL_law 438 = .ok (.goto 4, 3) := by decide +kernel
theorem dL_law_441 : decode cL_law 441 = .ok (.iconst 0, 1) := by decide +kernel
theorem dL_law_442 : decode cL_law 442 = .ok (.invokevirtual 57, 3) := by decide +kernel
theorem dL_law_445 : decode cL_law 445 = .ok (.if_icmp .eq 462, 3) := by decide +kernel
theorem dL_law_448 : decode cL_law 448 = .ok (.iconst 0, 1) := by decide +kernel
theorem dL_law_449 : decode cL_law 449 = .ok (.ireturn, 1) := by decide +kernel
theorem dL_law_450 : decode cL_law 450 = .ok (.aload_n 1, 1) := by decide +kernel
theorem dL_law_451 : decode cL_law 451 = .ok (.aload_n 0, 1) := by decide +kernel
theorem dL_law_452 : decode cL_law 452 = .ok (.iload_n 3, 1) := by decide +kernel
theorem dL_law_453 : decode cL_law 453 = .ok (.iconst 1, 1) := by decide +kernel
theorem dL_law_454 : decode cL_law 454 = .ok (.iadd, 1) := by decide +kernel
theorem dL_law_455 : decode cL_law 455 = .ok (.iaload, 1) := by decide +kernel
theorem dL_law_456 : decode cL_law 456 = .ok (.aload_n 0, 1) := by decide +kernel
theorem dL_law_457 : decode cL_law 457 = .ok (.iload_n 3, 1) := by decide +kernel
theorem dL_law_458 : decode cL_law 458 = .ok (.iconst 2, 1) := by decide +kernel
theorem dL_law_459 : decode cL_law 459 = .ok (.iadd, 1) := by decide +kernel
theorem dL_law_460 : decode cL_law 460 = .ok (.iaload, 1) := by decide +kernel
theorem dL_law_461 : decode cL_law 461 = .ok (.invokevirtual 58, 3) := by decide +kernel
theorem dL_law_464 : decode cL_law 464 = .ok (.aload_n 2, 1) := by decide +kernel
theorem dL_law_465 : decode cL_law 465 = .ok (.aload_n 0, 1) := by decide +kernel
theorem dL_law_466 : decode cL_law 466 = .ok (.iload_n 3, 1) := by decide +kernel
theorem dL_law_467 : decode cL_law 467 = .ok (.iconst 1, 1) := by decide +kernel
theorem dL_law_468 : decode cL_law 468 = .ok (.iadd, 1) := by decide +kernel
theorem dL_law_469 : decode cL_law 469 = .ok (.iaload, 1) := by decide +kernel
theorem dL_law_470 : decode cL_law 470 = .ok (.aload_n 0, 1) := by decide +kernel
theorem dL_law_471 : decode cL_law 471 = .ok (.iload_n 3, 1) := by decide +kernel
theorem dL_law_472 : decode cL_law 472 = .ok (.iconst 2, 1) := by decide +kernel
theorem dL_law_473 : decode cL_law 473 = .ok (.iadd, 1) := by decide +kernel
theorem dL_law_474 : decode cL_law 474 = .ok (.iaload, 1) := by decide +kernel
theorem dL_law_475 : decode cL_law 475 = .ok (.invokevirtual 61, 3) := by decide +kernel
theorem dL_law_478 : decode cL_law 478 = .ok (.if_icmp .eq 429, 3) := by decide +kernel
theorem dL_law_481 : decode cL_law 481 = .ok (.iconst 0, 1) := by decide +kernel
theorem dL_law_482 : decode cL_law 482 = .ok (.ireturn, 1) := by decide +kernel
theorem dL_law_483 : decode cL_law 483 = .ok (.aload_n 1, 1) := by decide +kernel
theorem dL_law_484 : decode cL_law 484 = .ok (.aload_n 0, 1) := by decide +kernel
theorem dL_law_485 : decode cL_law 485 = .ok (.iload_n 3, 1) := by decide +kernel
theorem dL_law_486 : decode cL_law 486 = .ok (.iconst 1, 1) := by decide +kernel
theorem dL_law_487 : decode cL_law 487 = .ok (.iadd, 1) := by decide +kernel
theorem dL_law_488 : decode cL_law 488 = .ok (.iaload, 1) := by decide +kernel
theorem dL_law_489 : decode cL_law 489 = .ok (.invokevirtual 62, 3) := by decide +kernel
theorem dL_law_492 : decode cL_law 492 = .ok (.aload_n 2, 1) := by decide +kernel
theorem dL_law_493 : decode cL_law 493 = .ok (.aload_n 0, 1) := by decide +kernel
theorem dL_law_494 : decode cL_law 494 = .ok (.iload_n 3, 1) := by decide +kernel
theorem dL_law_495 : decode cL_law 495 = .ok (.iconst 1, 1) := by decide +kernel
theorem dL_law_496 : decode cL_law 496 = .ok (.iadd, 1) := by decide +kernel
theorem dL_law_497 : decode cL_law 497 = .ok (.iaload, 1) := by decide +kernel
theorem dL_law_498 : decode cL_law 498 = .ok (.invokevirtual 65, 3) := by decide +kernel
theorem dL_law_501 : decode cL_law 501 = .ok (.if_icmp .eq 406, 3) := by decide +kernel
theorem dL_law_504 : decode cL_law 504 = .ok (.iconst 0, 1) := by decide +kernel
theorem dL_law_505 : decode cL_law 505 = .ok (.ireturn, 1) := by decide +kernel
theorem dL_law_506 : decode cL_law 506 = .ok (.aload_n 1, 1) := by decide +kernel
theorem dL_law_507 : decode cL_law 507 = .ok (.invokevirtual 66, 3) := by decide +kernel
theorem dL_law_510 : decode cL_law 510 = .ok (.aload_n 2, 1) := by decide +kernel
theorem dL_law_511 : decode cL_law 511 = .ok (.invokevirtual 69, 3) := by decide +kernel
theorem dL_law_514 : decode cL_law 514 = .ok (.if_icmp .eq 393, 3) := by decide +kernel
theorem dL_law_517 : decode cL_law 517 = .ok (.iconst 0, 1) := by decide +kernel
theorem dL_law_518 : decode cL_law 518 = .ok (.ireturn, 1) := by decide +kernel
theorem dL_law_519 : decode cL_law 519 = .ok (.aload_n 1, 1) := by decide +kernel
theorem dL_law_520 : decode cL_law 520 = .ok (.aload_n 0, 1) := by decide +kernel
theorem dL_law_521 : decode cL_law 521 = .ok (.iload_n 3, 1) := by decide +kernel
theorem dL_law_522 : decode cL_law 522 = .ok (.iconst 1, 1) := by decide +kernel
theorem dL_law_523 : decode cL_law 523 = .ok (.iadd, 1) := by decide +kernel
theorem dL_law_524 : decode cL_law 524 = .ok (.iaload, 1) := by decide +kernel
theorem dL_law_525 : decode cL_law 525 = .ok (.aload_n 0, 1) := by decide +kernel
theorem dL_law_526 : decode cL_law 526 = .ok (.iload_n 3, 1) := by decide +kernel
theorem dL_law_527 : decode cL_law 527 = .ok (.iconst 2, 1) := by decide +kernel
theorem dL_law_528 : decode cL_law 528 = .ok (.iadd, 1) := by decide +kernel
theorem dL_law_529 : decode cL_law 529 = .ok (.iaload, 1) := by decide +kernel
theorem dL_law_530 : decode cL_law 530 = .ok (.invokevirtual 70, 3) := by decide +kernel
theorem dL_law_533 : decode cL_law 533 = .ok (.aload_n 2, 1) := by decide +kernel
theorem dL_law_534 : decode cL_law 534 = .ok (.aload_n 0, 1) := by decide +kernel
theorem dL_law_535 : decode cL_law 535 = .ok (.iload_n 3, 1) := by decide +kernel
theorem dL_law_536 : decode cL_law 536 = .ok (.iconst 1, 1) := by decide +kernel
theorem dL_law_537 : decode cL_law 537 = .ok (.iadd, 1) := by decide +kernel
theorem dL_law_538 : decode cL_law 538 = .ok (.iaload, 1) := by decide +kernel
theorem dL_law_539 : decode cL_law 539 = .ok (.aload_n 0, 1) := by decide +kernel
theorem dL_law_540 : decode cL_law 540 = .ok (.iload_n 3, 1) := by decide +kernel
theorem dL_law_541 : decode cL_law 541 = .ok (.iconst 2, 1) := by decide +kernel
theorem dL_law_542 : decode cL_law 542 = .ok (.iadd, 1) := by decide +kernel
theorem dL_law_543 : decode cL_law 543 = .ok (.iaload, 1) := by decide +kernel
theorem dL_law_544 : decode cL_law 544 = .ok (.invokevirtual 73, 3) := by decide +kernel
theorem dL_law_547 : decode cL_law 547 = .ok (.if_icmp .eq 360, 3) := by decide +kernel
theorem dL_law_550 : decode cL_law 550 = .ok (.iconst 0, 1) := by decide +kernel
theorem dL_law_551 : decode cL_law 551 = .ok (.ireturn, 1) := by decide +kernel
theorem dL_law_552 : decode cL_law 552 = .ok (.aload_n 1, 1) := by decide +kernel
theorem dL_law_553 : decode cL_law 553 = .ok (.aload_n 0, 1) := by decide +kernel
theorem dL_law_554 : decode cL_law 554 = .ok (.iload_n 3, 1) := by decide +kernel
theorem dL_law_555 : decode cL_law 555 = .ok (.iconst 1, 1) := by decide +kernel
theorem dL_law_556 : decode cL_law 556 = .ok (.iadd, 1) := by decide +kernel
theorem dL_law_557 : decode cL_law 557 = .ok (.iaload, 1) := by decide +kernel
theorem dL_law_558 : decode cL_law 558 = .ok (.aload_n 0, 1) := by decide +kernel
theorem dL_law_559 : decode cL_law 559 = .ok (.iload_n 3, 1) := by decide +kernel
theorem dL_law_560 : decode cL_law 560 = .ok (.iconst 2, 1) := by decide +kernel
theorem dL_law_561 : decode cL_law 561 = .ok (.iadd, 1) := by decide +kernel
theorem dL_law_562 : decode cL_law 562 = .ok (.iaload, 1) := by decide +kernel
theorem dL_law_563 : decode cL_law 563 = .ok (.invokevirtual 74, 3) := by decide +kernel
theorem dL_law_566 : decode cL_law 566 = .ok (.aload_n 2, 1) := by decide +kernel
theorem dL_law_567 : decode cL_law 567 = .ok (.aload_n 0, 1) := by decide +kernel
theorem dL_law_568 : decode cL_law 568 = .ok (.iload_n 3, 1) := by decide +kernel
theorem dL_law_569 : decode cL_law 569 = .ok (.iconst 1, 1) := by decide +kernel
theorem dL_law_570 : decode cL_law 570 = .ok (.iadd, 1) := by decide +kernel
theorem dL_law_571 : decode cL_law 571 = .ok (.iaload, 1) := by decide +kernel
theorem dL_law_572 : decode cL_law 572 = .ok (.aload_n 0, 1) := by decide +kernel
theorem dL_law_573 : decode cL_law 573 = .ok (.iload_n 3, 1) := by decide +kernel
theorem dL_law_574 : decode cL_law 574 = .ok (.iconst 2, 1) := by decide +kernel
theorem dL_law_575 : decode cL_law 575 = .ok (.iadd, 1) := by decide +kernel
theorem dL_law_576 : decode cL_law 576 = .ok (.iaload, 1) := by decide +kernel
theorem dL_law_577 : decode cL_law 577 = .ok (.invokevirtual 77, 3) := by decide +kernel
theorem dL_law_580 : decode cL_law 580 = .ok (.if_icmp .eq 327, 3) := by decide +kernel
theorem dL_law_583 : decode cL_law 583 = .ok (.iconst 0, 1) := by decide +kernel
theorem dL_law_584 : decode cL_law 584 = .ok (.ireturn, 1) := by decide +kernel
theorem dL_law_585 : decode cL_law 585 = .ok (.aload_n 1, 1) := by decide +kernel
theorem dL_law_586 : decode cL_law 586 = .ok (.aload_n 0, 1) := by decide +kernel
theorem dL_law_587 : decode cL_law 587 = .ok (.iload_n 3, 1) := by decide +kernel
theorem dL_law_588 : decode cL_law 588 = .ok (.iconst 1, 1) := by decide +kernel
theorem dL_law_589 : decode cL_law 589 = .ok (.iadd, 1) := by decide +kernel
theorem dL_law_590 : decode cL_law 590 = .ok (.iaload, 1) := by decide +kernel
theorem dL_law_591 : decode cL_law 591 = .ok (.aload_n 0, 1) := by decide +kernel
theorem dL_law_592 : decode cL_law 592 = .ok (.iload_n 3, 1) := by decide +kernel
theorem dL_law_593 : decode cL_law 593 = .ok (.iconst 2, 1) := by decide +kernel
theorem dL_law_594 : decode cL_law 594 = .ok (.iadd, 1) := by decide +kernel
theorem dL_law_595 : decode cL_law 595 = .ok (.iaload, 1) := by decide +kernel
theorem dL_law_596 : decode cL_law 596 = .ok (.invokevirtual 78, 3) := by decide +kernel
theorem dL_law_599 : decode cL_law 599 = .ok (.aload_n 2, 1) := by decide +kernel
theorem dL_law_600 : decode cL_law 600 = .ok (.aload_n 0, 1) := by decide +kernel
theorem dL_law_601 : decode cL_law 601 = .ok (.iload_n 3, 1) := by decide +kernel
theorem dL_law_602 : decode cL_law 602 = .ok (.iconst 1, 1) := by decide +kernel
theorem dL_law_603 : decode cL_law 603 = .ok (.iadd, 1) := by decide +kernel
theorem dL_law_604 : decode cL_law 604 = .ok (.iaload, 1) := by decide +kernel
theorem dL_law_605 : decode cL_law 605 = .ok (.aload_n 0, 1) := by decide +kernel
theorem dL_law_606 : decode cL_law 606 = .ok (.iload_n 3, 1) := by decide +kernel
theorem dL_law_607 : decode cL_law 607 = .ok (.iconst 2, 1) := by decide +kernel
theorem dL_law_608 : decode cL_law 608 = .ok (.iadd, 1) := by decide +kernel
theorem dL_law_609 : decode cL_law 609 = .ok (.iaload, 1) := by decide +kernel
theorem dL_law_610 : decode cL_law 610 = .ok (.invokevirtual 81, 3) := by decide +kernel
theorem dL_law_613 : decode cL_law 613 = .ok (.if_icmp .eq 294, 3) := by decide +kernel
theorem dL_law_616 : decode cL_law 616 = .ok (.iconst 0, 1) := by decide +kernel
theorem dL_law_617 : decode cL_law 617 = .ok (.ireturn, 1) := by decide +kernel
theorem dL_law_618 : decode cL_law 618 = .ok (.aload_n 1, 1) := by decide +kernel
theorem dL_law_619 : decode cL_law 619 = .ok (.aload_n 0, 1) := by decide +kernel
theorem dL_law_620 : decode cL_law 620 = .ok (.iload_n 3, 1) := by decide +kernel
theorem dL_law_621 : decode cL_law 621 = .ok (.iconst 1, 1) := by decide +kernel
theorem dL_law_622 : decode cL_law 622 = .ok (.iadd, 1) := by decide +kernel
theorem dL_law_623 : decode cL_law 623 = .ok (.iaload, 1) := by decide +kernel
theorem dL_law_624 : decode cL_law 624 = .ok (.invokevirtual 82, 3) := by decide +kernel
theorem dL_law_627 : decode cL_law 627 = .ok (.aload_n 2, 1) := by decide +kernel
theorem dL_law_628 : decode cL_law 628 = .ok (.aload_n 0, 1) := by decide +kernel
theorem dL_law_629 : decode cL_law 629 = .ok (.iload_n 3, 1) := by decide +kernel
theorem dL_law_630 : decode cL_law 630 = .ok (.iconst 1, 1) := by decide +kernel
theorem dL_law_631 : decode cL_law 631 = .ok (.iadd, 1) := by decide +kernel
theorem dL_law_632 : decode cL_law 632 = .ok (.iaload, 1) := by decide +kernel
theorem dL_law_633 : decode cL_law 633 = .ok (.invokevirtual 85, 3) := by decide +kernel
theorem dL_law_636 : decode cL_law 636 = .ok (.if_icmp .eq 271, 3) := by decide +kernel
theorem dL_law_639 : decode cL_law 639 = .ok (.iconst 0, 1) := by decide +kernel
theorem dL_law_640 : decode cL_law 640 = .ok (.ireturn, 1) := by decide +kernel
theorem dL_law_641 : decode cL_law 641 = .ok (.aload_n 1, 1) := by decide +kernel
theorem dL_law_642 : decode cL_law 642 = .ok (.aload_n 0, 1) := by decide +kernel
theorem dL_law_643 : decode cL_law 643 = .ok (.iload_n 3, 1) := by decide +kernel
theorem dL_law_644 : decode cL_law 644 = .ok (.iconst 1, 1) := by decide +kernel
theorem dL_law_645 : decode cL_law 645 = .ok (.iadd, 1) := by decide +kernel
theorem dL_law_646 : decode cL_law 646 = .ok (.iaload, 1) := by decide +kernel
theorem dL_law_647 : decode cL_law 647 = .ok (.invokevirtual 86, 3) := by decide +kernel
theorem dL_law_650 : decode cL_law 650 = .ok (.aload_n 2, 1) := by decide +kernel
theorem dL_law_651 : decode cL_law 651 = .ok (.aload_n 0, 1) := by decide +kernel
theorem dL_law_652 : decode cL_law 652 = .ok (.iload_n 3, 1) := by decide +kernel
theorem dL_law_653 : decode cL_law 653 = .ok (.iconst 1, 1) := by decide +kernel
theorem dL_law_654 : decode cL_law 654 = .ok (.iadd, 1) := by decide +kernel
theorem dL_law_655 : decode cL_law 655 = .ok (.iaload, 1) := by decide +kernel
theorem dL_law_656 : decode cL_law 656 = .ok (.invokevirtual 89, 3) := by decide +kernel
theorem dL_law_659 : decode cL_law 659 = .ok (.if_icmp .eq 248, 3) := by decide +kernel
theorem dL_law_662 : decode cL_law 662 = .ok (.iconst 0, 1) := by decide +kernel
theorem dL_law_663 : decode cL_law 663 = .ok (.ireturn, 1) := by decide +kernel
theorem dL_law_664 : decode cL_law 664 = .ok (.aload_n 1, 1) := by decide +kernel
theorem dL_law_665 : decode cL_law 665 = .ok (.invokevirtual 90, 3) := by decide +kernel
theorem dL_law_668 : decode cL_law 668 = .ok (.aload_n 2, 1) := by decide +kernel
theorem dL_law_669 : decode cL_law 669 = .ok (.invokevirtual 93, 3) := by decide +kernel
theorem dL_law_672 : decode cL_law 672 = .ok (.if_icmp .eq 235, 3) := by decide +kernel
theorem dL_law_675 : decode cL_law 675 = .ok (.iconst 0, 1) := by decide +kernel
theorem dL_law_676 : decode cL_law 676 = .ok (.ireturn, 1) := by decide +kernel
theorem dL_law_677 : decode cL_law 677 = .ok (.aload_n 1, 1) := by decide +kernel
theorem dL_law_678 : decode cL_law 678 = .ok (.aload_n 0, 1) := by decide +kernel
theorem dL_law_679 : decode cL_law 679 = .ok (.iload_n 3, 1) := by decide +kernel
theorem dL_law_680 : decode cL_law 680 = .ok (.iconst 1, 1) := by decide +kernel
theorem dL_law_681 : decode cL_law 681 = .ok (.iadd, 1) := by decide +kernel
theorem dL_law_682 : decode cL_law 682 = .ok (.iaload, 1) := by decide +kernel
theorem dL_law_683 : decode cL_law 683 = .ok (.invokevirtual 94, 3) := by decide +kernel
theorem dL_law_686 : decode cL_law 686 = .ok (.aload_n 2, 1) := by decide +kernel
theorem dL_law_687 : decode cL_law 687 = .ok (.aload_n 0, 1) := by decide +kernel
theorem dL_law_688 : decode cL_law 688 = .ok (.iload_n 3, 1) := by decide +kernel
theorem dL_law_689 : decode cL_law 689 = .ok (.iconst 1, 1) := by decide +kernel
theorem dL_law_690 : decode cL_law 690 = .ok (.iadd, 1) := by decide +kernel
theorem dL_law_691 : decode cL_law 691 = .ok (.iaload, 1) := by decide +kernel
theorem dL_law_692 : decode cL_law 692 = .ok (.invokevirtual 97, 3) := by decide +kernel
theorem dL_law_695 : decode cL_law 695 = .ok (.if_icmp .eq 212, 3) := by decide +kernel
theorem dL_law_698 : decode cL_law 698 = .ok (.iconst 0, 1) := by decide +kernel
theorem dL_law_699 : decode cL_law 699 = .ok (.ireturn, 1) := by decide +kernel
theorem dL_law_700 : decode cL_law 700 = .ok (.aload_n 1, 1) := by decide +kernel
theorem dL_law_701 : decode cL_law 701 = .ok (.invokevirtual 98, 3) := by decide +kernel
theorem dL_law_704 : decode cL_law 704 = .ok (.aload_n 2, 1) := by decide +kernel
theorem dL_law_705 : decode cL_law 705 = .ok (.invokevirtual 101, 3) := by decide +kernel
theorem dL_law_708 : decode cL_law 708 = .ok (.if_icmp .eq 199, 3) := by decide +kernel
theorem dL_law_711 : decode cL_law 711 = .ok (.iconst 0, 1) := by decide +kernel
theorem dL_law_712 : decode cL_law 712 = .ok (.ireturn, 1) := by decide +kernel
theorem dL_law_713 : decode cL_law 713 = .ok (.aload_n 1, 1) := by decide +kernel
theorem dL_law_714 : decode cL_law 714 = .ok (.aload_n 0, 1) := by decide +kernel
theorem dL_law_715 : decode cL_law 715 = .ok (.iload_n 3, 1) := by decide +kernel
theorem dL_law_716 : decode cL_law 716 = .ok (.iconst 1, 1) := by decide +kernel
theorem dL_law_717 : decode cL_law 717 = .ok (.iadd, 1) := by decide +kernel
theorem dL_law_718 : decode cL_law 718 = .ok (.iaload, 1) := by decide +kernel
theorem dL_law_719 : decode cL_law 719 = .ok (.aload_n 0, 1) := by decide +kernel
theorem dL_law_720 : decode cL_law 720 = .ok (.iload_n 3, 1) := by decide +kernel
theorem dL_law_721 : decode cL_law 721 = .ok (.iconst 2, 1) := by decide +kernel
theorem dL_law_722 : decode cL_law 722 = .ok (.iadd, 1) := by decide +kernel
theorem dL_law_723 : decode cL_law 723 = .ok (.iaload, 1) := by decide +kernel
theorem dL_law_724 : decode cL_law 724 = .ok (.invokevirtual 102, 3) := by decide +kernel
theorem dL_law_727 : decode cL_law 727 = .ok (.aload_n 2, 1) := by decide +kernel
theorem dL_law_728 : decode cL_law 728 = .ok (.aload_n 0, 1) := by decide +kernel
theorem dL_law_729 : decode cL_law 729 = .ok (.iload_n 3, 1) := by decide +kernel
theorem dL_law_730 : decode cL_law 730 = .ok (.iconst 1, 1) := by decide +kernel
theorem dL_law_731 : decode cL_law 731 = .ok (.iadd, 1) := by decide +kernel
theorem dL_law_732 : decode cL_law 732 = .ok (.iaload, 1) := by decide +kernel
theorem dL_law_733 : decode cL_law 733 = .ok (.aload_n 0, 1) := by decide +kernel
theorem dL_law_734 : decode cL_law 734 = .ok (.iload_n 3, 1) := by decide +kernel
theorem dL_law_735 : decode cL_law 735 = .ok (.iconst 2, 1) := by decide +kernel
theorem dL_law_736 : decode cL_law 736 = .ok (.iadd, 1) := by decide +kernel
theorem dL_law_737 : decode cL_law 737 = .ok (.iaload, 1) := by decide +kernel
theorem dL_law_738 : decode cL_law 738 = .ok (.invokevirtual 105, 3) := by decide +kernel
theorem dL_law_741 : decode cL_law 741 = .ok (.if_icmp .eq 166, 3) := by decide +kernel
theorem dL_law_744 : decode cL_law 744 = .ok (.iconst 0, 1) := by decide +kernel
theorem dL_law_745 : decode cL_law 745 = .ok (.ireturn, 1) := by decide +kernel
theorem dL_law_746 : decode cL_law 746 = .ok (.aload_n 1, 1) := by decide +kernel
theorem dL_law_747 : decode cL_law 747 = .ok (.aload_n 0, 1) := by decide +kernel
theorem dL_law_748 : decode cL_law 748 = .ok (.iload_n 3, 1) := by decide +kernel
theorem dL_law_749 : decode cL_law 749 = .ok (.iconst 1, 1) := by decide +kernel
theorem dL_law_750 : decode cL_law 750 = .ok (.iadd, 1) := by decide +kernel
theorem dL_law_751 : decode cL_law 751 = .ok (.iaload, 1) := by decide +kernel
theorem dL_law_752 : decode cL_law 752 = .ok (.invokevirtual 106, 3) := by decide +kernel
theorem dL_law_755 : decode cL_law 755 = .ok (.aload_n 2, 1) := by decide +kernel
theorem dL_law_756 : decode cL_law 756 = .ok (.aload_n 0, 1) := by decide +kernel
theorem dL_law_757 : decode cL_law 757 = .ok (.iload_n 3, 1) := by decide +kernel
theorem dL_law_758 : decode cL_law 758 = .ok (.iconst 1, 1) := by decide +kernel
theorem dL_law_759 : decode cL_law 759 = .ok (.iadd, 1) := by decide +kernel
theorem dL_law_760 : decode cL_law 760 = .ok (.iaload, 1) := by decide +kernel
theorem dL_law_761 : decode cL_law 761 = .ok (.invokevirtual 109, 3) := by decide +kernel
theorem dL_law_764 : decode cL_law 764 = .ok (.if_icmp .eq 143, 3) := by decide +kernel
theorem dL_law_767 : decode cL_law 767 = .ok (.iconst 0, 1) := by decide +kernel
theorem dL_law_768 : decode cL_law 768 = .ok (.ireturn, 1) := by decide +kernel
theorem dL_law_769 : decode cL_law 769 = .ok (.aload_n 1, 1) := by decide +kernel
theorem dL_law_770 : decode cL_law 770 = .ok (.aload_n 0, 1) := by decide +kernel
theorem dL_law_771 : decode cL_law 771 = .ok (.iload_n 3, 1) := by decide +kernel
theorem dL_law_772 : decode cL_law 772 = .ok (.iconst 1, 1) := by decide +kernel
theorem dL_law_773 : decode cL_law 773 = .ok (.iadd, 1) := by decide +kernel
theorem dL_law_774 : decode cL_law 774 = .ok (.iaload, 1) := by decide +kernel
theorem dL_law_775 : decode cL_law 775 = .ok (.i2l, 1) := by decide +kernel
theorem dL_law_776 : decode cL_law 776 = .ok (.bipush 32, 2) := by decide +kernel
theorem dL_law_778 : decode cL_law 778 = .ok (.lshl, 1) := by decide +kernel
theorem dL_law_779 : decode cL_law 779 = .ok (.aload_n 0, 1) := by decide +kernel
theorem dL_law_780 : decode cL_law 780 = .ok (.iload_n 3, 1) := by decide +kernel
theorem dL_law_781 : decode cL_law 781 = .ok (.iconst 2, 1) := by decide +kernel
theorem dL_law_782 : decode cL_law 782 = .ok (.iadd, 1) := by decide +kernel
theorem dL_law_783 : decode cL_law 783 = .ok (.iaload, 1) := by decide +kernel
theorem dL_law_784 : decode cL_law 784 = .ok (.i2l, 1) := by decide +kernel
theorem dL_law_785 : decode cL_law 785 = .ok (.ldc2_w 110, 3) := by decide +kernel
theorem dL_law_788 : decode cL_law 788 = .ok (.land, 1) := by decide +kernel
theorem dL_law_789 : decode cL_law 789 = .ok (.lor, 1) := by decide +kernel
theorem dL_law_790 : decode cL_law 790 = .ok (.invokevirtual 112, 3) := by decide +kernel
theorem dL_law_793 : decode cL_law 793 = .ok (.aload_n 2, 1) := by decide +kernel
theorem dL_law_794 : decode cL_law 794 = .ok (.aload_n 0, 1) := by decide +kernel
theorem dL_law_795 : decode cL_law 795 = .ok (.iload_n 3, 1) := by decide +kernel
theorem dL_law_796 : decode cL_law 796 = .ok (.iconst 1, 1) := by decide +kernel
theorem dL_law_797 : decode cL_law 797 = .ok (.iadd, 1) := by decide +kernel
theorem dL_law_798 : decode cL_law 798 = .ok (.iaload, 1) := by decide +kernel
theorem dL_law_799 : decode cL_law 799 = .ok (.i2l, 1) := by decide +kernel
theorem dL_law_800 : decode cL_law 800 = .ok (.bipush 32, 2) := by decide +kernel
theorem dL_law_802 : decode cL_law 802 = .ok (.lshl, 1) := by decide +kernel
theorem dL_law_803 : decode cL_law 803 = .ok (.aload_n 0, 1) := by decide +kernel
theorem dL_law_804 : decode cL_law 804 = .ok (.iload_n 3, 1) := by decide +kernel
theorem dL_law_805 : decode cL_law 805 = .ok (.iconst 2, 1) := by decide +kernel
theorem dL_law_806 : decode cL_law 806 = .ok (.iadd, 1) := by decide +kernel
theorem dL_law_807 : decode cL_law 807 = .ok (.iaload, 1) := by decide +kernel
theorem dL_law_808 : decode cL_law 808 = .ok (.i2l, 1) := by decide +kernel
theorem dL_law_809 : decode cL_law 809 = .ok (.ldc2_w 110, 3) := by decide +kernel
theorem dL_law_812 : decode cL_law 812 = .ok (.land, 1) := by decide +kernel
theorem dL_law_813 : decode cL_law 813 = .ok (.lor, 1) := by decide +kernel
theorem dL_law_814 : decode cL_law 814 = .ok (.invokevirtual 116, 3) := by decide +kernel
theorem dL_law_817 : decode cL_law 817 = .ok (.if_icmp .eq 90, 3) := by decide +kernel
theorem dL_law_820 : decode cL_law 820 = .ok (.iconst 0, 1) := by decide +kernel
theorem dL_law_821 : decode cL_law 821 = .ok (.ireturn, 1) := by decide +kernel
theorem dL_law_822 : decode cL_law 822 = .ok (.aload_n 1, 1) := by decide +kernel
theorem dL_law_823 : decode cL_law 823 = .ok (.invokevirtual 117, 3) := by decide +kernel
theorem dL_law_826 : decode cL_law 826 = .ok (.aload_n 2, 1) := by decide +kernel
theorem dL_law_827 : decode cL_law 827 = .ok (.invokevirtual 120, 3) := by decide +kernel
theorem dL_law_830 : decode cL_law 830 = .ok (.if_icmp .eq 77, 3) := by decide +kernel
theorem dL_law_833 : decode cL_law 833 = .ok (.iconst 0, 1) := by decide +kernel
theorem dL_law_834 : decode cL_law 834 = .ok (.ireturn, 1) := by decide +kernel
theorem dL_law_835 : decode cL_law 835 = .ok (.aload_n 1, 1) := by decide +kernel
theorem dL_law_836 : decode cL_law 836 = .ok (.invokevirtual 121, 3) := by decide +kernel
theorem dL_law_839 : decode cL_law 839 = .ok (.aload_n 2, 1) := by decide +kernel
theorem dL_law_840 : decode cL_law 840 = .ok (.invokevirtual 124, 3) := by decide +kernel
theorem dL_law_843 : decode cL_law 843 = .ok (.if_icmp .eq 64, 3) := by decide +kernel
theorem dL_law_846 : decode cL_law 846 = .ok (.iconst 0, 1) := by decide +kernel
theorem dL_law_847 : decode cL_law 847 = .ok (.ireturn, 1) := by decide +kernel
theorem dL_law_848 : decode cL_law 848 = .ok (.aload_n 1, 1) := by decide +kernel
theorem dL_law_849 : decode cL_law 849 = .ok (.invokevirtual 125, 3) := by decide +kernel
theorem dL_law_852 : decode cL_law 852 = .ok (.aload_n 2, 1) := by decide +kernel
theorem dL_law_853 : decode cL_law 853 = .ok (.invokevirtual 128, 3) := by decide +kernel
theorem dL_law_856 : decode cL_law 856 = .ok (.if_icmp .eq 51, 3) := by decide +kernel
theorem dL_law_859 : decode cL_law 859 = .ok (.iconst 0, 1) := by decide +kernel
theorem dL_law_860 : decode cL_law 860 = .ok (.ireturn, 1) := by decide +kernel
theorem dL_law_861 : decode cL_law 861 = .ok (.aload_n 1, 1) := by decide +kernel
theorem dL_law_862 : decode cL_law 862 = .ok (.aload_n 0, 1) := by decide +kernel
theorem dL_law_863 : decode cL_law 863 = .ok (.iload_n 3, 1) := by decide +kernel
theorem dL_law_864 : decode cL_law 864 = .ok (.iconst 1, 1) := by decide +kernel
theorem dL_law_865 : decode cL_law 865 = .ok (.iadd, 1) := by decide +kernel
theorem dL_law_866 : decode cL_law 866 = .ok (.iaload, 1) := by decide +kernel
theorem dL_law_867 : decode cL_law 867 = .ok (.invokevirtual 129, 3) := by decide +kernel
theorem dL_law_870 : decode cL_law 870 = .ok (.aload_n 2, 1) := by decide +kernel
theorem dL_law_871 : decode cL_law 871 = .ok (.aload_n 0, 1) := by decide +kernel
theorem dL_law_872 : decode cL_law 872 = .ok (.iload_n 3, 1) := by decide +kernel
theorem dL_law_873 : decode cL_law 873 = .ok (.iconst 1, 1) := by decide +kernel
theorem dL_law_874 : decode cL_law 874 = .ok (.iadd, 1) := by decide +kernel
theorem dL_law_875 : decode cL_law 875 = .ok (.iaload, 1) := by decide +kernel
theorem dL_law_876 : decode cL_law 876 = .ok (.invokevirtual 132, 3) := by decide +kernel
theorem dL_law_879 : decode cL_law 879 = .ok (.if_icmp .eq 28, 3) := by decide +kernel
theorem dL_law_882 : decode cL_law 882 = .ok (.iconst 0, 1) := by decide +kernel
theorem dL_law_883 : decode cL_law 883 = .ok (.ireturn, 1) := by decide +kernel
theorem dL_law_884 : decode cL_law 884 = .ok (.aload_n 1, 1) := by decide +kernel
theorem dL_law_885 : decode cL_law 885 = .ok (.aload_n 0, 1) := by decide +kernel
theorem dL_law_886 : decode cL_law 886 = .ok (.iload_n 3, 1) := by decide +kernel
theorem dL_law_887 : decode cL_law 887 = .ok (.iconst 1, 1) := by decide +kernel
theorem dL_law_888 : decode cL_law 888 = .ok (.iadd, 1) := by decide +kernel
theorem dL_law_889 : decode cL_law 889 = .ok (.iaload, 1) := by decide +kernel
theorem dL_law_890 : decode cL_law 890 = .ok (.invokevirtual 133, 3) := by decide +kernel
theorem dL_law_893 : decode cL_law 893 = .ok (.aload_n 2, 1) := by decide +kernel
theorem dL_law_894 : decode cL_law 894 = .ok (.aload_n 0, 1) := by decide +kernel
theorem dL_law_895 : decode cL_law 895 = .ok (.iload_n 3, 1) := by decide +kernel
theorem dL_law_896 : decode cL_law 896 = .ok (.iconst 1, 1) := by decide +kernel
theorem dL_law_897 : decode cL_law 897 = .ok (.iadd, 1) := by decide +kernel
theorem dL_law_898 : decode cL_law 898 = .ok (.iaload, 1) := by decide +kernel
theorem dL_law_899 : decode cL_law 899 = .ok (.invokevirtual 136, 3) := by decide +kernel
theorem dL_law_902 : decode cL_law 902 = .ok (.if_icmp .eq 5, 3) := by decide +kernel
theorem dL_law_905 : decode cL_law 905 = .ok (.iconst 0, 1) := by decide +kernel
theorem dL_law_906 : decode cL_law 906 = .ok (.ireturn, 1) := by decide +kernel
theorem dL_law_907 : decode cL_law 907 = .ok (.iinc 3 5, 3) := by decide +kernel
theorem dL_law_910 : decode cL_law 910 = .ok (.goto (-892), 3) := by decide +kernel
theorem dL_law_913 : decode cL_law 913 = .ok (.iconst 1, 1) := by decide +kernel
theorem dL_law_914 : decode cL_law 914 = .ok (.ireturn, 1) := by decide +kernel
end
section
/-- the words of the tables that a shift of what is resolved keeps -/
def xgood : List Cond := lw_tbl.filter goodWord
theorem xg_of (i : Nat) {w : Cond} (h : lw_tbl[i]? = some w) (hg : goodWord w = true) : w ∈ xgood := List.mem_filter.mpr ⟨List.mem_of_getElem? h, hg⟩
theorem xgood_in {w : Cond} (h : w ∈ xgood) : GoodIn xgood (w :: xgood) := fun v hv => by
  have hv : v ∈ xgood := (List.mem_cons.mp hv).elim (fun e => e ▸ h) id
  exact ⟨hv, good_of_word (List.mem_filter.mp hv).2⟩
/-- the classes whose objects the heap holds -/
abbrev xcl : List vw_C := [(RX0, TX0, 7), (RX1, TX1, 14), (RX2, TX2, 8), (RX3, TX3, 2), (RX4, TX4, 8), (RX5, TX5, 15)]
def XY (y : MethodName) (b : ByteArray) (maxL : Nat) (ret : Option FieldType) (n : Nat) : Prop := Cond.code y b maxL ret ∈ xgood ∧ Cond.initialized y.cls ∈ xgood ∧ y.cls ≠ "java/lang/invoke/MethodHandle" ∧ y.cls ≠ "java/lang/invoke/VarHandle" ∧ (parseMethodDescriptor y.desc).map (fun d => d.parameters.length) = some n
def XV (own : String) (idx : Nat) (y : MethodName) : Prop := Cond.methodLink own idx y ∈ xgood ∧ Cond.instanceMethod y ∈ xgood ∧ Cond.selects y.cls y y ∈ xgood
def XS (own : String) (idx : Nat) (y : MethodName) : Prop := Cond.methodLink own idx y ∈ xgood ∧ Cond.static y ∈ xgood
def XI (own : String) (idx : Nat) (y : MethodName) : Prop := Cond.methodLink own idx y ∈ xgood ∧ Cond.instanceMethod y ∈ xgood ∧ y.name = "<init>"

def xnM : List (String × Nat × MethodName × String) := [(RX1, 70, yX0_init, RX4), (RX1, 71, yX3_init, RX4), (RX4, 21, yX2_init, RX4), (RX0, 35, yX4_isGrade, RX4), (RX1, 131, yX4_isHose, RX4), (RX1, 138, yX4_isGrade, RX4), (RX2, 66, yX4_isHose, RX4), (RX2, 73, yX4_isGrade, RX4)]
def xnF : List (String × Nat × String × String × String × String) := [(RX1, 9, RX4, "FIRST_SETTING", "[I", RX4), (RX1, 99, RX4, "LEAST_SETTING", "[I", RX4), (RX1, 102, RX4, "MOST_SETTING", "[I", RX4), (RX1, 85, RX4, "TIDE_TENTHS", "[I", RX4)]
theorem xnM_in : ∀ q ∈ xnM, Cond.methodLinkNest q.1 q.2.1 q.2.2.1 q.2.2.2 ∈ lw_tbl := List.forall_mem_cons.mpr ⟨List.mem_of_getElem? (i := 83) (by decide +kernel), List.forall_mem_cons.mpr ⟨List.mem_of_getElem? (i := 122) (by decide +kernel), List.forall_mem_cons.mpr ⟨List.mem_of_getElem? (i := 187) (by decide +kernel), List.forall_mem_cons.mpr ⟨List.mem_of_getElem? (i := 360) (by decide +kernel), List.forall_mem_cons.mpr ⟨List.mem_of_getElem? (i := 371) (by decide +kernel), List.forall_mem_cons.mpr ⟨List.mem_of_getElem? (i := 383) (by decide +kernel), List.forall_mem_cons.mpr ⟨List.mem_of_getElem? (i := 507) (by decide +kernel), List.forall_mem_cons.mpr ⟨List.mem_of_getElem? (i := 512) (by decide +kernel), fun _ h => absurd h List.not_mem_nil⟩⟩⟩⟩⟩⟩⟩⟩
theorem xnF_in : ∀ q ∈ xnF, Cond.fieldLinkNest q.1 q.2.1 q.2.2.1 q.2.2.2.1 q.2.2.2.2.1 q.2.2.2.2.2 ∈ lw_tbl := List.forall_mem_cons.mpr ⟨List.mem_of_getElem? (i := 69) (by decide +kernel), List.forall_mem_cons.mpr ⟨List.mem_of_getElem? (i := 280) (by decide +kernel), List.forall_mem_cons.mpr ⟨List.mem_of_getElem? (i := 282) (by decide +kernel), List.forall_mem_cons.mpr ⟨List.mem_of_getElem? (i := 337) (by decide +kernel), fun _ h => absurd h List.not_mem_nil⟩⟩⟩⟩
def XSN (own : String) (idx : Nat) (y : MethodName) (host : String) : Prop := (own, idx, y, host) ∈ xnM ∧ Cond.static y ∈ xgood
def XIN (own : String) (idx : Nat) (y : MethodName) (host : String) : Prop := (own, idx, y, host) ∈ xnM ∧ Cond.instanceMethod y ∈ xgood ∧ y.name = "<init>"
/-- the k-th field of the class ci, by an entry of own's pool -/
def XF (own : String) (idx ci k : Nat) (C : String) (T : u_T) (N : Nat) : Prop := xcl[ci]? = some (C, T, N) ∧ k < N ∧ Cond.fieldLink own idx C (T k).2.1 (T k).2.2.1 ∈ xgood ∧ (T k).1 = C
theorem k_X4_init : XY yX4_init cX4_init 2 none 0 := ⟨xg_of 59 (by decide +kernel) rfl, xg_of 47 (by decide +kernel) rfl, by decide +kernel, by decide +kernel, by decide +kernel⟩
theorem k_X1_init : XY yX1_init cX1_init 2 none 0 := ⟨xg_of 67 (by decide +kernel) rfl, xg_of 48 (by decide +kernel) rfl, by decide +kernel, by decide +kernel, by decide +kernel⟩
theorem k_X0_init : XY yX0_init cX0_init 1 none 0 := ⟨xg_of 85 (by decide +kernel) rfl, xg_of 49 (by decide +kernel) rfl, by decide +kernel, by decide +kernel, by decide +kernel⟩
theorem k_X3_init : XY yX3_init cX3_init 1 none 0 := ⟨xg_of 124 (by decide +kernel) rfl, xg_of 50 (by decide +kernel) rfl, by decide +kernel, by decide +kernel, by decide +kernel⟩
theorem k_X2_init : XY yX2_init cX2_init 1 none 0 := ⟨xg_of 189 (by decide +kernel) rfl, xg_of 51 (by decide +kernel) rfl, by decide +kernel, by decide +kernel, by decide +kernel⟩
theorem k_X4_set : XY yX4_set cX4_set 3 (some .int) 2 := ⟨xg_of 254 (by decide +kernel) rfl, xg_of 47 (by decide +kernel) rfl, by decide +kernel, by decide +kernel, by decide +kernel⟩
theorem k_X4_keepPresent : XY yX4_keepPresent cX4_keepPresent 1 none 0 := ⟨xg_of 258 (by decide +kernel) rfl, xg_of 47 (by decide +kernel) rfl, by decide +kernel, by decide +kernel, by decide +kernel⟩
theorem k_X1_copyFrom : XY yX1_copyFrom cX1_copyFrom 3 none 1 := ⟨xg_of 262 (by decide +kernel) rfl, xg_of 48 (by decide +kernel) rfl, by decide +kernel, by decide +kernel, by decide +kernel⟩
theorem k_X0_copyFrom : XY yX0_copyFrom cX0_copyFrom 2 none 1 := ⟨xg_of 269 (by decide +kernel) rfl, xg_of 49 (by decide +kernel) rfl, by decide +kernel, by decide +kernel, by decide +kernel⟩
theorem k_X3_copyFrom : XY yX3_copyFrom cX3_copyFrom 2 none 1 := ⟨xg_of 273 (by decide +kernel) rfl, xg_of 50 (by decide +kernel) rfl, by decide +kernel, by decide +kernel, by decide +kernel⟩
theorem k_X1_changeSetting : XY yX1_changeSetting cX1_changeSetting 4 (some .int) 2 := ⟨xg_of 278 (by decide +kernel) rfl, xg_of 48 (by decide +kernel) rfl, by decide +kernel, by decide +kernel, by decide +kernel⟩
theorem k_X4_recorded : XY yX4_recorded cX4_recorded 2 (some .int) 1 := ⟨xg_of 287 (by decide +kernel) rfl, xg_of 47 (by decide +kernel) rfl, by decide +kernel, by decide +kernel, by decide +kernel⟩
theorem k_X4_isError : XY yX4_isError cX4_isError 1 (some .boolean) 1 := ⟨xg_of 290 (by decide +kernel) rfl, xg_of 47 (by decide +kernel) rfl, by decide +kernel, by decide +kernel, by decide +kernel⟩
theorem k_X4_recordKept : XY yX4_recordKept cX4_recordKept 2 none 0 := ⟨xg_of 296 (by decide +kernel) rfl, xg_of 47 (by decide +kernel) rfl, by decide +kernel, by decide +kernel, by decide +kernel⟩
theorem k_X4_dropOldest : XY yX4_dropOldest cX4_dropOldest 3 none 0 := ⟨xg_of 300 (by decide +kernel) rfl, xg_of 47 (by decide +kernel) rfl, by decide +kernel, by decide +kernel, by decide +kernel⟩
theorem k_X4_arrive : XY yX4_arrive cX4_arrive 5 (some .int) 4 := ⟨xg_of 304 (by decide +kernel) rfl, xg_of 47 (by decide +kernel) rfl, by decide +kernel, by decide +kernel, by decide +kernel⟩
theorem k_X1_letArrive : XY yX1_letArrive cX1_letArrive 6 (some .int) 4 := ⟨xg_of 308 (by decide +kernel) rfl, xg_of 48 (by decide +kernel) rfl, by decide +kernel, by decide +kernel, by decide +kernel⟩
theorem k_X1_isLoad : XY yX1_isLoad cX1_isLoad 1 (some .boolean) 1 := ⟨xg_of 311 (by decide +kernel) rfl, xg_of 48 (by decide +kernel) rfl, by decide +kernel, by decide +kernel, by decide +kernel⟩
theorem k_X4_berth : XY yX4_berth cX4_berth 1 (some .int) 0 := ⟨xg_of 316 (by decide +kernel) rfl, xg_of 47 (by decide +kernel) rfl, by decide +kernel, by decide +kernel, by decide +kernel⟩
theorem k_X1_letBerth : XY yX1_letBerth cX1_letBerth 3 (some .int) 0 := ⟨xg_of 320 (by decide +kernel) rfl, xg_of 48 (by decide +kernel) rfl, by decide +kernel, by decide +kernel, by decide +kernel⟩
theorem k_X3_draught : XY yX3_draught cX3_draught 1 (some .int) 0 := ⟨xg_of 324 (by decide +kernel) rfl, xg_of 50 (by decide +kernel) rfl, by decide +kernel, by decide +kernel, by decide +kernel⟩
theorem k_X3_allUnits : XY yX3_allUnits cX3_allUnits 3 (some .int) 0 := ⟨xg_of 328 (by decide +kernel) rfl, xg_of 50 (by decide +kernel) rfl, by decide +kernel, by decide +kernel, by decide +kernel⟩
theorem k_X1_floatsAt : XY yX1_floatsAt cX1_floatsAt 3 (some .boolean) 2 := ⟨xg_of 332 (by decide +kernel) rfl, xg_of 48 (by decide +kernel) rfl, by decide +kernel, by decide +kernel, by decide +kernel⟩
theorem k_X1_tideAt : XY yX1_tideAt cX1_tideAt 2 (some .int) 1 := ⟨xg_of 336 (by decide +kernel) rfl, xg_of 48 (by decide +kernel) rfl, by decide +kernel, by decide +kernel, by decide +kernel⟩
theorem k_J9_floorMod_7cf53 : XY yJ9_floorMod_7cf53 cJ9_floorMod_7cf53 3 (some .int) 2 := ⟨xg_of 341 (by decide +kernel) rfl, xg_of 54 (by decide +kernel) rfl, by decide +kernel, by decide +kernel, by decide +kernel⟩
theorem k_X4_leave : XY yX4_leave cX4_leave 1 (some .int) 0 := ⟨xg_of 347 (by decide +kernel) rfl, xg_of 47 (by decide +kernel) rfl, by decide +kernel, by decide +kernel, by decide +kernel⟩
theorem k_X1_letLeave : XY yX1_letLeave cX1_letLeave 1 (some .int) 0 := ⟨xg_of 351 (by decide +kernel) rfl, xg_of 48 (by decide +kernel) rfl, by decide +kernel, by decide +kernel, by decide +kernel⟩
theorem k_X1_connectedHoses : XY yX1_connectedHoses cX1_connectedHoses 3 (some .int) 0 := ⟨xg_of 355 (by decide +kernel) rfl, xg_of 48 (by decide +kernel) rfl, by decide +kernel, by decide +kernel, by decide +kernel⟩
theorem k_X0_isConnected : XY yX0_isConnected cX0_isConnected 1 (some .boolean) 0 := ⟨xg_of 359 (by decide +kernel) rfl, xg_of 49 (by decide +kernel) rfl, by decide +kernel, by decide +kernel, by decide +kernel⟩
theorem k_X4_isGrade : XY yX4_isGrade cX4_isGrade 1 (some .boolean) 1 := ⟨xg_of 362 (by decide +kernel) rfl, xg_of 47 (by decide +kernel) rfl, by decide +kernel, by decide +kernel, by decide +kernel⟩
theorem k_X4_reach : XY yX4_reach cX4_reach 3 (some .int) 2 := ⟨xg_of 366 (by decide +kernel) rfl, xg_of 47 (by decide +kernel) rfl, by decide +kernel, by decide +kernel, by decide +kernel⟩
theorem k_X1_changeReach : XY yX1_changeReach cX1_changeReach 4 (some .int) 2 := ⟨xg_of 370 (by decide +kernel) rfl, xg_of 48 (by decide +kernel) rfl, by decide +kernel, by decide +kernel, by decide +kernel⟩
theorem k_X4_isHose : XY yX4_isHose cX4_isHose 1 (some .boolean) 1 := ⟨xg_of 373 (by decide +kernel) rfl, xg_of 47 (by decide +kernel) rfl, by decide +kernel, by decide +kernel, by decide +kernel⟩
theorem k_X4_connect : XY yX4_connect cX4_connect 3 (some .int) 2 := ⟨xg_of 378 (by decide +kernel) rfl, xg_of 47 (by decide +kernel) rfl, by decide +kernel, by decide +kernel, by decide +kernel⟩
theorem k_X1_connectHose : XY yX1_connectHose cX1_connectHose 4 (some .int) 2 := ⟨xg_of 382 (by decide +kernel) rfl, xg_of 48 (by decide +kernel) rfl, by decide +kernel, by decide +kernel, by decide +kernel⟩
theorem k_X1_heightAt : XY yX1_heightAt cX1_heightAt 3 (some .int) 2 := ⟨xg_of 387 (by decide +kernel) rfl, xg_of 48 (by decide +kernel) rfl, by decide +kernel, by decide +kernel, by decide +kernel⟩
theorem k_X4_disconnect : XY yX4_disconnect cX4_disconnect 2 (some .int) 1 := ⟨xg_of 391 (by decide +kernel) rfl, xg_of 47 (by decide +kernel) rfl, by decide +kernel, by decide +kernel, by decide +kernel⟩
theorem k_X1_disconnectHose : XY yX1_disconnectHose cX1_disconnectHose 4 (some .int) 1 := ⟨xg_of 395 (by decide +kernel) rfl, xg_of 48 (by decide +kernel) rfl, by decide +kernel, by decide +kernel, by decide +kernel⟩
theorem k_X4_flush : XY yX4_flush cX4_flush 2 (some .int) 1 := ⟨xg_of 400 (by decide +kernel) rfl, xg_of 47 (by decide +kernel) rfl, by decide +kernel, by decide +kernel, by decide +kernel⟩
theorem k_X1_flushHose : XY yX1_flushHose cX1_flushHose 5 (some .int) 1 := ⟨xg_of 404 (by decide +kernel) rfl, xg_of 48 (by decide +kernel) rfl, by decide +kernel, by decide +kernel, by decide +kernel⟩
theorem k_X4_mend : XY yX4_mend cX4_mend 2 (some .int) 1 := ⟨xg_of 411 (by decide +kernel) rfl, xg_of 47 (by decide +kernel) rfl, by decide +kernel, by decide +kernel, by decide +kernel⟩
theorem k_X1_mendHose : XY yX1_mendHose cX1_mendHose 3 (some .int) 1 := ⟨xg_of 415 (by decide +kernel) rfl, xg_of 48 (by decide +kernel) rfl, by decide +kernel, by decide +kernel, by decide +kernel⟩
theorem k_X1_burstHoses : XY yX1_burstHoses cX1_burstHoses 3 (some .int) 0 := ⟨xg_of 419 (by decide +kernel) rfl, xg_of 48 (by decide +kernel) rfl, by decide +kernel, by decide +kernel, by decide +kernel⟩
theorem k_X4_boom : XY yX4_boom cX4_boom 2 (some .int) 1 := ⟨xg_of 423 (by decide +kernel) rfl, xg_of 47 (by decide +kernel) rfl, by decide +kernel, by decide +kernel, by decide +kernel⟩
theorem k_X1_changeBoom : XY yX1_changeBoom cX1_changeBoom 3 (some .int) 1 := ⟨xg_of 427 (by decide +kernel) rfl, xg_of 48 (by decide +kernel) rfl, by decide +kernel, by decide +kernel, by decide +kernel⟩
theorem k_X4_draw : XY yX4_draw cX4_draw 3 (some .int) 2 := ⟨xg_of 431 (by decide +kernel) rfl, xg_of 47 (by decide +kernel) rfl, by decide +kernel, by decide +kernel, by decide +kernel⟩
theorem k_X1_drawUnits : XY yX1_drawUnits cX1_drawUnits 3 (some .int) 2 := ⟨xg_of 435 (by decide +kernel) rfl, xg_of 48 (by decide +kernel) rfl, by decide +kernel, by decide +kernel, by decide +kernel⟩
theorem k_X4_pass : XY yX4_pass cX4_pass 2 (some .int) 1 := ⟨xg_of 439 (by decide +kernel) rfl, xg_of 47 (by decide +kernel) rfl, by decide +kernel, by decide +kernel, by decide +kernel⟩
theorem k_X1_letPass : XY yX1_letPass cX1_letPass 4 (some .int) 1 := ⟨xg_of 443 (by decide +kernel) rfl, xg_of 48 (by decide +kernel) rfl, by decide +kernel, by decide +kernel, by decide +kernel⟩
theorem k_X1_nextHour : XY yX1_nextHour cX1_nextHour 2 (some .int) 0 := ⟨xg_of 447 (by decide +kernel) rfl, xg_of 48 (by decide +kernel) rfl, by decide +kernel, by decide +kernel, by decide +kernel⟩
theorem k_X1_tearBoom : XY yX1_tearBoom cX1_tearBoom 2 none 0 := ⟨xg_of 451 (by decide +kernel) rfl, xg_of 48 (by decide +kernel) rfl, by decide +kernel, by decide +kernel, by decide +kernel⟩
theorem k_X1_burstShortHoses : XY yX1_burstShortHoses cX1_burstShortHoses 4 none 0 := ⟨xg_of 458 (by decide +kernel) rfl, xg_of 48 (by decide +kernel) rfl, by decide +kernel, by decide +kernel, by decide +kernel⟩
theorem k_X1_burst : XY yX1_burst cX1_burst 6 none 1 := ⟨xg_of 462 (by decide +kernel) rfl, xg_of 48 (by decide +kernel) rfl, by decide +kernel, by decide +kernel, by decide +kernel⟩
theorem k_X1_moveUnits : XY yX1_moveUnits cX1_moveUnits 3 (some .int) 0 := ⟨xg_of 466 (by decide +kernel) rfl, xg_of 48 (by decide +kernel) rfl, by decide +kernel, by decide +kernel, by decide +kernel⟩
theorem k_X1_moveThrough : XY yX1_moveThrough cX1_moveThrough 6 (some .int) 1 := ⟨xg_of 470 (by decide +kernel) rfl, xg_of 48 (by decide +kernel) rfl, by decide +kernel, by decide +kernel, by decide +kernel⟩
theorem k_X0_hasOtherLast : XY yX0_hasOtherLast cX0_hasOtherLast 1 (some .boolean) 0 := ⟨xg_of 474 (by decide +kernel) rfl, xg_of 49 (by decide +kernel) rfl, by decide +kernel, by decide +kernel, by decide +kernel⟩
theorem k_X1_lateTankers : XY yX1_lateTankers cX1_lateTankers 3 (some .int) 0 := ⟨xg_of 478 (by decide +kernel) rfl, xg_of 48 (by decide +kernel) rfl, by decide +kernel, by decide +kernel, by decide +kernel⟩
theorem k_X1_isTankerAt : XY yX1_isTankerAt cX1_isTankerAt 2 (some .boolean) 1 := ⟨xg_of 482 (by decide +kernel) rfl, xg_of 48 (by decide +kernel) rfl, by decide +kernel, by decide +kernel, by decide +kernel⟩
theorem k_X4_run : XY yX4_run cX4_run 2 (some .int) 0 := ⟨xg_of 486 (by decide +kernel) rfl, xg_of 47 (by decide +kernel) rfl, by decide +kernel, by decide +kernel, by decide +kernel⟩
theorem k_X2_firstFault : XY yX2_firstFault cX2_firstFault 1 (some .int) 0 := ⟨xg_of 490 (by decide +kernel) rfl, xg_of 51 (by decide +kernel) rfl, by decide +kernel, by decide +kernel, by decide +kernel⟩
theorem k_X2_readOrder : XY yX2_readOrder cX2_readOrder 1 (some .boolean) 0 := ⟨xg_of 494 (by decide +kernel) rfl, xg_of 51 (by decide +kernel) rfl, by decide +kernel, by decide +kernel, by decide +kernel⟩
theorem k_X2_next : XY yX2_next cX2_next 1 (some .char) 0 := ⟨xg_of 498 (by decide +kernel) rfl, xg_of 51 (by decide +kernel) rfl, by decide +kernel, by decide +kernel, by decide +kernel⟩
theorem k_X2_readUnits : XY yX2_readUnits cX2_readUnits 3 (some .boolean) 0 := ⟨xg_of 502 (by decide +kernel) rfl, xg_of 51 (by decide +kernel) rfl, by decide +kernel, by decide +kernel, by decide +kernel⟩
theorem k_X2_readNumber : XY yX2_readNumber cX2_readNumber 5 (some .int) 1 := ⟨xg_of 506 (by decide +kernel) rfl, xg_of 51 (by decide +kernel) rfl, by decide +kernel, by decide +kernel, by decide +kernel⟩
theorem k_X2_readHoseOrder : XY yX2_readHoseOrder cX2_readHoseOrder 1 (some .boolean) 0 := ⟨xg_of 511 (by decide +kernel) rfl, xg_of 51 (by decide +kernel) rfl, by decide +kernel, by decide +kernel, by decide +kernel⟩
theorem k_X4_doOrder : XY yX4_doOrder cX4_doOrder 1 (some .int) 0 := ⟨xg_of 520 (by decide +kernel) rfl, xg_of 47 (by decide +kernel) rfl, by decide +kernel, by decide +kernel, by decide +kernel⟩
theorem k_X4_tanker : XY yX4_tanker cX4_tanker 3 (some .int) 2 := ⟨xg_of 524 (by decide +kernel) rfl, xg_of 47 (by decide +kernel) rfl, by decide +kernel, by decide +kernel, by decide +kernel⟩
theorem k_X1_aboutTanker : XY yX1_aboutTanker cX1_aboutTanker 4 (some .int) 2 := ⟨xg_of 528 (by decide +kernel) rfl, xg_of 48 (by decide +kernel) rfl, by decide +kernel, by decide +kernel, by decide +kernel⟩
theorem k_X4_hose : XY yX4_hose cX4_hose 3 (some .int) 2 := ⟨xg_of 532 (by decide +kernel) rfl, xg_of 47 (by decide +kernel) rfl, by decide +kernel, by decide +kernel, by decide +kernel⟩
theorem k_X1_aboutHose : XY yX1_aboutHose cX1_aboutHose 4 (some .int) 2 := ⟨xg_of 536 (by decide +kernel) rfl, xg_of 48 (by decide +kernel) rfl, by decide +kernel, by decide +kernel, by decide +kernel⟩
theorem k_X4_grade : XY yX4_grade cX4_grade 3 (some .int) 2 := ⟨xg_of 540 (by decide +kernel) rfl, xg_of 47 (by decide +kernel) rfl, by decide +kernel, by decide +kernel, by decide +kernel⟩
theorem k_X1_aboutGrade : XY yX1_aboutGrade cX1_aboutGrade 3 (some .int) 2 := ⟨xg_of 544 (by decide +kernel) rfl, xg_of 48 (by decide +kernel) rfl, by decide +kernel, by decide +kernel, by decide +kernel⟩
theorem k_X1_unitsInTankers : XY yX1_unitsInTankers cX1_unitsInTankers 4 (some .int) 1 := ⟨xg_of 548 (by decide +kernel) rfl, xg_of 48 (by decide +kernel) rfl, by decide +kernel, by decide +kernel, by decide +kernel⟩
theorem k_X4_count : XY yX4_count cX4_count 2 (some .int) 1 := ⟨xg_of 552 (by decide +kernel) rfl, xg_of 47 (by decide +kernel) rfl, by decide +kernel, by decide +kernel, by decide +kernel⟩
theorem k_X1_number : XY yX1_number cX1_number 2 (some .int) 1 := ⟨xg_of 556 (by decide +kernel) rfl, xg_of 48 (by decide +kernel) rfl, by decide +kernel, by decide +kernel, by decide +kernel⟩
theorem k_X4_tide : XY yX4_tide cX4_tide 2 (some .int) 1 := ⟨xg_of 560 (by decide +kernel) rfl, xg_of 47 (by decide +kernel) rfl, by decide +kernel, by decide +kernel, by decide +kernel⟩
theorem k_X4_untilFloats : XY yX4_untilFloats cX4_untilFloats 3 (some .int) 0 := ⟨xg_of 566 (by decide +kernel) rfl, xg_of 47 (by decide +kernel) rfl, by decide +kernel, by decide +kernel, by decide +kernel⟩
theorem k_X4_safeFor : XY yX4_safeFor cX4_safeFor 3 (some .int) 1 := ⟨xg_of 572 (by decide +kernel) rfl, xg_of 47 (by decide +kernel) rfl, by decide +kernel, by decide +kernel, by decide +kernel⟩
theorem k_X4_untilEmpty : XY yX4_untilEmpty cX4_untilEmpty 2 (some .int) 0 := ⟨xg_of 579 (by decide +kernel) rfl, xg_of 47 (by decide +kernel) rfl, by decide +kernel, by decide +kernel, by decide +kernel⟩
theorem k_X4_ifPassed : XY yX4_ifPassed cX4_ifPassed 5 (some .int) 2 := ⟨xg_of 584 (by decide +kernel) rfl, xg_of 47 (by decide +kernel) rfl, by decide +kernel, by decide +kernel, by decide +kernel⟩
theorem k_X1_allSpoilt : XY yX1_allSpoilt cX1_allSpoilt 3 (some .int) 0 := ⟨xg_of 588 (by decide +kernel) rfl, xg_of 48 (by decide +kernel) rfl, by decide +kernel, by decide +kernel, by decide +kernel⟩
theorem k_X4_leastReach : XY yX4_leastReach cX4_leastReach 4 (some .int) 1 := ⟨xg_of 592 (by decide +kernel) rfl, xg_of 47 (by decide +kernel) rfl, by decide +kernel, by decide +kernel, by decide +kernel⟩
theorem k_X4_put : XY yX4_put cX4_put 3 (some .int) 1 := ⟨xg_of 596 (by decide +kernel) rfl, xg_of 47 (by decide +kernel) rfl, by decide +kernel, by decide +kernel, by decide +kernel⟩
theorem k_X2_append : XY yX2_append cX2_append 5 (some .int) 1 := ⟨xg_of 600 (by decide +kernel) rfl, xg_of 51 (by decide +kernel) rfl, by decide +kernel, by decide +kernel, by decide +kernel⟩
theorem k_X2_charactersIn : XY yX2_charactersIn cX2_charactersIn 7 (some .int) 1 := ⟨xg_of 603 (by decide +kernel) rfl, xg_of 51 (by decide +kernel) rfl, by decide +kernel, by decide +kernel, by decide +kernel⟩
theorem k_X4_wipe : XY yX4_wipe cX4_wipe 2 (some .int) 0 := ⟨xg_of 612 (by decide +kernel) rfl, xg_of 47 (by decide +kernel) rfl, by decide +kernel, by decide +kernel, by decide +kernel⟩
theorem k_X4_fault : XY yX4_fault cX4_fault 1 (some .int) 0 := ⟨xg_of 616 (by decide +kernel) rfl, xg_of 47 (by decide +kernel) rfl, by decide +kernel, by decide +kernel, by decide +kernel⟩
theorem k_X4_undo : XY yX4_undo cX4_undo 1 (some .int) 0 := ⟨xg_of 620 (by decide +kernel) rfl, xg_of 47 (by decide +kernel) rfl, by decide +kernel, by decide +kernel, by decide +kernel⟩
theorem k_X4_save : XY yX4_save cX4_save 2 (some .int) 1 := ⟨xg_of 624 (by decide +kernel) rfl, xg_of 47 (by decide +kernel) rfl, by decide +kernel, by decide +kernel, by decide +kernel⟩
theorem k_X4_isSlot : XY yX4_isSlot cX4_isSlot 1 (some .boolean) 1 := ⟨xg_of 627 (by decide +kernel) rfl, xg_of 47 (by decide +kernel) rfl, by decide +kernel, by decide +kernel, by decide +kernel⟩
theorem k_X4_restore : XY yX4_restore cX4_restore 2 (some .int) 1 := ⟨xg_of 631 (by decide +kernel) rfl, xg_of 47 (by decide +kernel) rfl, by decide +kernel, by decide +kernel, by decide +kernel⟩
theorem k_X5_init : XY yX5_init cX5_init 2 none 0 := ⟨xg_of 636 (by decide +kernel) rfl, xg_of 52 (by decide +kernel) rfl, by decide +kernel, by decide +kernel, by decide +kernel⟩
theorem k_X5_setHose : XY yX5_setHose cX5_setHose 4 none 3 := ⟨xg_of 641 (by decide +kernel) rfl, xg_of 52 (by decide +kernel) rfl, by decide +kernel, by decide +kernel, by decide +kernel⟩
theorem k_X5_set : XY yX5_set cX5_set 4 (some .int) 2 := ⟨xg_of 692 (by decide +kernel) rfl, xg_of 52 (by decide +kernel) rfl, by decide +kernel, by decide +kernel, by decide +kernel⟩
theorem k_X5_in : XY yX5_in cX5_in 3 (some .boolean) 3 := ⟨xg_of 695 (by decide +kernel) rfl, xg_of 52 (by decide +kernel) rfl, by decide +kernel, by decide +kernel, by decide +kernel⟩
theorem k_X5_lowest : XY yX5_lowest cX5_lowest 1 (some .int) 1 := ⟨xg_of 698 (by decide +kernel) rfl, xg_of 52 (by decide +kernel) rfl, by decide +kernel, by decide +kernel, by decide +kernel⟩
theorem k_X5_highest : XY yX5_highest cX5_highest 1 (some .int) 1 := ⟨xg_of 701 (by decide +kernel) rfl, xg_of 52 (by decide +kernel) rfl, by decide +kernel, by decide +kernel, by decide +kernel⟩
theorem k_X5_record : XY yX5_record cX5_record 2 none 0 := ⟨xg_of 706 (by decide +kernel) rfl, xg_of 52 (by decide +kernel) rfl, by decide +kernel, by decide +kernel, by decide +kernel⟩
theorem k_X5_arrive : XY yX5_arrive cX5_arrive 5 (some .int) 4 := ⟨xg_of 710 (by decide +kernel) rfl, xg_of 52 (by decide +kernel) rfl, by decide +kernel, by decide +kernel, by decide +kernel⟩
theorem k_X5_doArrive : XY yX5_doArrive cX5_doArrive 5 (some .int) 4 := ⟨xg_of 715 (by decide +kernel) rfl, xg_of 52 (by decide +kernel) rfl, by decide +kernel, by decide +kernel, by decide +kernel⟩
theorem k_X5_setTanker : XY yX5_setTanker cX5_setTanker 4 none 3 := ⟨xg_of 719 (by decide +kernel) rfl, xg_of 52 (by decide +kernel) rfl, by decide +kernel, by decide +kernel, by decide +kernel⟩
theorem k_X5_berth : XY yX5_berth cX5_berth 2 (some .int) 0 := ⟨xg_of 723 (by decide +kernel) rfl, xg_of 52 (by decide +kernel) rfl, by decide +kernel, by decide +kernel, by decide +kernel⟩
theorem k_X5_floats : XY yX5_floats cX5_floats 3 (some .boolean) 2 := ⟨xg_of 727 (by decide +kernel) rfl, xg_of 52 (by decide +kernel) rfl, by decide +kernel, by decide +kernel, by decide +kernel⟩
theorem k_X5_tideAt : XY yX5_tideAt cX5_tideAt 3 (some .int) 1 := ⟨xg_of 731 (by decide +kernel) rfl, xg_of 52 (by decide +kernel) rfl, by decide +kernel, by decide +kernel, by decide +kernel⟩
theorem k_X5_draughtOf : XY yX5_draughtOf cX5_draughtOf 2 (some .int) 1 := ⟨xg_of 735 (by decide +kernel) rfl, xg_of 52 (by decide +kernel) rfl, by decide +kernel, by decide +kernel, by decide +kernel⟩
theorem k_X5_unitsOf : XY yX5_unitsOf cX5_unitsOf 4 (some .int) 1 := ⟨xg_of 739 (by decide +kernel) rfl, xg_of 52 (by decide +kernel) rfl, by decide +kernel, by decide +kernel, by decide +kernel⟩
theorem k_X5_ofTanker : XY yX5_ofTanker cX5_ofTanker 3 (some .int) 2 := ⟨xg_of 743 (by decide +kernel) rfl, xg_of 52 (by decide +kernel) rfl, by decide +kernel, by decide +kernel, by decide +kernel⟩
theorem k_X5_leave : XY yX5_leave cX5_leave 2 (some .int) 0 := ⟨xg_of 748 (by decide +kernel) rfl, xg_of 52 (by decide +kernel) rfl, by decide +kernel, by decide +kernel, by decide +kernel⟩
theorem k_X5_connected : XY yX5_connected cX5_connected 3 (some .int) 0 := ⟨xg_of 752 (by decide +kernel) rfl, xg_of 52 (by decide +kernel) rfl, by decide +kernel, by decide +kernel, by decide +kernel⟩
theorem k_X5_isConnected : XY yX5_isConnected cX5_isConnected 2 (some .boolean) 1 := ⟨xg_of 756 (by decide +kernel) rfl, xg_of 52 (by decide +kernel) rfl, by decide +kernel, by decide +kernel, by decide +kernel⟩
theorem k_X5_hoseOf : XY yX5_hoseOf cX5_hoseOf 3 (some .int) 2 := ⟨xg_of 760 (by decide +kernel) rfl, xg_of 52 (by decide +kernel) rfl, by decide +kernel, by decide +kernel, by decide +kernel⟩
theorem k_X5_reach : XY yX5_reach cX5_reach 4 (some .int) 2 := ⟨xg_of 764 (by decide +kernel) rfl, xg_of 52 (by decide +kernel) rfl, by decide +kernel, by decide +kernel, by decide +kernel⟩
theorem k_X5_isHose : XY yX5_isHose cX5_isHose 1 (some .boolean) 1 := ⟨xg_of 767 (by decide +kernel) rfl, xg_of 52 (by decide +kernel) rfl, by decide +kernel, by decide +kernel, by decide +kernel⟩
theorem k_X5_connect : XY yX5_connect cX5_connect 3 (some .int) 2 := ⟨xg_of 772 (by decide +kernel) rfl, xg_of 52 (by decide +kernel) rfl, by decide +kernel, by decide +kernel, by decide +kernel⟩
theorem k_X5_isGrade : XY yX5_isGrade cX5_isGrade 1 (some .boolean) 1 := ⟨xg_of 775 (by decide +kernel) rfl, xg_of 52 (by decide +kernel) rfl, by decide +kernel, by decide +kernel, by decide +kernel⟩
theorem k_X5_canConnect : XY yX5_canConnect cX5_canConnect 2 (some .boolean) 1 := ⟨xg_of 779 (by decide +kernel) rfl, xg_of 52 (by decide +kernel) rfl, by decide +kernel, by decide +kernel, by decide +kernel⟩
theorem k_X5_heightOf : XY yX5_heightOf cX5_heightOf 2 (some .int) 1 := ⟨xg_of 783 (by decide +kernel) rfl, xg_of 52 (by decide +kernel) rfl, by decide +kernel, by decide +kernel, by decide +kernel⟩
theorem k_X5_tideNow : XY yX5_tideNow cX5_tideNow 1 (some .int) 0 := ⟨xg_of 787 (by decide +kernel) rfl, xg_of 52 (by decide +kernel) rfl, by decide +kernel, by decide +kernel, by decide +kernel⟩
theorem k_X5_doConnect : XY yX5_doConnect cX5_doConnect 3 (some .int) 2 := ⟨xg_of 791 (by decide +kernel) rfl, xg_of 52 (by decide +kernel) rfl, by decide +kernel, by decide +kernel, by decide +kernel⟩
theorem k_X5_disconnect : XY yX5_disconnect cX5_disconnect 2 (some .int) 1 := ⟨xg_of 795 (by decide +kernel) rfl, xg_of 52 (by decide +kernel) rfl, by decide +kernel, by decide +kernel, by decide +kernel⟩
theorem k_X5_doDisconnect : XY yX5_doDisconnect cX5_doDisconnect 3 (some .int) 1 := ⟨xg_of 799 (by decide +kernel) rfl, xg_of 52 (by decide +kernel) rfl, by decide +kernel, by decide +kernel, by decide +kernel⟩
theorem k_X5_flush : XY yX5_flush cX5_flush 2 (some .int) 1 := ⟨xg_of 803 (by decide +kernel) rfl, xg_of 52 (by decide +kernel) rfl, by decide +kernel, by decide +kernel, by decide +kernel⟩
theorem k_X5_canFlush : XY yX5_canFlush cX5_canFlush 2 (some .boolean) 1 := ⟨xg_of 807 (by decide +kernel) rfl, xg_of 52 (by decide +kernel) rfl, by decide +kernel, by decide +kernel, by decide +kernel⟩
theorem k_X5_doFlush : XY yX5_doFlush cX5_doFlush 4 (some .int) 1 := ⟨xg_of 811 (by decide +kernel) rfl, xg_of 52 (by decide +kernel) rfl, by decide +kernel, by decide +kernel, by decide +kernel⟩
theorem k_X5_least : XY yX5_least cX5_least 2 (some .int) 2 := ⟨xg_of 814 (by decide +kernel) rfl, xg_of 52 (by decide +kernel) rfl, by decide +kernel, by decide +kernel, by decide +kernel⟩
theorem k_X5_mend : XY yX5_mend cX5_mend 2 (some .int) 1 := ⟨xg_of 818 (by decide +kernel) rfl, xg_of 52 (by decide +kernel) rfl, by decide +kernel, by decide +kernel, by decide +kernel⟩
theorem k_X5_burst : XY yX5_burst cX5_burst 3 (some .int) 0 := ⟨xg_of 822 (by decide +kernel) rfl, xg_of 52 (by decide +kernel) rfl, by decide +kernel, by decide +kernel, by decide +kernel⟩
theorem k_X5_boom : XY yX5_boom cX5_boom 3 (some .int) 1 := ⟨xg_of 826 (by decide +kernel) rfl, xg_of 52 (by decide +kernel) rfl, by decide +kernel, by decide +kernel, by decide +kernel⟩
theorem k_X5_draw : XY yX5_draw cX5_draw 3 (some .int) 2 := ⟨xg_of 830 (by decide +kernel) rfl, xg_of 52 (by decide +kernel) rfl, by decide +kernel, by decide +kernel, by decide +kernel⟩
theorem k_X5_pass : XY yX5_pass cX5_pass 2 (some .int) 1 := ⟨xg_of 834 (by decide +kernel) rfl, xg_of 52 (by decide +kernel) rfl, by decide +kernel, by decide +kernel, by decide +kernel⟩
theorem k_X5_doPass : XY yX5_doPass cX5_doPass 4 (some .int) 1 := ⟨xg_of 838 (by decide +kernel) rfl, xg_of 52 (by decide +kernel) rfl, by decide +kernel, by decide +kernel, by decide +kernel⟩
theorem k_X5_hour : XY yX5_hour cX5_hour 6 (some .int) 0 := ⟨xg_of 842 (by decide +kernel) rfl, xg_of 52 (by decide +kernel) rfl, by decide +kernel, by decide +kernel, by decide +kernel⟩
theorem k_X5_bursts : XY yX5_bursts cX5_bursts 5 none 1 := ⟨xg_of 846 (by decide +kernel) rfl, xg_of 52 (by decide +kernel) rfl, by decide +kernel, by decide +kernel, by decide +kernel⟩
theorem k_X5_moves : XY yX5_moves cX5_moves 5 (some .int) 1 := ⟨xg_of 850 (by decide +kernel) rfl, xg_of 52 (by decide +kernel) rfl, by decide +kernel, by decide +kernel, by decide +kernel⟩
theorem k_X5_isTanker : XY yX5_isTanker cX5_isTanker 2 (some .boolean) 1 := ⟨xg_of 854 (by decide +kernel) rfl, xg_of 52 (by decide +kernel) rfl, by decide +kernel, by decide +kernel, by decide +kernel⟩
theorem k_X5_tanker : XY yX5_tanker cX5_tanker 3 (some .int) 2 := ⟨xg_of 858 (by decide +kernel) rfl, xg_of 52 (by decide +kernel) rfl, by decide +kernel, by decide +kernel, by decide +kernel⟩
theorem k_X5_hose : XY yX5_hose cX5_hose 3 (some .int) 2 := ⟨xg_of 862 (by decide +kernel) rfl, xg_of 52 (by decide +kernel) rfl, by decide +kernel, by decide +kernel, by decide +kernel⟩
theorem k_X5_grade : XY yX5_grade cX5_grade 5 (some .int) 2 := ⟨xg_of 866 (by decide +kernel) rfl, xg_of 52 (by decide +kernel) rfl, by decide +kernel, by decide +kernel, by decide +kernel⟩
theorem k_X5_count : XY yX5_count cX5_count 2 (some .int) 1 := ⟨xg_of 870 (by decide +kernel) rfl, xg_of 52 (by decide +kernel) rfl, by decide +kernel, by decide +kernel, by decide +kernel⟩
theorem k_X5_tide : XY yX5_tide cX5_tide 2 (some .int) 1 := ⟨xg_of 874 (by decide +kernel) rfl, xg_of 52 (by decide +kernel) rfl, by decide +kernel, by decide +kernel, by decide +kernel⟩
theorem k_X5_untilFloats : XY yX5_untilFloats cX5_untilFloats 3 (some .int) 0 := ⟨xg_of 878 (by decide +kernel) rfl, xg_of 52 (by decide +kernel) rfl, by decide +kernel, by decide +kernel, by decide +kernel⟩
theorem k_X5_safeFor : XY yX5_safeFor cX5_safeFor 3 (some .int) 1 := ⟨xg_of 882 (by decide +kernel) rfl, xg_of 52 (by decide +kernel) rfl, by decide +kernel, by decide +kernel, by decide +kernel⟩
theorem k_X5_safeHours : XY yX5_safeHours cX5_safeHours 5 (some .int) 2 := ⟨xg_of 886 (by decide +kernel) rfl, xg_of 52 (by decide +kernel) rfl, by decide +kernel, by decide +kernel, by decide +kernel⟩
theorem k_X5_keepRow : XY yX5_keepRow cX5_keepRow 2 none 0 := ⟨xg_of 890 (by decide +kernel) rfl, xg_of 52 (by decide +kernel) rfl, by decide +kernel, by decide +kernel, by decide +kernel⟩
theorem k_X5_putBack : XY yX5_putBack cX5_putBack 2 none 0 := ⟨xg_of 894 (by decide +kernel) rfl, xg_of 52 (by decide +kernel) rfl, by decide +kernel, by decide +kernel, by decide +kernel⟩
theorem k_X5_untilEmpty : XY yX5_untilEmpty cX5_untilEmpty 3 (some .int) 0 := ⟨xg_of 898 (by decide +kernel) rfl, xg_of 52 (by decide +kernel) rfl, by decide +kernel, by decide +kernel, by decide +kernel⟩
theorem k_X5_ifPassed : XY yX5_ifPassed cX5_ifPassed 8 (some .int) 2 := ⟨xg_of 902 (by decide +kernel) rfl, xg_of 52 (by decide +kernel) rfl, by decide +kernel, by decide +kernel, by decide +kernel⟩
theorem k_X5_spoiltInAll : XY yX5_spoiltInAll cX5_spoiltInAll 3 (some .int) 0 := ⟨xg_of 906 (by decide +kernel) rfl, xg_of 52 (by decide +kernel) rfl, by decide +kernel, by decide +kernel, by decide +kernel⟩
theorem k_X5_leastReach : XY yX5_leastReach cX5_leastReach 4 (some .int) 1 := ⟨xg_of 910 (by decide +kernel) rfl, xg_of 52 (by decide +kernel) rfl, by decide +kernel, by decide +kernel, by decide +kernel⟩
theorem k_X5_put : XY yX5_put cX5_put 8 (some .int) 1 := ⟨xg_of 914 (by decide +kernel) rfl, xg_of 52 (by decide +kernel) rfl, by decide +kernel, by decide +kernel, by decide +kernel⟩
theorem k_X5_wipe : XY yX5_wipe cX5_wipe 2 (some .int) 0 := ⟨xg_of 919 (by decide +kernel) rfl, xg_of 52 (by decide +kernel) rfl, by decide +kernel, by decide +kernel, by decide +kernel⟩
theorem k_X5_fault : XY yX5_fault cX5_fault 1 (some .int) 0 := ⟨xg_of 923 (by decide +kernel) rfl, xg_of 52 (by decide +kernel) rfl, by decide +kernel, by decide +kernel, by decide +kernel⟩
theorem k_X5_findFault : XY yX5_findFault cX5_findFault 1 (some .int) 0 := ⟨xg_of 927 (by decide +kernel) rfl, xg_of 52 (by decide +kernel) rfl, by decide +kernel, by decide +kernel, by decide +kernel⟩
theorem k_X5_readOrder : XY yX5_readOrder cX5_readOrder 1 none 0 := ⟨xg_of 931 (by decide +kernel) rfl, xg_of 52 (by decide +kernel) rfl, by decide +kernel, by decide +kernel, by decide +kernel⟩
theorem k_X5_sign : XY yX5_sign cX5_sign 1 (some .int) 0 := ⟨xg_of 935 (by decide +kernel) rfl, xg_of 52 (by decide +kernel) rfl, by decide +kernel, by decide +kernel, by decide +kernel⟩
theorem k_X5_isNext : XY yX5_isNext cX5_isNext 3 (some .boolean) 2 := ⟨xg_of 939 (by decide +kernel) rfl, xg_of 52 (by decide +kernel) rfl, by decide +kernel, by decide +kernel, by decide +kernel⟩
theorem k_X5_readHose : XY yX5_readHose cX5_readHose 1 none 0 := ⟨xg_of 943 (by decide +kernel) rfl, xg_of 52 (by decide +kernel) rfl, by decide +kernel, by decide +kernel, by decide +kernel⟩
theorem k_X5_readUnits : XY yX5_readUnits cX5_readUnits 3 none 0 := ⟨xg_of 947 (by decide +kernel) rfl, xg_of 52 (by decide +kernel) rfl, by decide +kernel, by decide +kernel, by decide +kernel⟩
theorem k_X5_readNumber : XY yX5_readNumber cX5_readNumber 2 none 1 := ⟨xg_of 951 (by decide +kernel) rfl, xg_of 52 (by decide +kernel) rfl, by decide +kernel, by decide +kernel, by decide +kernel⟩
theorem k_X5_run : XY yX5_run cX5_run 2 (some .int) 0 := ⟨xg_of 955 (by decide +kernel) rfl, xg_of 52 (by decide +kernel) rfl, by decide +kernel, by decide +kernel, by decide +kernel⟩
theorem k_X5_doOrder : XY yX5_doOrder cX5_doOrder 2 (some .boolean) 0 := ⟨xg_of 960 (by decide +kernel) rfl, xg_of 52 (by decide +kernel) rfl, by decide +kernel, by decide +kernel, by decide +kernel⟩
theorem k_X5_undo : XY yX5_undo cX5_undo 2 (some .int) 0 := ⟨xg_of 964 (by decide +kernel) rfl, xg_of 52 (by decide +kernel) rfl, by decide +kernel, by decide +kernel, by decide +kernel⟩
theorem k_X5_save : XY yX5_save cX5_save 3 (some .int) 1 := ⟨xg_of 968 (by decide +kernel) rfl, xg_of 52 (by decide +kernel) rfl, by decide +kernel, by decide +kernel, by decide +kernel⟩
theorem k_X5_restore : XY yX5_restore cX5_restore 3 (some .int) 1 := ⟨xg_of 972 (by decide +kernel) rfl, xg_of 52 (by decide +kernel) rfl, by decide +kernel, by decide +kernel, by decide +kernel⟩
theorem s_L_9 : XI RL 9 yX4_init := ⟨xg_of 57 (by decide +kernel) rfl, xg_of 58 (by decide +kernel) rfl, rfl⟩
theorem l_X4_1 : Cond.methodLink RX4 1 objectInit ∈ xgood := xg_of 60 (by decide +kernel) rfl
theorem s_X4_9 : XI RX4 9 yX1_init := ⟨xg_of 65 (by decide +kernel) rfl, xg_of 66 (by decide +kernel) rfl, rfl⟩
theorem l_X1_3 : Cond.methodLink RX1 3 objectInit ∈ xgood := xg_of 68 (by decide +kernel) rfl
theorem l_X1_13 : Cond.methodLink RX1 13 ⟨"[I", "clone", "()Ljava/lang/Object;"⟩ ∈ xgood := xg_of 71 (by decide +kernel) rfl
theorem s_X1_70 : XIN RX1 70 yX0_init RX4 := ⟨by decide +kernel, xg_of 84 (by decide +kernel) rfl, rfl⟩
theorem l_X0_3 : Cond.methodLink RX0 3 objectInit ∈ xgood := xg_of 86 (by decide +kernel) rfl
theorem s_X1_71 : XIN RX1 71 yX3_init RX4 := ⟨by decide +kernel, xg_of 123 (by decide +kernel) rfl, rfl⟩
theorem l_X3_3 : Cond.methodLink RX3 3 objectInit ∈ xgood := xg_of 125 (by decide +kernel) rfl
theorem s_X4_21 : XIN RX4 21 yX2_init RX4 := ⟨by decide +kernel, xg_of 188 (by decide +kernel) rfl, rfl⟩
theorem l_X2_3 : Cond.methodLink RX2 3 objectInit ∈ xgood := xg_of 190 (by decide +kernel) rfl
theorem s_L_13 : XV RL 13 yX4_set := ⟨xg_of 251 (by decide +kernel) rfl, xg_of 252 (by decide +kernel) rfl, xg_of 253 (by decide +kernel) rfl⟩
theorem s_X4_44 : XV RX4 44 yX4_keepPresent := ⟨xg_of 255 (by decide +kernel) rfl, xg_of 257 (by decide +kernel) rfl, xg_of 0 (by decide +kernel) rfl⟩
theorem s_X4_162 : XV RX4 162 yX1_copyFrom := ⟨xg_of 259 (by decide +kernel) rfl, xg_of 260 (by decide +kernel) rfl, xg_of 261 (by decide +kernel) rfl⟩
theorem l_X1_72 : Cond.methodLink RX1 72 arraycopyName ∈ xgood := xg_of 263 (by decide +kernel) rfl
theorem s_X1_78 : XV RX1 78 yX0_copyFrom := ⟨xg_of 266 (by decide +kernel) rfl, xg_of 267 (by decide +kernel) rfl, xg_of 268 (by decide +kernel) rfl⟩
theorem s_X1_82 : XV RX1 82 yX3_copyFrom := ⟨xg_of 270 (by decide +kernel) rfl, xg_of 271 (by decide +kernel) rfl, xg_of 272 (by decide +kernel) rfl⟩
theorem l_X3_19 : Cond.methodLink RX3 19 arraycopyName ∈ xgood := xg_of 274 (by decide +kernel) rfl
theorem s_X4_47 : XV RX4 47 yX1_changeSetting := ⟨xg_of 275 (by decide +kernel) rfl, xg_of 276 (by decide +kernel) rfl, xg_of 277 (by decide +kernel) rfl⟩
theorem s_X4_51 : XV RX4 51 yX4_recorded := ⟨xg_of 284 (by decide +kernel) rfl, xg_of 286 (by decide +kernel) rfl, xg_of 1 (by decide +kernel) rfl⟩
theorem s_X4_109 : XS RX4 109 yX4_isError := ⟨xg_of 288 (by decide +kernel) rfl, xg_of 289 (by decide +kernel) rfl⟩
theorem s_X4_201 : XV RX4 201 yX4_recordKept := ⟨xg_of 293 (by decide +kernel) rfl, xg_of 295 (by decide +kernel) rfl, xg_of 2 (by decide +kernel) rfl⟩
theorem s_X4_204 : XV RX4 204 yX4_dropOldest := ⟨xg_of 297 (by decide +kernel) rfl, xg_of 299 (by decide +kernel) rfl, xg_of 3 (by decide +kernel) rfl⟩
theorem s_L_18 : XV RL 18 yX4_arrive := ⟨xg_of 301 (by decide +kernel) rfl, xg_of 302 (by decide +kernel) rfl, xg_of 303 (by decide +kernel) rfl⟩
theorem s_X4_55 : XV RX4 55 yX1_letArrive := ⟨xg_of 305 (by decide +kernel) rfl, xg_of 306 (by decide +kernel) rfl, xg_of 307 (by decide +kernel) rfl⟩
theorem s_X1_105 : XS RX1 105 yX1_isLoad := ⟨xg_of 309 (by decide +kernel) rfl, xg_of 310 (by decide +kernel) rfl⟩
theorem s_L_23 : XV RL 23 yX4_berth := ⟨xg_of 313 (by decide +kernel) rfl, xg_of 314 (by decide +kernel) rfl, xg_of 315 (by decide +kernel) rfl⟩
theorem s_X4_59 : XV RX4 59 yX1_letBerth := ⟨xg_of 317 (by decide +kernel) rfl, xg_of 318 (by decide +kernel) rfl, xg_of 319 (by decide +kernel) rfl⟩
theorem s_X1_116 : XV RX1 116 yX3_draught := ⟨xg_of 321 (by decide +kernel) rfl, xg_of 322 (by decide +kernel) rfl, xg_of 323 (by decide +kernel) rfl⟩
theorem s_X3_25 : XV RX3 25 yX3_allUnits := ⟨xg_of 325 (by decide +kernel) rfl, xg_of 326 (by decide +kernel) rfl, xg_of 327 (by decide +kernel) rfl⟩
theorem s_X1_120 : XV RX1 120 yX1_floatsAt := ⟨xg_of 329 (by decide +kernel) rfl, xg_of 330 (by decide +kernel) rfl, xg_of 331 (by decide +kernel) rfl⟩
theorem s_X1_94 : XV RX1 94 yX1_tideAt := ⟨xg_of 333 (by decide +kernel) rfl, xg_of 334 (by decide +kernel) rfl, xg_of 335 (by decide +kernel) rfl⟩
theorem s_X1_88 : XS RX1 88 yJ9_floorMod_7cf53 := ⟨xg_of 339 (by decide +kernel) rfl, xg_of 340 (by decide +kernel) rfl⟩
theorem s_X1_125 : XV RX1 125 yX3_allUnits := ⟨xg_of 343 (by decide +kernel) rfl, xg_of 326 (by decide +kernel) rfl, xg_of 327 (by decide +kernel) rfl⟩
theorem s_L_28 : XV RL 28 yX4_leave := ⟨xg_of 344 (by decide +kernel) rfl, xg_of 345 (by decide +kernel) rfl, xg_of 346 (by decide +kernel) rfl⟩
theorem s_X4_63 : XV RX4 63 yX1_letLeave := ⟨xg_of 348 (by decide +kernel) rfl, xg_of 349 (by decide +kernel) rfl, xg_of 350 (by decide +kernel) rfl⟩
theorem s_X1_128 : XV RX1 128 yX1_connectedHoses := ⟨xg_of 352 (by decide +kernel) rfl, xg_of 353 (by decide +kernel) rfl, xg_of 354 (by decide +kernel) rfl⟩
theorem s_X1_144 : XV RX1 144 yX0_isConnected := ⟨xg_of 356 (by decide +kernel) rfl, xg_of 357 (by decide +kernel) rfl, xg_of 358 (by decide +kernel) rfl⟩
theorem s_X0_35 : XSN RX0 35 yX4_isGrade RX4 := ⟨by decide +kernel, xg_of 361 (by decide +kernel) rfl⟩
theorem s_L_32 : XV RL 32 yX4_reach := ⟨xg_of 363 (by decide +kernel) rfl, xg_of 364 (by decide +kernel) rfl, xg_of 365 (by decide +kernel) rfl⟩
theorem s_X4_66 : XV RX4 66 yX1_changeReach := ⟨xg_of 367 (by decide +kernel) rfl, xg_of 368 (by decide +kernel) rfl, xg_of 369 (by decide +kernel) rfl⟩
theorem s_X1_131 : XSN RX1 131 yX4_isHose RX4 := ⟨by decide +kernel, xg_of 372 (by decide +kernel) rfl⟩
theorem s_L_36 : XV RL 36 yX4_connect := ⟨xg_of 375 (by decide +kernel) rfl, xg_of 376 (by decide +kernel) rfl, xg_of 377 (by decide +kernel) rfl⟩
theorem s_X4_69 : XV RX4 69 yX1_connectHose := ⟨xg_of 379 (by decide +kernel) rfl, xg_of 380 (by decide +kernel) rfl, xg_of 381 (by decide +kernel) rfl⟩
theorem s_X1_138 : XSN RX1 138 yX4_isGrade RX4 := ⟨by decide +kernel, xg_of 361 (by decide +kernel) rfl⟩
theorem s_X1_148 : XV RX1 148 yX1_heightAt := ⟨xg_of 384 (by decide +kernel) rfl, xg_of 385 (by decide +kernel) rfl, xg_of 386 (by decide +kernel) rfl⟩
theorem s_L_40 : XV RL 40 yX4_disconnect := ⟨xg_of 388 (by decide +kernel) rfl, xg_of 389 (by decide +kernel) rfl, xg_of 390 (by decide +kernel) rfl⟩
theorem s_X4_72 : XV RX4 72 yX1_disconnectHose := ⟨xg_of 392 (by decide +kernel) rfl, xg_of 393 (by decide +kernel) rfl, xg_of 394 (by decide +kernel) rfl⟩
theorem s_L_45 : XV RL 45 yX4_flush := ⟨xg_of 397 (by decide +kernel) rfl, xg_of 398 (by decide +kernel) rfl, xg_of 399 (by decide +kernel) rfl⟩
theorem s_X4_75 : XV RX4 75 yX1_flushHose := ⟨xg_of 401 (by decide +kernel) rfl, xg_of 402 (by decide +kernel) rfl, xg_of 403 (by decide +kernel) rfl⟩
theorem l_X1_158 : Cond.methodLink RX1 158 Lib.Math.min.name ∈ xgood := xg_of 405 (by decide +kernel) rfl
theorem s_L_49 : XV RL 49 yX4_mend := ⟨xg_of 408 (by decide +kernel) rfl, xg_of 409 (by decide +kernel) rfl, xg_of 410 (by decide +kernel) rfl⟩
theorem s_X4_78 : XV RX4 78 yX1_mendHose := ⟨xg_of 412 (by decide +kernel) rfl, xg_of 413 (by decide +kernel) rfl, xg_of 414 (by decide +kernel) rfl⟩
theorem s_X1_161 : XV RX1 161 yX1_burstHoses := ⟨xg_of 416 (by decide +kernel) rfl, xg_of 417 (by decide +kernel) rfl, xg_of 418 (by decide +kernel) rfl⟩
theorem s_L_53 : XV RL 53 yX4_boom := ⟨xg_of 420 (by decide +kernel) rfl, xg_of 421 (by decide +kernel) rfl, xg_of 422 (by decide +kernel) rfl⟩
theorem s_X4_81 : XV RX4 81 yX1_changeBoom := ⟨xg_of 424 (by decide +kernel) rfl, xg_of 425 (by decide +kernel) rfl, xg_of 426 (by decide +kernel) rfl⟩
theorem s_L_58 : XV RL 58 yX4_draw := ⟨xg_of 428 (by decide +kernel) rfl, xg_of 429 (by decide +kernel) rfl, xg_of 430 (by decide +kernel) rfl⟩
theorem s_X4_85 : XV RX4 85 yX1_drawUnits := ⟨xg_of 432 (by decide +kernel) rfl, xg_of 433 (by decide +kernel) rfl, xg_of 434 (by decide +kernel) rfl⟩
theorem s_L_62 : XV RL 62 yX4_pass := ⟨xg_of 436 (by decide +kernel) rfl, xg_of 437 (by decide +kernel) rfl, xg_of 438 (by decide +kernel) rfl⟩
theorem s_X4_88 : XV RX4 88 yX1_letPass := ⟨xg_of 440 (by decide +kernel) rfl, xg_of 441 (by decide +kernel) rfl, xg_of 442 (by decide +kernel) rfl⟩
theorem s_X1_164 : XV RX1 164 yX1_nextHour := ⟨xg_of 444 (by decide +kernel) rfl, xg_of 445 (by decide +kernel) rfl, xg_of 446 (by decide +kernel) rfl⟩
theorem s_X1_167 : XV RX1 167 yX1_tearBoom := ⟨xg_of 448 (by decide +kernel) rfl, xg_of 449 (by decide +kernel) rfl, xg_of 450 (by decide +kernel) rfl⟩
theorem l_X1_179 : Cond.methodLink RX1 179 Lib.Math.abs.name ∈ xgood := xg_of 452 (by decide +kernel) rfl
theorem s_X1_170 : XV RX1 170 yX1_burstShortHoses := ⟨xg_of 455 (by decide +kernel) rfl, xg_of 456 (by decide +kernel) rfl, xg_of 457 (by decide +kernel) rfl⟩
theorem s_X1_185 : XV RX1 185 yX1_burst := ⟨xg_of 459 (by decide +kernel) rfl, xg_of 460 (by decide +kernel) rfl, xg_of 461 (by decide +kernel) rfl⟩
theorem s_X1_173 : XV RX1 173 yX1_moveUnits := ⟨xg_of 463 (by decide +kernel) rfl, xg_of 464 (by decide +kernel) rfl, xg_of 465 (by decide +kernel) rfl⟩
theorem s_X1_188 : XV RX1 188 yX1_moveThrough := ⟨xg_of 467 (by decide +kernel) rfl, xg_of 468 (by decide +kernel) rfl, xg_of 469 (by decide +kernel) rfl⟩
theorem s_X1_192 : XV RX1 192 yX0_hasOtherLast := ⟨xg_of 471 (by decide +kernel) rfl, xg_of 472 (by decide +kernel) rfl, xg_of 473 (by decide +kernel) rfl⟩
theorem s_X1_176 : XV RX1 176 yX1_lateTankers := ⟨xg_of 475 (by decide +kernel) rfl, xg_of 476 (by decide +kernel) rfl, xg_of 477 (by decide +kernel) rfl⟩
theorem s_X1_200 : XV RX1 200 yX1_isTankerAt := ⟨xg_of 479 (by decide +kernel) rfl, xg_of 480 (by decide +kernel) rfl, xg_of 481 (by decide +kernel) rfl⟩
theorem s_L_66 : XV RL 66 yX4_run := ⟨xg_of 483 (by decide +kernel) rfl, xg_of 484 (by decide +kernel) rfl, xg_of 485 (by decide +kernel) rfl⟩
theorem s_X4_91 : XV RX4 91 yX2_firstFault := ⟨xg_of 487 (by decide +kernel) rfl, xg_of 488 (by decide +kernel) rfl, xg_of 489 (by decide +kernel) rfl⟩
theorem s_X2_50 : XV RX2 50 yX2_readOrder := ⟨xg_of 491 (by decide +kernel) rfl, xg_of 492 (by decide +kernel) rfl, xg_of 493 (by decide +kernel) rfl⟩
theorem s_X2_55 : XV RX2 55 yX2_next := ⟨xg_of 495 (by decide +kernel) rfl, xg_of 497 (by decide +kernel) rfl, xg_of 4 (by decide +kernel) rfl⟩
theorem s_X2_59 : XV RX2 59 yX2_readUnits := ⟨xg_of 499 (by decide +kernel) rfl, xg_of 501 (by decide +kernel) rfl, xg_of 5 (by decide +kernel) rfl⟩
theorem s_X2_62 : XV RX2 62 yX2_readNumber := ⟨xg_of 503 (by decide +kernel) rfl, xg_of 505 (by decide +kernel) rfl, xg_of 6 (by decide +kernel) rfl⟩
theorem s_X2_66 : XSN RX2 66 yX4_isHose RX4 := ⟨by decide +kernel, xg_of 372 (by decide +kernel) rfl⟩
theorem s_X2_70 : XV RX2 70 yX2_readHoseOrder := ⟨xg_of 508 (by decide +kernel) rfl, xg_of 510 (by decide +kernel) rfl, xg_of 7 (by decide +kernel) rfl⟩
theorem s_X2_73 : XSN RX2 73 yX4_isGrade RX4 := ⟨by decide +kernel, xg_of 361 (by decide +kernel) rfl⟩
theorem s_X4_102 : XV RX4 102 yX2_readOrder := ⟨xg_of 516 (by decide +kernel) rfl, xg_of 492 (by decide +kernel) rfl, xg_of 493 (by decide +kernel) rfl⟩
theorem s_X4_106 : XV RX4 106 yX4_doOrder := ⟨xg_of 517 (by decide +kernel) rfl, xg_of 519 (by decide +kernel) rfl, xg_of 8 (by decide +kernel) rfl⟩
theorem s_L_70 : XV RL 70 yX4_tanker := ⟨xg_of 521 (by decide +kernel) rfl, xg_of 522 (by decide +kernel) rfl, xg_of 523 (by decide +kernel) rfl⟩
theorem s_X4_113 : XV RX4 113 yX1_aboutTanker := ⟨xg_of 525 (by decide +kernel) rfl, xg_of 526 (by decide +kernel) rfl, xg_of 527 (by decide +kernel) rfl⟩
theorem s_L_74 : XV RL 74 yX4_hose := ⟨xg_of 529 (by decide +kernel) rfl, xg_of 530 (by decide +kernel) rfl, xg_of 531 (by decide +kernel) rfl⟩
theorem s_X4_116 : XV RX4 116 yX1_aboutHose := ⟨xg_of 533 (by decide +kernel) rfl, xg_of 534 (by decide +kernel) rfl, xg_of 535 (by decide +kernel) rfl⟩
theorem s_L_78 : XV RL 78 yX4_grade := ⟨xg_of 537 (by decide +kernel) rfl, xg_of 538 (by decide +kernel) rfl, xg_of 539 (by decide +kernel) rfl⟩
theorem s_X4_119 : XV RX4 119 yX1_aboutGrade := ⟨xg_of 541 (by decide +kernel) rfl, xg_of 542 (by decide +kernel) rfl, xg_of 543 (by decide +kernel) rfl⟩
theorem s_X1_203 : XV RX1 203 yX1_unitsInTankers := ⟨xg_of 545 (by decide +kernel) rfl, xg_of 546 (by decide +kernel) rfl, xg_of 547 (by decide +kernel) rfl⟩
theorem s_L_82 : XV RL 82 yX4_count := ⟨xg_of 549 (by decide +kernel) rfl, xg_of 550 (by decide +kernel) rfl, xg_of 551 (by decide +kernel) rfl⟩
theorem s_X4_122 : XV RX4 122 yX1_number := ⟨xg_of 553 (by decide +kernel) rfl, xg_of 554 (by decide +kernel) rfl, xg_of 555 (by decide +kernel) rfl⟩
theorem s_L_86 : XV RL 86 yX4_tide := ⟨xg_of 557 (by decide +kernel) rfl, xg_of 558 (by decide +kernel) rfl, xg_of 559 (by decide +kernel) rfl⟩
theorem s_X4_126 : XV RX4 126 yX1_tideAt := ⟨xg_of 562 (by decide +kernel) rfl, xg_of 334 (by decide +kernel) rfl, xg_of 335 (by decide +kernel) rfl⟩
theorem s_L_90 : XV RL 90 yX4_untilFloats := ⟨xg_of 563 (by decide +kernel) rfl, xg_of 564 (by decide +kernel) rfl, xg_of 565 (by decide +kernel) rfl⟩
theorem s_X4_137 : XV RX4 137 yX3_draught := ⟨xg_of 567 (by decide +kernel) rfl, xg_of 322 (by decide +kernel) rfl, xg_of 323 (by decide +kernel) rfl⟩
theorem s_X4_145 : XV RX4 145 yX1_floatsAt := ⟨xg_of 568 (by decide +kernel) rfl, xg_of 330 (by decide +kernel) rfl, xg_of 331 (by decide +kernel) rfl⟩
theorem s_L_94 : XV RL 94 yX4_safeFor := ⟨xg_of 569 (by decide +kernel) rfl, xg_of 570 (by decide +kernel) rfl, xg_of 571 (by decide +kernel) rfl⟩
theorem s_X4_149 : XS RX4 149 yX4_isHose := ⟨xg_of 573 (by decide +kernel) rfl, xg_of 372 (by decide +kernel) rfl⟩
theorem s_X4_157 : XV RX4 157 yX0_isConnected := ⟨xg_of 574 (by decide +kernel) rfl, xg_of 357 (by decide +kernel) rfl, xg_of 358 (by decide +kernel) rfl⟩
theorem s_X4_166 : XV RX4 166 yX1_nextHour := ⟨xg_of 575 (by decide +kernel) rfl, xg_of 445 (by decide +kernel) rfl, xg_of 446 (by decide +kernel) rfl⟩
theorem s_L_98 : XV RL 98 yX4_untilEmpty := ⟨xg_of 576 (by decide +kernel) rfl, xg_of 577 (by decide +kernel) rfl, xg_of 578 (by decide +kernel) rfl⟩
theorem s_X4_176 : XV RX4 176 yX3_allUnits := ⟨xg_of 580 (by decide +kernel) rfl, xg_of 326 (by decide +kernel) rfl, xg_of 327 (by decide +kernel) rfl⟩
theorem s_L_102 : XV RL 102 yX4_ifPassed := ⟨xg_of 581 (by decide +kernel) rfl, xg_of 582 (by decide +kernel) rfl, xg_of 583 (by decide +kernel) rfl⟩
theorem s_X4_182 : XV RX4 182 yX1_allSpoilt := ⟨xg_of 585 (by decide +kernel) rfl, xg_of 586 (by decide +kernel) rfl, xg_of 587 (by decide +kernel) rfl⟩
theorem s_L_106 : XV RL 106 yX4_leastReach := ⟨xg_of 589 (by decide +kernel) rfl, xg_of 590 (by decide +kernel) rfl, xg_of 591 (by decide +kernel) rfl⟩
theorem s_L_112 : XV RL 112 yX4_put := ⟨xg_of 593 (by decide +kernel) rfl, xg_of 594 (by decide +kernel) rfl, xg_of 595 (by decide +kernel) rfl⟩
theorem s_X4_194 : XV RX4 194 yX2_append := ⟨xg_of 597 (by decide +kernel) rfl, xg_of 598 (by decide +kernel) rfl, xg_of 599 (by decide +kernel) rfl⟩
theorem s_X2_38 : XS RX2 38 yX2_charactersIn := ⟨xg_of 601 (by decide +kernel) rfl, xg_of 602 (by decide +kernel) rfl⟩
theorem s_L_117 : XV RL 117 yX4_wipe := ⟨xg_of 609 (by decide +kernel) rfl, xg_of 610 (by decide +kernel) rfl, xg_of 611 (by decide +kernel) rfl⟩
theorem s_L_121 : XV RL 121 yX4_fault := ⟨xg_of 613 (by decide +kernel) rfl, xg_of 614 (by decide +kernel) rfl, xg_of 615 (by decide +kernel) rfl⟩
theorem s_L_125 : XV RL 125 yX4_undo := ⟨xg_of 617 (by decide +kernel) rfl, xg_of 618 (by decide +kernel) rfl, xg_of 619 (by decide +kernel) rfl⟩
theorem s_L_129 : XV RL 129 yX4_save := ⟨xg_of 621 (by decide +kernel) rfl, xg_of 622 (by decide +kernel) rfl, xg_of 623 (by decide +kernel) rfl⟩
theorem s_X4_198 : XS RX4 198 yX4_isSlot := ⟨xg_of 625 (by decide +kernel) rfl, xg_of 626 (by decide +kernel) rfl⟩
theorem s_L_133 : XV RL 133 yX4_restore := ⟨xg_of 628 (by decide +kernel) rfl, xg_of 629 (by decide +kernel) rfl, xg_of 630 (by decide +kernel) rfl⟩
theorem s_L_12 : XI RL 12 yX5_init := ⟨xg_of 634 (by decide +kernel) rfl, xg_of 635 (by decide +kernel) rfl, rfl⟩
theorem l_X5_1 : Cond.methodLink RX5 1 objectInit ∈ xgood := xg_of 637 (by decide +kernel) rfl
theorem s_X5_32 : XV RX5 32 yX5_setHose := ⟨xg_of 638 (by decide +kernel) rfl, xg_of 640 (by decide +kernel) rfl, xg_of 9 (by decide +kernel) rfl⟩
theorem s_L_17 : XV RL 17 yX5_set := ⟨xg_of 689 (by decide +kernel) rfl, xg_of 690 (by decide +kernel) rfl, xg_of 691 (by decide +kernel) rfl⟩
theorem s_X5_59 : XS RX5 59 yX5_in := ⟨xg_of 693 (by decide +kernel) rfl, xg_of 694 (by decide +kernel) rfl⟩
theorem s_X5_93 : XS RX5 93 yX5_lowest := ⟨xg_of 696 (by decide +kernel) rfl, xg_of 697 (by decide +kernel) rfl⟩
theorem s_X5_96 : XS RX5 96 yX5_highest := ⟨xg_of 699 (by decide +kernel) rfl, xg_of 700 (by decide +kernel) rfl⟩
theorem s_X5_100 : XV RX5 100 yX5_record := ⟨xg_of 703 (by decide +kernel) rfl, xg_of 705 (by decide +kernel) rfl, xg_of 10 (by decide +kernel) rfl⟩
theorem s_L_22 : XV RL 22 yX5_arrive := ⟨xg_of 707 (by decide +kernel) rfl, xg_of 708 (by decide +kernel) rfl, xg_of 709 (by decide +kernel) rfl⟩
theorem s_X5_104 : XV RX5 104 yX5_doArrive := ⟨xg_of 712 (by decide +kernel) rfl, xg_of 714 (by decide +kernel) rfl, xg_of 11 (by decide +kernel) rfl⟩
theorem s_X5_73 : XV RX5 73 yX5_setTanker := ⟨xg_of 716 (by decide +kernel) rfl, xg_of 718 (by decide +kernel) rfl, xg_of 12 (by decide +kernel) rfl⟩
theorem s_L_27 : XV RL 27 yX5_berth := ⟨xg_of 720 (by decide +kernel) rfl, xg_of 721 (by decide +kernel) rfl, xg_of 722 (by decide +kernel) rfl⟩
theorem s_X5_83 : XV RX5 83 yX5_floats := ⟨xg_of 724 (by decide +kernel) rfl, xg_of 726 (by decide +kernel) rfl, xg_of 13 (by decide +kernel) rfl⟩
theorem s_X5_41 : XV RX5 41 yX5_tideAt := ⟨xg_of 728 (by decide +kernel) rfl, xg_of 730 (by decide +kernel) rfl, xg_of 14 (by decide +kernel) rfl⟩
theorem s_X5_56 : XV RX5 56 yX5_draughtOf := ⟨xg_of 732 (by decide +kernel) rfl, xg_of 734 (by decide +kernel) rfl, xg_of 15 (by decide +kernel) rfl⟩
theorem s_X5_49 : XV RX5 49 yX5_unitsOf := ⟨xg_of 736 (by decide +kernel) rfl, xg_of 738 (by decide +kernel) rfl, xg_of 16 (by decide +kernel) rfl⟩
theorem s_X5_45 : XV RX5 45 yX5_ofTanker := ⟨xg_of 740 (by decide +kernel) rfl, xg_of 742 (by decide +kernel) rfl, xg_of 17 (by decide +kernel) rfl⟩
theorem s_L_31 : XV RL 31 yX5_leave := ⟨xg_of 745 (by decide +kernel) rfl, xg_of 746 (by decide +kernel) rfl, xg_of 747 (by decide +kernel) rfl⟩
theorem s_X5_109 : XV RX5 109 yX5_connected := ⟨xg_of 749 (by decide +kernel) rfl, xg_of 751 (by decide +kernel) rfl, xg_of 18 (by decide +kernel) rfl⟩
theorem s_X5_66 : XV RX5 66 yX5_isConnected := ⟨xg_of 753 (by decide +kernel) rfl, xg_of 755 (by decide +kernel) rfl, xg_of 19 (by decide +kernel) rfl⟩
theorem s_X5_63 : XV RX5 63 yX5_hoseOf := ⟨xg_of 757 (by decide +kernel) rfl, xg_of 759 (by decide +kernel) rfl, xg_of 20 (by decide +kernel) rfl⟩
theorem s_L_35 : XV RL 35 yX5_reach := ⟨xg_of 761 (by decide +kernel) rfl, xg_of 762 (by decide +kernel) rfl, xg_of 763 (by decide +kernel) rfl⟩
theorem s_X5_112 : XS RX5 112 yX5_isHose := ⟨xg_of 765 (by decide +kernel) rfl, xg_of 766 (by decide +kernel) rfl⟩
theorem s_L_39 : XV RL 39 yX5_connect := ⟨xg_of 769 (by decide +kernel) rfl, xg_of 770 (by decide +kernel) rfl, xg_of 771 (by decide +kernel) rfl⟩
theorem s_X5_116 : XS RX5 116 yX5_isGrade := ⟨xg_of 773 (by decide +kernel) rfl, xg_of 774 (by decide +kernel) rfl⟩
theorem s_X5_119 : XV RX5 119 yX5_canConnect := ⟨xg_of 776 (by decide +kernel) rfl, xg_of 778 (by decide +kernel) rfl, xg_of 21 (by decide +kernel) rfl⟩
theorem s_X5_76 : XV RX5 76 yX5_heightOf := ⟨xg_of 780 (by decide +kernel) rfl, xg_of 782 (by decide +kernel) rfl, xg_of 22 (by decide +kernel) rfl⟩
theorem s_X5_52 : XV RX5 52 yX5_tideNow := ⟨xg_of 784 (by decide +kernel) rfl, xg_of 786 (by decide +kernel) rfl, xg_of 23 (by decide +kernel) rfl⟩
theorem s_X5_122 : XV RX5 122 yX5_doConnect := ⟨xg_of 788 (by decide +kernel) rfl, xg_of 790 (by decide +kernel) rfl, xg_of 24 (by decide +kernel) rfl⟩
theorem s_L_44 : XV RL 44 yX5_disconnect := ⟨xg_of 792 (by decide +kernel) rfl, xg_of 793 (by decide +kernel) rfl, xg_of 794 (by decide +kernel) rfl⟩
theorem s_X5_125 : XV RX5 125 yX5_doDisconnect := ⟨xg_of 796 (by decide +kernel) rfl, xg_of 798 (by decide +kernel) rfl, xg_of 25 (by decide +kernel) rfl⟩
theorem s_L_48 : XV RL 48 yX5_flush := ⟨xg_of 800 (by decide +kernel) rfl, xg_of 801 (by decide +kernel) rfl, xg_of 802 (by decide +kernel) rfl⟩
theorem s_X5_128 : XV RX5 128 yX5_canFlush := ⟨xg_of 804 (by decide +kernel) rfl, xg_of 806 (by decide +kernel) rfl, xg_of 26 (by decide +kernel) rfl⟩
theorem s_X5_131 : XV RX5 131 yX5_doFlush := ⟨xg_of 808 (by decide +kernel) rfl, xg_of 810 (by decide +kernel) rfl, xg_of 27 (by decide +kernel) rfl⟩
theorem s_X5_70 : XS RX5 70 yX5_least := ⟨xg_of 812 (by decide +kernel) rfl, xg_of 813 (by decide +kernel) rfl⟩
theorem s_L_52 : XV RL 52 yX5_mend := ⟨xg_of 815 (by decide +kernel) rfl, xg_of 816 (by decide +kernel) rfl, xg_of 817 (by decide +kernel) rfl⟩
theorem s_X5_134 : XV RX5 134 yX5_burst := ⟨xg_of 819 (by decide +kernel) rfl, xg_of 821 (by decide +kernel) rfl, xg_of 28 (by decide +kernel) rfl⟩
theorem s_L_57 : XV RL 57 yX5_boom := ⟨xg_of 823 (by decide +kernel) rfl, xg_of 824 (by decide +kernel) rfl, xg_of 825 (by decide +kernel) rfl⟩
theorem s_L_61 : XV RL 61 yX5_draw := ⟨xg_of 827 (by decide +kernel) rfl, xg_of 828 (by decide +kernel) rfl, xg_of 829 (by decide +kernel) rfl⟩
theorem s_L_65 : XV RL 65 yX5_pass := ⟨xg_of 831 (by decide +kernel) rfl, xg_of 832 (by decide +kernel) rfl, xg_of 833 (by decide +kernel) rfl⟩
theorem s_X5_140 : XV RX5 140 yX5_doPass := ⟨xg_of 835 (by decide +kernel) rfl, xg_of 837 (by decide +kernel) rfl, xg_of 29 (by decide +kernel) rfl⟩
theorem s_X5_137 : XV RX5 137 yX5_hour := ⟨xg_of 839 (by decide +kernel) rfl, xg_of 841 (by decide +kernel) rfl, xg_of 30 (by decide +kernel) rfl⟩
theorem s_X5_79 : XV RX5 79 yX5_bursts := ⟨xg_of 843 (by decide +kernel) rfl, xg_of 845 (by decide +kernel) rfl, xg_of 31 (by decide +kernel) rfl⟩
theorem s_X5_87 : XV RX5 87 yX5_moves := ⟨xg_of 847 (by decide +kernel) rfl, xg_of 849 (by decide +kernel) rfl, xg_of 32 (by decide +kernel) rfl⟩
theorem s_X5_90 : XV RX5 90 yX5_isTanker := ⟨xg_of 851 (by decide +kernel) rfl, xg_of 853 (by decide +kernel) rfl, xg_of 33 (by decide +kernel) rfl⟩
theorem s_L_73 : XV RL 73 yX5_tanker := ⟨xg_of 855 (by decide +kernel) rfl, xg_of 856 (by decide +kernel) rfl, xg_of 857 (by decide +kernel) rfl⟩
theorem s_L_77 : XV RL 77 yX5_hose := ⟨xg_of 859 (by decide +kernel) rfl, xg_of 860 (by decide +kernel) rfl, xg_of 861 (by decide +kernel) rfl⟩
theorem s_L_81 : XV RL 81 yX5_grade := ⟨xg_of 863 (by decide +kernel) rfl, xg_of 864 (by decide +kernel) rfl, xg_of 865 (by decide +kernel) rfl⟩
theorem s_L_85 : XV RL 85 yX5_count := ⟨xg_of 867 (by decide +kernel) rfl, xg_of 868 (by decide +kernel) rfl, xg_of 869 (by decide +kernel) rfl⟩
theorem s_L_89 : XV RL 89 yX5_tide := ⟨xg_of 871 (by decide +kernel) rfl, xg_of 872 (by decide +kernel) rfl, xg_of 873 (by decide +kernel) rfl⟩
theorem s_L_93 : XV RL 93 yX5_untilFloats := ⟨xg_of 875 (by decide +kernel) rfl, xg_of 876 (by decide +kernel) rfl, xg_of 877 (by decide +kernel) rfl⟩
theorem s_L_97 : XV RL 97 yX5_safeFor := ⟨xg_of 879 (by decide +kernel) rfl, xg_of 880 (by decide +kernel) rfl, xg_of 881 (by decide +kernel) rfl⟩
theorem s_X5_152 : XV RX5 152 yX5_safeHours := ⟨xg_of 883 (by decide +kernel) rfl, xg_of 885 (by decide +kernel) rfl, xg_of 34 (by decide +kernel) rfl⟩
theorem s_X5_146 : XV RX5 146 yX5_keepRow := ⟨xg_of 887 (by decide +kernel) rfl, xg_of 889 (by decide +kernel) rfl, xg_of 35 (by decide +kernel) rfl⟩
theorem s_X5_149 : XV RX5 149 yX5_putBack := ⟨xg_of 891 (by decide +kernel) rfl, xg_of 893 (by decide +kernel) rfl, xg_of 36 (by decide +kernel) rfl⟩
theorem s_L_101 : XV RL 101 yX5_untilEmpty := ⟨xg_of 895 (by decide +kernel) rfl, xg_of 896 (by decide +kernel) rfl, xg_of 897 (by decide +kernel) rfl⟩
theorem s_L_105 : XV RL 105 yX5_ifPassed := ⟨xg_of 899 (by decide +kernel) rfl, xg_of 900 (by decide +kernel) rfl, xg_of 901 (by decide +kernel) rfl⟩
theorem s_X5_155 : XV RX5 155 yX5_spoiltInAll := ⟨xg_of 903 (by decide +kernel) rfl, xg_of 905 (by decide +kernel) rfl, xg_of 37 (by decide +kernel) rfl⟩
theorem s_L_109 : XV RL 109 yX5_leastReach := ⟨xg_of 907 (by decide +kernel) rfl, xg_of 908 (by decide +kernel) rfl, xg_of 909 (by decide +kernel) rfl⟩
theorem s_L_116 : XV RL 116 yX5_put := ⟨xg_of 911 (by decide +kernel) rfl, xg_of 912 (by decide +kernel) rfl, xg_of 913 (by decide +kernel) rfl⟩
theorem s_L_120 : XV RL 120 yX5_wipe := ⟨xg_of 916 (by decide +kernel) rfl, xg_of 917 (by decide +kernel) rfl, xg_of 918 (by decide +kernel) rfl⟩
theorem s_L_124 : XV RL 124 yX5_fault := ⟨xg_of 920 (by decide +kernel) rfl, xg_of 921 (by decide +kernel) rfl, xg_of 922 (by decide +kernel) rfl⟩
theorem s_X5_197 : XV RX5 197 yX5_findFault := ⟨xg_of 924 (by decide +kernel) rfl, xg_of 926 (by decide +kernel) rfl, xg_of 38 (by decide +kernel) rfl⟩
theorem s_X5_194 : XV RX5 194 yX5_readOrder := ⟨xg_of 928 (by decide +kernel) rfl, xg_of 930 (by decide +kernel) rfl, xg_of 39 (by decide +kernel) rfl⟩
theorem s_X5_167 : XV RX5 167 yX5_sign := ⟨xg_of 932 (by decide +kernel) rfl, xg_of 934 (by decide +kernel) rfl, xg_of 40 (by decide +kernel) rfl⟩
theorem s_X5_173 : XV RX5 173 yX5_isNext := ⟨xg_of 936 (by decide +kernel) rfl, xg_of 938 (by decide +kernel) rfl, xg_of 41 (by decide +kernel) rfl⟩
theorem s_X5_188 : XV RX5 188 yX5_readHose := ⟨xg_of 940 (by decide +kernel) rfl, xg_of 942 (by decide +kernel) rfl, xg_of 42 (by decide +kernel) rfl⟩
theorem s_X5_191 : XV RX5 191 yX5_readUnits := ⟨xg_of 944 (by decide +kernel) rfl, xg_of 946 (by decide +kernel) rfl, xg_of 43 (by decide +kernel) rfl⟩
theorem s_X5_176 : XV RX5 176 yX5_readNumber := ⟨xg_of 948 (by decide +kernel) rfl, xg_of 950 (by decide +kernel) rfl, xg_of 44 (by decide +kernel) rfl⟩
theorem s_L_69 : XV RL 69 yX5_run := ⟨xg_of 952 (by decide +kernel) rfl, xg_of 953 (by decide +kernel) rfl, xg_of 954 (by decide +kernel) rfl⟩
theorem s_X5_201 : XV RX5 201 yX5_doOrder := ⟨xg_of 957 (by decide +kernel) rfl, xg_of 959 (by decide +kernel) rfl, xg_of 45 (by decide +kernel) rfl⟩
theorem s_L_128 : XV RL 128 yX5_undo := ⟨xg_of 961 (by decide +kernel) rfl, xg_of 962 (by decide +kernel) rfl, xg_of 963 (by decide +kernel) rfl⟩
theorem s_L_132 : XV RL 132 yX5_save := ⟨xg_of 965 (by decide +kernel) rfl, xg_of 966 (by decide +kernel) rfl, xg_of 967 (by decide +kernel) rfl⟩
theorem s_L_136 : XV RL 136 yX5_restore := ⟨xg_of 969 (by decide +kernel) rfl, xg_of 970 (by decide +kernel) rfl, xg_of 971 (by decide +kernel) rfl⟩
theorem f_X0_9 : XF RX0 9 0 0 RX0 TX0 7 := ⟨rfl, by decide, xg_of 88 (by decide +kernel) rfl, rfl⟩
theorem f_X1_135 : XF RX1 135 0 0 RX0 TX0 7 := ⟨rfl, by decide, xg_of 89 (by decide +kernel) rfl, rfl⟩
theorem f_X4_191 : XF RX4 191 0 0 RX0 TX0 7 := ⟨rfl, by decide, xg_of 90 (by decide +kernel) rfl, rfl⟩
theorem f_X0_16 : XF RX0 16 0 1 RX0 TX0 7 := ⟨rfl, by decide, xg_of 91 (by decide +kernel) rfl, rfl⟩
theorem f_X1_155 : XF RX1 155 0 1 RX0 TX0 7 := ⟨rfl, by decide, xg_of 92 (by decide +kernel) rfl, rfl⟩
theorem f_X0_19 : XF RX0 19 0 2 RX0 TX0 7 := ⟨rfl, by decide, xg_of 93 (by decide +kernel) rfl, rfl⟩
theorem f_X1_151 : XF RX1 151 0 2 RX0 TX0 7 := ⟨rfl, by decide, xg_of 94 (by decide +kernel) rfl, rfl⟩
theorem f_X0_22 : XF RX0 22 0 3 RX0 TX0 7 := ⟨rfl, by decide, xg_of 95 (by decide +kernel) rfl, rfl⟩
theorem f_X1_141 : XF RX1 141 0 3 RX0 TX0 7 := ⟨rfl, by decide, xg_of 96 (by decide +kernel) rfl, rfl⟩
theorem f_X4_169 : XF RX4 169 0 3 RX0 TX0 7 := ⟨rfl, by decide, xg_of 97 (by decide +kernel) rfl, rfl⟩
theorem f_X0_26 : XF RX0 26 0 4 RX0 TX0 7 := ⟨rfl, by decide, xg_of 98 (by decide +kernel) rfl, rfl⟩
theorem f_X1_197 : XF RX1 197 0 4 RX0 TX0 7 := ⟨rfl, by decide, xg_of 99 (by decide +kernel) rfl, rfl⟩
theorem f_X0_29 : XF RX0 29 0 5 RX0 TX0 7 := ⟨rfl, by decide, xg_of 100 (by decide +kernel) rfl, rfl⟩
theorem f_X1_195 : XF RX1 195 0 5 RX0 TX0 7 := ⟨rfl, by decide, xg_of 101 (by decide +kernel) rfl, rfl⟩
theorem f_X0_32 : XF RX0 32 0 6 RX0 TX0 7 := ⟨rfl, by decide, xg_of 102 (by decide +kernel) rfl, rfl⟩
theorem f_X1_182 : XF RX1 182 0 6 RX0 TX0 7 := ⟨rfl, by decide, xg_of 103 (by decide +kernel) rfl, rfl⟩
theorem f_X4_188 : XF RX4 188 0 6 RX0 TX0 7 := ⟨rfl, by decide, xg_of 104 (by decide +kernel) rfl, rfl⟩
theorem f_X3_9 : XF RX3 9 3 0 RX3 TX3 2 := ⟨rfl, by decide, xg_of 126 (by decide +kernel) rfl, rfl⟩
theorem f_X1_110 : XF RX1 110 3 0 RX3 TX3 2 := ⟨rfl, by decide, xg_of 127 (by decide +kernel) rfl, rfl⟩
theorem f_X3_15 : XF RX3 15 3 1 RX3 TX3 2 := ⟨rfl, by decide, xg_of 128 (by decide +kernel) rfl, rfl⟩
theorem f_X1_113 : XF RX1 113 3 1 RX3 TX3 2 := ⟨rfl, by decide, xg_of 129 (by decide +kernel) rfl, rfl⟩
theorem f_X1_18 : XF RX1 18 1 0 RX1 TX1 14 := ⟨rfl, by decide, xg_of 135 (by decide +kernel) rfl, rfl⟩
theorem f_X1_23 : XF RX1 23 1 1 RX1 TX1 14 := ⟨rfl, by decide, xg_of 136 (by decide +kernel) rfl, rfl⟩
theorem f_X1_26 : XF RX1 26 1 2 RX1 TX1 14 := ⟨rfl, by decide, xg_of 137 (by decide +kernel) rfl, rfl⟩
theorem f_X1_29 : XF RX1 29 1 3 RX1 TX1 14 := ⟨rfl, by decide, xg_of 138 (by decide +kernel) rfl, rfl⟩
theorem f_X1_34 : XF RX1 34 1 4 RX1 TX1 14 := ⟨rfl, by decide, xg_of 139 (by decide +kernel) rfl, rfl⟩
theorem f_X4_153 : XF RX4 153 1 4 RX1 TX1 14 := ⟨rfl, by decide, xg_of 140 (by decide +kernel) rfl, rfl⟩
theorem f_X1_40 : XF RX1 40 1 5 RX1 TX1 14 := ⟨rfl, by decide, xg_of 141 (by decide +kernel) rfl, rfl⟩
theorem f_X4_133 : XF RX4 133 1 5 RX1 TX1 14 := ⟨rfl, by decide, xg_of 142 (by decide +kernel) rfl, rfl⟩
theorem f_X1_44 : XF RX1 44 1 6 RX1 TX1 14 := ⟨rfl, by decide, xg_of 143 (by decide +kernel) rfl, rfl⟩
theorem f_X4_173 : XF RX4 173 1 6 RX1 TX1 14 := ⟨rfl, by decide, xg_of 144 (by decide +kernel) rfl, rfl⟩
theorem f_X1_48 : XF RX1 48 1 7 RX1 TX1 14 := ⟨rfl, by decide, xg_of 145 (by decide +kernel) rfl, rfl⟩
theorem f_X4_129 : XF RX4 129 1 7 RX1 TX1 14 := ⟨rfl, by decide, xg_of 146 (by decide +kernel) rfl, rfl⟩
theorem f_X1_52 : XF RX1 52 1 8 RX1 TX1 14 := ⟨rfl, by decide, xg_of 147 (by decide +kernel) rfl, rfl⟩
theorem f_X4_142 : XF RX4 142 1 8 RX1 TX1 14 := ⟨rfl, by decide, xg_of 148 (by decide +kernel) rfl, rfl⟩
theorem f_X1_55 : XF RX1 55 1 9 RX1 TX1 14 := ⟨rfl, by decide, xg_of 149 (by decide +kernel) rfl, rfl⟩
theorem f_X1_58 : XF RX1 58 1 10 RX1 TX1 14 := ⟨rfl, by decide, xg_of 150 (by decide +kernel) rfl, rfl⟩
theorem f_X1_61 : XF RX1 61 1 11 RX1 TX1 14 := ⟨rfl, by decide, xg_of 151 (by decide +kernel) rfl, rfl⟩
theorem f_X4_179 : XF RX4 179 1 11 RX1 TX1 14 := ⟨rfl, by decide, xg_of 152 (by decide +kernel) rfl, rfl⟩
theorem f_X1_64 : XF RX1 64 1 12 RX1 TX1 14 := ⟨rfl, by decide, xg_of 153 (by decide +kernel) rfl, rfl⟩
theorem f_X1_67 : XF RX1 67 1 13 RX1 TX1 14 := ⟨rfl, by decide, xg_of 154 (by decide +kernel) rfl, rfl⟩
theorem f_X4_185 : XF RX4 185 1 13 RX1 TX1 14 := ⟨rfl, by decide, xg_of 155 (by decide +kernel) rfl, rfl⟩
theorem f_X2_9 : XF RX2 9 2 0 RX2 TX2 8 := ⟨rfl, by decide, xg_of 191 (by decide +kernel) rfl, rfl⟩
theorem f_X2_15 : XF RX2 15 2 1 RX2 TX2 8 := ⟨rfl, by decide, xg_of 192 (by decide +kernel) rfl, rfl⟩
theorem f_X4_99 : XF RX4 99 2 1 RX2 TX2 8 := ⟨rfl, by decide, xg_of 193 (by decide +kernel) rfl, rfl⟩
theorem f_X2_19 : XF RX2 19 2 2 RX2 TX2 8 := ⟨rfl, by decide, xg_of 194 (by decide +kernel) rfl, rfl⟩
theorem f_X4_96 : XF RX4 96 2 2 RX2 TX2 8 := ⟨rfl, by decide, xg_of 195 (by decide +kernel) rfl, rfl⟩
theorem f_X2_22 : XF RX2 22 2 3 RX2 TX2 8 := ⟨rfl, by decide, xg_of 196 (by decide +kernel) rfl, rfl⟩
theorem f_X4_207 : XF RX4 207 2 3 RX2 TX2 8 := ⟨rfl, by decide, xg_of 197 (by decide +kernel) rfl, rfl⟩
theorem f_X2_25 : XF RX2 25 2 4 RX2 TX2 8 := ⟨rfl, by decide, xg_of 198 (by decide +kernel) rfl, rfl⟩
theorem f_X4_214 : XF RX4 214 2 4 RX2 TX2 8 := ⟨rfl, by decide, xg_of 199 (by decide +kernel) rfl, rfl⟩
theorem f_X2_28 : XF RX2 28 2 5 RX2 TX2 8 := ⟨rfl, by decide, xg_of 200 (by decide +kernel) rfl, rfl⟩
theorem f_X4_217 : XF RX4 217 2 5 RX2 TX2 8 := ⟨rfl, by decide, xg_of 201 (by decide +kernel) rfl, rfl⟩
theorem f_X2_31 : XF RX2 31 2 6 RX2 TX2 8 := ⟨rfl, by decide, xg_of 202 (by decide +kernel) rfl, rfl⟩
theorem f_X4_220 : XF RX4 220 2 6 RX2 TX2 8 := ⟨rfl, by decide, xg_of 203 (by decide +kernel) rfl, rfl⟩
theorem f_X2_34 : XF RX2 34 2 7 RX2 TX2 8 := ⟨rfl, by decide, xg_of 204 (by decide +kernel) rfl, rfl⟩
theorem f_X4_210 : XF RX4 210 2 7 RX2 TX2 8 := ⟨rfl, by decide, xg_of 205 (by decide +kernel) rfl, rfl⟩
theorem f_X4_10 : XF RX4 10 4 0 RX4 TX4 8 := ⟨rfl, by decide, xg_of 225 (by decide +kernel) rfl, rfl⟩
theorem f_X4_16 : XF RX4 16 4 1 RX4 TX4 8 := ⟨rfl, by decide, xg_of 226 (by decide +kernel) rfl, rfl⟩
theorem f_X4_22 : XF RX4 22 4 2 RX4 TX4 8 := ⟨rfl, by decide, xg_of 227 (by decide +kernel) rfl, rfl⟩
theorem f_X4_26 : XF RX4 26 4 3 RX4 TX4 8 := ⟨rfl, by decide, xg_of 228 (by decide +kernel) rfl, rfl⟩
theorem f_X4_30 : XF RX4 30 4 4 RX4 TX4 8 := ⟨rfl, by decide, xg_of 229 (by decide +kernel) rfl, rfl⟩
theorem f_X4_34 : XF RX4 34 4 5 RX4 TX4 8 := ⟨rfl, by decide, xg_of 230 (by decide +kernel) rfl, rfl⟩
theorem f_X4_37 : XF RX4 37 4 6 RX4 TX4 8 := ⟨rfl, by decide, xg_of 231 (by decide +kernel) rfl, rfl⟩
theorem f_X4_40 : XF RX4 40 4 7 RX4 TX4 8 := ⟨rfl, by decide, xg_of 232 (by decide +kernel) rfl, rfl⟩
theorem f_X5_7 : XF RX5 7 5 0 RX5 TX5 15 := ⟨rfl, by decide, xg_of 643 (by decide +kernel) rfl, rfl⟩
theorem f_X5_13 : XF RX5 13 5 1 RX5 TX5 15 := ⟨rfl, by decide, xg_of 644 (by decide +kernel) rfl, rfl⟩
theorem f_X5_16 : XF RX5 16 5 2 RX5 TX5 15 := ⟨rfl, by decide, xg_of 645 (by decide +kernel) rfl, rfl⟩
theorem f_X5_37 : XF RX5 37 5 3 RX5 TX5 15 := ⟨rfl, by decide, xg_of 646 (by decide +kernel) rfl, rfl⟩
theorem f_X5_19 : XF RX5 19 5 4 RX5 TX5 15 := ⟨rfl, by decide, xg_of 647 (by decide +kernel) rfl, rfl⟩
theorem f_X5_22 : XF RX5 22 5 5 RX5 TX5 15 := ⟨rfl, by decide, xg_of 648 (by decide +kernel) rfl, rfl⟩
theorem f_X5_26 : XF RX5 26 5 6 RX5 TX5 15 := ⟨rfl, by decide, xg_of 649 (by decide +kernel) rfl, rfl⟩
theorem f_X5_143 : XF RX5 143 5 7 RX5 TX5 15 := ⟨rfl, by decide, xg_of 650 (by decide +kernel) rfl, rfl⟩
theorem f_X5_160 : XF RX5 160 5 8 RX5 TX5 15 := ⟨rfl, by decide, xg_of 651 (by decide +kernel) rfl, rfl⟩
theorem f_X5_163 : XF RX5 163 5 9 RX5 TX5 15 := ⟨rfl, by decide, xg_of 652 (by decide +kernel) rfl, rfl⟩
theorem f_X5_182 : XF RX5 182 5 10 RX5 TX5 15 := ⟨rfl, by decide, xg_of 653 (by decide +kernel) rfl, rfl⟩
theorem f_X5_170 : XF RX5 170 5 11 RX5 TX5 15 := ⟨rfl, by decide, xg_of 654 (by decide +kernel) rfl, rfl⟩
theorem f_X5_179 : XF RX5 179 5 12 RX5 TX5 15 := ⟨rfl, by decide, xg_of 655 (by decide +kernel) rfl, rfl⟩
theorem f_X5_185 : XF RX5 185 5 13 RX5 TX5 15 := ⟨rfl, by decide, xg_of 656 (by decide +kernel) rfl, rfl⟩
theorem f_X5_29 : XF RX5 29 5 14 RX5 TX5 15 := ⟨rfl, by decide, xg_of 657 (by decide +kernel) rfl, rfl⟩
theorem a_X0_15 : Cond.constant RX0 15 (-100006) ∈ xgood := xg_of 87 (by decide +kernel) rfl
theorem a_X1_98 : Cond.constant RX1 98 (-100002) ∈ xgood := xg_of 279 (by decide +kernel) rfl
theorem a_X4_152 : Cond.constant RX4 152 (-100001) ∈ xgood := xg_of 291 (by decide +kernel) rfl
theorem a_X4_132 : Cond.constant RX4 132 (-100005) ∈ xgood := xg_of 292 (by decide +kernel) rfl
theorem a_X1_109 : Cond.constant RX1 109 (-100004) ∈ xgood := xg_of 312 (by decide +kernel) rfl
theorem a_X1_124 : Cond.constant RX1 124 (-100005) ∈ xgood := xg_of 342 (by decide +kernel) rfl
theorem a_X1_134 : Cond.constant RX1 134 (-100001) ∈ xgood := xg_of 374 (by decide +kernel) rfl
theorem a_X1_154 : Cond.constant RX1 154 (-100006) ∈ xgood := xg_of 396 (by decide +kernel) rfl
theorem a_X2_54 : Cond.constant RX2 54 (-100006) ∈ xgood := xg_of 513 (by decide +kernel) rfl
theorem a_X4_94 : Cond.constant RX4 94 (-100006) ∈ xgood := xg_of 514 (by decide +kernel) rfl
theorem a_X4_95 : Cond.constant RX4 95 (-100003) ∈ xgood := xg_of 515 (by decide +kernel) rfl
theorem a_X4_125 : Cond.constant RX4 125 (-100002) ∈ xgood := xg_of 561 (by decide +kernel) rfl
theorem a_X2_42 : Cond.constant RX2 42 (-100002) ∈ xgood := xg_of 607 (by decide +kernel) rfl
theorem a_X2_43 : Cond.constant RX2 43 (-100004) ∈ xgood := xg_of 608 (by decide +kernel) rfl
theorem a_X5_36 : Cond.constant RX5 36 (-100006) ∈ xgood := xg_of 642 (by decide +kernel) rfl
theorem a_X5_99 : Cond.constant RX5 99 (-100002) ∈ xgood := xg_of 702 (by decide +kernel) rfl
theorem a_X5_103 : Cond.constant RX5 103 (-100004) ∈ xgood := xg_of 711 (by decide +kernel) rfl
theorem a_X5_108 : Cond.constant RX5 108 (-100005) ∈ xgood := xg_of 744 (by decide +kernel) rfl
theorem a_X5_115 : Cond.constant RX5 115 (-100001) ∈ xgood := xg_of 768 (by decide +kernel) rfl
theorem a_X5_200 : Cond.constant RX5 200 (-100003) ∈ xgood := xg_of 956 (by decide +kernel) rfl
theorem a_X2_44 : Cond.constantLong RX2 44 (255) ∈ xgood := xg_of 604 (by decide +kernel) rfl
theorem a_X2_46 : Cond.constantLong RX2 46 (33) ∈ xgood := xg_of 605 (by decide +kernel) rfl
theorem a_X2_48 : Cond.constantLong RX2 48 (126) ∈ xgood := xg_of 606 (by decide +kernel) rfl
theorem a_X5_158 : Cond.constantLong RX5 158 (255) ∈ xgood := xg_of 915 (by decide +kernel) rfl
theorem a_L_110 : Cond.constantLong RL 110 (4294967295) ∈ xgood := xg_of 973 (by decide +kernel) rfl
theorem e_L_7 : Cond.classLink RL 7 RX4 ∈ xgood := xg_of 55 (by decide +kernel) rfl
theorem e_X4_7 : Cond.classLink RX4 7 RX1 ∈ xgood := xg_of 63 (by decide +kernel) rfl
theorem e_X1_14 : Cond.classLink RX1 14 "[I" ∈ xgood := xg_of 77 (by decide +kernel) rfl
theorem e_X1_32 : Cond.classLink RX1 32 RX0 ∈ xgood := xg_of 78 (by decide +kernel) rfl
theorem e_X1_38 : Cond.classLink RX1 38 RX3 ∈ xgood := xg_of 80 (by decide +kernel) rfl
theorem e_X4_19 : Cond.classLink RX4 19 RX2 ∈ xgood := xg_of 185 (by decide +kernel) rfl
theorem e_L_10 : Cond.classLink RL 10 RX5 ∈ xgood := xg_of 632 (by decide +kernel) rfl
theorem i_X4 : Cond.instantiable RX4 8 ∈ xgood := xg_of 56 (by decide +kernel) rfl
theorem i_X1 : Cond.instantiable RX1 14 ∈ xgood := xg_of 64 (by decide +kernel) rfl
theorem i_X0 : Cond.instantiable RX0 7 ∈ xgood := xg_of 82 (by decide +kernel) rfl
theorem ac_int : Cond.arrayClass .int ∈ xgood := xg_of 120 (by decide +kernel) rfl
theorem i_X3 : Cond.instantiable RX3 2 ∈ xgood := xg_of 121 (by decide +kernel) rfl
theorem i_X2 : Cond.instantiable RX2 8 ∈ xgood := xg_of 186 (by decide +kernel) rfl
theorem ac_char : Cond.arrayClass .char ∈ xgood := xg_of 223 (by decide +kernel) rfl
theorem ac_boolean : Cond.arrayClass .boolean ∈ xgood := xg_of 250 (by decide +kernel) rfl
theorem i_X5 : Cond.instantiable RX5 15 ∈ xgood := xg_of 633 (by decide +kernel) rfl
theorem oi_i : Cond.instanceMethod objectInit ∈ xgood := xg_of 61 (by decide +kernel) rfl
theorem oi_c : Cond.code objectInit ⟨#[0xb1]⟩ 1 none ∈ xgood := xg_of 62 (by decide +kernel) rfl
theorem cl_1 : Cond.sameMethod "[I" "java/lang/Object" "clone" "()Ljava/lang/Object;" ∈ xgood := xg_of 72 (by decide +kernel) rfl
theorem cl_2 : Cond.native ⟨"java/lang/Object", "clone", "()Ljava/lang/Object;"⟩ ∈ xgood := xg_of 73 (by decide +kernel) rfl
theorem cl_3 : Cond.instanceMethod ⟨"java/lang/Object", "clone", "()Ljava/lang/Object;"⟩ ∈ xgood := xg_of 74 (by decide +kernel) rfl
theorem cl_4 : Cond.selects "[I" ⟨"[I", "clone", "()Ljava/lang/Object;"⟩ ⟨"java/lang/Object", "clone", "()Ljava/lang/Object;"⟩ ∈ xgood := xg_of 75 (by decide +kernel) rfl
theorem ay_n : Cond.native arraycopyName ∈ xgood := xg_of 265 (by decide +kernel) rfl
theorem ay_s : Cond.static arraycopyName ∈ xgood := xg_of 264 (by decide +kernel) rfl
theorem ay_i : Cond.initialized "java/lang/System" ∈ xgood := xg_of 53 (by decide +kernel) rfl
theorem mm_i : Cond.initialized "java/lang/Math" ∈ xgood := xg_of 54 (by decide +kernel) rfl
theorem mmin_s : Cond.static Lib.Math.min.name ∈ xgood := xg_of 406 (by decide +kernel) rfl
theorem mmin_c : Cond.code Lib.Math.min.name Lib.Math.min.code 2 (some .int) ∈ xgood := xg_of 407 (by decide +kernel) rfl
theorem mabs_s : Cond.static Lib.Math.abs.name ∈ xgood := xg_of 453 (by decide +kernel) rfl
theorem mabs_c : Cond.code Lib.Math.abs.name Lib.Math.abs.code 1 (some .int) ∈ xgood := xg_of 454 (by decide +kernel) rfl
/-- what the tables say of the fields of the classes -/
def XC (C : String) (T : u_T) (N : Nat) : Prop := (∀ w ∈ u_ws C T N, w ∈ xgood) ∧ (∃ ty : Nat → FieldType, ∀ k, k < N → parseFieldDescriptor (T k).2.2.1 = some (ty k)) ∧ ∀ a, a < N → ∀ b, b < N → a ≠ b → (T a).2.1 ≠ (T b).2.1
theorem xc_X0 : XC RX0 TX0 7 := by
  refine ⟨?_, ⟨tyX0, tyX0_ok⟩, nmX0⟩
  intro w hw
  obtain ⟨k, hk, rfl⟩ := List.mem_map.mp hw
  have hk := List.mem_range.mp hk
  match k, hk with
  | 0, _ => exact xg_of 105 (by decide +kernel) rfl
  | 1, _ => exact xg_of 107 (by decide +kernel) rfl
  | 2, _ => exact xg_of 109 (by decide +kernel) rfl
  | 3, _ => exact xg_of 111 (by decide +kernel) rfl
  | 4, _ => exact xg_of 113 (by decide +kernel) rfl
  | 5, _ => exact xg_of 115 (by decide +kernel) rfl
  | 6, _ => exact xg_of 117 (by decide +kernel) rfl
  | k + 7, hk => exact absurd hk (by omega)
theorem xc_X1 : XC RX1 TX1 14 := by
  refine ⟨?_, ⟨tyX1, tyX1_ok⟩, nmX1⟩
  intro w hw
  obtain ⟨k, hk, rfl⟩ := List.mem_map.mp hw
  have hk := List.mem_range.mp hk
  match k, hk with
  | 0, _ => exact xg_of 156 (by decide +kernel) rfl
  | 1, _ => exact xg_of 158 (by decide +kernel) rfl
  | 2, _ => exact xg_of 160 (by decide +kernel) rfl
  | 3, _ => exact xg_of 162 (by decide +kernel) rfl
  | 4, _ => exact xg_of 164 (by decide +kernel) rfl
  | 5, _ => exact xg_of 166 (by decide +kernel) rfl
  | 6, _ => exact xg_of 168 (by decide +kernel) rfl
  | 7, _ => exact xg_of 170 (by decide +kernel) rfl
  | 8, _ => exact xg_of 172 (by decide +kernel) rfl
  | 9, _ => exact xg_of 174 (by decide +kernel) rfl
  | 10, _ => exact xg_of 176 (by decide +kernel) rfl
  | 11, _ => exact xg_of 178 (by decide +kernel) rfl
  | 12, _ => exact xg_of 180 (by decide +kernel) rfl
  | 13, _ => exact xg_of 182 (by decide +kernel) rfl
  | k + 14, hk => exact absurd hk (by omega)
theorem xc_X2 : XC RX2 TX2 8 := by
  refine ⟨?_, ⟨tyX2, tyX2_ok⟩, nmX2⟩
  intro w hw
  obtain ⟨k, hk, rfl⟩ := List.mem_map.mp hw
  have hk := List.mem_range.mp hk
  match k, hk with
  | 0, _ => exact xg_of 206 (by decide +kernel) rfl
  | 1, _ => exact xg_of 208 (by decide +kernel) rfl
  | 2, _ => exact xg_of 210 (by decide +kernel) rfl
  | 3, _ => exact xg_of 212 (by decide +kernel) rfl
  | 4, _ => exact xg_of 214 (by decide +kernel) rfl
  | 5, _ => exact xg_of 216 (by decide +kernel) rfl
  | 6, _ => exact xg_of 218 (by decide +kernel) rfl
  | 7, _ => exact xg_of 220 (by decide +kernel) rfl
  | k + 8, hk => exact absurd hk (by omega)
theorem xc_X3 : XC RX3 TX3 2 := by
  refine ⟨?_, ⟨tyX3, tyX3_ok⟩, nmX3⟩
  intro w hw
  obtain ⟨k, hk, rfl⟩ := List.mem_map.mp hw
  have hk := List.mem_range.mp hk
  match k, hk with
  | 0, _ => exact xg_of 130 (by decide +kernel) rfl
  | 1, _ => exact xg_of 132 (by decide +kernel) rfl
  | k + 2, hk => exact absurd hk (by omega)
theorem xc_X4 : XC RX4 TX4 8 := by
  refine ⟨?_, ⟨tyX4, tyX4_ok⟩, nmX4⟩
  intro w hw
  obtain ⟨k, hk, rfl⟩ := List.mem_map.mp hw
  have hk := List.mem_range.mp hk
  match k, hk with
  | 0, _ => exact xg_of 233 (by decide +kernel) rfl
  | 1, _ => exact xg_of 235 (by decide +kernel) rfl
  | 2, _ => exact xg_of 237 (by decide +kernel) rfl
  | 3, _ => exact xg_of 239 (by decide +kernel) rfl
  | 4, _ => exact xg_of 241 (by decide +kernel) rfl
  | 5, _ => exact xg_of 243 (by decide +kernel) rfl
  | 6, _ => exact xg_of 245 (by decide +kernel) rfl
  | 7, _ => exact xg_of 247 (by decide +kernel) rfl
  | k + 8, hk => exact absurd hk (by omega)
theorem xc_X5 : XC RX5 TX5 15 := by
  refine ⟨?_, ⟨tyX5, tyX5_ok⟩, nmX5⟩
  intro w hw
  obtain ⟨k, hk, rfl⟩ := List.mem_map.mp hw
  have hk := List.mem_range.mp hk
  match k, hk with
  | 0, _ => exact xg_of 658 (by decide +kernel) rfl
  | 1, _ => exact xg_of 660 (by decide +kernel) rfl
  | 2, _ => exact xg_of 662 (by decide +kernel) rfl
  | 3, _ => exact xg_of 664 (by decide +kernel) rfl
  | 4, _ => exact xg_of 666 (by decide +kernel) rfl
  | 5, _ => exact xg_of 668 (by decide +kernel) rfl
  | 6, _ => exact xg_of 670 (by decide +kernel) rfl
  | 7, _ => exact xg_of 672 (by decide +kernel) rfl
  | 8, _ => exact xg_of 674 (by decide +kernel) rfl
  | 9, _ => exact xg_of 676 (by decide +kernel) rfl
  | 10, _ => exact xg_of 678 (by decide +kernel) rfl
  | 11, _ => exact xg_of 680 (by decide +kernel) rfl
  | 12, _ => exact xg_of 682 (by decide +kernel) rfl
  | 13, _ => exact xg_of 684 (by decide +kernel) rfl
  | 14, _ => exact xg_of 686 (by decide +kernel) rfl
  | k + 15, hk => exact absurd hk (by omega)
theorem xc_all : ∀ (ci : Nat) (C : String) (T : u_T) (N : Nat), xcl[ci]? = some (C, T, N) → XC C T N := by
  intro ci C T N h
  match ci, h with
  | 0, h => cases h; exact xc_X0
  | 1, h => cases h; exact xc_X1
  | 2, h => cases h; exact xc_X2
  | 3, h => cases h; exact xc_X3
  | 4, h => cases h; exact xc_X4
  | 5, h => cases h; exact xc_X5
  | k + 6, h => simp [xcl] at h
end
section
/-! the abstract heap, keyed by address; a frame's judgement AW over it; a contract Ct -/
abbrev xH : Type := Nat → Option va_E
def xup (μ : xH) (a : Nat) (e : va_E) : xH := fun q => if q = a then some e else μ q
theorem xup_s {μ : xH} {a : Nat} {e : va_E} : xup μ a e a = some e := if_pos rfl
theorem xup_n {μ : xH} {a b : Nat} {e : va_E} (h : b ≠ a) : xup μ a e b = μ b := if_neg h
/-- the machine of a frame: program, launch, environment, room, start, method, arguments, frames below, its table rows -/
abbrev xK : Type := Program × Launch × Env × Room × State × MethodId × Array Value × List Frame × Method × Code
abbrev kp (K : xK) : Program := K.1
abbrev kl (K : xK) : Launch := K.2.1
abbrev ke (K : xK) : Env := K.2.2.1
abbrev kR (K : xK) : Room := K.2.2.2.1
abbrev ks (K : xK) : State := K.2.2.2.2.1
abbrev km (K : xK) : MethodId := K.2.2.2.2.2.1
abbrev ka (K : xK) : Array Value := K.2.2.2.2.2.2.1
abbrev kb (K : xK) : List Frame := K.2.2.2.2.2.2.2.1
abbrev kM (K : xK) : Method := K.2.2.2.2.2.2.2.2.1
abbrev kc (K : xK) : Code := K.2.2.2.2.2.2.2.2.2
/-- what a run holds fast: class numbers and slots, the first address that is ours, where the static tables stand, the array classes -/
abbrev xU : Type := va_G × Nat × (Nat → Nat) × (Nat → ClassId)
abbrev uB (U : xU) : Nat → Prop := fun q => U.2.1 ≤ q
abbrev uA (U : xU) : Nat → Nat := U.2.2.1
abbrev uC (U : xU) : Nat → ClassId := U.2.2.2
abbrev xty (cA : Nat → ClassId) : List (ClassId × FieldType) := [(cA 0, .int), (cA 1, .boolean), (cA 2, .char), (cA 3, .object RX0), (cA 4, .object RX3), (cA 5, .object RX1)]
/-- the static tables: name, length, contents -/
def xsN : Nat → String := fun i => match i with
  | 0 => "FIRST_SETTING"
  | 1 => "LEAST_SETTING"
  | 2 => "MOST_SETTING"
  | _ => "TIDE_TENTHS"
def xsL : Nat → Nat := fun i => match i with
  | 3 => 12
  | _ => 6
def xsV : Nat → Nat → Int32 := fun i j => match i with
  | 0 => [90, 20, 5, 10, 24, 5].getD j 0
  | 1 => [50, 0, 0, 1, 0, 1].getD j 0
  | 2 => [150, 40, 20, 40, 99, 99].getD j 0
  | _ => [0, 5, 9, 10, 9, 5, 0, -5, -9, -10, -9, -5].getD j 0
/-- the first static table, cell by cell (it is cloned) -/
def xE (U : xU) (H : Heap) : Prop := ∃ cell : Cell, H[uA U 0]? = some cell ∧ cell.cls = uC U 0 ∧ cell.slots = (vp_cell (uC U 0) (6, .inl (xsV 0))).slots ∧ (∀ k, cell.vm ≠ .statics k) ∧ cell.vm ≠ .unknown ∧ ¬ uB U (uA U 0)
/-- what is known of the tables and of the static arrays, at a state and a heap -/
def Kn (U : xU) (S : State) (H : Heap) : Prop :=
  va_K U.1 xcl (xty (uC U)) S ∧ (∀ q ∈ xnM, va_Nw (.methodLinkNest q.1 q.2.1 q.2.2.1 q.2.2.2) S) ∧ (∀ q ∈ xnF, va_Nw (.fieldLinkNest q.1 q.2.1 q.2.2.1 q.2.2.2.1 q.2.2.2.2.1 q.2.2.2.2.2) S) ∧
  (va_AO RX0 S ∧ va_AO RX3 S ∧ va_AO RX1 S) ∧ va_Nw (.castable "[I" "java/lang/Cloneable") S ∧
  (∀ i, i < 4 → va_Z RX4 (xsN i) "[I" (.ref (uA U i)) (uB U) S H ∧ va_T .int (uA U i) (xsL i) (fun j => .int (xsV i j)) (uB U) S H) ∧ xE U H
theorem Kn.same {U : xU} {S S' : State} {H : Heap} (h : S.vm = S'.vm) (k : Kn U S H) : Kn U S' H := by
  obtain ⟨k1, k2, k3, ⟨k4, k5, k6⟩, k7, k8, k9⟩ := k
  have ha : S.vm.Alike S'.vm := h ▸ Vm.Alike.refl S.vm
  exact ⟨k1.moved ha, fun q hq => (k2 q hq).same rfl h, fun q hq => (k3 q hq).same rfl h, ⟨k4.moved ha, k5.moved ha, k6.moved ha⟩, k7.same rfl h, fun i hi => ⟨(k8 i hi).1.moved ha, (k8 i hi).2.moved ha⟩, k9⟩
theorem Kn.warm {U : xU} {S S' : State} {H : Heap} (h : S.WarmedH S'.vm) (k : Kn U S H) : Kn U S' H := by
  obtain ⟨k1, k2, k3, ⟨k4, k5, k6⟩, k7, k8, k9⟩ := k
  have ha := h.alike
  exact ⟨k1.moved ha, fun q hq => (k2 q hq).warmM h, fun q hq => (k3 q hq).warmF h, ⟨k4.moved ha, k5.moved ha, k6.moved ha⟩, k7.warmC h, fun i hi => ⟨(k8 i hi).1.moved ha, (k8 i hi).2.moved ha⟩, k9⟩
theorem Kn.kept {U : xU} {S : State} {H H1 : Heap} (hq : ∀ a : Nat, a < H.size → ¬ uB U a → H1[a]? = H[a]?) (k : Kn U S H) : Kn U S H1 := by
  obtain ⟨k1, k2, k3, k4, k7, k8, cell, e1, e2, e3, e4, e5, e6⟩ := k
  exact ⟨k1, k2, k3, k4, k7, fun i hi => ⟨(k8 i hi).1.kept hq, (k8 i hi).2.kept hq⟩, cell, by rw [hq _ (Array.getElem?_eq_some_iff.mp e1).1 e6]; exact e1, e2, e3, e4, e5, e6⟩
/-- the machine's heap holds the abstract one -/
def Hd (U : xU) (μ : xH) (H : Heap) : Prop := ∀ (a : Nat) (e : va_E), μ a = some e → uB U a ∧ va_at U.1 xcl (a, e) H
theorem Hd.lt {U : xU} {μ : xH} {H : Heap} (h : Hd U μ H) {a : Nat} {e : va_E} (ha : μ a = some e) : a < H.size := (h a e ha).2.lt
theorem Hd.put {U : xU} {μ : xH} {H H1 : Heap} (h : Hd U μ H) {a : Nat} {e0 e : va_E} (ha : μ a = some e0) (he : va_at U.1 xcl (a, e) H1) (ho : ∀ q : Nat, q ≠ a → H1[q]? = H[q]?) : Hd U (xup μ a e) H1 := by
  intro q x hx
  by_cases hq : q = a
  · subst hq
    rw [xup_s] at hx
    cases hx
    exact ⟨(h q e0 ha).1, he⟩
  · rw [xup_n hq] at hx
    exact ⟨(h q x hx).1, (h q x hx).2.kept (ho q hq)⟩
theorem Hd.new {U : xU} {μ : xH} {H H1 : Heap} (h : Hd U μ H) {a : Nat} {e : va_E} (hn : a = H.size) (hB : uB U a) (he : va_at U.1 xcl (a, e) H1) (ho : ∀ q : Nat, q < H.size → H1[q]? = H[q]?) : Hd U (xup μ a e) H1 := by
  intro q x hx
  by_cases hq : q = a
  · subst hq
    rw [xup_s] at hx
    cases hx
    exact ⟨hB, he⟩
  · rw [xup_n hq] at hx
    exact ⟨(h q x hx).1, (h q x hx).2.kept (ho q ((h q x hx).2.lt))⟩
/-- the locals, place by place -/
def lvl : Nat → List (Option Value) → List (Nat × Value)
  | _, [] => []
  | i, none :: r => lvl (i + 1) r
  | i, some v :: r => (i, v) :: lvl (i + 1) r
theorem lvl_mem : ∀ (ls : List (Option Value)) (b : Nat) (q : Nat × Value), q ∈ lvl b ls ↔ ∃ i, q.1 = b + i ∧ ls[i]? = some (some q.2) := by
  intro ls
  induction ls with
  | nil => intro b q; simp [lvl]
  | cons x r ih =>
    intro b q
    cases x with
    | none =>
      rw [lvl, ih]
      constructor
      · rintro ⟨i, h1, h2⟩
        exact ⟨i + 1, by omega, by simpa using h2⟩
      · rintro ⟨i, h1, h2⟩
        cases i with
        | zero => simp at h2
        | succ i => exact ⟨i, by omega, by simpa using h2⟩
    | some v =>
      rw [lvl, List.mem_cons, ih]
      constructor
      · rintro (rfl | ⟨i, h1, h2⟩)
        · exact ⟨0, by simp, by simp⟩
        · exact ⟨i + 1, by omega, by simpa using h2⟩
      · rintro ⟨i, h1, h2⟩
        cases i with
        | zero =>
          left
          obtain ⟨a, c⟩ := q
          simp at h1 h2
          rw [h1, h2]
        | succ i => exact Or.inr ⟨i, by omega, by simpa using h2⟩
theorem lvl_at {la : Array Slot} {nL i : Nat} {ls : List (Option Value)} {v : Value} (h : lv_has la nL (lvl 0 ls)) (hi : ls[i]? = some (some v)) : la[i]? = some (.val v) :=
  h.2.2 (i, v) ((lvl_mem ls 0 (i, v)).mpr ⟨i, by simp, hi⟩)
/-- no long stands in front of the place -/
def xok (ls : List (Option Value)) : Nat → Bool
  | 0 => true
  | i + 1 => match ls[i]? with
    | some (some v) => v.category != 2
    | _ => true
theorem lvl_st1 {la : Array Slot} {nL i : Nat} {ls : List (Option Value)} {v : Value} (h : lv_has la nL (((i, v) :: (lvl 0 ls).filter (fun q => !(q.1 == i) && !(q.1 + 1 == i && q.2.category == 2))))) (hk : xok ls i = true) : lv_has la nL (lvl 0 (ls.set i (some v))) := by
  refine ⟨h.1, h.2.1, fun q hq => ?_⟩
  obtain ⟨j, h1, h2⟩ := (lvl_mem _ 0 q).mp hq
  have h1 : q.1 = j := by omega
  by_cases hj : j = i
  · subst hj
    rw [List.getElem?_set_self (by
      rcases Nat.lt_or_ge j ls.length with z | z
      · exact z
      · rw [List.getElem?_eq_none (by simpa using z)] at h2; cases h2)] at h2
    have : q = (j, v) := by
      obtain ⟨a, c⟩ := q
      cases h2
      simp at h1
      rw [h1]
    rw [this]
    exact h.2.2 (j, v) List.mem_cons_self
  · rw [List.getElem?_set_ne (fun z => hj z.symm)] at h2
    refine h.2.2 q (List.mem_cons_of_mem _ (List.mem_filter.mpr ⟨(lvl_mem ls 0 q).mpr ⟨j, by omega, h2⟩, ?_⟩))
    simp only [Bool.and_eq_true, Bool.not_eq_true', beq_eq_false_iff_ne, ne_eq, Bool.and_eq_false_iff]
    refine ⟨by rw [h1]; exact hj, ?_⟩
    by_cases hi : q.1 + 1 = i
    · right
      subst hi
      rw [h1, xok, h2] at hk
      simpa using hk
    · exact Or.inl hi
theorem lvl_st2 {la : Array Slot} {nL i : Nat} {ls : List (Option Value)} {v : Value} (h : lv_has la nL (((i, v) :: (lvl 0 ls).filter (fun q => !(q.1 == i) && (!(q.1 == i + 1) && !(q.1 + 1 == i && q.2.category == 2)))))) (hk : xok ls i = true) : lv_has la nL (lvl 0 ((ls.set i (some v)).set (i + 1) none)) := by
  refine ⟨h.1, h.2.1, fun q hq => ?_⟩
  obtain ⟨j, h1, h2⟩ := (lvl_mem _ 0 q).mp hq
  have h1 : q.1 = j := by omega
  by_cases hj1 : j = i + 1
  · subst hj1
    exfalso
    rcases Nat.lt_or_ge (i + 1) ls.length with z | z
    · rw [List.getElem?_set_self (by simpa using z)] at h2
      cases h2
    · rw [List.getElem?_eq_none (by simpa using z)] at h2
      cases h2
  · rw [List.getElem?_set_ne (fun z => hj1 z.symm)] at h2
    by_cases hj : j = i
    · subst hj
      rw [List.getElem?_set_self (by
        rcases Nat.lt_or_ge j ls.length with z | z
        · exact z
        · rw [List.getElem?_eq_none (by simpa using z)] at h2; cases h2)] at h2
      have : q = (j, v) := by
        obtain ⟨a, c⟩ := q
        cases h2
        simp at h1
        rw [h1]
      rw [this]
      exact h.2.2 (j, v) List.mem_cons_self
    · rw [List.getElem?_set_ne (fun z => hj z.symm)] at h2
      refine h.2.2 q (List.mem_cons_of_mem _ (List.mem_filter.mpr ⟨(lvl_mem ls 0 q).mpr ⟨j, by omega, h2⟩, ?_⟩))
      simp only [Bool.and_eq_true, Bool.not_eq_true', beq_eq_false_iff_ne, ne_eq, Bool.and_eq_false_iff]
      refine ⟨by rw [h1]; exact hj, by rw [h1]; exact hj1, ?_⟩
      by_cases hi : q.1 + 1 = i
      · right
        subst hi
        rw [h1, xok, h2] at hk
        simpa using hk
      · exact Or.inl hi
/-- what is known at a frame of the method y, at every instruction -/
def Cx (U : xU) (K : xK) (y : MethodName) (cc : ByteArray) (nL : Nat) (ret : Option FieldType) (rm : Room) : Prop :=
  (kp K).tables.exec = Jvm.exec ∧ (kc K).code = cc ∧ (kc K).maxLocals = nL ∧ (ks K).vm.findClass y.cls = some (km K).cls ∧ (∀ w ∈ xgood, w.before (ka K) (ks K) = true) ∧ (kM K).sig.returnType = ret ∧ (kM K).locks = false ∧ kR K = rm ∧ Kn U (ks K) (ks K).heap ∧ U.2.1 ≤ (ks K).heap.size
/-- from the frame at pc, with these locals and this stack over this heap, the machine comes to Q -/
def AW (U : xU) (K : xK) (nL cells slots : Nat) (Q : State → Prop) (μ : xH) (pc : Nat) (ls : List (Option Value)) (st : List Value) : Prop :=
  ∀ (H : Heap) (locs : List Loc) (la : Array Slot), Hd U μ H → va_S (uB U) (ks K).heap H locs → lv_has la nL (lvl 0 ls) → W (kp K) (kl K) (ke K) (kR K) (ks K) (km K) (ka K) (kb K) (kM K) (kc K) H locs cells slots Q (F0 (km K) pc la st)
def cQ (U : xU) (post : Option Value → xH → Prop) : Array Value → State → Outcome → State → Prop := fun _ st oc t => (∃ (v : Option Value) (μ : xH), oc = .returned v ∧ post v μ ∧ Hd U μ t.heap) ∧ va_F (uB U) st t
def RQ (U : xU) (K : xK) (post : Option Value → xH → Prop) (mc ms : Nat) : State → Prop := MQ (kb K) (cQ U post) (ka K) (ks K) mc ms (uB U)
def cP (U : xU) (av : List Value) (μ : xH) : Array Value → State → Prop := va_Pc av (fun S => Hd U μ S.heap ∧ Kn U S S.heap ∧ U.2.1 ≤ S.heap.size)
/-- the contract of a method: from the heap μ, with these arguments, it returns, and post holds of the answer and of the heap -/
def Ct (l : Launch) (U : xU) (y : MethodName) (b : ByteArray) (maxL : Nat) (ret : Option FieldType) (rm : Room) (av : List Value) (μ : xH) (post : Option Value → xH → Prop) : Prop :=
  Met l y (.code y b maxL ret :: xgood) rm (cP U av μ) (cQ U post) rm.cells rm.slots (uB U)
theorem cP_blind {U : xU} {av : List Value} {μ : xH} : FrameBlind (cP U av μ) := fun _ S _ _ h => ⟨h.1, h.2.1, h.2.2.1.same rfl, h.2.2.2⟩
theorem Ct.of {l : Launch} {U : xU} {y : MethodName} {b : ByteArray} {maxL : Nat} {ret : Option FieldType} {rm : Room} {av : List Value} {μ : xH} {post : Option Value → xH → Prop} (ls : List (Option Value)) (hy : plainFor y = true) (hls : lvl 0 ls = lv_args 0 av) (hn : (lg_sl av).length ≤ maxL)
    (body : ∀ (K : xK) (Q : State → Prop), Cx U K y b maxL ret rm → (kM K).name = y.name → Q = RQ U K post rm.cells rm.slots → AW U K maxL 0 0 Q μ 0 ls []) : Ct l U y b maxL ret rm av μ post := by
  unfold Ct Met
  refine MetFree.of_bodySF (code := b) (maxLocals := maxL) (ret := ret) hy ?_ ?_
  · intro args s m h hn
    obtain ⟨meth, c, h1, h2, h3, h4, h5, h6, -, -⟩ := Cond.code_spec hn (atoms_spec (ws := .code y b maxL ret :: xgood) h _ List.mem_cons_self)
    exact ⟨meth, c, h1, h2, h3, h4, h5, h6⟩
  intro p e s m args below meth c s₁ B hml hv _
  obtain ⟨rfl, hH, hK, hB⟩ := hv
  have hts : ∀ w ∈ xgood, w.before av.toArray s = true := fun w hw => atoms_spec (ws := .code y b maxL ret :: xgood) B.pre w (List.mem_cons_of_mem _ hw)
  have X : Cx U (p, l, e, rm, s, m, av.toArray, below, meth, c) y b maxL ret rm := ⟨B.exec, B.bytes, hml, findClass_of_methodNamed B.named, hts, B.returns, B.notSynchronized, rfl, hK, hB⟩
  have hl := lv_entry av (n := maxL) hn
  rw [← hls] at hl
  have hh0 : s₁.heap = s.heap := by rw [B.state]; rfl
  obtain ⟨t, a1, o, b1, b2, b3⟩ := body (p, l, e, rm, s, m, av.toArray, below, meth, c) _ X (name_of_methodNamed B.named B.method).1 rfl s.heap [] _ hH va_S.rf hl s₁ hh0 (Stand.of_body B)
  refine ⟨t, o, ?_, b1, b2, ⟨b3.1, b3.2⟩⟩
  rw [lg_entry_eq]
  exact a1
end
section
section XROWS
variable {U : xU} {K : xK} {y : MethodName} {cc : ByteArray} {nL cells slots : Nat} {ret : Option FieldType} {rm : Room} {Q : State → Prop} {μ : xH} {pc : Nat} {ls : List (Option Value)} {st : List Value}
theorem aw_iadd (X : Cx U K y cc nL ret rm) {x z : Int32} (hdg : decode cc pc = .ok (.iadd, 1)) (k : AW U K nL cells slots Q μ (pc + 1) ls (.int (x + z) :: st)) : AW U K nL cells slots Q μ pc ls (.int z :: .int x :: st) := fun H locs la h1 h2 h3 => lv_iadd X.1 X.2.1 hdg (k H locs la h1 h2 h3)
theorem aw_isub (X : Cx U K y cc nL ret rm) {x z : Int32} (hdg : decode cc pc = .ok (.isub, 1)) (k : AW U K nL cells slots Q μ (pc + 1) ls (.int (x - z) :: st)) : AW U K nL cells slots Q μ pc ls (.int z :: .int x :: st) := fun H locs la h1 h2 h3 => lv_isub X.1 X.2.1 hdg (k H locs la h1 h2 h3)
theorem aw_imul (X : Cx U K y cc nL ret rm) {x z : Int32} (hdg : decode cc pc = .ok (.imul, 1)) (k : AW U K nL cells slots Q μ (pc + 1) ls (.int (x * z) :: st)) : AW U K nL cells slots Q μ pc ls (.int z :: .int x :: st) := fun H locs la h1 h2 h3 => lv_imul X.1 X.2.1 hdg (k H locs la h1 h2 h3)
theorem aw_iand (X : Cx U K y cc nL ret rm) {x z : Int32} (hdg : decode cc pc = .ok (.iand, 1)) (k : AW U K nL cells slots Q μ (pc + 1) ls (.int (x &&& z) :: st)) : AW U K nL cells slots Q μ pc ls (.int z :: .int x :: st) := fun H locs la h1 h2 h3 => lv_iand X.1 X.2.1 hdg (k H locs la h1 h2 h3)
theorem aw_ixor (X : Cx U K y cc nL ret rm) {x z : Int32} (hdg : decode cc pc = .ok (.ixor, 1)) (k : AW U K nL cells slots Q μ (pc + 1) ls (.int (x ^^^ z) :: st)) : AW U K nL cells slots Q μ pc ls (.int z :: .int x :: st) := fun H locs la h1 h2 h3 => lv_ixor X.1 X.2.1 hdg (k H locs la h1 h2 h3)
theorem aw_ior (X : Cx U K y cc nL ret rm) {x z : Int32} (hdg : decode cc pc = .ok (.ior, 1)) (k : AW U K nL cells slots Q μ (pc + 1) ls (.int (x ||| z) :: st)) : AW U K nL cells slots Q μ pc ls (.int z :: .int x :: st) := fun H locs la h1 h2 h3 => lv_ior X.1 X.2.1 hdg (k H locs la h1 h2 h3)
theorem aw_idiv (X : Cx U K y cc nL ret rm) {x z : Int32} (hdg : decode cc pc = .ok (.idiv, 1)) (hne : ¬ z = 0) (k : AW U K nL cells slots Q μ (pc + 1) ls (.int (x / z) :: st)) : AW U K nL cells slots Q μ pc ls (.int z :: .int x :: st) := fun H locs la h1 h2 h3 => lv_idiv X.1 X.2.1 hdg hne (k H locs la h1 h2 h3)
theorem aw_irem (X : Cx U K y cc nL ret rm) {x z : Int32} (hdg : decode cc pc = .ok (.irem, 1)) (hne : ¬ z = 0) (k : AW U K nL cells slots Q μ (pc + 1) ls (.int (x - x / z * z) :: st)) : AW U K nL cells slots Q μ pc ls (.int z :: .int x :: st) := fun H locs la h1 h2 h3 => lv_irem X.1 X.2.1 hdg hne (k H locs la h1 h2 h3)
theorem aw_ineg (X : Cx U K y cc nL ret rm) {x : Int32} (hdg : decode cc pc = .ok (.ineg, 1)) (k : AW U K nL cells slots Q μ (pc + 1) ls (.int (-x) :: st)) : AW U K nL cells slots Q μ pc ls (.int x :: st) := fun H locs la h1 h2 h3 => lv_ineg X.1 X.2.1 hdg (k H locs la h1 h2 h3)
theorem aw_ladd (X : Cx U K y cc nL ret rm) {x z : Int64} (hdg : decode cc pc = .ok (.ladd, 1)) (k : AW U K nL cells slots Q μ (pc + 1) ls (.long (x + z) :: st)) : AW U K nL cells slots Q μ pc ls (.long z :: .long x :: st) := fun H locs la h1 h2 h3 => lv_ladd X.1 X.2.1 hdg (k H locs la h1 h2 h3)
theorem aw_land (X : Cx U K y cc nL ret rm) {x z : Int64} (hdg : decode cc pc = .ok (.land, 1)) (k : AW U K nL cells slots Q μ (pc + 1) ls (.long (x &&& z) :: st)) : AW U K nL cells slots Q μ pc ls (.long z :: .long x :: st) := fun H locs la h1 h2 h3 => lv_land X.1 X.2.1 hdg (k H locs la h1 h2 h3)
theorem aw_lor (X : Cx U K y cc nL ret rm) {x z : Int64} (hdg : decode cc pc = .ok (.lor, 1)) (k : AW U K nL cells slots Q μ (pc + 1) ls (.long (x ||| z) :: st)) : AW U K nL cells slots Q μ pc ls (.long z :: .long x :: st) := fun H locs la h1 h2 h3 => lv_lor X.1 X.2.1 hdg (k H locs la h1 h2 h3)
theorem aw_lxor (X : Cx U K y cc nL ret rm) {x z : Int64} (hdg : decode cc pc = .ok (.lxor, 1)) (k : AW U K nL cells slots Q μ (pc + 1) ls (.long (x ^^^ z) :: st)) : AW U K nL cells slots Q μ pc ls (.long z :: .long x :: st) := fun H locs la h1 h2 h3 => lv_lxor X.1 X.2.1 hdg (k H locs la h1 h2 h3)
theorem aw_lushr (X : Cx U K y cc nL ret rm) {x : Int64} {z : Int32} (hdg : decode cc pc = .ok (.lushr, 1)) (k : AW U K nL cells slots Q μ (pc + 1) ls (.long (x.toUInt64 >>> (z.toInt64.toUInt64 &&& Int64.toUInt64 63)).toInt64 :: st)) : AW U K nL cells slots Q μ pc ls (.int z :: .long x :: st) := fun H locs la h1 h2 h3 => lv_lushr X.1 X.2.1 hdg rfl (k H locs la h1 h2 h3)
theorem aw_lshl (X : Cx U K y cc nL ret rm) {x : Int64} {z : Int32} (hdg : decode cc pc = .ok (.lshl, 1)) (k : AW U K nL cells slots Q μ (pc + 1) ls (.long (x <<< (z.toInt64 &&& 63)) :: st)) : AW U K nL cells slots Q μ pc ls (.int z :: .long x :: st) := fun H locs la h1 h2 h3 => lv_lshl X.1 X.2.1 hdg rfl (k H locs la h1 h2 h3)
theorem aw_i2l (X : Cx U K y cc nL ret rm) {x : Int32} (hdg : decode cc pc = .ok (.i2l, 1)) (k : AW U K nL cells slots Q μ (pc + 1) ls (.long x.toInt64 :: st)) : AW U K nL cells slots Q μ pc ls (.int x :: st) := fun H locs la h1 h2 h3 => lv_i2l X.1 X.2.1 hdg rfl (k H locs la h1 h2 h3)
theorem aw_l2i (X : Cx U K y cc nL ret rm) {x : Int64} (hdg : decode cc pc = .ok (.l2i, 1)) (k : AW U K nL cells slots Q μ (pc + 1) ls (.int x.toInt32 :: st)) : AW U K nL cells slots Q μ pc ls (.long x :: st) := fun H locs la h1 h2 h3 => lv_l2i X.1 X.2.1 hdg rfl (k H locs la h1 h2 h3)
theorem aw_i2c (X : Cx U K y cc nL ret rm) {x : Int32} (hdg : decode cc pc = .ok (.i2c, 1)) (k : AW U K nL cells slots Q μ (pc + 1) ls (.int (x.toUInt32 % 65536).toInt32 :: st)) : AW U K nL cells slots Q μ pc ls (.int x :: st) := fun H locs la h1 h2 h3 => lv_i2c X.1 X.2.1 hdg rfl (k H locs la h1 h2 h3)
theorem aw_lcmp (X : Cx U K y cc nL ret rm) {x z : Int64} (hdg : decode cc pc = .ok (.lcmp, 1)) (k : AW U K nL cells slots Q μ (pc + 1) ls (.int (lg_cmp x z) :: st)) : AW U K nL cells slots Q μ pc ls (.long z :: .long x :: st) := fun H locs la h1 h2 h3 => W.lcmp X.1 X.2.1 hdg (k H locs la h1 h2 h3)
theorem aw_iconst (X : Cx U K y cc nL ret rm) {n : Int} (v : Int32) (hdg : decode cc pc = .ok (.iconst n, 1)) (hv : Int32.ofInt n = v) (k : AW U K nL cells slots Q μ (pc + 1) ls (.int v :: st)) : AW U K nL cells slots Q μ pc ls st := fun H locs la h1 h2 h3 => lv_iconst X.1 X.2.1 hdg hv (k H locs la h1 h2 h3)
theorem aw_bipush (X : Cx U K y cc nL ret rm) {n : Int} (v : Int32) (hdg : decode cc pc = .ok (.bipush n, 2)) (hv : (Int8.ofInt n).toInt32 = v) (k : AW U K nL cells slots Q μ (pc + 2) ls (.int v :: st)) : AW U K nL cells slots Q μ pc ls st := fun H locs la h1 h2 h3 => lv_bipush X.1 X.2.1 hdg hv (k H locs la h1 h2 h3)
theorem aw_sipush (X : Cx U K y cc nL ret rm) {n : Int} (v : Int32) (hdg : decode cc pc = .ok (.sipush n, 3)) (hv : (Int16.ofInt n).toInt32 = v) (k : AW U K nL cells slots Q μ (pc + 3) ls (.int v :: st)) : AW U K nL cells slots Q μ pc ls st := fun H locs la h1 h2 h3 => lv_sipush X.1 X.2.1 hdg hv (k H locs la h1 h2 h3)
theorem aw_lconst (X : Cx U K y cc nL ret rm) {n : Fin 2} (v : Int64) (hdg : decode cc pc = .ok (.lconst n, 1)) (hv : Int64.ofNat (n : Nat) = v) (k : AW U K nL cells slots Q μ (pc + 1) ls (.long v :: st)) : AW U K nL cells slots Q μ pc ls st := fun H locs la h1 h2 h3 => lv_lconst X.1 X.2.1 hdg hv (k H locs la h1 h2 h3)
theorem aw_ldc (X : Cx U K y cc nL ret rm) {index : Nat} {v : Int32} (hdg : decode cc pc = .ok (.ldc index, 2)) (hc : Cond.constant y.cls index v ∈ xgood) (k : AW U K nL cells slots Q μ (pc + 2) ls (.int v :: st)) : AW U K nL cells slots Q μ pc ls st := fun H locs la h1 h2 h3 => lv_ldc X.1 X.2.1 X.2.2.2.1 (X.2.2.2.2.1 _ hc) hdg (k H locs la h1 h2 h3)
theorem aw_ldc2 (X : Cx U K y cc nL ret rm) {index : Nat} {v : Int64} (hdg : decode cc pc = .ok (.ldc2_w index, 3)) (hc : Cond.constantLong y.cls index v ∈ xgood) (k : AW U K nL cells slots Q μ (pc + 3) ls (.long v :: st)) : AW U K nL cells slots Q μ pc ls st := fun H locs la h1 h2 h3 => lv_ldc2 X.1 X.2.1 X.2.2.2.1 (X.2.2.2.2.1 _ hc) hdg (k H locs la h1 h2 h3)
theorem aw_iload_n (X : Cx U K y cc nL ret rm) {k0 : Fin 4} {v : Int32} (hdg : decode cc pc = .ok (.iload_n k0, 1)) (hl : ls[(k0 : Nat)]? = some (some (.int v))) (k : AW U K nL cells slots Q μ (pc + 1) ls (.int v :: st)) : AW U K nL cells slots Q μ pc ls st := fun H locs la h1 h2 h3 => lv_iload_n X.1 X.2.1 hdg rfl (lvl_at h3 hl) (k H locs la h1 h2 h3)
theorem aw_iload (X : Cx U K y cc nL ret rm) {i : Nat} {v : Int32} (hdg : decode cc pc = .ok (.iload i, 2)) (hl : ls[i]? = some (some (.int v))) (k : AW U K nL cells slots Q μ (pc + 2) ls (.int v :: st)) : AW U K nL cells slots Q μ pc ls st := fun H locs la h1 h2 h3 => lv_iload X.1 X.2.1 hdg (lvl_at h3 hl) (k H locs la h1 h2 h3)
theorem aw_lload_n (X : Cx U K y cc nL ret rm) {k0 : Fin 4} {v : Int64} (hdg : decode cc pc = .ok (.lload_n k0, 1)) (hl : ls[(k0 : Nat)]? = some (some (.long v))) (k : AW U K nL cells slots Q μ (pc + 1) ls (.long v :: st)) : AW U K nL cells slots Q μ pc ls st := fun H locs la h1 h2 h3 => lv_lload_n X.1 X.2.1 hdg rfl (lvl_at h3 hl) (k H locs la h1 h2 h3)
theorem aw_lload (X : Cx U K y cc nL ret rm) {i : Nat} {v : Int64} (hdg : decode cc pc = .ok (.lload i, 2)) (hl : ls[i]? = some (some (.long v))) (k : AW U K nL cells slots Q μ (pc + 2) ls (.long v :: st)) : AW U K nL cells slots Q μ pc ls st := fun H locs la h1 h2 h3 => lv_lload X.1 X.2.1 hdg (lvl_at h3 hl) (k H locs la h1 h2 h3)
theorem aw_aload_n (X : Cx U K y cc nL ret rm) {k0 : Fin 4} {v : Nat} (hdg : decode cc pc = .ok (.aload_n k0, 1)) (hl : ls[(k0 : Nat)]? = some (some (.ref v))) (k : AW U K nL cells slots Q μ (pc + 1) ls (.ref v :: st)) : AW U K nL cells slots Q μ pc ls st := fun H locs la h1 h2 h3 => lv_aload_n X.1 X.2.1 hdg rfl (lvl_at h3 hl) (k H locs la h1 h2 h3)
theorem aw_aload (X : Cx U K y cc nL ret rm) {i : Nat} {v : Nat} (hdg : decode cc pc = .ok (.aload i, 2)) (hl : ls[i]? = some (some (.ref v))) (k : AW U K nL cells slots Q μ (pc + 2) ls (.ref v :: st)) : AW U K nL cells slots Q μ pc ls st := fun H locs la h1 h2 h3 => lv_aload X.1 X.2.1 hdg (lvl_at h3 hl) (k H locs la h1 h2 h3)
theorem aw_istore_n (X : Cx U K y cc nL ret rm) {k0 : Fin 4} {v : Int32} (hdg : decode cc pc = .ok (.istore_n k0, 1)) (hk : xok ls (k0 : Nat) = true) (hn : (k0 : Nat) < nL) (k : AW U K nL cells slots Q μ (pc + 1) (ls.set (k0 : Nat) (some (.int v))) st) : AW U K nL cells slots Q μ pc ls (.int v :: st) := fun H locs la h1 h2 h3 => lv_istore_n X.1 X.2.1 hdg rfl h3 hn rfl (fun la h3 => k H locs la h1 h2 (lvl_st1 h3 hk))
theorem aw_istore (X : Cx U K y cc nL ret rm) {i : Nat} {v : Int32} (hdg : decode cc pc = .ok (.istore i, 2)) (hk : xok ls i = true) (hn : i < nL) (k : AW U K nL cells slots Q μ (pc + 2) (ls.set i (some (.int v))) st) : AW U K nL cells slots Q μ pc ls (.int v :: st) := fun H locs la h1 h2 h3 => lv_istore X.1 X.2.1 hdg h3 hn rfl (fun la h3 => k H locs la h1 h2 (lvl_st1 h3 hk))
theorem aw_astore_n (X : Cx U K y cc nL ret rm) {k0 : Fin 4} {v : Nat} (hdg : decode cc pc = .ok (.astore_n k0, 1)) (hk : xok ls (k0 : Nat) = true) (hn : (k0 : Nat) < nL) (k : AW U K nL cells slots Q μ (pc + 1) (ls.set (k0 : Nat) (some (.ref v))) st) : AW U K nL cells slots Q μ pc ls (.ref v :: st) := fun H locs la h1 h2 h3 => lv_astore_n X.1 X.2.1 hdg rfl h3 hn rfl (fun la h3 => k H locs la h1 h2 (lvl_st1 h3 hk))
theorem aw_astore (X : Cx U K y cc nL ret rm) {i : Nat} {v : Nat} (hdg : decode cc pc = .ok (.astore i, 2)) (hk : xok ls i = true) (hn : i < nL) (k : AW U K nL cells slots Q μ (pc + 2) (ls.set i (some (.ref v))) st) : AW U K nL cells slots Q μ pc ls (.ref v :: st) := fun H locs la h1 h2 h3 => lv_astore X.1 X.2.1 hdg h3 hn rfl (fun la h3 => k H locs la h1 h2 (lvl_st1 h3 hk))
theorem aw_lstore_n (X : Cx U K y cc nL ret rm) {k0 : Fin 4} {v : Int64} (hdg : decode cc pc = .ok (.lstore_n k0, 1)) (hk : xok ls (k0 : Nat) = true) (hn : (k0 : Nat) + 1 < nL) (k : AW U K nL cells slots Q μ (pc + 1) ((ls.set (k0 : Nat) (some (.long v))).set ((k0 : Nat) + 1) none) st) : AW U K nL cells slots Q μ pc ls (.long v :: st) := fun H locs la h1 h2 h3 => lv_lstore_n X.1 X.2.1 hdg rfl h3 hn rfl (fun la h3 => k H locs la h1 h2 (lvl_st2 h3 hk))
theorem aw_lstore (X : Cx U K y cc nL ret rm) {i : Nat} {v : Int64} (hdg : decode cc pc = .ok (.lstore i, 2)) (hk : xok ls i = true) (hn : i + 1 < nL) (k : AW U K nL cells slots Q μ (pc + 2) ((ls.set i (some (.long v))).set (i + 1) none) st) : AW U K nL cells slots Q μ pc ls (.long v :: st) := fun H locs la h1 h2 h3 => lv_lstore X.1 X.2.1 hdg h3 hn rfl (fun la h3 => k H locs la h1 h2 (lvl_st2 h3 hk))
theorem aw_iinc (X : Cx U K y cc nL ret rm) {i : Nat} {n : Int} {v : Int32} (w : Int32) (hdg : decode cc pc = .ok (.iinc i n, 3)) (hl : ls[i]? = some (some (.int v))) (hw : Int32.ofInt n = w) (hk : xok ls i = true) (hn : i < nL) (k : AW U K nL cells slots Q μ (pc + 3) (ls.set i (some (.int (v + w)))) st) : AW U K nL cells slots Q μ pc ls st := by
  intro H locs la h1 h2 h3
  obtain ⟨p, hp⟩ := List.getElem?_of_mem ((lvl_mem ls 0 (i, .int v)).mpr ⟨i, by simp, hl⟩)
  subst hw
  exact lv_iinc X.1 X.2.1 hdg h3 hp rfl hn rfl (fun la h3 => k H locs la h1 h2 (lvl_st1 h3 hk))
theorem aw_dup (X : Cx U K y cc nL ret rm) {v : Value} (hdg : decode cc pc = .ok (.dup, 1)) (hv : v.category = 1) (k : AW U K nL cells slots Q μ (pc + 1) ls (v :: v :: st)) : AW U K nL cells slots Q μ pc ls (v :: st) := fun H locs la h1 h2 h3 => lv_dup X.1 X.2.1 hdg hv (k H locs la h1 h2 h3)
theorem aw_pop (X : Cx U K y cc nL ret rm) {v : Value} (hdg : decode cc pc = .ok (.pop, 1)) (hv : v.category = 1) (k : AW U K nL cells slots Q μ (pc + 1) ls st) : AW U K nL cells slots Q μ pc ls (v :: st) := fun H locs la h1 h2 h3 => lv_pop X.1 X.2.1 hdg hv (k H locs la h1 h2 h3)
theorem aw_dup2 (X : Cx U K y cc nL ret rm) {v w : Value} (hdg : decode cc pc = .ok (.dup2, 1)) (hv : v.category = 1) (hw : w.category = 1) (k : AW U K nL cells slots Q μ (pc + 1) ls (v :: w :: v :: w :: st)) : AW U K nL cells slots Q μ pc ls (v :: w :: st) := fun H locs la h1 h2 h3 => lv_dup2_11 X.1 X.2.1 hdg hv hw (k H locs la h1 h2 h3)
theorem aw_goto (X : Cx U K y cc nL ret rm) {off : Int} {tgt : Nat} (hdg : decode cc pc = .ok (.goto off, 3)) (ht : (pc : Int) + off = (tgt : Int)) (k : AW U K nL cells slots Q μ tgt ls st) : AW U K nL cells slots Q μ pc ls st := fun H locs la h1 h2 h3 => lv_goto X.1 X.2.1 hdg ht (k H locs la h1 h2 h3)
theorem aw_if_eq (X : Cx U K y cc nL ret rm) {x : Int32} {off : Int} {tgt : Nat} (hdg : decode cc pc = .ok (.ifCond .eq off, 3)) (ht : (pc : Int) + off = (tgt : Int)) (kt : x = 0 → AW U K nL cells slots Q μ tgt ls st) (kf : ¬ (x = 0) → AW U K nL cells slots Q μ (pc + 3) ls st) : AW U K nL cells slots Q μ pc ls (.int x :: st) := fun H locs la h1 h2 h3 => lv_if_eq X.1 X.2.1 hdg ht (fun c => kt c H locs la h1 h2 h3) (fun c => kf c H locs la h1 h2 h3)
theorem aw_icmp_eq (X : Cx U K y cc nL ret rm) {x z : Int32} {off : Int} {tgt : Nat} (hdg : decode cc pc = .ok (.if_icmp .eq off, 3)) (ht : (pc : Int) + off = (tgt : Int)) (kt : x = z → AW U K nL cells slots Q μ tgt ls st) (kf : ¬ (x = z) → AW U K nL cells slots Q μ (pc + 3) ls st) : AW U K nL cells slots Q μ pc ls (.int z :: .int x :: st) := fun H locs la h1 h2 h3 => lv_icmp_eq X.1 X.2.1 hdg ht (fun c => kt c H locs la h1 h2 h3) (fun c => kf c H locs la h1 h2 h3)
theorem aw_if_ne (X : Cx U K y cc nL ret rm) {x : Int32} {off : Int} {tgt : Nat} (hdg : decode cc pc = .ok (.ifCond .ne off, 3)) (ht : (pc : Int) + off = (tgt : Int)) (kt : ¬ x = 0 → AW U K nL cells slots Q μ tgt ls st) (kf : x = 0 → AW U K nL cells slots Q μ (pc + 3) ls st) : AW U K nL cells slots Q μ pc ls (.int x :: st) := fun H locs la h1 h2 h3 => lv_if_ne X.1 X.2.1 hdg ht (fun c => kt c H locs la h1 h2 h3) (fun c => kf c H locs la h1 h2 h3)
theorem aw_icmp_ne (X : Cx U K y cc nL ret rm) {x z : Int32} {off : Int} {tgt : Nat} (hdg : decode cc pc = .ok (.if_icmp .ne off, 3)) (ht : (pc : Int) + off = (tgt : Int)) (kt : ¬ x = z → AW U K nL cells slots Q μ tgt ls st) (kf : x = z → AW U K nL cells slots Q μ (pc + 3) ls st) : AW U K nL cells slots Q μ pc ls (.int z :: .int x :: st) := fun H locs la h1 h2 h3 => lv_icmp_ne X.1 X.2.1 hdg ht (fun c => kt c H locs la h1 h2 h3) (fun c => kf c H locs la h1 h2 h3)
theorem aw_if_lt (X : Cx U K y cc nL ret rm) {x : Int32} {off : Int} {tgt : Nat} (hdg : decode cc pc = .ok (.ifCond .lt off, 3)) (ht : (pc : Int) + off = (tgt : Int)) (kt : x < 0 → AW U K nL cells slots Q μ tgt ls st) (kf : ¬ (x < 0) → AW U K nL cells slots Q μ (pc + 3) ls st) : AW U K nL cells slots Q μ pc ls (.int x :: st) := fun H locs la h1 h2 h3 => lv_if_lt X.1 X.2.1 hdg ht (fun c => kt c H locs la h1 h2 h3) (fun c => kf c H locs la h1 h2 h3)
theorem aw_icmp_lt (X : Cx U K y cc nL ret rm) {x z : Int32} {off : Int} {tgt : Nat} (hdg : decode cc pc = .ok (.if_icmp .lt off, 3)) (ht : (pc : Int) + off = (tgt : Int)) (kt : x < z → AW U K nL cells slots Q μ tgt ls st) (kf : ¬ (x < z) → AW U K nL cells slots Q μ (pc + 3) ls st) : AW U K nL cells slots Q μ pc ls (.int z :: .int x :: st) := fun H locs la h1 h2 h3 => lv_icmp_lt X.1 X.2.1 hdg ht (fun c => kt c H locs la h1 h2 h3) (fun c => kf c H locs la h1 h2 h3)
theorem aw_if_ge (X : Cx U K y cc nL ret rm) {x : Int32} {off : Int} {tgt : Nat} (hdg : decode cc pc = .ok (.ifCond .ge off, 3)) (ht : (pc : Int) + off = (tgt : Int)) (kt : 0 ≤ x → AW U K nL cells slots Q μ tgt ls st) (kf : ¬ (0 ≤ x) → AW U K nL cells slots Q μ (pc + 3) ls st) : AW U K nL cells slots Q μ pc ls (.int x :: st) := fun H locs la h1 h2 h3 => lv_if_ge X.1 X.2.1 hdg ht (fun c => kt c H locs la h1 h2 h3) (fun c => kf c H locs la h1 h2 h3)
theorem aw_icmp_ge (X : Cx U K y cc nL ret rm) {x z : Int32} {off : Int} {tgt : Nat} (hdg : decode cc pc = .ok (.if_icmp .ge off, 3)) (ht : (pc : Int) + off = (tgt : Int)) (kt : z ≤ x → AW U K nL cells slots Q μ tgt ls st) (kf : ¬ (z ≤ x) → AW U K nL cells slots Q μ (pc + 3) ls st) : AW U K nL cells slots Q μ pc ls (.int z :: .int x :: st) := fun H locs la h1 h2 h3 => lv_icmp_ge X.1 X.2.1 hdg ht (fun c => kt c H locs la h1 h2 h3) (fun c => kf c H locs la h1 h2 h3)
theorem aw_if_gt (X : Cx U K y cc nL ret rm) {x : Int32} {off : Int} {tgt : Nat} (hdg : decode cc pc = .ok (.ifCond .gt off, 3)) (ht : (pc : Int) + off = (tgt : Int)) (kt : 0 < x → AW U K nL cells slots Q μ tgt ls st) (kf : ¬ (0 < x) → AW U K nL cells slots Q μ (pc + 3) ls st) : AW U K nL cells slots Q μ pc ls (.int x :: st) := fun H locs la h1 h2 h3 => lv_if_gt X.1 X.2.1 hdg ht (fun c => kt c H locs la h1 h2 h3) (fun c => kf c H locs la h1 h2 h3)
theorem aw_icmp_gt (X : Cx U K y cc nL ret rm) {x z : Int32} {off : Int} {tgt : Nat} (hdg : decode cc pc = .ok (.if_icmp .gt off, 3)) (ht : (pc : Int) + off = (tgt : Int)) (kt : z < x → AW U K nL cells slots Q μ tgt ls st) (kf : ¬ (z < x) → AW U K nL cells slots Q μ (pc + 3) ls st) : AW U K nL cells slots Q μ pc ls (.int z :: .int x :: st) := fun H locs la h1 h2 h3 => lv_icmp_gt X.1 X.2.1 hdg ht (fun c => kt c H locs la h1 h2 h3) (fun c => kf c H locs la h1 h2 h3)
theorem aw_if_le (X : Cx U K y cc nL ret rm) {x : Int32} {off : Int} {tgt : Nat} (hdg : decode cc pc = .ok (.ifCond .le off, 3)) (ht : (pc : Int) + off = (tgt : Int)) (kt : x ≤ 0 → AW U K nL cells slots Q μ tgt ls st) (kf : ¬ (x ≤ 0) → AW U K nL cells slots Q μ (pc + 3) ls st) : AW U K nL cells slots Q μ pc ls (.int x :: st) := fun H locs la h1 h2 h3 => lv_if_le X.1 X.2.1 hdg ht (fun c => kt c H locs la h1 h2 h3) (fun c => kf c H locs la h1 h2 h3)
theorem aw_icmp_le (X : Cx U K y cc nL ret rm) {x z : Int32} {off : Int} {tgt : Nat} (hdg : decode cc pc = .ok (.if_icmp .le off, 3)) (ht : (pc : Int) + off = (tgt : Int)) (kt : x ≤ z → AW U K nL cells slots Q μ tgt ls st) (kf : ¬ (x ≤ z) → AW U K nL cells slots Q μ (pc + 3) ls st) : AW U K nL cells slots Q μ pc ls (.int z :: .int x :: st) := fun H locs la h1 h2 h3 => lv_icmp_le X.1 X.2.1 hdg ht (fun c => kt c H locs la h1 h2 h3) (fun c => kf c H locs la h1 h2 h3)
theorem aw_tableIn (X : Cx U K y cc nL ret rm) {dflt lo hi : Int} {offs : Array Int} {len : Nat} {x : Int32} {off : Int} {tgt : Nat} (hdg : decode cc pc = .ok (.tableswitch dflt lo hi offs, len)) (hx1 : ¬ x.toInt < lo) (hx2 : ¬ hi < x.toInt) (ho : offs[(x.toInt - lo).toNat]? = some off) (ht : (pc : Int) + off = (tgt : Int)) (k : AW U K nL cells slots Q μ tgt ls st) : AW U K nL cells slots Q μ pc ls (.int x :: st) := fun H locs la h1 h2 h3 => lv_tableIn X.1 X.2.1 hdg hx1 hx2 ho ht (k H locs la h1 h2 h3)
theorem aw_tableOut (X : Cx U K y cc nL ret rm) {dflt lo hi : Int} {offs : Array Int} {len : Nat} {x : Int32} {tgt : Nat} (hdg : decode cc pc = .ok (.tableswitch dflt lo hi offs, len)) (hx : x.toInt < lo ∨ hi < x.toInt) (ht : (pc : Int) + dflt = (tgt : Int)) (k : AW U K nL cells slots Q μ tgt ls st) : AW U K nL cells slots Q μ pc ls (.int x :: st) := fun H locs la h1 h2 h3 => lv_tableOut X.1 X.2.1 hdg hx ht (k H locs la h1 h2 h3)
theorem aw_lookup (X : Cx U K y cc nL ret rm) {dflt : Int} {ps : Array (Int × Int)} {len : Nat} {x : Int32} {off : Int} {tgt : Nat} (hdg : decode cc pc = .ok (.lookupswitch dflt ps, len)) (hp : (ps.toList.zip (ps.toList.drop 1)).all (fun (a, next) => a.1 < next.1) = true) (ho : Op.lookupswitch.offset ps.toList dflt x.toInt = off) (ht : (pc : Int) + off = (tgt : Int)) (k : AW U K nL cells slots Q μ tgt ls st) : AW U K nL cells slots Q μ pc ls (.int x :: st) := fun H locs la h1 h2 h3 => lv_lookup X.1 X.2.1 hdg hp ho ht (k H locs la h1 h2 h3)
theorem aw_top (v : Int32) {x : Int32} (h : x = v) (k : AW U K nL cells slots Q μ pc ls (.int v :: st)) : AW U K nL cells slots Q μ pc ls (.int x :: st) := h ▸ k
theorem aw_loc (ls' : List (Option Value)) (h : ls = ls') (k : AW U K nL cells slots Q μ pc ls' st) : AW U K nL cells slots Q μ pc ls st := h ▸ k
theorem aw_widen {k n : Nat} (h1 : cells ≤ k) (h2 : slots ≤ n) (kk : AW U K nL k n Q μ pc ls st) : AW U K nL cells slots Q μ pc ls st := fun H locs la a1 a2 a3 => W.widen h1 h2 (kk H locs la a1 a2 a3)
/-- a place of the locals that is not read any more -/
theorem lvl_sub {ls ls' : List (Option Value)} (h : ∀ (i : Nat) (v : Value), ls'[i]? = some (some v) → ls[i]? = some (some v)) {la : Array Slot} {nL : Nat} (hl : lv_has la nL (lvl 0 ls)) : lv_has la nL (lvl 0 ls') := by
  refine ⟨hl.1, hl.2.1, fun q hq => ?_⟩
  obtain ⟨i, h1, h2⟩ := (lvl_mem _ 0 q).mp hq
  exact hl.2.2 q ((lvl_mem _ 0 q).mpr ⟨i, h1, h i _ h2⟩)
def xsub : List (Option Value) → List (Option Value) → Prop
  | [], [] => True
  | _ :: r, none :: r' => xsub r r'
  | a :: r, some v :: r' => a = some v ∧ xsub r r'
  | _, _ => False
theorem xsub_ok : ∀ (ls ls' : List (Option Value)), xsub ls ls' → ∀ (i : Nat) (v : Value), ls'[i]? = some (some v) → ls[i]? = some (some v) := by
  intro ls
  induction ls with
  | nil =>
    intro ls' h i v hv
    cases ls' with
    | nil => simp at hv
    | cons a r => cases a <;> exact absurd h (by simp [xsub])
  | cons a r ih =>
    intro ls' h i v hv
    cases ls' with
    | nil => simp at hv
    | cons b r' =>
      cases b with
      | none =>
        cases i with
        | zero => simp at hv
        | succ i => simpa using ih r' h i v (by simpa using hv)
      | some w =>
        cases i with
        | zero =>
          simp at hv
          rw [h.1, hv]
          rfl
        | succ i => simpa using ih r' h.2 i v (by simpa using hv)
theorem aw_sub (ls' : List (Option Value)) (h : xsub ls ls') (k : AW U K nL cells slots Q μ pc ls' st) : AW U K nL cells slots Q μ pc ls st := fun H locs la h1 h2 h3 => k H locs la h1 h2 (lvl_sub (xsub_ok _ _ h) h3)
/-- the end of a method -/
theorem aw_iret {post : Option Value → xH → Prop} {v : Int32} (X : Cx U K y cc nL (some .int) rm) (hQ : Q = RQ U K post cells slots) (hdg : decode cc pc = .ok (.ireturn, 1)) (h : post (some (.int v)) μ) : AW U K nL cells slots Q μ pc ls [.int v] := by
  subst hQ
  intro H locs la h1 h2 h3
  exact W.iret (v := v) X.1 X.2.1 X.2.2.2.2.2.1 (fun t ht hW => ⟨⟨_, μ, rfl, h, by rw [ht]; exact h1⟩, h2.F ht⟩) h2.2.2 hdg X.2.2.2.2.2.2.1
theorem aw_zret {post : Option Value → xH → Prop} {v : Int32} {ty : FieldType} (X : Cx U K y cc nL (some ty) rm) (hn : narrow ty (.int v) = .int v) (hQ : Q = RQ U K post cells slots) (hdg : decode cc pc = .ok (.ireturn, 1)) (h : post (some (.int v)) μ) : AW U K nL cells slots Q μ pc ls [.int v] := by
  subst hQ
  intro H locs la h1 h2 h3
  exact W.zret (v := v) X.1 X.2.1 X.2.2.2.2.2.1 hn (fun t ht hW => ⟨⟨_, μ, rfl, h, by rw [ht]; exact h1⟩, h2.F ht⟩) h2.2.2 hdg X.2.2.2.2.2.2.1
theorem aw_vret {post : Option Value → xH → Prop} (X : Cx U K y cc nL none rm) (hQ : Q = RQ U K post cells slots) (hdg : decode cc pc = .ok (.return_, 1)) (h : post none μ) : AW U K nL cells slots Q μ pc ls [] := by
  subst hQ
  intro H locs la h1 h2 h3
  exact W.vret X.1 X.2.1 X.2.2.2.2.2.1 (fun t ht hW => ⟨⟨_, μ, rfl, h, by rw [ht]; exact h1⟩, h2.F ht⟩) h2.2.2 hdg X.2.2.2.2.2.2.1
end XROWS
end
section
section XHEAP
variable {U : xU} {K : xK} {y : MethodName} {cc : ByteArray} {nL cells slots : Nat} {ret : Option FieldType} {rm : Room} {Q : State → Prop} {μ : xH} {pc : Nat} {ls : List (Option Value)} {st : List Value} {a : Nat}
theorem xin_lt {i : Int32} {n : Nat} (h : vp_in i n) : i.toNatClampNeg < n := Nat.not_le.mp fun q => h (Or.inr q)
theorem va_S.puts {A : Nat → Prop} {H0 H H1 : Heap} {locs : List Loc} (h : va_S A H0 H locs) {a i : Nat} (ha : A a) (z : H1.size = H.size) (o : ∀ q : Nat, q ≠ a → H1[q]? = H[q]?) : va_S A H0 H1 (locs ++ [⟨a, i⟩]) := by
  refine ⟨by rw [z]; exact h.1, fun q h1 h2 => ?_, fun l hl => ?_⟩
  · rw [o q (fun e => h2 (e ▸ ha))]
    exact h.2.1 q h1 h2
  · rcases List.mem_append.mp hl with h1 | h1
    · exact h.2.2 l h1
    · rw [List.mem_singleton.mp h1]
      exact ha
theorem va_S.grown {A : Nat → Prop} {H0 H H1 : Heap} {locs : List Loc} (h : va_S A H0 H locs) (z : H.size ≤ H1.size) (o : ∀ q : Nat, q < H.size → H1[q]? = H[q]?) : va_S A H0 H1 locs :=
  ⟨Nat.le_trans h.1 z, fun q h1 h2 => (o q (Nat.lt_of_lt_of_le h1 h.1)).trans (h.2.1 q h1 h2), h.2.2⟩
/-- getfield -/
theorem aw_get (X : Cx U K y cc nL ret rm) {index ci k N : Nat} {C : String} {T : u_T} (hf : XF y.cls index ci k C T N) {fs : List Value} {v : Value} (hμ : μ a = some (.inr (ci, fs))) (hv : fs[k]? = some v) (hdg : decode cc pc = .ok (.getfield index, 3)) (kk : AW U K nL cells slots Q μ (pc + 3) ls (v :: st)) : AW U K nL cells slots Q μ pc ls (.ref a :: st) := by
  intro H locs la h1 h2 h3
  obtain ⟨f1, f2, f3, f4⟩ := hf
  obtain ⟨c1, -, -⟩ := xc_all ci C T N f1
  have hP : va_P U.1 xcl [(a, .inr (ci, fs))] H := fun k q hq => by
    cases k with
    | zero => cases hq; exact (h1 a _ hμ).2
    | succ k => simp at hq
  exact va_get (D := U.1) (tys := xty (uC U)) X.1 X.2.1 X.2.2.2.2.1 c1 X.2.2.2.1 X.2.2.2.2.2.2.2.2.1.1 hP 0 (he := rfl) f1 k f2 (X.2.2.2.2.1 _ f3) (fun x hx => by rw [f4] at hx; exact hx) hv hdg (kk H locs la h1 h2 h3)
theorem xfit_i {x : Int32} : narrow .int (.int x) = .int x ∧ fits .int (.int x) = true := ⟨rfl, rfl⟩
theorem xfit_z {x : Int32} (h : x = 0 ∨ x = 1) : narrow .boolean (.int x) = .int x ∧ fits .boolean (.int x) = true := by
  rcases h with rfl | rfl <;> exact ⟨rfl, rfl⟩
/-- putfield -/
theorem aw_put (X : Cx U K y cc nL ret rm) {index ci k N : Nat} {C : String} {T : u_T} (hf : XF y.cls index ci k C T N) {fs : List Value} {v : Value} {ty : FieldType} (hμ : μ a = some (.inr (ci, fs))) (hfin : (T k).2.2.2 = false) (hd : parseFieldDescriptor (T k).2.2.1 = some ty) (hn : narrow ty v = v ∧ fits ty v = true) (hl : k < fs.length) (hdg : decode cc pc = .ok (.putfield index, 3)) (kk : AW U K nL cells slots Q (xup μ a (.inr (ci, fs.set k v))) (pc + 3) ls st) : AW U K nL cells slots Q μ pc ls (v :: .ref a :: st) := by
  intro H locs la h1 h2 h3
  obtain ⟨f1, f2, f3, f4⟩ := hf
  obtain ⟨c1, ⟨ty0, c2⟩, c3⟩ := xc_all ci C T N f1
  have hK := X.2.2.2.2.2.2.2.2.1.1
  have hts := X.2.2.2.2.1
  have hap := va_apart (own := y.cls) hts c1 ty0 c2 c3 hK f1
  obtain ⟨hB, r, g1, cell, q1, q2, q3, q4⟩ := h1 a _ hμ
  have hr : r = (C, T, N) := Option.some.inj (g1.symm.trans f1)
  subst hr
  obtain ⟨hS, hfc, kC, hkC, hkind⟩ := hK.1 ci _ f1
  obtain ⟨cf, kf, fi, f, hi, hsl⟩ := hS k f2
  have hlay := hts _ (c1 _ (u_in_lay f2))
  unfold u_lay at hlay
  rw [if_neg (by rw [hfin]; decide)] at hlay
  have hst := (u_facts hfc hkC (u_lays hts c1 f2) hi).1
  have h6 := u_store hfc hkC hkind hlay hi hd hn.1 hn.2
  refine W.putK X.1 X.2.1 (f := f) ⟨X.2.2.2.1, hts _ f3, ⟨_, _, _, by rw [f4] at hi; exact hi⟩, hst⟩ (by rw [q2]; exact h6) q1 q3 (by rw [hsl]; exact k2_hasslot (q4 k f2)) rfl rfl hdg fun H' e1 e2 e3 => ?_
  rw [hsl] at e1 ⊢
  exact kk H' _ la (h1.put hμ ⟨_, f1, t_OB.to (V := updV (vp_V fs) k v) ⟨_, e1, q2, q3, t_set q4 hap f2 v⟩ (fun j _ => vp_updV_set hl v j)⟩ e3) (h2.puts hB e2 e3) h3
/-- putfield of a final field, in a constructor -/
theorem aw_putF (X : Cx U K y cc nL ret rm) {index ci k N : Nat} {C : String} {T : u_T} (hf : XF y.cls index ci k C T N) (hnm : (kM K).name = "<init>") (hC : C = y.cls) {fs : List Value} {v : Value} {ty : FieldType} (hμ : μ a = some (.inr (ci, fs))) (hfin : (T k).2.2.2 = true) (hd : parseFieldDescriptor (T k).2.2.1 = some ty) (hn : narrow ty v = v ∧ fits ty v = true) (hl : k < fs.length) (hdg : decode cc pc = .ok (.putfield index, 3)) (kk : AW U K nL cells slots Q (xup μ a (.inr (ci, fs.set k v))) (pc + 3) ls st) : AW U K nL cells slots Q μ pc ls (v :: .ref a :: st) := by
  intro H locs la h1 h2 h3
  obtain ⟨f1, f2, f3, f4⟩ := hf
  obtain ⟨c1, ⟨ty0, c2⟩, c3⟩ := xc_all ci C T N f1
  have hK := X.2.2.2.2.2.2.2.2.1.1
  have hts := X.2.2.2.2.1
  have hap := va_apart (own := y.cls) hts c1 ty0 c2 c3 hK f1
  obtain ⟨hB, r, g1, cell, q1, q2, q3, q4⟩ := h1 a _ hμ
  have hr : r = (C, T, N) := Option.some.inj (g1.symm.trans f1)
  subst hr
  obtain ⟨hS, hfc, kC, hkC, hkind⟩ := hK.1 ci _ f1
  obtain ⟨cf, kf, fi, f, hi, hsl⟩ := hS k f2
  have hlay := hts _ (c1 _ (u_in_lay f2))
  unfold u_lay at hlay
  rw [if_pos hfin] at hlay
  have hst := (u_facts hfc hkC (u_lays hts c1 f2) hi).1
  have hcf : (km K).cls = cf := by
    obtain ⟨_, _, c', _, _, _, -, -, hf', -, -, -, hown2, -⟩ := Cond.laysFinal_spec hlay
    have e1 : c' = cf := by have := hi.symm.trans hf'; simp at this; exact this.1.symm
    rw [f4, hC] at hown2
    rw [← e1]; exact Option.some.inj (X.2.2.2.1.symm.trans hown2)
  have h6 := u_fits hfc hkC hkind (Or.inr hlay) hi hd hn.1 hn.2
  refine W.putFinK X.1 X.2.1 X.2.2.2.1 (hts _ f3) (by rw [f4] at hi; exact hi) hst hcf hnm (by rw [q2]; exact h6) q1 q3 (by rw [hsl]; exact k2_hasslot (q4 k f2)) rfl rfl hdg fun H' e1 e2 e3 => ?_
  rw [hsl] at e1 ⊢
  exact kk H' _ la (h1.put hμ ⟨_, f1, t_OB.to (V := updV (vp_V fs) k v) ⟨_, e1, q2, q3, t_set q4 hap f2 v⟩ (fun j _ => vp_updV_set hl v j)⟩ e3) (h2.puts hB e2 e3) h3
theorem xP1 {H : Heap} {e : va_E} (h1 : Hd U μ H) (hμ : μ a = some e) : va_P U.1 xcl [(a, e)] H := fun k q hq => by
  cases k with
  | zero => cases hq; exact (h1 a _ hμ).2
  | succ k => simp at hq
theorem aw_iald (X : Cx U K y cc nL ret rm) {n : Nat} {f : Nat → Int32} {i : Int32} (hμ : μ a = some (.inl (uC U 0, n, .inl f))) (hin : vp_in i n) (hdg : decode cc pc = .ok (.iaload, 1)) (kk : AW U K nL cells slots Q μ (pc + 1) ls (.int (f i.toNatClampNeg) :: st)) : AW U K nL cells slots Q μ pc ls (.int i :: .ref a :: st) := fun H locs la h1 h2 h3 =>
  va_iald (D := U.1) (tys := xty (uC U)) X.1 X.2.1 X.2.2.2.2.2.2.2.2.1.1 (xP1 h1 hμ) 0 0 (ha := rfl) (ht := rfl) hin hdg (kk H locs la h1 h2 h3)
theorem aw_zald (X : Cx U K y cc nL ret rm) {n : Nat} {f : Nat → Int32} {i : Int32} (hμ : μ a = some (.inl (uC U 1, n, .inl f))) (hin : vp_in i n) (hdg : decode cc pc = .ok (.baload, 1)) (kk : AW U K nL cells slots Q μ (pc + 1) ls (.int (f i.toNatClampNeg) :: st)) : AW U K nL cells slots Q μ pc ls (.int i :: .ref a :: st) := fun H locs la h1 h2 h3 =>
  va_zald (D := U.1) (tys := xty (uC U)) X.1 X.2.1 X.2.2.2.2.2.2.2.2.1.1 (xP1 h1 hμ) 0 1 (ha := rfl) (ht := rfl) hin hdg (kk H locs la h1 h2 h3)
theorem aw_cald (X : Cx U K y cc nL ret rm) {n : Nat} {f : Nat → Int32} {i : Int32} (hμ : μ a = some (.inl (uC U 2, n, .inl f))) (hin : vp_in i n) (hdg : decode cc pc = .ok (.caload, 1)) (kk : AW U K nL cells slots Q μ (pc + 1) ls (.int (f i.toNatClampNeg) :: st)) : AW U K nL cells slots Q μ pc ls (.int i :: .ref a :: st) := fun H locs la h1 h2 h3 =>
  va_cald (D := U.1) (tys := xty (uC U)) X.1 X.2.1 X.2.2.2.2.2.2.2.2.1.1 (xP1 h1 hμ) 0 2 (ha := rfl) (ht := rfl) hin hdg (kk H locs la h1 h2 h3)
theorem aw_aald (X : Cx U K y cc nL ret rm) {n t0 : Nat} {C : String} (ht : (xty (uC U))[t0]? = some (uC U t0, .object C)) {f : Nat → Option Nat} {i : Int32} (hμ : μ a = some (.inl (uC U t0, n, .inr (.inr (.inr (.inr f)))))) (hin : vp_in i n) {v : Nat} (hv : f i.toNatClampNeg = some v) (hdg : decode cc pc = .ok (.aaload, 1)) (kk : AW U K nL cells slots Q μ (pc + 1) ls (.ref v :: st)) : AW U K nL cells slots Q μ pc ls (.int i :: .ref a :: st) := fun H locs la h1 h2 h3 =>
  va_aldq (D := U.1) (tys := xty (uC U)) X.1 X.2.1 X.2.2.2.2.2.2.2.2.1.1 (xP1 h1 hμ) 0 t0 (ha := rfl) (ht := ht) hin hdg (by rw [hv]; exact kk H locs la h1 h2 h3)
theorem aw_alen (X : Cx U K y cc nL ret rm) {x : vp_A} {t0 : Nat} {ty : FieldType} (ht : (xty (uC U))[t0]? = some (uC U t0, ty)) {v : Int32} (hμ : μ a = some (.inl (uC U t0, x))) (hv : Int32.ofNat x.1 = v) (hdg : decode cc pc = .ok (.arraylength, 1)) (kk : AW U K nL cells slots Q μ (pc + 1) ls (.int v :: st)) : AW U K nL cells slots Q μ pc ls (.ref a :: st) := fun H locs la h1 h2 h3 =>
  va_alen (D := U.1) (tys := xty (uC U)) X.1 X.2.1 X.2.2.2.2.2.2.2.2.1.1 (xP1 h1 hμ) 0 t0 (ha := rfl) (ht := ht) hv hdg (kk H locs la h1 h2 h3)
theorem xarr_i {cA : ClassId} {n k : Nat} {f : Nat → Int32} {x : Int32} : (vp_cell cA (n, .inl f)).setSlot k (.int x) = vp_cell cA (n, .inl (upd f k x)) := by
  rw [vp_cell_i, vp_cell_i, arrV_store]
  congr 1
  funext q
  by_cases hq : q = k
  · subst hq; simp [updV, upd]
  · simp [updV, upd, hq]
theorem aw_iast (X : Cx U K y cc nL ret rm) {n : Nat} {f : Nat → Int32} {i x : Int32} (hμ : μ a = some (.inl (uC U 0, n, .inl f))) (hin : vp_in i n) (hdg : decode cc pc = .ok (.iastore, 1)) (kk : AW U K nL cells slots Q (xup μ a (.inl (uC U 0, n, .inl (upd f i.toNatClampNeg x)))) (pc + 1) ls st) : AW U K nL cells slots Q μ pc ls (.int x :: .int i :: .ref a :: st) := by
  intro H locs la h1 h2 h3
  have hK := X.2.2.2.2.2.2.2.2.1.1
  refine W.iast X.1 X.2.1 (h1 a _ hμ).2 ((hK.2 0 _ rfl).1 n (fun j => .int (f j))) (fun q => by cases q) (by show ¬ (i < 0 ∨ (arrV _ _ _).slots.size ≤ _); rw [arrV_size]; exact hin) rfl rfl hdg fun H1 e z oq => ?_
  exact kk H1 _ la (h1.put hμ (by show H1[a]? = some (vp_cell _ _); rw [e, xarr_i]) oq) (h2.puts (h1 a _ hμ).1 z oq) h3
theorem aw_zast (X : Cx U K y cc nL ret rm) {n : Nat} {f : Nat → Int32} {i x : Int32} (hx : x = 0 ∨ x = 1) (hμ : μ a = some (.inl (uC U 1, n, .inl f))) (hin : vp_in i n) (hdg : decode cc pc = .ok (.bastore, 1)) (kk : AW U K nL cells slots Q (xup μ a (.inl (uC U 1, n, .inl (upd f i.toNatClampNeg x)))) (pc + 1) ls st) : AW U K nL cells slots Q μ pc ls (.int x :: .int i :: .ref a :: st) := by
  intro H locs la h1 h2 h3
  have hK := X.2.2.2.2.2.2.2.2.1.1
  refine W.zast X.1 X.2.1 (h1 a _ hμ).2 ((hK.2 1 _ rfl).1 n (fun j => .int (f j))) (fun q => by cases q) (by show ¬ (i < 0 ∨ (arrV _ _ _).slots.size ≤ _); rw [arrV_size]; exact hin) rfl rfl hdg fun H1 e z oq => ?_
  exact kk H1 _ la (h1.put hμ (by show H1[a]? = some (vp_cell _ _); rw [e, (xfit_z hx).1, xarr_i]) oq) (h2.puts (h1 a _ hμ).1 z oq) h3
theorem aw_cast (X : Cx U K y cc nL ret rm) {n : Nat} {f : Nat → Int32} {i x : Int32} (hx : narrow .char (.int x) = .int x) (hμ : μ a = some (.inl (uC U 2, n, .inl f))) (hin : vp_in i n) (hdg : decode cc pc = .ok (.castore, 1)) (kk : AW U K nL cells slots Q (xup μ a (.inl (uC U 2, n, .inl (upd f i.toNatClampNeg x)))) (pc + 1) ls st) : AW U K nL cells slots Q μ pc ls (.int x :: .int i :: .ref a :: st) := by
  intro H locs la h1 h2 h3
  have hK := X.2.2.2.2.2.2.2.2.1.1
  refine W.cast X.1 X.2.1 (h1 a _ hμ).2 ((hK.2 2 _ rfl).1 n (fun j => .int (f j))) (fun q => by cases q) (by show ¬ (i < 0 ∨ (arrV _ _ _).slots.size ≤ _); rw [arrV_size]; exact hin) rfl rfl hdg fun H1 e z oq => ?_
  exact kk H1 _ la (h1.put hμ (by show H1[a]? = some (vp_cell _ _); rw [e, hx, xarr_i]) oq) (h2.puts (h1 a _ hμ).1 z oq) h3
theorem xarr_q {cA : ClassId} {n k v : Nat} {f : Nat → Option Nat} : (vp_cell cA (n, .inr (.inr (.inr (.inr f))))).setSlot k (.ref v) = vp_cell cA (n, .inr (.inr (.inr (.inr (va_up f k (some v)))))) := by
  rw [vp_cell_q, vp_cell_q, arrV_store]
  congr 1
  funext q
  by_cases hq : q = k
  · subst hq; simp [updV, va_up, va_rf]
  · simp [updV, va_up, hq]
theorem aw_aast (X : Cx U K y cc nL ret rm) {n t0 v ci : Nat} {r : vw_C} (ht : (xty (uC U))[t0]? = some (uC U t0, .object r.1)) {f : Nat → Option Nat} {i : Int32} {vs : List Value} (hμ : μ a = some (.inl (uC U t0, n, .inr (.inr (.inr (.inr f)))))) (hv : μ v = some (.inr (ci, vs))) (hc : xcl[ci]? = some r) (hin : vp_in i n) (hdg : decode cc pc = .ok (.aastore, 1)) (kk : AW U K nL cells slots Q (xup μ a (.inl (uC U t0, n, .inr (.inr (.inr (.inr (va_up f i.toNatClampNeg (some v)))))))) (pc + 1) ls st) : AW U K nL cells slots Q μ pc ls (.ref v :: .int i :: .ref a :: st) := by
  intro H locs la h1 h2 h3
  have hK := X.2.2.2.2.2.2.2.2.1.1
  have h0 : ¬ i < 0 := fun q => hin (Or.inl q)
  obtain ⟨-, r', hr', cellV, g1, g2, g3, -⟩ := h1 v _ hv
  have hcls := (hK.1 ci r hc).2
  obtain ⟨kA, comp, k1, k2, k3, -⟩ := (hK.2 t0 _ ht).2
  have hcomp : comp = U.1.1 ci := Option.some.inj (k3.symm.trans hcls.1)
  subst hcomp
  obtain ⟨kC, hkC, -⟩ := hcls.2
  refine W.aast X.1 X.2.1 (h1 a _ hμ).2 (fun q h => by cases h) (fun h => by cases h) k1 k2 rfl hkC ⟨h0, by show _ < (arrV _ _ _).slots.size; rw [arrV_size]; exact xin_lt hin⟩ g1 (fun q h => by rw [g3] at h; cases h) (by rw [g2]; exact hkC) (by rw [g2]; exact va_assign hcls) rfl rfl hdg fun H1 e z oq => ?_
  exact kk H1 _ la (h1.put hμ (by show H1[a]? = some (vp_cell _ _); rw [e, xarr_q]) oq) (h2.puts (h1 a _ hμ).1 z oq) h3
/-- the static tables -/
theorem aw_gets (X : Cx U K y cc nL ret rm) {index t : Nat} (ht : t < 4) (hl : (y.cls, index, RX4, xsN t, "[I", RX4) ∈ xnF) (hdg : decode cc pc = .ok (.getstatic index, 3)) (kk : AW U K nL cells slots Q μ (pc + 3) ls (.ref (uA U t) :: st)) : AW U K nL cells slots Q μ pc ls st := by
  intro H locs la h1 h2 h3
  have hk := X.2.2.2.2.2.2.2.2.1
  exact va_getsN X.1 X.2.1 (hk.2.2.2.2.2.1 t ht).1 h2 X.2.2.2.1 (va_Nw.use rfl (hk.2.2.1 _ hl)) (fun _ h => h) hdg (kk H locs la h1 h2 h3)
theorem aw_tab (X : Cx U K y cc nL ret rm) {t : Nat} (ht : t < 4) {i : Int32} (hin : vp_in i (xsL t)) (hdg : decode cc pc = .ok (.iaload, 1)) (kk : AW U K nL cells slots Q μ (pc + 1) ls (.int (xsV t i.toNatClampNeg) :: st)) : AW U K nL cells slots Q μ pc ls (.int i :: .ref (uA U t) :: st) := by
  intro H locs la h1 h2 h3
  obtain ⟨cell, z1, z2, z3, z4, z5, z6, z7⟩ := (X.2.2.2.2.2.2.2.2.1.2.2.2.2.2.1 t ht).2
  have hlt := xin_lt hin
  exact W.iald (v := .int (xsV t i.toNatClampNeg)) X.1 X.2.1 (by rw [h2.2.1 _ (Array.getElem?_eq_some_iff.mp z1).1 z7]; exact z1) z2 z3 (fun h => h.elim (fun q => hin (Or.inl q)) (fun q => absurd (Nat.lt_of_lt_of_le hlt z4) (Nat.not_lt.mpr q))) (z6 _ hlt) rfl rfl hdg (kk H locs la h1 h2 h3)
/-- System.arraycopy of numbers -/
theorem aw_copy (X : Cx U K y cc nL ret rm) {index n0 n1 a0 : Nat} {f g : Nat → Int32} {sp dp n : Int32} (hl : Cond.methodLink y.cls index arraycopyName ∈ xgood) (hμ0 : μ a0 = some (.inl (uC U 0, n0, .inl f))) (hμ : μ a = some (.inl (uC U 0, n1, .inl g))) (g1 : ¬ sp < 0) (g2 : ¬ dp < 0) (g3 : ¬ n < 0) (g4 : sp.toNatClampNeg + n.toNatClampNeg ≤ n0) (g5 : dp.toNatClampNeg + n.toNatClampNeg ≤ n1) (hrm : 1 ≤ rm.frames ∧ (st.map fun v => v.category).sum + (nativeFrameWords "java/lang/System" "arraycopy" 5 + 11) ≤ rm.locals) (hdg : decode cc pc = .ok (.invokestatic index, 3)) (kk : AW U K nL cells slots Q (xup μ a (.inl (uC U 0, n1, .inl (va_cpy f g sp.toNatClampNeg dp.toNatClampNeg n.toNatClampNeg)))) (pc + 3) ls st) : AW U K nL cells slots Q μ pc ls (.int n :: .int dp :: .ref a :: .int sp :: .ref a0 :: st) := by
  have nn : ∀ z : Int32, ¬ z < 0 → z.toInt = (z.toNatClampNeg : Int) := by
    intro z hz
    have hz0 : (0 : Int) ≤ z.toInt := by
      have := Int32.not_lt.mp hz
      simpa using Int32.le_iff_toInt_le.mp this
    show z.toInt = ((z.toInt.toNat : Nat) : Int)
    omega
  intro H locs la h1 h2 h3 T hT XX
  have hts := X.2.2.2.2.1
  have hK := X.2.2.2.2.2.2.2.2.1.1
  have hR := X.2.2.2.2.2.2.2.1
  have hc0 : H[a0]? = some (vp_cell (uC U 0) (n0, .inl f)) := (h1 a0 _ hμ0).2
  have hc1 : H[a]? = some (vp_cell (uC U 0) (n1, .inl g)) := (h1 a _ hμ).2
  obtain ⟨-, k0, hk0, cm0, hkk0⟩ := (hK.2 0 _ rfl).1 n0 (fun j => .int (f j))
  obtain ⟨vm', X', step⟩ := XX.arraycopy X.1 X.2.2.2.1 (hts _ hl) (hts _ ay_n) (hts _ ay_s) (hts _ ay_i) (src := a0) (dst := a) (cs := vp_cell (uC U 0) (n0, .inl f)) (cd := vp_cell (uC U 0) (n1, .inl g)) (srcPos := sp) (destPos := dp) (n := n) (by rw [hT]; exact hc0) (by rw [hT]; exact hc1)
    (fun _ h => by cases h) (fun _ h => by cases h) (fun h => by cases h) (fun h => by cases h) hk0 hk0 hkk0 hkk0 (by rfl) g1 g2 g3
    (by rw [nn sp g1, nn n g3]; show ¬ _ > ((arrV _ n0 (fun j => .int (f j))).slots.size : Int); rw [arrV_size]; omega)
    (by rw [nn dp g2, nn n g3]; show ¬ _ > ((arrV _ n1 (fun j => .int (g j))).slots.size : Int); rw [arrV_size]; omega)
    (fun vm₁ _ i hi => by
      have e : (vp_cell (uC U 0) (n0, .inl f)).slots.getD (sp.toNatClampNeg + i) .null = .int (f (sp.toNatClampNeg + i)) := by
        show (arrV _ n0 (fun j => .int (f j))).slots.getD _ _ = _
        rw [Array.getD_eq_getD_getElem?, arrV_read _ _ (by omega)]
        rfl
      rw [e]
      exact ⟨rfl, trivial⟩)
    (g := F0 (km K) pc la (.int n :: .int dp :: .ref a :: .int sp :: .ref a0 :: st)) rfl (by rw [X.2.2.1]; exact h3.1) (rest := st) rfl (by rw [X.2.1]; exact hdg) (by rw [hR]; exact hrm.1) (by rw [hR]; show 2 * 0 + _ + _ ≤ _; omega)
  have e1 : copied (vp_cell (uC U 0) (n0, .inl f)) (vp_cell (uC U 0) (n1, .inl g)) sp dp n = vp_cell (uC U 0) (n1, .inl (va_cpy f g sp.toNatClampNeg dp.toNatClampNeg n.toNatClampNeg)) := va_copied (fun z => .int z) (uC U 0) (uC U 0) f g g4
  rw [e1] at X' step
  have hl : a < H.size := (Array.getElem?_eq_some_iff.mp hc1).1
  have hB := (h1 a _ hμ).1
  generalize hC : vp_cell (uC U 0) (n1, .inl (va_cpy f g sp.toNatClampNeg dp.toNatClampNeg n.toNatClampNeg)) = C1 at X' step
  have hheap : ((T.setVm vm').setCell a C1).heap = H.setIfInBounds a C1 := by rw [← hT]; rfl
  have oq : ∀ q : Nat, q ≠ a → (H.setIfInBounds a C1)[q]? = H[q]? := fun q hq => by simp [Array.getElem?_setIfInBounds, Ne.symm hq]
  obtain ⟨t, a1, b1⟩ := kk _ _ la (h1.put (H1 := H.setIfInBounds a C1) hμ (by show (H.setIfInBounds a C1)[a]? = some (vp_cell _ _); rw [hC]; simp [Array.getElem?_setIfInBounds, hl]) oq) ⟨by simp; exact h2.1, fun q z1 z2 => by
      rw [oq q (fun e => z2 (by rw [e]; exact hB))]
      exact h2.2.1 q z1 z2, fun q hq => by
      rcases List.mem_append.mp hq with h | h
      · exact h2.2.2 q h
      · obtain ⟨z, -, hz⟩ := List.mem_map.mp h
        rw [← hz]
        exact hB⟩ h3 _ hheap X'
  exact ⟨t, step t a1, b1⟩
/-- the clone of the first static table -/
theorem aw_clone (X : Cx U K y cc nL ret rm) {index : Nat} (hl : Cond.methodLink y.cls index ⟨"[I", "clone", "()Ljava/lang/Object;"⟩ ∈ xgood) (w1 : Cond.sameMethod "[I" "java/lang/Object" "clone" "()Ljava/lang/Object;" ∈ xgood) (w2 : Cond.native ⟨"java/lang/Object", "clone", "()Ljava/lang/Object;"⟩ ∈ xgood) (w3 : Cond.instanceMethod ⟨"java/lang/Object", "clone", "()Ljava/lang/Object;"⟩ ∈ xgood) (w4 : Cond.selects "[I" ⟨"[I", "clone", "()Ljava/lang/Object;"⟩ ⟨"java/lang/Object", "clone", "()Ljava/lang/Object;"⟩ ∈ xgood)
    (hrm : 1 ≤ rm.frames ∧ (st.map fun v => v.category).sum + 14 ≤ rm.locals) (hc : cells + 1 ≤ rm.cells ∧ slots + 6 ≤ rm.slots) (hdg : decode cc pc = .ok (.invokevirtual index, 3))
    (kk : ∀ q : Nat, μ q = none → AW U K nL (cells + 1) (slots + 6) Q (xup μ q (.inl (uC U 0, 6, .inl (xsV 0)))) (pc + 3) ls (.ref q :: st)) : AW U K nL cells slots Q μ pc ls (.ref (uA U 0) :: st) := by
  intro H locs la h1 h2 h3 T hT XX
  have hts := X.2.2.2.2.1
  have hk := X.2.2.2.2.2.2.2.2.1
  have hR := X.2.2.2.2.2.2.2.1
  obtain ⟨cell, e1, e2, e3, e4, e5, e6⟩ := hk.2.2.2.2.2.2
  have hK := hk.1
  have hnm : (ks K).vm.findClass "[I" = some (uC U 0) := va_nm_int (hK.2 0 _ rfl).2
  obtain ⟨c0, t0', f1, f2, f3⟩ := Cond.castable_spec (va_Nw.use (A := ka K) rfl hk.2.2.2.2.1)
  cases hnm.symm.trans f1
  have eH : H[uA U 0]? = some cell := by rw [h2.2.1 _ (Array.getElem?_eq_some_iff.mp e1).1 e6]; exact e1
  have hsz : cell.slots.size = 6 := by rw [e3]; exact arrV_size _ _ _
  have hcellE : ({ cls := cell.cls, slots := cell.slots } : Cell) = vp_cell (uC U 0) (6, .inl (xsV 0)) := by rw [e2, e3]; rfl
  obtain ⟨-, kA, hkA, comp, hkind⟩ := State.isArrayOf_alike XX.warmed.alike ((hK.2 0 _ rfl).1 0 (fun _ => .null))
  obtain ⟨-, kS, hkS, compS, hkindS⟩ := (hK.2 0 _ rfl).1 0 (fun _ => .null)
  obtain ⟨vm', X', st'⟩ := XX.cloneArray X.1 X.2.2.2.1 (hts _ hl) (hts _ w1) (hts _ w2) (hts _ w3) (hts _ w4) (a := uA U 0) (cell := cell) (by rw [hT]; exact eH) e4 e5 (by rw [e2]; exact hnm) f2 (by rw [e2]; exact f3)
    (fun i v hv => by
      rw [e2]
      have hk' : T.vm.classes[uC U 0]? = some kA := hkA
      have hfit : fits .int v = true := va_fit (cA := uC U 0) (n := 6) (F := fun j => .int (xsV 0 j)) (fun _ _ => rfl) i v (by rw [e3] at hv; exact hv)
      simpa [State.fitsSlot, State.slotType?, hk', hkind] using hfit)
    (g := F0 (km K) pc la (.ref (uA U 0) :: st)) rfl (by rw [X.2.2.1]; exact h3.1) rfl (by rw [X.2.1]; exact hdg) (by rw [hR]; exact hrm.1) (by rw [hR]; show 2 * 0 + _ + 14 ≤ _; omega) (by rw [hR]; exact hc.1) (by rw [hR, hsz]; exact hc.2) (hloader := by rw [e2]; exact Vm.clonesLoader_of_array hkS hkindS)
  rw [hcellE, hsz] at X'
  generalize hH1 : H.push (vp_cell (uC U 0) (6, .inl (xsV 0))) = H1
  have z1 : H1.size = H.size + 1 := by rw [← hH1, Array.size_push]
  have y1 : H1[H.size]? = some (vp_cell (uC U 0) (6, .inl (xsV 0))) := by rw [← hH1, Array.getElem?_push_size]
  have o1 : ∀ q : Nat, q < H.size → H1[q]? = H[q]? := fun q hq => by rw [← hH1, Array.getElem?_push, if_neg (Nat.ne_of_lt hq)]
  have hno : μ H.size = none := by
    cases hq : μ H.size with
    | none => rfl
    | some e => exact absurd (h1.lt hq) (Nat.lt_irrefl _)
  obtain ⟨t, b1, b2⟩ := kk H.size hno H1 locs la (h1.new rfl (Nat.le_trans X.2.2.2.2.2.2.2.2.2 h2.1) y1 o1) (h2.grown (by omega) o1) h3 ((T.setVm vm').pushCell (vp_cell (uC U 0) (6, .inl (xsV 0)))) (by rw [← hH1, ← hT]; rfl) X'
  refine ⟨t, st' t ?_, b2⟩
  rw [hcellE, hT]
  exact b1
theorem aw_castA (X : Cx U K y cc nL ret rm) {index : Nat} {x : vp_A} (hl : Cond.classLink y.cls index "[I" ∈ xgood) (hμ : μ a = some (.inl (uC U 0, x))) (hdg : decode cc pc = .ok (.checkcast index, 3)) (kk : AW U K nL cells slots Q μ (pc + 3) ls (.ref a :: st)) : AW U K nL cells slots Q μ pc ls (.ref a :: st) := fun H locs la h1 h2 h3 =>
  va_castA (D := U.1) X.1 X.2.1 X.2.2.2.1 (X.2.2.2.2.1 _ hl) (xP1 h1 hμ) 0 (ha := rfl) (va_nm_int (X.2.2.2.2.2.2.2.2.1.1.2 0 _ rfl).2) hdg (kk H locs la h1 h2 h3)
end XHEAP
end
section
def imin (a b : Int32) : Int32 := if b < a then b else a
def iabs (a : Int32) : Int32 := if 0 ≤ a then a else 0 - a
section XCALL
variable {U : xU} {K : xK} {y : MethodName} {cc : ByteArray} {nL cells slots : Nat} {ret : Option FieldType} {rm : Room} {Q : State → Prop} {μ : xH} {pc : Nat} {ls : List (Option Value)} {st : List Value} {a : Nat}
theorem Cx.pre (X : Cx U K y cc nL ret rm) {H : Heap} {locs : List Loc} {av : List Value} (h1 : Hd U μ H) (h2 : va_S (uB U) (ks K).heap H locs) : PreS (ks K) H (cP U av μ) av := by
  refine ⟨cP_blind, fun S hS hW => ⟨rfl, by rw [hS]; exact h1, ?_, by rw [hS]; exact Nat.le_trans X.2.2.2.2.2.2.2.2.2 h2.1⟩⟩
  rw [hS]
  exact (X.2.2.2.2.2.2.2.2.1.warm hW).kept h2.2.1
theorem Cx.fix (X : Cx U K y cc nL ret rm) : CallFix (kp K) (km K) (kc K) cc nL (ks K) (ka K) xgood y.cls := ⟨X.1, X.2.1, X.2.2.1, X.2.2.2.1, X.2.2.2.2.1⟩
theorem AW.run {Q : State → Prop} {mc ms : Nat} {rest stk : List Value} {as : Array Value} {post : Option Value → xH → Prop}
    (hr : ∀ (H : Heap) (locs : List Loc) (la : Array Slot), Hd U μ H → va_S (uB U) (ks K).heap H locs → lv_has la nL (lvl 0 ls) → va_Run (kp K) (kl K) (ke K) (kR K) (ks K) (km K) (ka K) (kb K) (kM K) (kc K) H locs cells slots mc ms (F0 (km K) pc la stk) rest (cQ U post as) (uB U))
    (kk : ∀ (v : Option Value) (μ1 : xH), post v μ1 → AW U K nL (cells + mc) (slots + ms) Q μ1 (pc + 3) ls (v.toList ++ rest)) : AW U K nL cells slots Q μ pc ls stk := by
  intro H locs la h1 h2 h3 T hT X
  obtain ⟨v, st₀, t, T', L, h0, X', hL, e1, e2, ⟨⟨v', μ1, hv, hp, hH⟩, hz, hk⟩, st⟩ := hr H locs la h1 h2 h3 T hT X
  cases hv
  rw [h0] at hz hk
  obtain ⟨t2, a1, b1⟩ := kk v μ1 hp T'.heap (locs ++ L) la (by rw [e1]; exact hH)
    ⟨Nat.le_trans h2.1 (by rw [e1]; exact hz), fun q g1 g2 => by rw [e1, hk q (Nat.lt_of_lt_of_le g1 h2.1) g2]; exact h2.2.1 q g1 g2, fun q hq => by
      rcases List.mem_append.mp hq with h | h
      · exact h2.2.2 q h
      · exact hL q h⟩ h3 T' rfl X'
  exact ⟨t2, st t2 a1, b1⟩
variable {y' : MethodName} {b' : ByteArray} {maxL n index : Nat} {ret' : Option FieldType} {rm' : Room} {post : Option Value → xH → Prop}
theorem xB (X : Cx U K y cc nL ret rm) (hy : XY y' b' maxL ret' n) (hrm : rm'.frames + 1 ≤ rm.frames ∧ 8 + (maxL + 11) + rm'.locals ≤ rm.locals) (hl : Cond.methodLink y.cls index y' ∈ xgood) : CallB (kR K) (ks K) (ka K) y.cls index y' b' maxL ret' (.code y' b' maxL ret' :: xgood) rm' rm'.cells rm'.slots n := by
  obtain ⟨k1, k2, k3, k4, k5⟩ := hy
  have hts := X.2.2.2.2.1
  exact callB_of n hts (xgood_in k1) rfl rfl rfl (hts _ k2) (hts _ hl) ⟨k3, k4, k5⟩ (by rw [X.2.2.2.2.2.2.2.1]; exact hrm)
theorem xBN (X : Cx U K y cc nL ret rm) {host : String} (hy : XY y' b' maxL ret' n) (hrm : rm'.frames + 1 ≤ rm.frames ∧ 8 + (maxL + 11) + rm'.locals ≤ rm.locals) (hl : (y.cls, index, y', host) ∈ xnM) : va_CN (kR K) (ks K) (ka K) y.cls index y' host b' maxL ret' (.code y' b' maxL ret' :: xgood) rm' rm'.cells rm'.slots n := by
  obtain ⟨k1, k2, k3, k4, k5⟩ := hy
  have hts := X.2.2.2.2.1
  exact va_cnB n hts (xgood_in k1) rfl rfl rfl (X.2.2.2.2.2.2.2.2.1.2.1 _ hl) (hts _ k2) ⟨k3, k4, k5⟩ (by rw [X.2.2.2.2.2.2.2.1]; exact hrm)
/-- invokevirtual of a method of the receiver's own class -/
theorem aw_cV (X : Cx U K y cc nL ret rm) {As : List Value} {fs : List Value} {ci N : Nat} {T : u_T} (hM : Ct (kl K) U y' b' maxL ret' rm' (.ref a :: As) μ post) (hs : XV y.cls index y') (hy : XY y' b' maxL ret' n) (hrm : rm'.frames + 1 ≤ rm.frames ∧ 8 + (maxL + 11) + rm'.locals ≤ rm.locals) (hf : cells + rm'.cells ≤ (kR K).cells ∧ slots + rm'.slots ≤ (kR K).slots) (hn : As.length = n) (hst : (st.map fun v => v.category).sum ≤ 8)
    (hμ : μ a = some (.inr (ci, fs))) (hci : xcl[ci]? = some (y'.cls, T, N)) (hdg : decode cc pc = .ok (.invokevirtual index, 3))
    (kk : ∀ (v : Option Value) (μ1 : xH), post v μ1 → AW U K nL (cells + rm'.cells) (slots + rm'.slots) Q μ1 (pc + 3) ls (v.toList ++ st)) : AW U K nL cells slots Q μ pc ls (As.reverse ++ .ref a :: st) := by
  refine AW.run (mc := rm'.cells) (ms := rm'.slots) (rest := st) (as := (Value.ref a :: As).toArray) (fun H locs la h1 h2 h3 => ?_) kk
  have hts := X.2.2.2.2.1
  have hp : PreV (ks K) H y'.cls a (cP U (.ref a :: As) μ) As := ⟨cP_blind, va_recv X.2.2.2.2.2.2.2.2.1.1 (xP1 h1 hμ) hci (q0 := 0) rfl, (X.pre h1 h2).2⟩
  exact va_runV X.fix hM ⟨xB X hy hrm hs.1, hts _ hs.2.1, hts _ hs.2.2⟩ hp rfl hn h3.1 rfl (lv_room hst) hdg hf
/-- invokestatic -/
theorem aw_cS (X : Cx U K y cc nL ret rm) {As : List Value} (hM : Ct (kl K) U y' b' maxL ret' rm' As μ post) (hs : XS y.cls index y') (hy : XY y' b' maxL ret' n) (hrm : rm'.frames + 1 ≤ rm.frames ∧ 8 + (maxL + 11) + rm'.locals ≤ rm.locals) (hf : cells + rm'.cells ≤ (kR K).cells ∧ slots + rm'.slots ≤ (kR K).slots) (hn : As.length = n) (hst : (st.map fun v => v.category).sum ≤ 8) (hdg : decode cc pc = .ok (.invokestatic index, 3))
    (kk : ∀ (v : Option Value) (μ1 : xH), post v μ1 → AW U K nL (cells + rm'.cells) (slots + rm'.slots) Q μ1 (pc + 3) ls (v.toList ++ st)) : AW U K nL cells slots Q μ pc ls (As.reverse ++ st) := by
  refine AW.run (mc := rm'.cells) (ms := rm'.slots) (rest := st) (as := As.toArray) (fun H locs la h1 h2 h3 => ?_) kk
  have hts := X.2.2.2.2.1
  exact va_runS X.fix hM ⟨xB X hy hrm hs.1, hts _ hs.2⟩ (X.pre h1 h2) rfl hn h3.1 rfl (lv_room hst) hdg hf
theorem aw_cSN (X : Cx U K y cc nL ret rm) {host : String} {As : List Value} (hM : Ct (kl K) U y' b' maxL ret' rm' As μ post) (hs : XSN y.cls index y' host) (hy : XY y' b' maxL ret' n) (hrm : rm'.frames + 1 ≤ rm.frames ∧ 8 + (maxL + 11) + rm'.locals ≤ rm.locals) (hf : cells + rm'.cells ≤ (kR K).cells ∧ slots + rm'.slots ≤ (kR K).slots) (hn : As.length = n) (hst : (st.map fun v => v.category).sum ≤ 8) (hdg : decode cc pc = .ok (.invokestatic index, 3))
    (kk : ∀ (v : Option Value) (μ1 : xH), post v μ1 → AW U K nL (cells + rm'.cells) (slots + rm'.slots) Q μ1 (pc + 3) ls (v.toList ++ st)) : AW U K nL cells slots Q μ pc ls (As.reverse ++ st) := by
  refine AW.run (mc := rm'.cells) (ms := rm'.slots) (rest := st) (as := As.toArray) (fun H locs la h1 h2 h3 => ?_) kk
  have hts := X.2.2.2.2.1
  exact va_runSN X.fix hM ⟨xBN X hy hrm hs.1, hts _ hs.2, trivial⟩ (X.pre h1 h2) rfl hn h3.1 rfl (lv_room hst) hdg hf
/-- invokespecial of a constructor -/
theorem aw_cI (X : Cx U K y cc nL ret rm) {As : List Value} (hM : Ct (kl K) U y' b' maxL none rm' (.ref a :: As) μ post) (hs : XI y.cls index y') (hy : XY y' b' maxL none n) (hrm : rm'.frames + 1 ≤ rm.frames ∧ 8 + (maxL + 11) + rm'.locals ≤ rm.locals) (hf : cells + rm'.cells ≤ (kR K).cells ∧ slots + rm'.slots ≤ (kR K).slots) (hn : As.length = n) (hst : (st.map fun v => v.category).sum ≤ 8) (hdg : decode cc pc = .ok (.invokespecial index, 3))
    (kk : ∀ (v : Option Value) (μ1 : xH), post v μ1 → AW U K nL (cells + rm'.cells) (slots + rm'.slots) Q μ1 (pc + 3) ls (v.toList ++ st)) : AW U K nL cells slots Q μ pc ls (As.reverse ++ .ref a :: st) := by
  refine AW.run (mc := rm'.cells) (ms := rm'.slots) (rest := st) (as := (Value.ref a :: As).toArray) (fun H locs la h1 h2 h3 => ?_) kk
  have hts := X.2.2.2.2.1
  exact va_runI X.fix hM ⟨xB X hy hrm hs.1, hs.2.2, hts _ hs.2.1⟩ (X.pre h1 h2) rfl hn h3.1 rfl (lv_room hst) hdg hf
theorem aw_cIN (X : Cx U K y cc nL ret rm) {host : String} {As : List Value} (hM : Ct (kl K) U y' b' maxL none rm' (.ref a :: As) μ post) (hs : XIN y.cls index y' host) (hy : XY y' b' maxL none n) (hrm : rm'.frames + 1 ≤ rm.frames ∧ 8 + (maxL + 11) + rm'.locals ≤ rm.locals) (hf : cells + rm'.cells ≤ (kR K).cells ∧ slots + rm'.slots ≤ (kR K).slots) (hn : As.length = n) (hst : (st.map fun v => v.category).sum ≤ 8) (hdg : decode cc pc = .ok (.invokespecial index, 3))
    (kk : ∀ (v : Option Value) (μ1 : xH), post v μ1 → AW U K nL (cells + rm'.cells) (slots + rm'.slots) Q μ1 (pc + 3) ls (v.toList ++ st)) : AW U K nL cells slots Q μ pc ls (As.reverse ++ .ref a :: st) := by
  refine AW.run (mc := rm'.cells) (ms := rm'.slots) (rest := st) (as := (Value.ref a :: As).toArray) (fun H locs la h1 h2 h3 => ?_) kk
  have hts := X.2.2.2.2.1
  exact va_runIN X.fix hM ⟨xBN X hy hrm hs.1, hs.2.2, hts _ hs.2.1⟩ (X.pre h1 h2) rfl hn h3.1 rfl (lv_room hst) hdg hf
/-- Object's constructor -/
theorem aw_obj (X : Cx U K y cc nL ret rm) (hl : Cond.methodLink y.cls index objectInit ∈ xgood) (hrm : 1 ≤ rm.frames ∧ (st.map fun v => v.category).sum + 12 ≤ rm.locals) (hdg : decode cc pc = .ok (.invokespecial index, 3)) (kk : AW U K nL cells slots Q μ (pc + 3) ls st) : AW U K nL cells slots Q μ pc ls (.ref a :: st) := by
  intro H locs la h1 h2 h3
  have hts := X.2.2.2.2.1
  refine W.objInit X.1 X.2.1 X.2.2.2.1 (hts _ hl) (hts _ oi_i) (hts _ oi_c) rfl (by rw [X.2.2.1]; exact h3.1) rfl hdg (by rw [X.2.2.2.2.2.2.2.1]; exact hrm.1) (by rw [X.2.2.2.2.2.2.2.1]; show 2 * 0 + _ + 12 ≤ _; omega) ?_
  exact kk H locs la h1 h2 h3
/-- Math.min, Math.abs -/
theorem aw_min (X : Cx U K y cc nL ret rm) (hl : Cond.methodLink y.cls index Lib.Math.min.name ∈ xgood) (hrm : 1 ≤ rm.frames ∧ (st.map fun v => v.category).sum + 13 ≤ rm.locals) (hc : cells ≤ rm.cells ∧ slots ≤ rm.slots) {u v : Int32} (hdg : decode cc pc = .ok (.invokestatic index, 3)) (kk : AW U K nL cells slots Q μ (pc + 3) ls (.int (imin u v) :: st)) : AW U K nL cells slots Q μ pc ls (.int v :: .int u :: st) := by
  intro H locs la h1 h2 h3
  have hts := X.2.2.2.2.1
  have hR := X.2.2.2.2.2.2.2.1
  exact va_mmin X.1 X.2.1 (by rw [X.2.2.1]; exact h3.1.symm) X.2.2.2.1 (hts _ hl) (hts _ mmin_s) (hts _ mm_i) (hts _ mmin_c) (by rw [hR]; exact hrm.1) (by rw [hR]; exact hrm.2) (by rw [hR]; exact hc.1) (by rw [hR]; exact hc.2) hdg (kk H locs la h1 h2 h3)
theorem aw_abs (X : Cx U K y cc nL ret rm) (hl : Cond.methodLink y.cls index Lib.Math.abs.name ∈ xgood) (hrm : 1 ≤ rm.frames ∧ (st.map fun v => v.category).sum + 13 ≤ rm.locals) (hc : cells ≤ rm.cells ∧ slots ≤ rm.slots) {u : Int32} (hdg : decode cc pc = .ok (.invokestatic index, 3)) (kk : AW U K nL cells slots Q μ (pc + 3) ls (.int (iabs u) :: st)) : AW U K nL cells slots Q μ pc ls (.int u :: st) := by
  intro H locs la h1 h2 h3
  have hts := X.2.2.2.2.1
  have hR := X.2.2.2.2.2.2.2.1
  exact va_mabs X.1 X.2.1 (by rw [X.2.2.1]; exact h3.1.symm) X.2.2.2.1 (hts _ hl) (hts _ mabs_s) (hts _ mm_i) (hts _ mabs_c) (by rw [hR]; exact hrm.1) (by rw [hR]; exact hrm.2) (by rw [hR]; exact hc.1) (by rw [hR]; exact hc.2) hdg (kk H locs la h1 h2 h3)
/-- making -/
theorem aw_new (X : Cx U K y cc nL ret rm) {ci N : Nat} {C : String} {T : u_T} {fs : List Value} (hci : xcl[ci]? = some (C, T, N)) (hl : Cond.classLink y.cls index C ∈ xgood) (hi : Cond.instantiable C N ∈ xgood) (hn : Cond.initialized C ∈ xgood) (ty : Nat → FieldType) (hty : ∀ k, k < N → parseFieldDescriptor (T k).2.2.1 = some (ty k)) (hfs : ∀ j, j < N → defaultValue (ty j) = vp_V fs j) (hc : cells + 1 ≤ rm.cells ∧ slots + N ≤ rm.slots) (hdg : decode cc pc = .ok (.new index, 3))
    (kk : ∀ q : Nat, μ q = none → AW U K nL (cells + 1) (slots + N) Q (xup μ q (.inr (ci, fs))) (pc + 3) ls (.ref q :: st)) : AW U K nL cells slots Q μ pc ls st := by
  intro H locs la h1 h2 h3
  have hts := X.2.2.2.2.1
  have hR := X.2.2.2.2.2.2.2.1
  have hKn := X.2.2.2.2.2.2.2.2.1.1.1 ci _ hci
  obtain ⟨c1, -, -⟩ := xc_all ci C T N hci
  have hno : μ H.size = none := by
    cases hq : μ H.size with
    | none => rfl
    | some e => exact absurd (h1.lt hq) (Nat.lt_irrefl _)
  refine W.newcK X.1 X.2.1 X.2.2.2.1 (hts _ hl) (hts _ hi) (hts _ hn) rfl hdg (by rw [hR]; exact hc.1) (by rw [hR]; exact hc.2) hKn.2.1 rfl fun H1 kC hkC e1 z1 o1 => ?_
  refine kk H.size hno H1 locs la (h1.new rfl (Nat.le_trans X.2.2.2.2.2.2.2.2.2 h2.1) ⟨_, hci, (u_born ty hts c1 hKn hkC e1 hty).to hfs⟩ o1) (h2.grown (by omega) o1) h3
theorem xRA {S : State} {cA cB : ClassId} {ty : FieldType} (h : va_RA S cA ty) (hf : S.vm.findClass ("[" ++ ty.toString) = some cB) : cB = cA := by
  cases ty with
  | object C =>
    obtain ⟨_, _, _, _, _, h4⟩ := h
    exact Option.some.inj (hf.symm.trans h4)
  | _ => exact Option.some.inj (hf.symm.trans h)
theorem aw_newa (X : Cx U K y cc nL ret rm) {atype : ArrayType} {ty : FieldType} {t0 : Nat} (harr : Cond.arrayClass ty ∈ xgood) (hty : newarray.typeOf atype = ty) (ht : (xty (uC U))[t0]? = some (uC U t0, ty)) {n : Int32} {N' : Nat} {f : Nat → Int32} (hd : defaultValue ty = .int 0) (hf : f = fun _ => 0) (hn : ¬ n < 0) (hN : n.toNatClampNeg = N') (hb : N' * componentBytes ty ≤ 536870912) (hc : cells + 1 ≤ rm.cells ∧ slots + N' ≤ rm.slots) (hdg : decode cc pc = .ok (.newarray atype, 2))
    (kk : ∀ q : Nat, μ q = none → AW U K nL (cells + 1) (slots + N') Q (xup μ q (.inl (uC U t0, N', .inl f))) (pc + 2) ls (.ref q :: st)) : AW U K nL cells slots Q μ pc ls (.int n :: st) := by
  subst hty
  intro H locs la h1 h2 h3
  have hts := X.2.2.2.2.1
  have hR := X.2.2.2.2.2.2.2.1
  have hno : μ H.size = none := by
    cases hq : μ H.size with
    | none => rfl
    | some e => exact absurd (h1.lt hq) (Nat.lt_irrefl _)
  refine va_newaK X.1 X.2.1 (hts _ harr) rfl hdg rfl hn hN hb (by rw [hR]; exact hc.1) (by rw [hR]; exact hc.2) rfl fun H1 cA e1 z1 o1 hAr hNm => ?_
  have hcA := xRA (X.2.2.2.2.2.2.2.2.1.1.2 t0 _ ht).2 hNm
  subst hcA
  refine kk H.size hno H1 locs la (h1.new rfl (Nat.le_trans X.2.2.2.2.2.2.2.2.2 h2.1) (by show H1[H.size]? = some (vp_cell _ _); rw [e1, vp_cell_i, hd, hf]) o1) (h2.grown (by omega) o1) h3
theorem aw_newq (X : Cx U K y cc nL ret rm) {C : String} {t0 : Nat} (hl : Cond.classLink y.cls index C ∈ xgood) (hAO : va_AO C (ks K)) (ht : (xty (uC U))[t0]? = some (uC U t0, .object C)) {n : Int32} {N' : Nat} (hn : ¬ n < 0) (hN : n.toNatClampNeg = N') (hb : N' * 4 ≤ 536870912) (hc : cells + 1 ≤ rm.cells ∧ slots + N' ≤ rm.slots) (hdg : decode cc pc = .ok (.anewarray index, 3))
    (kk : ∀ q : Nat, μ q = none → AW U K nL (cells + 1) (slots + N') Q (xup μ q (.inl (uC U t0, N', .inr (.inr (.inr (.inr (fun _ => none))))))) (pc + 3) ls (.ref q :: st)) : AW U K nL cells slots Q μ pc ls (.int n :: st) := by
  subst hN
  intro H locs la h1 h2 h3
  have hts := X.2.2.2.2.1
  have hR := X.2.2.2.2.2.2.2.1
  have hno : μ H.size = none := by
    cases hq : μ H.size with
    | none => rfl
    | some e => exact absurd (h1.lt hq) (Nat.lt_irrefl _)
  refine W.anew X.1 X.2.1 X.2.2.2.1 (hts _ hl) (va_AO.use hAO) rfl hdg rfl hn hb (by rw [hR]; exact hc.1) (by rw [hR]; exact hc.2) fun cA kA comp f1 f2 f3 f4 => ?_
  have hcA := xRA (X.2.2.2.2.2.2.2.2.1.1.2 t0 _ ht).2 f1
  subst hcA
  generalize hH1 : H.push ({ cls := uC U t0, slots := Array.replicate n.toNatClampNeg .null, vm := .none } : Cell) = H1
  have z1 : H1.size = H.size + 1 := by rw [← hH1, Array.size_push]
  have e1 : H1[H.size]? = some (arrV (uC U t0) n.toNatClampNeg (fun _ => .null)) := by rw [← hH1, Array.getElem?_push_size, ← arrV_new]
  have o1 : ∀ q : Nat, q < H.size → H1[q]? = H[q]? := fun q hq => by rw [← hH1, Array.getElem?_push, if_neg (Nat.ne_of_lt hq)]
  exact kk H.size hno H1 locs la (h1.new rfl (Nat.le_trans X.2.2.2.2.2.2.2.2.2 h2.1) (by show H1[H.size]? = some (vp_cell _ _); rw [e1, vp_cell_q]; rfl) o1) (h2.grown (by omega) o1) h3
end XCALL
end
section
/-! a jetty as one vector: 0..5 settings, 6 hour, 7 laid, 8 held, 9 lost, 10 caught, 11 demurrage, 12 waiting, 13 berth, 14.. stored, 18.. spoilt, 22.. spilt, 26 + 6h.. hoses, 50 + 5p.. tankers, 80 + h a hose stretches -/
abbrev xV : Type := Nat → Int32
def hz (h f : Nat) : Nat := 26 + 6 * h + f
def tz (p f : Nat) : Nat := 50 + 5 * p + f
abbrev jlen (c : Nat) : Nat := if c = 0 then 6 else 4
abbrev jbase (c : Nat) : Nat := if c = 0 then 0 else 10 + 4 * c
theorem upd_s {f : xV} {k : Nat} {v : Int32} : upd f k v k = v := if_pos rfl
theorem upd_n {f : xV} {k j : Nat} {v : Int32} (h : j ≠ k) : upd f k v j = f j := if_neg h
abbrev xz (x : Int32) : Prop := x = 0 ∨ x = 1
/-- the truth values are 0 or 1 -/
def xBz (z : xV) : Prop := xz (z 13) ∧ xz (z 7) ∧ ∀ i, i < 4 → xz (z (hz i 3)) ∧ xz (z (80 + i))
def jfs (sh : Nat → Nat) (z : xV) : List Value := [.ref (sh 1), .ref (sh 2), .ref (sh 3), .ref (sh 4), .ref (sh 5), .ref (sh 6), .int (z 13), .int (z 12), .int (z 6), .int (z 7), .int (z 8), .int (z 9), .int (z 10), .int (z 11)]
def hfs (z : xV) (i : Nat) : List Value := [.int (z (hz i 0)), .int (z (hz i 1)), .int (z (hz i 2)), .int (z (hz i 3)), .int (z (hz i 4)), .int (z (hz i 5)), .int (z (80 + i))]
def jix (k : Nat) : Nat := match k with
  | 6 => 13
  | 7 => 12
  | 8 => 6
  | 9 => 7
  | 10 => 8
  | 11 => 9
  | 12 => 10
  | _ => 11
def hix (i k : Nat) : Nat := if k = 6 then 80 + i else hz i k
/-- what the cell of the name n holds -/
def JC (U : xU) (sh : Nat → Nat) (z : xV) (n : Nat) (e : va_E) : Prop :=
  if n = 0 then e = .inr (1, jfs sh z)
  else if n < 5 then ∃ f : Nat → Int32, e = .inl (uC U 0, jlen (n - 1), .inl f) ∧ ∀ k, k < jlen (n - 1) → f k = z (jbase (n - 1) + k)
  else if n = 5 then ∃ f : Nat → Option Nat, e = .inl (uC U 3, 4, .inr (.inr (.inr (.inr f)))) ∧ ∀ i, i < 4 → f i = some (sh (7 + i))
  else if n = 6 then ∃ f : Nat → Option Nat, e = .inl (uC U 4, 6, .inr (.inr (.inr (.inr f)))) ∧ ∀ p, p < 6 → f p = some (sh (11 + p))
  else if n < 11 then e = .inr (0, hfs z (n - 7))
  else if n < 17 then e = .inr (3, [.ref (sh (17 + (n - 11))), .int (z (tz (n - 11) 4))])
  else ∃ f : Nat → Int32, e = .inl (uC U 0, 4, .inl f) ∧ ∀ k, k < 4 → f k = z (tz (n - 17) k)
def jreg (n k : Nat) : Prop :=
  if n = 0 then 6 ≤ k ∧ k < 14
  else if n < 5 then jbase (n - 1) ≤ k ∧ k < jbase (n - 1) + jlen (n - 1)
  else if n < 7 then False
  else if n < 11 then (hz (n - 7) 0 ≤ k ∧ k < hz (n - 7) 6) ∨ k = 80 + (n - 7)
  else if n < 17 then k = tz (n - 11) 4
  else tz (n - 17) 0 ≤ k ∧ k < tz (n - 17) 4
theorem jreg_d {n m k : Nat} (hn : n < 23) (hm : m < 23) (h : n ≠ m) (h1 : jreg n k) : ¬ jreg m k := by
  unfold jreg at *
  repeat' split at h1
  all_goals (repeat' split)
  all_goals first | exact id | (simp only [jbase, jlen, hz, tz] at *; repeat' split at h1) | skip
  all_goals first | exact id | omega | (repeat' split) | skip
  all_goals first | exact id | omega
theorem JC.congr {U : xU} {sh : Nat → Nat} {z z' : xV} {n : Nat} {e : va_E} (h : ∀ k, jreg n k → z' k = z k) (hn : n < 23) (hc : JC U sh z n e) : JC U sh z' n e := by
  unfold JC at *
  unfold jreg at h
  by_cases h0 : n = 0
  · rw [if_pos h0] at hc ⊢
    simp only [if_pos h0] at h
    rw [hc]
    simp only [jfs, h 13 (by omega), h 12 (by omega), h 6 (by omega), h 7 (by omega), h 8 (by omega), h 9 (by omega), h 10 (by omega), h 11 (by omega)]
  rw [if_neg h0] at hc ⊢
  simp only [if_neg h0] at h
  by_cases h1 : n < 5
  · rw [if_pos h1] at hc ⊢
    simp only [if_pos h1] at h
    obtain ⟨f, e1, e2⟩ := hc
    exact ⟨f, e1, fun k hk => (e2 k hk).trans (h _ ⟨by omega, by omega⟩).symm⟩
  rw [if_neg h1] at hc ⊢
  simp only [if_neg h1] at h
  by_cases h5 : n = 5
  · rw [if_pos h5] at hc ⊢
    exact hc
  rw [if_neg h5] at hc ⊢
  by_cases h6 : n = 6
  · rw [if_pos h6] at hc ⊢
    exact hc
  rw [if_neg h6] at hc ⊢
  simp only [if_neg (show ¬ n < 7 by omega)] at h
  by_cases h11 : n < 11
  · rw [if_pos h11] at hc ⊢
    simp only [if_pos h11] at h
    rw [hc]
    simp only [hfs, h (hz (n - 7) 0) (by simp only [hz]; omega), h (hz (n - 7) 1) (by simp only [hz]; omega), h (hz (n - 7) 2) (by simp only [hz]; omega), h (hz (n - 7) 3) (by simp only [hz]; omega), h (hz (n - 7) 4) (by simp only [hz]; omega), h (hz (n - 7) 5) (by simp only [hz]; omega), h (80 + (n - 7)) (by omega)]
  rw [if_neg h11] at hc ⊢
  simp only [if_neg h11] at h
  by_cases h17 : n < 17
  · rw [if_pos h17] at hc ⊢
    simp only [if_pos h17] at h
    rw [hc, h _ rfl]
  rw [if_neg h17] at hc ⊢
  simp only [if_neg h17] at h
  obtain ⟨f, e1, e2⟩ := hc
  exact ⟨f, e1, fun k hk => (e2 k hk).trans (h _ ⟨by simp only [tz]; omega, by simp only [tz]; omega⟩).symm⟩
/-- the cells of a jetty, under names 0..22 -/
def JRep (U : xU) (μ : xH) (sh : Nat → Nat) (z : xV) : Prop := (∀ i j, i < 23 → j < 23 → sh i = sh j → i = j) ∧ xBz z ∧ ∀ n, n < 23 → ∃ e, μ (sh n) = some e ∧ JC U sh z n e
def JFr (sh : Nat → Nat) (μ μ' : xH) : Prop := ∀ q, (∀ n, n < 23 → q ≠ sh n) → μ' q = μ q
theorem JFr.rf {sh : Nat → Nat} {μ : xH} : JFr sh μ μ := fun _ _ => rfl
theorem JFr.tr {sh : Nat → Nat} {μ μ1 μ2 : xH} (h : JFr sh μ μ1) (h2 : JFr sh μ1 μ2) : JFr sh μ μ2 := fun q hq => (h2 q hq).trans (h q hq)
theorem JFr.up {sh : Nat → Nat} {μ0 μ : xH} {n : Nat} {e : va_E} (h : JFr sh μ0 μ) (hn : n < 23) : JFr sh μ0 (xup μ (sh n) e) := fun q hq => (xup_n (hq n hn)).trans (h q hq)
def JR (U : xU) (μ0 μ : xH) (sh : Nat → Nat) (z : xV) : Prop := JRep U μ sh z ∧ JFr sh μ0 μ
theorem JR.rf {U : xU} {μ : xH} {sh : Nat → Nat} {z : xV} (h : JRep U μ sh z) : JR U μ μ sh z := ⟨h, JFr.rf⟩
theorem JR.tr {U : xU} {μ0 μ μ' : xH} {sh : Nat → Nat} {z z' : xV} (h : JR U μ0 μ sh z) (h2 : JR U μ μ' sh z') : JR U μ0 μ' sh z' := ⟨h2.1, h.2.tr h2.2⟩
theorem JR.to {U : xU} {μ0 μ : xH} {sh : Nat → Nat} {z z' : xV} (h : JR U μ0 μ sh z) (e : z = z') : JR U μ0 μ sh z' := e ▸ h
theorem JRep.put {U : xU} {μ : xH} {sh : Nat → Nat} {z z' : xV} {n0 : Nat} {e' : va_E} (h : JRep U μ sh z) (hn : n0 < 23) (hz' : ∀ k, ¬ jreg n0 k → z' k = z k) (hb : xBz z') (hc : JC U sh z' n0 e') : JRep U (xup μ (sh n0) e') sh z' := by
  obtain ⟨h1, h2, h3⟩ := h
  refine ⟨h1, hb, fun n hn' => ?_⟩
  by_cases hq : n = n0
  · subst hq
    exact ⟨e', xup_s, hc⟩
  · obtain ⟨e, g1, g2⟩ := h3 n hn'
    exact ⟨e, by rw [xup_n (fun z => hq (h1 n n0 hn' hn z))]; exact g1, g2.congr (fun k hk => hz' k (jreg_d hn' hn hq hk)) hn'⟩
theorem JR.put {U : xU} {μ0 μ : xH} {sh : Nat → Nat} {z z' : xV} {n0 : Nat} {e' : va_E} (h : JR U μ0 μ sh z) (hn : n0 < 23) (hz' : ∀ k, ¬ jreg n0 k → z' k = z k) (hb : xBz z') (hc : JC U sh z' n0 e') : JR U μ0 (xup μ (sh n0) e') sh z' := ⟨h.1.put hn hz' hb hc, h.2.up hn⟩
section JGET
variable {U : xU} {μ0 μ : xH} {sh : Nat → Nat} {z : xV}
theorem JR.g0 (h : JR U μ0 μ sh z) : μ (sh 0) = some (.inr (1, jfs sh z)) := by
  obtain ⟨e, h1, h2⟩ := h.1.2.2 0 (by decide)
  rw [JC, if_pos rfl] at h2
  rw [h1, h2]
theorem JR.gA (h : JR U μ0 μ sh z) (c : Nat) (hc : c < 4) : ∃ f : Nat → Int32, μ (sh (1 + c)) = some (.inl (uC U 0, jlen c, .inl f)) ∧ ∀ k, k < jlen c → f k = z (jbase c + k) := by
  obtain ⟨e, h1, h2⟩ := h.1.2.2 (1 + c) (by omega)
  rw [JC, if_neg (by omega), if_pos (by omega), Nat.add_sub_cancel_left] at h2
  obtain ⟨f, e1, e2⟩ := h2
  exact ⟨f, by rw [h1, e1], e2⟩
theorem JR.g5 (h : JR U μ0 μ sh z) : ∃ f : Nat → Option Nat, μ (sh 5) = some (.inl (uC U 3, 4, .inr (.inr (.inr (.inr f))))) ∧ ∀ i, i < 4 → f i = some (sh (7 + i)) := by
  obtain ⟨e, h1, h2⟩ := h.1.2.2 5 (by decide)
  rw [JC, if_neg (by decide), if_neg (by decide), if_pos rfl] at h2
  obtain ⟨f, e1, e2⟩ := h2
  exact ⟨f, by rw [h1, e1], e2⟩
theorem JR.g6 (h : JR U μ0 μ sh z) : ∃ f : Nat → Option Nat, μ (sh 6) = some (.inl (uC U 4, 6, .inr (.inr (.inr (.inr f))))) ∧ ∀ p, p < 6 → f p = some (sh (11 + p)) := by
  obtain ⟨e, h1, h2⟩ := h.1.2.2 6 (by decide)
  rw [JC, if_neg (by decide), if_neg (by decide), if_neg (by decide), if_pos rfl] at h2
  obtain ⟨f, e1, e2⟩ := h2
  exact ⟨f, by rw [h1, e1], e2⟩
theorem JR.gH (h : JR U μ0 μ sh z) (i : Nat) (hi : i < 4) : μ (sh (7 + i)) = some (.inr (0, hfs z i)) := by
  obtain ⟨e, h1, h2⟩ := h.1.2.2 (7 + i) (by omega)
  rw [JC, if_neg (by omega), if_neg (by omega), if_neg (by omega), if_neg (by omega), if_pos (by omega), Nat.add_sub_cancel_left] at h2
  rw [h1, h2]
theorem JR.gT (h : JR U μ0 μ sh z) (p : Nat) (hp : p < 6) : μ (sh (11 + p)) = some (.inr (3, [.ref (sh (17 + p)), .int (z (tz p 4))])) := by
  obtain ⟨e, h1, h2⟩ := h.1.2.2 (11 + p) (by omega)
  rw [JC, if_neg (by omega), if_neg (by omega), if_neg (by omega), if_neg (by omega), if_neg (by omega), if_pos (by omega), Nat.add_sub_cancel_left] at h2
  rw [h1, h2]
theorem JR.gU (h : JR U μ0 μ sh z) (p : Nat) (hp : p < 6) : ∃ f : Nat → Int32, μ (sh (17 + p)) = some (.inl (uC U 0, 4, .inl f)) ∧ ∀ k, k < 4 → f k = z (tz p k) := by
  obtain ⟨e, h1, h2⟩ := h.1.2.2 (17 + p) (by omega)
  rw [JC, if_neg (by omega), if_neg (by omega), if_neg (by omega), if_neg (by omega), if_neg (by omega), if_neg (by omega), Nat.add_sub_cancel_left] at h2
  obtain ⟨f, e1, e2⟩ := h2
  exact ⟨f, by rw [h1, e1], e2⟩
theorem xBz.up (hb : xBz z) {k : Nat} {v : Int32} (h : (k = 13 ∨ k = 7 ∨ ∃ i, i < 4 ∧ (k = hz i 3 ∨ k = 80 + i)) → xz v) : xBz (upd z k v) := by
  have key : ∀ j, xz (z j) → (j = k → xz v) → xz (upd z k v j) := by
    intro j h1 h2
    by_cases e : j = k
    · rw [e, upd_s]; exact h2 e
    · rw [upd_n e]; exact h1
  exact ⟨key 13 hb.1 (fun e => h (Or.inl e.symm)), key 7 hb.2.1 (fun e => h (Or.inr (Or.inl e.symm))), fun i hi => ⟨key _ (hb.2.2 i hi).1 (fun e => h (Or.inr (Or.inr ⟨i, hi, Or.inl e.symm⟩))), key _ (hb.2.2 i hi).2 (fun e => h (Or.inr (Or.inr ⟨i, hi, Or.inr e.symm⟩)))⟩⟩
theorem JR.pJ (h : JR U μ0 μ sh z) (k : Nat) (h6 : 6 ≤ k) (hk : k < 14) {v : Int32} (hv : (k = 6 ∨ k = 9) → xz v) : JR U μ0 (xup μ (sh 0) (.inr (1, (jfs sh z).set k (.int v)))) sh (upd z (jix k) v) := by
  have key : ∀ k, 6 ≤ k → k < 14 → (6 ≤ jix k ∧ jix k < 14) ∧ ((jix k = 13 → k = 6) ∧ (jix k = 7 → k = 9)) := by
    intro k h1 h2
    rcases (show k = 6 ∨ k = 7 ∨ k = 8 ∨ k = 9 ∨ k = 10 ∨ k = 11 ∨ k = 12 ∨ k = 13 by omega) with rfl | rfl | rfl | rfl | rfl | rfl | rfl | rfl <;> decide
  obtain ⟨k1, k2, k3⟩ := key k h6 hk
  refine h.put (by decide) (fun j hj => upd_n (fun e => hj (by rw [jreg, if_pos rfl, e]; exact k1))) (h.1.2.1.up (fun q => ?_)) ?_
  · rcases q with q | q | ⟨i, hi, q | q⟩
    · exact hv (Or.inl (k2 q))
    · exact hv (Or.inr (k3 q))
    · simp only [hz] at q; omega
    · omega
  · rw [JC, if_pos rfl]
    rcases (show k = 6 ∨ k = 7 ∨ k = 8 ∨ k = 9 ∨ k = 10 ∨ k = 11 ∨ k = 12 ∨ k = 13 by omega) with rfl | rfl | rfl | rfl | rfl | rfl | rfl | rfl <;> rfl
theorem JR.pA (h : JR U μ0 μ sh z) (c : Nat) (hc : c < 4) {f : Nat → Int32} (hf : ∀ k, k < jlen c → f k = z (jbase c + k)) {i : Nat} (hi : i < jlen c) {v : Int32} : JR U μ0 (xup μ (sh (1 + c)) (.inl (uC U 0, jlen c, .inl (upd f i v)))) sh (upd z (jbase c + i) v) := by
  refine h.put (by omega) (fun j hj => upd_n (fun e => hj (by rw [jreg, if_neg (by omega), if_pos (by omega), Nat.add_sub_cancel_left, e]; omega))) (h.1.2.1.up (fun q => ?_)) ?_
  · exfalso
    simp only [jbase, jlen] at *
    rcases q with q | q | ⟨i2, hi2, q | q⟩ <;> (try simp only [hz] at q) <;> split at q <;> (try split at hi) <;> omega
  · rw [JC, if_neg (by omega), if_pos (by omega), Nat.add_sub_cancel_left]
    refine ⟨_, rfl, fun k hk => ?_⟩
    by_cases e : k = i
    · subst e; rw [upd_s, upd_s]
    · rw [upd_n e, upd_n (by omega)]; exact hf k hk
theorem JR.pH (h : JR U μ0 μ sh z) (i : Nat) (hi : i < 4) (k : Nat) (hk : k < 7) {v : Int32} (hv : (k = 3 ∨ k = 6) → xz v) : JR U μ0 (xup μ (sh (7 + i)) (.inr (0, (hfs z i).set k (.int v)))) sh (upd z (hix i k) v) := by
  refine h.put (by omega) (fun j hj => upd_n (fun e => hj ?_)) (h.1.2.1.up (fun q => ?_)) ?_
  · rw [jreg, if_neg (by omega), if_neg (by omega), if_neg (by omega), if_pos (by omega), Nat.add_sub_cancel_left, e]
    simp only [hix, hz]
    split <;> omega
  · simp only [hix, hz] at q
    refine hv ?_
    split at q
    · omega
    · rcases q with q | q | ⟨i, hi, q | q⟩ <;> omega
  · rw [JC, if_neg (by omega), if_neg (by omega), if_neg (by omega), if_neg (by omega), if_pos (by omega), Nat.add_sub_cancel_left]
    have e : (hfs z i).set k (.int v) = hfs (upd z (hix i k) v) i := by
      have n1 : ∀ a b : Nat, a ≠ b → hz i a ≠ hz i b := fun a b h => by simp only [hz]; omega
      have n2 : ∀ a : Nat, a < 6 → hz i a ≠ 80 + i := fun a h => by simp only [hz]; omega
      have n3 : ∀ a : Nat, a < 6 → 80 + i ≠ hz i a := fun a h => (n2 a h).symm
      rcases (show k = 0 ∨ k = 1 ∨ k = 2 ∨ k = 3 ∨ k = 4 ∨ k = 5 ∨ k = 6 by omega) with rfl | rfl | rfl | rfl | rfl | rfl | rfl
      all_goals simp [hfs, hix, upd_s, upd_n, n1, n2, n3]
    rw [e]
theorem JR.pT (h : JR U μ0 μ sh z) (p : Nat) (hp : p < 6) {v : Int32} : JR U μ0 (xup μ (sh (11 + p)) (.inr (3, ([.ref (sh (17 + p)), .int (z (tz p 4))] : List Value).set 1 (.int v)))) sh (upd z (tz p 4) v) := by
  refine h.put (by omega) (fun j hj => upd_n (fun e => hj ?_)) (h.1.2.1.up (fun q => ?_)) ?_
  · rw [jreg, if_neg (by omega), if_neg (by omega), if_neg (by omega), if_neg (by omega), if_pos (by omega), Nat.add_sub_cancel_left, e]
  · exfalso
    simp only [tz, hz] at q
    rcases q with q | q | ⟨i, hi, q | q⟩ <;> omega
  · rw [JC, if_neg (by omega), if_neg (by omega), if_neg (by omega), if_neg (by omega), if_neg (by omega), if_pos (by omega), Nat.add_sub_cancel_left, upd_s]
    rfl
theorem JR.pU (h : JR U μ0 μ sh z) (p : Nat) (hp : p < 6) {f : Nat → Int32} (hf : ∀ k, k < 4 → f k = z (tz p k)) {i : Nat} (hi : i < 4) {v : Int32} : JR U μ0 (xup μ (sh (17 + p)) (.inl (uC U 0, 4, .inl (upd f i v)))) sh (upd z (tz p i) v) := by
  refine h.put (by omega) (fun j hj => upd_n (fun e => hj ?_)) (h.1.2.1.up (fun q => ?_)) ?_
  · rw [jreg, if_neg (by omega), if_neg (by omega), if_neg (by omega), if_neg (by omega), if_neg (by omega), Nat.add_sub_cancel_left, e]
    simp only [tz]
    omega
  · exfalso
    simp only [tz, hz] at q
    rcases q with q | q | ⟨i, hi, q | q⟩ <;> omega
  · rw [JC, if_neg (by omega), if_neg (by omega), if_neg (by omega), if_neg (by omega), if_neg (by omega), if_neg (by omega), Nat.add_sub_cancel_left]
    refine ⟨_, rfl, fun k hk => ?_⟩
    by_cases e : k = i
    · subst e; rw [upd_s, upd_s]
    · rw [upd_n e, upd_n (by simp only [tz]; omega)]; exact hf k hk
end JGET
end
section
def bI (b : Bool) : Int32 := if b = true then 1 else 0
theorem bI_t : bI true = 1 := rfl
theorem bI_f : bI false = 0 := rfl
theorem bI_x (b : Bool) : xz (bI b) := by cases b <;> simp [bI, xz]
theorem bI_nar (b : Bool) : narrow .boolean (.int (bI b)) = .int (bI b) := (xfit_z (bI_x b)).1
/-- 0 to 3 -/
def isG (x : Int32) : Bool := decide (0 ≤ x) && decide (x < 4)
theorem isG_nI {x : Int32} (h : isG x = true) : ∃ k : Nat, k < 4 ∧ x = nI k := by
  simp only [isG, Bool.and_eq_true, decide_eq_true_eq] at h
  obtain ⟨k, hk, e⟩ := nI_of (x := x) (by simpa using h.1)
  refine ⟨k, ?_, e⟩
  have h2 := h.2
  rw [e, show (4 : Int32) = nI 4 from rfl, nI_ltI hk (by decide)] at h2
  exact h2
theorem isG_tn {x : Int32} (h : isG x = true) : x.toNatClampNeg < 4 := by
  obtain ⟨k, hk, rfl⟩ := isG_nI h
  rw [nI_clamp (by omega)]
  exact hk
theorem isG_in {x : Int32} (h : isG x = true) : vp_in x 4 := by
  obtain ⟨k, hk, rfl⟩ := isG_nI h
  exact vp_in_nI hk (by decide)
theorem isG_of {k : Nat} (h : k < 4) : isG (nI k) = true := by
  rcases (show k = 0 ∨ k = 1 ∨ k = 2 ∨ k = 3 by omega) with rfl | rfl | rfl | rfl <;> decide
/-- a method that only answers -/
abbrev CtF (l : Launch) (U : xU) (y : MethodName) (b : ByteArray) (maxL : Nat) (ret : Option FieldType) (rm : Room) (av : List Value) (μ : xH) (r : Int32) : Prop := Ct l U y b maxL ret rm av μ (fun v μ' => v = some (.int r) ∧ μ' = μ)
/-- a method that changes a jetty, and answers -/
abbrev CtJ (l : Launch) (U : xU) (y : MethodName) (b : ByteArray) (maxL : Nat) (ret : Option FieldType) (rm : Room) (av : List Value) (μ : xH) (sh : Nat → Nat) (r : Int32) (z : xV) : Prop := Ct l U y b maxL ret rm av μ (fun v μ' => v = some (.int r) ∧ JR U μ μ' sh z)
abbrev CtK (l : Launch) (U : xU) (y : MethodName) (b : ByteArray) (maxL : Nat) (ret : Option FieldType) (rm : Room) (av : List Value) (μ : xH) (sh : Nat → Nat) (z : xV) : Prop := Ct l U y b maxL ret rm av μ (fun v μ' => v = none ∧ JR U μ μ' sh z)
section XJROWS
variable {U : xU} {K : xK} {y : MethodName} {cc : ByteArray} {nL cells slots : Nat} {ret : Option FieldType} {rm : Room} {Q : State → Prop} {μ0 μ : xH} {sh : Nat → Nat} {z : xV} {pc index : Nat} {ls : List (Option Value)} {st : List Value}
theorem aw_jget (X : Cx U K y cc nL ret rm) (hJ : JR U μ0 μ sh z) {k : Nat} {v : Value} (hf : XF y.cls index 1 k RX1 TX1 14) (hv : (jfs sh z)[k]? = some v) (hdg : decode cc pc = .ok (.getfield index, 3)) (kk : AW U K nL cells slots Q μ (pc + 3) ls (v :: st)) : AW U K nL cells slots Q μ pc ls (.ref (sh 0) :: st) := aw_get X hf hJ.g0 hv hdg kk
theorem xd1 : ∀ k, 6 ≤ k → k < 14 → (TX1 k).2.2.2 = false ∧ ((k = 6 ∨ k = 9) → parseFieldDescriptor (TX1 k).2.2.1 = some .boolean) ∧ (¬ (k = 6 ∨ k = 9) → parseFieldDescriptor (TX1 k).2.2.1 = some .int) := by
  intro k h1 h2
  rcases (show k = 6 ∨ k = 7 ∨ k = 8 ∨ k = 9 ∨ k = 10 ∨ k = 11 ∨ k = 12 ∨ k = 13 by omega) with rfl | rfl | rfl | rfl | rfl | rfl | rfl | rfl <;> decide +kernel
theorem aw_jput (X : Cx U K y cc nL ret rm) (hJ : JR U μ0 μ sh z) (k : Nat) (h6 : 6 ≤ k) (hk : k < 14) (j : Nat) (hj : jix k = j) {v : Int32} (hf : XF y.cls index 1 k RX1 TX1 14) (hv : (k = 6 ∨ k = 9) → xz v) (hdg : decode cc pc = .ok (.putfield index, 3)) (kk : ∀ (μ' : xH) (z' : xV), z' = upd z j v → JR U μ0 μ' sh z' → AW U K nL cells slots Q μ' (pc + 3) ls st) : AW U K nL cells slots Q μ pc ls (.int v :: .ref (sh 0) :: st) := by
  subst hj
  obtain ⟨d1, d2, d3⟩ := xd1 k h6 hk
  have hN := hJ.pJ k h6 hk hv
  by_cases hb : k = 6 ∨ k = 9
  · exact aw_put X hf hJ.g0 d1 (d2 hb) (xfit_z (hv hb)) (by show k < 14; exact hk) hdg (kk _ _ rfl hN)
  · exact aw_put X hf hJ.g0 d1 (d3 hb) xfit_i (by show k < 14; exact hk) hdg (kk _ _ rfl hN)
theorem aw_hget (X : Cx U K y cc nL ret rm) (hJ : JR U μ0 μ sh z) (i : Nat) (hi : i < 4) {k : Nat} {v : Value} (hf : XF y.cls index 0 k RX0 TX0 7) (hv : (hfs z i)[k]? = some v) (hdg : decode cc pc = .ok (.getfield index, 3)) (kk : AW U K nL cells slots Q μ (pc + 3) ls (v :: st)) : AW U K nL cells slots Q μ pc ls (.ref (sh (7 + i)) :: st) := aw_get X hf (hJ.gH i hi) hv hdg kk
theorem xd0 : ∀ k, k < 7 → (TX0 k).2.2.2 = false ∧ ((k = 3 ∨ k = 6) → parseFieldDescriptor (TX0 k).2.2.1 = some .boolean) ∧ (¬ (k = 3 ∨ k = 6) → parseFieldDescriptor (TX0 k).2.2.1 = some .int) := by
  intro k h2
  rcases (show k = 0 ∨ k = 1 ∨ k = 2 ∨ k = 3 ∨ k = 4 ∨ k = 5 ∨ k = 6 by omega) with rfl | rfl | rfl | rfl | rfl | rfl | rfl <;> decide +kernel
theorem aw_hput (X : Cx U K y cc nL ret rm) (hJ : JR U μ0 μ sh z) (i : Nat) (hi : i < 4) (k : Nat) (hk : k < 7) (j : Nat) (hj : hix i k = j) {v : Int32} (hf : XF y.cls index 0 k RX0 TX0 7) (hv : (k = 3 ∨ k = 6) → xz v) (hdg : decode cc pc = .ok (.putfield index, 3)) (kk : ∀ (μ' : xH) (z' : xV), z' = upd z j v → JR U μ0 μ' sh z' → AW U K nL cells slots Q μ' (pc + 3) ls st) : AW U K nL cells slots Q μ pc ls (.int v :: .ref (sh (7 + i)) :: st) := by
  subst hj
  obtain ⟨d1, d2, d3⟩ := xd0 k hk
  have hN := hJ.pH i hi k hk hv
  by_cases hb : k = 3 ∨ k = 6
  · exact aw_put X hf (hJ.gH i hi) d1 (d2 hb) (xfit_z (hv hb)) (by show k < 7; exact hk) hdg (kk _ _ rfl hN)
  · exact aw_put X hf (hJ.gH i hi) d1 (d3 hb) xfit_i (by show k < 7; exact hk) hdg (kk _ _ rfl hN)
theorem aw_tgetU (X : Cx U K y cc nL ret rm) (hJ : JR U μ0 μ sh z) (p : Nat) (hp : p < 6) (hf : XF y.cls index 3 0 RX3 TX3 2) (hdg : decode cc pc = .ok (.getfield index, 3)) (kk : AW U K nL cells slots Q μ (pc + 3) ls (.ref (sh (17 + p)) :: st)) : AW U K nL cells slots Q μ pc ls (.ref (sh (11 + p)) :: st) := aw_get X hf (hJ.gT p hp) rfl hdg kk
theorem aw_tgetC (X : Cx U K y cc nL ret rm) (hJ : JR U μ0 μ sh z) (p : Nat) (hp : p < 6) (hf : XF y.cls index 3 1 RX3 TX3 2) (hdg : decode cc pc = .ok (.getfield index, 3)) (kk : AW U K nL cells slots Q μ (pc + 3) ls (.int (z (tz p 4)) :: st)) : AW U K nL cells slots Q μ pc ls (.ref (sh (11 + p)) :: st) := aw_get X hf (hJ.gT p hp) rfl hdg kk
theorem aw_tputC (X : Cx U K y cc nL ret rm) (hJ : JR U μ0 μ sh z) (p : Nat) (hp : p < 6) {v : Int32} (hf : XF y.cls index 3 1 RX3 TX3 2) (hdg : decode cc pc = .ok (.putfield index, 3)) (kk : ∀ (μ' : xH) (z' : xV), z' = upd z (tz p 4) v → JR U μ0 μ' sh z' → AW U K nL cells slots Q μ' (pc + 3) ls st) : AW U K nL cells slots Q μ pc ls (.int v :: .ref (sh (11 + p)) :: st) :=
  aw_put X hf (hJ.gT p hp) rfl (ty := .int) (by decide +kernel) xfit_i (by show 1 < 2; decide) hdg (kk _ _ rfl (hJ.pT p hp))
theorem aw_jald (X : Cx U K y cc nL ret rm) (hJ : JR U μ0 μ sh z) (c : Nat) (hc : c < 4) (j : Nat) {i : Int32} (hin : vp_in i (jlen c)) (hj : jbase c + i.toNatClampNeg = j) (hdg : decode cc pc = .ok (.iaload, 1)) (kk : AW U K nL cells slots Q μ (pc + 1) ls (.int (z j) :: st)) : AW U K nL cells slots Q μ pc ls (.int i :: .ref (sh (1 + c)) :: st) := by
  subst hj
  obtain ⟨f, h1, h2⟩ := hJ.gA c hc
  exact aw_iald X h1 hin hdg (by rw [h2 _ (xin_lt hin)]; exact kk)
theorem aw_jast (X : Cx U K y cc nL ret rm) (hJ : JR U μ0 μ sh z) (c : Nat) (hc : c < 4) (j : Nat) {i v : Int32} (hin : vp_in i (jlen c)) (hj : jbase c + i.toNatClampNeg = j) (hdg : decode cc pc = .ok (.iastore, 1)) (kk : ∀ (μ' : xH) (z' : xV), z' = upd z j v → JR U μ0 μ' sh z' → AW U K nL cells slots Q μ' (pc + 1) ls st) : AW U K nL cells slots Q μ pc ls (.int v :: .int i :: .ref (sh (1 + c)) :: st) := by
  subst hj
  obtain ⟨f, h1, h2⟩ := hJ.gA c hc
  exact aw_iast X h1 hin hdg (kk _ _ rfl (hJ.pA c hc h2 (xin_lt hin)))
theorem aw_jlen (X : Cx U K y cc nL ret rm) (hJ : JR U μ0 μ sh z) (c : Nat) (hc : c < 4) {v : Int32} (hv : Int32.ofNat (jlen c) = v) (hdg : decode cc pc = .ok (.arraylength, 1)) (kk : AW U K nL cells slots Q μ (pc + 1) ls (.int v :: st)) : AW U K nL cells slots Q μ pc ls (.ref (sh (1 + c)) :: st) := by
  obtain ⟨f, h1, -⟩ := hJ.gA c hc
  exact aw_alen X (t0 := 0) rfl h1 hv hdg kk
theorem aw_tlen (X : Cx U K y cc nL ret rm) (hJ : JR U μ0 μ sh z) (hdg : decode cc pc = .ok (.arraylength, 1)) (kk : AW U K nL cells slots Q μ (pc + 1) ls (.int 6 :: st)) : AW U K nL cells slots Q μ pc ls (.ref (sh 6) :: st) := by
  obtain ⟨f, h1, -⟩ := hJ.g6
  exact aw_alen X (t0 := 4) rfl h1 rfl hdg kk
theorem aw_uald (X : Cx U K y cc nL ret rm) (hJ : JR U μ0 μ sh z) (p : Nat) (hp : p < 6) (j : Nat) {i : Int32} (hin : vp_in i 4) (hj : tz p i.toNatClampNeg = j) (hdg : decode cc pc = .ok (.iaload, 1)) (kk : AW U K nL cells slots Q μ (pc + 1) ls (.int (z j) :: st)) : AW U K nL cells slots Q μ pc ls (.int i :: .ref (sh (17 + p)) :: st) := by
  subst hj
  obtain ⟨f, h1, h2⟩ := hJ.gU p hp
  exact aw_iald X h1 hin hdg (by rw [h2 _ (xin_lt hin)]; exact kk)
theorem aw_uast (X : Cx U K y cc nL ret rm) (hJ : JR U μ0 μ sh z) (p : Nat) (hp : p < 6) (j : Nat) {i v : Int32} (hin : vp_in i 4) (hj : tz p i.toNatClampNeg = j) (hdg : decode cc pc = .ok (.iastore, 1)) (kk : ∀ (μ' : xH) (z' : xV), z' = upd z j v → JR U μ0 μ' sh z' → AW U K nL cells slots Q μ' (pc + 1) ls st) : AW U K nL cells slots Q μ pc ls (.int v :: .int i :: .ref (sh (17 + p)) :: st) := by
  subst hj
  obtain ⟨f, h1, h2⟩ := hJ.gU p hp
  exact aw_iast X h1 hin hdg (kk _ _ rfl (hJ.pU p hp h2 (xin_lt hin)))
theorem aw_hoseAt (X : Cx U K y cc nL ret rm) (hJ : JR U μ0 μ sh z) (i : Nat) (hi : i < 4) {v : Int32} (hv : v = nI i) (hdg : decode cc pc = .ok (.aaload, 1)) (kk : AW U K nL cells slots Q μ (pc + 1) ls (.ref (sh (7 + i)) :: st)) : AW U K nL cells slots Q μ pc ls (.int v :: .ref (sh 5) :: st) := by
  subst hv
  obtain ⟨f, h1, h2⟩ := hJ.g5
  exact aw_aald X (t0 := 3) rfl h1 (vp_in_nI hi (by decide)) (by rw [nI_clamp (by omega)]; exact h2 i hi) hdg kk
theorem aw_tankAt (X : Cx U K y cc nL ret rm) (hJ : JR U μ0 μ sh z) (p : Nat) (hp : p < 6) {v : Int32} (hv : v = nI p) (hdg : decode cc pc = .ok (.aaload, 1)) (kk : AW U K nL cells slots Q μ (pc + 1) ls (.ref (sh (11 + p)) :: st)) : AW U K nL cells slots Q μ pc ls (.int v :: .ref (sh 6) :: st) := by
  subst hv
  obtain ⟨f, h1, h2⟩ := hJ.g6
  exact aw_aald X (t0 := 4) rfl h1 (vp_in_nI hp (by decide)) (by rw [nI_clamp (by omega)]; exact h2 p hp) hdg kk
/-- a truth value is asked -/
theorem aw_b_eq (X : Cx U K y cc nL ret rm) {b : Bool} {off : Int} {tgt : Nat} (hdg : decode cc pc = .ok (.ifCond .eq off, 3)) (ht : (pc : Int) + off = (tgt : Int)) (kt : b = false → AW U K nL cells slots Q μ tgt ls st) (kf : b = true → AW U K nL cells slots Q μ (pc + 3) ls st) : AW U K nL cells slots Q μ pc ls (.int (bI b) :: st) := by
  refine aw_if_eq X hdg ht (fun c => kt ?_) (fun c => kf ?_)
  · cases b
    · rfl
    · exact absurd c (by decide)
  · cases b
    · exact absurd rfl c
    · rfl
theorem aw_b_ne (X : Cx U K y cc nL ret rm) {b : Bool} {off : Int} {tgt : Nat} (hdg : decode cc pc = .ok (.ifCond .ne off, 3)) (ht : (pc : Int) + off = (tgt : Int)) (kt : b = true → AW U K nL cells slots Q μ tgt ls st) (kf : b = false → AW U K nL cells slots Q μ (pc + 3) ls st) : AW U K nL cells slots Q μ pc ls (.int (bI b) :: st) := by
  refine aw_if_ne X hdg ht (fun c => kt ?_) (fun c => kf ?_)
  · cases b
    · exact absurd rfl c
    · rfl
  · cases b
    · rfl
    · exact absurd c (by decide)
/-- b ? 1 : 0, x != 0 ? 1 : 0 -/
theorem aw_bj (X : Cx U K y cc nL ret rm) {x : Int32} {tgt t2 : Nat} {off o2 : Int} (h1 : decode cc pc = .ok (.ifCond .eq off, 3)) (h2 : decode cc (pc + 3) = .ok (.iconst 1, 1)) (h3 : decode cc (pc + 4) = .ok (.goto o2, 3)) (h4 : decode cc tgt = .ok (.iconst 0, 1)) (e1 : (pc : Int) + off = (tgt : Int)) (e2 : ((pc + 4 : Nat) : Int) + o2 = (t2 : Int)) (e3 : tgt + 1 = t2) (kk : AW U K nL cells slots Q μ t2 ls (.int (bI (decide (¬ x = 0))) :: st)) : AW U K nL cells slots Q μ pc ls (.int x :: st) := by
  subst e3
  refine aw_if_eq X h1 e1 (fun c => ?_) (fun c => ?_)
  · refine aw_iconst X 0 h4 rfl ?_
    rw [show bI (decide (¬ x = 0)) = 0 by simp [bI, c]] at kk
    exact kk
  · refine aw_iconst X 1 h2 rfl (aw_goto X h3 e2 ?_)
    rw [show bI (decide (¬ x = 0)) = 1 by simp [bI, c]] at kk
    exact kk
theorem bI_ne (b : Bool) : decide (¬ bI b = 0) = b := by cases b <;> decide
variable {y' : MethodName} {b' : ByteArray} {maxL n : Nat} {ret' : Option FieldType} {rm' : Room}

theorem aw_cVF (X : Cx U K y cc nL ret rm) {As : List Value} {a : Nat} {fs : List Value} {ci N : Nat} {T : u_T} {r : Int32} (hM : CtF (kl K) U y' b' maxL ret' rm' (.ref a :: As) μ r) (hs : XV y.cls index y') (hy : XY y' b' maxL ret' n) (hrm : rm'.frames + 1 ≤ rm.frames ∧ 8 + (maxL + 11) + rm'.locals ≤ rm.locals) (hm : rm'.cells = 0 ∧ rm'.slots = 0) (hf : cells ≤ rm.cells ∧ slots ≤ rm.slots) (hn : As.length = n) (hst : (st.map fun v => v.category).sum ≤ 8) (hμ : μ a = some (.inr (ci, fs))) (hci : xcl[ci]? = some (y'.cls, T, N)) (hdg : decode cc pc = .ok (.invokevirtual index, 3)) (kk : AW U K nL cells slots Q μ (pc + 3) ls (.int r :: st)) : AW U K nL cells slots Q μ pc ls (As.reverse ++ .ref a :: st) := by
  have hR := X.2.2.2.2.2.2.2.1
  refine aw_cV X hM hs hy hrm (by rw [hm.1, hm.2, hR]; exact hf) hn hst hμ hci hdg (fun v μ1 hp => ?_)
  obtain ⟨rfl, rfl⟩ := hp
  rw [hm.1, hm.2]
  exact kk
theorem aw_cVJ (X : Cx U K y cc nL ret rm) {As : List Value} {a : Nat} {fs : List Value} {ci N : Nat} {T : u_T} {r : Int32} {z1 : xV} (hJ : JR U μ0 μ sh z) (hM : CtJ (kl K) U y' b' maxL ret' rm' (.ref a :: As) μ sh r z1) (hs : XV y.cls index y') (hy : XY y' b' maxL ret' n) (hrm : rm'.frames + 1 ≤ rm.frames ∧ 8 + (maxL + 11) + rm'.locals ≤ rm.locals) (hm : rm'.cells = 0 ∧ rm'.slots = 0) (hf : cells ≤ rm.cells ∧ slots ≤ rm.slots) (hn : As.length = n) (hst : (st.map fun v => v.category).sum ≤ 8) (hμ : μ a = some (.inr (ci, fs))) (hci : xcl[ci]? = some (y'.cls, T, N)) (hdg : decode cc pc = .ok (.invokevirtual index, 3)) (kk : ∀ (μ' : xH) (z' : xV), z' = z1 → JR U μ0 μ' sh z' → AW U K nL cells slots Q μ' (pc + 3) ls (.int r :: st)) : AW U K nL cells slots Q μ pc ls (As.reverse ++ .ref a :: st) := by
  have hR := X.2.2.2.2.2.2.2.1
  refine aw_cV X hM hs hy hrm (by rw [hm.1, hm.2, hR]; exact hf) hn hst hμ hci hdg (fun v μ1 hp => ?_)
  obtain ⟨rfl, hp⟩ := hp
  rw [hm.1, hm.2]
  exact kk _ _ rfl (hJ.tr hp)
theorem aw_cVK (X : Cx U K y cc nL ret rm) {As : List Value} {a : Nat} {fs : List Value} {ci N : Nat} {T : u_T} {z1 : xV} (hJ : JR U μ0 μ sh z) (hM : CtK (kl K) U y' b' maxL ret' rm' (.ref a :: As) μ sh z1) (hs : XV y.cls index y') (hy : XY y' b' maxL ret' n) (hrm : rm'.frames + 1 ≤ rm.frames ∧ 8 + (maxL + 11) + rm'.locals ≤ rm.locals) (hm : rm'.cells = 0 ∧ rm'.slots = 0) (hf : cells ≤ rm.cells ∧ slots ≤ rm.slots) (hn : As.length = n) (hst : (st.map fun v => v.category).sum ≤ 8) (hμ : μ a = some (.inr (ci, fs))) (hci : xcl[ci]? = some (y'.cls, T, N)) (hdg : decode cc pc = .ok (.invokevirtual index, 3)) (kk : ∀ (μ' : xH) (z' : xV), z' = z1 → JR U μ0 μ' sh z' → AW U K nL cells slots Q μ' (pc + 3) ls st) : AW U K nL cells slots Q μ pc ls (As.reverse ++ .ref a :: st) := by
  have hR := X.2.2.2.2.2.2.2.1
  refine aw_cV X hM hs hy hrm (by rw [hm.1, hm.2, hR]; exact hf) hn hst hμ hci hdg (fun v μ1 hp => ?_)
  obtain ⟨rfl, hp⟩ := hp
  rw [hm.1, hm.2]
  exact kk _ _ rfl (hJ.tr hp)
theorem aw_cSF (X : Cx U K y cc nL ret rm) {As : List Value} {r : Int32} (hM : CtF (kl K) U y' b' maxL ret' rm' As μ r) (hs : XS y.cls index y') (hy : XY y' b' maxL ret' n) (hrm : rm'.frames + 1 ≤ rm.frames ∧ 8 + (maxL + 11) + rm'.locals ≤ rm.locals) (hm : rm'.cells = 0 ∧ rm'.slots = 0) (hf : cells ≤ rm.cells ∧ slots ≤ rm.slots) (hn : As.length = n) (hst : (st.map fun v => v.category).sum ≤ 8) (hdg : decode cc pc = .ok (.invokestatic index, 3)) (kk : AW U K nL cells slots Q μ (pc + 3) ls (.int r :: st)) : AW U K nL cells slots Q μ pc ls (As.reverse ++ st) := by
  have hR := X.2.2.2.2.2.2.2.1
  refine aw_cS X hM hs hy hrm (by rw [hm.1, hm.2, hR]; exact hf) hn hst hdg (fun v μ1 hp => ?_)
  obtain ⟨rfl, rfl⟩ := hp
  rw [hm.1, hm.2]
  exact kk
theorem aw_cSJ (X : Cx U K y cc nL ret rm) {As : List Value} {r : Int32} {z1 : xV} (hJ : JR U μ0 μ sh z) (hM : CtJ (kl K) U y' b' maxL ret' rm' As μ sh r z1) (hs : XS y.cls index y') (hy : XY y' b' maxL ret' n) (hrm : rm'.frames + 1 ≤ rm.frames ∧ 8 + (maxL + 11) + rm'.locals ≤ rm.locals) (hm : rm'.cells = 0 ∧ rm'.slots = 0) (hf : cells ≤ rm.cells ∧ slots ≤ rm.slots) (hn : As.length = n) (hst : (st.map fun v => v.category).sum ≤ 8) (hdg : decode cc pc = .ok (.invokestatic index, 3)) (kk : ∀ (μ' : xH) (z' : xV), z' = z1 → JR U μ0 μ' sh z' → AW U K nL cells slots Q μ' (pc + 3) ls (.int r :: st)) : AW U K nL cells slots Q μ pc ls (As.reverse ++ st) := by
  have hR := X.2.2.2.2.2.2.2.1
  refine aw_cS X hM hs hy hrm (by rw [hm.1, hm.2, hR]; exact hf) hn hst hdg (fun v μ1 hp => ?_)
  obtain ⟨rfl, hp⟩ := hp
  rw [hm.1, hm.2]
  exact kk _ _ rfl (hJ.tr hp)
theorem aw_cSK (X : Cx U K y cc nL ret rm) {As : List Value} {z1 : xV} (hJ : JR U μ0 μ sh z) (hM : CtK (kl K) U y' b' maxL ret' rm' As μ sh z1) (hs : XS y.cls index y') (hy : XY y' b' maxL ret' n) (hrm : rm'.frames + 1 ≤ rm.frames ∧ 8 + (maxL + 11) + rm'.locals ≤ rm.locals) (hm : rm'.cells = 0 ∧ rm'.slots = 0) (hf : cells ≤ rm.cells ∧ slots ≤ rm.slots) (hn : As.length = n) (hst : (st.map fun v => v.category).sum ≤ 8) (hdg : decode cc pc = .ok (.invokestatic index, 3)) (kk : ∀ (μ' : xH) (z' : xV), z' = z1 → JR U μ0 μ' sh z' → AW U K nL cells slots Q μ' (pc + 3) ls st) : AW U K nL cells slots Q μ pc ls (As.reverse ++ st) := by
  have hR := X.2.2.2.2.2.2.2.1
  refine aw_cS X hM hs hy hrm (by rw [hm.1, hm.2, hR]; exact hf) hn hst hdg (fun v μ1 hp => ?_)
  obtain ⟨rfl, hp⟩ := hp
  rw [hm.1, hm.2]
  exact kk _ _ rfl (hJ.tr hp)
theorem aw_cSNF (X : Cx U K y cc nL ret rm) {As : List Value} {host : String} {r : Int32} (hM : CtF (kl K) U y' b' maxL ret' rm' As μ r) (hs : XSN y.cls index y' host) (hy : XY y' b' maxL ret' n) (hrm : rm'.frames + 1 ≤ rm.frames ∧ 8 + (maxL + 11) + rm'.locals ≤ rm.locals) (hm : rm'.cells = 0 ∧ rm'.slots = 0) (hf : cells ≤ rm.cells ∧ slots ≤ rm.slots) (hn : As.length = n) (hst : (st.map fun v => v.category).sum ≤ 8) (hdg : decode cc pc = .ok (.invokestatic index, 3)) (kk : AW U K nL cells slots Q μ (pc + 3) ls (.int r :: st)) : AW U K nL cells slots Q μ pc ls (As.reverse ++ st) := by
  have hR := X.2.2.2.2.2.2.2.1
  refine aw_cSN X hM hs hy hrm (by rw [hm.1, hm.2, hR]; exact hf) hn hst hdg (fun v μ1 hp => ?_)
  obtain ⟨rfl, rfl⟩ := hp
  rw [hm.1, hm.2]
  exact kk
theorem aw_cSNJ (X : Cx U K y cc nL ret rm) {As : List Value} {host : String} {r : Int32} {z1 : xV} (hJ : JR U μ0 μ sh z) (hM : CtJ (kl K) U y' b' maxL ret' rm' As μ sh r z1) (hs : XSN y.cls index y' host) (hy : XY y' b' maxL ret' n) (hrm : rm'.frames + 1 ≤ rm.frames ∧ 8 + (maxL + 11) + rm'.locals ≤ rm.locals) (hm : rm'.cells = 0 ∧ rm'.slots = 0) (hf : cells ≤ rm.cells ∧ slots ≤ rm.slots) (hn : As.length = n) (hst : (st.map fun v => v.category).sum ≤ 8) (hdg : decode cc pc = .ok (.invokestatic index, 3)) (kk : ∀ (μ' : xH) (z' : xV), z' = z1 → JR U μ0 μ' sh z' → AW U K nL cells slots Q μ' (pc + 3) ls (.int r :: st)) : AW U K nL cells slots Q μ pc ls (As.reverse ++ st) := by
  have hR := X.2.2.2.2.2.2.2.1
  refine aw_cSN X hM hs hy hrm (by rw [hm.1, hm.2, hR]; exact hf) hn hst hdg (fun v μ1 hp => ?_)
  obtain ⟨rfl, hp⟩ := hp
  rw [hm.1, hm.2]
  exact kk _ _ rfl (hJ.tr hp)
theorem aw_cSNK (X : Cx U K y cc nL ret rm) {As : List Value} {host : String} {z1 : xV} (hJ : JR U μ0 μ sh z) (hM : CtK (kl K) U y' b' maxL ret' rm' As μ sh z1) (hs : XSN y.cls index y' host) (hy : XY y' b' maxL ret' n) (hrm : rm'.frames + 1 ≤ rm.frames ∧ 8 + (maxL + 11) + rm'.locals ≤ rm.locals) (hm : rm'.cells = 0 ∧ rm'.slots = 0) (hf : cells ≤ rm.cells ∧ slots ≤ rm.slots) (hn : As.length = n) (hst : (st.map fun v => v.category).sum ≤ 8) (hdg : decode cc pc = .ok (.invokestatic index, 3)) (kk : ∀ (μ' : xH) (z' : xV), z' = z1 → JR U μ0 μ' sh z' → AW U K nL cells slots Q μ' (pc + 3) ls st) : AW U K nL cells slots Q μ pc ls (As.reverse ++ st) := by
  have hR := X.2.2.2.2.2.2.2.1
  refine aw_cSN X hM hs hy hrm (by rw [hm.1, hm.2, hR]; exact hf) hn hst hdg (fun v μ1 hp => ?_)
  obtain ⟨rfl, hp⟩ := hp
  rw [hm.1, hm.2]
  exact kk _ _ rfl (hJ.tr hp)
theorem aw_if_eq_t (X : Cx U K y cc nL ret rm) {x : Int32} {off : Int} {tgt : Nat} (hdg : decode cc pc = .ok (.ifCond .eq off, 3)) (ht : (pc : Int) + off = (tgt : Int)) (h : x = 0) (kk : AW U K nL cells slots Q μ tgt ls st) : AW U K nL cells slots Q μ pc ls (.int x :: st) := aw_if_eq X hdg ht (fun _ => kk) (fun c => absurd h c)
theorem aw_if_eq_f (X : Cx U K y cc nL ret rm) {x : Int32} {off : Int} {tgt : Nat} (hdg : decode cc pc = .ok (.ifCond .eq off, 3)) (ht : (pc : Int) + off = (tgt : Int)) (h : ¬ (x = 0)) (kk : AW U K nL cells slots Q μ (pc + 3) ls st) : AW U K nL cells slots Q μ pc ls (.int x :: st) := aw_if_eq X hdg ht (fun c => absurd c h) (fun _ => kk)
theorem aw_icmp_eq_t (X : Cx U K y cc nL ret rm) {x w : Int32} {off : Int} {tgt : Nat} (hdg : decode cc pc = .ok (.if_icmp .eq off, 3)) (ht : (pc : Int) + off = (tgt : Int)) (h : x = w) (kk : AW U K nL cells slots Q μ tgt ls st) : AW U K nL cells slots Q μ pc ls (.int w :: .int x :: st) := aw_icmp_eq X hdg ht (fun _ => kk) (fun c => absurd h c)
theorem aw_icmp_eq_f (X : Cx U K y cc nL ret rm) {x w : Int32} {off : Int} {tgt : Nat} (hdg : decode cc pc = .ok (.if_icmp .eq off, 3)) (ht : (pc : Int) + off = (tgt : Int)) (h : ¬ (x = w)) (kk : AW U K nL cells slots Q μ (pc + 3) ls st) : AW U K nL cells slots Q μ pc ls (.int w :: .int x :: st) := aw_icmp_eq X hdg ht (fun c => absurd c h) (fun _ => kk)
theorem aw_if_ne_t (X : Cx U K y cc nL ret rm) {x : Int32} {off : Int} {tgt : Nat} (hdg : decode cc pc = .ok (.ifCond .ne off, 3)) (ht : (pc : Int) + off = (tgt : Int)) (h : ¬ x = 0) (kk : AW U K nL cells slots Q μ tgt ls st) : AW U K nL cells slots Q μ pc ls (.int x :: st) := aw_if_ne X hdg ht (fun _ => kk) (fun c => absurd c h)
theorem aw_if_ne_f (X : Cx U K y cc nL ret rm) {x : Int32} {off : Int} {tgt : Nat} (hdg : decode cc pc = .ok (.ifCond .ne off, 3)) (ht : (pc : Int) + off = (tgt : Int)) (h : x = 0) (kk : AW U K nL cells slots Q μ (pc + 3) ls st) : AW U K nL cells slots Q μ pc ls (.int x :: st) := aw_if_ne X hdg ht (fun c => absurd h c) (fun _ => kk)
theorem aw_icmp_ne_t (X : Cx U K y cc nL ret rm) {x w : Int32} {off : Int} {tgt : Nat} (hdg : decode cc pc = .ok (.if_icmp .ne off, 3)) (ht : (pc : Int) + off = (tgt : Int)) (h : ¬ x = w) (kk : AW U K nL cells slots Q μ tgt ls st) : AW U K nL cells slots Q μ pc ls (.int w :: .int x :: st) := aw_icmp_ne X hdg ht (fun _ => kk) (fun c => absurd c h)
theorem aw_icmp_ne_f (X : Cx U K y cc nL ret rm) {x w : Int32} {off : Int} {tgt : Nat} (hdg : decode cc pc = .ok (.if_icmp .ne off, 3)) (ht : (pc : Int) + off = (tgt : Int)) (h : x = w) (kk : AW U K nL cells slots Q μ (pc + 3) ls st) : AW U K nL cells slots Q μ pc ls (.int w :: .int x :: st) := aw_icmp_ne X hdg ht (fun c => absurd h c) (fun _ => kk)
theorem aw_if_lt_t (X : Cx U K y cc nL ret rm) {x : Int32} {off : Int} {tgt : Nat} (hdg : decode cc pc = .ok (.ifCond .lt off, 3)) (ht : (pc : Int) + off = (tgt : Int)) (h : x < 0) (kk : AW U K nL cells slots Q μ tgt ls st) : AW U K nL cells slots Q μ pc ls (.int x :: st) := aw_if_lt X hdg ht (fun _ => kk) (fun c => absurd h c)
theorem aw_if_lt_f (X : Cx U K y cc nL ret rm) {x : Int32} {off : Int} {tgt : Nat} (hdg : decode cc pc = .ok (.ifCond .lt off, 3)) (ht : (pc : Int) + off = (tgt : Int)) (h : ¬ (x < 0)) (kk : AW U K nL cells slots Q μ (pc + 3) ls st) : AW U K nL cells slots Q μ pc ls (.int x :: st) := aw_if_lt X hdg ht (fun c => absurd c h) (fun _ => kk)
theorem aw_icmp_lt_t (X : Cx U K y cc nL ret rm) {x w : Int32} {off : Int} {tgt : Nat} (hdg : decode cc pc = .ok (.if_icmp .lt off, 3)) (ht : (pc : Int) + off = (tgt : Int)) (h : x < w) (kk : AW U K nL cells slots Q μ tgt ls st) : AW U K nL cells slots Q μ pc ls (.int w :: .int x :: st) := aw_icmp_lt X hdg ht (fun _ => kk) (fun c => absurd h c)
theorem aw_icmp_lt_f (X : Cx U K y cc nL ret rm) {x w : Int32} {off : Int} {tgt : Nat} (hdg : decode cc pc = .ok (.if_icmp .lt off, 3)) (ht : (pc : Int) + off = (tgt : Int)) (h : ¬ (x < w)) (kk : AW U K nL cells slots Q μ (pc + 3) ls st) : AW U K nL cells slots Q μ pc ls (.int w :: .int x :: st) := aw_icmp_lt X hdg ht (fun c => absurd c h) (fun _ => kk)
theorem aw_if_ge_t (X : Cx U K y cc nL ret rm) {x : Int32} {off : Int} {tgt : Nat} (hdg : decode cc pc = .ok (.ifCond .ge off, 3)) (ht : (pc : Int) + off = (tgt : Int)) (h : 0 ≤ x) (kk : AW U K nL cells slots Q μ tgt ls st) : AW U K nL cells slots Q μ pc ls (.int x :: st) := aw_if_ge X hdg ht (fun _ => kk) (fun c => absurd h c)
theorem aw_if_ge_f (X : Cx U K y cc nL ret rm) {x : Int32} {off : Int} {tgt : Nat} (hdg : decode cc pc = .ok (.ifCond .ge off, 3)) (ht : (pc : Int) + off = (tgt : Int)) (h : ¬ (0 ≤ x)) (kk : AW U K nL cells slots Q μ (pc + 3) ls st) : AW U K nL cells slots Q μ pc ls (.int x :: st) := aw_if_ge X hdg ht (fun c => absurd c h) (fun _ => kk)
theorem aw_icmp_ge_t (X : Cx U K y cc nL ret rm) {x w : Int32} {off : Int} {tgt : Nat} (hdg : decode cc pc = .ok (.if_icmp .ge off, 3)) (ht : (pc : Int) + off = (tgt : Int)) (h : w ≤ x) (kk : AW U K nL cells slots Q μ tgt ls st) : AW U K nL cells slots Q μ pc ls (.int w :: .int x :: st) := aw_icmp_ge X hdg ht (fun _ => kk) (fun c => absurd h c)
theorem aw_icmp_ge_f (X : Cx U K y cc nL ret rm) {x w : Int32} {off : Int} {tgt : Nat} (hdg : decode cc pc = .ok (.if_icmp .ge off, 3)) (ht : (pc : Int) + off = (tgt : Int)) (h : ¬ (w ≤ x)) (kk : AW U K nL cells slots Q μ (pc + 3) ls st) : AW U K nL cells slots Q μ pc ls (.int w :: .int x :: st) := aw_icmp_ge X hdg ht (fun c => absurd c h) (fun _ => kk)
theorem aw_if_gt_t (X : Cx U K y cc nL ret rm) {x : Int32} {off : Int} {tgt : Nat} (hdg : decode cc pc = .ok (.ifCond .gt off, 3)) (ht : (pc : Int) + off = (tgt : Int)) (h : 0 < x) (kk : AW U K nL cells slots Q μ tgt ls st) : AW U K nL cells slots Q μ pc ls (.int x :: st) := aw_if_gt X hdg ht (fun _ => kk) (fun c => absurd h c)
theorem aw_if_gt_f (X : Cx U K y cc nL ret rm) {x : Int32} {off : Int} {tgt : Nat} (hdg : decode cc pc = .ok (.ifCond .gt off, 3)) (ht : (pc : Int) + off = (tgt : Int)) (h : ¬ (0 < x)) (kk : AW U K nL cells slots Q μ (pc + 3) ls st) : AW U K nL cells slots Q μ pc ls (.int x :: st) := aw_if_gt X hdg ht (fun c => absurd c h) (fun _ => kk)
theorem aw_icmp_gt_t (X : Cx U K y cc nL ret rm) {x w : Int32} {off : Int} {tgt : Nat} (hdg : decode cc pc = .ok (.if_icmp .gt off, 3)) (ht : (pc : Int) + off = (tgt : Int)) (h : w < x) (kk : AW U K nL cells slots Q μ tgt ls st) : AW U K nL cells slots Q μ pc ls (.int w :: .int x :: st) := aw_icmp_gt X hdg ht (fun _ => kk) (fun c => absurd h c)
theorem aw_icmp_gt_f (X : Cx U K y cc nL ret rm) {x w : Int32} {off : Int} {tgt : Nat} (hdg : decode cc pc = .ok (.if_icmp .gt off, 3)) (ht : (pc : Int) + off = (tgt : Int)) (h : ¬ (w < x)) (kk : AW U K nL cells slots Q μ (pc + 3) ls st) : AW U K nL cells slots Q μ pc ls (.int w :: .int x :: st) := aw_icmp_gt X hdg ht (fun c => absurd c h) (fun _ => kk)
theorem aw_if_le_t (X : Cx U K y cc nL ret rm) {x : Int32} {off : Int} {tgt : Nat} (hdg : decode cc pc = .ok (.ifCond .le off, 3)) (ht : (pc : Int) + off = (tgt : Int)) (h : x ≤ 0) (kk : AW U K nL cells slots Q μ tgt ls st) : AW U K nL cells slots Q μ pc ls (.int x :: st) := aw_if_le X hdg ht (fun _ => kk) (fun c => absurd h c)
theorem aw_if_le_f (X : Cx U K y cc nL ret rm) {x : Int32} {off : Int} {tgt : Nat} (hdg : decode cc pc = .ok (.ifCond .le off, 3)) (ht : (pc : Int) + off = (tgt : Int)) (h : ¬ (x ≤ 0)) (kk : AW U K nL cells slots Q μ (pc + 3) ls st) : AW U K nL cells slots Q μ pc ls (.int x :: st) := aw_if_le X hdg ht (fun c => absurd c h) (fun _ => kk)
theorem aw_icmp_le_t (X : Cx U K y cc nL ret rm) {x w : Int32} {off : Int} {tgt : Nat} (hdg : decode cc pc = .ok (.if_icmp .le off, 3)) (ht : (pc : Int) + off = (tgt : Int)) (h : x ≤ w) (kk : AW U K nL cells slots Q μ tgt ls st) : AW U K nL cells slots Q μ pc ls (.int w :: .int x :: st) := aw_icmp_le X hdg ht (fun _ => kk) (fun c => absurd h c)
theorem aw_icmp_le_f (X : Cx U K y cc nL ret rm) {x w : Int32} {off : Int} {tgt : Nat} (hdg : decode cc pc = .ok (.if_icmp .le off, 3)) (ht : (pc : Int) + off = (tgt : Int)) (h : ¬ (x ≤ w)) (kk : AW U K nL cells slots Q μ (pc + 3) ls st) : AW U K nL cells slots Q μ pc ls (.int w :: .int x :: st) := aw_icmp_le X hdg ht (fun c => absurd c h) (fun _ => kk)
theorem aw_tableV (X : Cx U K y cc nL ret rm) {dflt lo hi : Int} {offs : Array Int} {len : Nat} {x : Int32} {off : Int} {tgt : Nat} (v : Int32) (hx : x = v) (hdg : decode cc pc = .ok (.tableswitch dflt lo hi offs, len)) (hx1 : ¬ v.toInt < lo) (hx2 : ¬ hi < v.toInt) (ho : offs[(v.toInt - lo).toNat]? = some off) (ht : (pc : Int) + off = (tgt : Int)) (k : AW U K nL cells slots Q μ tgt ls st) : AW U K nL cells slots Q μ pc ls (.int x :: st) := by
  subst hx
  exact aw_tableIn X hdg hx1 hx2 ho ht k
theorem xn_le {k N : Nat} {v : Int32} (h : k < N) (hN : N < 2 ^ 31) (e : v = nI N) : ¬ v ≤ nI k := by
  rw [e]
  exact nI_ge h hN
theorem xn_lt {k N : Nat} {v : Int32} (h : k < N) (hN : N < 2 ^ 31) (e : v = nI N) : nI k < v := by
  rw [e]
  exact nI_lt h hN
theorem aw_mu {μ1 : xH} (h : μ = μ1) (k : AW U K nL cells slots Q μ1 pc ls st) : AW U K nL cells slots Q μ pc ls st := h ▸ k
end XJROWS
end
section
/-! what the class's methods answer and do, over a jetty's vector: word for word as the code does it -/
abbrev tn (x : Int32) : Nat := x.toNatClampNeg
def flm (x w : Int32) : Int32 := if 0 ≤ x ^^^ w then x - x / w * w else if x - x / w * w = 0 then x - x / w * w else x - x / w * w + w
def isErr (a : Int32) : Bool := decide (a ≤ -100001) && decide (-100005 ≤ a)
def isS (x : Int32) : Bool := decide (0 ≤ x) && decide (x < 2)
def isL (x : Int32) : Bool := decide (0 ≤ x) && decide (x ≤ 400)
def cTide (z : xV) (h : Int32) : Int32 := z 1 * xsV 3 (tn (flm h 12)) / 10
def cHeight (z : xV) (d h : Int32) : Int32 := 100 + cTide z h - d
def cFloats (z : xV) (d h : Int32) : Bool := decide (d + z 2 ≤ z 0 + cTide z h)
def cUnits (z : xV) (p : Nat) : Int32 := 0 + z (tz p 0) + z (tz p 1) + z (tz p 2) + z (tz p 3)
def cDraught (z : xV) (p : Nat) : Int32 := 40 + cUnits z p / 20
def cOther (z : xV) (i : Nat) : Bool := decide (¬ z (hz i 1) = -100006) && decide (¬ z (hz i 1) = z (hz i 2))
def cIsT (z : xV) (p : Int32) : Int32 := if p = 0 then z 13 else bI (decide (0 < p) && decide (p ≤ z 12) && decide (p < 6))
def cConnN (z : xV) : Int32 := 0 + bI (isG (z (hz 0 2))) + bI (isG (z (hz 1 2))) + bI (isG (z (hz 2 2))) + bI (isG (z (hz 3 2)))
def cBurstN (z : xV) : Int32 := 0 + bI (decide (¬ z (hz 0 3) = 0)) + bI (decide (¬ z (hz 1 3) = 0)) + bI (decide (¬ z (hz 2 3) = 0)) + bI (decide (¬ z (hz 3 3) = 0))
def cSpoilt (z : xV) : Int32 := 0 + z 18 + z 19 + z 20 + z 21
def cLateC (z : xV) (p : Nat) : Bool := decide (¬ cIsT z (nI p) = 0) && decide (z 4 < z 6 - z (tz p 4))
def cLateN (z : xV) : Nat → Int32
  | 0 => 0
  | k + 1 => if cLateC z k = true then cLateN z k + 1 else cLateN z k
def cUIT (z : xV) (g : Nat) : Nat → Int32
  | 0 => 0
  | k + 1 => if cIsT z (nI k) = 0 then cUIT z g k + 0 else cUIT z g k + z (tz k g)
def gSet (z : xV) (s v : Int32) : Int32 × xV :=
  if s < 0 ∨ 6 ≤ s then (-100002, z) else if v < xsV 1 (tn s) ∨ xsV 2 (tn s) < v then (-100002, z) else (z (tn s), upd z (tn s) v)
def gArrive (z : xV) (a b c d : Int32) : Int32 × xV :=
  if isL a = false ∨ isL b = false ∨ isL c = false ∨ isL d = false ∨ a + b + c + d = 0 then (-100002, z)
  else if z 12 < 0 ∨ 5 ≤ z 12 then (-100004, z)
  else
    let z1 := upd z 12 (z 12 + 1)
    let p := tn (0 + z1 12)
    let z2 := upd z1 (tz p 0) a
    let z3 := upd z2 (tz p 1) b
    let z4 := upd z3 (tz p 2) c
    let z5 := upd z4 (tz p 3) d
    let z6 := upd z5 (tz p 4) (z5 6)
    (z6 12, z6)
/-- the tankers move up by one; the first place comes last -/
def gRot (z : xV) : xV := fun k => if 50 ≤ k ∧ k < 75 then z (k + 5) else if 75 ≤ k ∧ k < 80 then z (k - 25) else z k
def gBerth (z : xV) : Int32 × xV :=
  if z 12 = 0 ∨ ¬ z 13 = 0 ∨ cFloats z (cDraught z 1) (z 6) = false then (-100005, z)
  else
    let z1 := gRot z
    let z2 := upd z1 12 (z1 12 - 1)
    let z3 := upd z2 13 1
    (cUnits z3 0, z3)
def gLeave (z : xV) : Int32 × xV :=
  if z 13 = 0 ∨ cFloats z (cDraught z 0) (z 6) = false ∨ 0 < cConnN z then (-100005, z)
  else
    let z1 := upd z 13 0
    (cUnits z1 0, z1)
def gReach (z : xV) (h v : Int32) : Int32 × xV :=
  if isG h = false then (-100001, z) else if v < 20 ∨ 120 < v then (-100002, z) else (z (hz (tn h) 0), upd z (hz (tn h) 0) v)
def gConnect (z : xV) (h g : Int32) : Int32 × xV :=
  if isG h = false ∨ isG g = false then (-100001, z)
  else if z 13 = 0 ∨ ¬ z (hz (tn h) 3) = 0 ∨ isG (z (hz (tn h) 2)) = true then (-100005, z)
  else if z (hz (tn h) 0) < cHeight z (cDraught z 0) (z 6) then (-100005, z)
  else
    let z1 := upd z (hz (tn h) 2) g
    (cConnN z1, z1)
def gDisconnect (z : xV) (h : Int32) : Int32 × xV :=
  if isG h = false then (-100001, z) else if isG (z (hz (tn h) 2)) = false then (-100005, z) else (z (hz (tn h) 2), upd z (hz (tn h) 2) (-100006))
def gFlush (z : xV) (h : Int32) : Int32 × xV :=
  if isG h = false then (-100001, z)
  else
    let g := z (hz (tn h) 1)
    if isG (z (hz (tn h) 2)) = true ∨ isG g = false then (-100005, z)
    else
      let u := imin 5 (z (14 + tn g))
      let z1 := upd z (14 + tn g) (z (14 + tn g) - u)
      let z2 := upd z1 (18 + tn g) (z1 (18 + tn g) + u)
      let z3 := upd z2 (hz (tn h) 1) (-100006)
      (u, z3)
def gMend (z : xV) (h : Int32) : Int32 × xV :=
  if isG h = false then (-100001, z) else if z (hz (tn h) 3) = 0 then (-100005, z)
  else
    let z1 := upd z (hz (tn h) 3) 0
    let z2 := upd z1 (hz (tn h) 1) (-100006)
    (cBurstN z2, z2)
def gBoom (z : xV) (b : Int32) : Int32 × xV :=
  if z 7 = b then (-100005, z)
  else
    let u := z 8
    let z1 := upd z 7 b
    let z2 := upd z1 10 (z1 10 + u)
    let z3 := upd z2 8 0
    (u, z3)
def gDraw (z : xV) (g u : Int32) : Int32 × xV :=
  if isG g = false then (-100001, z) else if u < 1 ∨ 1000 < u then (-100002, z) else if z (14 + tn g) < u then (-100005, z)
  else
    let z1 := upd z (14 + tn g) (z (14 + tn g) - u)
    (z1 (14 + tn g), z1)
/-! an hour -/
def gTear (z : xV) : xV :=
  if z 7 = 0 ∨ iabs (cTide z (z 6) - cTide z (z 6 - 1)) ≤ 15 then z
  else
    let z1 := upd z 7 0
    let z2 := upd z1 9 (z1 9 + z1 8)
    upd z2 8 0
def gBurst (z : xV) (i : Nat) : xV :=
  let g := z (hz i 2)
  let z1 := upd z (hz i 3) 1
  let z2 := upd z1 (hz i 2) (-100006)
  if isG g = false then z2
  else
    let u := imin (z2 3) (z2 (tz 0 (tn g)))
    let ib := if z2 7 = 0 then 0 else imin u (200 - z2 8)
    let z3 := upd z2 (tz 0 (tn g)) (z2 (tz 0 (tn g)) - u)
    let z4 := upd z3 (22 + tn g) (z3 (22 + tn g) + u)
    let z5 := upd z4 8 (z4 8 + ib)
    upd z5 9 (z5 9 + (u - ib))
def gShort (z : xV) (i : Nat) : xV :=
  if isG (z (hz i 2)) = false ∨ cHeight z (cDraught z 0) (z 6) ≤ z (hz i 0) then z
  else if z (80 + i) = 0 then gBurst z i
  else upd z (hz i 0) (cHeight z (cDraught z 0) (z 6))
def gShorts (z : xV) : Nat → xV
  | 0 => z
  | k + 1 => gShort (gShorts z k) k
def gBursts (z : xV) : xV := if z 13 = 0 then z else gShorts z 4
def gMove (z : xV) (i : Nat) : Int32 × xV :=
  let g := z (hz i 2)
  if isG g = false then (0, z)
  else
    let u := imin (z 3) (imin (z (tz 0 (tn g))) (1000 - z (14 + tn g)))
    if ¬ 0 < u then (0, z)
    else
      let z1 := upd z (tz 0 (tn g)) (z (tz 0 (tn g)) - u)
      let z2 := upd z1 (hz i 1) g
      if cOther z i = true then
        let z3 := upd z2 (18 + tn g) (z2 (18 + tn g) + u)
        (0, upd z3 (hz i 5) (z3 (hz i 5) + u))
      else
        let z3 := upd z2 (14 + tn g) (z2 (14 + tn g) + u)
        (u, upd z3 (hz i 4) (z3 (hz i 4) + u))
def gMoves (z : xV) : Nat → Int32 × xV
  | 0 => (0, z)
  | k + 1 => ((gMoves z k).1 + (gMove (gMoves z k).2 k).1, (gMove (gMoves z k).2 k).2)
def gMoveU (z : xV) : Int32 × xV :=
  if z 13 = 0 ∨ z 7 = 0 ∨ cFloats z (cDraught z 0) (z 6) = false then (0, z) else gMoves z 4
def gHour (z : xV) : Int32 × xV :=
  let z1 := upd z 6 (z 6 + 1)
  let z2 := gTear z1
  let z3 := gBursts z2
  let q := gMoveU z3
  (q.1, upd q.2 11 (q.2 11 + cLateN q.2 6 * q.2 5))
def gHours (z : xV) : Nat → Int32 × xV
  | 0 => (0, z)
  | k + 1 => ((gHours z k).1 + (gHour (gHours z k).2).1, (gHour (gHours z k).2).2)
def gPass (z : xV) (n : Int32) : Int32 × xV :=
  if n < 1 ∨ 48 < n then (-100002, z) else if 9999 < z 6 + n then (-100004, z) else gHours z (tn n)
/-! what there is -/
def cTanker (z : xV) (p w : Int32) : Int32 :=
  if w < 0 ∨ 7 < w then -100002 else if cIsT z p = 0 then -100001
  else if w = 4 then cDraught z (tn p) else if w = 5 then cHeight z (cDraught z (tn p)) (z 6)
  else if w = 6 then bI (cFloats z (cDraught z (tn p)) (z 6)) else if w = 7 then z 6 - z (tz (tn p) 4) else z (tz (tn p) (tn w))
def cHose (z : xV) (h w : Int32) : Int32 :=
  if isG h = false then -100001
  else if w = 0 then z (hz (tn h) 0) else if w = 1 then z (hz (tn h) 1) else if w = 2 then z (hz (tn h) 2)
  else if w = 3 then bI (decide (¬ z (hz (tn h) 3) = 0)) else if w = 4 then z (hz (tn h) 4) else if w = 5 then z (hz (tn h) 5) else -100002
def cGrade (z : xV) (g w : Int32) : Int32 :=
  if isG g = false then -100001
  else if w = 0 then z (14 + tn g) else if w = 1 then cUIT z (tn g) 6 else if w = 2 then z (18 + tn g) else if w = 3 then z (22 + tn g) else -100002
def cNumber (z : xV) (w : Int32) : Int32 :=
  if 0 ≤ w ∧ w < 6 then z (tn w)
  else if w = 6 then z 6 else if w = 7 then cTide z (z 6) else if w = 8 then z 0 + cTide z (z 6) else if w = 9 then z 12
  else if w = 10 then bI (decide (¬ z 13 = 0)) else if w = 11 then cConnN z else if w = 12 then cBurstN z else if w = 13 then bI (decide (¬ z 7 = 0))
  else if w = 14 then z 8 else if w = 15 then z 9 else if w = 16 then z 10 else if w = 17 then z 11 else -100002
end
section
theorem xsgn (x : Int32) : 0 ≤ x ^^^ 12 ↔ 0 ≤ x := by
  have h : ∀ y : Int32, 0 ≤ y ↔ y.toBitVec.msb = false := by
    intro y
    rw [Int32.le_iff_toInt_le, BitVec.msb_eq_toInt, decide_eq_false_iff_not, Int.not_lt]
    rfl
  rw [h, h, Int32.toBitVec_xor, BitVec.msb_xor]
  have e : (12 : Int32).toBitVec.msb = false := by decide
  rw [e, Bool.xor_false]
theorem flm_eq (x : Int32) : flm x 12 = fmv x 12 := by
  have hr : (x - x / 12 * 12).toInt = x.toInt.tmod 12 := rem_toInt x 12
  have key : ∀ r : Int32, (0 ≤ x → 0 ≤ r) → (¬ 0 ≤ x → ¬ 0 < r) → (if 0 ≤ x ^^^ 12 then r else if r = 0 then r else r + 12) = fmOf r 12 := by
    intro r h1 h2
    by_cases h : 0 ≤ x
    · rw [if_pos ((xsgn x).mpr h), fmOf, if_pos (h1 h)]
    · rw [if_neg (fun q => h ((xsgn x).mp q))]
      by_cases h0 : r = 0
      · rw [if_pos h0, fmOf, h0]; rfl
      · rw [if_neg h0, fmOf, if_neg (fun q => h0 ?_)]
        have g := Int32.not_lt.mp (h2 h)
        exact Int32.le_antisymm g q
  refine key _ (fun h => ?_) (fun h => ?_)
  · rw [Int32.le_iff_toInt_le, hr]
    have h : 0 ≤ x.toInt := by rw [Int32.le_iff_toInt_le] at h; exact h
    exact Int.tmod_nonneg 12 h
  · rw [Int32.lt_iff_toInt_lt, hr]
    have h : x.toInt < 0 := by rw [Int32.le_iff_toInt_le] at h; exact Int.not_le.mp h
    have h2 : x.toInt.tmod 12 = -((-x.toInt).tmod 12) := by rw [Int.neg_tmod, Int.neg_neg]
    have h3 : 0 ≤ (-x.toInt).tmod 12 := Int.tmod_nonneg 12 (by omega)
    rw [h2]
    show ¬ ((0 : Int) < _)
    omega
theorem flm_in (x : Int32) : vp_in (flm x 12) 12 := by
  rw [flm_eq, vp_in_iff]
  exact fmv_bounds (m := 12) (by decide)
theorem xin_d {i : Int32} {n : Nat} (h : (decide (i < 0) || decide (n ≤ i.toNatClampNeg)) = false) : vp_in i n := by
  simp only [Bool.or_eq_false_iff, decide_eq_false_iff_not] at h
  exact fun q => q.elim h.1 h.2
set_option maxHeartbeats 4000000 in
set_option maxRecDepth 100000 in
theorem c_J9_floorMod_7cf53 (l : Launch) (U : xU) (μ : xH) (a b : Int32) (hb : ¬ b = 0) : CtF l U yJ9_floorMod_7cf53 cJ9_floorMod_7cf53 3 (some .int) ({ frames := 0, cells := 0, slots := 0, locals := 0 } : Room) [.int a, .int b] μ (flm a b) := by
  refine Ct.of [some (.int a), some (.int b), none] (by decide +kernel) rfl (Nat.le_of_ble_eq_true rfl) (fun K Q X hnm hQ => ?_)
  refine aw_iload_n X dJ9_floorMod_7cf53_0 rfl ?_
  refine aw_iload_n X dJ9_floorMod_7cf53_1 rfl ?_
  refine aw_irem X dJ9_floorMod_7cf53_2 hb ?_
  refine aw_istore_n X dJ9_floorMod_7cf53_3 rfl (by decide) ?_
  refine aw_iload_n X dJ9_floorMod_7cf53_4 rfl ?_
  refine aw_iload_n X dJ9_floorMod_7cf53_5 rfl ?_
  refine aw_ixor X dJ9_floorMod_7cf53_6 ?_
  refine aw_if_ge (tgt := 18) X dJ9_floorMod_7cf53_7 (by decide) (fun c7_1 => ?_) (fun c7_1 => ?_)
  · skip
    refine aw_iload_n X dJ9_floorMod_7cf53_18 rfl ?_
    exact aw_iret X hQ dJ9_floorMod_7cf53_19 ⟨congrArg (fun q => some (Value.int q)) (by simp [flm, c7_1, Int32.not_lt.mpr c7_1]), rfl⟩
  · skip
    refine aw_iload_n X dJ9_floorMod_7cf53_10 rfl ?_
    refine aw_if_eq (tgt := 18) X dJ9_floorMod_7cf53_11 (by decide) (fun c11_2 => ?_) (fun c11_2 => ?_)
    · skip
      refine aw_iload_n X dJ9_floorMod_7cf53_18 rfl ?_
      exact aw_iret X hQ dJ9_floorMod_7cf53_19 ⟨congrArg (fun q => some (Value.int q)) (by simp [flm, c7_1, Int32.not_le.mp c7_1, c11_2]), rfl⟩
    · skip
      refine aw_iload_n X dJ9_floorMod_7cf53_14 rfl ?_
      refine aw_iload_n X dJ9_floorMod_7cf53_15 rfl ?_
      refine aw_iadd X dJ9_floorMod_7cf53_16 ?_
      exact aw_iret X hQ dJ9_floorMod_7cf53_17 ⟨congrArg (fun q => some (Value.int q)) (by simp [flm, c7_1, Int32.not_le.mp c7_1, c11_2]), rfl⟩

set_option maxHeartbeats 4000000 in
set_option maxRecDepth 100000 in
theorem c_X4_isHose (l : Launch) (U : xU) (μ : xH) (a : Int32) : CtF l U yX4_isHose cX4_isHose 1 (some .boolean) ({ frames := 0, cells := 0, slots := 0, locals := 0 } : Room) [.int a] μ (bI (isG a)) := by
  refine Ct.of [some (.int a)] (by decide +kernel) rfl (Nat.le_of_ble_eq_true rfl) (fun K Q X hnm hQ => ?_)
  refine aw_iload_n X dX4_isHose_0 rfl ?_
  refine aw_if_lt (tgt := 13) X dX4_isHose_1 (by decide) (fun c1_1 => ?_) (fun c1_1 => ?_)
  · skip
    refine aw_iconst X (0) dX4_isHose_13 rfl ?_
    exact aw_zret X rfl hQ dX4_isHose_14 ⟨congrArg (fun q => some (Value.int q)) (by simp [isG, bI, c1_1, Int32.not_le.mpr c1_1]), rfl⟩
  · skip
    refine aw_iload_n X dX4_isHose_4 rfl ?_
    refine aw_iconst X (4) dX4_isHose_5 rfl ?_
    refine aw_icmp_ge (tgt := 13) X dX4_isHose_6 (by decide) (fun c6_2 => ?_) (fun c6_2 => ?_)
    · skip
      refine aw_iconst X (0) dX4_isHose_13 rfl ?_
      exact aw_zret X rfl hQ dX4_isHose_14 ⟨congrArg (fun q => some (Value.int q)) (by simp [isG, bI, c1_1, Int32.not_lt.mp c1_1, c6_2, Int32.not_lt.mpr c6_2]), rfl⟩
    · skip
      refine aw_iconst X (1) dX4_isHose_9 rfl ?_
      refine aw_goto (tgt := 14) X dX4_isHose_10 (by decide) ?_
      exact aw_zret X rfl hQ dX4_isHose_14 ⟨congrArg (fun q => some (Value.int q)) (by simp [isG, bI, c1_1, Int32.not_lt.mp c1_1, c6_2, Int32.not_le.mp c6_2]), rfl⟩

set_option maxHeartbeats 4000000 in
set_option maxRecDepth 100000 in
theorem c_X4_isGrade (l : Launch) (U : xU) (μ : xH) (a : Int32) : CtF l U yX4_isGrade cX4_isGrade 1 (some .boolean) ({ frames := 0, cells := 0, slots := 0, locals := 0 } : Room) [.int a] μ (bI (isG a)) := by
  refine Ct.of [some (.int a)] (by decide +kernel) rfl (Nat.le_of_ble_eq_true rfl) (fun K Q X hnm hQ => ?_)
  refine aw_iload_n X dX4_isGrade_0 rfl ?_
  refine aw_if_lt (tgt := 13) X dX4_isGrade_1 (by decide) (fun c1_1 => ?_) (fun c1_1 => ?_)
  · skip
    refine aw_iconst X (0) dX4_isGrade_13 rfl ?_
    exact aw_zret X rfl hQ dX4_isGrade_14 ⟨congrArg (fun q => some (Value.int q)) (by simp [isG, bI, c1_1, Int32.not_le.mpr c1_1]), rfl⟩
  · skip
    refine aw_iload_n X dX4_isGrade_4 rfl ?_
    refine aw_iconst X (4) dX4_isGrade_5 rfl ?_
    refine aw_icmp_ge (tgt := 13) X dX4_isGrade_6 (by decide) (fun c6_2 => ?_) (fun c6_2 => ?_)
    · skip
      refine aw_iconst X (0) dX4_isGrade_13 rfl ?_
      exact aw_zret X rfl hQ dX4_isGrade_14 ⟨congrArg (fun q => some (Value.int q)) (by simp [isG, bI, c1_1, Int32.not_lt.mp c1_1, c6_2, Int32.not_lt.mpr c6_2]), rfl⟩
    · skip
      refine aw_iconst X (1) dX4_isGrade_9 rfl ?_
      refine aw_goto (tgt := 14) X dX4_isGrade_10 (by decide) ?_
      exact aw_zret X rfl hQ dX4_isGrade_14 ⟨congrArg (fun q => some (Value.int q)) (by simp [isG, bI, c1_1, Int32.not_lt.mp c1_1, c6_2, Int32.not_le.mp c6_2]), rfl⟩

set_option maxHeartbeats 4000000 in
set_option maxRecDepth 100000 in
theorem c_X4_isSlot (l : Launch) (U : xU) (μ : xH) (a : Int32) : CtF l U yX4_isSlot cX4_isSlot 1 (some .boolean) ({ frames := 0, cells := 0, slots := 0, locals := 0 } : Room) [.int a] μ (bI (isS a)) := by
  refine Ct.of [some (.int a)] (by decide +kernel) rfl (Nat.le_of_ble_eq_true rfl) (fun K Q X hnm hQ => ?_)
  refine aw_iload_n X dX4_isSlot_0 rfl ?_
  refine aw_if_lt (tgt := 13) X dX4_isSlot_1 (by decide) (fun c1_1 => ?_) (fun c1_1 => ?_)
  · skip
    refine aw_iconst X (0) dX4_isSlot_13 rfl ?_
    exact aw_zret X rfl hQ dX4_isSlot_14 ⟨congrArg (fun q => some (Value.int q)) (by simp [isS, bI, c1_1, Int32.not_le.mpr c1_1]), rfl⟩
  · skip
    refine aw_iload_n X dX4_isSlot_4 rfl ?_
    refine aw_iconst X (2) dX4_isSlot_5 rfl ?_
    refine aw_icmp_ge (tgt := 13) X dX4_isSlot_6 (by decide) (fun c6_2 => ?_) (fun c6_2 => ?_)
    · skip
      refine aw_iconst X (0) dX4_isSlot_13 rfl ?_
      exact aw_zret X rfl hQ dX4_isSlot_14 ⟨congrArg (fun q => some (Value.int q)) (by simp [isS, bI, c1_1, Int32.not_lt.mp c1_1, c6_2, Int32.not_lt.mpr c6_2]), rfl⟩
    · skip
      refine aw_iconst X (1) dX4_isSlot_9 rfl ?_
      refine aw_goto (tgt := 14) X dX4_isSlot_10 (by decide) ?_
      exact aw_zret X rfl hQ dX4_isSlot_14 ⟨congrArg (fun q => some (Value.int q)) (by simp [isS, bI, c1_1, Int32.not_lt.mp c1_1, c6_2, Int32.not_le.mp c6_2]), rfl⟩

set_option maxHeartbeats 4000000 in
set_option maxRecDepth 100000 in
theorem c_X4_isError (l : Launch) (U : xU) (μ : xH) (a : Int32) : CtF l U yX4_isError cX4_isError 1 (some .boolean) ({ frames := 0, cells := 0, slots := 0, locals := 0 } : Room) [.int a] μ (bI (isErr a)) := by
  refine Ct.of [some (.int a)] (by decide +kernel) rfl (Nat.le_of_ble_eq_true rfl) (fun K Q X hnm hQ => ?_)
  refine aw_iload_n X dX4_isError_0 rfl ?_
  refine aw_ldc X dX4_isError_1 a_X4_152 ?_
  refine aw_icmp_gt (tgt := 16) X dX4_isError_3 (by decide) (fun c3_1 => ?_) (fun c3_1 => ?_)
  · skip
    refine aw_iconst X (0) dX4_isError_16 rfl ?_
    exact aw_zret X rfl hQ dX4_isError_17 ⟨congrArg (fun q => some (Value.int q)) (by simp [isErr, bI, c3_1, Int32.not_le.mpr c3_1]), rfl⟩
  · skip
    refine aw_iload_n X dX4_isError_6 rfl ?_
    refine aw_ldc X dX4_isError_7 a_X4_132 ?_
    refine aw_icmp_lt (tgt := 16) X dX4_isError_9 (by decide) (fun c9_2 => ?_) (fun c9_2 => ?_)
    · skip
      refine aw_iconst X (0) dX4_isError_16 rfl ?_
      exact aw_zret X rfl hQ dX4_isError_17 ⟨congrArg (fun q => some (Value.int q)) (by simp [isErr, bI, c3_1, Int32.not_lt.mp c3_1, c9_2, Int32.not_le.mpr c9_2]), rfl⟩
    · skip
      refine aw_iconst X (1) dX4_isError_12 rfl ?_
      refine aw_goto (tgt := 17) X dX4_isError_13 (by decide) ?_
      exact aw_zret X rfl hQ dX4_isError_17 ⟨congrArg (fun q => some (Value.int q)) (by simp [isErr, bI, c3_1, Int32.not_lt.mp c3_1, c9_2, Int32.not_lt.mp c9_2]), rfl⟩

set_option maxHeartbeats 4000000 in
set_option maxRecDepth 100000 in
theorem c_X1_isLoad (l : Launch) (U : xU) (μ : xH) (a : Int32) : CtF l U yX1_isLoad cX1_isLoad 1 (some .boolean) ({ frames := 0, cells := 0, slots := 0, locals := 0 } : Room) [.int a] μ (bI (isL a)) := by
  refine Ct.of [some (.int a)] (by decide +kernel) rfl (Nat.le_of_ble_eq_true rfl) (fun K Q X hnm hQ => ?_)
  refine aw_iload_n X dX1_isLoad_0 rfl ?_
  refine aw_if_lt (tgt := 15) X dX1_isLoad_1 (by decide) (fun c1_1 => ?_) (fun c1_1 => ?_)
  · skip
    refine aw_iconst X (0) dX1_isLoad_15 rfl ?_
    exact aw_zret X rfl hQ dX1_isLoad_16 ⟨congrArg (fun q => some (Value.int q)) (by simp [isL, bI, c1_1, Int32.not_le.mpr c1_1]), rfl⟩
  · skip
    refine aw_iload_n X dX1_isLoad_4 rfl ?_
    refine aw_sipush X (400) dX1_isLoad_5 rfl ?_
    refine aw_icmp_gt (tgt := 15) X dX1_isLoad_8 (by decide) (fun c8_2 => ?_) (fun c8_2 => ?_)
    · skip
      refine aw_iconst X (0) dX1_isLoad_15 rfl ?_
      exact aw_zret X rfl hQ dX1_isLoad_16 ⟨congrArg (fun q => some (Value.int q)) (by simp [isL, bI, c1_1, Int32.not_lt.mp c1_1, c8_2, Int32.not_le.mpr c8_2]), rfl⟩
    · skip
      refine aw_iconst X (1) dX1_isLoad_11 rfl ?_
      refine aw_goto (tgt := 16) X dX1_isLoad_12 (by decide) ?_
      exact aw_zret X rfl hQ dX1_isLoad_16 ⟨congrArg (fun q => some (Value.int q)) (by simp [isL, bI, c1_1, Int32.not_lt.mp c1_1, c8_2, Int32.not_lt.mp c8_2]), rfl⟩

set_option maxHeartbeats 4000000 in
set_option maxRecDepth 100000 in
theorem c_X1_tideAt (l : Launch) (U : xU) (μ0 : xH) (sh : Nat → Nat) (z : xV) (hJ0 : JRep U μ0 sh z) (h : Int32) : CtF l U yX1_tideAt cX1_tideAt 2 (some .int) ({ frames := 1, cells := 0, slots := 0, locals := 22 } : Room) [.ref (sh 0), .int h] μ0 (cTide z h) := by
  refine Ct.of [some (.ref (sh 0)), some (.int h)] (by decide +kernel) rfl (Nat.le_of_ble_eq_true rfl) (fun K Q X hnm hQ => ?_)
  have hJ := JR.rf hJ0
  refine aw_aload_n X dX1_tideAt_0 rfl ?_
  refine aw_jget X hJ f_X1_18 rfl dX1_tideAt_1 ?_
  refine aw_iconst X (1) dX1_tideAt_4 rfl ?_
  refine aw_jald X hJ 0 (by decide) 1 (xin_d rfl) (by decide) dX1_tideAt_5 ?_
  refine aw_gets X (t := 3) (by decide) (by decide +kernel) dX1_tideAt_6 ?_
  refine aw_iload_n X dX1_tideAt_9 rfl ?_
  refine aw_bipush X (12) dX1_tideAt_10 rfl ?_
  refine aw_cSF (As := [.int _, .int _]) X (c_J9_floorMod_7cf53 (kl K) U _ _ _ (by decide)) s_X1_88 k_J9_floorMod_7cf53 (by decide) ⟨rfl, rfl⟩ ⟨Nat.zero_le _, Nat.zero_le _⟩ rfl (by exact Nat.le_of_ble_eq_true rfl) dX1_tideAt_12 ?_
  refine aw_tab X (t := 3) (by decide) (flm_in _) dX1_tideAt_15 ?_
  refine aw_imul X dX1_tideAt_16 ?_
  refine aw_bipush X (10) dX1_tideAt_17 rfl ?_
  refine aw_idiv X dX1_tideAt_19 (by decide) ?_
  exact aw_iret X hQ dX1_tideAt_20 ⟨rfl, rfl⟩

set_option maxHeartbeats 4000000 in
set_option maxRecDepth 100000 in
theorem c_X1_heightAt (l : Launch) (U : xU) (μ0 : xH) (sh : Nat → Nat) (z : xV) (hJ0 : JRep U μ0 sh z) (d h : Int32) : CtF l U yX1_heightAt cX1_heightAt 3 (some .int) ({ frames := 2, cells := 0, slots := 0, locals := 43 } : Room) [.ref (sh 0), .int d, .int h] μ0 (cHeight z d h) := by
  refine Ct.of [some (.ref (sh 0)), some (.int d), some (.int h)] (by decide +kernel) rfl (Nat.le_of_ble_eq_true rfl) (fun K Q X hnm hQ => ?_)
  have hJ := JR.rf hJ0
  refine aw_bipush X (100) dX1_heightAt_0 rfl ?_
  refine aw_aload_n X dX1_heightAt_2 rfl ?_
  refine aw_iload_n X dX1_heightAt_3 rfl ?_
  refine aw_cVF (As := [.int _]) X (c_X1_tideAt (kl K) U _ sh _ hJ.1 _) s_X1_94 k_X1_tideAt (by decide) ⟨rfl, rfl⟩ ⟨Nat.zero_le _, Nat.zero_le _⟩ rfl (by exact Nat.le_of_ble_eq_true rfl) hJ.g0 rfl dX1_heightAt_4 ?_
  refine aw_iadd X dX1_heightAt_7 ?_
  refine aw_iload_n X dX1_heightAt_8 rfl ?_
  refine aw_isub X dX1_heightAt_9 ?_
  exact aw_iret X hQ dX1_heightAt_10 ⟨rfl, rfl⟩

set_option maxHeartbeats 4000000 in
set_option maxRecDepth 100000 in
theorem c_X1_floatsAt (l : Launch) (U : xU) (μ0 : xH) (sh : Nat → Nat) (z : xV) (hJ0 : JRep U μ0 sh z) (d h : Int32) : CtF l U yX1_floatsAt cX1_floatsAt 3 (some .boolean) ({ frames := 2, cells := 0, slots := 0, locals := 43 } : Room) [.ref (sh 0), .int d, .int h] μ0 (bI (cFloats z d h)) := by
  refine Ct.of [some (.ref (sh 0)), some (.int d), some (.int h)] (by decide +kernel) rfl (Nat.le_of_ble_eq_true rfl) (fun K Q X hnm hQ => ?_)
  have hJ := JR.rf hJ0
  refine aw_aload_n X dX1_floatsAt_0 rfl ?_
  refine aw_jget X hJ f_X1_18 rfl dX1_floatsAt_1 ?_
  refine aw_iconst X (0) dX1_floatsAt_4 rfl ?_
  refine aw_jald X hJ 0 (by decide) 0 (xin_d rfl) (by decide) dX1_floatsAt_5 ?_
  refine aw_aload_n X dX1_floatsAt_6 rfl ?_
  refine aw_iload_n X dX1_floatsAt_7 rfl ?_
  refine aw_cVF (As := [.int _]) X (c_X1_tideAt (kl K) U _ sh _ hJ.1 _) s_X1_94 k_X1_tideAt (by decide) ⟨rfl, rfl⟩ ⟨Nat.zero_le _, Nat.zero_le _⟩ rfl (by exact Nat.le_of_ble_eq_true rfl) hJ.g0 rfl dX1_floatsAt_8 ?_
  refine aw_iadd X dX1_floatsAt_11 ?_
  refine aw_iload_n X dX1_floatsAt_12 rfl ?_
  refine aw_aload_n X dX1_floatsAt_13 rfl ?_
  refine aw_jget X hJ f_X1_18 rfl dX1_floatsAt_14 ?_
  refine aw_iconst X (2) dX1_floatsAt_17 rfl ?_
  refine aw_jald X hJ 0 (by decide) 2 (xin_d rfl) (by decide) dX1_floatsAt_18 ?_
  refine aw_iadd X dX1_floatsAt_19 ?_
  refine aw_icmp_lt (tgt := 27) X dX1_floatsAt_20 (by decide) (fun c20_1 => ?_) (fun c20_1 => ?_)
  · skip
    refine aw_iconst X (0) dX1_floatsAt_27 rfl ?_
    exact aw_zret X rfl hQ dX1_floatsAt_28 ⟨congrArg (fun q => some (Value.int q)) (by simp [cFloats, bI, c20_1, Int32.not_le.mpr c20_1]), rfl⟩
  · skip
    refine aw_iconst X (1) dX1_floatsAt_23 rfl ?_
    refine aw_goto (tgt := 28) X dX1_floatsAt_24 (by decide) ?_
    exact aw_zret X rfl hQ dX1_floatsAt_28 ⟨congrArg (fun q => some (Value.int q)) (by simp [cFloats, bI, c20_1, Int32.not_lt.mp c20_1]), rfl⟩

set_option maxHeartbeats 4000000 in
set_option maxRecDepth 100000 in
theorem c_X1_isTankerAt (l : Launch) (U : xU) (μ0 : xH) (sh : Nat → Nat) (z : xV) (hJ0 : JRep U μ0 sh z) (p : Int32) : CtF l U yX1_isTankerAt cX1_isTankerAt 2 (some .boolean) ({ frames := 0, cells := 0, slots := 0, locals := 0 } : Room) [.ref (sh 0), .int p] μ0 (cIsT z p) := by
  refine Ct.of [some (.ref (sh 0)), some (.int p)] (by decide +kernel) rfl (Nat.le_of_ble_eq_true rfl) (fun K Q X hnm hQ => ?_)
  have hJ := JR.rf hJ0
  refine aw_iload_n X dX1_isTankerAt_0 rfl ?_
  refine aw_if_ne (tgt := 11) X dX1_isTankerAt_1 (by decide) (fun c1_1 => ?_) (fun c1_1 => ?_)
  · skip
    refine aw_iload_n X dX1_isTankerAt_11 rfl ?_
    refine aw_if_le (tgt := 36) X dX1_isTankerAt_12 (by decide) (fun c12_2 => ?_) (fun c12_2 => ?_)
    · skip
      refine aw_iconst X (0) dX1_isTankerAt_36 rfl ?_
      exact aw_zret X rfl hQ dX1_isTankerAt_37 ⟨congrArg (fun q => some (Value.int q)) (by simp [cIsT, bI, c1_1, c12_2, Int32.not_lt.mpr c12_2]), rfl⟩
    · skip
      refine aw_iload_n X dX1_isTankerAt_15 rfl ?_
      refine aw_aload_n X dX1_isTankerAt_16 rfl ?_
      refine aw_jget X hJ f_X1_48 rfl dX1_isTankerAt_17 ?_
      refine aw_icmp_gt (tgt := 36) X dX1_isTankerAt_20 (by decide) (fun c20_3 => ?_) (fun c20_3 => ?_)
      · skip
        refine aw_iconst X (0) dX1_isTankerAt_36 rfl ?_
        exact aw_zret X rfl hQ dX1_isTankerAt_37 ⟨congrArg (fun q => some (Value.int q)) (by simp [cIsT, bI, c1_1, c12_2, Int32.not_le.mp c12_2, c20_3, Int32.not_le.mpr c20_3]), rfl⟩
      · skip
        refine aw_iload_n X dX1_isTankerAt_23 rfl ?_
        refine aw_aload_n X dX1_isTankerAt_24 rfl ?_
        refine aw_jget X hJ f_X1_40 rfl dX1_isTankerAt_25 ?_
        refine aw_tlen X hJ dX1_isTankerAt_28 ?_
        refine aw_icmp_ge (tgt := 36) X dX1_isTankerAt_29 (by decide) (fun c29_4 => ?_) (fun c29_4 => ?_)
        · skip
          refine aw_iconst X (0) dX1_isTankerAt_36 rfl ?_
          exact aw_zret X rfl hQ dX1_isTankerAt_37 ⟨congrArg (fun q => some (Value.int q)) (by simp [cIsT, bI, c1_1, c12_2, Int32.not_le.mp c12_2, c20_3, Int32.not_lt.mp c20_3, c29_4, Int32.not_lt.mpr c29_4]), rfl⟩
        · skip
          refine aw_iconst X (1) dX1_isTankerAt_32 rfl ?_
          refine aw_goto (tgt := 37) X dX1_isTankerAt_33 (by decide) ?_
          exact aw_zret X rfl hQ dX1_isTankerAt_37 ⟨congrArg (fun q => some (Value.int q)) (by simp [cIsT, bI, c1_1, c12_2, Int32.not_le.mp c12_2, c20_3, Int32.not_lt.mp c20_3, c29_4, Int32.not_le.mp c29_4]), rfl⟩
  · skip
    refine aw_aload_n X dX1_isTankerAt_4 rfl ?_
    refine aw_jget X hJ f_X1_44 rfl dX1_isTankerAt_5 ?_
    refine aw_goto (tgt := 37) X dX1_isTankerAt_8 (by decide) ?_
    exact aw_zret X (xfit_z hJ.1.2.1.1).1 hQ dX1_isTankerAt_37 ⟨congrArg (fun q => some (Value.int q)) (by simp [cIsT, bI, c1_1]), rfl⟩

set_option maxHeartbeats 4000000 in
set_option maxRecDepth 100000 in
theorem c_X3_allUnits (l : Launch) (U : xU) (μ0 : xH) (sh : Nat → Nat) (z : xV) (hJ0 : JRep U μ0 sh z) (p : Nat) (hp : p < 6) : CtF l U yX3_allUnits cX3_allUnits 3 (some .int) ({ frames := 0, cells := 0, slots := 0, locals := 0 } : Room) [.ref (sh (11 + p))] μ0 (cUnits z p) := by
  refine Ct.of [some (.ref (sh (11 + p))), none, none] (by decide +kernel) rfl (Nat.le_of_ble_eq_true rfl) (fun K Q X hnm hQ => ?_)
  have hJ := JR.rf hJ0
  refine aw_iconst X (0) dX3_allUnits_0 rfl ?_
  refine aw_istore_n X dX3_allUnits_1 rfl (by decide) ?_
  refine aw_iconst X (0) dX3_allUnits_2 rfl ?_
  refine aw_istore_n X dX3_allUnits_3 rfl (by decide) ?_
  refine aw_iload_n X dX3_allUnits_4 rfl ?_
  refine aw_iconst X (4) dX3_allUnits_5 rfl ?_
  refine aw_icmp_ge_f (tgt := 24) X dX3_allUnits_6 (by decide) (by decide) ?_
  refine aw_iload_n X dX3_allUnits_9 rfl ?_
  refine aw_aload_n X dX3_allUnits_10 rfl ?_
  refine aw_tgetU X hJ (p) hp f_X3_9 dX3_allUnits_11 ?_
  refine aw_iload_n X dX3_allUnits_14 rfl ?_
  refine aw_uald X hJ (p) hp (tz (p) 0) (xin_d rfl) rfl dX3_allUnits_15 ?_
  refine aw_iadd X dX3_allUnits_16 ?_
  refine aw_istore_n X dX3_allUnits_17 rfl (by decide) ?_
  refine aw_iinc X (1) dX3_allUnits_18 rfl rfl rfl (by decide) ?_
  refine aw_goto (tgt := 4) X dX3_allUnits_21 (by decide) ?_
  refine aw_iload_n X dX3_allUnits_4 rfl ?_
  refine aw_iconst X (4) dX3_allUnits_5 rfl ?_
  refine aw_icmp_ge_f (tgt := 24) X dX3_allUnits_6 (by decide) (by decide) ?_
  refine aw_iload_n X dX3_allUnits_9 rfl ?_
  refine aw_aload_n X dX3_allUnits_10 rfl ?_
  refine aw_tgetU X hJ (p) hp f_X3_9 dX3_allUnits_11 ?_
  refine aw_iload_n X dX3_allUnits_14 rfl ?_
  refine aw_uald X hJ (p) hp (tz (p) 1) (xin_d rfl) rfl dX3_allUnits_15 ?_
  refine aw_iadd X dX3_allUnits_16 ?_
  refine aw_istore_n X dX3_allUnits_17 rfl (by decide) ?_
  refine aw_iinc X (1) dX3_allUnits_18 rfl rfl rfl (by decide) ?_
  refine aw_goto (tgt := 4) X dX3_allUnits_21 (by decide) ?_
  refine aw_iload_n X dX3_allUnits_4 rfl ?_
  refine aw_iconst X (4) dX3_allUnits_5 rfl ?_
  refine aw_icmp_ge_f (tgt := 24) X dX3_allUnits_6 (by decide) (by decide) ?_
  refine aw_iload_n X dX3_allUnits_9 rfl ?_
  refine aw_aload_n X dX3_allUnits_10 rfl ?_
  refine aw_tgetU X hJ (p) hp f_X3_9 dX3_allUnits_11 ?_
  refine aw_iload_n X dX3_allUnits_14 rfl ?_
  refine aw_uald X hJ (p) hp (tz (p) 2) (xin_d rfl) rfl dX3_allUnits_15 ?_
  refine aw_iadd X dX3_allUnits_16 ?_
  refine aw_istore_n X dX3_allUnits_17 rfl (by decide) ?_
  refine aw_iinc X (1) dX3_allUnits_18 rfl rfl rfl (by decide) ?_
  refine aw_goto (tgt := 4) X dX3_allUnits_21 (by decide) ?_
  refine aw_iload_n X dX3_allUnits_4 rfl ?_
  refine aw_iconst X (4) dX3_allUnits_5 rfl ?_
  refine aw_icmp_ge_f (tgt := 24) X dX3_allUnits_6 (by decide) (by decide) ?_
  refine aw_iload_n X dX3_allUnits_9 rfl ?_
  refine aw_aload_n X dX3_allUnits_10 rfl ?_
  refine aw_tgetU X hJ (p) hp f_X3_9 dX3_allUnits_11 ?_
  refine aw_iload_n X dX3_allUnits_14 rfl ?_
  refine aw_uald X hJ (p) hp (tz (p) 3) (xin_d rfl) rfl dX3_allUnits_15 ?_
  refine aw_iadd X dX3_allUnits_16 ?_
  refine aw_istore_n X dX3_allUnits_17 rfl (by decide) ?_
  refine aw_iinc X (1) dX3_allUnits_18 rfl rfl rfl (by decide) ?_
  refine aw_goto (tgt := 4) X dX3_allUnits_21 (by decide) ?_
  refine aw_iload_n X dX3_allUnits_4 rfl ?_
  refine aw_iconst X (4) dX3_allUnits_5 rfl ?_
  refine aw_icmp_ge_t (tgt := 24) X dX3_allUnits_6 (by decide) (by decide) ?_
  refine aw_iload_n X dX3_allUnits_24 rfl ?_
  exact aw_iret X hQ dX3_allUnits_25 ⟨rfl, rfl⟩

set_option maxHeartbeats 4000000 in
set_option maxRecDepth 100000 in
theorem c_X3_draught (l : Launch) (U : xU) (μ0 : xH) (sh : Nat → Nat) (z : xV) (hJ0 : JRep U μ0 sh z) (p : Nat) (hp : p < 6) : CtF l U yX3_draught cX3_draught 1 (some .int) ({ frames := 1, cells := 0, slots := 0, locals := 22 } : Room) [.ref (sh (11 + p))] μ0 (cDraught z p) := by
  refine Ct.of [some (.ref (sh (11 + p)))] (by decide +kernel) rfl (Nat.le_of_ble_eq_true rfl) (fun K Q X hnm hQ => ?_)
  have hJ := JR.rf hJ0
  refine aw_bipush X (40) dX3_draught_0 rfl ?_
  refine aw_aload_n X dX3_draught_2 rfl ?_
  refine aw_cVF (As := []) X (c_X3_allUnits (kl K) U _ sh _ hJ.1 (p) hp) s_X3_25 k_X3_allUnits (by decide) ⟨rfl, rfl⟩ ⟨Nat.zero_le _, Nat.zero_le _⟩ rfl (by exact Nat.le_of_ble_eq_true rfl) (hJ.gT _ hp) rfl dX3_draught_3 ?_
  refine aw_bipush X (20) dX3_draught_6 rfl ?_
  refine aw_idiv X dX3_draught_8 (by decide) ?_
  refine aw_iadd X dX3_draught_9 ?_
  exact aw_iret X hQ dX3_draught_10 ⟨rfl, rfl⟩

set_option maxHeartbeats 4000000 in
set_option maxRecDepth 100000 in
theorem c_X0_isConnected (l : Launch) (U : xU) (μ0 : xH) (sh : Nat → Nat) (z : xV) (hJ0 : JRep U μ0 sh z) (i : Nat) (hi : i < 4) : CtF l U yX0_isConnected cX0_isConnected 1 (some .boolean) ({ frames := 1, cells := 0, slots := 0, locals := 20 } : Room) [.ref (sh (7 + i))] μ0 (bI (isG (z (hz i 2)))) := by
  refine Ct.of [some (.ref (sh (7 + i)))] (by decide +kernel) rfl (Nat.le_of_ble_eq_true rfl) (fun K Q X hnm hQ => ?_)
  have hJ := JR.rf hJ0
  refine aw_aload_n X dX0_isConnected_0 rfl ?_
  refine aw_hget X hJ (i) hi f_X0_19 rfl dX0_isConnected_1 ?_
  refine aw_cSNF (As := [.int _]) X (c_X4_isGrade (kl K) U _ _) s_X0_35 k_X4_isGrade (by decide) ⟨rfl, rfl⟩ ⟨Nat.zero_le _, Nat.zero_le _⟩ rfl (by exact Nat.le_of_ble_eq_true rfl) dX0_isConnected_4 ?_
  exact aw_zret X (bI_nar _) hQ dX0_isConnected_7 ⟨rfl, rfl⟩

set_option maxHeartbeats 4000000 in
set_option maxRecDepth 100000 in
theorem c_X0_hasOtherLast (l : Launch) (U : xU) (μ0 : xH) (sh : Nat → Nat) (z : xV) (hJ0 : JRep U μ0 sh z) (i : Nat) (hi : i < 4) : CtF l U yX0_hasOtherLast cX0_hasOtherLast 1 (some .boolean) ({ frames := 0, cells := 0, slots := 0, locals := 0 } : Room) [.ref (sh (7 + i))] μ0 (bI (cOther z i)) := by
  refine Ct.of [some (.ref (sh (7 + i)))] (by decide +kernel) rfl (Nat.le_of_ble_eq_true rfl) (fun K Q X hnm hQ => ?_)
  have hJ := JR.rf hJ0
  refine aw_aload_n X dX0_hasOtherLast_0 rfl ?_
  refine aw_hget X hJ (i) hi f_X0_16 rfl dX0_hasOtherLast_1 ?_
  refine aw_ldc X dX0_hasOtherLast_4 a_X0_15 ?_
  refine aw_icmp_eq (tgt := 24) X dX0_hasOtherLast_6 (by decide) (fun c6_1 => ?_) (fun c6_1 => ?_)
  · skip
    refine aw_iconst X (0) dX0_hasOtherLast_24 rfl ?_
    exact aw_zret X rfl hQ dX0_hasOtherLast_25 ⟨congrArg (fun q => some (Value.int q)) (by simp [cOther, bI, c6_1]), rfl⟩
  · skip
    refine aw_aload_n X dX0_hasOtherLast_9 rfl ?_
    refine aw_hget X hJ (i) hi f_X0_16 rfl dX0_hasOtherLast_10 ?_
    refine aw_aload_n X dX0_hasOtherLast_13 rfl ?_
    refine aw_hget X hJ (i) hi f_X0_19 rfl dX0_hasOtherLast_14 ?_
    refine aw_icmp_eq (tgt := 24) X dX0_hasOtherLast_17 (by decide) (fun c17_2 => ?_) (fun c17_2 => ?_)
    · skip
      refine aw_iconst X (0) dX0_hasOtherLast_24 rfl ?_
      exact aw_zret X rfl hQ dX0_hasOtherLast_25 ⟨congrArg (fun q => some (Value.int q)) (by simp [cOther, bI, c6_1, c17_2]), rfl⟩
    · skip
      refine aw_iconst X (1) dX0_hasOtherLast_20 rfl ?_
      refine aw_goto (tgt := 25) X dX0_hasOtherLast_21 (by decide) ?_
      exact aw_zret X rfl hQ dX0_hasOtherLast_25 ⟨congrArg (fun q => some (Value.int q)) (by simp [cOther, bI, c6_1, c17_2]), rfl⟩

set_option maxHeartbeats 4000000 in
set_option maxRecDepth 100000 in
theorem c_X1_connectedHoses (l : Launch) (U : xU) (μ0 : xH) (sh : Nat → Nat) (z : xV) (hJ0 : JRep U μ0 sh z) : CtF l U yX1_connectedHoses cX1_connectedHoses 3 (some .int) ({ frames := 2, cells := 0, slots := 0, locals := 40 } : Room) [.ref (sh 0)] μ0 (cConnN z) := by
  refine Ct.of [some (.ref (sh 0)), none, none] (by decide +kernel) rfl (Nat.le_of_ble_eq_true rfl) (fun K Q X hnm hQ => ?_)
  have hJ := JR.rf hJ0
  refine aw_iconst X (0) dX1_connectedHoses_0 rfl ?_
  refine aw_istore_n X dX1_connectedHoses_1 rfl (by decide) ?_
  refine aw_iconst X (0) dX1_connectedHoses_2 rfl ?_
  refine aw_istore_n X dX1_connectedHoses_3 rfl (by decide) ?_
  refine aw_iload_n X dX1_connectedHoses_4 rfl ?_
  refine aw_iconst X (4) dX1_connectedHoses_5 rfl ?_
  refine aw_icmp_ge_f (tgt := 35) X dX1_connectedHoses_6 (by decide) (by decide) ?_
  refine aw_iload_n X dX1_connectedHoses_9 rfl ?_
  refine aw_aload_n X dX1_connectedHoses_10 rfl ?_
  refine aw_jget X hJ f_X1_34 rfl dX1_connectedHoses_11 ?_
  refine aw_iload_n X dX1_connectedHoses_14 rfl ?_
  refine aw_hoseAt X hJ (0) (by decide) (by decide) dX1_connectedHoses_15 ?_
  refine aw_cVF (As := []) X (c_X0_isConnected (kl K) U _ sh _ hJ.1 (0) (by decide)) s_X1_144 k_X0_isConnected (by decide) ⟨rfl, rfl⟩ ⟨Nat.zero_le _, Nat.zero_le _⟩ rfl (by exact Nat.le_of_ble_eq_true rfl) (hJ.gH _ (by decide)) rfl dX1_connectedHoses_16 ?_
  refine aw_bj (tgt := 26) (t2 := 27) X dX1_connectedHoses_19 dX1_connectedHoses_22 dX1_connectedHoses_23 dX1_connectedHoses_26 (by decide) (by decide) rfl ?_
  rw [bI_ne]
  refine aw_iadd X dX1_connectedHoses_27 ?_
  refine aw_istore_n X dX1_connectedHoses_28 rfl (by decide) ?_
  refine aw_iinc X (1) dX1_connectedHoses_29 rfl rfl rfl (by decide) ?_
  refine aw_goto (tgt := 4) X dX1_connectedHoses_32 (by decide) ?_
  refine aw_iload_n X dX1_connectedHoses_4 rfl ?_
  refine aw_iconst X (4) dX1_connectedHoses_5 rfl ?_
  refine aw_icmp_ge_f (tgt := 35) X dX1_connectedHoses_6 (by decide) (by decide) ?_
  refine aw_iload_n X dX1_connectedHoses_9 rfl ?_
  refine aw_aload_n X dX1_connectedHoses_10 rfl ?_
  refine aw_jget X hJ f_X1_34 rfl dX1_connectedHoses_11 ?_
  refine aw_iload_n X dX1_connectedHoses_14 rfl ?_
  refine aw_hoseAt X hJ (1) (by decide) (by decide) dX1_connectedHoses_15 ?_
  refine aw_cVF (As := []) X (c_X0_isConnected (kl K) U _ sh _ hJ.1 (1) (by decide)) s_X1_144 k_X0_isConnected (by decide) ⟨rfl, rfl⟩ ⟨Nat.zero_le _, Nat.zero_le _⟩ rfl (by exact Nat.le_of_ble_eq_true rfl) (hJ.gH _ (by decide)) rfl dX1_connectedHoses_16 ?_
  refine aw_bj (tgt := 26) (t2 := 27) X dX1_connectedHoses_19 dX1_connectedHoses_22 dX1_connectedHoses_23 dX1_connectedHoses_26 (by decide) (by decide) rfl ?_
  rw [bI_ne]
  refine aw_iadd X dX1_connectedHoses_27 ?_
  refine aw_istore_n X dX1_connectedHoses_28 rfl (by decide) ?_
  refine aw_iinc X (1) dX1_connectedHoses_29 rfl rfl rfl (by decide) ?_
  refine aw_goto (tgt := 4) X dX1_connectedHoses_32 (by decide) ?_
  refine aw_iload_n X dX1_connectedHoses_4 rfl ?_
  refine aw_iconst X (4) dX1_connectedHoses_5 rfl ?_
  refine aw_icmp_ge_f (tgt := 35) X dX1_connectedHoses_6 (by decide) (by decide) ?_
  refine aw_iload_n X dX1_connectedHoses_9 rfl ?_
  refine aw_aload_n X dX1_connectedHoses_10 rfl ?_
  refine aw_jget X hJ f_X1_34 rfl dX1_connectedHoses_11 ?_
  refine aw_iload_n X dX1_connectedHoses_14 rfl ?_
  refine aw_hoseAt X hJ (2) (by decide) (by decide) dX1_connectedHoses_15 ?_
  refine aw_cVF (As := []) X (c_X0_isConnected (kl K) U _ sh _ hJ.1 (2) (by decide)) s_X1_144 k_X0_isConnected (by decide) ⟨rfl, rfl⟩ ⟨Nat.zero_le _, Nat.zero_le _⟩ rfl (by exact Nat.le_of_ble_eq_true rfl) (hJ.gH _ (by decide)) rfl dX1_connectedHoses_16 ?_
  refine aw_bj (tgt := 26) (t2 := 27) X dX1_connectedHoses_19 dX1_connectedHoses_22 dX1_connectedHoses_23 dX1_connectedHoses_26 (by decide) (by decide) rfl ?_
  rw [bI_ne]
  refine aw_iadd X dX1_connectedHoses_27 ?_
  refine aw_istore_n X dX1_connectedHoses_28 rfl (by decide) ?_
  refine aw_iinc X (1) dX1_connectedHoses_29 rfl rfl rfl (by decide) ?_
  refine aw_goto (tgt := 4) X dX1_connectedHoses_32 (by decide) ?_
  refine aw_iload_n X dX1_connectedHoses_4 rfl ?_
  refine aw_iconst X (4) dX1_connectedHoses_5 rfl ?_
  refine aw_icmp_ge_f (tgt := 35) X dX1_connectedHoses_6 (by decide) (by decide) ?_
  refine aw_iload_n X dX1_connectedHoses_9 rfl ?_
  refine aw_aload_n X dX1_connectedHoses_10 rfl ?_
  refine aw_jget X hJ f_X1_34 rfl dX1_connectedHoses_11 ?_
  refine aw_iload_n X dX1_connectedHoses_14 rfl ?_
  refine aw_hoseAt X hJ (3) (by decide) (by decide) dX1_connectedHoses_15 ?_
  refine aw_cVF (As := []) X (c_X0_isConnected (kl K) U _ sh _ hJ.1 (3) (by decide)) s_X1_144 k_X0_isConnected (by decide) ⟨rfl, rfl⟩ ⟨Nat.zero_le _, Nat.zero_le _⟩ rfl (by exact Nat.le_of_ble_eq_true rfl) (hJ.gH _ (by decide)) rfl dX1_connectedHoses_16 ?_
  refine aw_bj (tgt := 26) (t2 := 27) X dX1_connectedHoses_19 dX1_connectedHoses_22 dX1_connectedHoses_23 dX1_connectedHoses_26 (by decide) (by decide) rfl ?_
  rw [bI_ne]
  refine aw_iadd X dX1_connectedHoses_27 ?_
  refine aw_istore_n X dX1_connectedHoses_28 rfl (by decide) ?_
  refine aw_iinc X (1) dX1_connectedHoses_29 rfl rfl rfl (by decide) ?_
  refine aw_goto (tgt := 4) X dX1_connectedHoses_32 (by decide) ?_
  refine aw_iload_n X dX1_connectedHoses_4 rfl ?_
  refine aw_iconst X (4) dX1_connectedHoses_5 rfl ?_
  refine aw_icmp_ge_t (tgt := 35) X dX1_connectedHoses_6 (by decide) (by decide) ?_
  refine aw_iload_n X dX1_connectedHoses_35 rfl ?_
  exact aw_iret X hQ dX1_connectedHoses_36 ⟨rfl, rfl⟩

set_option maxHeartbeats 4000000 in
set_option maxRecDepth 100000 in
theorem c_X1_burstHoses (l : Launch) (U : xU) (μ0 : xH) (sh : Nat → Nat) (z : xV) (hJ0 : JRep U μ0 sh z) : CtF l U yX1_burstHoses cX1_burstHoses 3 (some .int) ({ frames := 0, cells := 0, slots := 0, locals := 0 } : Room) [.ref (sh 0)] μ0 (cBurstN z) := by
  refine Ct.of [some (.ref (sh 0)), none, none] (by decide +kernel) rfl (Nat.le_of_ble_eq_true rfl) (fun K Q X hnm hQ => ?_)
  have hJ := JR.rf hJ0
  refine aw_iconst X (0) dX1_burstHoses_0 rfl ?_
  refine aw_istore_n X dX1_burstHoses_1 rfl (by decide) ?_
  refine aw_iconst X (0) dX1_burstHoses_2 rfl ?_
  refine aw_istore_n X dX1_burstHoses_3 rfl (by decide) ?_
  refine aw_iload_n X dX1_burstHoses_4 rfl ?_
  refine aw_iconst X (4) dX1_burstHoses_5 rfl ?_
  refine aw_icmp_ge_f (tgt := 35) X dX1_burstHoses_6 (by decide) (by decide) ?_
  refine aw_iload_n X dX1_burstHoses_9 rfl ?_
  refine aw_aload_n X dX1_burstHoses_10 rfl ?_
  refine aw_jget X hJ f_X1_34 rfl dX1_burstHoses_11 ?_
  refine aw_iload_n X dX1_burstHoses_14 rfl ?_
  refine aw_hoseAt X hJ (0) (by decide) (by decide) dX1_burstHoses_15 ?_
  refine aw_hget X hJ (0) (by decide) f_X1_141 rfl dX1_burstHoses_16 ?_
  refine aw_bj (tgt := 26) (t2 := 27) X dX1_burstHoses_19 dX1_burstHoses_22 dX1_burstHoses_23 dX1_burstHoses_26 (by decide) (by decide) rfl ?_
  refine aw_iadd X dX1_burstHoses_27 ?_
  refine aw_istore_n X dX1_burstHoses_28 rfl (by decide) ?_
  refine aw_iinc X (1) dX1_burstHoses_29 rfl rfl rfl (by decide) ?_
  refine aw_goto (tgt := 4) X dX1_burstHoses_32 (by decide) ?_
  refine aw_iload_n X dX1_burstHoses_4 rfl ?_
  refine aw_iconst X (4) dX1_burstHoses_5 rfl ?_
  refine aw_icmp_ge_f (tgt := 35) X dX1_burstHoses_6 (by decide) (by decide) ?_
  refine aw_iload_n X dX1_burstHoses_9 rfl ?_
  refine aw_aload_n X dX1_burstHoses_10 rfl ?_
  refine aw_jget X hJ f_X1_34 rfl dX1_burstHoses_11 ?_
  refine aw_iload_n X dX1_burstHoses_14 rfl ?_
  refine aw_hoseAt X hJ (1) (by decide) (by decide) dX1_burstHoses_15 ?_
  refine aw_hget X hJ (1) (by decide) f_X1_141 rfl dX1_burstHoses_16 ?_
  refine aw_bj (tgt := 26) (t2 := 27) X dX1_burstHoses_19 dX1_burstHoses_22 dX1_burstHoses_23 dX1_burstHoses_26 (by decide) (by decide) rfl ?_
  refine aw_iadd X dX1_burstHoses_27 ?_
  refine aw_istore_n X dX1_burstHoses_28 rfl (by decide) ?_
  refine aw_iinc X (1) dX1_burstHoses_29 rfl rfl rfl (by decide) ?_
  refine aw_goto (tgt := 4) X dX1_burstHoses_32 (by decide) ?_
  refine aw_iload_n X dX1_burstHoses_4 rfl ?_
  refine aw_iconst X (4) dX1_burstHoses_5 rfl ?_
  refine aw_icmp_ge_f (tgt := 35) X dX1_burstHoses_6 (by decide) (by decide) ?_
  refine aw_iload_n X dX1_burstHoses_9 rfl ?_
  refine aw_aload_n X dX1_burstHoses_10 rfl ?_
  refine aw_jget X hJ f_X1_34 rfl dX1_burstHoses_11 ?_
  refine aw_iload_n X dX1_burstHoses_14 rfl ?_
  refine aw_hoseAt X hJ (2) (by decide) (by decide) dX1_burstHoses_15 ?_
  refine aw_hget X hJ (2) (by decide) f_X1_141 rfl dX1_burstHoses_16 ?_
  refine aw_bj (tgt := 26) (t2 := 27) X dX1_burstHoses_19 dX1_burstHoses_22 dX1_burstHoses_23 dX1_burstHoses_26 (by decide) (by decide) rfl ?_
  refine aw_iadd X dX1_burstHoses_27 ?_
  refine aw_istore_n X dX1_burstHoses_28 rfl (by decide) ?_
  refine aw_iinc X (1) dX1_burstHoses_29 rfl rfl rfl (by decide) ?_
  refine aw_goto (tgt := 4) X dX1_burstHoses_32 (by decide) ?_
  refine aw_iload_n X dX1_burstHoses_4 rfl ?_
  refine aw_iconst X (4) dX1_burstHoses_5 rfl ?_
  refine aw_icmp_ge_f (tgt := 35) X dX1_burstHoses_6 (by decide) (by decide) ?_
  refine aw_iload_n X dX1_burstHoses_9 rfl ?_
  refine aw_aload_n X dX1_burstHoses_10 rfl ?_
  refine aw_jget X hJ f_X1_34 rfl dX1_burstHoses_11 ?_
  refine aw_iload_n X dX1_burstHoses_14 rfl ?_
  refine aw_hoseAt X hJ (3) (by decide) (by decide) dX1_burstHoses_15 ?_
  refine aw_hget X hJ (3) (by decide) f_X1_141 rfl dX1_burstHoses_16 ?_
  refine aw_bj (tgt := 26) (t2 := 27) X dX1_burstHoses_19 dX1_burstHoses_22 dX1_burstHoses_23 dX1_burstHoses_26 (by decide) (by decide) rfl ?_
  refine aw_iadd X dX1_burstHoses_27 ?_
  refine aw_istore_n X dX1_burstHoses_28 rfl (by decide) ?_
  refine aw_iinc X (1) dX1_burstHoses_29 rfl rfl rfl (by decide) ?_
  refine aw_goto (tgt := 4) X dX1_burstHoses_32 (by decide) ?_
  refine aw_iload_n X dX1_burstHoses_4 rfl ?_
  refine aw_iconst X (4) dX1_burstHoses_5 rfl ?_
  refine aw_icmp_ge_t (tgt := 35) X dX1_burstHoses_6 (by decide) (by decide) ?_
  refine aw_iload_n X dX1_burstHoses_35 rfl ?_
  exact aw_iret X hQ dX1_burstHoses_36 ⟨rfl, rfl⟩

set_option maxHeartbeats 4000000 in
set_option maxRecDepth 100000 in
theorem c_X1_allSpoilt (l : Launch) (U : xU) (μ0 : xH) (sh : Nat → Nat) (z : xV) (hJ0 : JRep U μ0 sh z) : CtF l U yX1_allSpoilt cX1_allSpoilt 3 (some .int) ({ frames := 0, cells := 0, slots := 0, locals := 0 } : Room) [.ref (sh 0)] μ0 (cSpoilt z) := by
  refine Ct.of [some (.ref (sh 0)), none, none] (by decide +kernel) rfl (Nat.le_of_ble_eq_true rfl) (fun K Q X hnm hQ => ?_)
  have hJ := JR.rf hJ0
  refine aw_iconst X (0) dX1_allSpoilt_0 rfl ?_
  refine aw_istore_n X dX1_allSpoilt_1 rfl (by decide) ?_
  refine aw_iconst X (0) dX1_allSpoilt_2 rfl ?_
  refine aw_istore_n X dX1_allSpoilt_3 rfl (by decide) ?_
  refine aw_iload_n X dX1_allSpoilt_4 rfl ?_
  refine aw_iconst X (4) dX1_allSpoilt_5 rfl ?_
  refine aw_icmp_ge_f (tgt := 24) X dX1_allSpoilt_6 (by decide) (by decide) ?_
  refine aw_iload_n X dX1_allSpoilt_9 rfl ?_
  refine aw_aload_n X dX1_allSpoilt_10 rfl ?_
  refine aw_jget X hJ f_X1_26 rfl dX1_allSpoilt_11 ?_
  refine aw_iload_n X dX1_allSpoilt_14 rfl ?_
  refine aw_jald X hJ 2 (by decide) 18 (xin_d rfl) (by decide) dX1_allSpoilt_15 ?_
  refine aw_iadd X dX1_allSpoilt_16 ?_
  refine aw_istore_n X dX1_allSpoilt_17 rfl (by decide) ?_
  refine aw_iinc X (1) dX1_allSpoilt_18 rfl rfl rfl (by decide) ?_
  refine aw_goto (tgt := 4) X dX1_allSpoilt_21 (by decide) ?_
  refine aw_iload_n X dX1_allSpoilt_4 rfl ?_
  refine aw_iconst X (4) dX1_allSpoilt_5 rfl ?_
  refine aw_icmp_ge_f (tgt := 24) X dX1_allSpoilt_6 (by decide) (by decide) ?_
  refine aw_iload_n X dX1_allSpoilt_9 rfl ?_
  refine aw_aload_n X dX1_allSpoilt_10 rfl ?_
  refine aw_jget X hJ f_X1_26 rfl dX1_allSpoilt_11 ?_
  refine aw_iload_n X dX1_allSpoilt_14 rfl ?_
  refine aw_jald X hJ 2 (by decide) 19 (xin_d rfl) (by decide) dX1_allSpoilt_15 ?_
  refine aw_iadd X dX1_allSpoilt_16 ?_
  refine aw_istore_n X dX1_allSpoilt_17 rfl (by decide) ?_
  refine aw_iinc X (1) dX1_allSpoilt_18 rfl rfl rfl (by decide) ?_
  refine aw_goto (tgt := 4) X dX1_allSpoilt_21 (by decide) ?_
  refine aw_iload_n X dX1_allSpoilt_4 rfl ?_
  refine aw_iconst X (4) dX1_allSpoilt_5 rfl ?_
  refine aw_icmp_ge_f (tgt := 24) X dX1_allSpoilt_6 (by decide) (by decide) ?_
  refine aw_iload_n X dX1_allSpoilt_9 rfl ?_
  refine aw_aload_n X dX1_allSpoilt_10 rfl ?_
  refine aw_jget X hJ f_X1_26 rfl dX1_allSpoilt_11 ?_
  refine aw_iload_n X dX1_allSpoilt_14 rfl ?_
  refine aw_jald X hJ 2 (by decide) 20 (xin_d rfl) (by decide) dX1_allSpoilt_15 ?_
  refine aw_iadd X dX1_allSpoilt_16 ?_
  refine aw_istore_n X dX1_allSpoilt_17 rfl (by decide) ?_
  refine aw_iinc X (1) dX1_allSpoilt_18 rfl rfl rfl (by decide) ?_
  refine aw_goto (tgt := 4) X dX1_allSpoilt_21 (by decide) ?_
  refine aw_iload_n X dX1_allSpoilt_4 rfl ?_
  refine aw_iconst X (4) dX1_allSpoilt_5 rfl ?_
  refine aw_icmp_ge_f (tgt := 24) X dX1_allSpoilt_6 (by decide) (by decide) ?_
  refine aw_iload_n X dX1_allSpoilt_9 rfl ?_
  refine aw_aload_n X dX1_allSpoilt_10 rfl ?_
  refine aw_jget X hJ f_X1_26 rfl dX1_allSpoilt_11 ?_
  refine aw_iload_n X dX1_allSpoilt_14 rfl ?_
  refine aw_jald X hJ 2 (by decide) 21 (xin_d rfl) (by decide) dX1_allSpoilt_15 ?_
  refine aw_iadd X dX1_allSpoilt_16 ?_
  refine aw_istore_n X dX1_allSpoilt_17 rfl (by decide) ?_
  refine aw_iinc X (1) dX1_allSpoilt_18 rfl rfl rfl (by decide) ?_
  refine aw_goto (tgt := 4) X dX1_allSpoilt_21 (by decide) ?_
  refine aw_iload_n X dX1_allSpoilt_4 rfl ?_
  refine aw_iconst X (4) dX1_allSpoilt_5 rfl ?_
  refine aw_icmp_ge_t (tgt := 24) X dX1_allSpoilt_6 (by decide) (by decide) ?_
  refine aw_iload_n X dX1_allSpoilt_24 rfl ?_
  exact aw_iret X hQ dX1_allSpoilt_25 ⟨rfl, rfl⟩
end
section
theorem isG_hv {x : Int32} (h : isG x = true) : x = nI (tn x) := by
  obtain ⟨k, hk, rfl⟩ := isG_nI h
  rw [tn, nI_clamp (by omega)]
theorem xhours {n : Int32} (h1 : ¬ n < 1) (h2 : n ≤ 48) : n = nI (tn n) := by
  obtain ⟨j, hj, rfl⟩ := nI_of2 (x := n) (M := 48) (n := 48) rfl (fun q => h1 (Int32.lt_trans q (by decide))) h2
  rw [tn, nI_clamp (by omega)]
set_option maxHeartbeats 4000000 in
set_option maxRecDepth 100000 in
theorem c_X1_moveThrough (l : Launch) (U : xU) (μ0 : xH) (sh : Nat → Nat) (z : xV) (hJ0 : JRep U μ0 sh z) (i : Nat) (hi : i < 4) : CtJ l U yX1_moveThrough cX1_moveThrough 6 (some .int) ({ frames := 1, cells := 0, slots := 0, locals := 22 } : Room) [.ref (sh 0), .ref (sh (7 + i))] μ0 sh (gMove z i).1 (gMove z i).2 := by
  refine Ct.of [some (.ref (sh 0)), some (.ref (sh (7 + i))), none, none, none, none] (by decide +kernel) rfl (Nat.le_of_ble_eq_true rfl) (fun K Q X hnm hQ => ?_)
  have hJ := JR.rf hJ0
  refine aw_aload_n X dX1_moveThrough_0 rfl ?_
  refine aw_hget X hJ (i) hi f_X1_151 rfl dX1_moveThrough_1 ?_
  refine aw_istore_n X dX1_moveThrough_4 rfl (by decide) ?_
  refine aw_iload_n X dX1_moveThrough_5 rfl ?_
  refine aw_cSNF (As := [.int _]) X (c_X4_isGrade (kl K) U _ _) s_X1_138 k_X4_isGrade (by decide) ⟨rfl, rfl⟩ ⟨Nat.zero_le _, Nat.zero_le _⟩ rfl (by exact Nat.le_of_ble_eq_true rfl) dX1_moveThrough_6 ?_
  refine aw_b_ne (tgt := 14) X dX1_moveThrough_9 (by decide) (fun c9_1 => ?_) (fun c9_1 => ?_)
  · skip
    refine aw_aload_n X dX1_moveThrough_14 rfl ?_
    refine aw_jget X hJ f_X1_40 rfl dX1_moveThrough_15 ?_
    refine aw_iconst X (0) dX1_moveThrough_18 rfl ?_
    refine aw_tankAt X hJ (0) (by decide) (by decide) dX1_moveThrough_19 ?_
    refine aw_tgetU X hJ (0) (by decide) f_X1_110 dX1_moveThrough_20 ?_
    refine aw_astore_n X dX1_moveThrough_23 rfl (by decide) ?_
    refine aw_aload_n X dX1_moveThrough_24 rfl ?_
    refine aw_jget X hJ f_X1_18 rfl dX1_moveThrough_25 ?_
    refine aw_iconst X (3) dX1_moveThrough_28 rfl ?_
    refine aw_jald X hJ 0 (by decide) 3 (xin_d rfl) (by decide) dX1_moveThrough_29 ?_
    refine aw_aload_n X dX1_moveThrough_30 rfl ?_
    refine aw_iload_n X dX1_moveThrough_31 rfl ?_
    refine aw_uald X hJ (0) (by decide) (tz (0) (tn (z (hz (i) 2)))) (isG_in c9_1) rfl dX1_moveThrough_32 ?_
    refine aw_sipush X (1000) dX1_moveThrough_33 rfl ?_
    refine aw_aload_n X dX1_moveThrough_36 rfl ?_
    refine aw_jget X hJ f_X1_23 rfl dX1_moveThrough_37 ?_
    refine aw_iload_n X dX1_moveThrough_40 rfl ?_
    refine aw_jald X hJ 1 (by decide) (14 + tn (z (hz (i) 2))) (isG_in c9_1) (by rfl) dX1_moveThrough_41 ?_
    refine aw_isub X dX1_moveThrough_42 ?_
    refine aw_min X l_X1_158 (by exact ⟨by decide, Nat.le_of_ble_eq_true rfl⟩) (by decide) dX1_moveThrough_43 ?_
    refine aw_min X l_X1_158 (by exact ⟨by decide, Nat.le_of_ble_eq_true rfl⟩) (by decide) dX1_moveThrough_46 ?_
    refine aw_istore X dX1_moveThrough_49 rfl (by decide) ?_
    refine aw_iload X dX1_moveThrough_51 rfl ?_
    refine aw_if_gt (tgt := 58) X dX1_moveThrough_53 (by decide) (fun c53_2 => ?_) (fun c53_2 => ?_)
    · skip
      refine aw_aload_n X dX1_moveThrough_58 rfl ?_
      refine aw_cVF (As := []) X (c_X0_hasOtherLast (kl K) U _ sh _ hJ.1 (i) hi) s_X1_192 k_X0_hasOtherLast (by decide) ⟨rfl, rfl⟩ ⟨Nat.zero_le _, Nat.zero_le _⟩ rfl (by exact Nat.le_of_ble_eq_true rfl) (hJ.gH _ hi) rfl dX1_moveThrough_59 ?_
      refine aw_istore X dX1_moveThrough_62 rfl (by decide) ?_
      refine aw_aload_n X dX1_moveThrough_64 rfl ?_
      refine aw_iload_n X dX1_moveThrough_65 rfl ?_
      refine aw_dup2 X dX1_moveThrough_66 rfl rfl ?_
      refine aw_uald X hJ (0) (by decide) (tz (0) (tn (z (hz (i) 2)))) (isG_in c9_1) rfl dX1_moveThrough_67 ?_
      refine aw_iload X dX1_moveThrough_68 rfl ?_
      refine aw_isub X dX1_moveThrough_70 ?_
      refine aw_uast X hJ (0) (by decide) (tz (0) (tn (z (hz (i) 2)))) (isG_in c9_1) rfl dX1_moveThrough_71 (fun μ z_3 ez_3 hJ => ?_)
      refine aw_aload_n X dX1_moveThrough_72 rfl ?_
      refine aw_iload_n X dX1_moveThrough_73 rfl ?_
      refine aw_hput X hJ (i) hi 1 (by decide) (hz (i) 1) rfl f_X1_155 (fun h => absurd h (by decide)) dX1_moveThrough_74 (fun μ z_4 ez_4 hJ => ?_)
      refine aw_iload X dX1_moveThrough_77 rfl ?_
      refine aw_b_eq (tgt := 106) X dX1_moveThrough_79 (by decide) (fun c79_5 => ?_) (fun c79_5 => ?_)
      · skip
        refine aw_aload_n X dX1_moveThrough_106 rfl ?_
        refine aw_jget X hJ f_X1_23 rfl dX1_moveThrough_107 ?_
        refine aw_iload_n X dX1_moveThrough_110 rfl ?_
        refine aw_dup2 X dX1_moveThrough_111 rfl rfl ?_
        refine aw_jald X hJ 1 (by decide) (14 + tn (z (hz (i) 2))) (isG_in c9_1) (by rfl) dX1_moveThrough_112 ?_
        refine aw_iload X dX1_moveThrough_113 rfl ?_
        refine aw_iadd X dX1_moveThrough_115 ?_
        refine aw_jast X hJ 1 (by decide) (14 + tn (z (hz (i) 2))) (isG_in c9_1) (by rfl) dX1_moveThrough_116 (fun μ z_6 ez_6 hJ => ?_)
        refine aw_aload_n X dX1_moveThrough_117 rfl ?_
        refine aw_dup X dX1_moveThrough_118 rfl ?_
        refine aw_hget X hJ (i) hi f_X1_197 rfl dX1_moveThrough_119 ?_
        refine aw_iload X dX1_moveThrough_122 rfl ?_
        refine aw_iadd X dX1_moveThrough_124 ?_
        refine aw_hput X hJ (i) hi 4 (by decide) (hz (i) 4) rfl f_X1_197 (fun h => absurd h (by decide)) dX1_moveThrough_125 (fun μ z_7 ez_7 hJ => ?_)
        refine aw_iload X dX1_moveThrough_128 rfl ?_
        exact aw_iret X hQ dX1_moveThrough_130 ⟨congrArg (fun q => some (Value.int q)) (by subst ez_3 ez_4 ez_6 ez_7; simp [gMove, c9_1, c53_2, Int32.not_le.mpr c53_2, c79_5]), hJ.to (by subst ez_3 ez_4 ez_6 ez_7; simp [gMove, c9_1, c53_2, Int32.not_le.mpr c53_2, c79_5])⟩
      · skip
        refine aw_aload_n X dX1_moveThrough_82 rfl ?_
        refine aw_jget X hJ f_X1_26 rfl dX1_moveThrough_83 ?_
        refine aw_iload_n X dX1_moveThrough_86 rfl ?_
        refine aw_dup2 X dX1_moveThrough_87 rfl rfl ?_
        refine aw_jald X hJ 2 (by decide) (18 + tn (z (hz (i) 2))) (isG_in c9_1) (by rfl) dX1_moveThrough_88 ?_
        refine aw_iload X dX1_moveThrough_89 rfl ?_
        refine aw_iadd X dX1_moveThrough_91 ?_
        refine aw_jast X hJ 2 (by decide) (18 + tn (z (hz (i) 2))) (isG_in c9_1) (by rfl) dX1_moveThrough_92 (fun μ z_6 ez_6 hJ => ?_)
        refine aw_aload_n X dX1_moveThrough_93 rfl ?_
        refine aw_dup X dX1_moveThrough_94 rfl ?_
        refine aw_hget X hJ (i) hi f_X1_195 rfl dX1_moveThrough_95 ?_
        refine aw_iload X dX1_moveThrough_98 rfl ?_
        refine aw_iadd X dX1_moveThrough_100 ?_
        refine aw_hput X hJ (i) hi 5 (by decide) (hz (i) 5) rfl f_X1_195 (fun h => absurd h (by decide)) dX1_moveThrough_101 (fun μ z_7 ez_7 hJ => ?_)
        refine aw_iconst X (0) dX1_moveThrough_104 rfl ?_
        exact aw_iret X hQ dX1_moveThrough_105 ⟨congrArg (fun q => some (Value.int q)) (by subst ez_3 ez_4 ez_6 ez_7; simp [gMove, c9_1, c53_2, Int32.not_le.mpr c53_2, c79_5]), hJ.to (by subst ez_3 ez_4 ez_6 ez_7; simp [gMove, c9_1, c53_2, Int32.not_le.mpr c53_2, c79_5])⟩
    · skip
      refine aw_iconst X (0) dX1_moveThrough_56 rfl ?_
      exact aw_iret X hQ dX1_moveThrough_57 ⟨congrArg (fun q => some (Value.int q)) (by simp [gMove, c9_1, c53_2, Int32.not_lt.mp c53_2]), hJ.to (by simp [gMove, c9_1, c53_2, Int32.not_lt.mp c53_2])⟩
  · skip
    refine aw_iconst X (0) dX1_moveThrough_12 rfl ?_
    exact aw_iret X hQ dX1_moveThrough_13 ⟨congrArg (fun q => some (Value.int q)) (by simp [gMove, c9_1]), hJ.to (by simp [gMove, c9_1])⟩

set_option maxHeartbeats 4000000 in
set_option maxRecDepth 100000 in
theorem c_X1_burst (l : Launch) (U : xU) (μ0 : xH) (sh : Nat → Nat) (z : xV) (hJ0 : JRep U μ0 sh z) (i : Nat) (hi : i < 4) : CtK l U yX1_burst cX1_burst 6 none ({ frames := 1, cells := 0, slots := 0, locals := 22 } : Room) [.ref (sh 0), .ref (sh (7 + i))] μ0 sh (gBurst z i) := by
  refine Ct.of [some (.ref (sh 0)), some (.ref (sh (7 + i))), none, none, none, none] (by decide +kernel) rfl (Nat.le_of_ble_eq_true rfl) (fun K Q X hnm hQ => ?_)
  have hJ := JR.rf hJ0
  refine aw_aload_n X dX1_burst_0 rfl ?_
  refine aw_hget X hJ (i) hi f_X1_151 rfl dX1_burst_1 ?_
  refine aw_istore_n X dX1_burst_4 rfl (by decide) ?_
  refine aw_aload_n X dX1_burst_5 rfl ?_
  refine aw_iconst X (1) dX1_burst_6 rfl ?_
  refine aw_hput X hJ (i) hi 3 (by decide) (hz (i) 3) rfl f_X1_141 (fun _ => by decide) dX1_burst_7 (fun μ z_1 ez_1 hJ => ?_)
  refine aw_aload_n X dX1_burst_10 rfl ?_
  refine aw_ldc X dX1_burst_11 a_X1_154 ?_
  refine aw_hput X hJ (i) hi 2 (by decide) (hz (i) 2) rfl f_X1_151 (fun h => absurd h (by decide)) dX1_burst_13 (fun μ z_2 ez_2 hJ => ?_)
  refine aw_iload_n X dX1_burst_16 rfl ?_
  refine aw_cSNF (As := [.int _]) X (c_X4_isGrade (kl K) U _ _) s_X1_138 k_X4_isGrade (by decide) ⟨rfl, rfl⟩ ⟨Nat.zero_le _, Nat.zero_le _⟩ rfl (by exact Nat.le_of_ble_eq_true rfl) dX1_burst_17 ?_
  refine aw_b_ne (tgt := 24) X dX1_burst_20 (by decide) (fun c20_3 => ?_) (fun c20_3 => ?_)
  · skip
    refine aw_aload_n X dX1_burst_24 rfl ?_
    refine aw_jget X hJ f_X1_40 rfl dX1_burst_25 ?_
    refine aw_iconst X (0) dX1_burst_28 rfl ?_
    refine aw_tankAt X hJ (0) (by decide) (by decide) dX1_burst_29 ?_
    refine aw_tgetU X hJ (0) (by decide) f_X1_110 dX1_burst_30 ?_
    refine aw_astore_n X dX1_burst_33 rfl (by decide) ?_
    refine aw_aload_n X dX1_burst_34 rfl ?_
    refine aw_jget X hJ f_X1_18 rfl dX1_burst_35 ?_
    refine aw_iconst X (3) dX1_burst_38 rfl ?_
    refine aw_jald X hJ 0 (by decide) 3 (xin_d rfl) (by decide) dX1_burst_39 ?_
    refine aw_aload_n X dX1_burst_40 rfl ?_
    refine aw_iload_n X dX1_burst_41 rfl ?_
    refine aw_uald X hJ (0) (by decide) (tz (0) (tn (z (hz (i) 2)))) (isG_in c20_3) rfl dX1_burst_42 ?_
    refine aw_min X l_X1_158 (by exact ⟨by decide, Nat.le_of_ble_eq_true rfl⟩) (by decide) dX1_burst_43 ?_
    refine aw_istore X dX1_burst_46 rfl (by decide) ?_
    refine aw_aload_n X dX1_burst_48 rfl ?_
    refine aw_jget X hJ f_X1_55 rfl dX1_burst_49 ?_
    refine aw_if_eq (tgt := 71) X dX1_burst_52 (by decide) (fun c52_4 => ?_) (fun c52_4 => ?_)
    · skip
      refine aw_iconst X (0) dX1_burst_71 rfl ?_
      refine aw_istore X dX1_burst_72 rfl (by decide) ?_
      refine aw_aload_n X dX1_burst_74 rfl ?_
      refine aw_iload_n X dX1_burst_75 rfl ?_
      refine aw_dup2 X dX1_burst_76 rfl rfl ?_
      refine aw_uald X hJ (0) (by decide) (tz (0) (tn (z (hz (i) 2)))) (isG_in c20_3) rfl dX1_burst_77 ?_
      refine aw_iload X dX1_burst_78 rfl ?_
      refine aw_isub X dX1_burst_80 ?_
      refine aw_uast X hJ (0) (by decide) (tz (0) (tn (z (hz (i) 2)))) (isG_in c20_3) rfl dX1_burst_81 (fun μ z_5 ez_5 hJ => ?_)
      refine aw_aload_n X dX1_burst_82 rfl ?_
      refine aw_jget X hJ f_X1_29 rfl dX1_burst_83 ?_
      refine aw_iload_n X dX1_burst_86 rfl ?_
      refine aw_dup2 X dX1_burst_87 rfl rfl ?_
      refine aw_jald X hJ 3 (by decide) (22 + tn (z (hz (i) 2))) (isG_in c20_3) (by rfl) dX1_burst_88 ?_
      refine aw_iload X dX1_burst_89 rfl ?_
      refine aw_iadd X dX1_burst_91 ?_
      refine aw_jast X hJ 3 (by decide) (22 + tn (z (hz (i) 2))) (isG_in c20_3) (by rfl) dX1_burst_92 (fun μ z_6 ez_6 hJ => ?_)
      refine aw_aload_n X dX1_burst_93 rfl ?_
      refine aw_dup X dX1_burst_94 rfl ?_
      refine aw_jget X hJ f_X1_58 rfl dX1_burst_95 ?_
      refine aw_iload X dX1_burst_98 rfl ?_
      refine aw_iadd X dX1_burst_100 ?_
      refine aw_jput X hJ 10 (by decide) (by decide) 8 rfl f_X1_58 (fun h => absurd h (by decide)) dX1_burst_101 (fun μ z_7 ez_7 hJ => ?_)
      refine aw_aload_n X dX1_burst_104 rfl ?_
      refine aw_dup X dX1_burst_105 rfl ?_
      refine aw_jget X hJ f_X1_61 rfl dX1_burst_106 ?_
      refine aw_iload X dX1_burst_109 rfl ?_
      refine aw_iload X dX1_burst_111 rfl ?_
      refine aw_isub X dX1_burst_113 ?_
      refine aw_iadd X dX1_burst_114 ?_
      refine aw_jput X hJ 11 (by decide) (by decide) 9 rfl f_X1_61 (fun h => absurd h (by decide)) dX1_burst_115 (fun μ z_8 ez_8 hJ => ?_)
      exact aw_vret X hQ dX1_burst_118 ⟨rfl, hJ.to (by subst ez_1 ez_2 ez_5 ez_6 ez_7 ez_8; simp [gBurst, c20_3, c52_4])⟩
    · skip
      refine aw_iload X dX1_burst_55 rfl ?_
      refine aw_sipush X (200) dX1_burst_57 rfl ?_
      refine aw_aload_n X dX1_burst_60 rfl ?_
      refine aw_jget X hJ f_X1_58 rfl dX1_burst_61 ?_
      refine aw_isub X dX1_burst_64 ?_
      refine aw_min X l_X1_158 (by exact ⟨by decide, Nat.le_of_ble_eq_true rfl⟩) (by decide) dX1_burst_65 ?_
      refine aw_goto (tgt := 72) X dX1_burst_68 (by decide) ?_
      refine aw_istore X dX1_burst_72 rfl (by decide) ?_
      refine aw_aload_n X dX1_burst_74 rfl ?_
      refine aw_iload_n X dX1_burst_75 rfl ?_
      refine aw_dup2 X dX1_burst_76 rfl rfl ?_
      refine aw_uald X hJ (0) (by decide) (tz (0) (tn (z (hz (i) 2)))) (isG_in c20_3) rfl dX1_burst_77 ?_
      refine aw_iload X dX1_burst_78 rfl ?_
      refine aw_isub X dX1_burst_80 ?_
      refine aw_uast X hJ (0) (by decide) (tz (0) (tn (z (hz (i) 2)))) (isG_in c20_3) rfl dX1_burst_81 (fun μ z_5 ez_5 hJ => ?_)
      refine aw_aload_n X dX1_burst_82 rfl ?_
      refine aw_jget X hJ f_X1_29 rfl dX1_burst_83 ?_
      refine aw_iload_n X dX1_burst_86 rfl ?_
      refine aw_dup2 X dX1_burst_87 rfl rfl ?_
      refine aw_jald X hJ 3 (by decide) (22 + tn (z (hz (i) 2))) (isG_in c20_3) (by rfl) dX1_burst_88 ?_
      refine aw_iload X dX1_burst_89 rfl ?_
      refine aw_iadd X dX1_burst_91 ?_
      refine aw_jast X hJ 3 (by decide) (22 + tn (z (hz (i) 2))) (isG_in c20_3) (by rfl) dX1_burst_92 (fun μ z_6 ez_6 hJ => ?_)
      refine aw_aload_n X dX1_burst_93 rfl ?_
      refine aw_dup X dX1_burst_94 rfl ?_
      refine aw_jget X hJ f_X1_58 rfl dX1_burst_95 ?_
      refine aw_iload X dX1_burst_98 rfl ?_
      refine aw_iadd X dX1_burst_100 ?_
      refine aw_jput X hJ 10 (by decide) (by decide) 8 rfl f_X1_58 (fun h => absurd h (by decide)) dX1_burst_101 (fun μ z_7 ez_7 hJ => ?_)
      refine aw_aload_n X dX1_burst_104 rfl ?_
      refine aw_dup X dX1_burst_105 rfl ?_
      refine aw_jget X hJ f_X1_61 rfl dX1_burst_106 ?_
      refine aw_iload X dX1_burst_109 rfl ?_
      refine aw_iload X dX1_burst_111 rfl ?_
      refine aw_isub X dX1_burst_113 ?_
      refine aw_iadd X dX1_burst_114 ?_
      refine aw_jput X hJ 11 (by decide) (by decide) 9 rfl f_X1_61 (fun h => absurd h (by decide)) dX1_burst_115 (fun μ z_8 ez_8 hJ => ?_)
      exact aw_vret X hQ dX1_burst_118 ⟨rfl, hJ.to (by subst ez_1 ez_2 ez_5 ez_6 ez_7 ez_8; simp [gBurst, c20_3, c52_4])⟩
  · skip
    exact aw_vret X hQ dX1_burst_23 ⟨rfl, hJ.to (by subst ez_1 ez_2; simp [gBurst, c20_3])⟩

set_option maxHeartbeats 4000000 in
set_option maxRecDepth 100000 in
theorem c_X1_tearBoom (l : Launch) (U : xU) (μ0 : xH) (sh : Nat → Nat) (z : xV) (hJ0 : JRep U μ0 sh z) : CtK l U yX1_tearBoom cX1_tearBoom 2 none ({ frames := 2, cells := 0, slots := 0, locals := 43 } : Room) [.ref (sh 0)] μ0 sh (gTear z) := by
  refine Ct.of [some (.ref (sh 0)), none] (by decide +kernel) rfl (Nat.le_of_ble_eq_true rfl) (fun K Q X hnm hQ => ?_)
  have hJ := JR.rf hJ0
  refine aw_aload_n X dX1_tearBoom_0 rfl ?_
  refine aw_aload_n X dX1_tearBoom_1 rfl ?_
  refine aw_jget X hJ f_X1_52 rfl dX1_tearBoom_2 ?_
  refine aw_cVF (As := [.int _]) X (c_X1_tideAt (kl K) U _ sh _ hJ.1 _) s_X1_94 k_X1_tideAt (by decide) ⟨rfl, rfl⟩ ⟨Nat.zero_le _, Nat.zero_le _⟩ rfl (by exact Nat.le_of_ble_eq_true rfl) hJ.g0 rfl dX1_tearBoom_5 ?_
  refine aw_aload_n X dX1_tearBoom_8 rfl ?_
  refine aw_aload_n X dX1_tearBoom_9 rfl ?_
  refine aw_jget X hJ f_X1_52 rfl dX1_tearBoom_10 ?_
  refine aw_iconst X (1) dX1_tearBoom_13 rfl ?_
  refine aw_isub X dX1_tearBoom_14 ?_
  refine aw_cVF (As := [.int _]) X (c_X1_tideAt (kl K) U _ sh _ hJ.1 _) s_X1_94 k_X1_tideAt (by decide) ⟨rfl, rfl⟩ ⟨Nat.zero_le _, Nat.zero_le _⟩ rfl (by exact Nat.le_of_ble_eq_true rfl) hJ.g0 rfl dX1_tearBoom_15 ?_
  refine aw_isub X dX1_tearBoom_18 ?_
  refine aw_abs X l_X1_179 (by exact ⟨by decide, Nat.le_of_ble_eq_true rfl⟩) (by decide) dX1_tearBoom_19 ?_
  refine aw_istore_n X dX1_tearBoom_22 rfl (by decide) ?_
  refine aw_aload_n X dX1_tearBoom_23 rfl ?_
  refine aw_jget X hJ f_X1_55 rfl dX1_tearBoom_24 ?_
  refine aw_if_eq (tgt := 36) X dX1_tearBoom_27 (by decide) (fun c27_1 => ?_) (fun c27_1 => ?_)
  · skip
    exact aw_vret X hQ dX1_tearBoom_36 ⟨rfl, hJ.to (by simp [gTear, c27_1])⟩
  · skip
    refine aw_iload_n X dX1_tearBoom_30 rfl ?_
    refine aw_bipush X (15) dX1_tearBoom_31 rfl ?_
    refine aw_icmp_gt (tgt := 37) X dX1_tearBoom_33 (by decide) (fun c33_2 => ?_) (fun c33_2 => ?_)
    · skip
      refine aw_aload_n X dX1_tearBoom_37 rfl ?_
      refine aw_iconst X (0) dX1_tearBoom_38 rfl ?_
      refine aw_jput X hJ 9 (by decide) (by decide) 7 rfl f_X1_55 (fun _ => by decide) dX1_tearBoom_39 (fun μ z_3 ez_3 hJ => ?_)
      refine aw_aload_n X dX1_tearBoom_42 rfl ?_
      refine aw_dup X dX1_tearBoom_43 rfl ?_
      refine aw_jget X hJ f_X1_61 rfl dX1_tearBoom_44 ?_
      refine aw_aload_n X dX1_tearBoom_47 rfl ?_
      refine aw_jget X hJ f_X1_58 rfl dX1_tearBoom_48 ?_
      refine aw_iadd X dX1_tearBoom_51 ?_
      refine aw_jput X hJ 11 (by decide) (by decide) 9 rfl f_X1_61 (fun h => absurd h (by decide)) dX1_tearBoom_52 (fun μ z_4 ez_4 hJ => ?_)
      refine aw_aload_n X dX1_tearBoom_55 rfl ?_
      refine aw_iconst X (0) dX1_tearBoom_56 rfl ?_
      refine aw_jput X hJ 10 (by decide) (by decide) 8 rfl f_X1_58 (fun h => absurd h (by decide)) dX1_tearBoom_57 (fun μ z_5 ez_5 hJ => ?_)
      exact aw_vret X hQ dX1_tearBoom_60 ⟨rfl, hJ.to (by subst ez_3 ez_4 ez_5; simp [gTear, c27_1, c33_2, Int32.not_le.mpr c33_2])⟩
    · skip
      exact aw_vret X hQ dX1_tearBoom_36 ⟨rfl, hJ.to (by simp [gTear, c27_1, c33_2, Int32.not_lt.mp c33_2])⟩

set_option maxHeartbeats 4000000 in
set_option maxRecDepth 100000 in
theorem c_X1_lateTankers (l : Launch) (U : xU) (μ0 : xH) (sh : Nat → Nat) (z : xV) (hJ0 : JRep U μ0 sh z) : CtF l U yX1_lateTankers cX1_lateTankers 3 (some .int) ({ frames := 1, cells := 0, slots := 0, locals := 21 } : Room) [.ref (sh 0)] μ0 (cLateN z 6) := by
  refine Ct.of [some (.ref (sh 0)), none, none] (by decide +kernel) rfl (Nat.le_of_ble_eq_true rfl) (fun K Q X hnm hQ => ?_)
  have hJ := JR.rf hJ0
  refine aw_iconst X (0) dX1_lateTankers_0 rfl ?_
  refine aw_istore_n X dX1_lateTankers_1 rfl (by decide) ?_
  refine aw_iconst X (0) dX1_lateTankers_2 rfl ?_
  refine aw_istore_n X dX1_lateTankers_3 rfl (by decide) ?_
  have loop : ∀ (d k : Nat) , k + d = 6 → AW U K 3 0 0 Q μ0 4 [some (.ref (sh 0)), some (.int (cLateN z k)), some (.int (nI k))] [] := by
    intro d
    induction d with
    | zero =>
      intro k hk
      have hk : k = 6 := by omega
      subst hk
      refine aw_iload_n X dX1_lateTankers_4 rfl ?_
      refine aw_aload_n X dX1_lateTankers_5 rfl ?_
      refine aw_jget X hJ f_X1_40 rfl dX1_lateTankers_6 ?_
      refine aw_tlen X hJ dX1_lateTankers_9 ?_
      refine aw_icmp_ge_t (tgt := 53) X dX1_lateTankers_10 (by decide) (by decide) ?_
      refine aw_iload_n X dX1_lateTankers_53 rfl ?_
      exact aw_iret X hQ dX1_lateTankers_54 ⟨rfl, rfl⟩
    | succ d ih =>
      intro k hk
      refine aw_iload_n X dX1_lateTankers_4 rfl ?_
      refine aw_aload_n X dX1_lateTankers_5 rfl ?_
      refine aw_jget X hJ f_X1_40 rfl dX1_lateTankers_6 ?_
      refine aw_tlen X hJ dX1_lateTankers_9 ?_
      refine aw_icmp_ge_f (tgt := 53) X dX1_lateTankers_10 (by decide) (xn_le (N := 6) (by omega) (by decide) rfl) ?_
      refine aw_aload_n X dX1_lateTankers_13 rfl ?_
      refine aw_iload_n X dX1_lateTankers_14 rfl ?_
      refine aw_cVF (As := [.int _]) X (c_X1_isTankerAt (kl K) U _ sh _ hJ.1 _) s_X1_200 k_X1_isTankerAt (by decide) ⟨rfl, rfl⟩ ⟨Nat.zero_le _, Nat.zero_le _⟩ rfl (by exact Nat.le_of_ble_eq_true rfl) hJ.g0 rfl dX1_lateTankers_15 ?_
      refine aw_if_eq (tgt := 47) X dX1_lateTankers_18 (by decide) (fun c18_1 => ?_) (fun c18_1 => ?_)
      · skip
        refine aw_iinc X (1) dX1_lateTankers_47 rfl rfl rfl (by decide) ?_
        refine aw_goto (tgt := 4) X dX1_lateTankers_50 (by decide) ?_
        refine aw_sub [some (.ref (sh 0)), some (.int (cLateN z (k + 1))), some (.int (nI (k + 1)))] ⟨rfl, congrArg (fun q => some (Value.int q)) (by simp [cLateN, cLateC, c18_1]), congrArg (fun q => some (Value.int q)) (nI_1 k), trivial⟩ ?_
        exact ih (k + 1) (by omega)
      · skip
        refine aw_aload_n X dX1_lateTankers_21 rfl ?_
        refine aw_jget X hJ f_X1_52 rfl dX1_lateTankers_22 ?_
        refine aw_aload_n X dX1_lateTankers_25 rfl ?_
        refine aw_jget X hJ f_X1_40 rfl dX1_lateTankers_26 ?_
        refine aw_iload_n X dX1_lateTankers_29 rfl ?_
        refine aw_tankAt X hJ (k) (by omega) rfl dX1_lateTankers_30 ?_
        refine aw_tgetC X hJ (k) (by omega) f_X1_113 dX1_lateTankers_31 ?_
        refine aw_isub X dX1_lateTankers_34 ?_
        refine aw_aload_n X dX1_lateTankers_35 rfl ?_
        refine aw_jget X hJ f_X1_18 rfl dX1_lateTankers_36 ?_
        refine aw_iconst X (4) dX1_lateTankers_39 rfl ?_
        refine aw_jald X hJ 0 (by decide) 4 (xin_d rfl) (by decide) dX1_lateTankers_40 ?_
        refine aw_icmp_le (tgt := 47) X dX1_lateTankers_41 (by decide) (fun c41_2 => ?_) (fun c41_2 => ?_)
        · skip
          refine aw_iinc X (1) dX1_lateTankers_47 rfl rfl rfl (by decide) ?_
          refine aw_goto (tgt := 4) X dX1_lateTankers_50 (by decide) ?_
          refine aw_sub [some (.ref (sh 0)), some (.int (cLateN z (k + 1))), some (.int (nI (k + 1)))] ⟨rfl, congrArg (fun q => some (Value.int q)) (by simp [cLateN, cLateC, c18_1, c41_2, Int32.not_lt.mpr c41_2]), congrArg (fun q => some (Value.int q)) (nI_1 k), trivial⟩ ?_
          exact ih (k + 1) (by omega)
        · skip
          refine aw_iinc X (1) dX1_lateTankers_44 rfl rfl rfl (by decide) ?_
          refine aw_iinc X (1) dX1_lateTankers_47 rfl rfl rfl (by decide) ?_
          refine aw_goto (tgt := 4) X dX1_lateTankers_50 (by decide) ?_
          refine aw_sub [some (.ref (sh 0)), some (.int (cLateN z (k + 1))), some (.int (nI (k + 1)))] ⟨rfl, congrArg (fun q => some (Value.int q)) (by simp [cLateN, cLateC, c18_1, c41_2, Int32.not_le.mp c41_2]), congrArg (fun q => some (Value.int q)) (nI_1 k), trivial⟩ ?_
          exact ih (k + 1) (by omega)
  refine aw_sub [some (.ref (sh 0)), some (.int (cLateN z 0)), some (.int (nI 0))] ⟨rfl, rfl, rfl, trivial⟩ ?_
  exact loop (6) 0 (by omega)

set_option maxHeartbeats 4000000 in
set_option maxRecDepth 100000 in
theorem c_X1_unitsInTankers (l : Launch) (U : xU) (μ0 : xH) (sh : Nat → Nat) (z : xV) (hJ0 : JRep U μ0 sh z) (g : Int32) (hg : isG g = true) : CtF l U yX1_unitsInTankers cX1_unitsInTankers 4 (some .int) ({ frames := 1, cells := 0, slots := 0, locals := 21 } : Room) [.ref (sh 0), .int g] μ0 (cUIT z (tn g) 6) := by
  refine Ct.of [some (.ref (sh 0)), some (.int g), none, none] (by decide +kernel) rfl (Nat.le_of_ble_eq_true rfl) (fun K Q X hnm hQ => ?_)
  have hJ := JR.rf hJ0
  refine aw_iconst X (0) dX1_unitsInTankers_0 rfl ?_
  refine aw_istore_n X dX1_unitsInTankers_1 rfl (by decide) ?_
  refine aw_iconst X (0) dX1_unitsInTankers_2 rfl ?_
  refine aw_istore_n X dX1_unitsInTankers_3 rfl (by decide) ?_
  have loop : ∀ (d k : Nat) , k + d = 6 → AW U K 4 0 0 Q μ0 4 [some (.ref (sh 0)), some (.int g), some (.int (cUIT z (tn g) k)), some (.int (nI k))] [] := by
    intro d
    induction d with
    | zero =>
      intro k hk
      have hk : k = 6 := by omega
      subst hk
      refine aw_iload_n X dX1_unitsInTankers_4 rfl ?_
      refine aw_aload_n X dX1_unitsInTankers_5 rfl ?_
      refine aw_jget X hJ f_X1_40 rfl dX1_unitsInTankers_6 ?_
      refine aw_tlen X hJ dX1_unitsInTankers_9 ?_
      refine aw_icmp_ge_t (tgt := 45) X dX1_unitsInTankers_10 (by decide) (by decide) ?_
      refine aw_iload_n X dX1_unitsInTankers_45 rfl ?_
      exact aw_iret X hQ dX1_unitsInTankers_46 ⟨rfl, rfl⟩
    | succ d ih =>
      intro k hk
      refine aw_iload_n X dX1_unitsInTankers_4 rfl ?_
      refine aw_aload_n X dX1_unitsInTankers_5 rfl ?_
      refine aw_jget X hJ f_X1_40 rfl dX1_unitsInTankers_6 ?_
      refine aw_tlen X hJ dX1_unitsInTankers_9 ?_
      refine aw_icmp_ge_f (tgt := 45) X dX1_unitsInTankers_10 (by decide) (xn_le (N := 6) (by omega) (by decide) rfl) ?_
      refine aw_iload_n X dX1_unitsInTankers_13 rfl ?_
      refine aw_aload_n X dX1_unitsInTankers_14 rfl ?_
      refine aw_iload_n X dX1_unitsInTankers_15 rfl ?_
      refine aw_cVF (As := [.int _]) X (c_X1_isTankerAt (kl K) U _ sh _ hJ.1 _) s_X1_200 k_X1_isTankerAt (by decide) ⟨rfl, rfl⟩ ⟨Nat.zero_le _, Nat.zero_le _⟩ rfl (by exact Nat.le_of_ble_eq_true rfl) hJ.g0 rfl dX1_unitsInTankers_16 ?_
      refine aw_if_eq (tgt := 36) X dX1_unitsInTankers_19 (by decide) (fun c19_1 => ?_) (fun c19_1 => ?_)
      · skip
        refine aw_iconst X (0) dX1_unitsInTankers_36 rfl ?_
        refine aw_iadd X dX1_unitsInTankers_37 ?_
        refine aw_istore_n X dX1_unitsInTankers_38 rfl (by decide) ?_
        refine aw_iinc X (1) dX1_unitsInTankers_39 rfl rfl rfl (by decide) ?_
        refine aw_goto (tgt := 4) X dX1_unitsInTankers_42 (by decide) ?_
        refine aw_sub [some (.ref (sh 0)), some (.int g), some (.int (cUIT z (tn g) (k + 1))), some (.int (nI (k + 1)))] ⟨rfl, rfl, congrArg (fun q => some (Value.int q)) (by simp [cUIT, c19_1]), congrArg (fun q => some (Value.int q)) (nI_1 k), trivial⟩ ?_
        exact ih (k + 1) (by omega)
      · skip
        refine aw_aload_n X dX1_unitsInTankers_22 rfl ?_
        refine aw_jget X hJ f_X1_40 rfl dX1_unitsInTankers_23 ?_
        refine aw_iload_n X dX1_unitsInTankers_26 rfl ?_
        refine aw_tankAt X hJ (k) (by omega) rfl dX1_unitsInTankers_27 ?_
        refine aw_tgetU X hJ (k) (by omega) f_X1_110 dX1_unitsInTankers_28 ?_
        refine aw_iload_n X dX1_unitsInTankers_31 rfl ?_
        refine aw_uald X hJ (k) (by omega) (tz (k) (tn g)) (isG_in hg) rfl dX1_unitsInTankers_32 ?_
        refine aw_goto (tgt := 37) X dX1_unitsInTankers_33 (by decide) ?_
        refine aw_iadd X dX1_unitsInTankers_37 ?_
        refine aw_istore_n X dX1_unitsInTankers_38 rfl (by decide) ?_
        refine aw_iinc X (1) dX1_unitsInTankers_39 rfl rfl rfl (by decide) ?_
        refine aw_goto (tgt := 4) X dX1_unitsInTankers_42 (by decide) ?_
        refine aw_sub [some (.ref (sh 0)), some (.int g), some (.int (cUIT z (tn g) (k + 1))), some (.int (nI (k + 1)))] ⟨rfl, rfl, congrArg (fun q => some (Value.int q)) (by simp [cUIT, c19_1]), congrArg (fun q => some (Value.int q)) (nI_1 k), trivial⟩ ?_
        exact ih (k + 1) (by omega)
  refine aw_sub [some (.ref (sh 0)), some (.int g), some (.int (cUIT z (tn g) 0)), some (.int (nI 0))] ⟨rfl, rfl, rfl, rfl, trivial⟩ ?_
  exact loop (6) 0 (by omega)

set_option maxHeartbeats 4000000 in
set_option maxRecDepth 100000 in
theorem c_X1_burstShortHoses (l : Launch) (U : xU) (μ0 : xH) (sh : Nat → Nat) (z : xV) (hJ0 : JRep U μ0 sh z) : CtK l U yX1_burstShortHoses cX1_burstShortHoses 4 none ({ frames := 3, cells := 0, slots := 0, locals := 65 } : Room) [.ref (sh 0)] μ0 sh (gBursts z) := by
  refine Ct.of [some (.ref (sh 0)), none, none, none] (by decide +kernel) rfl (Nat.le_of_ble_eq_true rfl) (fun K Q X hnm hQ => ?_)
  obtain ⟨μ, hμ, hJ⟩ : ∃ μ : xH, μ0 = μ ∧ JR U μ0 μ sh z := ⟨μ0, rfl, JR.rf hJ0⟩
  refine aw_mu hμ ?_
  refine aw_aload_n X dX1_burstShortHoses_0 rfl ?_
  refine aw_jget X hJ f_X1_44 rfl dX1_burstShortHoses_1 ?_
  refine aw_if_ne (tgt := 8) X dX1_burstShortHoses_4 (by decide) (fun c4_1 => ?_) (fun c4_1 => ?_)
  · skip
    refine aw_iconst X (0) dX1_burstShortHoses_8 rfl ?_
    refine aw_istore_n X dX1_burstShortHoses_9 rfl (by decide) ?_
    have loop : ∀ (d k : Nat) (μ : xH) (zc : xV) , k + d = 4 → zc = gShorts z k → JR U μ0 μ sh zc → AW U K 4 0 0 Q μ 10 [some (.ref (sh 0)), some (.int (nI k)), none, none] [] := by
      intro d
      induction d with
      | zero =>
        intro k μ zc hk ezc hJ
        have hk : k = 4 := by omega
        subst hk
        refine aw_iload_n X dX1_burstShortHoses_10 rfl ?_
        refine aw_iconst X (4) dX1_burstShortHoses_11 rfl ?_
        refine aw_icmp_ge_t (tgt := 84) X dX1_burstShortHoses_12 (by decide) (by decide) ?_
        exact aw_vret X hQ dX1_burstShortHoses_84 ⟨rfl, hJ.to (by subst ezc; simp [gBursts, c4_1])⟩
      | succ d ih =>
        intro k μ zc hk ezc hJ
        refine aw_iload_n X dX1_burstShortHoses_10 rfl ?_
        refine aw_iconst X (4) dX1_burstShortHoses_11 rfl ?_
        refine aw_icmp_ge_f (tgt := 84) X dX1_burstShortHoses_12 (by decide) (xn_le (N := 4) (by omega) (by decide) rfl) ?_
        refine aw_aload_n X dX1_burstShortHoses_15 rfl ?_
        refine aw_jget X hJ f_X1_34 rfl dX1_burstShortHoses_16 ?_
        refine aw_iload_n X dX1_burstShortHoses_19 rfl ?_
        refine aw_hoseAt X hJ (k) (by omega) rfl dX1_burstShortHoses_20 ?_
        refine aw_astore_n X dX1_burstShortHoses_21 rfl (by decide) ?_
        refine aw_aload_n X dX1_burstShortHoses_22 rfl ?_
        refine aw_aload_n X dX1_burstShortHoses_23 rfl ?_
        refine aw_jget X hJ f_X1_40 rfl dX1_burstShortHoses_24 ?_
        refine aw_iconst X (0) dX1_burstShortHoses_27 rfl ?_
        refine aw_tankAt X hJ (0) (by decide) (by decide) dX1_burstShortHoses_28 ?_
        refine aw_cVF (As := []) X (c_X3_draught (kl K) U _ sh _ hJ.1 (0) (by decide)) s_X1_116 k_X3_draught (by decide) ⟨rfl, rfl⟩ ⟨Nat.zero_le _, Nat.zero_le _⟩ rfl (by exact Nat.le_of_ble_eq_true rfl) (hJ.gT _ (by decide)) rfl dX1_burstShortHoses_29 ?_
        refine aw_aload_n X dX1_burstShortHoses_32 rfl ?_
        refine aw_jget X hJ f_X1_52 rfl dX1_burstShortHoses_33 ?_
        refine aw_cVF (As := [.int _, .int _]) X (c_X1_heightAt (kl K) U _ sh _ hJ.1 _ _) s_X1_148 k_X1_heightAt (by decide) ⟨rfl, rfl⟩ ⟨Nat.zero_le _, Nat.zero_le _⟩ rfl (by exact Nat.le_of_ble_eq_true rfl) hJ.g0 rfl dX1_burstShortHoses_36 ?_
        refine aw_istore_n X dX1_burstShortHoses_39 rfl (by decide) ?_
        refine aw_aload_n X dX1_burstShortHoses_40 rfl ?_
        refine aw_cVF (As := []) X (c_X0_isConnected (kl K) U _ sh _ hJ.1 (k) (by omega)) s_X1_144 k_X0_isConnected (by decide) ⟨rfl, rfl⟩ ⟨Nat.zero_le _, Nat.zero_le _⟩ rfl (by exact Nat.le_of_ble_eq_true rfl) (hJ.gH _ (by omega)) rfl dX1_burstShortHoses_41 ?_
        refine aw_b_eq (tgt := 78) X dX1_burstShortHoses_44 (by decide) (fun c44_2 => ?_) (fun c44_2 => ?_)
        · skip
          refine aw_iinc X (1) dX1_burstShortHoses_78 rfl rfl rfl (by decide) ?_
          refine aw_goto (tgt := 10) X dX1_burstShortHoses_81 (by decide) ?_
          refine aw_sub [some (.ref (sh 0)), some (.int (nI (k + 1))), none, none] ⟨rfl, congrArg (fun q => some (Value.int q)) (nI_1 k), trivial⟩ ?_
          exact ih (k + 1) μ _ (by omega) (by subst ezc; simp [gShorts, gShort, c4_1, c44_2]) hJ
        · skip
          refine aw_iload_n X dX1_burstShortHoses_47 rfl ?_
          refine aw_aload_n X dX1_burstShortHoses_48 rfl ?_
          refine aw_hget X hJ (k) (by omega) f_X1_135 rfl dX1_burstShortHoses_49 ?_
          refine aw_icmp_gt (tgt := 58) X dX1_burstShortHoses_52 (by decide) (fun c52_3 => ?_) (fun c52_3 => ?_)
          · skip
            refine aw_aload_n X dX1_burstShortHoses_58 rfl ?_
            refine aw_hget X hJ (k) (by omega) f_X1_182 rfl dX1_burstShortHoses_59 ?_
            refine aw_if_eq (tgt := 73) X dX1_burstShortHoses_62 (by decide) (fun c62_4 => ?_) (fun c62_4 => ?_)
            · skip
              refine aw_aload_n X dX1_burstShortHoses_73 rfl ?_
              refine aw_aload_n X dX1_burstShortHoses_74 rfl ?_
              refine aw_cVK (As := [.ref _]) X hJ (c_X1_burst (kl K) U _ sh _ hJ.1 (k) (by omega)) s_X1_185 k_X1_burst (by decide) ⟨rfl, rfl⟩ ⟨Nat.zero_le _, Nat.zero_le _⟩ rfl (by exact Nat.le_of_ble_eq_true rfl) hJ.g0 rfl dX1_burstShortHoses_75 (fun μ z_5 ez_5 hJ => ?_)
              refine aw_iinc X (1) dX1_burstShortHoses_78 rfl rfl rfl (by decide) ?_
              refine aw_goto (tgt := 10) X dX1_burstShortHoses_81 (by decide) ?_
              refine aw_sub [some (.ref (sh 0)), some (.int (nI (k + 1))), none, none] ⟨rfl, congrArg (fun q => some (Value.int q)) (nI_1 k), trivial⟩ ?_
              exact ih (k + 1) μ _ (by omega) (by subst ezc ez_5; simp [gShorts, gShort, c4_1, c44_2, c52_3, Int32.not_le.mpr c52_3, c62_4]) hJ
            · skip
              refine aw_aload_n X dX1_burstShortHoses_65 rfl ?_
              refine aw_iload_n X dX1_burstShortHoses_66 rfl ?_
              refine aw_hput X hJ (k) (by omega) 0 (by decide) (hz (k) 0) rfl f_X1_135 (fun h => absurd h (by decide)) dX1_burstShortHoses_67 (fun μ z_5 ez_5 hJ => ?_)
              refine aw_goto (tgt := 78) X dX1_burstShortHoses_70 (by decide) ?_
              refine aw_iinc X (1) dX1_burstShortHoses_78 rfl rfl rfl (by decide) ?_
              refine aw_goto (tgt := 10) X dX1_burstShortHoses_81 (by decide) ?_
              refine aw_sub [some (.ref (sh 0)), some (.int (nI (k + 1))), none, none] ⟨rfl, congrArg (fun q => some (Value.int q)) (nI_1 k), trivial⟩ ?_
              exact ih (k + 1) μ _ (by omega) (by subst ezc ez_5; simp [gShorts, gShort, c4_1, c44_2, c52_3, Int32.not_le.mpr c52_3, c62_4]) hJ
          · skip
            refine aw_goto (tgt := 78) X dX1_burstShortHoses_55 (by decide) ?_
            refine aw_iinc X (1) dX1_burstShortHoses_78 rfl rfl rfl (by decide) ?_
            refine aw_goto (tgt := 10) X dX1_burstShortHoses_81 (by decide) ?_
            refine aw_sub [some (.ref (sh 0)), some (.int (nI (k + 1))), none, none] ⟨rfl, congrArg (fun q => some (Value.int q)) (nI_1 k), trivial⟩ ?_
            exact ih (k + 1) μ _ (by omega) (by subst ezc; simp [gShorts, gShort, c4_1, c44_2, c52_3, Int32.not_lt.mp c52_3]) hJ
    refine aw_sub [some (.ref (sh 0)), some (.int (nI 0)), none, none] ⟨rfl, rfl, trivial⟩ ?_
    exact loop (4) 0 μ _ (by omega) rfl hJ
  · skip
    exact aw_vret X hQ dX1_burstShortHoses_7 ⟨rfl, hJ.to (by simp [gBursts, c4_1])⟩

set_option maxHeartbeats 4000000 in
set_option maxRecDepth 100000 in
theorem c_X1_moveUnits (l : Launch) (U : xU) (μ0 : xH) (sh : Nat → Nat) (z : xV) (hJ0 : JRep U μ0 sh z) : CtJ l U yX1_moveUnits cX1_moveUnits 3 (some .int) ({ frames := 3, cells := 0, slots := 0, locals := 65 } : Room) [.ref (sh 0)] μ0 sh (gMoveU z).1 (gMoveU z).2 := by
  refine Ct.of [some (.ref (sh 0)), none, none] (by decide +kernel) rfl (Nat.le_of_ble_eq_true rfl) (fun K Q X hnm hQ => ?_)
  obtain ⟨μ, hμ, hJ⟩ : ∃ μ : xH, μ0 = μ ∧ JR U μ0 μ sh z := ⟨μ0, rfl, JR.rf hJ0⟩
  refine aw_mu hμ ?_
  refine aw_aload_n X dX1_moveUnits_0 rfl ?_
  refine aw_jget X hJ f_X1_44 rfl dX1_moveUnits_1 ?_
  refine aw_if_eq (tgt := 34) X dX1_moveUnits_4 (by decide) (fun c4_1 => ?_) (fun c4_1 => ?_)
  · skip
    refine aw_iconst X (0) dX1_moveUnits_34 rfl ?_
    exact aw_iret X hQ dX1_moveUnits_35 ⟨congrArg (fun q => some (Value.int q)) (by simp [gMoveU, c4_1]), hJ.to (by simp [gMoveU, c4_1])⟩
  · skip
    refine aw_aload_n X dX1_moveUnits_7 rfl ?_
    refine aw_jget X hJ f_X1_55 rfl dX1_moveUnits_8 ?_
    refine aw_if_eq (tgt := 34) X dX1_moveUnits_11 (by decide) (fun c11_2 => ?_) (fun c11_2 => ?_)
    · skip
      refine aw_iconst X (0) dX1_moveUnits_34 rfl ?_
      exact aw_iret X hQ dX1_moveUnits_35 ⟨congrArg (fun q => some (Value.int q)) (by simp [gMoveU, c4_1, c11_2]), hJ.to (by simp [gMoveU, c4_1, c11_2])⟩
    · skip
      refine aw_aload_n X dX1_moveUnits_14 rfl ?_
      refine aw_aload_n X dX1_moveUnits_15 rfl ?_
      refine aw_jget X hJ f_X1_40 rfl dX1_moveUnits_16 ?_
      refine aw_iconst X (0) dX1_moveUnits_19 rfl ?_
      refine aw_tankAt X hJ (0) (by decide) (by decide) dX1_moveUnits_20 ?_
      refine aw_cVF (As := []) X (c_X3_draught (kl K) U _ sh _ hJ.1 (0) (by decide)) s_X1_116 k_X3_draught (by decide) ⟨rfl, rfl⟩ ⟨Nat.zero_le _, Nat.zero_le _⟩ rfl (by exact Nat.le_of_ble_eq_true rfl) (hJ.gT _ (by decide)) rfl dX1_moveUnits_21 ?_
      refine aw_aload_n X dX1_moveUnits_24 rfl ?_
      refine aw_jget X hJ f_X1_52 rfl dX1_moveUnits_25 ?_
      refine aw_cVF (As := [.int _, .int _]) X (c_X1_floatsAt (kl K) U _ sh _ hJ.1 _ _) s_X1_120 k_X1_floatsAt (by decide) ⟨rfl, rfl⟩ ⟨Nat.zero_le _, Nat.zero_le _⟩ rfl (by exact Nat.le_of_ble_eq_true rfl) hJ.g0 rfl dX1_moveUnits_28 ?_
      refine aw_b_ne (tgt := 36) X dX1_moveUnits_31 (by decide) (fun c31_3 => ?_) (fun c31_3 => ?_)
      · skip
        refine aw_iconst X (0) dX1_moveUnits_36 rfl ?_
        refine aw_istore_n X dX1_moveUnits_37 rfl (by decide) ?_
        refine aw_iconst X (0) dX1_moveUnits_38 rfl ?_
        refine aw_istore_n X dX1_moveUnits_39 rfl (by decide) ?_
        have loop : ∀ (d k : Nat) (μ : xH) (zc : xV) , k + d = 4 → zc = (gMoves z k).2 → JR U μ0 μ sh zc → AW U K 3 0 0 Q μ 40 [some (.ref (sh 0)), some (.int (gMoves z k).1), some (.int (nI k))] [] := by
          intro d
          induction d with
          | zero =>
            intro k μ zc hk ezc hJ
            have hk : k = 4 := by omega
            subst hk
            refine aw_iload_n X dX1_moveUnits_40 rfl ?_
            refine aw_iconst X (4) dX1_moveUnits_41 rfl ?_
            refine aw_icmp_ge_t (tgt := 64) X dX1_moveUnits_42 (by decide) (by decide) ?_
            refine aw_iload_n X dX1_moveUnits_64 rfl ?_
            exact aw_iret X hQ dX1_moveUnits_65 ⟨congrArg (fun q => some (Value.int q)) (by simp [gMoveU, c4_1, c11_2, c31_3]), hJ.to (by subst ezc; simp [gMoveU, c4_1, c11_2, c31_3])⟩
          | succ d ih =>
            intro k μ zc hk ezc hJ
            refine aw_iload_n X dX1_moveUnits_40 rfl ?_
            refine aw_iconst X (4) dX1_moveUnits_41 rfl ?_
            refine aw_icmp_ge_f (tgt := 64) X dX1_moveUnits_42 (by decide) (xn_le (N := 4) (by omega) (by decide) rfl) ?_
            refine aw_iload_n X dX1_moveUnits_45 rfl ?_
            refine aw_aload_n X dX1_moveUnits_46 rfl ?_
            refine aw_aload_n X dX1_moveUnits_47 rfl ?_
            refine aw_jget X hJ f_X1_34 rfl dX1_moveUnits_48 ?_
            refine aw_iload_n X dX1_moveUnits_51 rfl ?_
            refine aw_hoseAt X hJ (k) (by omega) rfl dX1_moveUnits_52 ?_
            refine aw_cVJ (As := [.ref _]) X hJ (c_X1_moveThrough (kl K) U _ sh _ hJ.1 (k) (by omega)) s_X1_188 k_X1_moveThrough (by decide) ⟨rfl, rfl⟩ ⟨Nat.zero_le _, Nat.zero_le _⟩ rfl (by exact Nat.le_of_ble_eq_true rfl) hJ.g0 rfl dX1_moveUnits_53 (fun μ z_4 ez_4 hJ => ?_)
            refine aw_iadd X dX1_moveUnits_56 ?_
            refine aw_istore_n X dX1_moveUnits_57 rfl (by decide) ?_
            refine aw_iinc X (1) dX1_moveUnits_58 rfl rfl rfl (by decide) ?_
            refine aw_goto (tgt := 40) X dX1_moveUnits_61 (by decide) ?_
            refine aw_sub [some (.ref (sh 0)), some (.int (gMoves z (k + 1)).1), some (.int (nI (k + 1)))] ⟨rfl, congrArg (fun q => some (Value.int q)) (by subst ezc ez_4; rfl), congrArg (fun q => some (Value.int q)) (nI_1 k), trivial⟩ ?_
            exact ih (k + 1) μ _ (by omega) (by subst ezc ez_4; rfl) hJ
        refine aw_sub [some (.ref (sh 0)), some (.int (gMoves z 0).1), some (.int (nI 0))] ⟨rfl, rfl, rfl, trivial⟩ ?_
        exact loop (4) 0 μ _ (by omega) rfl hJ
      · skip
        refine aw_iconst X (0) dX1_moveUnits_34 rfl ?_
        exact aw_iret X hQ dX1_moveUnits_35 ⟨congrArg (fun q => some (Value.int q)) (by simp [gMoveU, c4_1, c11_2, c31_3]), hJ.to (by simp [gMoveU, c4_1, c11_2, c31_3])⟩

set_option maxHeartbeats 4000000 in
set_option maxRecDepth 100000 in
theorem c_X1_nextHour (l : Launch) (U : xU) (μ0 : xH) (sh : Nat → Nat) (z : xV) (hJ0 : JRep U μ0 sh z) : CtJ l U yX1_nextHour cX1_nextHour 2 (some .int) ({ frames := 4, cells := 0, slots := 0, locals := 88 } : Room) [.ref (sh 0)] μ0 sh (gHour z).1 (gHour z).2 := by
  refine Ct.of [some (.ref (sh 0)), none] (by decide +kernel) rfl (Nat.le_of_ble_eq_true rfl) (fun K Q X hnm hQ => ?_)
  have hJ := JR.rf hJ0
  refine aw_aload_n X dX1_nextHour_0 rfl ?_
  refine aw_dup X dX1_nextHour_1 rfl ?_
  refine aw_jget X hJ f_X1_52 rfl dX1_nextHour_2 ?_
  refine aw_iconst X (1) dX1_nextHour_5 rfl ?_
  refine aw_iadd X dX1_nextHour_6 ?_
  refine aw_jput X hJ 8 (by decide) (by decide) 6 rfl f_X1_52 (fun h => absurd h (by decide)) dX1_nextHour_7 (fun μ z_1 ez_1 hJ => ?_)
  refine aw_aload_n X dX1_nextHour_10 rfl ?_
  refine aw_cVK (As := []) X hJ (c_X1_tearBoom (kl K) U _ sh _ hJ.1 ) s_X1_167 k_X1_tearBoom (by decide) ⟨rfl, rfl⟩ ⟨Nat.zero_le _, Nat.zero_le _⟩ rfl (by exact Nat.le_of_ble_eq_true rfl) hJ.g0 rfl dX1_nextHour_11 (fun μ z_2 ez_2 hJ => ?_)
  refine aw_aload_n X dX1_nextHour_14 rfl ?_
  refine aw_cVK (As := []) X hJ (c_X1_burstShortHoses (kl K) U _ sh _ hJ.1 ) s_X1_170 k_X1_burstShortHoses (by decide) ⟨rfl, rfl⟩ ⟨Nat.zero_le _, Nat.zero_le _⟩ rfl (by exact Nat.le_of_ble_eq_true rfl) hJ.g0 rfl dX1_nextHour_15 (fun μ z_3 ez_3 hJ => ?_)
  refine aw_aload_n X dX1_nextHour_18 rfl ?_
  refine aw_cVJ (As := []) X hJ (c_X1_moveUnits (kl K) U _ sh _ hJ.1 ) s_X1_173 k_X1_moveUnits (by decide) ⟨rfl, rfl⟩ ⟨Nat.zero_le _, Nat.zero_le _⟩ rfl (by exact Nat.le_of_ble_eq_true rfl) hJ.g0 rfl dX1_nextHour_19 (fun μ z_4 ez_4 hJ => ?_)
  refine aw_istore_n X dX1_nextHour_22 rfl (by decide) ?_
  refine aw_aload_n X dX1_nextHour_23 rfl ?_
  refine aw_dup X dX1_nextHour_24 rfl ?_
  refine aw_jget X hJ f_X1_67 rfl dX1_nextHour_25 ?_
  refine aw_aload_n X dX1_nextHour_28 rfl ?_
  refine aw_cVF (As := []) X (c_X1_lateTankers (kl K) U _ sh _ hJ.1 ) s_X1_176 k_X1_lateTankers (by decide) ⟨rfl, rfl⟩ ⟨Nat.zero_le _, Nat.zero_le _⟩ rfl (by exact Nat.le_of_ble_eq_true rfl) hJ.g0 rfl dX1_nextHour_29 ?_
  refine aw_aload_n X dX1_nextHour_32 rfl ?_
  refine aw_jget X hJ f_X1_18 rfl dX1_nextHour_33 ?_
  refine aw_iconst X (5) dX1_nextHour_36 rfl ?_
  refine aw_jald X hJ 0 (by decide) 5 (xin_d rfl) (by decide) dX1_nextHour_37 ?_
  refine aw_imul X dX1_nextHour_38 ?_
  refine aw_iadd X dX1_nextHour_39 ?_
  refine aw_jput X hJ 13 (by decide) (by decide) 11 rfl f_X1_67 (fun h => absurd h (by decide)) dX1_nextHour_40 (fun μ z_5 ez_5 hJ => ?_)
  refine aw_iload_n X dX1_nextHour_43 rfl ?_
  exact aw_iret X hQ dX1_nextHour_44 ⟨congrArg (fun q => some (Value.int q)) (by subst ez_1 ez_2 ez_3 ez_4 ez_5; simp [gHour]), hJ.to (by subst ez_1 ez_2 ez_3 ez_4 ez_5; simp [gHour])⟩

set_option maxHeartbeats 4000000 in
set_option maxRecDepth 100000 in
theorem c_X1_letPass (l : Launch) (U : xU) (μ0 : xH) (sh : Nat → Nat) (z : xV) (hJ0 : JRep U μ0 sh z) (n : Int32) : CtJ l U yX1_letPass cX1_letPass 4 (some .int) ({ frames := 5, cells := 0, slots := 0, locals := 109 } : Room) [.ref (sh 0), .int n] μ0 sh (gPass z n).1 (gPass z n).2 := by
  refine Ct.of [some (.ref (sh 0)), some (.int n), none, none] (by decide +kernel) rfl (Nat.le_of_ble_eq_true rfl) (fun K Q X hnm hQ => ?_)
  obtain ⟨μ, hμ, hJ⟩ : ∃ μ : xH, μ0 = μ ∧ JR U μ0 μ sh z := ⟨μ0, rfl, JR.rf hJ0⟩
  refine aw_mu hμ ?_
  refine aw_iload_n X dX1_letPass_0 rfl ?_
  refine aw_iconst X (1) dX1_letPass_1 rfl ?_
  refine aw_icmp_lt (tgt := 11) X dX1_letPass_2 (by decide) (fun c2_1 => ?_) (fun c2_1 => ?_)
  · skip
    refine aw_ldc X dX1_letPass_11 a_X1_98 ?_
    exact aw_iret X hQ dX1_letPass_13 ⟨congrArg (fun q => some (Value.int q)) (by simp [gPass, c2_1, Int32.not_le.mpr c2_1]), hJ.to (by simp [gPass, c2_1, Int32.not_le.mpr c2_1])⟩
  · skip
    refine aw_iload_n X dX1_letPass_5 rfl ?_
    refine aw_bipush X (48) dX1_letPass_6 rfl ?_
    refine aw_icmp_le (tgt := 14) X dX1_letPass_8 (by decide) (fun c8_2 => ?_) (fun c8_2 => ?_)
    · skip
      refine aw_aload_n X dX1_letPass_14 rfl ?_
      refine aw_jget X hJ f_X1_52 rfl dX1_letPass_15 ?_
      refine aw_iload_n X dX1_letPass_18 rfl ?_
      refine aw_iadd X dX1_letPass_19 ?_
      refine aw_sipush X (9999) dX1_letPass_20 rfl ?_
      refine aw_icmp_le (tgt := 29) X dX1_letPass_23 (by decide) (fun c23_3 => ?_) (fun c23_3 => ?_)
      · skip
        refine aw_iconst X (0) dX1_letPass_29 rfl ?_
        refine aw_istore_n X dX1_letPass_30 rfl (by decide) ?_
        refine aw_iconst X (0) dX1_letPass_31 rfl ?_
        refine aw_istore_n X dX1_letPass_32 rfl (by decide) ?_
        have hn : n = nI (tn n) := xhours c2_1 c8_2
        have hn2 : tn n < 2 ^ 31 := Int32.toNatClampNeg_lt n
        have loop : ∀ (d k : Nat) (μ : xH) (zc : xV) , k + d = tn n → zc = (gHours z k).2 → JR U μ0 μ sh zc → AW U K 4 0 0 Q μ 33 [some (.ref (sh 0)), some (.int n), some (.int (gHours z k).1), some (.int (nI k))] [] := by
          intro d
          induction d with
          | zero =>
            intro k μ zc hk ezc hJ
            have hk : k = tn n := by omega
            subst hk
            refine aw_iload_n X dX1_letPass_33 rfl ?_
            refine aw_iload_n X dX1_letPass_34 rfl ?_
            refine aw_icmp_ge_t (tgt := 51) X dX1_letPass_35 (by decide) (by rw [← hn]; exact Int32.le_refl _) ?_
            refine aw_iload_n X dX1_letPass_51 rfl ?_
            exact aw_iret X hQ dX1_letPass_52 ⟨congrArg (fun q => some (Value.int q)) (by simp [gPass, c2_1, Int32.not_lt.mp c2_1, c8_2, Int32.not_lt.mpr c8_2, c23_3, Int32.not_lt.mpr c23_3]), hJ.to (by subst ezc; simp [gPass, c2_1, Int32.not_lt.mp c2_1, c8_2, Int32.not_lt.mpr c8_2, c23_3, Int32.not_lt.mpr c23_3])⟩
          | succ d ih =>
            intro k μ zc hk ezc hJ
            refine aw_iload_n X dX1_letPass_33 rfl ?_
            refine aw_iload_n X dX1_letPass_34 rfl ?_
            refine aw_icmp_ge_f (tgt := 51) X dX1_letPass_35 (by decide) (xn_le (N := tn n) (by omega) hn2 hn) ?_
            refine aw_iload_n X dX1_letPass_38 rfl ?_
            refine aw_aload_n X dX1_letPass_39 rfl ?_
            refine aw_cVJ (As := []) X hJ (c_X1_nextHour (kl K) U _ sh _ hJ.1 ) s_X1_164 k_X1_nextHour (by decide) ⟨rfl, rfl⟩ ⟨Nat.zero_le _, Nat.zero_le _⟩ rfl (by exact Nat.le_of_ble_eq_true rfl) hJ.g0 rfl dX1_letPass_40 (fun μ z_4 ez_4 hJ => ?_)
            refine aw_iadd X dX1_letPass_43 ?_
            refine aw_istore_n X dX1_letPass_44 rfl (by decide) ?_
            refine aw_iinc X (1) dX1_letPass_45 rfl rfl rfl (by decide) ?_
            refine aw_goto (tgt := 33) X dX1_letPass_48 (by decide) ?_
            refine aw_sub [some (.ref (sh 0)), some (.int n), some (.int (gHours z (k + 1)).1), some (.int (nI (k + 1)))] ⟨rfl, rfl, congrArg (fun q => some (Value.int q)) (by subst ezc ez_4; rfl), congrArg (fun q => some (Value.int q)) (nI_1 k), trivial⟩ ?_
            exact ih (k + 1) μ _ (by omega) (by subst ezc ez_4; rfl) hJ
        refine aw_sub [some (.ref (sh 0)), some (.int n), some (.int (gHours z 0).1), some (.int (nI 0))] ⟨rfl, rfl, rfl, rfl, trivial⟩ ?_
        exact loop (tn n) 0 μ _ (by omega) rfl hJ
      · skip
        refine aw_ldc X dX1_letPass_26 a_X1_109 ?_
        exact aw_iret X hQ dX1_letPass_28 ⟨congrArg (fun q => some (Value.int q)) (by simp [gPass, c2_1, Int32.not_lt.mp c2_1, c8_2, Int32.not_lt.mpr c8_2, c23_3, Int32.not_le.mp c23_3]), hJ.to (by simp [gPass, c2_1, Int32.not_lt.mp c2_1, c8_2, Int32.not_lt.mpr c8_2, c23_3, Int32.not_le.mp c23_3])⟩
    · skip
      refine aw_ldc X dX1_letPass_11 a_X1_98 ?_
      exact aw_iret X hQ dX1_letPass_13 ⟨congrArg (fun q => some (Value.int q)) (by simp [gPass, c2_1, Int32.not_lt.mp c2_1, c8_2, Int32.not_le.mp c8_2]), hJ.to (by simp [gPass, c2_1, Int32.not_lt.mp c2_1, c8_2, Int32.not_le.mp c8_2])⟩
end
section
theorem xin_r {x v : Int32} {n : Nat} (e : v = nI n) (hn : n < 2 ^ 31) (h0 : ¬ x < 0) (h1 : x < v) : vp_in x n := by
  obtain ⟨j, hj, rfl⟩ := nI_of h0
  rw [e, nI_ltI hj hn] at h1
  exact vp_in_nI h1 hn
theorem xarr {x v : Int32} (e : v = 0 + (x + 1)) (h0 : ¬ x < 0) (h5 : x < 5) : v = nI (tn v) ∧ tn v < 6 := by
  obtain ⟨j, hj, rfl⟩ := nI_of h0
  rw [show (5 : Int32) = nI 5 from rfl, nI_ltI hj (by decide)] at h5
  rw [nI_1, show (0 : Int32) = nI 0 from rfl, nI_add, Nat.zero_add] at e
  subst e
  rw [tn, nI_clamp (by omega)]
  exact ⟨rfl, by omega⟩
theorem cIsT_in {z : xV} {p : Int32} (h : ¬ cIsT z p = 0) : p = nI (tn p) ∧ tn p < 6 := by
  unfold cIsT at h
  by_cases h0 : p = 0
  · subst h0; decide
  · rw [if_neg h0] at h
    have hb : (decide (0 < p) && decide (p ≤ z 12) && decide (p < 6)) = true := by
      cases hq : (decide (0 < p) && decide (p ≤ z 12) && decide (p < 6))
      · rw [hq] at h; exact absurd rfl h
      · rfl
    simp only [Bool.and_eq_true, decide_eq_true_eq] at hb
    obtain ⟨j, hj, rfl⟩ := nI_of (x := p) (fun q => Int32.lt_irrefl (Int32.lt_trans hb.1.1 q))
    have h6 := hb.2
    rw [show (6 : Int32) = nI 6 from rfl, nI_ltI hj (by decide)] at h6
    rw [tn, nI_clamp hj]
    exact ⟨rfl, h6⟩
theorem xw4 {w : Int32} (h0 : ¬ w < 0) (h7 : w ≤ 7) (h4 : ¬ w = 4) (h5 : ¬ w = 5) (h6 : ¬ w = 6) (h8 : ¬ w = 7) : vp_in w 4 := by
  obtain ⟨j, hj, rfl⟩ := nI_of2 (x := w) (M := 7) (n := 7) rfl h0 h7
  rcases (show j < 4 ∨ j = 4 ∨ j = 5 ∨ j = 6 ∨ j = 7 by omega) with h | rfl | rfl | rfl | rfl
  · exact vp_in_nI h (by decide)
  · exact absurd rfl h4
  · exact absurd rfl h5
  · exact absurd rfl h6
  · exact absurd rfl h8
set_option maxHeartbeats 4000000 in
set_option maxRecDepth 100000 in
theorem c_X1_changeSetting (l : Launch) (U : xU) (μ0 : xH) (sh : Nat → Nat) (z : xV) (hJ0 : JRep U μ0 sh z) (s v : Int32) : CtJ l U yX1_changeSetting cX1_changeSetting 4 (some .int) ({ frames := 0, cells := 0, slots := 0, locals := 0 } : Room) [.ref (sh 0), .int s, .int v] μ0 sh (gSet z s v).1 (gSet z s v).2 := by
  refine Ct.of [some (.ref (sh 0)), some (.int s), some (.int v), none] (by decide +kernel) rfl (Nat.le_of_ble_eq_true rfl) (fun K Q X hnm hQ => ?_)
  have hJ := JR.rf hJ0
  refine aw_iload_n X dX1_changeSetting_0 rfl ?_
  refine aw_if_lt (tgt := 13) X dX1_changeSetting_1 (by decide) (fun c1_1 => ?_) (fun c1_1 => ?_)
  · skip
    refine aw_ldc X dX1_changeSetting_13 a_X1_98 ?_
    exact aw_iret X hQ dX1_changeSetting_15 ⟨congrArg (fun q => some (Value.int q)) (by simp [gSet, c1_1, Int32.not_le.mpr c1_1]), hJ.to (by simp [gSet, c1_1, Int32.not_le.mpr c1_1])⟩
  · skip
    refine aw_iload_n X dX1_changeSetting_4 rfl ?_
    refine aw_aload_n X dX1_changeSetting_5 rfl ?_
    refine aw_jget X hJ f_X1_18 rfl dX1_changeSetting_6 ?_
    refine aw_jlen X hJ 0 (by decide) (v := 6) rfl dX1_changeSetting_9 ?_
    refine aw_icmp_lt (tgt := 16) X dX1_changeSetting_10 (by decide) (fun c10_2 => ?_) (fun c10_2 => ?_)
    · skip
      refine aw_iload_n X dX1_changeSetting_16 rfl ?_
      refine aw_gets X (t := 1) (by decide) (by decide +kernel) dX1_changeSetting_17 ?_
      refine aw_iload_n X dX1_changeSetting_20 rfl ?_
      refine aw_tab X (t := 1) (by decide) (xin_r (n := 6) rfl (by decide) c1_1 c10_2) dX1_changeSetting_21 ?_
      refine aw_icmp_lt (tgt := 34) X dX1_changeSetting_22 (by decide) (fun c22_3 => ?_) (fun c22_3 => ?_)
      · skip
        refine aw_ldc X dX1_changeSetting_34 a_X1_98 ?_
        exact aw_iret X hQ dX1_changeSetting_36 ⟨congrArg (fun q => some (Value.int q)) (by simp [gSet, c1_1, Int32.not_lt.mp c1_1, c10_2, Int32.not_le.mpr c10_2, c22_3, Int32.not_le.mpr c22_3]), hJ.to (by simp [gSet, c1_1, Int32.not_lt.mp c1_1, c10_2, Int32.not_le.mpr c10_2, c22_3, Int32.not_le.mpr c22_3])⟩
      · skip
        refine aw_iload_n X dX1_changeSetting_25 rfl ?_
        refine aw_gets X (t := 2) (by decide) (by decide +kernel) dX1_changeSetting_26 ?_
        refine aw_iload_n X dX1_changeSetting_29 rfl ?_
        refine aw_tab X (t := 2) (by decide) (xin_r (n := 6) rfl (by decide) c1_1 c10_2) dX1_changeSetting_30 ?_
        refine aw_icmp_le (tgt := 37) X dX1_changeSetting_31 (by decide) (fun c31_4 => ?_) (fun c31_4 => ?_)
        · skip
          refine aw_aload_n X dX1_changeSetting_37 rfl ?_
          refine aw_jget X hJ f_X1_18 rfl dX1_changeSetting_38 ?_
          refine aw_iload_n X dX1_changeSetting_41 rfl ?_
          refine aw_jald X hJ 0 (by decide) (tn s) (xin_r (n := 6) rfl (by decide) c1_1 c10_2) (Nat.zero_add _) dX1_changeSetting_42 ?_
          refine aw_istore_n X dX1_changeSetting_43 rfl (by decide) ?_
          refine aw_aload_n X dX1_changeSetting_44 rfl ?_
          refine aw_jget X hJ f_X1_18 rfl dX1_changeSetting_45 ?_
          refine aw_iload_n X dX1_changeSetting_48 rfl ?_
          refine aw_iload_n X dX1_changeSetting_49 rfl ?_
          refine aw_jast X hJ 0 (by decide) (tn s) (xin_r (n := 6) rfl (by decide) c1_1 c10_2) (Nat.zero_add _) dX1_changeSetting_50 (fun μ z_5 ez_5 hJ => ?_)
          refine aw_iload_n X dX1_changeSetting_51 rfl ?_
          exact aw_iret X hQ dX1_changeSetting_52 ⟨congrArg (fun q => some (Value.int q)) (by subst ez_5; simp [gSet, c1_1, Int32.not_lt.mp c1_1, c10_2, Int32.not_le.mpr c10_2, c22_3, Int32.not_lt.mp c22_3, c31_4, Int32.not_lt.mpr c31_4]), hJ.to (by subst ez_5; simp [gSet, c1_1, Int32.not_lt.mp c1_1, c10_2, Int32.not_le.mpr c10_2, c22_3, Int32.not_lt.mp c22_3, c31_4, Int32.not_lt.mpr c31_4])⟩
        · skip
          refine aw_ldc X dX1_changeSetting_34 a_X1_98 ?_
          exact aw_iret X hQ dX1_changeSetting_36 ⟨congrArg (fun q => some (Value.int q)) (by simp [gSet, c1_1, Int32.not_lt.mp c1_1, c10_2, Int32.not_le.mpr c10_2, c22_3, Int32.not_lt.mp c22_3, c31_4, Int32.not_le.mp c31_4]), hJ.to (by simp [gSet, c1_1, Int32.not_lt.mp c1_1, c10_2, Int32.not_le.mpr c10_2, c22_3, Int32.not_lt.mp c22_3, c31_4, Int32.not_le.mp c31_4])⟩
    · skip
      refine aw_ldc X dX1_changeSetting_13 a_X1_98 ?_
      exact aw_iret X hQ dX1_changeSetting_15 ⟨congrArg (fun q => some (Value.int q)) (by simp [gSet, c1_1, Int32.not_lt.mp c1_1, c10_2, Int32.not_lt.mp c10_2]), hJ.to (by simp [gSet, c1_1, Int32.not_lt.mp c1_1, c10_2, Int32.not_lt.mp c10_2])⟩

set_option maxHeartbeats 4000000 in
set_option maxRecDepth 100000 in
theorem c_X1_letArrive (l : Launch) (U : xU) (μ0 : xH) (sh : Nat → Nat) (z : xV) (hJ0 : JRep U μ0 sh z) (a b c d : Int32) : CtJ l U yX1_letArrive cX1_letArrive 6 (some .int) ({ frames := 1, cells := 0, slots := 0, locals := 20 } : Room) [.ref (sh 0), .int a, .int b, .int c, .int d] μ0 sh (gArrive z a b c d).1 (gArrive z a b c d).2 := by
  refine Ct.of [some (.ref (sh 0)), some (.int a), some (.int b), some (.int c), some (.int d), none] (by decide +kernel) rfl (Nat.le_of_ble_eq_true rfl) (fun K Q X hnm hQ => ?_)
  have hJ := JR.rf hJ0
  refine aw_iload_n X dX1_letArrive_0 rfl ?_
  refine aw_cSF (As := [.int _]) X (c_X1_isLoad (kl K) U _ _) s_X1_105 k_X1_isLoad (by decide) ⟨rfl, rfl⟩ ⟨Nat.zero_le _, Nat.zero_le _⟩ rfl (by exact Nat.le_of_ble_eq_true rfl) dX1_letArrive_1 ?_
  refine aw_b_eq (tgt := 40) X dX1_letArrive_4 (by decide) (fun c4_1 => ?_) (fun c4_1 => ?_)
  · skip
    refine aw_ldc X dX1_letArrive_40 a_X1_98 ?_
    exact aw_iret X hQ dX1_letArrive_42 ⟨congrArg (fun q => some (Value.int q)) (by simp [gArrive, c4_1]), hJ.to (by simp [gArrive, c4_1])⟩
  · skip
    refine aw_iload_n X dX1_letArrive_7 rfl ?_
    refine aw_cSF (As := [.int _]) X (c_X1_isLoad (kl K) U _ _) s_X1_105 k_X1_isLoad (by decide) ⟨rfl, rfl⟩ ⟨Nat.zero_le _, Nat.zero_le _⟩ rfl (by exact Nat.le_of_ble_eq_true rfl) dX1_letArrive_8 ?_
    refine aw_b_eq (tgt := 40) X dX1_letArrive_11 (by decide) (fun c11_2 => ?_) (fun c11_2 => ?_)
    · skip
      refine aw_ldc X dX1_letArrive_40 a_X1_98 ?_
      exact aw_iret X hQ dX1_letArrive_42 ⟨congrArg (fun q => some (Value.int q)) (by simp [gArrive, c4_1, c11_2]), hJ.to (by simp [gArrive, c4_1, c11_2])⟩
    · skip
      refine aw_iload_n X dX1_letArrive_14 rfl ?_
      refine aw_cSF (As := [.int _]) X (c_X1_isLoad (kl K) U _ _) s_X1_105 k_X1_isLoad (by decide) ⟨rfl, rfl⟩ ⟨Nat.zero_le _, Nat.zero_le _⟩ rfl (by exact Nat.le_of_ble_eq_true rfl) dX1_letArrive_15 ?_
      refine aw_b_eq (tgt := 40) X dX1_letArrive_18 (by decide) (fun c18_3 => ?_) (fun c18_3 => ?_)
      · skip
        refine aw_ldc X dX1_letArrive_40 a_X1_98 ?_
        exact aw_iret X hQ dX1_letArrive_42 ⟨congrArg (fun q => some (Value.int q)) (by simp [gArrive, c4_1, c11_2, c18_3]), hJ.to (by simp [gArrive, c4_1, c11_2, c18_3])⟩
      · skip
        refine aw_iload X dX1_letArrive_21 rfl ?_
        refine aw_cSF (As := [.int _]) X (c_X1_isLoad (kl K) U _ _) s_X1_105 k_X1_isLoad (by decide) ⟨rfl, rfl⟩ ⟨Nat.zero_le _, Nat.zero_le _⟩ rfl (by exact Nat.le_of_ble_eq_true rfl) dX1_letArrive_23 ?_
        refine aw_b_eq (tgt := 40) X dX1_letArrive_26 (by decide) (fun c26_4 => ?_) (fun c26_4 => ?_)
        · skip
          refine aw_ldc X dX1_letArrive_40 a_X1_98 ?_
          exact aw_iret X hQ dX1_letArrive_42 ⟨congrArg (fun q => some (Value.int q)) (by simp [gArrive, c4_1, c11_2, c18_3, c26_4]), hJ.to (by simp [gArrive, c4_1, c11_2, c18_3, c26_4])⟩
        · skip
          refine aw_iload_n X dX1_letArrive_29 rfl ?_
          refine aw_iload_n X dX1_letArrive_30 rfl ?_
          refine aw_iadd X dX1_letArrive_31 ?_
          refine aw_iload_n X dX1_letArrive_32 rfl ?_
          refine aw_iadd X dX1_letArrive_33 ?_
          refine aw_iload X dX1_letArrive_34 rfl ?_
          refine aw_iadd X dX1_letArrive_36 ?_
          refine aw_if_ne (tgt := 43) X dX1_letArrive_37 (by decide) (fun c37_5 => ?_) (fun c37_5 => ?_)
          · skip
            refine aw_aload_n X dX1_letArrive_43 rfl ?_
            refine aw_jget X hJ f_X1_48 rfl dX1_letArrive_44 ?_
            refine aw_if_lt (tgt := 58) X dX1_letArrive_47 (by decide) (fun c47_6 => ?_) (fun c47_6 => ?_)
            · skip
              refine aw_ldc X dX1_letArrive_58 a_X1_109 ?_
              exact aw_iret X hQ dX1_letArrive_60 ⟨congrArg (fun q => some (Value.int q)) (by simp [gArrive, c4_1, c11_2, c18_3, c26_4, c37_5, c47_6, Int32.not_le.mpr c47_6]), hJ.to (by simp [gArrive, c4_1, c11_2, c18_3, c26_4, c37_5, c47_6, Int32.not_le.mpr c47_6])⟩
            · skip
              refine aw_aload_n X dX1_letArrive_50 rfl ?_
              refine aw_jget X hJ f_X1_48 rfl dX1_letArrive_51 ?_
              refine aw_iconst X (5) dX1_letArrive_54 rfl ?_
              refine aw_icmp_lt (tgt := 61) X dX1_letArrive_55 (by decide) (fun c55_7 => ?_) (fun c55_7 => ?_)
              · skip
                refine aw_aload_n X dX1_letArrive_61 rfl ?_
                refine aw_dup X dX1_letArrive_62 rfl ?_
                refine aw_jget X hJ f_X1_48 rfl dX1_letArrive_63 ?_
                refine aw_iconst X (1) dX1_letArrive_66 rfl ?_
                refine aw_iadd X dX1_letArrive_67 ?_
                refine aw_jput X hJ 7 (by decide) (by decide) 12 rfl f_X1_48 (fun h => absurd h (by decide)) dX1_letArrive_68 (fun μ z_8 ez_8 hJ => ?_)
                refine aw_aload_n X dX1_letArrive_71 rfl ?_
                refine aw_jget X hJ f_X1_40 rfl dX1_letArrive_72 ?_
                refine aw_iconst X (0) dX1_letArrive_75 rfl ?_
                refine aw_aload_n X dX1_letArrive_76 rfl ?_
                refine aw_jget X hJ f_X1_48 rfl dX1_letArrive_77 ?_
                refine aw_iadd X dX1_letArrive_80 ?_
                have hw : z_8 12 = z 12 + 1 := by subst ez_8; exact upd_s
                have hp := xarr (v := 0 + z_8 12) (by rw [hw]) c47_6 c55_7
                refine aw_tankAt X hJ (tn (0 + z_8 12)) hp.2 hp.1 dX1_letArrive_81 ?_
                refine aw_astore X dX1_letArrive_82 rfl (by decide) ?_
                refine aw_aload X dX1_letArrive_84 rfl ?_
                refine aw_tgetU X hJ (tn (0 + z_8 12)) hp.2 f_X1_110 dX1_letArrive_86 ?_
                refine aw_iconst X (0) dX1_letArrive_89 rfl ?_
                refine aw_iload_n X dX1_letArrive_90 rfl ?_
                refine aw_uast X hJ (tn (0 + z_8 12)) hp.2 (tz (tn (0 + z_8 12)) 0) (xin_d rfl) rfl dX1_letArrive_91 (fun μ z_9 ez_9 hJ => ?_)
                refine aw_aload X dX1_letArrive_92 rfl ?_
                refine aw_tgetU X hJ (tn (0 + z_8 12)) hp.2 f_X1_110 dX1_letArrive_94 ?_
                refine aw_iconst X (1) dX1_letArrive_97 rfl ?_
                refine aw_iload_n X dX1_letArrive_98 rfl ?_
                refine aw_uast X hJ (tn (0 + z_8 12)) hp.2 (tz (tn (0 + z_8 12)) 1) (xin_d rfl) rfl dX1_letArrive_99 (fun μ z_10 ez_10 hJ => ?_)
                refine aw_aload X dX1_letArrive_100 rfl ?_
                refine aw_tgetU X hJ (tn (0 + z_8 12)) hp.2 f_X1_110 dX1_letArrive_102 ?_
                refine aw_iconst X (2) dX1_letArrive_105 rfl ?_
                refine aw_iload_n X dX1_letArrive_106 rfl ?_
                refine aw_uast X hJ (tn (0 + z_8 12)) hp.2 (tz (tn (0 + z_8 12)) 2) (xin_d rfl) rfl dX1_letArrive_107 (fun μ z_11 ez_11 hJ => ?_)
                refine aw_aload X dX1_letArrive_108 rfl ?_
                refine aw_tgetU X hJ (tn (0 + z_8 12)) hp.2 f_X1_110 dX1_letArrive_110 ?_
                refine aw_iconst X (3) dX1_letArrive_113 rfl ?_
                refine aw_iload X dX1_letArrive_114 rfl ?_
                refine aw_uast X hJ (tn (0 + z_8 12)) hp.2 (tz (tn (0 + z_8 12)) 3) (xin_d rfl) rfl dX1_letArrive_116 (fun μ z_12 ez_12 hJ => ?_)
                refine aw_aload X dX1_letArrive_117 rfl ?_
                refine aw_aload_n X dX1_letArrive_119 rfl ?_
                refine aw_jget X hJ f_X1_52 rfl dX1_letArrive_120 ?_
                refine aw_tputC X hJ (tn (0 + z_8 12)) hp.2 f_X1_113 dX1_letArrive_123 (fun μ z_13 ez_13 hJ => ?_)
                refine aw_aload_n X dX1_letArrive_126 rfl ?_
                refine aw_jget X hJ f_X1_48 rfl dX1_letArrive_127 ?_
                exact aw_iret X hQ dX1_letArrive_130 ⟨congrArg (fun q => some (Value.int q)) (by subst ez_8 ez_9 ez_10 ez_11 ez_12 ez_13; simp [gArrive, c4_1, c11_2, c18_3, c26_4, c37_5, c47_6, Int32.not_lt.mp c47_6, c55_7, Int32.not_le.mpr c55_7]), hJ.to (by subst ez_8 ez_9 ez_10 ez_11 ez_12 ez_13; simp [gArrive, c4_1, c11_2, c18_3, c26_4, c37_5, c47_6, Int32.not_lt.mp c47_6, c55_7, Int32.not_le.mpr c55_7])⟩
              · skip
                refine aw_ldc X dX1_letArrive_58 a_X1_109 ?_
                exact aw_iret X hQ dX1_letArrive_60 ⟨congrArg (fun q => some (Value.int q)) (by simp [gArrive, c4_1, c11_2, c18_3, c26_4, c37_5, c47_6, Int32.not_lt.mp c47_6, c55_7, Int32.not_lt.mp c55_7]), hJ.to (by simp [gArrive, c4_1, c11_2, c18_3, c26_4, c37_5, c47_6, Int32.not_lt.mp c47_6, c55_7, Int32.not_lt.mp c55_7])⟩
          · skip
            refine aw_ldc X dX1_letArrive_40 a_X1_98 ?_
            exact aw_iret X hQ dX1_letArrive_42 ⟨congrArg (fun q => some (Value.int q)) (by simp [gArrive, c4_1, c11_2, c18_3, c26_4, c37_5]), hJ.to (by simp [gArrive, c4_1, c11_2, c18_3, c26_4, c37_5])⟩

set_option maxHeartbeats 4000000 in
set_option maxRecDepth 100000 in
theorem c_X1_letLeave (l : Launch) (U : xU) (μ0 : xH) (sh : Nat → Nat) (z : xV) (hJ0 : JRep U μ0 sh z) : CtJ l U yX1_letLeave cX1_letLeave 1 (some .int) ({ frames := 3, cells := 0, slots := 0, locals := 65 } : Room) [.ref (sh 0)] μ0 sh (gLeave z).1 (gLeave z).2 := by
  refine Ct.of [some (.ref (sh 0))] (by decide +kernel) rfl (Nat.le_of_ble_eq_true rfl) (fun K Q X hnm hQ => ?_)
  have hJ := JR.rf hJ0
  refine aw_aload_n X dX1_letLeave_0 rfl ?_
  refine aw_jget X hJ f_X1_44 rfl dX1_letLeave_1 ?_
  refine aw_if_eq (tgt := 34) X dX1_letLeave_4 (by decide) (fun c4_1 => ?_) (fun c4_1 => ?_)
  · skip
    refine aw_ldc X dX1_letLeave_34 a_X1_124 ?_
    exact aw_iret X hQ dX1_letLeave_36 ⟨congrArg (fun q => some (Value.int q)) (by simp [gLeave, c4_1]), hJ.to (by simp [gLeave, c4_1])⟩
  · skip
    refine aw_aload_n X dX1_letLeave_7 rfl ?_
    refine aw_aload_n X dX1_letLeave_8 rfl ?_
    refine aw_jget X hJ f_X1_40 rfl dX1_letLeave_9 ?_
    refine aw_iconst X (0) dX1_letLeave_12 rfl ?_
    refine aw_tankAt X hJ (0) (by decide) (by decide) dX1_letLeave_13 ?_
    refine aw_cVF (As := []) X (c_X3_draught (kl K) U _ sh _ hJ.1 (0) (by decide)) s_X1_116 k_X3_draught (by decide) ⟨rfl, rfl⟩ ⟨Nat.zero_le _, Nat.zero_le _⟩ rfl (by exact Nat.le_of_ble_eq_true rfl) (hJ.gT _ (by decide)) rfl dX1_letLeave_14 ?_
    refine aw_aload_n X dX1_letLeave_17 rfl ?_
    refine aw_jget X hJ f_X1_52 rfl dX1_letLeave_18 ?_
    refine aw_cVF (As := [.int _, .int _]) X (c_X1_floatsAt (kl K) U _ sh _ hJ.1 _ _) s_X1_120 k_X1_floatsAt (by decide) ⟨rfl, rfl⟩ ⟨Nat.zero_le _, Nat.zero_le _⟩ rfl (by exact Nat.le_of_ble_eq_true rfl) hJ.g0 rfl dX1_letLeave_21 ?_
    refine aw_b_eq (tgt := 34) X dX1_letLeave_24 (by decide) (fun c24_2 => ?_) (fun c24_2 => ?_)
    · skip
      refine aw_ldc X dX1_letLeave_34 a_X1_124 ?_
      exact aw_iret X hQ dX1_letLeave_36 ⟨congrArg (fun q => some (Value.int q)) (by simp [gLeave, c4_1, c24_2]), hJ.to (by simp [gLeave, c4_1, c24_2])⟩
    · skip
      refine aw_aload_n X dX1_letLeave_27 rfl ?_
      refine aw_cVF (As := []) X (c_X1_connectedHoses (kl K) U _ sh _ hJ.1 ) s_X1_128 k_X1_connectedHoses (by decide) ⟨rfl, rfl⟩ ⟨Nat.zero_le _, Nat.zero_le _⟩ rfl (by exact Nat.le_of_ble_eq_true rfl) hJ.g0 rfl dX1_letLeave_28 ?_
      refine aw_if_le (tgt := 37) X dX1_letLeave_31 (by decide) (fun c31_3 => ?_) (fun c31_3 => ?_)
      · skip
        refine aw_aload_n X dX1_letLeave_37 rfl ?_
        refine aw_iconst X (0) dX1_letLeave_38 rfl ?_
        refine aw_jput X hJ 6 (by decide) (by decide) 13 rfl f_X1_44 (fun _ => by decide) dX1_letLeave_39 (fun μ z_4 ez_4 hJ => ?_)
        refine aw_aload_n X dX1_letLeave_42 rfl ?_
        refine aw_jget X hJ f_X1_40 rfl dX1_letLeave_43 ?_
        refine aw_iconst X (0) dX1_letLeave_46 rfl ?_
        refine aw_tankAt X hJ (0) (by decide) (by decide) dX1_letLeave_47 ?_
        refine aw_cVF (As := []) X (c_X3_allUnits (kl K) U _ sh _ hJ.1 (0) (by decide)) s_X1_125 k_X3_allUnits (by decide) ⟨rfl, rfl⟩ ⟨Nat.zero_le _, Nat.zero_le _⟩ rfl (by exact Nat.le_of_ble_eq_true rfl) (hJ.gT _ (by decide)) rfl dX1_letLeave_48 ?_
        exact aw_iret X hQ dX1_letLeave_51 ⟨congrArg (fun q => some (Value.int q)) (by subst ez_4; simp [gLeave, c4_1, c24_2, c31_3, Int32.not_lt.mpr c31_3]), hJ.to (by subst ez_4; simp [gLeave, c4_1, c24_2, c31_3, Int32.not_lt.mpr c31_3])⟩
      · skip
        refine aw_ldc X dX1_letLeave_34 a_X1_124 ?_
        exact aw_iret X hQ dX1_letLeave_36 ⟨congrArg (fun q => some (Value.int q)) (by simp [gLeave, c4_1, c24_2, c31_3, Int32.not_le.mp c31_3]), hJ.to (by simp [gLeave, c4_1, c24_2, c31_3, Int32.not_le.mp c31_3])⟩

set_option maxHeartbeats 4000000 in
set_option maxRecDepth 100000 in
theorem c_X1_changeReach (l : Launch) (U : xU) (μ0 : xH) (sh : Nat → Nat) (z : xV) (hJ0 : JRep U μ0 sh z) (h v : Int32) : CtJ l U yX1_changeReach cX1_changeReach 4 (some .int) ({ frames := 1, cells := 0, slots := 0, locals := 20 } : Room) [.ref (sh 0), .int h, .int v] μ0 sh (gReach z h v).1 (gReach z h v).2 := by
  refine Ct.of [some (.ref (sh 0)), some (.int h), some (.int v), none] (by decide +kernel) rfl (Nat.le_of_ble_eq_true rfl) (fun K Q X hnm hQ => ?_)
  have hJ := JR.rf hJ0
  refine aw_iload_n X dX1_changeReach_0 rfl ?_
  refine aw_cSNF (As := [.int _]) X (c_X4_isHose (kl K) U _ _) s_X1_131 k_X4_isHose (by decide) ⟨rfl, rfl⟩ ⟨Nat.zero_le _, Nat.zero_le _⟩ rfl (by exact Nat.le_of_ble_eq_true rfl) dX1_changeReach_1 ?_
  refine aw_b_ne (tgt := 10) X dX1_changeReach_4 (by decide) (fun c4_1 => ?_) (fun c4_1 => ?_)
  · skip
    refine aw_iload_n X dX1_changeReach_10 rfl ?_
    refine aw_bipush X (20) dX1_changeReach_11 rfl ?_
    refine aw_icmp_lt (tgt := 22) X dX1_changeReach_13 (by decide) (fun c13_2 => ?_) (fun c13_2 => ?_)
    · skip
      refine aw_ldc X dX1_changeReach_22 a_X1_98 ?_
      exact aw_iret X hQ dX1_changeReach_24 ⟨congrArg (fun q => some (Value.int q)) (by simp [gReach, c4_1, c13_2, Int32.not_le.mpr c13_2]), hJ.to (by simp [gReach, c4_1, c13_2, Int32.not_le.mpr c13_2])⟩
    · skip
      refine aw_iload_n X dX1_changeReach_16 rfl ?_
      refine aw_bipush X (120) dX1_changeReach_17 rfl ?_
      refine aw_icmp_le (tgt := 25) X dX1_changeReach_19 (by decide) (fun c19_3 => ?_) (fun c19_3 => ?_)
      · skip
        refine aw_aload_n X dX1_changeReach_25 rfl ?_
        refine aw_jget X hJ f_X1_34 rfl dX1_changeReach_26 ?_
        refine aw_iload_n X dX1_changeReach_29 rfl ?_
        refine aw_hoseAt X hJ (tn h) (isG_tn c4_1) (isG_hv c4_1) dX1_changeReach_30 ?_
        refine aw_hget X hJ (tn h) (isG_tn c4_1) f_X1_135 rfl dX1_changeReach_31 ?_
        refine aw_istore_n X dX1_changeReach_34 rfl (by decide) ?_
        refine aw_aload_n X dX1_changeReach_35 rfl ?_
        refine aw_jget X hJ f_X1_34 rfl dX1_changeReach_36 ?_
        refine aw_iload_n X dX1_changeReach_39 rfl ?_
        refine aw_hoseAt X hJ (tn h) (isG_tn c4_1) (isG_hv c4_1) dX1_changeReach_40 ?_
        refine aw_iload_n X dX1_changeReach_41 rfl ?_
        refine aw_hput X hJ (tn h) (isG_tn c4_1) 0 (by decide) (hz (tn h) 0) rfl f_X1_135 (fun h => absurd h (by decide)) dX1_changeReach_42 (fun μ z_4 ez_4 hJ => ?_)
        refine aw_iload_n X dX1_changeReach_45 rfl ?_
        exact aw_iret X hQ dX1_changeReach_46 ⟨congrArg (fun q => some (Value.int q)) (by subst ez_4; simp [gReach, c4_1, c13_2, Int32.not_lt.mp c13_2, c19_3, Int32.not_lt.mpr c19_3]), hJ.to (by subst ez_4; simp [gReach, c4_1, c13_2, Int32.not_lt.mp c13_2, c19_3, Int32.not_lt.mpr c19_3])⟩
      · skip
        refine aw_ldc X dX1_changeReach_22 a_X1_98 ?_
        exact aw_iret X hQ dX1_changeReach_24 ⟨congrArg (fun q => some (Value.int q)) (by simp [gReach, c4_1, c13_2, Int32.not_lt.mp c13_2, c19_3, Int32.not_le.mp c19_3]), hJ.to (by simp [gReach, c4_1, c13_2, Int32.not_lt.mp c13_2, c19_3, Int32.not_le.mp c19_3])⟩
  · skip
    refine aw_ldc X dX1_changeReach_7 a_X1_134 ?_
    exact aw_iret X hQ dX1_changeReach_9 ⟨congrArg (fun q => some (Value.int q)) (by simp [gReach, c4_1]), hJ.to (by simp [gReach, c4_1])⟩

set_option maxHeartbeats 4000000 in
set_option maxRecDepth 100000 in
theorem c_X1_connectHose (l : Launch) (U : xU) (μ0 : xH) (sh : Nat → Nat) (z : xV) (hJ0 : JRep U μ0 sh z) (h g : Int32) : CtJ l U yX1_connectHose cX1_connectHose 4 (some .int) ({ frames := 3, cells := 0, slots := 0, locals := 65 } : Room) [.ref (sh 0), .int h, .int g] μ0 sh (gConnect z h g).1 (gConnect z h g).2 := by
  refine Ct.of [some (.ref (sh 0)), some (.int h), some (.int g), none] (by decide +kernel) rfl (Nat.le_of_ble_eq_true rfl) (fun K Q X hnm hQ => ?_)
  have hJ := JR.rf hJ0
  refine aw_iload_n X dX1_connectHose_0 rfl ?_
  refine aw_cSNF (As := [.int _]) X (c_X4_isHose (kl K) U _ _) s_X1_131 k_X4_isHose (by decide) ⟨rfl, rfl⟩ ⟨Nat.zero_le _, Nat.zero_le _⟩ rfl (by exact Nat.le_of_ble_eq_true rfl) dX1_connectHose_1 ?_
  refine aw_b_eq (tgt := 14) X dX1_connectHose_4 (by decide) (fun c4_1 => ?_) (fun c4_1 => ?_)
  · skip
    refine aw_ldc X dX1_connectHose_14 a_X1_134 ?_
    exact aw_iret X hQ dX1_connectHose_16 ⟨congrArg (fun q => some (Value.int q)) (by simp [gConnect, c4_1]), hJ.to (by simp [gConnect, c4_1])⟩
  · skip
    refine aw_iload_n X dX1_connectHose_7 rfl ?_
    refine aw_cSNF (As := [.int _]) X (c_X4_isGrade (kl K) U _ _) s_X1_138 k_X4_isGrade (by decide) ⟨rfl, rfl⟩ ⟨Nat.zero_le _, Nat.zero_le _⟩ rfl (by exact Nat.le_of_ble_eq_true rfl) dX1_connectHose_8 ?_
    refine aw_b_ne (tgt := 17) X dX1_connectHose_11 (by decide) (fun c11_2 => ?_) (fun c11_2 => ?_)
    · skip
      refine aw_aload_n X dX1_connectHose_17 rfl ?_
      refine aw_jget X hJ f_X1_34 rfl dX1_connectHose_18 ?_
      refine aw_iload_n X dX1_connectHose_21 rfl ?_
      refine aw_hoseAt X hJ (tn h) (isG_tn c4_1) (isG_hv c4_1) dX1_connectHose_22 ?_
      refine aw_astore_n X dX1_connectHose_23 rfl (by decide) ?_
      refine aw_aload_n X dX1_connectHose_24 rfl ?_
      refine aw_jget X hJ f_X1_44 rfl dX1_connectHose_25 ?_
      refine aw_if_eq (tgt := 45) X dX1_connectHose_28 (by decide) (fun c28_3 => ?_) (fun c28_3 => ?_)
      · skip
        refine aw_ldc X dX1_connectHose_45 a_X1_124 ?_
        exact aw_iret X hQ dX1_connectHose_47 ⟨congrArg (fun q => some (Value.int q)) (by simp [gConnect, c4_1, c11_2, c28_3]), hJ.to (by simp [gConnect, c4_1, c11_2, c28_3])⟩
      · skip
        refine aw_aload_n X dX1_connectHose_31 rfl ?_
        refine aw_hget X hJ (tn h) (isG_tn c4_1) f_X1_141 rfl dX1_connectHose_32 ?_
        refine aw_if_ne (tgt := 45) X dX1_connectHose_35 (by decide) (fun c35_4 => ?_) (fun c35_4 => ?_)
        · skip
          refine aw_ldc X dX1_connectHose_45 a_X1_124 ?_
          exact aw_iret X hQ dX1_connectHose_47 ⟨congrArg (fun q => some (Value.int q)) (by simp [gConnect, c4_1, c11_2, c28_3, c35_4]), hJ.to (by simp [gConnect, c4_1, c11_2, c28_3, c35_4])⟩
        · skip
          refine aw_aload_n X dX1_connectHose_38 rfl ?_
          refine aw_cVF (As := []) X (c_X0_isConnected (kl K) U _ sh _ hJ.1 (tn h) (isG_tn c4_1)) s_X1_144 k_X0_isConnected (by decide) ⟨rfl, rfl⟩ ⟨Nat.zero_le _, Nat.zero_le _⟩ rfl (by exact Nat.le_of_ble_eq_true rfl) (hJ.gH _ (isG_tn c4_1)) rfl dX1_connectHose_39 ?_
          refine aw_b_eq (tgt := 48) X dX1_connectHose_42 (by decide) (fun c42_5 => ?_) (fun c42_5 => ?_)
          · skip
            refine aw_aload_n X dX1_connectHose_48 rfl ?_
            refine aw_aload_n X dX1_connectHose_49 rfl ?_
            refine aw_jget X hJ f_X1_40 rfl dX1_connectHose_50 ?_
            refine aw_iconst X (0) dX1_connectHose_53 rfl ?_
            refine aw_tankAt X hJ (0) (by decide) (by decide) dX1_connectHose_54 ?_
            refine aw_cVF (As := []) X (c_X3_draught (kl K) U _ sh _ hJ.1 (0) (by decide)) s_X1_116 k_X3_draught (by decide) ⟨rfl, rfl⟩ ⟨Nat.zero_le _, Nat.zero_le _⟩ rfl (by exact Nat.le_of_ble_eq_true rfl) (hJ.gT _ (by decide)) rfl dX1_connectHose_55 ?_
            refine aw_aload_n X dX1_connectHose_58 rfl ?_
            refine aw_jget X hJ f_X1_52 rfl dX1_connectHose_59 ?_
            refine aw_cVF (As := [.int _, .int _]) X (c_X1_heightAt (kl K) U _ sh _ hJ.1 _ _) s_X1_148 k_X1_heightAt (by decide) ⟨rfl, rfl⟩ ⟨Nat.zero_le _, Nat.zero_le _⟩ rfl (by exact Nat.le_of_ble_eq_true rfl) hJ.g0 rfl dX1_connectHose_62 ?_
            refine aw_aload_n X dX1_connectHose_65 rfl ?_
            refine aw_hget X hJ (tn h) (isG_tn c4_1) f_X1_135 rfl dX1_connectHose_66 ?_
            refine aw_icmp_le (tgt := 75) X dX1_connectHose_69 (by decide) (fun c69_6 => ?_) (fun c69_6 => ?_)
            · skip
              refine aw_aload_n X dX1_connectHose_75 rfl ?_
              refine aw_iload_n X dX1_connectHose_76 rfl ?_
              refine aw_hput X hJ (tn h) (isG_tn c4_1) 2 (by decide) (hz (tn h) 2) rfl f_X1_151 (fun h => absurd h (by decide)) dX1_connectHose_77 (fun μ z_7 ez_7 hJ => ?_)
              refine aw_aload_n X dX1_connectHose_80 rfl ?_
              refine aw_cVF (As := []) X (c_X1_connectedHoses (kl K) U _ sh _ hJ.1 ) s_X1_128 k_X1_connectedHoses (by decide) ⟨rfl, rfl⟩ ⟨Nat.zero_le _, Nat.zero_le _⟩ rfl (by exact Nat.le_of_ble_eq_true rfl) hJ.g0 rfl dX1_connectHose_81 ?_
              exact aw_iret X hQ dX1_connectHose_84 ⟨congrArg (fun q => some (Value.int q)) (by subst ez_7; simp [gConnect, c4_1, c11_2, c28_3, c35_4, c42_5, c69_6, Int32.not_lt.mpr c69_6]), hJ.to (by subst ez_7; simp [gConnect, c4_1, c11_2, c28_3, c35_4, c42_5, c69_6, Int32.not_lt.mpr c69_6])⟩
            · skip
              refine aw_ldc X dX1_connectHose_72 a_X1_124 ?_
              exact aw_iret X hQ dX1_connectHose_74 ⟨congrArg (fun q => some (Value.int q)) (by simp [gConnect, c4_1, c11_2, c28_3, c35_4, c42_5, c69_6, Int32.not_le.mp c69_6]), hJ.to (by simp [gConnect, c4_1, c11_2, c28_3, c35_4, c42_5, c69_6, Int32.not_le.mp c69_6])⟩
          · skip
            refine aw_ldc X dX1_connectHose_45 a_X1_124 ?_
            exact aw_iret X hQ dX1_connectHose_47 ⟨congrArg (fun q => some (Value.int q)) (by simp [gConnect, c4_1, c11_2, c28_3, c35_4, c42_5]), hJ.to (by simp [gConnect, c4_1, c11_2, c28_3, c35_4, c42_5])⟩
    · skip
      refine aw_ldc X dX1_connectHose_14 a_X1_134 ?_
      exact aw_iret X hQ dX1_connectHose_16 ⟨congrArg (fun q => some (Value.int q)) (by simp [gConnect, c4_1, c11_2]), hJ.to (by simp [gConnect, c4_1, c11_2])⟩

set_option maxHeartbeats 4000000 in
set_option maxRecDepth 100000 in
theorem c_X1_disconnectHose (l : Launch) (U : xU) (μ0 : xH) (sh : Nat → Nat) (z : xV) (hJ0 : JRep U μ0 sh z) (h : Int32) : CtJ l U yX1_disconnectHose cX1_disconnectHose 4 (some .int) ({ frames := 2, cells := 0, slots := 0, locals := 40 } : Room) [.ref (sh 0), .int h] μ0 sh (gDisconnect z h).1 (gDisconnect z h).2 := by
  refine Ct.of [some (.ref (sh 0)), some (.int h), none, none] (by decide +kernel) rfl (Nat.le_of_ble_eq_true rfl) (fun K Q X hnm hQ => ?_)
  have hJ := JR.rf hJ0
  refine aw_iload_n X dX1_disconnectHose_0 rfl ?_
  refine aw_cSNF (As := [.int _]) X (c_X4_isHose (kl K) U _ _) s_X1_131 k_X4_isHose (by decide) ⟨rfl, rfl⟩ ⟨Nat.zero_le _, Nat.zero_le _⟩ rfl (by exact Nat.le_of_ble_eq_true rfl) dX1_disconnectHose_1 ?_
  refine aw_b_ne (tgt := 10) X dX1_disconnectHose_4 (by decide) (fun c4_1 => ?_) (fun c4_1 => ?_)
  · skip
    refine aw_aload_n X dX1_disconnectHose_10 rfl ?_
    refine aw_jget X hJ f_X1_34 rfl dX1_disconnectHose_11 ?_
    refine aw_iload_n X dX1_disconnectHose_14 rfl ?_
    refine aw_hoseAt X hJ (tn h) (isG_tn c4_1) (isG_hv c4_1) dX1_disconnectHose_15 ?_
    refine aw_astore_n X dX1_disconnectHose_16 rfl (by decide) ?_
    refine aw_aload_n X dX1_disconnectHose_17 rfl ?_
    refine aw_cVF (As := []) X (c_X0_isConnected (kl K) U _ sh _ hJ.1 (tn h) (isG_tn c4_1)) s_X1_144 k_X0_isConnected (by decide) ⟨rfl, rfl⟩ ⟨Nat.zero_le _, Nat.zero_le _⟩ rfl (by exact Nat.le_of_ble_eq_true rfl) (hJ.gH _ (isG_tn c4_1)) rfl dX1_disconnectHose_18 ?_
    refine aw_b_ne (tgt := 27) X dX1_disconnectHose_21 (by decide) (fun c21_2 => ?_) (fun c21_2 => ?_)
    · skip
      refine aw_aload_n X dX1_disconnectHose_27 rfl ?_
      refine aw_hget X hJ (tn h) (isG_tn c4_1) f_X1_151 rfl dX1_disconnectHose_28 ?_
      refine aw_istore_n X dX1_disconnectHose_31 rfl (by decide) ?_
      refine aw_aload_n X dX1_disconnectHose_32 rfl ?_
      refine aw_ldc X dX1_disconnectHose_33 a_X1_154 ?_
      refine aw_hput X hJ (tn h) (isG_tn c4_1) 2 (by decide) (hz (tn h) 2) rfl f_X1_151 (fun h => absurd h (by decide)) dX1_disconnectHose_35 (fun μ z_3 ez_3 hJ => ?_)
      refine aw_iload_n X dX1_disconnectHose_38 rfl ?_
      exact aw_iret X hQ dX1_disconnectHose_39 ⟨congrArg (fun q => some (Value.int q)) (by subst ez_3; simp [gDisconnect, c4_1, c21_2]), hJ.to (by subst ez_3; simp [gDisconnect, c4_1, c21_2])⟩
    · skip
      refine aw_ldc X dX1_disconnectHose_24 a_X1_124 ?_
      exact aw_iret X hQ dX1_disconnectHose_26 ⟨congrArg (fun q => some (Value.int q)) (by simp [gDisconnect, c4_1, c21_2]), hJ.to (by simp [gDisconnect, c4_1, c21_2])⟩
  · skip
    refine aw_ldc X dX1_disconnectHose_7 a_X1_134 ?_
    exact aw_iret X hQ dX1_disconnectHose_9 ⟨congrArg (fun q => some (Value.int q)) (by simp [gDisconnect, c4_1]), hJ.to (by simp [gDisconnect, c4_1])⟩

set_option maxHeartbeats 4000000 in
set_option maxRecDepth 100000 in
theorem c_X1_flushHose (l : Launch) (U : xU) (μ0 : xH) (sh : Nat → Nat) (z : xV) (hJ0 : JRep U μ0 sh z) (h : Int32) : CtJ l U yX1_flushHose cX1_flushHose 5 (some .int) ({ frames := 2, cells := 0, slots := 0, locals := 40 } : Room) [.ref (sh 0), .int h] μ0 sh (gFlush z h).1 (gFlush z h).2 := by
  refine Ct.of [some (.ref (sh 0)), some (.int h), none, none, none] (by decide +kernel) rfl (Nat.le_of_ble_eq_true rfl) (fun K Q X hnm hQ => ?_)
  have hJ := JR.rf hJ0
  refine aw_iload_n X dX1_flushHose_0 rfl ?_
  refine aw_cSNF (As := [.int _]) X (c_X4_isHose (kl K) U _ _) s_X1_131 k_X4_isHose (by decide) ⟨rfl, rfl⟩ ⟨Nat.zero_le _, Nat.zero_le _⟩ rfl (by exact Nat.le_of_ble_eq_true rfl) dX1_flushHose_1 ?_
  refine aw_b_ne (tgt := 10) X dX1_flushHose_4 (by decide) (fun c4_1 => ?_) (fun c4_1 => ?_)
  · skip
    refine aw_aload_n X dX1_flushHose_10 rfl ?_
    refine aw_jget X hJ f_X1_34 rfl dX1_flushHose_11 ?_
    refine aw_iload_n X dX1_flushHose_14 rfl ?_
    refine aw_hoseAt X hJ (tn h) (isG_tn c4_1) (isG_hv c4_1) dX1_flushHose_15 ?_
    refine aw_astore_n X dX1_flushHose_16 rfl (by decide) ?_
    refine aw_aload_n X dX1_flushHose_17 rfl ?_
    refine aw_hget X hJ (tn h) (isG_tn c4_1) f_X1_155 rfl dX1_flushHose_18 ?_
    refine aw_istore_n X dX1_flushHose_21 rfl (by decide) ?_
    refine aw_aload_n X dX1_flushHose_22 rfl ?_
    refine aw_cVF (As := []) X (c_X0_isConnected (kl K) U _ sh _ hJ.1 (tn h) (isG_tn c4_1)) s_X1_144 k_X0_isConnected (by decide) ⟨rfl, rfl⟩ ⟨Nat.zero_le _, Nat.zero_le _⟩ rfl (by exact Nat.le_of_ble_eq_true rfl) (hJ.gH _ (isG_tn c4_1)) rfl dX1_flushHose_23 ?_
    refine aw_b_ne (tgt := 36) X dX1_flushHose_26 (by decide) (fun c26_2 => ?_) (fun c26_2 => ?_)
    · skip
      refine aw_ldc X dX1_flushHose_36 a_X1_124 ?_
      exact aw_iret X hQ dX1_flushHose_38 ⟨congrArg (fun q => some (Value.int q)) (by simp [gFlush, c4_1, c26_2]), hJ.to (by simp [gFlush, c4_1, c26_2])⟩
    · skip
      refine aw_iload_n X dX1_flushHose_29 rfl ?_
      refine aw_cSNF (As := [.int _]) X (c_X4_isGrade (kl K) U _ _) s_X1_138 k_X4_isGrade (by decide) ⟨rfl, rfl⟩ ⟨Nat.zero_le _, Nat.zero_le _⟩ rfl (by exact Nat.le_of_ble_eq_true rfl) dX1_flushHose_30 ?_
      refine aw_b_ne (tgt := 39) X dX1_flushHose_33 (by decide) (fun c33_3 => ?_) (fun c33_3 => ?_)
      · skip
        refine aw_iconst X (5) dX1_flushHose_39 rfl ?_
        refine aw_aload_n X dX1_flushHose_40 rfl ?_
        refine aw_jget X hJ f_X1_23 rfl dX1_flushHose_41 ?_
        refine aw_iload_n X dX1_flushHose_44 rfl ?_
        refine aw_jald X hJ 1 (by decide) (14 + tn (z (hz (tn h) 1))) (isG_in c33_3) (by rfl) dX1_flushHose_45 ?_
        refine aw_min X l_X1_158 (by exact ⟨by decide, Nat.le_of_ble_eq_true rfl⟩) (by decide) dX1_flushHose_46 ?_
        refine aw_istore X dX1_flushHose_49 rfl (by decide) ?_
        refine aw_aload_n X dX1_flushHose_51 rfl ?_
        refine aw_jget X hJ f_X1_23 rfl dX1_flushHose_52 ?_
        refine aw_iload_n X dX1_flushHose_55 rfl ?_
        refine aw_dup2 X dX1_flushHose_56 rfl rfl ?_
        refine aw_jald X hJ 1 (by decide) (14 + tn (z (hz (tn h) 1))) (isG_in c33_3) (by rfl) dX1_flushHose_57 ?_
        refine aw_iload X dX1_flushHose_58 rfl ?_
        refine aw_isub X dX1_flushHose_60 ?_
        refine aw_jast X hJ 1 (by decide) (14 + tn (z (hz (tn h) 1))) (isG_in c33_3) (by rfl) dX1_flushHose_61 (fun μ z_4 ez_4 hJ => ?_)
        refine aw_aload_n X dX1_flushHose_62 rfl ?_
        refine aw_jget X hJ f_X1_26 rfl dX1_flushHose_63 ?_
        refine aw_iload_n X dX1_flushHose_66 rfl ?_
        refine aw_dup2 X dX1_flushHose_67 rfl rfl ?_
        refine aw_jald X hJ 2 (by decide) (18 + tn (z (hz (tn h) 1))) (isG_in c33_3) (by rfl) dX1_flushHose_68 ?_
        refine aw_iload X dX1_flushHose_69 rfl ?_
        refine aw_iadd X dX1_flushHose_71 ?_
        refine aw_jast X hJ 2 (by decide) (18 + tn (z (hz (tn h) 1))) (isG_in c33_3) (by rfl) dX1_flushHose_72 (fun μ z_5 ez_5 hJ => ?_)
        refine aw_aload_n X dX1_flushHose_73 rfl ?_
        refine aw_ldc X dX1_flushHose_74 a_X1_154 ?_
        refine aw_hput X hJ (tn h) (isG_tn c4_1) 1 (by decide) (hz (tn h) 1) rfl f_X1_155 (fun h => absurd h (by decide)) dX1_flushHose_76 (fun μ z_6 ez_6 hJ => ?_)
        refine aw_iload X dX1_flushHose_79 rfl ?_
        exact aw_iret X hQ dX1_flushHose_81 ⟨congrArg (fun q => some (Value.int q)) (by subst ez_4 ez_5 ez_6; simp [gFlush, c4_1, c26_2, c33_3]), hJ.to (by subst ez_4 ez_5 ez_6; simp [gFlush, c4_1, c26_2, c33_3])⟩
      · skip
        refine aw_ldc X dX1_flushHose_36 a_X1_124 ?_
        exact aw_iret X hQ dX1_flushHose_38 ⟨congrArg (fun q => some (Value.int q)) (by simp [gFlush, c4_1, c26_2, c33_3]), hJ.to (by simp [gFlush, c4_1, c26_2, c33_3])⟩
  · skip
    refine aw_ldc X dX1_flushHose_7 a_X1_134 ?_
    exact aw_iret X hQ dX1_flushHose_9 ⟨congrArg (fun q => some (Value.int q)) (by simp [gFlush, c4_1]), hJ.to (by simp [gFlush, c4_1])⟩

set_option maxHeartbeats 4000000 in
set_option maxRecDepth 100000 in
theorem c_X1_mendHose (l : Launch) (U : xU) (μ0 : xH) (sh : Nat → Nat) (z : xV) (hJ0 : JRep U μ0 sh z) (h : Int32) : CtJ l U yX1_mendHose cX1_mendHose 3 (some .int) ({ frames := 1, cells := 0, slots := 0, locals := 22 } : Room) [.ref (sh 0), .int h] μ0 sh (gMend z h).1 (gMend z h).2 := by
  refine Ct.of [some (.ref (sh 0)), some (.int h), none] (by decide +kernel) rfl (Nat.le_of_ble_eq_true rfl) (fun K Q X hnm hQ => ?_)
  have hJ := JR.rf hJ0
  refine aw_iload_n X dX1_mendHose_0 rfl ?_
  refine aw_cSNF (As := [.int _]) X (c_X4_isHose (kl K) U _ _) s_X1_131 k_X4_isHose (by decide) ⟨rfl, rfl⟩ ⟨Nat.zero_le _, Nat.zero_le _⟩ rfl (by exact Nat.le_of_ble_eq_true rfl) dX1_mendHose_1 ?_
  refine aw_b_ne (tgt := 10) X dX1_mendHose_4 (by decide) (fun c4_1 => ?_) (fun c4_1 => ?_)
  · skip
    refine aw_aload_n X dX1_mendHose_10 rfl ?_
    refine aw_jget X hJ f_X1_34 rfl dX1_mendHose_11 ?_
    refine aw_iload_n X dX1_mendHose_14 rfl ?_
    refine aw_hoseAt X hJ (tn h) (isG_tn c4_1) (isG_hv c4_1) dX1_mendHose_15 ?_
    refine aw_astore_n X dX1_mendHose_16 rfl (by decide) ?_
    refine aw_aload_n X dX1_mendHose_17 rfl ?_
    refine aw_hget X hJ (tn h) (isG_tn c4_1) f_X1_141 rfl dX1_mendHose_18 ?_
    refine aw_if_ne (tgt := 27) X dX1_mendHose_21 (by decide) (fun c21_2 => ?_) (fun c21_2 => ?_)
    · skip
      refine aw_aload_n X dX1_mendHose_27 rfl ?_
      refine aw_iconst X (0) dX1_mendHose_28 rfl ?_
      refine aw_hput X hJ (tn h) (isG_tn c4_1) 3 (by decide) (hz (tn h) 3) rfl f_X1_141 (fun _ => by decide) dX1_mendHose_29 (fun μ z_3 ez_3 hJ => ?_)
      refine aw_aload_n X dX1_mendHose_32 rfl ?_
      refine aw_ldc X dX1_mendHose_33 a_X1_154 ?_
      refine aw_hput X hJ (tn h) (isG_tn c4_1) 1 (by decide) (hz (tn h) 1) rfl f_X1_155 (fun h => absurd h (by decide)) dX1_mendHose_35 (fun μ z_4 ez_4 hJ => ?_)
      refine aw_aload_n X dX1_mendHose_38 rfl ?_
      refine aw_cVF (As := []) X (c_X1_burstHoses (kl K) U _ sh _ hJ.1 ) s_X1_161 k_X1_burstHoses (by decide) ⟨rfl, rfl⟩ ⟨Nat.zero_le _, Nat.zero_le _⟩ rfl (by exact Nat.le_of_ble_eq_true rfl) hJ.g0 rfl dX1_mendHose_39 ?_
      exact aw_iret X hQ dX1_mendHose_42 ⟨congrArg (fun q => some (Value.int q)) (by subst ez_3 ez_4; simp [gMend, c4_1, c21_2]), hJ.to (by subst ez_3 ez_4; simp [gMend, c4_1, c21_2])⟩
    · skip
      refine aw_ldc X dX1_mendHose_24 a_X1_124 ?_
      exact aw_iret X hQ dX1_mendHose_26 ⟨congrArg (fun q => some (Value.int q)) (by simp [gMend, c4_1, c21_2]), hJ.to (by simp [gMend, c4_1, c21_2])⟩
  · skip
    refine aw_ldc X dX1_mendHose_7 a_X1_134 ?_
    exact aw_iret X hQ dX1_mendHose_9 ⟨congrArg (fun q => some (Value.int q)) (by simp [gMend, c4_1]), hJ.to (by simp [gMend, c4_1])⟩

set_option maxHeartbeats 4000000 in
set_option maxRecDepth 100000 in
theorem c_X1_changeBoom (l : Launch) (U : xU) (μ0 : xH) (sh : Nat → Nat) (z : xV) (hJ0 : JRep U μ0 sh z) (b : Int32) (hb : xz b) : CtJ l U yX1_changeBoom cX1_changeBoom 3 (some .int) ({ frames := 0, cells := 0, slots := 0, locals := 0 } : Room) [.ref (sh 0), .int b] μ0 sh (gBoom z b).1 (gBoom z b).2 := by
  refine Ct.of [some (.ref (sh 0)), some (.int b), none] (by decide +kernel) rfl (Nat.le_of_ble_eq_true rfl) (fun K Q X hnm hQ => ?_)
  have hJ := JR.rf hJ0
  refine aw_aload_n X dX1_changeBoom_0 rfl ?_
  refine aw_jget X hJ f_X1_55 rfl dX1_changeBoom_1 ?_
  refine aw_iload_n X dX1_changeBoom_4 rfl ?_
  refine aw_icmp_ne (tgt := 11) X dX1_changeBoom_5 (by decide) (fun c5_1 => ?_) (fun c5_1 => ?_)
  · skip
    refine aw_aload_n X dX1_changeBoom_11 rfl ?_
    refine aw_jget X hJ f_X1_58 rfl dX1_changeBoom_12 ?_
    refine aw_istore_n X dX1_changeBoom_15 rfl (by decide) ?_
    refine aw_aload_n X dX1_changeBoom_16 rfl ?_
    refine aw_iload_n X dX1_changeBoom_17 rfl ?_
    refine aw_jput X hJ 9 (by decide) (by decide) 7 rfl f_X1_55 (fun _ => hb) dX1_changeBoom_18 (fun μ z_2 ez_2 hJ => ?_)
    refine aw_aload_n X dX1_changeBoom_21 rfl ?_
    refine aw_dup X dX1_changeBoom_22 rfl ?_
    refine aw_jget X hJ f_X1_64 rfl dX1_changeBoom_23 ?_
    refine aw_iload_n X dX1_changeBoom_26 rfl ?_
    refine aw_iadd X dX1_changeBoom_27 ?_
    refine aw_jput X hJ 12 (by decide) (by decide) 10 rfl f_X1_64 (fun h => absurd h (by decide)) dX1_changeBoom_28 (fun μ z_3 ez_3 hJ => ?_)
    refine aw_aload_n X dX1_changeBoom_31 rfl ?_
    refine aw_iconst X (0) dX1_changeBoom_32 rfl ?_
    refine aw_jput X hJ 10 (by decide) (by decide) 8 rfl f_X1_58 (fun h => absurd h (by decide)) dX1_changeBoom_33 (fun μ z_4 ez_4 hJ => ?_)
    refine aw_iload_n X dX1_changeBoom_36 rfl ?_
    exact aw_iret X hQ dX1_changeBoom_37 ⟨congrArg (fun q => some (Value.int q)) (by subst ez_2 ez_3 ez_4; simp [gBoom, c5_1]), hJ.to (by subst ez_2 ez_3 ez_4; simp [gBoom, c5_1])⟩
  · skip
    refine aw_ldc X dX1_changeBoom_8 a_X1_124 ?_
    exact aw_iret X hQ dX1_changeBoom_10 ⟨congrArg (fun q => some (Value.int q)) (by simp [gBoom, c5_1]), hJ.to (by simp [gBoom, c5_1])⟩

set_option maxHeartbeats 4000000 in
set_option maxRecDepth 100000 in
theorem c_X1_drawUnits (l : Launch) (U : xU) (μ0 : xH) (sh : Nat → Nat) (z : xV) (hJ0 : JRep U μ0 sh z) (g u : Int32) : CtJ l U yX1_drawUnits cX1_drawUnits 3 (some .int) ({ frames := 1, cells := 0, slots := 0, locals := 20 } : Room) [.ref (sh 0), .int g, .int u] μ0 sh (gDraw z g u).1 (gDraw z g u).2 := by
  refine Ct.of [some (.ref (sh 0)), some (.int g), some (.int u)] (by decide +kernel) rfl (Nat.le_of_ble_eq_true rfl) (fun K Q X hnm hQ => ?_)
  have hJ := JR.rf hJ0
  refine aw_iload_n X dX1_drawUnits_0 rfl ?_
  refine aw_cSNF (As := [.int _]) X (c_X4_isGrade (kl K) U _ _) s_X1_138 k_X4_isGrade (by decide) ⟨rfl, rfl⟩ ⟨Nat.zero_le _, Nat.zero_le _⟩ rfl (by exact Nat.le_of_ble_eq_true rfl) dX1_drawUnits_1 ?_
  refine aw_b_ne (tgt := 10) X dX1_drawUnits_4 (by decide) (fun c4_1 => ?_) (fun c4_1 => ?_)
  · skip
    refine aw_iload_n X dX1_drawUnits_10 rfl ?_
    refine aw_iconst X (1) dX1_drawUnits_11 rfl ?_
    refine aw_icmp_lt (tgt := 22) X dX1_drawUnits_12 (by decide) (fun c12_2 => ?_) (fun c12_2 => ?_)
    · skip
      refine aw_ldc X dX1_drawUnits_22 a_X1_98 ?_
      exact aw_iret X hQ dX1_drawUnits_24 ⟨congrArg (fun q => some (Value.int q)) (by simp [gDraw, c4_1, c12_2, Int32.not_le.mpr c12_2]), hJ.to (by simp [gDraw, c4_1, c12_2, Int32.not_le.mpr c12_2])⟩
    · skip
      refine aw_iload_n X dX1_drawUnits_15 rfl ?_
      refine aw_sipush X (1000) dX1_drawUnits_16 rfl ?_
      refine aw_icmp_le (tgt := 25) X dX1_drawUnits_19 (by decide) (fun c19_3 => ?_) (fun c19_3 => ?_)
      · skip
        refine aw_iload_n X dX1_drawUnits_25 rfl ?_
        refine aw_aload_n X dX1_drawUnits_26 rfl ?_
        refine aw_jget X hJ f_X1_23 rfl dX1_drawUnits_27 ?_
        refine aw_iload_n X dX1_drawUnits_30 rfl ?_
        refine aw_jald X hJ 1 (by decide) (14 + tn g) (isG_in c4_1) (by rfl) dX1_drawUnits_31 ?_
        refine aw_icmp_le (tgt := 38) X dX1_drawUnits_32 (by decide) (fun c32_4 => ?_) (fun c32_4 => ?_)
        · skip
          refine aw_aload_n X dX1_drawUnits_38 rfl ?_
          refine aw_jget X hJ f_X1_23 rfl dX1_drawUnits_39 ?_
          refine aw_iload_n X dX1_drawUnits_42 rfl ?_
          refine aw_dup2 X dX1_drawUnits_43 rfl rfl ?_
          refine aw_jald X hJ 1 (by decide) (14 + tn g) (isG_in c4_1) (by rfl) dX1_drawUnits_44 ?_
          refine aw_iload_n X dX1_drawUnits_45 rfl ?_
          refine aw_isub X dX1_drawUnits_46 ?_
          refine aw_jast X hJ 1 (by decide) (14 + tn g) (isG_in c4_1) (by rfl) dX1_drawUnits_47 (fun μ z_5 ez_5 hJ => ?_)
          refine aw_aload_n X dX1_drawUnits_48 rfl ?_
          refine aw_jget X hJ f_X1_23 rfl dX1_drawUnits_49 ?_
          refine aw_iload_n X dX1_drawUnits_52 rfl ?_
          refine aw_jald X hJ 1 (by decide) (14 + tn g) (isG_in c4_1) (by rfl) dX1_drawUnits_53 ?_
          exact aw_iret X hQ dX1_drawUnits_54 ⟨congrArg (fun q => some (Value.int q)) (by subst ez_5; simp [gDraw, c4_1, c12_2, Int32.not_lt.mp c12_2, c19_3, Int32.not_lt.mpr c19_3, c32_4, Int32.not_lt.mpr c32_4]), hJ.to (by subst ez_5; simp [gDraw, c4_1, c12_2, Int32.not_lt.mp c12_2, c19_3, Int32.not_lt.mpr c19_3, c32_4, Int32.not_lt.mpr c32_4])⟩
        · skip
          refine aw_ldc X dX1_drawUnits_35 a_X1_124 ?_
          exact aw_iret X hQ dX1_drawUnits_37 ⟨congrArg (fun q => some (Value.int q)) (by simp [gDraw, c4_1, c12_2, Int32.not_lt.mp c12_2, c19_3, Int32.not_lt.mpr c19_3, c32_4, Int32.not_le.mp c32_4]), hJ.to (by simp [gDraw, c4_1, c12_2, Int32.not_lt.mp c12_2, c19_3, Int32.not_lt.mpr c19_3, c32_4, Int32.not_le.mp c32_4])⟩
      · skip
        refine aw_ldc X dX1_drawUnits_22 a_X1_98 ?_
        exact aw_iret X hQ dX1_drawUnits_24 ⟨congrArg (fun q => some (Value.int q)) (by simp [gDraw, c4_1, c12_2, Int32.not_lt.mp c12_2, c19_3, Int32.not_le.mp c19_3]), hJ.to (by simp [gDraw, c4_1, c12_2, Int32.not_lt.mp c12_2, c19_3, Int32.not_le.mp c19_3])⟩
  · skip
    refine aw_ldc X dX1_drawUnits_7 a_X1_134 ?_
    exact aw_iret X hQ dX1_drawUnits_9 ⟨congrArg (fun q => some (Value.int q)) (by simp [gDraw, c4_1]), hJ.to (by simp [gDraw, c4_1])⟩

set_option maxHeartbeats 4000000 in
set_option maxRecDepth 100000 in
theorem c_X1_aboutTanker (l : Launch) (U : xU) (μ0 : xH) (sh : Nat → Nat) (z : xV) (hJ0 : JRep U μ0 sh z) (p w : Int32) : CtF l U yX1_aboutTanker cX1_aboutTanker 4 (some .int) ({ frames := 3, cells := 0, slots := 0, locals := 65 } : Room) [.ref (sh 0), .int p, .int w] μ0 (cTanker z p w) := by
  refine Ct.of [some (.ref (sh 0)), some (.int p), some (.int w), none] (by decide +kernel) rfl (Nat.le_of_ble_eq_true rfl) (fun K Q X hnm hQ => ?_)
  have hJ := JR.rf hJ0
  refine aw_iload_n X dX1_aboutTanker_0 rfl ?_
  refine aw_if_lt (tgt := 10) X dX1_aboutTanker_1 (by decide) (fun c1_1 => ?_) (fun c1_1 => ?_)
  · skip
    refine aw_ldc X dX1_aboutTanker_10 a_X1_98 ?_
    exact aw_iret X hQ dX1_aboutTanker_12 ⟨congrArg (fun q => some (Value.int q)) (by simp [cTanker, c1_1, Int32.not_le.mpr c1_1]), rfl⟩
  · skip
    refine aw_iload_n X dX1_aboutTanker_4 rfl ?_
    refine aw_bipush X (7) dX1_aboutTanker_5 rfl ?_
    refine aw_icmp_le (tgt := 13) X dX1_aboutTanker_7 (by decide) (fun c7_2 => ?_) (fun c7_2 => ?_)
    · skip
      refine aw_aload_n X dX1_aboutTanker_13 rfl ?_
      refine aw_iload_n X dX1_aboutTanker_14 rfl ?_
      refine aw_cVF (As := [.int _]) X (c_X1_isTankerAt (kl K) U _ sh _ hJ.1 _) s_X1_200 k_X1_isTankerAt (by decide) ⟨rfl, rfl⟩ ⟨Nat.zero_le _, Nat.zero_le _⟩ rfl (by exact Nat.le_of_ble_eq_true rfl) hJ.g0 rfl dX1_aboutTanker_15 ?_
      refine aw_if_ne (tgt := 24) X dX1_aboutTanker_18 (by decide) (fun c18_3 => ?_) (fun c18_3 => ?_)
      · skip
        refine aw_aload_n X dX1_aboutTanker_24 rfl ?_
        refine aw_jget X hJ f_X1_40 rfl dX1_aboutTanker_25 ?_
        refine aw_iload_n X dX1_aboutTanker_28 rfl ?_
        have hp := cIsT_in c18_3
        refine aw_tankAt X hJ (tn p) hp.2 hp.1 dX1_aboutTanker_29 ?_
        refine aw_astore_n X dX1_aboutTanker_30 rfl (by decide) ?_
        refine aw_iload_n X dX1_aboutTanker_31 rfl ?_
        by_cases s32_4 : w = 4
        · refine aw_tableV (tgt := 64) X (4) s32_4 dX1_aboutTanker_32 (by decide) (by decide) rfl (by decide) ?_
          refine aw_aload_n X dX1_aboutTanker_64 rfl ?_
          refine aw_cVF (As := []) X (c_X3_draught (kl K) U _ sh _ hJ.1 (tn p) hp.2) s_X1_116 k_X3_draught (by decide) ⟨rfl, rfl⟩ ⟨Nat.zero_le _, Nat.zero_le _⟩ rfl (by exact Nat.le_of_ble_eq_true rfl) (hJ.gT _ hp.2) rfl dX1_aboutTanker_65 ?_
          exact aw_iret X hQ dX1_aboutTanker_68 ⟨congrArg (fun q => some (Value.int q)) (by simp [cTanker, c1_1, Int32.not_lt.mp c1_1, c7_2, Int32.not_lt.mpr c7_2, c18_3, s32_4]), rfl⟩
        by_cases s32_5 : w = 5
        · refine aw_tableV (tgt := 69) X (5) s32_5 dX1_aboutTanker_32 (by decide) (by decide) rfl (by decide) ?_
          refine aw_aload_n X dX1_aboutTanker_69 rfl ?_
          refine aw_aload_n X dX1_aboutTanker_70 rfl ?_
          refine aw_cVF (As := []) X (c_X3_draught (kl K) U _ sh _ hJ.1 (tn p) hp.2) s_X1_116 k_X3_draught (by decide) ⟨rfl, rfl⟩ ⟨Nat.zero_le _, Nat.zero_le _⟩ rfl (by exact Nat.le_of_ble_eq_true rfl) (hJ.gT _ hp.2) rfl dX1_aboutTanker_71 ?_
          refine aw_aload_n X dX1_aboutTanker_74 rfl ?_
          refine aw_jget X hJ f_X1_52 rfl dX1_aboutTanker_75 ?_
          refine aw_cVF (As := [.int _, .int _]) X (c_X1_heightAt (kl K) U _ sh _ hJ.1 _ _) s_X1_148 k_X1_heightAt (by decide) ⟨rfl, rfl⟩ ⟨Nat.zero_le _, Nat.zero_le _⟩ rfl (by exact Nat.le_of_ble_eq_true rfl) hJ.g0 rfl dX1_aboutTanker_78 ?_
          exact aw_iret X hQ dX1_aboutTanker_81 ⟨congrArg (fun q => some (Value.int q)) (by simp [cTanker, c1_1, Int32.not_lt.mp c1_1, c7_2, Int32.not_lt.mpr c7_2, c18_3, s32_4, s32_5]), rfl⟩
        by_cases s32_6 : w = 6
        · refine aw_tableV (tgt := 82) X (6) s32_6 dX1_aboutTanker_32 (by decide) (by decide) rfl (by decide) ?_
          refine aw_aload_n X dX1_aboutTanker_82 rfl ?_
          refine aw_aload_n X dX1_aboutTanker_83 rfl ?_
          refine aw_cVF (As := []) X (c_X3_draught (kl K) U _ sh _ hJ.1 (tn p) hp.2) s_X1_116 k_X3_draught (by decide) ⟨rfl, rfl⟩ ⟨Nat.zero_le _, Nat.zero_le _⟩ rfl (by exact Nat.le_of_ble_eq_true rfl) (hJ.gT _ hp.2) rfl dX1_aboutTanker_84 ?_
          refine aw_aload_n X dX1_aboutTanker_87 rfl ?_
          refine aw_jget X hJ f_X1_52 rfl dX1_aboutTanker_88 ?_
          refine aw_cVF (As := [.int _, .int _]) X (c_X1_floatsAt (kl K) U _ sh _ hJ.1 _ _) s_X1_120 k_X1_floatsAt (by decide) ⟨rfl, rfl⟩ ⟨Nat.zero_le _, Nat.zero_le _⟩ rfl (by exact Nat.le_of_ble_eq_true rfl) hJ.g0 rfl dX1_aboutTanker_91 ?_
          refine aw_bj (tgt := 101) (t2 := 102) X dX1_aboutTanker_94 dX1_aboutTanker_97 dX1_aboutTanker_98 dX1_aboutTanker_101 (by decide) (by decide) rfl ?_
          rw [bI_ne]
          exact aw_iret X hQ dX1_aboutTanker_102 ⟨congrArg (fun q => some (Value.int q)) (by simp [cTanker, c1_1, Int32.not_lt.mp c1_1, c7_2, Int32.not_lt.mpr c7_2, c18_3, s32_4, s32_5, s32_6]), rfl⟩
        by_cases s32_7 : w = 7
        · refine aw_tableV (tgt := 103) X (7) s32_7 dX1_aboutTanker_32 (by decide) (by decide) rfl (by decide) ?_
          refine aw_aload_n X dX1_aboutTanker_103 rfl ?_
          refine aw_jget X hJ f_X1_52 rfl dX1_aboutTanker_104 ?_
          refine aw_aload_n X dX1_aboutTanker_107 rfl ?_
          refine aw_tgetC X hJ (tn p) hp.2 f_X1_113 dX1_aboutTanker_108 ?_
          refine aw_isub X dX1_aboutTanker_111 ?_
          exact aw_iret X hQ dX1_aboutTanker_112 ⟨congrArg (fun q => some (Value.int q)) (by simp [cTanker, c1_1, Int32.not_lt.mp c1_1, c7_2, Int32.not_lt.mpr c7_2, c18_3, s32_4, s32_5, s32_6, s32_7]), rfl⟩
        refine aw_tableOut (tgt := 113) X dX1_aboutTanker_32 (by have h0 := lv_neT (a := 4) s32_4 (by decide); have h1 := lv_neT (a := 5) s32_5 (by decide); have h2 := lv_neT (a := 6) s32_6 (by decide); have h3 := lv_neT (a := 7) s32_7 (by decide); omega) (by decide) ?_
        refine aw_aload_n X dX1_aboutTanker_113 rfl ?_
        refine aw_tgetU X hJ (tn p) hp.2 f_X1_110 dX1_aboutTanker_114 ?_
        refine aw_iload_n X dX1_aboutTanker_117 rfl ?_
        refine aw_uald X hJ (tn p) hp.2 (tz (tn p) (tn w)) (xw4 c1_1 c7_2 s32_4 s32_5 s32_6 s32_7) rfl dX1_aboutTanker_118 ?_
        exact aw_iret X hQ dX1_aboutTanker_119 ⟨congrArg (fun q => some (Value.int q)) (by simp [cTanker, c1_1, Int32.not_lt.mp c1_1, c7_2, Int32.not_lt.mpr c7_2, c18_3, s32_4, s32_5, s32_6, s32_7]), rfl⟩
      · skip
        refine aw_ldc X dX1_aboutTanker_21 a_X1_134 ?_
        exact aw_iret X hQ dX1_aboutTanker_23 ⟨congrArg (fun q => some (Value.int q)) (by simp [cTanker, c1_1, Int32.not_lt.mp c1_1, c7_2, Int32.not_lt.mpr c7_2, c18_3]), rfl⟩
    · skip
      refine aw_ldc X dX1_aboutTanker_10 a_X1_98 ?_
      exact aw_iret X hQ dX1_aboutTanker_12 ⟨congrArg (fun q => some (Value.int q)) (by simp [cTanker, c1_1, Int32.not_lt.mp c1_1, c7_2, Int32.not_le.mp c7_2]), rfl⟩

set_option maxHeartbeats 4000000 in
set_option maxRecDepth 100000 in
theorem c_X1_aboutHose (l : Launch) (U : xU) (μ0 : xH) (sh : Nat → Nat) (z : xV) (hJ0 : JRep U μ0 sh z) (h w : Int32) : CtF l U yX1_aboutHose cX1_aboutHose 4 (some .int) ({ frames := 1, cells := 0, slots := 0, locals := 20 } : Room) [.ref (sh 0), .int h, .int w] μ0 (cHose z h w) := by
  refine Ct.of [some (.ref (sh 0)), some (.int h), some (.int w), none] (by decide +kernel) rfl (Nat.le_of_ble_eq_true rfl) (fun K Q X hnm hQ => ?_)
  have hJ := JR.rf hJ0
  refine aw_iload_n X dX1_aboutHose_0 rfl ?_
  refine aw_cSNF (As := [.int _]) X (c_X4_isHose (kl K) U _ _) s_X1_131 k_X4_isHose (by decide) ⟨rfl, rfl⟩ ⟨Nat.zero_le _, Nat.zero_le _⟩ rfl (by exact Nat.le_of_ble_eq_true rfl) dX1_aboutHose_1 ?_
  refine aw_b_ne (tgt := 10) X dX1_aboutHose_4 (by decide) (fun c4_1 => ?_) (fun c4_1 => ?_)
  · skip
    refine aw_aload_n X dX1_aboutHose_10 rfl ?_
    refine aw_jget X hJ f_X1_34 rfl dX1_aboutHose_11 ?_
    refine aw_iload_n X dX1_aboutHose_14 rfl ?_
    refine aw_hoseAt X hJ (tn h) (isG_tn c4_1) (isG_hv c4_1) dX1_aboutHose_15 ?_
    refine aw_astore_n X dX1_aboutHose_16 rfl (by decide) ?_
    refine aw_iload_n X dX1_aboutHose_17 rfl ?_
    by_cases s18_2 : w = 0
    · refine aw_tableV (tgt := 56) X (0) s18_2 dX1_aboutHose_18 (by decide) (by decide) rfl (by decide) ?_
      refine aw_aload_n X dX1_aboutHose_56 rfl ?_
      refine aw_hget X hJ (tn h) (isG_tn c4_1) f_X1_135 rfl dX1_aboutHose_57 ?_
      exact aw_iret X hQ dX1_aboutHose_60 ⟨congrArg (fun q => some (Value.int q)) (by simp [cHose, c4_1, s18_2]), rfl⟩
    by_cases s18_3 : w = 1
    · refine aw_tableV (tgt := 61) X (1) s18_3 dX1_aboutHose_18 (by decide) (by decide) rfl (by decide) ?_
      refine aw_aload_n X dX1_aboutHose_61 rfl ?_
      refine aw_hget X hJ (tn h) (isG_tn c4_1) f_X1_155 rfl dX1_aboutHose_62 ?_
      exact aw_iret X hQ dX1_aboutHose_65 ⟨congrArg (fun q => some (Value.int q)) (by simp [cHose, c4_1, s18_2, s18_3]), rfl⟩
    by_cases s18_4 : w = 2
    · refine aw_tableV (tgt := 66) X (2) s18_4 dX1_aboutHose_18 (by decide) (by decide) rfl (by decide) ?_
      refine aw_aload_n X dX1_aboutHose_66 rfl ?_
      refine aw_hget X hJ (tn h) (isG_tn c4_1) f_X1_151 rfl dX1_aboutHose_67 ?_
      exact aw_iret X hQ dX1_aboutHose_70 ⟨congrArg (fun q => some (Value.int q)) (by simp [cHose, c4_1, s18_2, s18_3, s18_4]), rfl⟩
    by_cases s18_5 : w = 3
    · refine aw_tableV (tgt := 71) X (3) s18_5 dX1_aboutHose_18 (by decide) (by decide) rfl (by decide) ?_
      refine aw_aload_n X dX1_aboutHose_71 rfl ?_
      refine aw_hget X hJ (tn h) (isG_tn c4_1) f_X1_141 rfl dX1_aboutHose_72 ?_
      refine aw_bj (tgt := 82) (t2 := 83) X dX1_aboutHose_75 dX1_aboutHose_78 dX1_aboutHose_79 dX1_aboutHose_82 (by decide) (by decide) rfl ?_
      exact aw_iret X hQ dX1_aboutHose_83 ⟨congrArg (fun q => some (Value.int q)) (by simp [cHose, c4_1, s18_2, s18_3, s18_4, s18_5]), rfl⟩
    by_cases s18_6 : w = 4
    · refine aw_tableV (tgt := 84) X (4) s18_6 dX1_aboutHose_18 (by decide) (by decide) rfl (by decide) ?_
      refine aw_aload_n X dX1_aboutHose_84 rfl ?_
      refine aw_hget X hJ (tn h) (isG_tn c4_1) f_X1_197 rfl dX1_aboutHose_85 ?_
      exact aw_iret X hQ dX1_aboutHose_88 ⟨congrArg (fun q => some (Value.int q)) (by simp [cHose, c4_1, s18_2, s18_3, s18_4, s18_5, s18_6]), rfl⟩
    by_cases s18_7 : w = 5
    · refine aw_tableV (tgt := 89) X (5) s18_7 dX1_aboutHose_18 (by decide) (by decide) rfl (by decide) ?_
      refine aw_aload_n X dX1_aboutHose_89 rfl ?_
      refine aw_hget X hJ (tn h) (isG_tn c4_1) f_X1_195 rfl dX1_aboutHose_90 ?_
      exact aw_iret X hQ dX1_aboutHose_93 ⟨congrArg (fun q => some (Value.int q)) (by simp [cHose, c4_1, s18_2, s18_3, s18_4, s18_5, s18_6, s18_7]), rfl⟩
    refine aw_tableOut (tgt := 94) X dX1_aboutHose_18 (by have h0 := lv_neT (a := 0) s18_2 (by decide); have h1 := lv_neT (a := 1) s18_3 (by decide); have h2 := lv_neT (a := 2) s18_4 (by decide); have h3 := lv_neT (a := 3) s18_5 (by decide); have h4 := lv_neT (a := 4) s18_6 (by decide); have h5 := lv_neT (a := 5) s18_7 (by decide); omega) (by decide) ?_
    refine aw_ldc X dX1_aboutHose_94 a_X1_98 ?_
    exact aw_iret X hQ dX1_aboutHose_96 ⟨congrArg (fun q => some (Value.int q)) (by simp [cHose, c4_1, s18_2, s18_3, s18_4, s18_5, s18_6, s18_7]), rfl⟩
  · skip
    refine aw_ldc X dX1_aboutHose_7 a_X1_134 ?_
    exact aw_iret X hQ dX1_aboutHose_9 ⟨congrArg (fun q => some (Value.int q)) (by simp [cHose, c4_1]), rfl⟩

set_option maxHeartbeats 4000000 in
set_option maxRecDepth 100000 in
theorem c_X1_aboutGrade (l : Launch) (U : xU) (μ0 : xH) (sh : Nat → Nat) (z : xV) (hJ0 : JRep U μ0 sh z) (g w : Int32) : CtF l U yX1_aboutGrade cX1_aboutGrade 3 (some .int) ({ frames := 2, cells := 0, slots := 0, locals := 44 } : Room) [.ref (sh 0), .int g, .int w] μ0 (cGrade z g w) := by
  refine Ct.of [some (.ref (sh 0)), some (.int g), some (.int w)] (by decide +kernel) rfl (Nat.le_of_ble_eq_true rfl) (fun K Q X hnm hQ => ?_)
  have hJ := JR.rf hJ0
  refine aw_iload_n X dX1_aboutGrade_0 rfl ?_
  refine aw_cSNF (As := [.int _]) X (c_X4_isGrade (kl K) U _ _) s_X1_138 k_X4_isGrade (by decide) ⟨rfl, rfl⟩ ⟨Nat.zero_le _, Nat.zero_le _⟩ rfl (by exact Nat.le_of_ble_eq_true rfl) dX1_aboutGrade_1 ?_
  refine aw_b_ne (tgt := 10) X dX1_aboutGrade_4 (by decide) (fun c4_1 => ?_) (fun c4_1 => ?_)
  · skip
    refine aw_iload_n X dX1_aboutGrade_10 rfl ?_
    by_cases s11_2 : w = 0
    · refine aw_tableV (tgt := 40) X (0) s11_2 dX1_aboutGrade_11 (by decide) (by decide) rfl (by decide) ?_
      refine aw_aload_n X dX1_aboutGrade_40 rfl ?_
      refine aw_jget X hJ f_X1_23 rfl dX1_aboutGrade_41 ?_
      refine aw_iload_n X dX1_aboutGrade_44 rfl ?_
      refine aw_jald X hJ 1 (by decide) (14 + tn g) (isG_in c4_1) (by rfl) dX1_aboutGrade_45 ?_
      exact aw_iret X hQ dX1_aboutGrade_46 ⟨congrArg (fun q => some (Value.int q)) (by simp [cGrade, c4_1, s11_2]), rfl⟩
    by_cases s11_3 : w = 1
    · refine aw_tableV (tgt := 47) X (1) s11_3 dX1_aboutGrade_11 (by decide) (by decide) rfl (by decide) ?_
      refine aw_aload_n X dX1_aboutGrade_47 rfl ?_
      refine aw_iload_n X dX1_aboutGrade_48 rfl ?_
      refine aw_cVF (As := [.int _]) X (c_X1_unitsInTankers (kl K) U _ sh _ hJ.1 _ c4_1) s_X1_203 k_X1_unitsInTankers (by decide) ⟨rfl, rfl⟩ ⟨Nat.zero_le _, Nat.zero_le _⟩ rfl (by exact Nat.le_of_ble_eq_true rfl) hJ.g0 rfl dX1_aboutGrade_49 ?_
      exact aw_iret X hQ dX1_aboutGrade_52 ⟨congrArg (fun q => some (Value.int q)) (by simp [cGrade, c4_1, s11_2, s11_3]), rfl⟩
    by_cases s11_4 : w = 2
    · refine aw_tableV (tgt := 53) X (2) s11_4 dX1_aboutGrade_11 (by decide) (by decide) rfl (by decide) ?_
      refine aw_aload_n X dX1_aboutGrade_53 rfl ?_
      refine aw_jget X hJ f_X1_26 rfl dX1_aboutGrade_54 ?_
      refine aw_iload_n X dX1_aboutGrade_57 rfl ?_
      refine aw_jald X hJ 2 (by decide) (18 + tn g) (isG_in c4_1) (by rfl) dX1_aboutGrade_58 ?_
      exact aw_iret X hQ dX1_aboutGrade_59 ⟨congrArg (fun q => some (Value.int q)) (by simp [cGrade, c4_1, s11_2, s11_3, s11_4]), rfl⟩
    by_cases s11_5 : w = 3
    · refine aw_tableV (tgt := 60) X (3) s11_5 dX1_aboutGrade_11 (by decide) (by decide) rfl (by decide) ?_
      refine aw_aload_n X dX1_aboutGrade_60 rfl ?_
      refine aw_jget X hJ f_X1_29 rfl dX1_aboutGrade_61 ?_
      refine aw_iload_n X dX1_aboutGrade_64 rfl ?_
      refine aw_jald X hJ 3 (by decide) (22 + tn g) (isG_in c4_1) (by rfl) dX1_aboutGrade_65 ?_
      exact aw_iret X hQ dX1_aboutGrade_66 ⟨congrArg (fun q => some (Value.int q)) (by simp [cGrade, c4_1, s11_2, s11_3, s11_4, s11_5]), rfl⟩
    refine aw_tableOut (tgt := 67) X dX1_aboutGrade_11 (by have h0 := lv_neT (a := 0) s11_2 (by decide); have h1 := lv_neT (a := 1) s11_3 (by decide); have h2 := lv_neT (a := 2) s11_4 (by decide); have h3 := lv_neT (a := 3) s11_5 (by decide); omega) (by decide) ?_
    refine aw_ldc X dX1_aboutGrade_67 a_X1_98 ?_
    exact aw_iret X hQ dX1_aboutGrade_69 ⟨congrArg (fun q => some (Value.int q)) (by simp [cGrade, c4_1, s11_2, s11_3, s11_4, s11_5]), rfl⟩
  · skip
    refine aw_ldc X dX1_aboutGrade_7 a_X1_134 ?_
    exact aw_iret X hQ dX1_aboutGrade_9 ⟨congrArg (fun q => some (Value.int q)) (by simp [cGrade, c4_1]), rfl⟩

set_option maxHeartbeats 4000000 in
set_option maxRecDepth 100000 in
theorem c_X1_number (l : Launch) (U : xU) (μ0 : xH) (sh : Nat → Nat) (z : xV) (hJ0 : JRep U μ0 sh z) (w : Int32) : CtF l U yX1_number cX1_number 2 (some .int) ({ frames := 3, cells := 0, slots := 0, locals := 62 } : Room) [.ref (sh 0), .int w] μ0 (cNumber z w) := by
  refine Ct.of [some (.ref (sh 0)), some (.int w)] (by decide +kernel) rfl (Nat.le_of_ble_eq_true rfl) (fun K Q X hnm hQ => ?_)
  have hJ := JR.rf hJ0
  refine aw_iload_n X dX1_number_0 rfl ?_
  refine aw_if_lt (tgt := 20) X dX1_number_1 (by decide) (fun c1_1 => ?_) (fun c1_1 => ?_)
  · skip
    refine aw_iload_n X dX1_number_20 rfl ?_
    by_cases s21_2 : w = 6
    · refine aw_tableV (tgt := 84) X (6) s21_2 dX1_number_21 (by decide) (by decide) rfl (by decide) ?_
      refine aw_aload_n X dX1_number_84 rfl ?_
      refine aw_jget X hJ f_X1_52 rfl dX1_number_85 ?_
      exact aw_iret X hQ dX1_number_88 ⟨congrArg (fun q => some (Value.int q)) (by simp [cNumber, c1_1, Int32.not_le.mpr c1_1, s21_2]), rfl⟩
    by_cases s21_3 : w = 7
    · refine aw_tableV (tgt := 89) X (7) s21_3 dX1_number_21 (by decide) (by decide) rfl (by decide) ?_
      refine aw_aload_n X dX1_number_89 rfl ?_
      refine aw_aload_n X dX1_number_90 rfl ?_
      refine aw_jget X hJ f_X1_52 rfl dX1_number_91 ?_
      refine aw_cVF (As := [.int _]) X (c_X1_tideAt (kl K) U _ sh _ hJ.1 _) s_X1_94 k_X1_tideAt (by decide) ⟨rfl, rfl⟩ ⟨Nat.zero_le _, Nat.zero_le _⟩ rfl (by exact Nat.le_of_ble_eq_true rfl) hJ.g0 rfl dX1_number_94 ?_
      exact aw_iret X hQ dX1_number_97 ⟨congrArg (fun q => some (Value.int q)) (by simp [cNumber, c1_1, Int32.not_le.mpr c1_1, s21_2, s21_3]), rfl⟩
    by_cases s21_4 : w = 8
    · refine aw_tableV (tgt := 98) X (8) s21_4 dX1_number_21 (by decide) (by decide) rfl (by decide) ?_
      refine aw_aload_n X dX1_number_98 rfl ?_
      refine aw_jget X hJ f_X1_18 rfl dX1_number_99 ?_
      refine aw_iconst X (0) dX1_number_102 rfl ?_
      refine aw_jald X hJ 0 (by decide) 0 (xin_d rfl) (by decide) dX1_number_103 ?_
      refine aw_aload_n X dX1_number_104 rfl ?_
      refine aw_aload_n X dX1_number_105 rfl ?_
      refine aw_jget X hJ f_X1_52 rfl dX1_number_106 ?_
      refine aw_cVF (As := [.int _]) X (c_X1_tideAt (kl K) U _ sh _ hJ.1 _) s_X1_94 k_X1_tideAt (by decide) ⟨rfl, rfl⟩ ⟨Nat.zero_le _, Nat.zero_le _⟩ rfl (by exact Nat.le_of_ble_eq_true rfl) hJ.g0 rfl dX1_number_109 ?_
      refine aw_iadd X dX1_number_112 ?_
      exact aw_iret X hQ dX1_number_113 ⟨congrArg (fun q => some (Value.int q)) (by simp [cNumber, c1_1, Int32.not_le.mpr c1_1, s21_2, s21_3, s21_4]), rfl⟩
    by_cases s21_5 : w = 9
    · refine aw_tableV (tgt := 114) X (9) s21_5 dX1_number_21 (by decide) (by decide) rfl (by decide) ?_
      refine aw_aload_n X dX1_number_114 rfl ?_
      refine aw_jget X hJ f_X1_48 rfl dX1_number_115 ?_
      exact aw_iret X hQ dX1_number_118 ⟨congrArg (fun q => some (Value.int q)) (by simp [cNumber, c1_1, Int32.not_le.mpr c1_1, s21_2, s21_3, s21_4, s21_5]), rfl⟩
    by_cases s21_6 : w = 10
    · refine aw_tableV (tgt := 119) X (10) s21_6 dX1_number_21 (by decide) (by decide) rfl (by decide) ?_
      refine aw_aload_n X dX1_number_119 rfl ?_
      refine aw_jget X hJ f_X1_44 rfl dX1_number_120 ?_
      refine aw_bj (tgt := 130) (t2 := 131) X dX1_number_123 dX1_number_126 dX1_number_127 dX1_number_130 (by decide) (by decide) rfl ?_
      exact aw_iret X hQ dX1_number_131 ⟨congrArg (fun q => some (Value.int q)) (by simp [cNumber, c1_1, Int32.not_le.mpr c1_1, s21_2, s21_3, s21_4, s21_5, s21_6]), rfl⟩
    by_cases s21_7 : w = 11
    · refine aw_tableV (tgt := 132) X (11) s21_7 dX1_number_21 (by decide) (by decide) rfl (by decide) ?_
      refine aw_aload_n X dX1_number_132 rfl ?_
      refine aw_cVF (As := []) X (c_X1_connectedHoses (kl K) U _ sh _ hJ.1 ) s_X1_128 k_X1_connectedHoses (by decide) ⟨rfl, rfl⟩ ⟨Nat.zero_le _, Nat.zero_le _⟩ rfl (by exact Nat.le_of_ble_eq_true rfl) hJ.g0 rfl dX1_number_133 ?_
      exact aw_iret X hQ dX1_number_136 ⟨congrArg (fun q => some (Value.int q)) (by simp [cNumber, c1_1, Int32.not_le.mpr c1_1, s21_2, s21_3, s21_4, s21_5, s21_6, s21_7]), rfl⟩
    by_cases s21_8 : w = 12
    · refine aw_tableV (tgt := 137) X (12) s21_8 dX1_number_21 (by decide) (by decide) rfl (by decide) ?_
      refine aw_aload_n X dX1_number_137 rfl ?_
      refine aw_cVF (As := []) X (c_X1_burstHoses (kl K) U _ sh _ hJ.1 ) s_X1_161 k_X1_burstHoses (by decide) ⟨rfl, rfl⟩ ⟨Nat.zero_le _, Nat.zero_le _⟩ rfl (by exact Nat.le_of_ble_eq_true rfl) hJ.g0 rfl dX1_number_138 ?_
      exact aw_iret X hQ dX1_number_141 ⟨congrArg (fun q => some (Value.int q)) (by simp [cNumber, c1_1, Int32.not_le.mpr c1_1, s21_2, s21_3, s21_4, s21_5, s21_6, s21_7, s21_8]), rfl⟩
    by_cases s21_9 : w = 13
    · refine aw_tableV (tgt := 142) X (13) s21_9 dX1_number_21 (by decide) (by decide) rfl (by decide) ?_
      refine aw_aload_n X dX1_number_142 rfl ?_
      refine aw_jget X hJ f_X1_55 rfl dX1_number_143 ?_
      refine aw_bj (tgt := 153) (t2 := 154) X dX1_number_146 dX1_number_149 dX1_number_150 dX1_number_153 (by decide) (by decide) rfl ?_
      exact aw_iret X hQ dX1_number_154 ⟨congrArg (fun q => some (Value.int q)) (by simp [cNumber, c1_1, Int32.not_le.mpr c1_1, s21_2, s21_3, s21_4, s21_5, s21_6, s21_7, s21_8, s21_9]), rfl⟩
    by_cases s21_10 : w = 14
    · refine aw_tableV (tgt := 155) X (14) s21_10 dX1_number_21 (by decide) (by decide) rfl (by decide) ?_
      refine aw_aload_n X dX1_number_155 rfl ?_
      refine aw_jget X hJ f_X1_58 rfl dX1_number_156 ?_
      exact aw_iret X hQ dX1_number_159 ⟨congrArg (fun q => some (Value.int q)) (by simp [cNumber, c1_1, Int32.not_le.mpr c1_1, s21_2, s21_3, s21_4, s21_5, s21_6, s21_7, s21_8, s21_9, s21_10]), rfl⟩
    by_cases s21_11 : w = 15
    · refine aw_tableV (tgt := 160) X (15) s21_11 dX1_number_21 (by decide) (by decide) rfl (by decide) ?_
      refine aw_aload_n X dX1_number_160 rfl ?_
      refine aw_jget X hJ f_X1_61 rfl dX1_number_161 ?_
      exact aw_iret X hQ dX1_number_164 ⟨congrArg (fun q => some (Value.int q)) (by simp [cNumber, c1_1, Int32.not_le.mpr c1_1, s21_2, s21_3, s21_4, s21_5, s21_6, s21_7, s21_8, s21_9, s21_10, s21_11]), rfl⟩
    by_cases s21_12 : w = 16
    · refine aw_tableV (tgt := 165) X (16) s21_12 dX1_number_21 (by decide) (by decide) rfl (by decide) ?_
      refine aw_aload_n X dX1_number_165 rfl ?_
      refine aw_jget X hJ f_X1_64 rfl dX1_number_166 ?_
      exact aw_iret X hQ dX1_number_169 ⟨congrArg (fun q => some (Value.int q)) (by simp [cNumber, c1_1, Int32.not_le.mpr c1_1, s21_2, s21_3, s21_4, s21_5, s21_6, s21_7, s21_8, s21_9, s21_10, s21_11, s21_12]), rfl⟩
    by_cases s21_13 : w = 17
    · refine aw_tableV (tgt := 170) X (17) s21_13 dX1_number_21 (by decide) (by decide) rfl (by decide) ?_
      refine aw_aload_n X dX1_number_170 rfl ?_
      refine aw_jget X hJ f_X1_67 rfl dX1_number_171 ?_
      exact aw_iret X hQ dX1_number_174 ⟨congrArg (fun q => some (Value.int q)) (by simp [cNumber, c1_1, Int32.not_le.mpr c1_1, s21_2, s21_3, s21_4, s21_5, s21_6, s21_7, s21_8, s21_9, s21_10, s21_11, s21_12, s21_13]), rfl⟩
    refine aw_tableOut (tgt := 175) X dX1_number_21 (by have h0 := lv_neT (a := 6) s21_2 (by decide); have h1 := lv_neT (a := 7) s21_3 (by decide); have h2 := lv_neT (a := 8) s21_4 (by decide); have h3 := lv_neT (a := 9) s21_5 (by decide); have h4 := lv_neT (a := 10) s21_6 (by decide); have h5 := lv_neT (a := 11) s21_7 (by decide); have h6 := lv_neT (a := 12) s21_8 (by decide); have h7 := lv_neT (a := 13) s21_9 (by decide); have h8 := lv_neT (a := 14) s21_10 (by decide); have h9 := lv_neT (a := 15) s21_11 (by decide); have h10 := lv_neT (a := 16) s21_12 (by decide); have h11 := lv_neT (a := 17) s21_13 (by decide); omega) (by decide) ?_
    refine aw_ldc X dX1_number_175 a_X1_98 ?_
    exact aw_iret X hQ dX1_number_177 ⟨congrArg (fun q => some (Value.int q)) (by simp [cNumber, c1_1, Int32.not_le.mpr c1_1, s21_2, s21_3, s21_4, s21_5, s21_6, s21_7, s21_8, s21_9, s21_10, s21_11, s21_12, s21_13]), rfl⟩
  · skip
    refine aw_iload_n X dX1_number_4 rfl ?_
    refine aw_aload_n X dX1_number_5 rfl ?_
    refine aw_jget X hJ f_X1_18 rfl dX1_number_6 ?_
    refine aw_jlen X hJ 0 (by decide) (v := 6) rfl dX1_number_9 ?_
    refine aw_icmp_ge (tgt := 20) X dX1_number_10 (by decide) (fun c10_2 => ?_) (fun c10_2 => ?_)
    · skip
      refine aw_iload_n X dX1_number_20 rfl ?_
      by_cases s21_3 : w = 6
      · refine aw_tableV (tgt := 84) X (6) s21_3 dX1_number_21 (by decide) (by decide) rfl (by decide) ?_
        refine aw_aload_n X dX1_number_84 rfl ?_
        refine aw_jget X hJ f_X1_52 rfl dX1_number_85 ?_
        exact aw_iret X hQ dX1_number_88 ⟨congrArg (fun q => some (Value.int q)) (by simp [cNumber, c1_1, Int32.not_lt.mp c1_1, c10_2, Int32.not_lt.mpr c10_2, s21_3]), rfl⟩
      by_cases s21_4 : w = 7
      · refine aw_tableV (tgt := 89) X (7) s21_4 dX1_number_21 (by decide) (by decide) rfl (by decide) ?_
        refine aw_aload_n X dX1_number_89 rfl ?_
        refine aw_aload_n X dX1_number_90 rfl ?_
        refine aw_jget X hJ f_X1_52 rfl dX1_number_91 ?_
        refine aw_cVF (As := [.int _]) X (c_X1_tideAt (kl K) U _ sh _ hJ.1 _) s_X1_94 k_X1_tideAt (by decide) ⟨rfl, rfl⟩ ⟨Nat.zero_le _, Nat.zero_le _⟩ rfl (by exact Nat.le_of_ble_eq_true rfl) hJ.g0 rfl dX1_number_94 ?_
        exact aw_iret X hQ dX1_number_97 ⟨congrArg (fun q => some (Value.int q)) (by simp [cNumber, c1_1, Int32.not_lt.mp c1_1, c10_2, Int32.not_lt.mpr c10_2, s21_3, s21_4]), rfl⟩
      by_cases s21_5 : w = 8
      · refine aw_tableV (tgt := 98) X (8) s21_5 dX1_number_21 (by decide) (by decide) rfl (by decide) ?_
        refine aw_aload_n X dX1_number_98 rfl ?_
        refine aw_jget X hJ f_X1_18 rfl dX1_number_99 ?_
        refine aw_iconst X (0) dX1_number_102 rfl ?_
        refine aw_jald X hJ 0 (by decide) 0 (xin_d rfl) (by decide) dX1_number_103 ?_
        refine aw_aload_n X dX1_number_104 rfl ?_
        refine aw_aload_n X dX1_number_105 rfl ?_
        refine aw_jget X hJ f_X1_52 rfl dX1_number_106 ?_
        refine aw_cVF (As := [.int _]) X (c_X1_tideAt (kl K) U _ sh _ hJ.1 _) s_X1_94 k_X1_tideAt (by decide) ⟨rfl, rfl⟩ ⟨Nat.zero_le _, Nat.zero_le _⟩ rfl (by exact Nat.le_of_ble_eq_true rfl) hJ.g0 rfl dX1_number_109 ?_
        refine aw_iadd X dX1_number_112 ?_
        exact aw_iret X hQ dX1_number_113 ⟨congrArg (fun q => some (Value.int q)) (by simp [cNumber, c1_1, Int32.not_lt.mp c1_1, c10_2, Int32.not_lt.mpr c10_2, s21_3, s21_4, s21_5]), rfl⟩
      by_cases s21_6 : w = 9
      · refine aw_tableV (tgt := 114) X (9) s21_6 dX1_number_21 (by decide) (by decide) rfl (by decide) ?_
        refine aw_aload_n X dX1_number_114 rfl ?_
        refine aw_jget X hJ f_X1_48 rfl dX1_number_115 ?_
        exact aw_iret X hQ dX1_number_118 ⟨congrArg (fun q => some (Value.int q)) (by simp [cNumber, c1_1, Int32.not_lt.mp c1_1, c10_2, Int32.not_lt.mpr c10_2, s21_3, s21_4, s21_5, s21_6]), rfl⟩
      by_cases s21_7 : w = 10
      · refine aw_tableV (tgt := 119) X (10) s21_7 dX1_number_21 (by decide) (by decide) rfl (by decide) ?_
        refine aw_aload_n X dX1_number_119 rfl ?_
        refine aw_jget X hJ f_X1_44 rfl dX1_number_120 ?_
        refine aw_bj (tgt := 130) (t2 := 131) X dX1_number_123 dX1_number_126 dX1_number_127 dX1_number_130 (by decide) (by decide) rfl ?_
        exact aw_iret X hQ dX1_number_131 ⟨congrArg (fun q => some (Value.int q)) (by simp [cNumber, c1_1, Int32.not_lt.mp c1_1, c10_2, Int32.not_lt.mpr c10_2, s21_3, s21_4, s21_5, s21_6, s21_7]), rfl⟩
      by_cases s21_8 : w = 11
      · refine aw_tableV (tgt := 132) X (11) s21_8 dX1_number_21 (by decide) (by decide) rfl (by decide) ?_
        refine aw_aload_n X dX1_number_132 rfl ?_
        refine aw_cVF (As := []) X (c_X1_connectedHoses (kl K) U _ sh _ hJ.1 ) s_X1_128 k_X1_connectedHoses (by decide) ⟨rfl, rfl⟩ ⟨Nat.zero_le _, Nat.zero_le _⟩ rfl (by exact Nat.le_of_ble_eq_true rfl) hJ.g0 rfl dX1_number_133 ?_
        exact aw_iret X hQ dX1_number_136 ⟨congrArg (fun q => some (Value.int q)) (by simp [cNumber, c1_1, Int32.not_lt.mp c1_1, c10_2, Int32.not_lt.mpr c10_2, s21_3, s21_4, s21_5, s21_6, s21_7, s21_8]), rfl⟩
      by_cases s21_9 : w = 12
      · refine aw_tableV (tgt := 137) X (12) s21_9 dX1_number_21 (by decide) (by decide) rfl (by decide) ?_
        refine aw_aload_n X dX1_number_137 rfl ?_
        refine aw_cVF (As := []) X (c_X1_burstHoses (kl K) U _ sh _ hJ.1 ) s_X1_161 k_X1_burstHoses (by decide) ⟨rfl, rfl⟩ ⟨Nat.zero_le _, Nat.zero_le _⟩ rfl (by exact Nat.le_of_ble_eq_true rfl) hJ.g0 rfl dX1_number_138 ?_
        exact aw_iret X hQ dX1_number_141 ⟨congrArg (fun q => some (Value.int q)) (by simp [cNumber, c1_1, Int32.not_lt.mp c1_1, c10_2, Int32.not_lt.mpr c10_2, s21_3, s21_4, s21_5, s21_6, s21_7, s21_8, s21_9]), rfl⟩
      by_cases s21_10 : w = 13
      · refine aw_tableV (tgt := 142) X (13) s21_10 dX1_number_21 (by decide) (by decide) rfl (by decide) ?_
        refine aw_aload_n X dX1_number_142 rfl ?_
        refine aw_jget X hJ f_X1_55 rfl dX1_number_143 ?_
        refine aw_bj (tgt := 153) (t2 := 154) X dX1_number_146 dX1_number_149 dX1_number_150 dX1_number_153 (by decide) (by decide) rfl ?_
        exact aw_iret X hQ dX1_number_154 ⟨congrArg (fun q => some (Value.int q)) (by simp [cNumber, c1_1, Int32.not_lt.mp c1_1, c10_2, Int32.not_lt.mpr c10_2, s21_3, s21_4, s21_5, s21_6, s21_7, s21_8, s21_9, s21_10]), rfl⟩
      by_cases s21_11 : w = 14
      · refine aw_tableV (tgt := 155) X (14) s21_11 dX1_number_21 (by decide) (by decide) rfl (by decide) ?_
        refine aw_aload_n X dX1_number_155 rfl ?_
        refine aw_jget X hJ f_X1_58 rfl dX1_number_156 ?_
        exact aw_iret X hQ dX1_number_159 ⟨congrArg (fun q => some (Value.int q)) (by simp [cNumber, c1_1, Int32.not_lt.mp c1_1, c10_2, Int32.not_lt.mpr c10_2, s21_3, s21_4, s21_5, s21_6, s21_7, s21_8, s21_9, s21_10, s21_11]), rfl⟩
      by_cases s21_12 : w = 15
      · refine aw_tableV (tgt := 160) X (15) s21_12 dX1_number_21 (by decide) (by decide) rfl (by decide) ?_
        refine aw_aload_n X dX1_number_160 rfl ?_
        refine aw_jget X hJ f_X1_61 rfl dX1_number_161 ?_
        exact aw_iret X hQ dX1_number_164 ⟨congrArg (fun q => some (Value.int q)) (by simp [cNumber, c1_1, Int32.not_lt.mp c1_1, c10_2, Int32.not_lt.mpr c10_2, s21_3, s21_4, s21_5, s21_6, s21_7, s21_8, s21_9, s21_10, s21_11, s21_12]), rfl⟩
      by_cases s21_13 : w = 16
      · refine aw_tableV (tgt := 165) X (16) s21_13 dX1_number_21 (by decide) (by decide) rfl (by decide) ?_
        refine aw_aload_n X dX1_number_165 rfl ?_
        refine aw_jget X hJ f_X1_64 rfl dX1_number_166 ?_
        exact aw_iret X hQ dX1_number_169 ⟨congrArg (fun q => some (Value.int q)) (by simp [cNumber, c1_1, Int32.not_lt.mp c1_1, c10_2, Int32.not_lt.mpr c10_2, s21_3, s21_4, s21_5, s21_6, s21_7, s21_8, s21_9, s21_10, s21_11, s21_12, s21_13]), rfl⟩
      by_cases s21_14 : w = 17
      · refine aw_tableV (tgt := 170) X (17) s21_14 dX1_number_21 (by decide) (by decide) rfl (by decide) ?_
        refine aw_aload_n X dX1_number_170 rfl ?_
        refine aw_jget X hJ f_X1_67 rfl dX1_number_171 ?_
        exact aw_iret X hQ dX1_number_174 ⟨congrArg (fun q => some (Value.int q)) (by simp [cNumber, c1_1, Int32.not_lt.mp c1_1, c10_2, Int32.not_lt.mpr c10_2, s21_3, s21_4, s21_5, s21_6, s21_7, s21_8, s21_9, s21_10, s21_11, s21_12, s21_13, s21_14]), rfl⟩
      refine aw_tableOut (tgt := 175) X dX1_number_21 (by have h0 := lv_neT (a := 6) s21_3 (by decide); have h1 := lv_neT (a := 7) s21_4 (by decide); have h2 := lv_neT (a := 8) s21_5 (by decide); have h3 := lv_neT (a := 9) s21_6 (by decide); have h4 := lv_neT (a := 10) s21_7 (by decide); have h5 := lv_neT (a := 11) s21_8 (by decide); have h6 := lv_neT (a := 12) s21_9 (by decide); have h7 := lv_neT (a := 13) s21_10 (by decide); have h8 := lv_neT (a := 14) s21_11 (by decide); have h9 := lv_neT (a := 15) s21_12 (by decide); have h10 := lv_neT (a := 16) s21_13 (by decide); have h11 := lv_neT (a := 17) s21_14 (by decide); omega) (by decide) ?_
      refine aw_ldc X dX1_number_175 a_X1_98 ?_
      exact aw_iret X hQ dX1_number_177 ⟨congrArg (fun q => some (Value.int q)) (by simp [cNumber, c1_1, Int32.not_lt.mp c1_1, c10_2, Int32.not_lt.mpr c10_2, s21_3, s21_4, s21_5, s21_6, s21_7, s21_8, s21_9, s21_10, s21_11, s21_12, s21_13, s21_14]), rfl⟩
    · skip
      refine aw_aload_n X dX1_number_13 rfl ?_
      refine aw_jget X hJ f_X1_18 rfl dX1_number_14 ?_
      refine aw_iload_n X dX1_number_17 rfl ?_
      refine aw_jald X hJ 0 (by decide) (tn w) (xin_r (n := 6) rfl (by decide) c1_1 (Int32.not_le.mp c10_2)) (Nat.zero_add _) dX1_number_18 ?_
      exact aw_iret X hQ dX1_number_19 ⟨congrArg (fun q => some (Value.int q)) (by simp [cNumber, c1_1, Int32.not_lt.mp c1_1, c10_2, Int32.not_le.mp c10_2]), rfl⟩
end
section
/-- behind the berth's turning: the tankers' names move up by one -/
def rsh (sh : Nat → Nat) : Nat → Nat := fun n => if 11 ≤ n ∧ n < 16 then sh (n + 1) else if n = 16 then sh 11 else if 17 ≤ n ∧ n < 22 then sh (n + 1) else if n = 22 then sh 17 else sh n
def rix (n : Nat) : Nat := if 11 ≤ n ∧ n < 16 then n + 1 else if n = 16 then 11 else if 17 ≤ n ∧ n < 22 then n + 1 else if n = 22 then 17 else n
theorem rsh_ix (sh : Nat → Nat) (n : Nat) : rsh sh n = sh (rix n) := by
  unfold rsh rix
  split
  · rfl
  split
  · rfl
  split
  · rfl
  split <;> rfl
theorem rix_lt {n : Nat} (h : n < 23) : rix n < 23 := by
  unfold rix
  repeat' split
  all_goals omega
theorem rix_inj {n m : Nat} (hn : n < 23) (hm : m < 23) (h : rix n = rix m) : n = m := by
  unfold rix at h
  repeat' split at h
  all_goals omega
theorem rix_on {n : Nat} (h : n < 23) : ∃ m, m < 23 ∧ rix m = n := by
  by_cases h1 : 12 ≤ n ∧ n < 17
  · exact ⟨n - 1, by omega, by unfold rix; rw [if_pos (by omega)]; omega⟩
  by_cases h2 : n = 11
  · exact ⟨16, by omega, by subst h2; rfl⟩
  by_cases h3 : 18 ≤ n ∧ n < 23
  · exact ⟨n - 1, by omega, by unfold rix; rw [if_neg (by omega), if_neg (by omega), if_pos (by omega)]; omega⟩
  by_cases h4 : n = 17
  · exact ⟨22, by omega, by subst h4; rfl⟩
  · exact ⟨n, h, by unfold rix; rw [if_neg (by omega), if_neg (by omega), if_neg (by omega), if_neg (by omega)]⟩
theorem gRot_o {z : xV} {k : Nat} (h : k < 50 ∨ 80 ≤ k) : gRot z k = z k := by
  unfold gRot
  rw [if_neg (by omega), if_neg (by omega)]
theorem gRot_lo {z : xV} {p f : Nat} (h : p < 5) (hf : f < 5) : gRot z (tz p f) = z (tz (p + 1) f) := by
  unfold gRot tz
  rw [if_pos (by omega)]
  exact congrArg z (by omega)
theorem gRot_hi {z : xV} {f : Nat} (hf : f < 5) : gRot z (tz 5 f) = z (tz 0 f) := by
  unfold gRot tz
  rw [if_neg (by omega), if_pos (by omega)]
  exact congrArg z (by omega)
abbrev TC (U : xU) (f : Nat → Option Nat) : va_E := .inl (uC U 4, 6, .inr (.inr (.inr (.inr f))))
theorem JR.rot {U : xU} {μ0 μ : xH} {sh : Nat → Nat} {z : xV} (h : JR U μ0 μ sh z) {f : Nat → Option Nat} (hf : ∀ p, p < 6 → f p = some (rsh sh (11 + p))) : JRep U (xup μ (sh 6) (TC U f)) (rsh sh) (gRot z) := by
  have hinj := h.1.1
  have hne : ∀ n, n < 23 → rix n ≠ 6 → xup μ (sh 6) (TC U f) (rsh sh n) = μ (sh (rix n)) := fun n hn h6 => by
    rw [rsh_ix, xup_n (fun q => h6 (hinj _ _ (rix_lt hn) (by decide) q))]
  refine ⟨fun i j hi hj e => ?_, ⟨?_, ?_, fun i hi => ⟨?_, ?_⟩⟩, fun n hn => ?_⟩
  · rw [rsh_ix, rsh_ix] at e
    exact rix_inj hi hj (hinj _ _ (rix_lt hi) (rix_lt hj) e)
  · rw [gRot_o (by decide)]; exact h.1.2.1.1
  · rw [gRot_o (by decide)]; exact h.1.2.1.2.1
  · rw [gRot_o (by simp only [hz]; omega)]; exact (h.1.2.1.2.2 i hi).1
  · rw [gRot_o (by omega)]; exact (h.1.2.1.2.2 i hi).2
  · by_cases h6 : n = 6
    · subst h6
      refine ⟨_, by rw [rsh_ix]; exact xup_s, ?_⟩
      rw [JC, if_neg (by decide), if_neg (by decide), if_neg (by decide), if_pos rfl]
      exact ⟨f, rfl, hf⟩
    have hr6 : rix n ≠ 6 := fun q => h6 (rix_inj hn (by decide) q)
    obtain ⟨e, g1, g2⟩ := h.1.2.2 (rix n) (rix_lt hn)
    refine ⟨e, by rw [hne n hn hr6]; exact g1, ?_⟩
    by_cases hlo : n < 11
    · have e0 : rix n = n := by unfold rix; rw [if_neg (by omega), if_neg (by omega), if_neg (by omega), if_neg (by omega)]
      rw [e0] at g2
      have g3 : JC U sh (gRot z) n e := g2.congr (fun k hk => gRot_o (by
        unfold jreg at hk
        by_cases a0 : n = 0
        · rw [if_pos a0] at hk; omega
        rw [if_neg a0] at hk
        by_cases a5 : n < 5
        · rw [if_pos a5] at hk
          simp only [jbase, jlen] at hk
          by_cases a1 : n - 1 = 0
          · rw [if_pos a1, if_pos a1] at hk; omega
          · rw [if_neg a1, if_neg a1] at hk; omega
        rw [if_neg a5] at hk
        by_cases a7 : n < 7
        · rw [if_pos a7] at hk; exact hk.elim
        rw [if_neg a7, if_pos hlo] at hk
        simp only [hz] at hk
        omega)) hn
      unfold JC at g3 ⊢
      have r : ∀ m, m < 11 → rsh sh m = sh m := fun m hm => by
        unfold rsh
        rw [if_neg (by omega), if_neg (by omega), if_neg (by omega), if_neg (by omega)]
      by_cases a0 : n = 0
      · rw [if_pos a0] at g3 ⊢
        rw [g3]
        simp only [jfs, r 1 (by decide), r 2 (by decide), r 3 (by decide), r 4 (by decide), r 5 (by decide), r 6 (by decide)]
      rw [if_neg a0] at g3 ⊢
      by_cases a5 : n < 5
      · rw [if_pos a5] at g3 ⊢; exact g3
      rw [if_neg a5] at g3 ⊢
      by_cases b5 : n = 5
      · rw [if_pos b5] at g3 ⊢
        obtain ⟨f5, q1, q2⟩ := g3
        exact ⟨f5, q1, fun i hi => by rw [r (7 + i) (by omega)]; exact q2 i hi⟩
      rw [if_neg b5, if_neg h6, if_pos hlo] at g3 ⊢
      exact g3
    by_cases hmid : n < 17
    · obtain ⟨p, hp, rfl⟩ : ∃ p, p < 6 ∧ n = 11 + p := ⟨n - 11, by omega, by omega⟩
      rw [JC, if_neg (by omega), if_neg (by omega), if_neg (by omega), if_neg (by omega), if_neg (by omega), if_pos (by omega), Nat.add_sub_cancel_left]
      by_cases hp5 : p < 5
      · have e1 : rix (11 + p) = 11 + (p + 1) := by unfold rix; rw [if_pos (by omega)]; omega
        rw [e1, JC, if_neg (by omega), if_neg (by omega), if_neg (by omega), if_neg (by omega), if_neg (by omega), if_pos (by omega), Nat.add_sub_cancel_left] at g2
        rw [g2, gRot_lo hp5 (by decide), rsh, if_neg (by omega), if_neg (by omega), if_pos (by omega)]
        rfl
      · obtain rfl : p = 5 := by omega
        rw [show rix (11 + 5) = 11 + 0 from rfl, JC, if_neg (by omega), if_neg (by omega), if_neg (by omega), if_neg (by omega), if_neg (by omega), if_pos (by omega), Nat.add_sub_cancel_left] at g2
        rw [g2, gRot_hi (by decide)]
        rfl
    · obtain ⟨p, hp, rfl⟩ : ∃ p, p < 6 ∧ n = 17 + p := ⟨n - 17, by omega, by omega⟩
      rw [JC, if_neg (by omega), if_neg (by omega), if_neg (by omega), if_neg (by omega), if_neg (by omega), if_neg (by omega), Nat.add_sub_cancel_left]
      by_cases hp5 : p < 5
      · have e1 : rix (17 + p) = 17 + (p + 1) := by unfold rix; rw [if_neg (by omega), if_neg (by omega), if_pos (by omega)]; omega
        rw [e1, JC, if_neg (by omega), if_neg (by omega), if_neg (by omega), if_neg (by omega), if_neg (by omega), if_neg (by omega), Nat.add_sub_cancel_left] at g2
        obtain ⟨f7, q1, q2⟩ := g2
        exact ⟨f7, q1, fun k hk => by rw [gRot_lo hp5 (by omega)]; exact q2 k hk⟩
      · obtain rfl : p = 5 := by omega
        rw [show rix (17 + 5) = 17 + 0 from rfl, JC, if_neg (by omega), if_neg (by omega), if_neg (by omega), if_neg (by omega), if_neg (by omega), if_neg (by omega), Nat.add_sub_cancel_left] at g2
        obtain ⟨f7, q1, q2⟩ := g2
        exact ⟨f7, q1, fun k hk => by rw [gRot_hi (by omega)]; exact q2 k hk⟩
section XBERTH
variable {U : xU} {K : xK} {y : MethodName} {cc : ByteArray} {nL cells slots : Nat} {ret : Option FieldType} {rm : Room} {Q : State → Prop} {μ0 μ : xH} {sh : Nat → Nat} {z : xV} {pc index : Nat} {ls : List (Option Value)} {st : List Value} {f : Nat → Option Nat}
theorem aw_bget (X : Cx U K y cc nL ret rm) (hJ : JR U μ0 μ sh z) (hf : XF y.cls index 1 5 RX1 TX1 14) (hdg : decode cc pc = .ok (.getfield index, 3)) (kk : AW U K nL cells slots Q (xup μ (sh 6) (TC U f)) (pc + 3) ls (.ref (sh 6) :: st)) : AW U K nL cells slots Q (xup μ (sh 6) (TC U f)) pc ls (.ref (sh 0) :: st) :=
  aw_get X hf (by rw [xup_n (fun q => absurd (hJ.1.1 0 6 (by decide) (by decide) q) (by decide))]; exact hJ.g0) rfl hdg kk
theorem aw_blen (X : Cx U K y cc nL ret rm) (hdg : decode cc pc = .ok (.arraylength, 1)) (kk : AW U K nL cells slots Q (xup μ (sh 6) (TC U f)) (pc + 1) ls (.int 6 :: st)) : AW U K nL cells slots Q (xup μ (sh 6) (TC U f)) pc ls (.ref (sh 6) :: st) := aw_alen X (t0 := 4) rfl xup_s rfl hdg kk
theorem aw_bald (X : Cx U K y cc nL ret rm) {i : Int32} (j v : Nat) (hj : i.toNatClampNeg = j) (hin : vp_in i 6) (hv : f j = some v) (hdg : decode cc pc = .ok (.aaload, 1)) (kk : AW U K nL cells slots Q (xup μ (sh 6) (TC U f)) (pc + 1) ls (.ref v :: st)) : AW U K nL cells slots Q (xup μ (sh 6) (TC U f)) pc ls (.int i :: .ref (sh 6) :: st) := aw_aald X (t0 := 4) rfl xup_s hin (by rw [hj]; exact hv) hdg kk
theorem xup_xup {μ : xH} {a : Nat} {e e' : va_E} : xup (xup μ a e) a e' = xup μ a e' := by
  funext q
  by_cases h : q = a
  · subst h; rw [xup_s, xup_s]
  · rw [xup_n h, xup_n h, xup_n h]
theorem xup_id {μ : xH} {a : Nat} {e : va_E} (h : μ a = some e) : μ = xup μ a e := by
  funext q
  by_cases hq : q = a
  · subst hq; rw [xup_s, h]
  · rw [xup_n hq]
theorem aw_bast (X : Cx U K y cc nL ret rm) (hJ : JR U μ0 μ sh z) {i : Int32} (j q : Nat) (hq : q < 6) (hj : i.toNatClampNeg = j) (hin : vp_in i 6) (hdg : decode cc pc = .ok (.aastore, 1)) (kk : AW U K nL cells slots Q (xup μ (sh 6) (TC U (va_up f j (some (sh (11 + q)))))) (pc + 1) ls st) : AW U K nL cells slots Q (xup μ (sh 6) (TC U f)) pc ls (.ref (sh (11 + q)) :: .int i :: .ref (sh 6) :: st) := by
  refine aw_aast X (t0 := 4) (ci := 3) (r := (RX3, TX3, 2)) rfl xup_s (by rw [xup_n (fun w => absurd (hJ.1.1 (11 + q) 6 (by omega) (by decide) w) (by omega))]; exact hJ.gT q hq) rfl hin hdg ?_
  rw [xup_xup, hj]
  exact kk
end XBERTH
/-- what a jetty's change that may turn the tankers leaves -/
def JS (U : xU) (μ μ' : xH) (sh : Nat → Nat) (z : xV) : Prop := ∃ sh' : Nat → Nat, sh' 0 = sh 0 ∧ (∀ q, (∀ n, n < 23 → q ≠ sh' n) ↔ (∀ n, n < 23 → q ≠ sh n)) ∧ JRep U μ' sh' z ∧ JFr sh μ μ'
theorem JR.js {U : xU} {μ0 μ : xH} {sh : Nat → Nat} {z : xV} (h : JR U μ0 μ sh z) : JS U μ0 μ sh z := ⟨sh, rfl, fun _ => Iff.rfl, h.1, h.2⟩
theorem rsh_set {sh : Nat → Nat} {q : Nat} : (∀ n, n < 23 → q ≠ rsh sh n) ↔ (∀ n, n < 23 → q ≠ sh n) := by
  constructor
  · intro h n hn
    obtain ⟨m, hm, e⟩ := rix_on hn
    have := h m hm
    rw [rsh_ix, e] at this
    exact this
  · intro h n hn
    rw [rsh_ix]
    exact h _ (rix_lt hn)
theorem JR.rjs {U : xU} {μ0 μ1 μ : xH} {sh : Nat → Nat} {z : xV} (h : JR U μ1 μ (rsh sh) z) (hf : JFr sh μ0 μ1) : JS U μ0 μ sh z := ⟨rsh sh, rfl, fun _ => rsh_set, h.1, fun q hq => (h.2 q (rsh_set.mpr hq)).trans (hf q hq)⟩
set_option maxHeartbeats 4000000 in
set_option maxRecDepth 100000 in
theorem c_X1_letBerth (l : Launch) (U : xU) (μ0 : xH) (sh : Nat → Nat) (z : xV) (hJ0 : JRep U μ0 sh z) : Ct l U yX1_letBerth cX1_letBerth 3 (some .int) ({ frames := 3, cells := 0, slots := 0, locals := 65 } : Room) [.ref (sh 0)] μ0 (fun v μ' => v = some (.int (gBerth z).1) ∧ JS U μ0 μ' sh (gBerth z).2) := by
  refine Ct.of [some (.ref (sh 0)), none, none] (by decide +kernel) rfl (Nat.le_of_ble_eq_true rfl) (fun K Q X hnm hQ => ?_)
  have hJ := JR.rf hJ0
  refine aw_aload_n X dX1_letBerth_0 rfl ?_
  refine aw_jget X hJ f_X1_48 rfl dX1_letBerth_1 ?_
  refine aw_if_eq (tgt := 34) X dX1_letBerth_4 (by decide) (fun c4_1 => ?_) (fun c4_1 => ?_)
  · skip
    refine aw_ldc X dX1_letBerth_34 a_X1_124 ?_
    exact aw_iret X hQ dX1_letBerth_36 ⟨congrArg (fun q => some (Value.int q)) (by simp [gBerth, c4_1]), (hJ.to (by simp [gBerth, c4_1])).js⟩
  · skip
    refine aw_aload_n X dX1_letBerth_7 rfl ?_
    refine aw_jget X hJ f_X1_44 rfl dX1_letBerth_8 ?_
    refine aw_if_ne (tgt := 34) X dX1_letBerth_11 (by decide) (fun c11_2 => ?_) (fun c11_2 => ?_)
    · skip
      refine aw_ldc X dX1_letBerth_34 a_X1_124 ?_
      exact aw_iret X hQ dX1_letBerth_36 ⟨congrArg (fun q => some (Value.int q)) (by simp [gBerth, c4_1, c11_2]), (hJ.to (by simp [gBerth, c4_1, c11_2])).js⟩
    · skip
      refine aw_aload_n X dX1_letBerth_14 rfl ?_
      refine aw_aload_n X dX1_letBerth_15 rfl ?_
      refine aw_jget X hJ f_X1_40 rfl dX1_letBerth_16 ?_
      refine aw_iconst X (1) dX1_letBerth_19 rfl ?_
      refine aw_tankAt X hJ (1) (by decide) (by decide) dX1_letBerth_20 ?_
      refine aw_cVF (As := []) X (c_X3_draught (kl K) U _ sh _ hJ.1 (1) (by decide)) s_X1_116 k_X3_draught (by decide) ⟨rfl, rfl⟩ ⟨Nat.zero_le _, Nat.zero_le _⟩ rfl (by exact Nat.le_of_ble_eq_true rfl) (hJ.gT _ (by decide)) rfl dX1_letBerth_21 ?_
      refine aw_aload_n X dX1_letBerth_24 rfl ?_
      refine aw_jget X hJ f_X1_52 rfl dX1_letBerth_25 ?_
      refine aw_cVF (As := [.int _, .int _]) X (c_X1_floatsAt (kl K) U _ sh _ hJ.1 _ _) s_X1_120 k_X1_floatsAt (by decide) ⟨rfl, rfl⟩ ⟨Nat.zero_le _, Nat.zero_le _⟩ rfl (by exact Nat.le_of_ble_eq_true rfl) hJ.g0 rfl dX1_letBerth_28 ?_
      refine aw_b_ne (tgt := 37) X dX1_letBerth_31 (by decide) (fun c31_3 => ?_) (fun c31_3 => ?_)
      · skip
        refine aw_aload_n X dX1_letBerth_37 rfl ?_
        refine aw_jget X hJ f_X1_40 rfl dX1_letBerth_38 ?_
        refine aw_iconst X (0) dX1_letBerth_41 rfl ?_
        refine aw_tankAt X hJ (0) (by decide) (by decide) dX1_letBerth_42 ?_
        refine aw_astore_n X dX1_letBerth_43 rfl (by decide) ?_
        refine aw_iconst X (1) dX1_letBerth_44 rfl ?_
        refine aw_istore_n X dX1_letBerth_45 rfl (by decide) ?_
        obtain ⟨f0, hf0, hf⟩ := hJ.g6
        refine aw_mu (xup_id hf0) ?_
        refine aw_iload_n X dX1_letBerth_46 rfl ?_
        refine aw_aload_n X dX1_letBerth_47 rfl ?_
        refine aw_bget X hJ f_X1_40 dX1_letBerth_48 ?_
        refine aw_blen X dX1_letBerth_51 ?_
        refine aw_icmp_ge_f (tgt := 75) X dX1_letBerth_52 (by decide) (by decide) ?_
        refine aw_aload_n X dX1_letBerth_55 rfl ?_
        refine aw_bget X hJ f_X1_40 dX1_letBerth_56 ?_
        refine aw_iload_n X dX1_letBerth_59 rfl ?_
        refine aw_iconst X (1) dX1_letBerth_60 rfl ?_
        refine aw_isub X dX1_letBerth_61 ?_
        refine aw_aload_n X dX1_letBerth_62 rfl ?_
        refine aw_bget X hJ f_X1_40 dX1_letBerth_63 ?_
        refine aw_iload_n X dX1_letBerth_66 rfl ?_
        refine aw_bald X 1 (sh (11 + 1)) (by decide) (xin_d rfl) (by simp [va_up, hf]) dX1_letBerth_67 ?_
        refine aw_bast X hJ 0 1 (by decide) (by decide) (xin_d rfl) dX1_letBerth_68 ?_
        refine aw_iinc X (1) dX1_letBerth_69 rfl rfl rfl (by decide) ?_
        refine aw_goto (tgt := 46) X dX1_letBerth_72 (by decide) ?_
        refine aw_iload_n X dX1_letBerth_46 rfl ?_
        refine aw_aload_n X dX1_letBerth_47 rfl ?_
        refine aw_bget X hJ f_X1_40 dX1_letBerth_48 ?_
        refine aw_blen X dX1_letBerth_51 ?_
        refine aw_icmp_ge_f (tgt := 75) X dX1_letBerth_52 (by decide) (by decide) ?_
        refine aw_aload_n X dX1_letBerth_55 rfl ?_
        refine aw_bget X hJ f_X1_40 dX1_letBerth_56 ?_
        refine aw_iload_n X dX1_letBerth_59 rfl ?_
        refine aw_iconst X (1) dX1_letBerth_60 rfl ?_
        refine aw_isub X dX1_letBerth_61 ?_
        refine aw_aload_n X dX1_letBerth_62 rfl ?_
        refine aw_bget X hJ f_X1_40 dX1_letBerth_63 ?_
        refine aw_iload_n X dX1_letBerth_66 rfl ?_
        refine aw_bald X 2 (sh (11 + 2)) (by decide) (xin_d rfl) (by simp [va_up, hf]) dX1_letBerth_67 ?_
        refine aw_bast X hJ 1 2 (by decide) (by decide) (xin_d rfl) dX1_letBerth_68 ?_
        refine aw_iinc X (1) dX1_letBerth_69 rfl rfl rfl (by decide) ?_
        refine aw_goto (tgt := 46) X dX1_letBerth_72 (by decide) ?_
        refine aw_iload_n X dX1_letBerth_46 rfl ?_
        refine aw_aload_n X dX1_letBerth_47 rfl ?_
        refine aw_bget X hJ f_X1_40 dX1_letBerth_48 ?_
        refine aw_blen X dX1_letBerth_51 ?_
        refine aw_icmp_ge_f (tgt := 75) X dX1_letBerth_52 (by decide) (by decide) ?_
        refine aw_aload_n X dX1_letBerth_55 rfl ?_
        refine aw_bget X hJ f_X1_40 dX1_letBerth_56 ?_
        refine aw_iload_n X dX1_letBerth_59 rfl ?_
        refine aw_iconst X (1) dX1_letBerth_60 rfl ?_
        refine aw_isub X dX1_letBerth_61 ?_
        refine aw_aload_n X dX1_letBerth_62 rfl ?_
        refine aw_bget X hJ f_X1_40 dX1_letBerth_63 ?_
        refine aw_iload_n X dX1_letBerth_66 rfl ?_
        refine aw_bald X 3 (sh (11 + 3)) (by decide) (xin_d rfl) (by simp [va_up, hf]) dX1_letBerth_67 ?_
        refine aw_bast X hJ 2 3 (by decide) (by decide) (xin_d rfl) dX1_letBerth_68 ?_
        refine aw_iinc X (1) dX1_letBerth_69 rfl rfl rfl (by decide) ?_
        refine aw_goto (tgt := 46) X dX1_letBerth_72 (by decide) ?_
        refine aw_iload_n X dX1_letBerth_46 rfl ?_
        refine aw_aload_n X dX1_letBerth_47 rfl ?_
        refine aw_bget X hJ f_X1_40 dX1_letBerth_48 ?_
        refine aw_blen X dX1_letBerth_51 ?_
        refine aw_icmp_ge_f (tgt := 75) X dX1_letBerth_52 (by decide) (by decide) ?_
        refine aw_aload_n X dX1_letBerth_55 rfl ?_
        refine aw_bget X hJ f_X1_40 dX1_letBerth_56 ?_
        refine aw_iload_n X dX1_letBerth_59 rfl ?_
        refine aw_iconst X (1) dX1_letBerth_60 rfl ?_
        refine aw_isub X dX1_letBerth_61 ?_
        refine aw_aload_n X dX1_letBerth_62 rfl ?_
        refine aw_bget X hJ f_X1_40 dX1_letBerth_63 ?_
        refine aw_iload_n X dX1_letBerth_66 rfl ?_
        refine aw_bald X 4 (sh (11 + 4)) (by decide) (xin_d rfl) (by simp [va_up, hf]) dX1_letBerth_67 ?_
        refine aw_bast X hJ 3 4 (by decide) (by decide) (xin_d rfl) dX1_letBerth_68 ?_
        refine aw_iinc X (1) dX1_letBerth_69 rfl rfl rfl (by decide) ?_
        refine aw_goto (tgt := 46) X dX1_letBerth_72 (by decide) ?_
        refine aw_iload_n X dX1_letBerth_46 rfl ?_
        refine aw_aload_n X dX1_letBerth_47 rfl ?_
        refine aw_bget X hJ f_X1_40 dX1_letBerth_48 ?_
        refine aw_blen X dX1_letBerth_51 ?_
        refine aw_icmp_ge_f (tgt := 75) X dX1_letBerth_52 (by decide) (by decide) ?_
        refine aw_aload_n X dX1_letBerth_55 rfl ?_
        refine aw_bget X hJ f_X1_40 dX1_letBerth_56 ?_
        refine aw_iload_n X dX1_letBerth_59 rfl ?_
        refine aw_iconst X (1) dX1_letBerth_60 rfl ?_
        refine aw_isub X dX1_letBerth_61 ?_
        refine aw_aload_n X dX1_letBerth_62 rfl ?_
        refine aw_bget X hJ f_X1_40 dX1_letBerth_63 ?_
        refine aw_iload_n X dX1_letBerth_66 rfl ?_
        refine aw_bald X 5 (sh (11 + 5)) (by decide) (xin_d rfl) (by simp [va_up, hf]) dX1_letBerth_67 ?_
        refine aw_bast X hJ 4 5 (by decide) (by decide) (xin_d rfl) dX1_letBerth_68 ?_
        refine aw_iinc X (1) dX1_letBerth_69 rfl rfl rfl (by decide) ?_
        refine aw_goto (tgt := 46) X dX1_letBerth_72 (by decide) ?_
        refine aw_iload_n X dX1_letBerth_46 rfl ?_
        refine aw_aload_n X dX1_letBerth_47 rfl ?_
        refine aw_bget X hJ f_X1_40 dX1_letBerth_48 ?_
        refine aw_blen X dX1_letBerth_51 ?_
        refine aw_icmp_ge_t (tgt := 75) X dX1_letBerth_52 (by decide) (by decide) ?_
        refine aw_aload_n X dX1_letBerth_75 rfl ?_
        refine aw_bget X hJ f_X1_40 dX1_letBerth_76 ?_
        refine aw_aload_n X dX1_letBerth_79 rfl ?_
        refine aw_bget X hJ f_X1_40 dX1_letBerth_80 ?_
        refine aw_blen X dX1_letBerth_83 ?_
        refine aw_iconst X (1) dX1_letBerth_84 rfl ?_
        refine aw_isub X dX1_letBerth_85 ?_
        refine aw_aload_n X dX1_letBerth_86 rfl ?_
        refine aw_bast X hJ 5 0 (by decide) (by decide) (xin_d rfl) dX1_letBerth_87 ?_
        have hB := hJ.rot (f := (va_up (va_up (va_up (va_up (va_up (va_up f0 0 (some (sh (11 + 1)))) 1 (some (sh (11 + 2)))) 2 (some (sh (11 + 3)))) 3 (some (sh (11 + 4)))) 4 (some (sh (11 + 5)))) 5 (some (sh (11 + 0))))) (fun p hp => by
          rcases (show p = 0 ∨ p = 1 ∨ p = 2 ∨ p = 3 ∨ p = 4 ∨ p = 5 by omega) with rfl | rfl | rfl | rfl | rfl | rfl <;> simp [va_up, rsh])
        have hFr : JFr sh μ0 (xup μ0 (sh 6) (TC U (va_up (va_up (va_up (va_up (va_up (va_up f0 0 (some (sh (11 + 1)))) 1 (some (sh (11 + 2)))) 2 (some (sh (11 + 3)))) 3 (some (sh (11 + 4)))) 4 (some (sh (11 + 5)))) 5 (some (sh (11 + 0)))))) := hJ.2.up (by decide)
        generalize xup μ0 (sh 6) (TC U (va_up (va_up (va_up (va_up (va_up (va_up f0 0 (some (sh (11 + 1)))) 1 (some (sh (11 + 2)))) 2 (some (sh (11 + 3)))) 3 (some (sh (11 + 4)))) 4 (some (sh (11 + 5)))) 5 (some (sh (11 + 0))))) = μ1 at hB hFr ⊢
        have hJ := JR.rf hB
        refine aw_sub [some (.ref (rsh sh 0)), none, none] ⟨rfl, trivial⟩ ?_
        refine aw_aload_n X dX1_letBerth_88 rfl ?_
        refine aw_dup X dX1_letBerth_89 rfl ?_
        refine aw_jget X hJ f_X1_48 rfl dX1_letBerth_90 ?_
        refine aw_iconst X (1) dX1_letBerth_93 rfl ?_
        refine aw_isub X dX1_letBerth_94 ?_
        refine aw_jput X hJ 7 (by decide) (by decide) 12 rfl f_X1_48 (fun h => absurd h (by decide)) dX1_letBerth_95 (fun μ z_4 ez_4 hJ => ?_)
        refine aw_aload_n X dX1_letBerth_98 rfl ?_
        refine aw_iconst X (1) dX1_letBerth_99 rfl ?_
        refine aw_jput X hJ 6 (by decide) (by decide) 13 rfl f_X1_44 (fun _ => by decide) dX1_letBerth_100 (fun μ z_5 ez_5 hJ => ?_)
        refine aw_aload_n X dX1_letBerth_103 rfl ?_
        refine aw_jget X hJ f_X1_40 rfl dX1_letBerth_104 ?_
        refine aw_iconst X (0) dX1_letBerth_107 rfl ?_
        refine aw_tankAt X hJ (0) (by decide) (by decide) dX1_letBerth_108 ?_
        refine aw_cVF (As := []) X (c_X3_allUnits (kl K) U _ (rsh sh) _ hJ.1 (0) (by decide)) s_X1_125 k_X3_allUnits (by decide) ⟨rfl, rfl⟩ ⟨Nat.zero_le _, Nat.zero_le _⟩ rfl (by exact Nat.le_of_ble_eq_true rfl) (hJ.gT _ (by decide)) rfl dX1_letBerth_109 ?_
        exact aw_iret X hQ dX1_letBerth_112 ⟨congrArg (fun q => some (Value.int q)) (by subst ez_4 ez_5; simp [gBerth, c4_1, c11_2, c31_3]), (hJ.to (by subst ez_4 ez_5; simp [gBerth, c4_1, c11_2, c31_3])).rjs hFr⟩
      · skip
        refine aw_ldc X dX1_letBerth_34 a_X1_124 ?_
        exact aw_iret X hQ dX1_letBerth_36 ⟨congrArg (fun q => some (Value.int q)) (by simp [gBerth, c4_1, c11_2, c31_3]), (hJ.to (by simp [gBerth, c4_1, c11_2, c31_3])).js⟩
end
section
/-- what stands from lo to hi comes from w -/
def vcp (w z : xV) (lo hi : Nat) : xV := fun k => if lo ≤ k ∧ k < hi then w k else z k
theorem jreg_84 {n k : Nat} (hn : n < 23) (h : jreg n k) : k < 84 := by
  unfold jreg at h
  by_cases a0 : n = 0
  · rw [if_pos a0] at h; omega
  rw [if_neg a0] at h
  by_cases a5 : n < 5
  · rw [if_pos a5] at h
    simp only [jbase, jlen] at h
    by_cases a1 : n - 1 = 0
    · rw [if_pos a1, if_pos a1] at h; omega
    · rw [if_neg a1, if_neg a1] at h; omega
  rw [if_neg a5] at h
  by_cases a7 : n < 7
  · rw [if_pos a7] at h; exact h.elim
  rw [if_neg a7] at h
  by_cases a11 : n < 11
  · rw [if_pos a11] at h; simp only [hz] at h; omega
  rw [if_neg a11] at h
  by_cases a17 : n < 17
  · rw [if_pos a17] at h; simp only [tz] at h; omega
  rw [if_neg a17] at h
  simp only [tz] at h
  omega
theorem JRep.congr {U : xU} {μ : xH} {sh : Nat → Nat} {z z' : xV} (h : JRep U μ sh z) (e : ∀ k, k < 84 → z' k = z k) : JRep U μ sh z' := by
  obtain ⟨h1, ⟨b1, b2, b3⟩, h3⟩ := h
  refine ⟨h1, ⟨by rw [e 13 (by decide)]; exact b1, by rw [e 7 (by decide)]; exact b2, fun i hi => ⟨by rw [e _ (by simp only [hz]; omega)]; exact (b3 i hi).1, by rw [e _ (by omega)]; exact (b3 i hi).2⟩⟩, fun n hn => ?_⟩
  obtain ⟨x, g1, g2⟩ := h3 n hn
  exact ⟨x, g1, g2.congr (fun k hk => e k (jreg_84 hn hk)) hn⟩
theorem JR.congr {U : xU} {μ0 μ : xH} {sh : Nat → Nat} {z z' : xV} (h : JR U μ0 μ sh z) (e : ∀ k, k < 84 → z' k = z k) : JR U μ0 μ sh z' := ⟨h.1.congr e, h.2⟩
theorem JRep.fr {U : xU} {μ0 μ : xH} {sh sh2 : Nat → Nat} {z : xV} (h : JRep U μ0 sh2 z) (hF : JFr sh μ0 μ) (hD : ∀ n m, n < 23 → m < 23 → sh2 n ≠ sh m) : JRep U μ sh2 z := by
  obtain ⟨h1, h2, h3⟩ := h
  refine ⟨h1, h2, fun n hn => ?_⟩
  obtain ⟨x, g1, g2⟩ := h3 n hn
  exact ⟨x, by rw [hF _ (fun m hm => hD n m hn hm)]; exact g1, g2⟩
section XCOPY
variable {U : xU} {K : xK} {y : MethodName} {cc : ByteArray} {nL cells slots : Nat} {ret : Option FieldType} {rm : Room} {Q : State → Prop} {μ0 μ1 μ : xH} {sh sh2 : Nat → Nat} {z z2 : xV} {pc index : Nat} {ls : List (Option Value)} {st : List Value}
theorem aw_jcopy (X : Cx U K y cc nL ret rm) (hJ : JR U μ0 μ sh z) (hO : JR U μ1 μ sh2 z2) (c : Nat) (hc : c < 4) (lo hi : Nat) (hlo : jbase c = lo) (hhi : jbase c + jlen c = hi) {n : Int32} (hn : n.toNatClampNeg = jlen c ∧ ¬ n < 0) (hl : Cond.methodLink y.cls index arraycopyName ∈ xgood) (hrm : 1 ≤ rm.frames ∧ (st.map fun v => v.category).sum + (nativeFrameWords "java/lang/System" "arraycopy" 5 + 11) ≤ rm.locals) (hdg : decode cc pc = .ok (.invokestatic index, 3)) (kk : ∀ (μ' : xH) (z' : xV), z' = vcp z2 z lo hi → JR U μ0 μ' sh z' → AW U K nL cells slots Q μ' (pc + 3) ls st) : AW U K nL cells slots Q μ pc ls (.int n :: .int 0 :: .ref (sh (1 + c)) :: .int 0 :: .ref (sh2 (1 + c)) :: st) := by
  subst hlo; subst hhi
  obtain ⟨f, f1, f2⟩ := hO.gA c hc
  obtain ⟨g, g1, g2⟩ := hJ.gA c hc
  have z0 : (0 : Int32).toNatClampNeg = 0 := rfl
  refine aw_copy X hl f1 g1 (by decide) (by decide) hn.2 (by rw [hn.1, z0]; omega) (by rw [hn.1, z0]; omega) hrm hdg (kk _ _ rfl (hJ.put (by omega) (fun k hk => ?_) ?_ ?_))
  · unfold vcp
    rw [if_neg (fun q => hk ?_)]
    rw [jreg, if_neg (by omega), if_pos (by omega), Nat.add_sub_cancel_left]
    exact q
  · have key : ∀ j, ¬ (jbase c ≤ j ∧ j < jbase c + jlen c) → vcp z2 z (jbase c) (jbase c + jlen c) j = z j := fun j hj => if_neg hj
    have hb : ∀ j, (j = 13 ∨ j = 7 ∨ ∃ i, i < 4 ∧ (j = hz i 3 ∨ j = 80 + i)) → ¬ (jbase c ≤ j ∧ j < jbase c + jlen c) := by
      intro j hj
      simp only [jbase, jlen]
      rcases hj with rfl | rfl | ⟨i, hi, rfl | rfl⟩ <;> (try simp only [hz]) <;> split <;> omega
    obtain ⟨b1, b2, b3⟩ := hJ.1.2.1
    exact ⟨by rw [key 13 (hb 13 (Or.inl rfl))]; exact b1, by rw [key 7 (hb 7 (Or.inr (Or.inl rfl)))]; exact b2, fun i hi => ⟨by rw [key _ (hb _ (Or.inr (Or.inr ⟨i, hi, Or.inl rfl⟩)))]; exact (b3 i hi).1, by rw [key _ (hb _ (Or.inr (Or.inr ⟨i, hi, Or.inr rfl⟩)))]; exact (b3 i hi).2⟩⟩
  · rw [JC, if_neg (by omega), if_pos (by omega), Nat.add_sub_cancel_left]
    refine ⟨_, rfl, fun k hk => ?_⟩
    rw [hn.1, z0, pk_cpy_in (Nat.zero_le k) (by omega), vcp, if_pos ⟨by omega, by omega⟩, Nat.sub_zero, Nat.zero_add]
    exact f2 k hk
theorem aw_ucopy (X : Cx U K y cc nL ret rm) (hJ : JR U μ0 μ sh z) (hO : JR U μ1 μ sh2 z2) (p : Nat) (hp : p < 6) {n : Int32} (hn : n.toNatClampNeg = 4 ∧ ¬ n < 0) (hl : Cond.methodLink y.cls index arraycopyName ∈ xgood) (hrm : 1 ≤ rm.frames ∧ (st.map fun v => v.category).sum + (nativeFrameWords "java/lang/System" "arraycopy" 5 + 11) ≤ rm.locals) (hdg : decode cc pc = .ok (.invokestatic index, 3)) (kk : ∀ (μ' : xH) (z' : xV), z' = vcp z2 z (tz p 0) (tz p 4) → JR U μ0 μ' sh z' → AW U K nL cells slots Q μ' (pc + 3) ls st) : AW U K nL cells slots Q μ pc ls (.int n :: .int 0 :: .ref (sh (17 + p)) :: .int 0 :: .ref (sh2 (17 + p)) :: st) := by
  obtain ⟨f, f1, f2⟩ := hO.gU p hp
  obtain ⟨g, g1, g2⟩ := hJ.gU p hp
  have z0 : (0 : Int32).toNatClampNeg = 0 := rfl
  refine aw_copy X hl f1 g1 (by decide) (by decide) hn.2 (by rw [hn.1, z0]; omega) (by rw [hn.1, z0]; omega) hrm hdg (kk _ _ rfl (hJ.put (by omega) (fun k hk => ?_) ?_ ?_))
  · unfold vcp
    rw [if_neg (fun q => hk ?_)]
    rw [jreg, if_neg (by omega), if_neg (by omega), if_neg (by omega), if_neg (by omega), if_neg (by omega), Nat.add_sub_cancel_left]
    exact q
  · have key : ∀ j, (j < 50 ∨ 80 ≤ j) → vcp z2 z (tz p 0) (tz p 4) j = z j := fun j hj => if_neg (by simp only [tz]; omega)
    obtain ⟨b1, b2, b3⟩ := hJ.1.2.1
    exact ⟨by rw [key 13 (by decide)]; exact b1, by rw [key 7 (by decide)]; exact b2, fun i hi => ⟨by rw [key _ (by simp only [hz]; omega)]; exact (b3 i hi).1, by rw [key _ (by omega)]; exact (b3 i hi).2⟩⟩
  · rw [JC, if_neg (by omega), if_neg (by omega), if_neg (by omega), if_neg (by omega), if_neg (by omega), if_neg (by omega), Nat.add_sub_cancel_left]
    refine ⟨_, rfl, fun k hk => ?_⟩
    rw [hn.1, z0, pk_cpy_in (Nat.zero_le k) (by omega), vcp, if_pos (by simp only [tz]; omega), Nat.sub_zero, Nat.zero_add]
    exact f2 k hk
end XCOPY
def hTC (w z : xV) (p : Nat) : xV := upd (vcp w z (tz p 0) (tz p 4)) (tz p 4) (w (tz p 4))
def hHC (w z : xV) (i : Nat) : xV := upd (upd (upd (upd (upd (upd (upd z (hz i 0) (w (hz i 0))) (hz i 1) (w (hz i 1))) (hz i 2) (w (hz i 2))) (hz i 3) (w (hz i 3))) (hz i 4) (w (hz i 4))) (hz i 5) (w (hz i 5))) (80 + i) (w (80 + i))
theorem hTC_at {w z : xV} {p k : Nat} : hTC w z p k = if tz p 0 ≤ k ∧ k < tz p 5 then w k else z k := by
  unfold hTC upd vcp
  by_cases h : k = tz p 4
  · rw [if_pos h, if_pos (by simp only [tz] at *; omega), h]
  · rw [if_neg h]
    by_cases h2 : tz p 0 ≤ k ∧ k < tz p 4
    · rw [if_pos h2, if_pos (by simp only [tz] at *; omega)]
    · rw [if_neg h2, if_neg (by simp only [tz] at *; omega)]
theorem hHC_at {w z : xV} {i k : Nat} : hHC w z i k = if (hz i 0 ≤ k ∧ k < hz i 6) ∨ k = 80 + i then w k else z k := by
  by_cases h : (hz i 0 ≤ k ∧ k < hz i 6) ∨ k = 80 + i
  · rw [if_pos h]
    unfold hHC
    have hk : k = hz i 0 ∨ k = hz i 1 ∨ k = hz i 2 ∨ k = hz i 3 ∨ k = hz i 4 ∨ k = hz i 5 ∨ k = 80 + i := by simp only [hz] at *; omega
    simp only [upd]
    repeat' split
    all_goals first | (rename_i q; rw [q]) | skip
    all_goals (exfalso; omega)
  · rw [if_neg h]
    unfold hHC
    have hk : k ≠ hz i 0 ∧ k ≠ hz i 1 ∧ k ≠ hz i 2 ∧ k ≠ hz i 3 ∧ k ≠ hz i 4 ∧ k ≠ hz i 5 ∧ k ≠ 80 + i := by simp only [hz] at *; omega
    rw [upd_n hk.2.2.2.2.2.2, upd_n hk.2.2.2.2.2.1, upd_n hk.2.2.2.2.1, upd_n hk.2.2.2.1, upd_n hk.2.2.1, upd_n hk.2.1, upd_n hk.1]
def Ag (z w : xV) (S : Nat → Prop) : Prop := ∀ k, S k → w k = z k
theorem Ag.n {z w : xV} : Ag z w (fun _ => False) := fun _ h => h.elim
theorem Ag.u {z w : xV} {S : Nat → Prop} {j : Nat} (h : Ag z w S) : Ag (upd z j (w j)) w (fun k => S k ∨ k = j) := fun k hk => by
  by_cases e : k = j
  · rw [e, upd_s]
  · rw [upd_n e]; exact h k (hk.resolve_right e)
theorem Ag.c {z w : xV} {S : Nat → Prop} {lo hi : Nat} (h : Ag z w S) : Ag (vcp w z lo hi) w (fun k => S k ∨ (lo ≤ k ∧ k < hi)) := fun k hk => by
  unfold vcp
  by_cases e : lo ≤ k ∧ k < hi
  · rw [if_pos e]
  · rw [if_neg e]; exact h k (hk.resolve_right e)
theorem Ag.T {z w : xV} {S : Nat → Prop} {p : Nat} (h : Ag z w S) : Ag (hTC w z p) w (fun k => S k ∨ (tz p 0 ≤ k ∧ k < tz p 5)) := fun k hk => by
  rw [hTC_at]
  by_cases e : tz p 0 ≤ k ∧ k < tz p 5
  · rw [if_pos e]
  · rw [if_neg e]; exact h k (hk.resolve_right e)
theorem Ag.H {z w : xV} {S : Nat → Prop} {i : Nat} (h : Ag z w S) : Ag (hHC w z i) w (fun k => S k ∨ ((hz i 0 ≤ k ∧ k < hz i 6) ∨ k = 80 + i)) := fun k hk => by
  rw [hHC_at]
  by_cases e : (hz i 0 ≤ k ∧ k < hz i 6) ∨ k = 80 + i
  · rw [if_pos e]
  · rw [if_neg e]; exact h k (hk.resolve_right e)
set_option maxHeartbeats 4000000 in
set_option maxRecDepth 100000 in
theorem c_X3_copyFrom (l : Launch) (U : xU) (μ0 : xH) (sh : Nat → Nat) (z : xV) (hJ0 : JRep U μ0 sh z) (sh2 : Nat → Nat) (z2 : xV) (hO0 : JRep U μ0 sh2 z2) (hD : ∀ n m, n < 23 → m < 23 → sh2 n ≠ sh m) (p : Nat) (hp : p < 6) : CtK l U yX3_copyFrom cX3_copyFrom 2 none ({ frames := 1, cells := 0, slots := 0, locals := 26 } : Room) [.ref (sh (11 + p)), .ref (sh2 (11 + p))] μ0 sh (hTC z2 z p) := by
  refine Ct.of [some (.ref (sh (11 + p))), some (.ref (sh2 (11 + p)))] (by decide +kernel) rfl (Nat.le_of_ble_eq_true rfl) (fun K Q X hnm hQ => ?_)
  have hJ := JR.rf hJ0
  have hO := JR.rf hO0
  refine aw_aload_n X dX3_copyFrom_0 rfl ?_
  refine aw_tgetU X hO (p) hp f_X3_9 dX3_copyFrom_1 ?_
  refine aw_iconst X (0) dX3_copyFrom_4 rfl ?_
  refine aw_aload_n X dX3_copyFrom_5 rfl ?_
  refine aw_tgetU X hJ (p) hp f_X3_9 dX3_copyFrom_6 ?_
  refine aw_iconst X (0) dX3_copyFrom_9 rfl ?_
  refine aw_iconst X (4) dX3_copyFrom_10 rfl ?_
  refine aw_ucopy X hJ hO (p) hp (by decide) l_X3_19 (by exact ⟨by decide, Nat.le_of_ble_eq_true rfl⟩) dX3_copyFrom_11 (fun μ z_1 ez_1 hJ => ?_)
  have hO := JR.rf (hO0.fr hJ.2 hD)
  refine aw_aload_n X dX3_copyFrom_14 rfl ?_
  refine aw_aload_n X dX3_copyFrom_15 rfl ?_
  refine aw_tgetC X hO (p) hp f_X3_15 dX3_copyFrom_16 ?_
  refine aw_tputC X hJ (p) hp f_X3_15 dX3_copyFrom_19 (fun μ z_2 ez_2 hJ => ?_)
  have hO := JR.rf (hO0.fr hJ.2 hD)
  exact aw_vret X hQ dX3_copyFrom_22 ⟨rfl, hJ.to (by subst ez_1 ez_2; rfl)⟩

set_option maxHeartbeats 4000000 in
set_option maxRecDepth 100000 in
theorem c_X0_copyFrom (l : Launch) (U : xU) (μ0 : xH) (sh : Nat → Nat) (z : xV) (hJ0 : JRep U μ0 sh z) (sh2 : Nat → Nat) (z2 : xV) (hO0 : JRep U μ0 sh2 z2) (hD : ∀ n m, n < 23 → m < 23 → sh2 n ≠ sh m) (i : Nat) (hi : i < 4) : CtK l U yX0_copyFrom cX0_copyFrom 2 none ({ frames := 0, cells := 0, slots := 0, locals := 0 } : Room) [.ref (sh (7 + i)), .ref (sh2 (7 + i))] μ0 sh (hHC z2 z i) := by
  refine Ct.of [some (.ref (sh (7 + i))), some (.ref (sh2 (7 + i)))] (by decide +kernel) rfl (Nat.le_of_ble_eq_true rfl) (fun K Q X hnm hQ => ?_)
  have hJ := JR.rf hJ0
  have hO := JR.rf hO0
  refine aw_aload_n X dX0_copyFrom_0 rfl ?_
  refine aw_aload_n X dX0_copyFrom_1 rfl ?_
  refine aw_hget X hO (i) hi f_X0_9 rfl dX0_copyFrom_2 ?_
  refine aw_hput X hJ (i) hi 0 (by decide) (hz (i) 0) rfl f_X0_9 (fun h => absurd h (by decide)) dX0_copyFrom_5 (fun μ z_1 ez_1 hJ => ?_)
  have hO := JR.rf (hO0.fr hJ.2 hD)
  refine aw_aload_n X dX0_copyFrom_8 rfl ?_
  refine aw_aload_n X dX0_copyFrom_9 rfl ?_
  refine aw_hget X hO (i) hi f_X0_16 rfl dX0_copyFrom_10 ?_
  refine aw_hput X hJ (i) hi 1 (by decide) (hz (i) 1) rfl f_X0_16 (fun h => absurd h (by decide)) dX0_copyFrom_13 (fun μ z_2 ez_2 hJ => ?_)
  have hO := JR.rf (hO0.fr hJ.2 hD)
  refine aw_aload_n X dX0_copyFrom_16 rfl ?_
  refine aw_aload_n X dX0_copyFrom_17 rfl ?_
  refine aw_hget X hO (i) hi f_X0_19 rfl dX0_copyFrom_18 ?_
  refine aw_hput X hJ (i) hi 2 (by decide) (hz (i) 2) rfl f_X0_19 (fun h => absurd h (by decide)) dX0_copyFrom_21 (fun μ z_3 ez_3 hJ => ?_)
  have hO := JR.rf (hO0.fr hJ.2 hD)
  refine aw_aload_n X dX0_copyFrom_24 rfl ?_
  refine aw_aload_n X dX0_copyFrom_25 rfl ?_
  refine aw_hget X hO (i) hi f_X0_22 rfl dX0_copyFrom_26 ?_
  refine aw_hput X hJ (i) hi 3 (by decide) (hz (i) 3) rfl f_X0_22 (fun _ => (hO.1.2.1.2.2 _ hi).1) dX0_copyFrom_29 (fun μ z_4 ez_4 hJ => ?_)
  have hO := JR.rf (hO0.fr hJ.2 hD)
  refine aw_aload_n X dX0_copyFrom_32 rfl ?_
  refine aw_aload_n X dX0_copyFrom_33 rfl ?_
  refine aw_hget X hO (i) hi f_X0_26 rfl dX0_copyFrom_34 ?_
  refine aw_hput X hJ (i) hi 4 (by decide) (hz (i) 4) rfl f_X0_26 (fun h => absurd h (by decide)) dX0_copyFrom_37 (fun μ z_5 ez_5 hJ => ?_)
  have hO := JR.rf (hO0.fr hJ.2 hD)
  refine aw_aload_n X dX0_copyFrom_40 rfl ?_
  refine aw_aload_n X dX0_copyFrom_41 rfl ?_
  refine aw_hget X hO (i) hi f_X0_29 rfl dX0_copyFrom_42 ?_
  refine aw_hput X hJ (i) hi 5 (by decide) (hz (i) 5) rfl f_X0_29 (fun h => absurd h (by decide)) dX0_copyFrom_45 (fun μ z_6 ez_6 hJ => ?_)
  have hO := JR.rf (hO0.fr hJ.2 hD)
  refine aw_aload_n X dX0_copyFrom_48 rfl ?_
  refine aw_aload_n X dX0_copyFrom_49 rfl ?_
  refine aw_hget X hO (i) hi f_X0_32 rfl dX0_copyFrom_50 ?_
  refine aw_hput X hJ (i) hi 6 (by decide) (80 + (i)) rfl f_X0_32 (fun _ => (hO.1.2.1.2.2 _ hi).2) dX0_copyFrom_53 (fun μ z_7 ez_7 hJ => ?_)
  have hO := JR.rf (hO0.fr hJ.2 hD)
  exact aw_vret X hQ dX0_copyFrom_56 ⟨rfl, hJ.to (by subst ez_1 ez_2 ez_3 ez_4 ez_5 ez_6 ez_7; rfl)⟩

set_option maxHeartbeats 4000000 in
set_option maxRecDepth 100000 in
theorem c_X1_copyFrom (l : Launch) (U : xU) (μ0 : xH) (sh : Nat → Nat) (z : xV) (hJ0 : JRep U μ0 sh z) (sh2 : Nat → Nat) (z2 : xV) (hO0 : JRep U μ0 sh2 z2) (hD : ∀ n m, n < 23 → m < 23 → sh2 n ≠ sh m) : CtK l U yX1_copyFrom cX1_copyFrom 3 none ({ frames := 2, cells := 0, slots := 0, locals := 47 } : Room) [.ref (sh 0), .ref (sh2 0)] μ0 sh z2 := by
  refine Ct.of [some (.ref (sh 0)), some (.ref (sh2 0)), none] (by decide +kernel) rfl (Nat.le_of_ble_eq_true rfl) (fun K Q X hnm hQ => ?_)
  have hJ := JR.rf hJ0
  have hO := JR.rf hO0
  refine aw_aload_n X dX1_copyFrom_0 rfl ?_
  refine aw_jget X hO f_X1_18 rfl dX1_copyFrom_1 ?_
  refine aw_iconst X (0) dX1_copyFrom_4 rfl ?_
  refine aw_aload_n X dX1_copyFrom_5 rfl ?_
  refine aw_jget X hJ f_X1_18 rfl dX1_copyFrom_6 ?_
  refine aw_iconst X (0) dX1_copyFrom_9 rfl ?_
  refine aw_aload_n X dX1_copyFrom_10 rfl ?_
  refine aw_jget X hJ f_X1_18 rfl dX1_copyFrom_11 ?_
  refine aw_jlen X hJ 0 (by decide) (v := 6) rfl dX1_copyFrom_14 ?_
  refine aw_jcopy X hJ hO 0 (by decide) 0 6 rfl rfl (by decide) l_X1_72 (by exact ⟨by decide, Nat.le_of_ble_eq_true rfl⟩) dX1_copyFrom_15 (fun μ z_1 ez_1 hJ => ?_)
  have hO := JR.rf (hO0.fr hJ.2 hD)
  refine aw_aload_n X dX1_copyFrom_18 rfl ?_
  refine aw_jget X hO f_X1_23 rfl dX1_copyFrom_19 ?_
  refine aw_iconst X (0) dX1_copyFrom_22 rfl ?_
  refine aw_aload_n X dX1_copyFrom_23 rfl ?_
  refine aw_jget X hJ f_X1_23 rfl dX1_copyFrom_24 ?_
  refine aw_iconst X (0) dX1_copyFrom_27 rfl ?_
  refine aw_iconst X (4) dX1_copyFrom_28 rfl ?_
  refine aw_jcopy X hJ hO 1 (by decide) 14 18 rfl rfl (by decide) l_X1_72 (by exact ⟨by decide, Nat.le_of_ble_eq_true rfl⟩) dX1_copyFrom_29 (fun μ z_2 ez_2 hJ => ?_)
  have hO := JR.rf (hO0.fr hJ.2 hD)
  refine aw_aload_n X dX1_copyFrom_32 rfl ?_
  refine aw_jget X hO f_X1_26 rfl dX1_copyFrom_33 ?_
  refine aw_iconst X (0) dX1_copyFrom_36 rfl ?_
  refine aw_aload_n X dX1_copyFrom_37 rfl ?_
  refine aw_jget X hJ f_X1_26 rfl dX1_copyFrom_38 ?_
  refine aw_iconst X (0) dX1_copyFrom_41 rfl ?_
  refine aw_iconst X (4) dX1_copyFrom_42 rfl ?_
  refine aw_jcopy X hJ hO 2 (by decide) 18 22 rfl rfl (by decide) l_X1_72 (by exact ⟨by decide, Nat.le_of_ble_eq_true rfl⟩) dX1_copyFrom_43 (fun μ z_3 ez_3 hJ => ?_)
  have hO := JR.rf (hO0.fr hJ.2 hD)
  refine aw_aload_n X dX1_copyFrom_46 rfl ?_
  refine aw_jget X hO f_X1_29 rfl dX1_copyFrom_47 ?_
  refine aw_iconst X (0) dX1_copyFrom_50 rfl ?_
  refine aw_aload_n X dX1_copyFrom_51 rfl ?_
  refine aw_jget X hJ f_X1_29 rfl dX1_copyFrom_52 ?_
  refine aw_iconst X (0) dX1_copyFrom_55 rfl ?_
  refine aw_iconst X (4) dX1_copyFrom_56 rfl ?_
  refine aw_jcopy X hJ hO 3 (by decide) 22 26 rfl rfl (by decide) l_X1_72 (by exact ⟨by decide, Nat.le_of_ble_eq_true rfl⟩) dX1_copyFrom_57 (fun μ z_4 ez_4 hJ => ?_)
  have hO := JR.rf (hO0.fr hJ.2 hD)
  refine aw_iconst X (0) dX1_copyFrom_60 rfl ?_
  refine aw_istore_n X dX1_copyFrom_61 rfl (by decide) ?_
  refine aw_iload_n X dX1_copyFrom_62 rfl ?_
  refine aw_iconst X (4) dX1_copyFrom_63 rfl ?_
  refine aw_icmp_ge_f (tgt := 88) X dX1_copyFrom_64 (by decide) (by decide) ?_
  refine aw_aload_n X dX1_copyFrom_67 rfl ?_
  refine aw_jget X hJ f_X1_34 rfl dX1_copyFrom_68 ?_
  refine aw_iload_n X dX1_copyFrom_71 rfl ?_
  refine aw_hoseAt X hJ (0) (by decide) (by decide) dX1_copyFrom_72 ?_
  refine aw_aload_n X dX1_copyFrom_73 rfl ?_
  refine aw_jget X hO f_X1_34 rfl dX1_copyFrom_74 ?_
  refine aw_iload_n X dX1_copyFrom_77 rfl ?_
  refine aw_hoseAt X hO (0) (by decide) (by decide) dX1_copyFrom_78 ?_
  refine aw_cVK (As := [.ref _]) X hJ (c_X0_copyFrom (kl K) U _ sh _ hJ.1 sh2 _ hO.1 hD (0) (by decide)) s_X1_78 k_X0_copyFrom (by decide) ⟨rfl, rfl⟩ ⟨Nat.zero_le _, Nat.zero_le _⟩ rfl (by exact Nat.le_of_ble_eq_true rfl) (hJ.gH _ (by decide)) rfl dX1_copyFrom_79 (fun μ z_5 ez_5 hJ => ?_)
  have hO := JR.rf (hO0.fr hJ.2 hD)
  refine aw_iinc X (1) dX1_copyFrom_82 rfl rfl rfl (by decide) ?_
  refine aw_goto (tgt := 62) X dX1_copyFrom_85 (by decide) ?_
  refine aw_iload_n X dX1_copyFrom_62 rfl ?_
  refine aw_iconst X (4) dX1_copyFrom_63 rfl ?_
  refine aw_icmp_ge_f (tgt := 88) X dX1_copyFrom_64 (by decide) (by decide) ?_
  refine aw_aload_n X dX1_copyFrom_67 rfl ?_
  refine aw_jget X hJ f_X1_34 rfl dX1_copyFrom_68 ?_
  refine aw_iload_n X dX1_copyFrom_71 rfl ?_
  refine aw_hoseAt X hJ (1) (by decide) (by decide) dX1_copyFrom_72 ?_
  refine aw_aload_n X dX1_copyFrom_73 rfl ?_
  refine aw_jget X hO f_X1_34 rfl dX1_copyFrom_74 ?_
  refine aw_iload_n X dX1_copyFrom_77 rfl ?_
  refine aw_hoseAt X hO (1) (by decide) (by decide) dX1_copyFrom_78 ?_
  refine aw_cVK (As := [.ref _]) X hJ (c_X0_copyFrom (kl K) U _ sh _ hJ.1 sh2 _ hO.1 hD (1) (by decide)) s_X1_78 k_X0_copyFrom (by decide) ⟨rfl, rfl⟩ ⟨Nat.zero_le _, Nat.zero_le _⟩ rfl (by exact Nat.le_of_ble_eq_true rfl) (hJ.gH _ (by decide)) rfl dX1_copyFrom_79 (fun μ z_6 ez_6 hJ => ?_)
  have hO := JR.rf (hO0.fr hJ.2 hD)
  refine aw_iinc X (1) dX1_copyFrom_82 rfl rfl rfl (by decide) ?_
  refine aw_goto (tgt := 62) X dX1_copyFrom_85 (by decide) ?_
  refine aw_iload_n X dX1_copyFrom_62 rfl ?_
  refine aw_iconst X (4) dX1_copyFrom_63 rfl ?_
  refine aw_icmp_ge_f (tgt := 88) X dX1_copyFrom_64 (by decide) (by decide) ?_
  refine aw_aload_n X dX1_copyFrom_67 rfl ?_
  refine aw_jget X hJ f_X1_34 rfl dX1_copyFrom_68 ?_
  refine aw_iload_n X dX1_copyFrom_71 rfl ?_
  refine aw_hoseAt X hJ (2) (by decide) (by decide) dX1_copyFrom_72 ?_
  refine aw_aload_n X dX1_copyFrom_73 rfl ?_
  refine aw_jget X hO f_X1_34 rfl dX1_copyFrom_74 ?_
  refine aw_iload_n X dX1_copyFrom_77 rfl ?_
  refine aw_hoseAt X hO (2) (by decide) (by decide) dX1_copyFrom_78 ?_
  refine aw_cVK (As := [.ref _]) X hJ (c_X0_copyFrom (kl K) U _ sh _ hJ.1 sh2 _ hO.1 hD (2) (by decide)) s_X1_78 k_X0_copyFrom (by decide) ⟨rfl, rfl⟩ ⟨Nat.zero_le _, Nat.zero_le _⟩ rfl (by exact Nat.le_of_ble_eq_true rfl) (hJ.gH _ (by decide)) rfl dX1_copyFrom_79 (fun μ z_7 ez_7 hJ => ?_)
  have hO := JR.rf (hO0.fr hJ.2 hD)
  refine aw_iinc X (1) dX1_copyFrom_82 rfl rfl rfl (by decide) ?_
  refine aw_goto (tgt := 62) X dX1_copyFrom_85 (by decide) ?_
  refine aw_iload_n X dX1_copyFrom_62 rfl ?_
  refine aw_iconst X (4) dX1_copyFrom_63 rfl ?_
  refine aw_icmp_ge_f (tgt := 88) X dX1_copyFrom_64 (by decide) (by decide) ?_
  refine aw_aload_n X dX1_copyFrom_67 rfl ?_
  refine aw_jget X hJ f_X1_34 rfl dX1_copyFrom_68 ?_
  refine aw_iload_n X dX1_copyFrom_71 rfl ?_
  refine aw_hoseAt X hJ (3) (by decide) (by decide) dX1_copyFrom_72 ?_
  refine aw_aload_n X dX1_copyFrom_73 rfl ?_
  refine aw_jget X hO f_X1_34 rfl dX1_copyFrom_74 ?_
  refine aw_iload_n X dX1_copyFrom_77 rfl ?_
  refine aw_hoseAt X hO (3) (by decide) (by decide) dX1_copyFrom_78 ?_
  refine aw_cVK (As := [.ref _]) X hJ (c_X0_copyFrom (kl K) U _ sh _ hJ.1 sh2 _ hO.1 hD (3) (by decide)) s_X1_78 k_X0_copyFrom (by decide) ⟨rfl, rfl⟩ ⟨Nat.zero_le _, Nat.zero_le _⟩ rfl (by exact Nat.le_of_ble_eq_true rfl) (hJ.gH _ (by decide)) rfl dX1_copyFrom_79 (fun μ z_8 ez_8 hJ => ?_)
  have hO := JR.rf (hO0.fr hJ.2 hD)
  refine aw_iinc X (1) dX1_copyFrom_82 rfl rfl rfl (by decide) ?_
  refine aw_goto (tgt := 62) X dX1_copyFrom_85 (by decide) ?_
  refine aw_iload_n X dX1_copyFrom_62 rfl ?_
  refine aw_iconst X (4) dX1_copyFrom_63 rfl ?_
  refine aw_icmp_ge_t (tgt := 88) X dX1_copyFrom_64 (by decide) (by decide) ?_
  refine aw_iconst X (0) dX1_copyFrom_88 rfl ?_
  refine aw_istore_n X dX1_copyFrom_89 rfl (by decide) ?_
  refine aw_iload_n X dX1_copyFrom_90 rfl ?_
  refine aw_aload_n X dX1_copyFrom_91 rfl ?_
  refine aw_jget X hJ f_X1_40 rfl dX1_copyFrom_92 ?_
  refine aw_tlen X hJ dX1_copyFrom_95 ?_
  refine aw_icmp_ge_f (tgt := 120) X dX1_copyFrom_96 (by decide) (by decide) ?_
  refine aw_aload_n X dX1_copyFrom_99 rfl ?_
  refine aw_jget X hJ f_X1_40 rfl dX1_copyFrom_100 ?_
  refine aw_iload_n X dX1_copyFrom_103 rfl ?_
  refine aw_tankAt X hJ (0) (by decide) (by decide) dX1_copyFrom_104 ?_
  refine aw_aload_n X dX1_copyFrom_105 rfl ?_
  refine aw_jget X hO f_X1_40 rfl dX1_copyFrom_106 ?_
  refine aw_iload_n X dX1_copyFrom_109 rfl ?_
  refine aw_tankAt X hO (0) (by decide) (by decide) dX1_copyFrom_110 ?_
  refine aw_cVK (As := [.ref _]) X hJ (c_X3_copyFrom (kl K) U _ sh _ hJ.1 sh2 _ hO.1 hD (0) (by decide)) s_X1_82 k_X3_copyFrom (by decide) ⟨rfl, rfl⟩ ⟨Nat.zero_le _, Nat.zero_le _⟩ rfl (by exact Nat.le_of_ble_eq_true rfl) (hJ.gT _ (by decide)) rfl dX1_copyFrom_111 (fun μ z_9 ez_9 hJ => ?_)
  have hO := JR.rf (hO0.fr hJ.2 hD)
  refine aw_iinc X (1) dX1_copyFrom_114 rfl rfl rfl (by decide) ?_
  refine aw_goto (tgt := 90) X dX1_copyFrom_117 (by decide) ?_
  refine aw_iload_n X dX1_copyFrom_90 rfl ?_
  refine aw_aload_n X dX1_copyFrom_91 rfl ?_
  refine aw_jget X hJ f_X1_40 rfl dX1_copyFrom_92 ?_
  refine aw_tlen X hJ dX1_copyFrom_95 ?_
  refine aw_icmp_ge_f (tgt := 120) X dX1_copyFrom_96 (by decide) (by decide) ?_
  refine aw_aload_n X dX1_copyFrom_99 rfl ?_
  refine aw_jget X hJ f_X1_40 rfl dX1_copyFrom_100 ?_
  refine aw_iload_n X dX1_copyFrom_103 rfl ?_
  refine aw_tankAt X hJ (1) (by decide) (by decide) dX1_copyFrom_104 ?_
  refine aw_aload_n X dX1_copyFrom_105 rfl ?_
  refine aw_jget X hO f_X1_40 rfl dX1_copyFrom_106 ?_
  refine aw_iload_n X dX1_copyFrom_109 rfl ?_
  refine aw_tankAt X hO (1) (by decide) (by decide) dX1_copyFrom_110 ?_
  refine aw_cVK (As := [.ref _]) X hJ (c_X3_copyFrom (kl K) U _ sh _ hJ.1 sh2 _ hO.1 hD (1) (by decide)) s_X1_82 k_X3_copyFrom (by decide) ⟨rfl, rfl⟩ ⟨Nat.zero_le _, Nat.zero_le _⟩ rfl (by exact Nat.le_of_ble_eq_true rfl) (hJ.gT _ (by decide)) rfl dX1_copyFrom_111 (fun μ z_10 ez_10 hJ => ?_)
  have hO := JR.rf (hO0.fr hJ.2 hD)
  refine aw_iinc X (1) dX1_copyFrom_114 rfl rfl rfl (by decide) ?_
  refine aw_goto (tgt := 90) X dX1_copyFrom_117 (by decide) ?_
  refine aw_iload_n X dX1_copyFrom_90 rfl ?_
  refine aw_aload_n X dX1_copyFrom_91 rfl ?_
  refine aw_jget X hJ f_X1_40 rfl dX1_copyFrom_92 ?_
  refine aw_tlen X hJ dX1_copyFrom_95 ?_
  refine aw_icmp_ge_f (tgt := 120) X dX1_copyFrom_96 (by decide) (by decide) ?_
  refine aw_aload_n X dX1_copyFrom_99 rfl ?_
  refine aw_jget X hJ f_X1_40 rfl dX1_copyFrom_100 ?_
  refine aw_iload_n X dX1_copyFrom_103 rfl ?_
  refine aw_tankAt X hJ (2) (by decide) (by decide) dX1_copyFrom_104 ?_
  refine aw_aload_n X dX1_copyFrom_105 rfl ?_
  refine aw_jget X hO f_X1_40 rfl dX1_copyFrom_106 ?_
  refine aw_iload_n X dX1_copyFrom_109 rfl ?_
  refine aw_tankAt X hO (2) (by decide) (by decide) dX1_copyFrom_110 ?_
  refine aw_cVK (As := [.ref _]) X hJ (c_X3_copyFrom (kl K) U _ sh _ hJ.1 sh2 _ hO.1 hD (2) (by decide)) s_X1_82 k_X3_copyFrom (by decide) ⟨rfl, rfl⟩ ⟨Nat.zero_le _, Nat.zero_le _⟩ rfl (by exact Nat.le_of_ble_eq_true rfl) (hJ.gT _ (by decide)) rfl dX1_copyFrom_111 (fun μ z_11 ez_11 hJ => ?_)
  have hO := JR.rf (hO0.fr hJ.2 hD)
  refine aw_iinc X (1) dX1_copyFrom_114 rfl rfl rfl (by decide) ?_
  refine aw_goto (tgt := 90) X dX1_copyFrom_117 (by decide) ?_
  refine aw_iload_n X dX1_copyFrom_90 rfl ?_
  refine aw_aload_n X dX1_copyFrom_91 rfl ?_
  refine aw_jget X hJ f_X1_40 rfl dX1_copyFrom_92 ?_
  refine aw_tlen X hJ dX1_copyFrom_95 ?_
  refine aw_icmp_ge_f (tgt := 120) X dX1_copyFrom_96 (by decide) (by decide) ?_
  refine aw_aload_n X dX1_copyFrom_99 rfl ?_
  refine aw_jget X hJ f_X1_40 rfl dX1_copyFrom_100 ?_
  refine aw_iload_n X dX1_copyFrom_103 rfl ?_
  refine aw_tankAt X hJ (3) (by decide) (by decide) dX1_copyFrom_104 ?_
  refine aw_aload_n X dX1_copyFrom_105 rfl ?_
  refine aw_jget X hO f_X1_40 rfl dX1_copyFrom_106 ?_
  refine aw_iload_n X dX1_copyFrom_109 rfl ?_
  refine aw_tankAt X hO (3) (by decide) (by decide) dX1_copyFrom_110 ?_
  refine aw_cVK (As := [.ref _]) X hJ (c_X3_copyFrom (kl K) U _ sh _ hJ.1 sh2 _ hO.1 hD (3) (by decide)) s_X1_82 k_X3_copyFrom (by decide) ⟨rfl, rfl⟩ ⟨Nat.zero_le _, Nat.zero_le _⟩ rfl (by exact Nat.le_of_ble_eq_true rfl) (hJ.gT _ (by decide)) rfl dX1_copyFrom_111 (fun μ z_12 ez_12 hJ => ?_)
  have hO := JR.rf (hO0.fr hJ.2 hD)
  refine aw_iinc X (1) dX1_copyFrom_114 rfl rfl rfl (by decide) ?_
  refine aw_goto (tgt := 90) X dX1_copyFrom_117 (by decide) ?_
  refine aw_iload_n X dX1_copyFrom_90 rfl ?_
  refine aw_aload_n X dX1_copyFrom_91 rfl ?_
  refine aw_jget X hJ f_X1_40 rfl dX1_copyFrom_92 ?_
  refine aw_tlen X hJ dX1_copyFrom_95 ?_
  refine aw_icmp_ge_f (tgt := 120) X dX1_copyFrom_96 (by decide) (by decide) ?_
  refine aw_aload_n X dX1_copyFrom_99 rfl ?_
  refine aw_jget X hJ f_X1_40 rfl dX1_copyFrom_100 ?_
  refine aw_iload_n X dX1_copyFrom_103 rfl ?_
  refine aw_tankAt X hJ (4) (by decide) (by decide) dX1_copyFrom_104 ?_
  refine aw_aload_n X dX1_copyFrom_105 rfl ?_
  refine aw_jget X hO f_X1_40 rfl dX1_copyFrom_106 ?_
  refine aw_iload_n X dX1_copyFrom_109 rfl ?_
  refine aw_tankAt X hO (4) (by decide) (by decide) dX1_copyFrom_110 ?_
  refine aw_cVK (As := [.ref _]) X hJ (c_X3_copyFrom (kl K) U _ sh _ hJ.1 sh2 _ hO.1 hD (4) (by decide)) s_X1_82 k_X3_copyFrom (by decide) ⟨rfl, rfl⟩ ⟨Nat.zero_le _, Nat.zero_le _⟩ rfl (by exact Nat.le_of_ble_eq_true rfl) (hJ.gT _ (by decide)) rfl dX1_copyFrom_111 (fun μ z_13 ez_13 hJ => ?_)
  have hO := JR.rf (hO0.fr hJ.2 hD)
  refine aw_iinc X (1) dX1_copyFrom_114 rfl rfl rfl (by decide) ?_
  refine aw_goto (tgt := 90) X dX1_copyFrom_117 (by decide) ?_
  refine aw_iload_n X dX1_copyFrom_90 rfl ?_
  refine aw_aload_n X dX1_copyFrom_91 rfl ?_
  refine aw_jget X hJ f_X1_40 rfl dX1_copyFrom_92 ?_
  refine aw_tlen X hJ dX1_copyFrom_95 ?_
  refine aw_icmp_ge_f (tgt := 120) X dX1_copyFrom_96 (by decide) (by decide) ?_
  refine aw_aload_n X dX1_copyFrom_99 rfl ?_
  refine aw_jget X hJ f_X1_40 rfl dX1_copyFrom_100 ?_
  refine aw_iload_n X dX1_copyFrom_103 rfl ?_
  refine aw_tankAt X hJ (5) (by decide) (by decide) dX1_copyFrom_104 ?_
  refine aw_aload_n X dX1_copyFrom_105 rfl ?_
  refine aw_jget X hO f_X1_40 rfl dX1_copyFrom_106 ?_
  refine aw_iload_n X dX1_copyFrom_109 rfl ?_
  refine aw_tankAt X hO (5) (by decide) (by decide) dX1_copyFrom_110 ?_
  refine aw_cVK (As := [.ref _]) X hJ (c_X3_copyFrom (kl K) U _ sh _ hJ.1 sh2 _ hO.1 hD (5) (by decide)) s_X1_82 k_X3_copyFrom (by decide) ⟨rfl, rfl⟩ ⟨Nat.zero_le _, Nat.zero_le _⟩ rfl (by exact Nat.le_of_ble_eq_true rfl) (hJ.gT _ (by decide)) rfl dX1_copyFrom_111 (fun μ z_14 ez_14 hJ => ?_)
  have hO := JR.rf (hO0.fr hJ.2 hD)
  refine aw_iinc X (1) dX1_copyFrom_114 rfl rfl rfl (by decide) ?_
  refine aw_goto (tgt := 90) X dX1_copyFrom_117 (by decide) ?_
  refine aw_iload_n X dX1_copyFrom_90 rfl ?_
  refine aw_aload_n X dX1_copyFrom_91 rfl ?_
  refine aw_jget X hJ f_X1_40 rfl dX1_copyFrom_92 ?_
  refine aw_tlen X hJ dX1_copyFrom_95 ?_
  refine aw_icmp_ge_t (tgt := 120) X dX1_copyFrom_96 (by decide) (by decide) ?_
  refine aw_aload_n X dX1_copyFrom_120 rfl ?_
  refine aw_aload_n X dX1_copyFrom_121 rfl ?_
  refine aw_jget X hO f_X1_44 rfl dX1_copyFrom_122 ?_
  refine aw_jput X hJ 6 (by decide) (by decide) 13 rfl f_X1_44 (fun _ => hO.1.2.1.1) dX1_copyFrom_125 (fun μ z_15 ez_15 hJ => ?_)
  have hO := JR.rf (hO0.fr hJ.2 hD)
  refine aw_aload_n X dX1_copyFrom_128 rfl ?_
  refine aw_aload_n X dX1_copyFrom_129 rfl ?_
  refine aw_jget X hO f_X1_48 rfl dX1_copyFrom_130 ?_
  refine aw_jput X hJ 7 (by decide) (by decide) 12 rfl f_X1_48 (fun h => absurd h (by decide)) dX1_copyFrom_133 (fun μ z_16 ez_16 hJ => ?_)
  have hO := JR.rf (hO0.fr hJ.2 hD)
  refine aw_aload_n X dX1_copyFrom_136 rfl ?_
  refine aw_aload_n X dX1_copyFrom_137 rfl ?_
  refine aw_jget X hO f_X1_52 rfl dX1_copyFrom_138 ?_
  refine aw_jput X hJ 8 (by decide) (by decide) 6 rfl f_X1_52 (fun h => absurd h (by decide)) dX1_copyFrom_141 (fun μ z_17 ez_17 hJ => ?_)
  have hO := JR.rf (hO0.fr hJ.2 hD)
  refine aw_aload_n X dX1_copyFrom_144 rfl ?_
  refine aw_aload_n X dX1_copyFrom_145 rfl ?_
  refine aw_jget X hO f_X1_55 rfl dX1_copyFrom_146 ?_
  refine aw_jput X hJ 9 (by decide) (by decide) 7 rfl f_X1_55 (fun _ => hO.1.2.1.2.1) dX1_copyFrom_149 (fun μ z_18 ez_18 hJ => ?_)
  have hO := JR.rf (hO0.fr hJ.2 hD)
  refine aw_aload_n X dX1_copyFrom_152 rfl ?_
  refine aw_aload_n X dX1_copyFrom_153 rfl ?_
  refine aw_jget X hO f_X1_58 rfl dX1_copyFrom_154 ?_
  refine aw_jput X hJ 10 (by decide) (by decide) 8 rfl f_X1_58 (fun h => absurd h (by decide)) dX1_copyFrom_157 (fun μ z_19 ez_19 hJ => ?_)
  have hO := JR.rf (hO0.fr hJ.2 hD)
  refine aw_aload_n X dX1_copyFrom_160 rfl ?_
  refine aw_aload_n X dX1_copyFrom_161 rfl ?_
  refine aw_jget X hO f_X1_61 rfl dX1_copyFrom_162 ?_
  refine aw_jput X hJ 11 (by decide) (by decide) 9 rfl f_X1_61 (fun h => absurd h (by decide)) dX1_copyFrom_165 (fun μ z_20 ez_20 hJ => ?_)
  have hO := JR.rf (hO0.fr hJ.2 hD)
  refine aw_aload_n X dX1_copyFrom_168 rfl ?_
  refine aw_aload_n X dX1_copyFrom_169 rfl ?_
  refine aw_jget X hO f_X1_64 rfl dX1_copyFrom_170 ?_
  refine aw_jput X hJ 12 (by decide) (by decide) 10 rfl f_X1_64 (fun h => absurd h (by decide)) dX1_copyFrom_173 (fun μ z_21 ez_21 hJ => ?_)
  have hO := JR.rf (hO0.fr hJ.2 hD)
  refine aw_aload_n X dX1_copyFrom_176 rfl ?_
  refine aw_aload_n X dX1_copyFrom_177 rfl ?_
  refine aw_jget X hO f_X1_67 rfl dX1_copyFrom_178 ?_
  refine aw_jput X hJ 13 (by decide) (by decide) 11 rfl f_X1_67 (fun h => absurd h (by decide)) dX1_copyFrom_181 (fun μ z_22 ez_22 hJ => ?_)
  have hO := JR.rf (hO0.fr hJ.2 hD)
  exact aw_vret X hQ dX1_copyFrom_184 ⟨rfl, hJ.congr (by
    subst ez_1 ez_2 ez_3 ez_4 ez_5 ez_6 ez_7 ez_8 ez_9 ez_10 ez_11 ez_12 ez_13 ez_14 ez_15 ez_16 ez_17 ez_18 ez_19 ez_20 ez_21 ez_22; intro k hk
    exact (Ag.n.c.c.c.c.H.H.H.H.T.T.T.T.T.T.u.u.u.u.u.u.u.u) k (by simp only [hz, tz]; omega))⟩
end
section
/-! a flat object: numbers and arrays of numbers, as one vector -/
/-- a field: is it an array, its type (0 int, 1 boolean, 2 char), its place in the vector, an array's length -/
abbrev xFS : Type := List (Bool × Nat × Nat × Nat)
def fval (ad : Nat → Nat) (z : xV) (k : Nat) (x : Bool × Nat × Nat × Nat) : Value := if x.1 = true then .ref (ad (k + 1)) else .int (z x.2.2.1)
def fok (t : Nat) (v : Int32) : Prop := (t = 1 → xz v) ∧ (t = 2 → narrow .char (.int v) = .int v)
theorem fok_i (v : Int32) : fok 0 v := ⟨(fun q => absurd q (by decide)), (fun q => absurd q (by decide))⟩
theorem fok_z {v : Int32} (h : xz v) : fok 1 v := ⟨(fun _ => h), (fun q => absurd q (by decide))⟩
theorem fok_c {v : Int32} (h : narrow .char (.int v) = .int v) : fok 2 v := ⟨(fun q => absurd q (by decide)), (fun _ => h)⟩
def flo (x : Bool × Nat × Nat × Nat) : Nat := x.2.2.1
def fhi (x : Bool × Nat × Nat × Nat) : Nat := if x.1 = true then x.2.2.1 + x.2.2.2 else x.2.2.1 + 1
def fapartB : xFS → Bool
  | [] => true
  | x :: r => r.all (fun y => decide (fhi x ≤ flo y) || decide (fhi y ≤ flo x)) && fapartB r
theorem fapart_ok : ∀ (FS : xFS), fapartB FS = true → ∀ (i j : Nat) (x y : Bool × Nat × Nat × Nat), FS[i]? = some x → FS[j]? = some y → i ≠ j → fhi x ≤ flo y ∨ fhi y ≤ flo x := by
  intro FS
  induction FS with
  | nil => intro _ i j x y h; simp at h
  | cons a r ih =>
    intro h i j x y hx hy hij
    simp only [fapartB, Bool.and_eq_true, List.all_eq_true, Bool.or_eq_true, decide_eq_true_eq] at h
    cases i with
    | zero =>
      cases j with
      | zero => exact absurd rfl hij
      | succ j =>
        simp at hx hy
        subst hx
        exact h.1 y (List.mem_of_getElem? hy)
    | succ i =>
      cases j with
      | zero =>
        simp at hx hy
        subst hy
        exact (h.1 x (List.mem_of_getElem? hx)).symm
      | succ j =>
        simp at hx hy
        exact ih h.2 i j x y hx hy (fun e => hij (by rw [e]))
def FRep (U : xU) (μ : xH) (ad : Nat → Nat) (ci : Nat) (FS : xFS) (z : xV) : Prop :=
  (∀ i j, i ≤ FS.length → j ≤ FS.length → ad i = ad j → i = j) ∧
  (∃ fs : List Value, μ (ad 0) = some (.inr (ci, fs)) ∧ fs.length = FS.length ∧ ∀ (k : Nat) (x : Bool × Nat × Nat × Nat), FS[k]? = some x → fs[k]? = some (fval ad z k x) ∧ (x.1 = false → fok x.2.1 (z x.2.2.1))) ∧
  ∀ (k : Nat) (x : Bool × Nat × Nat × Nat), FS[k]? = some x → x.1 = true → ∃ f : Nat → Int32, μ (ad (k + 1)) = some (.inl (uC U x.2.1, x.2.2.2, .inl f)) ∧ ∀ j, j < x.2.2.2 → f j = z (x.2.2.1 + j) ∧ fok x.2.1 (f j)
def FFr (ad : Nat → Nat) (N : Nat) (μ μ' : xH) : Prop := ∀ q, (∀ n, n ≤ N → q ≠ ad n) → μ' q = μ q
def FR (U : xU) (μ0 μ : xH) (ad : Nat → Nat) (ci : Nat) (FS : xFS) (z : xV) : Prop := FRep U μ ad ci FS z ∧ FFr ad FS.length μ0 μ
theorem FR.rf {U : xU} {μ : xH} {ad : Nat → Nat} {ci : Nat} {FS : xFS} {z : xV} (h : FRep U μ ad ci FS z) : FR U μ μ ad ci FS z := ⟨h, fun _ _ => rfl⟩
theorem FR.tr {U : xU} {μ0 μ μ' : xH} {ad : Nat → Nat} {ci : Nat} {FS : xFS} {z z' : xV} (h : FR U μ0 μ ad ci FS z) (h2 : FR U μ μ' ad ci FS z') : FR U μ0 μ' ad ci FS z' := ⟨h2.1, fun q hq => (h2.2 q hq).trans (h.2 q hq)⟩
theorem FR.to {U : xU} {μ0 μ : xH} {ad : Nat → Nat} {ci : Nat} {FS : xFS} {z z' : xV} (h : FR U μ0 μ ad ci FS z) (e : z = z') : FR U μ0 μ ad ci FS z' := e ▸ h
theorem FR.g0 {U : xU} {μ0 μ : xH} {ad : Nat → Nat} {ci : Nat} {FS : xFS} {z : xV} (h : FR U μ0 μ ad ci FS z) : ∃ fs : List Value, μ (ad 0) = some (.inr (ci, fs)) := ⟨_, h.1.2.1.choose_spec.1⟩
/-- a number of the object is written -/
theorem FR.pI {U : xU} {μ0 μ : xH} {ad : Nat → Nat} {ci : Nat} {FS : xFS} {z : xV} (h : FR U μ0 μ ad ci FS z) (hA : fapartB FS = true) {k t b n : Nat} (hk : FS[k]? = some (false, t, b, n)) {v : Int32} (hv : fok t v) {fs : List Value} (hfs : μ (ad 0) = some (.inr (ci, fs))) : FR U μ0 (xup μ (ad 0) (.inr (ci, fs.set k (.int v)))) ad ci FS (upd z b v) := by
  obtain ⟨⟨h1, ⟨fs', e1, e2, e3⟩, h3⟩, hF⟩ := h
  rw [hfs] at e1
  cases e1
  have hap := fapart_ok FS hA
  have hkl : k < FS.length := (List.getElem?_eq_some_iff.mp hk).1
  refine ⟨⟨h1, ⟨_, xup_s, by rw [List.length_set]; exact e2, fun j x hx => ?_⟩, fun j x hx hx1 => ?_⟩, fun q hq => ?_⟩
  · by_cases hj : j = k
    · subst hj
      rw [hk] at hx
      cases hx
      refine ⟨?_, fun _ => ?_⟩
      · rw [List.getElem?_set_self (by omega)]
        simp [fval, upd_s]
      · show fok t (upd z b v b)
        rw [upd_s]; exact hv
    · obtain ⟨g1, g2⟩ := e3 j x hx
      have hne : x.1 = false → x.2.2.1 ≠ b := by
        intro hf e
        have := hap j k x _ hx hk hj
        simp [flo, fhi, hf] at this
        omega
      rw [List.getElem?_set_ne (fun z => hj z.symm), g1]
      cases hxb : x.1 with
      | true => exact ⟨by simp [fval, hxb], fun q => by cases q⟩
      | false =>
        refine ⟨by simp [fval, hxb, upd_n (hne hxb)], fun _ => ?_⟩
        rw [upd_n (hne hxb)]
        exact g2 hxb
  · have hj : j ≠ k := fun e => by subst e; rw [hk] at hx; cases hx; cases hx1
    have hjl : j < FS.length := (List.getElem?_eq_some_iff.mp hx).1
    obtain ⟨f, q1, q2⟩ := h3 j x hx hx1
    refine ⟨f, by rw [xup_n (fun e => absurd (h1 _ _ (by omega) (by omega) e) (by omega))]; exact q1, fun i hi => ?_⟩
    have := hap j k x _ hx hk hj
    simp [flo, fhi, hx1] at this
    rw [upd_n (by omega)]
    exact q2 i hi
  · exact (xup_n (hq 0 (by omega))).trans (hF q hq)
/-- a place of an array is written -/
theorem FR.pA {U : xU} {μ0 μ : xH} {ad : Nat → Nat} {ci : Nat} {FS : xFS} {z : xV} (h : FR U μ0 μ ad ci FS z) (hA : fapartB FS = true) {k t b n : Nat} (hk : FS[k]? = some (true, t, b, n)) {f : Nat → Int32} (hf : ∀ j, j < n → f j = z (b + j) ∧ fok t (f j)) {i : Nat} (hi : i < n) {v : Int32} (hv : fok t v) : FR U μ0 (xup μ (ad (k + 1)) (.inl (uC U t, n, .inl (upd f i v)))) ad ci FS (upd z (b + i) v) := by
  obtain ⟨⟨h1, ⟨fs, e1, e2, e3⟩, h3⟩, hF⟩ := h
  have hap := fapart_ok FS hA
  have hkl : k < FS.length := (List.getElem?_eq_some_iff.mp hk).1
  refine ⟨⟨h1, ⟨fs, by rw [xup_n (fun e => absurd (h1 _ _ (by omega) (by omega) e) (by omega))]; exact e1, e2, fun j x hx => ?_⟩, fun j x hx hx1 => ?_⟩, fun q hq => ?_⟩
  · obtain ⟨g1, g2⟩ := e3 j x hx
    cases hxb : x.1 with
    | true => exact ⟨by rw [g1]; simp [fval, hxb], fun q => by cases q⟩
    | false =>
      have hj : j ≠ k := fun e => by subst e; rw [hk] at hx; cases hx; cases hxb
      have := hap j k x _ hx hk hj
      simp [flo, fhi, hxb] at this
      have hne : x.2.2.1 ≠ b + i := by omega
      exact ⟨by rw [g1]; simp [fval, hxb, upd_n hne], fun _ => by rw [upd_n hne]; exact g2 hxb⟩
  · have hjl : j < FS.length := (List.getElem?_eq_some_iff.mp hx).1
    by_cases hj : j = k
    · subst hj
      rw [hk] at hx
      cases hx
      refine ⟨_, xup_s, fun m hm => ?_⟩
      by_cases e : m = i
      · subst e
        rw [upd_s]
        exact ⟨by show v = upd z (b + m) v (b + m); rw [upd_s], hv⟩
      · rw [upd_n e]
        refine ⟨?_, (hf m hm).2⟩
        show f m = upd z (b + i) v (b + m)
        rw [upd_n (by omega)]
        exact (hf m hm).1
    · obtain ⟨g, q1, q2⟩ := h3 j x hx hx1
      refine ⟨g, by rw [xup_n (fun e => hj (by have := h1 _ _ (by omega) (by omega) e; omega))]; exact q1, fun m hm => ?_⟩
      have := hap j k x _ hx hk hj
      simp [flo, fhi, hx1] at this
      rw [upd_n (by omega)]
      exact q2 m hm
  · exact (xup_n (hq (k + 1) (by omega))).trans (hF q hq)
theorem FR.gA {U : xU} {μ0 μ : xH} {ad : Nat → Nat} {ci : Nat} {FS : xFS} {z : xV} (h : FR U μ0 μ ad ci FS z) {k t b n : Nat} (hk : FS[k]? = some (true, t, b, n)) : ∃ f : Nat → Int32, μ (ad (k + 1)) = some (.inl (uC U t, n, .inl f)) ∧ ∀ j, j < n → f j = z (b + j) ∧ fok t (f j) := h.1.2.2 k _ hk rfl
theorem FR.gI {U : xU} {μ0 μ : xH} {ad : Nat → Nat} {ci : Nat} {FS : xFS} {z : xV} (h : FR U μ0 μ ad ci FS z) {k t b n : Nat} (hk : FS[k]? = some (false, t, b, n)) : fok t (z b) := by
  obtain ⟨fs, -, -, e3⟩ := h.1.2.1
  exact (e3 k _ hk).2 rfl
theorem FR.gc {U : xU} {μ0 μ : xH} {ad : Nat → Nat} {ci : Nat} {FS : xFS} {z : xV} (h : FR U μ0 μ ad ci FS z) {k t b n : Nat} (hk : FS[k]? = some (true, t, b, n)) {j : Nat} (hj : j < n) : fok t (z (b + j)) := by
  obtain ⟨f, -, h2⟩ := h.gA hk
  have := h2 j hj
  rw [← this.1]; exact this.2
/-- places that no field has may be anything -/
theorem FR.congr {U : xU} {μ0 μ : xH} {ad : Nat → Nat} {ci : Nat} {FS : xFS} {z z' : xV} (h : FR U μ0 μ ad ci FS z) (e : ∀ (k : Nat) (x : Bool × Nat × Nat × Nat), FS[k]? = some x → ∀ j, flo x ≤ j → j < fhi x → z' j = z j) : FR U μ0 μ ad ci FS z' := by
  obtain ⟨⟨h1, ⟨fs, e1, e2, e3⟩, h3⟩, hF⟩ := h
  refine ⟨⟨h1, ⟨fs, e1, e2, fun k x hx => ?_⟩, fun k x hx hx1 => ?_⟩, hF⟩
  · obtain ⟨g1, g2⟩ := e3 k x hx
    cases hxb : x.1 with
    | true => exact ⟨by rw [g1]; simp [fval, hxb], fun q => by cases q⟩
    | false =>
      have := e k x hx x.2.2.1 (by simp [flo]) (by simp [fhi, hxb])
      exact ⟨by rw [g1]; simp [fval, hxb, this], fun _ => by rw [this]; exact g2 hxb⟩
  · obtain ⟨f, q1, q2⟩ := h3 k x hx hx1
    exact ⟨f, q1, fun j hj => ⟨by rw [e k x hx _ (by simp [flo]) (by simp [fhi, hx1]; omega)]; exact (q2 j hj).1, (q2 j hj).2⟩⟩
abbrev CtFR (l : Launch) (U : xU) (y : MethodName) (b : ByteArray) (maxL : Nat) (ret : Option FieldType) (rm : Room) (av : List Value) (μ : xH) (ad : Nat → Nat) (ci : Nat) (FS : xFS) (r : Int32) (z : xV) : Prop := Ct l U y b maxL ret rm av μ (fun v μ' => v = some (.int r) ∧ FR U μ μ' ad ci FS z)
abbrev CtFK (l : Launch) (U : xU) (y : MethodName) (b : ByteArray) (maxL : Nat) (ret : Option FieldType) (rm : Room) (av : List Value) (μ : xH) (ad : Nat → Nat) (ci : Nat) (FS : xFS) (z : xV) : Prop := Ct l U y b maxL ret rm av μ (fun v μ' => v = none ∧ FR U μ μ' ad ci FS z)
section XFROWS
variable {U : xU} {K : xK} {y : MethodName} {cc : ByteArray} {nL cells slots : Nat} {ret : Option FieldType} {rm : Room} {Q : State → Prop} {μ0 μ : xH} {ad : Nat → Nat} {ci : Nat} {FS : xFS} {z : xV} {pc index : Nat} {ls : List (Option Value)} {st : List Value} {C : String} {T : u_T} {N : Nat}
theorem aw_fgetI (X : Cx U K y cc nL ret rm) (hJ : FR U μ0 μ ad ci FS z) (k : Nat) {t b n : Nat} (hk : FS[k]? = some (false, t, b, n)) (hf : XF y.cls index ci k C T N) (hdg : decode cc pc = .ok (.getfield index, 3)) (kk : AW U K nL cells slots Q μ (pc + 3) ls (.int (z b) :: st)) : AW U K nL cells slots Q μ pc ls (.ref (ad 0) :: st) := by
  obtain ⟨fs, e1, e2, e3⟩ := hJ.1.2.1
  exact aw_get X hf e1 (by rw [(e3 k _ hk).1]; rfl) hdg kk
theorem aw_fgetA (X : Cx U K y cc nL ret rm) (hJ : FR U μ0 μ ad ci FS z) (k : Nat) {t b n : Nat} (hk : FS[k]? = some (true, t, b, n)) (hf : XF y.cls index ci k C T N) (hdg : decode cc pc = .ok (.getfield index, 3)) (kk : AW U K nL cells slots Q μ (pc + 3) ls (.ref (ad (k + 1)) :: st)) : AW U K nL cells slots Q μ pc ls (.ref (ad 0) :: st) := by
  obtain ⟨fs, e1, e2, e3⟩ := hJ.1.2.1
  exact aw_get X hf e1 (by rw [(e3 k _ hk).1]; rfl) hdg kk
theorem aw_fput (X : Cx U K y cc nL ret rm) (hA : fapartB FS = true) (hJ : FR U μ0 μ ad ci FS z) (k : Nat) {b n : Nat} (hk : FS[k]? = some (false, 0, b, n)) {v : Int32} (hf : XF y.cls index ci k C T N) (hT : (T k).2.2.2 = false) (hd : parseFieldDescriptor (T k).2.2.1 = some .int) (hdg : decode cc pc = .ok (.putfield index, 3)) (kk : ∀ (μ' : xH) (z' : xV), z' = upd z b v → FR U μ0 μ' ad ci FS z' → AW U K nL cells slots Q μ' (pc + 3) ls st) : AW U K nL cells slots Q μ pc ls (.int v :: .ref (ad 0) :: st) := by
  obtain ⟨fs, e1, e2, e3⟩ := hJ.1.2.1
  have hkl : k < FS.length := (List.getElem?_eq_some_iff.mp hk).1
  exact aw_put X hf e1 hT hd xfit_i (by omega) hdg (kk _ _ rfl (hJ.pI hA hk (fok_i _) e1))
theorem aw_fputZ (X : Cx U K y cc nL ret rm) (hA : fapartB FS = true) (hJ : FR U μ0 μ ad ci FS z) (k : Nat) {b n : Nat} (hk : FS[k]? = some (false, 1, b, n)) {v : Int32} (hv : xz v) (hf : XF y.cls index ci k C T N) (hT : (T k).2.2.2 = false) (hd : parseFieldDescriptor (T k).2.2.1 = some .boolean) (hdg : decode cc pc = .ok (.putfield index, 3)) (kk : ∀ (μ' : xH) (z' : xV), z' = upd z b v → FR U μ0 μ' ad ci FS z' → AW U K nL cells slots Q μ' (pc + 3) ls st) : AW U K nL cells slots Q μ pc ls (.int v :: .ref (ad 0) :: st) := by
  obtain ⟨fs, e1, e2, e3⟩ := hJ.1.2.1
  have hkl : k < FS.length := (List.getElem?_eq_some_iff.mp hk).1
  exact aw_put X hf e1 hT hd (xfit_z hv) (by omega) hdg (kk _ _ rfl (hJ.pI hA hk (fok_z hv) e1))
theorem aw_flen (X : Cx U K y cc nL ret rm) (hJ : FR U μ0 μ ad ci FS z) (k : Nat) {t b n : Nat} (hk : FS[k]? = some (true, t, b, n)) {ty : FieldType} (ht : (xty (uC U))[t]? = some (uC U t, ty)) {v : Int32} (hv : Int32.ofNat n = v) (hdg : decode cc pc = .ok (.arraylength, 1)) (kk : AW U K nL cells slots Q μ (pc + 1) ls (.int v :: st)) : AW U K nL cells slots Q μ pc ls (.ref (ad (k + 1)) :: st) := by
  obtain ⟨f, h1, -⟩ := hJ.gA hk
  exact aw_alen X (t0 := t) ht h1 hv hdg kk
theorem aw_fiald (X : Cx U K y cc nL ret rm) (hJ : FR U μ0 μ ad ci FS z) (k : Nat) {b n : Nat} (hk : FS[k]? = some (true, 0, b, n)) (j : Nat) {i : Int32} (hin : vp_in i n) (hj : b + i.toNatClampNeg = j) (hdg : decode cc pc = .ok (.iaload, 1)) (kk : AW U K nL cells slots Q μ (pc + 1) ls (.int (z j) :: st)) : AW U K nL cells slots Q μ pc ls (.int i :: .ref (ad (k + 1)) :: st) := by
  subst hj
  obtain ⟨f, h1, h2⟩ := hJ.gA hk
  exact aw_iald X h1 hin hdg (by rw [(h2 _ (xin_lt hin)).1]; exact kk)
theorem aw_fiast (X : Cx U K y cc nL ret rm) (hA : fapartB FS = true) (hJ : FR U μ0 μ ad ci FS z) (k : Nat) {b n : Nat} (hk : FS[k]? = some (true, 0, b, n)) (j : Nat) {i v : Int32} (hin : vp_in i n) (hj : b + i.toNatClampNeg = j) (hdg : decode cc pc = .ok (.iastore, 1)) (kk : ∀ (μ' : xH) (z' : xV), z' = upd z j v → FR U μ0 μ' ad ci FS z' → AW U K nL cells slots Q μ' (pc + 1) ls st) : AW U K nL cells slots Q μ pc ls (.int v :: .int i :: .ref (ad (k + 1)) :: st) := by
  subst hj
  obtain ⟨f, h1, h2⟩ := hJ.gA hk
  exact aw_iast X h1 hin hdg (kk _ _ rfl (hJ.pA hA hk h2 (xin_lt hin) (fok_i _)))
theorem aw_fzald (X : Cx U K y cc nL ret rm) (hJ : FR U μ0 μ ad ci FS z) (k : Nat) {b n : Nat} (hk : FS[k]? = some (true, 1, b, n)) (j : Nat) {i : Int32} (hin : vp_in i n) (hj : b + i.toNatClampNeg = j) (hdg : decode cc pc = .ok (.baload, 1)) (kk : AW U K nL cells slots Q μ (pc + 1) ls (.int (z j) :: st)) : AW U K nL cells slots Q μ pc ls (.int i :: .ref (ad (k + 1)) :: st) := by
  subst hj
  obtain ⟨f, h1, h2⟩ := hJ.gA hk
  exact aw_zald X h1 hin hdg (by rw [(h2 _ (xin_lt hin)).1]; exact kk)
theorem aw_fzast (X : Cx U K y cc nL ret rm) (hA : fapartB FS = true) (hJ : FR U μ0 μ ad ci FS z) (k : Nat) {b n : Nat} (hk : FS[k]? = some (true, 1, b, n)) (j : Nat) {i v : Int32} (hv : xz v) (hin : vp_in i n) (hj : b + i.toNatClampNeg = j) (hdg : decode cc pc = .ok (.bastore, 1)) (kk : ∀ (μ' : xH) (z' : xV), z' = upd z j v → FR U μ0 μ' ad ci FS z' → AW U K nL cells slots Q μ' (pc + 1) ls st) : AW U K nL cells slots Q μ pc ls (.int v :: .int i :: .ref (ad (k + 1)) :: st) := by
  subst hj
  obtain ⟨f, h1, h2⟩ := hJ.gA hk
  exact aw_zast X hv h1 hin hdg (kk _ _ rfl (hJ.pA hA hk h2 (xin_lt hin) (fok_z hv)))
theorem aw_fcald (X : Cx U K y cc nL ret rm) (hJ : FR U μ0 μ ad ci FS z) (k : Nat) {b n : Nat} (hk : FS[k]? = some (true, 2, b, n)) (j : Nat) {i : Int32} (hin : vp_in i n) (hj : b + i.toNatClampNeg = j) (hdg : decode cc pc = .ok (.caload, 1)) (kk : AW U K nL cells slots Q μ (pc + 1) ls (.int (z j) :: st)) : AW U K nL cells slots Q μ pc ls (.int i :: .ref (ad (k + 1)) :: st) := by
  subst hj
  obtain ⟨f, h1, h2⟩ := hJ.gA hk
  exact aw_cald X h1 hin hdg (by rw [(h2 _ (xin_lt hin)).1]; exact kk)
theorem aw_fcast (X : Cx U K y cc nL ret rm) (hA : fapartB FS = true) (hJ : FR U μ0 μ ad ci FS z) (k : Nat) {b n : Nat} (hk : FS[k]? = some (true, 2, b, n)) (j : Nat) {i v : Int32} (hv : narrow .char (.int v) = .int v) (hin : vp_in i n) (hj : b + i.toNatClampNeg = j) (hdg : decode cc pc = .ok (.castore, 1)) (kk : ∀ (μ' : xH) (z' : xV), z' = upd z j v → FR U μ0 μ' ad ci FS z' → AW U K nL cells slots Q μ' (pc + 1) ls st) : AW U K nL cells slots Q μ pc ls (.int v :: .int i :: .ref (ad (k + 1)) :: st) := by
  subst hj
  obtain ⟨f, h1, h2⟩ := hJ.gA hk
  exact aw_cast X hv h1 hin hdg (kk _ _ rfl (hJ.pA hA hk h2 (xin_lt hin) (fok_c hv)))
variable {y' : MethodName} {b' : ByteArray} {maxL n : Nat} {ret' : Option FieldType} {rm' : Room}
theorem aw_cVFF (X : Cx U K y cc nL ret rm) {As : List Value} {N' : Nat} {T' : u_T} {r : Int32} (hJ : FR U μ0 μ ad ci FS z) (hM : CtF (kl K) U y' b' maxL ret' rm' (.ref (ad 0) :: As) μ r) (hs : XV y.cls index y') (hy : XY y' b' maxL ret' n) (hrm : rm'.frames + 1 ≤ rm.frames ∧ 8 + (maxL + 11) + rm'.locals ≤ rm.locals) (hm : rm'.cells = 0 ∧ rm'.slots = 0) (hf : cells ≤ rm.cells ∧ slots ≤ rm.slots) (hn : As.length = n) (hst : (st.map fun v => v.category).sum ≤ 8) (hci : xcl[ci]? = some (y'.cls, T', N')) (hdg : decode cc pc = .ok (.invokevirtual index, 3)) (kk : AW U K nL cells slots Q μ (pc + 3) ls (.int r :: st)) : AW U K nL cells slots Q μ pc ls (As.reverse ++ .ref (ad 0) :: st) := by
  have hR := X.2.2.2.2.2.2.2.1
  obtain ⟨fs, hμ⟩ := hJ.g0
  refine aw_cV X hM hs hy hrm (by rw [hm.1, hm.2, hR]; exact hf) hn hst hμ hci hdg (fun v μ1 hp => ?_)
  obtain ⟨rfl, rfl⟩ := hp
  rw [hm.1, hm.2]
  exact kk
theorem aw_cVFR (X : Cx U K y cc nL ret rm) {As : List Value} {N' : Nat} {T' : u_T} {r : Int32} {z1 : xV} (hJ : FR U μ0 μ ad ci FS z) (hM : CtFR (kl K) U y' b' maxL ret' rm' (.ref (ad 0) :: As) μ ad ci FS r z1) (hs : XV y.cls index y') (hy : XY y' b' maxL ret' n) (hrm : rm'.frames + 1 ≤ rm.frames ∧ 8 + (maxL + 11) + rm'.locals ≤ rm.locals) (hm : rm'.cells = 0 ∧ rm'.slots = 0) (hf : cells ≤ rm.cells ∧ slots ≤ rm.slots) (hn : As.length = n) (hst : (st.map fun v => v.category).sum ≤ 8) (hci : xcl[ci]? = some (y'.cls, T', N')) (hdg : decode cc pc = .ok (.invokevirtual index, 3)) (kk : ∀ (μ' : xH) (z' : xV), z' = z1 → FR U μ0 μ' ad ci FS z' → AW U K nL cells slots Q μ' (pc + 3) ls (.int r :: st)) : AW U K nL cells slots Q μ pc ls (As.reverse ++ .ref (ad 0) :: st) := by
  have hR := X.2.2.2.2.2.2.2.1
  obtain ⟨fs, hμ⟩ := hJ.g0
  refine aw_cV X hM hs hy hrm (by rw [hm.1, hm.2, hR]; exact hf) hn hst hμ hci hdg (fun v μ1 hp => ?_)
  obtain ⟨rfl, hp⟩ := hp
  rw [hm.1, hm.2]
  exact kk _ _ rfl (hJ.tr hp)
theorem aw_cVFK (X : Cx U K y cc nL ret rm) {As : List Value} {N' : Nat} {T' : u_T} {z1 : xV} (hJ : FR U μ0 μ ad ci FS z) (hM : CtFK (kl K) U y' b' maxL ret' rm' (.ref (ad 0) :: As) μ ad ci FS z1) (hs : XV y.cls index y') (hy : XY y' b' maxL ret' n) (hrm : rm'.frames + 1 ≤ rm.frames ∧ 8 + (maxL + 11) + rm'.locals ≤ rm.locals) (hm : rm'.cells = 0 ∧ rm'.slots = 0) (hf : cells ≤ rm.cells ∧ slots ≤ rm.slots) (hn : As.length = n) (hst : (st.map fun v => v.category).sum ≤ 8) (hci : xcl[ci]? = some (y'.cls, T', N')) (hdg : decode cc pc = .ok (.invokevirtual index, 3)) (kk : ∀ (μ' : xH) (z' : xV), z' = z1 → FR U μ0 μ' ad ci FS z' → AW U K nL cells slots Q μ' (pc + 3) ls st) : AW U K nL cells slots Q μ pc ls (As.reverse ++ .ref (ad 0) :: st) := by
  have hR := X.2.2.2.2.2.2.2.1
  obtain ⟨fs, hμ⟩ := hJ.g0
  refine aw_cV X hM hs hy hrm (by rw [hm.1, hm.2, hR]; exact hf) hn hst hμ hci hdg (fun v μ1 hp => ?_)
  obtain ⟨rfl, hp⟩ := hp
  rw [hm.1, hm.2]
  exact kk _ _ rfl (hJ.tr hp)
end XFROWS
/-- the pad: 0..59 the text, 60 its length, 61 where the reading stands, 62 order, 63 hose, 64 grade, 65 hours, 66..69 units -/
def FP : xFS := [(true, 2, 0, 60), (false, 0, 60, 0), (false, 0, 61, 0), (false, 0, 62, 0), (false, 0, 63, 0), (false, 0, 64, 0), (false, 0, 65, 0), (true, 0, 66, 4)]
theorem FP_a : fapartB FP = true := by decide
/-- the model: 0..79 its row, 100.. was, 200.. before, 700.. slots, 860.. isSaved, 870.. pad, 930.. unitsRead, 940 known, 941 length, 942 place, 943 isWrong, 944 kind, 945 number, 946 hoseRead, 947 gradeRead -/
def FM : xFS := [(true, 0, 0, 80), (true, 0, 100, 80), (true, 0, 200, 480), (false, 0, 940, 0), (true, 0, 700, 160), (true, 1, 860, 2), (true, 0, 870, 60), (false, 0, 941, 0), (false, 0, 942, 0), (false, 1, 943, 0), (false, 0, 944, 0), (false, 0, 945, 0), (false, 0, 946, 0), (false, 0, 947, 0), (true, 0, 930, 4)]
theorem FM_a : fapartB FM = true := by decide
end
section
theorem xq_last : True := trivial
end
