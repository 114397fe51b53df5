section
-- ===== PART A: goes FIRST, ahead of the names: the tables' words, and 'selects' of the private methods out of them =====
/-- a private method of a class that the tables say can be made, by its rows of tables_1 -/
def lw_okq (q : MethodName × Nat) : Prop := (q.1.cls ≠ "java/lang/invoke/MethodHandle" ∧ q.1.cls ≠ "java/lang/invoke/VarHandle") ∧ Cond.instantiable q.1.cls q.2 ∈ tables_1 ∧ Cond.privateMethod q.1 ∈ tables_1 ∧ Cond.instanceMethod q.1 ∈ tables_1
theorem lw_p0 : lw_okq (⟨"LeasedViewStore", "isServer", "(I)Z"⟩, 5) := ⟨⟨by decide +kernel, by decide +kernel⟩, List.mem_of_getElem? (i := 14) (by decide +kernel), List.mem_of_getElem? (i := 303) (by decide +kernel), List.mem_of_getElem? (i := 304) (by decide +kernel)⟩
theorem lw_p1 : lw_okq (⟨"LeasedViewStore", "clockOf", "(LLeasedViewStore$Server;)I"⟩, 5) := ⟨⟨by decide +kernel, by decide +kernel⟩, List.mem_of_getElem? (i := 14) (by decide +kernel), List.mem_of_getElem? (i := 323) (by decide +kernel), List.mem_of_getElem? (i := 324) (by decide +kernel)⟩
theorem lw_p2 : lw_okq (⟨"LeasedViewStore", "sendFill", "(LLeasedViewStore$Server;)V"⟩, 5) := ⟨⟨by decide +kernel, by decide +kernel⟩, List.mem_of_getElem? (i := 14) (by decide +kernel), List.mem_of_getElem? (i := 357) (by decide +kernel), List.mem_of_getElem? (i := 358) (by decide +kernel)⟩
theorem lw_p3 : lw_okq (⟨"LeasedViewStore", "sendPass", "(LLeasedViewStore$Server;)V"⟩, 5) := ⟨⟨by decide +kernel, by decide +kernel⟩, List.mem_of_getElem? (i := 14) (by decide +kernel), List.mem_of_getElem? (i := 372) (by decide +kernel), List.mem_of_getElem? (i := 373) (by decide +kernel)⟩
theorem lw_p4 : lw_okq (⟨"LeasedViewStore", "isClient", "(I)Z"⟩, 5) := ⟨⟨by decide +kernel, by decide +kernel⟩, List.mem_of_getElem? (i := 14) (by decide +kernel), List.mem_of_getElem? (i := 384) (by decide +kernel), List.mem_of_getElem? (i := 385) (by decide +kernel)⟩
theorem lw_p5 : lw_okq (⟨"LeasedViewStore", "isCell", "(I)Z"⟩, 5) := ⟨⟨by decide +kernel, by decide +kernel⟩, List.mem_of_getElem? (i := 14) (by decide +kernel), List.mem_of_getElem? (i := 388) (by decide +kernel), List.mem_of_getElem? (i := 389) (by decide +kernel)⟩
theorem lw_p6 : lw_okq (⟨"LeasedViewStore", "takesEffect", "(LLeasedViewStore$Letter;)Z"⟩, 5) := ⟨⟨by decide +kernel, by decide +kernel⟩, List.mem_of_getElem? (i := 14) (by decide +kernel), List.mem_of_getElem? (i := 412) (by decide +kernel), List.mem_of_getElem? (i := 413) (by decide +kernel)⟩
theorem lw_p7 : lw_okq (⟨"LeasedViewStore", "takePing", "(LLeasedViewStore$Letter;)Z"⟩, 5) := ⟨⟨by decide +kernel, by decide +kernel⟩, List.mem_of_getElem? (i := 14) (by decide +kernel), List.mem_of_getElem? (i := 416) (by decide +kernel), List.mem_of_getElem? (i := 417) (by decide +kernel)⟩
theorem lw_p8 : lw_okq (⟨"LeasedViewStore", "takeView", "(LLeasedViewStore$Server;LLeasedViewStore$Letter;)Z"⟩, 5) := ⟨⟨by decide +kernel, by decide +kernel⟩, List.mem_of_getElem? (i := 14) (by decide +kernel), List.mem_of_getElem? (i := 428) (by decide +kernel), List.mem_of_getElem? (i := 429) (by decide +kernel)⟩
theorem lw_p9 : lw_okq (⟨"LeasedViewStore", "enterView", "(LLeasedViewStore$Server;LLeasedViewStore$View;)V"⟩, 5) := ⟨⟨by decide +kernel, by decide +kernel⟩, List.mem_of_getElem? (i := 14) (by decide +kernel), List.mem_of_getElem? (i := 432) (by decide +kernel), List.mem_of_getElem? (i := 433) (by decide +kernel)⟩
theorem lw_p10 : lw_okq (⟨"LeasedViewStore", "takeFill", "(LLeasedViewStore$Server;LLeasedViewStore$Letter;)Z"⟩, 5) := ⟨⟨by decide +kernel, by decide +kernel⟩, List.mem_of_getElem? (i := 14) (by decide +kernel), List.mem_of_getElem? (i := 436) (by decide +kernel), List.mem_of_getElem? (i := 437) (by decide +kernel)⟩
theorem lw_p11 : lw_okq (⟨"LeasedViewStore", "takeFilled", "(LLeasedViewStore$Server;LLeasedViewStore$Letter;)Z"⟩, 5) := ⟨⟨by decide +kernel, by decide +kernel⟩, List.mem_of_getElem? (i := 14) (by decide +kernel), List.mem_of_getElem? (i := 440) (by decide +kernel), List.mem_of_getElem? (i := 441) (by decide +kernel)⟩
theorem lw_p12 : lw_okq (⟨"LeasedViewStore", "takePass", "(LLeasedViewStore$Server;LLeasedViewStore$Letter;)Z"⟩, 5) := ⟨⟨by decide +kernel, by decide +kernel⟩, List.mem_of_getElem? (i := 14) (by decide +kernel), List.mem_of_getElem? (i := 448) (by decide +kernel), List.mem_of_getElem? (i := 449) (by decide +kernel)⟩
theorem lw_p13 : lw_okq (⟨"LeasedViewStore", "takePassed", "(LLeasedViewStore$Server;LLeasedViewStore$Letter;)Z"⟩, 5) := ⟨⟨by decide +kernel, by decide +kernel⟩, List.mem_of_getElem? (i := 14) (by decide +kernel), List.mem_of_getElem? (i := 460) (by decide +kernel), List.mem_of_getElem? (i := 461) (by decide +kernel)⟩
theorem lw_p14 : lw_okq (⟨"LeasedViewStore", "doWriteAndAnswer", "(LLeasedViewStore$Server;LLeasedViewStore$Operation;)V"⟩, 5) := ⟨⟨by decide +kernel, by decide +kernel⟩, List.mem_of_getElem? (i := 14) (by decide +kernel), List.mem_of_getElem? (i := 464) (by decide +kernel), List.mem_of_getElem? (i := 465) (by decide +kernel)⟩
theorem lw_p15 : lw_okq (⟨"LeasedViewStore", "sendAnswer", "(LLeasedViewStore$Operation;I)V"⟩, 5) := ⟨⟨by decide +kernel, by decide +kernel⟩, List.mem_of_getElem? (i := 14) (by decide +kernel), List.mem_of_getElem? (i := 468) (by decide +kernel), List.mem_of_getElem? (i := 469) (by decide +kernel)⟩
def lw_privs_1 : List (MethodName × Nat) := [(⟨"LeasedViewStore", "isServer", "(I)Z"⟩, 5), (⟨"LeasedViewStore", "clockOf", "(LLeasedViewStore$Server;)I"⟩, 5), (⟨"LeasedViewStore", "sendFill", "(LLeasedViewStore$Server;)V"⟩, 5), (⟨"LeasedViewStore", "sendPass", "(LLeasedViewStore$Server;)V"⟩, 5), (⟨"LeasedViewStore", "isClient", "(I)Z"⟩, 5), (⟨"LeasedViewStore", "isCell", "(I)Z"⟩, 5), (⟨"LeasedViewStore", "takesEffect", "(LLeasedViewStore$Letter;)Z"⟩, 5), (⟨"LeasedViewStore", "takePing", "(LLeasedViewStore$Letter;)Z"⟩, 5), (⟨"LeasedViewStore", "takeView", "(LLeasedViewStore$Server;LLeasedViewStore$Letter;)Z"⟩, 5), (⟨"LeasedViewStore", "enterView", "(LLeasedViewStore$Server;LLeasedViewStore$View;)V"⟩, 5), (⟨"LeasedViewStore", "takeFill", "(LLeasedViewStore$Server;LLeasedViewStore$Letter;)Z"⟩, 5), (⟨"LeasedViewStore", "takeFilled", "(LLeasedViewStore$Server;LLeasedViewStore$Letter;)Z"⟩, 5), (⟨"LeasedViewStore", "takePass", "(LLeasedViewStore$Server;LLeasedViewStore$Letter;)Z"⟩, 5), (⟨"LeasedViewStore", "takePassed", "(LLeasedViewStore$Server;LLeasedViewStore$Letter;)Z"⟩, 5), (⟨"LeasedViewStore", "doWriteAndAnswer", "(LLeasedViewStore$Server;LLeasedViewStore$Operation;)V"⟩, 5), (⟨"LeasedViewStore", "sendAnswer", "(LLeasedViewStore$Operation;I)V"⟩, 5)]
theorem lw_r1 : ∀ q ∈ lw_privs_1, lw_okq q := List.forall_mem_cons.mpr ⟨lw_p0, List.forall_mem_cons.mpr ⟨lw_p1, List.forall_mem_cons.mpr ⟨lw_p2, List.forall_mem_cons.mpr ⟨lw_p3, List.forall_mem_cons.mpr ⟨lw_p4, List.forall_mem_cons.mpr ⟨lw_p5, List.forall_mem_cons.mpr ⟨lw_p6, List.forall_mem_cons.mpr ⟨lw_p7, List.forall_mem_cons.mpr ⟨lw_p8, List.forall_mem_cons.mpr ⟨lw_p9, List.forall_mem_cons.mpr ⟨lw_p10, List.forall_mem_cons.mpr ⟨lw_p11, List.forall_mem_cons.mpr ⟨lw_p12, List.forall_mem_cons.mpr ⟨lw_p13, List.forall_mem_cons.mpr ⟨lw_p14, List.forall_mem_cons.mpr ⟨lw_p15, fun _ h => absurd h List.not_mem_nil⟩⟩⟩⟩⟩⟩⟩⟩⟩⟩⟩⟩⟩⟩⟩⟩
theorem lw_p16 : lw_okq (⟨"LeasedViewStore", "takeAsk", "(LLeasedViewStore$Server;LLeasedViewStore$Letter;)Z"⟩, 5) := ⟨⟨by decide +kernel, by decide +kernel⟩, List.mem_of_getElem? (i := 14) (by decide +kernel), List.mem_of_getElem? (i := 472) (by decide +kernel), List.mem_of_getElem? (i := 473) (by decide +kernel)⟩
theorem lw_p17 : lw_okq (⟨"LeasedViewStore", "takeWrite", "(LLeasedViewStore$Server;LLeasedViewStore$Operation;)Z"⟩, 5) := ⟨⟨by decide +kernel, by decide +kernel⟩, List.mem_of_getElem? (i := 14) (by decide +kernel), List.mem_of_getElem? (i := 476) (by decide +kernel), List.mem_of_getElem? (i := 477) (by decide +kernel)⟩
theorem lw_p18 : lw_okq (⟨"LeasedViewStore", "takeRead", "(LLeasedViewStore$Server;LLeasedViewStore$Operation;)Z"⟩, 5) := ⟨⟨by decide +kernel, by decide +kernel⟩, List.mem_of_getElem? (i := 14) (by decide +kernel), List.mem_of_getElem? (i := 480) (by decide +kernel), List.mem_of_getElem? (i := 481) (by decide +kernel)⟩
theorem lw_p19 : lw_okq (⟨"LeasedViewStoreModel", "fresh", "(I)Z"⟩, 37) := ⟨⟨by decide +kernel, by decide +kernel⟩, List.mem_of_getElem? (i := 535) (by decide +kernel), List.mem_of_getElem? (i := 659) (by decide +kernel), List.mem_of_getElem? (i := 660) (by decide +kernel)⟩
theorem lw_p20 : lw_okq (⟨"LeasedViewStoreModel", "noServer", "(I)Z"⟩, 37) := ⟨⟨by decide +kernel, by decide +kernel⟩, List.mem_of_getElem? (i := 535) (by decide +kernel), List.mem_of_getElem? (i := 671) (by decide +kernel), List.mem_of_getElem? (i := 672) (by decide +kernel)⟩
theorem lw_p21 : lw_okq (⟨"LeasedViewStoreModel", "post", "(II)I"⟩, 37) := ⟨⟨by decide +kernel, by decide +kernel⟩, List.mem_of_getElem? (i := 535) (by decide +kernel), List.mem_of_getElem? (i := 679) (by decide +kernel), List.mem_of_getElem? (i := 680) (by decide +kernel)⟩
theorem lw_p22 : lw_okq (⟨"LeasedViewStoreModel", "leads", "(I)Z"⟩, 37) := ⟨⟨by decide +kernel, by decide +kernel⟩, List.mem_of_getElem? (i := 535) (by decide +kernel), List.mem_of_getElem? (i := 683) (by decide +kernel), List.mem_of_getElem? (i := 684) (by decide +kernel)⟩
theorem lw_p23 : lw_okq (⟨"LeasedViewStoreModel", "sendFill", "(I)V"⟩, 37) := ⟨⟨by decide +kernel, by decide +kernel⟩, List.mem_of_getElem? (i := 535) (by decide +kernel), List.mem_of_getElem? (i := 691) (by decide +kernel), List.mem_of_getElem? (i := 692) (by decide +kernel)⟩
theorem lw_p24 : lw_okq (⟨"LeasedViewStoreModel", "sendPass", "(I)V"⟩, 37) := ⟨⟨by decide +kernel, by decide +kernel⟩, List.mem_of_getElem? (i := 535) (by decide +kernel), List.mem_of_getElem? (i := 695) (by decide +kernel), List.mem_of_getElem? (i := 696) (by decide +kernel)⟩
theorem lw_p25 : lw_okq (⟨"LeasedViewStoreModel", "noClient", "(I)Z"⟩, 37) := ⟨⟨by decide +kernel, by decide +kernel⟩, List.mem_of_getElem? (i := 535) (by decide +kernel), List.mem_of_getElem? (i := 703) (by decide +kernel), List.mem_of_getElem? (i := 704) (by decide +kernel)⟩
theorem lw_p26 : lw_okq (⟨"LeasedViewStoreModel", "take", "(I)I"⟩, 37) := ⟨⟨by decide +kernel, by decide +kernel⟩, List.mem_of_getElem? (i := 535) (by decide +kernel), List.mem_of_getElem? (i := 715) (by decide +kernel), List.mem_of_getElem? (i := 716) (by decide +kernel)⟩
theorem lw_p27 : lw_okq (⟨"LeasedViewStoreModel", "arrive", "(II)Z"⟩, 37) := ⟨⟨by decide +kernel, by decide +kernel⟩, List.mem_of_getElem? (i := 535) (by decide +kernel), List.mem_of_getElem? (i := 727) (by decide +kernel), List.mem_of_getElem? (i := 728) (by decide +kernel)⟩
theorem lw_p28 : lw_okq (⟨"LeasedViewStoreModel", "hear", "(II)V"⟩, 37) := ⟨⟨by decide +kernel, by decide +kernel⟩, List.mem_of_getElem? (i := 535) (by decide +kernel), List.mem_of_getElem? (i := 731) (by decide +kernel), List.mem_of_getElem? (i := 732) (by decide +kernel)⟩
theorem lw_p29 : lw_okq (⟨"LeasedViewStoreModel", "see", "(II)Z"⟩, 37) := ⟨⟨by decide +kernel, by decide +kernel⟩, List.mem_of_getElem? (i := 535) (by decide +kernel), List.mem_of_getElem? (i := 735) (by decide +kernel), List.mem_of_getElem? (i := 736) (by decide +kernel)⟩
theorem lw_p30 : lw_okq (⟨"LeasedViewStoreModel", "enter", "(IIII)V"⟩, 37) := ⟨⟨by decide +kernel, by decide +kernel⟩, List.mem_of_getElem? (i := 535) (by decide +kernel), List.mem_of_getElem? (i := 739) (by decide +kernel), List.mem_of_getElem? (i := 740) (by decide +kernel)⟩
theorem lw_p31 : lw_okq (⟨"LeasedViewStoreModel", "fill", "(II)Z"⟩, 37) := ⟨⟨by decide +kernel, by decide +kernel⟩, List.mem_of_getElem? (i := 535) (by decide +kernel), List.mem_of_getElem? (i := 743) (by decide +kernel), List.mem_of_getElem? (i := 744) (by decide +kernel)⟩
def lw_privs_2 : List (MethodName × Nat) := [(⟨"LeasedViewStore", "takeAsk", "(LLeasedViewStore$Server;LLeasedViewStore$Letter;)Z"⟩, 5), (⟨"LeasedViewStore", "takeWrite", "(LLeasedViewStore$Server;LLeasedViewStore$Operation;)Z"⟩, 5), (⟨"LeasedViewStore", "takeRead", "(LLeasedViewStore$Server;LLeasedViewStore$Operation;)Z"⟩, 5), (⟨"LeasedViewStoreModel", "fresh", "(I)Z"⟩, 37), (⟨"LeasedViewStoreModel", "noServer", "(I)Z"⟩, 37), (⟨"LeasedViewStoreModel", "post", "(II)I"⟩, 37), (⟨"LeasedViewStoreModel", "leads", "(I)Z"⟩, 37), (⟨"LeasedViewStoreModel", "sendFill", "(I)V"⟩, 37), (⟨"LeasedViewStoreModel", "sendPass", "(I)V"⟩, 37), (⟨"LeasedViewStoreModel", "noClient", "(I)Z"⟩, 37), (⟨"LeasedViewStoreModel", "take", "(I)I"⟩, 37), (⟨"LeasedViewStoreModel", "arrive", "(II)Z"⟩, 37), (⟨"LeasedViewStoreModel", "hear", "(II)V"⟩, 37), (⟨"LeasedViewStoreModel", "see", "(II)Z"⟩, 37), (⟨"LeasedViewStoreModel", "enter", "(IIII)V"⟩, 37), (⟨"LeasedViewStoreModel", "fill", "(II)Z"⟩, 37)]
theorem lw_r2 : ∀ q ∈ lw_privs_2, lw_okq q := List.forall_mem_cons.mpr ⟨lw_p16, List.forall_mem_cons.mpr ⟨lw_p17, List.forall_mem_cons.mpr ⟨lw_p18, List.forall_mem_cons.mpr ⟨lw_p19, List.forall_mem_cons.mpr ⟨lw_p20, List.forall_mem_cons.mpr ⟨lw_p21, List.forall_mem_cons.mpr ⟨lw_p22, List.forall_mem_cons.mpr ⟨lw_p23, List.forall_mem_cons.mpr ⟨lw_p24, List.forall_mem_cons.mpr ⟨lw_p25, List.forall_mem_cons.mpr ⟨lw_p26, List.forall_mem_cons.mpr ⟨lw_p27, List.forall_mem_cons.mpr ⟨lw_p28, List.forall_mem_cons.mpr ⟨lw_p29, List.forall_mem_cons.mpr ⟨lw_p30, List.forall_mem_cons.mpr ⟨lw_p31, fun _ h => absurd h List.not_mem_nil⟩⟩⟩⟩⟩⟩⟩⟩⟩⟩⟩⟩⟩⟩⟩⟩
theorem lw_p32 : lw_okq (⟨"LeasedViewStoreModel", "filledBack", "(II)Z"⟩, 37) := ⟨⟨by decide +kernel, by decide +kernel⟩, List.mem_of_getElem? (i := 535) (by decide +kernel), List.mem_of_getElem? (i := 747) (by decide +kernel), List.mem_of_getElem? (i := 748) (by decide +kernel)⟩
theorem lw_p33 : lw_okq (⟨"LeasedViewStoreModel", "pass", "(II)Z"⟩, 37) := ⟨⟨by decide +kernel, by decide +kernel⟩, List.mem_of_getElem? (i := 535) (by decide +kernel), List.mem_of_getElem? (i := 751) (by decide +kernel), List.mem_of_getElem? (i := 752) (by decide +kernel)⟩
theorem lw_p34 : lw_okq (⟨"LeasedViewStoreModel", "perform", "(II)I"⟩, 37) := ⟨⟨by decide +kernel, by decide +kernel⟩, List.mem_of_getElem? (i := 535) (by decide +kernel), List.mem_of_getElem? (i := 755) (by decide +kernel), List.mem_of_getElem? (i := 756) (by decide +kernel)⟩
theorem lw_p35 : lw_okq (⟨"LeasedViewStoreModel", "held", "(III)I"⟩, 37) := ⟨⟨by decide +kernel, by decide +kernel⟩, List.mem_of_getElem? (i := 535) (by decide +kernel), List.mem_of_getElem? (i := 759) (by decide +kernel), List.mem_of_getElem? (i := 760) (by decide +kernel)⟩
theorem lw_p36 : lw_okq (⟨"LeasedViewStoreModel", "passed", "(II)Z"⟩, 37) := ⟨⟨by decide +kernel, by decide +kernel⟩, List.mem_of_getElem? (i := 535) (by decide +kernel), List.mem_of_getElem? (i := 763) (by decide +kernel), List.mem_of_getElem? (i := 764) (by decide +kernel)⟩
theorem lw_p37 : lw_okq (⟨"LeasedViewStoreModel", "answer", "(II)V"⟩, 37) := ⟨⟨by decide +kernel, by decide +kernel⟩, List.mem_of_getElem? (i := 535) (by decide +kernel), List.mem_of_getElem? (i := 767) (by decide +kernel), List.mem_of_getElem? (i := 768) (by decide +kernel)⟩
theorem lw_p38 : lw_okq (⟨"LeasedViewStoreModel", "ask", "(II)Z"⟩, 37) := ⟨⟨by decide +kernel, by decide +kernel⟩, List.mem_of_getElem? (i := 535) (by decide +kernel), List.mem_of_getElem? (i := 771) (by decide +kernel), List.mem_of_getElem? (i := 772) (by decide +kernel)⟩
theorem lw_p39 : lw_okq (⟨"LeasedViewStoreModel", "latest", "(II)I"⟩, 37) := ⟨⟨by decide +kernel, by decide +kernel⟩, List.mem_of_getElem? (i := 535) (by decide +kernel), List.mem_of_getElem? (i := 775) (by decide +kernel), List.mem_of_getElem? (i := 776) (by decide +kernel)⟩
def lw_privs_3 : List (MethodName × Nat) := [(⟨"LeasedViewStoreModel", "filledBack", "(II)Z"⟩, 37), (⟨"LeasedViewStoreModel", "pass", "(II)Z"⟩, 37), (⟨"LeasedViewStoreModel", "perform", "(II)I"⟩, 37), (⟨"LeasedViewStoreModel", "held", "(III)I"⟩, 37), (⟨"LeasedViewStoreModel", "passed", "(II)Z"⟩, 37), (⟨"LeasedViewStoreModel", "answer", "(II)V"⟩, 37), (⟨"LeasedViewStoreModel", "ask", "(II)Z"⟩, 37), (⟨"LeasedViewStoreModel", "latest", "(II)I"⟩, 37)]
theorem lw_r3 : ∀ q ∈ lw_privs_3, lw_okq q := List.forall_mem_cons.mpr ⟨lw_p32, List.forall_mem_cons.mpr ⟨lw_p33, List.forall_mem_cons.mpr ⟨lw_p34, List.forall_mem_cons.mpr ⟨lw_p35, List.forall_mem_cons.mpr ⟨lw_p36, List.forall_mem_cons.mpr ⟨lw_p37, List.forall_mem_cons.mpr ⟨lw_p38, List.forall_mem_cons.mpr ⟨lw_p39, fun _ h => absurd h List.not_mem_nil⟩⟩⟩⟩⟩⟩⟩⟩
def lw_privs : List (MethodName × Nat) := lw_privs_1 ++ (lw_privs_2 ++ (lw_privs_3))
def lw_tbl : List Cond := k2_sels lw_privs ++ tables_1
theorem lw_privs_ok : ∀ q ∈ lw_privs, lw_okq q := by
  show ∀ q ∈ lw_privs_1 ++ (lw_privs_2 ++ (lw_privs_3)), lw_okq q
  exact List.forall_mem_append.mpr ⟨lw_r1, List.forall_mem_append.mpr ⟨lw_r2, lw_r3⟩⟩

/-! classes: names, fields -/
abbrev R_Store : String := "LeasedViewStore"
def T_Store : u_T := fun k => match k with
  | 0 => ("LeasedViewStore", "servers", "[LLeasedViewStore$Server;", true)
  | 1 => ("LeasedViewStore", "clients", "[LLeasedViewStore$Client;", true)
  | 2 => ("LeasedViewStore", "service", "LLeasedViewStore$Service;", true)
  | 3 => ("LeasedViewStore", "post", "LLeasedViewStore$Post;", true)
  | _ => ("LeasedViewStore", "time", "I", false)
def t_Store : Nat → FieldType := fun k => match k with
  | 0 => .array (.object "LeasedViewStore$Server")
  | 1 => .array (.object "LeasedViewStore$Client")
  | 2 => .object "LeasedViewStore$Service"
  | 3 => .object "LeasedViewStore$Post"
  | _ => .int
theorem nm_Store : ∀ a, a < 5 → ∀ b, b < 5 → a ≠ b → (T_Store a).2.1 ≠ (T_Store b).2.1 := by decide +kernel
theorem ok_Store : ∀ k, k < 5 → parseFieldDescriptor (T_Store k).2.2.1 = some (t_Store k) := by decide +kernel
abbrev R_Server : String := "LeasedViewStore$Server"
def T_Server : u_T := fun k => match k with
  | 0 => ("LeasedViewStore$Server", "self", "I", true)
  | 1 => ("LeasedViewStore$Server", "view", "LLeasedViewStore$View;", true)
  | 2 => ("LeasedViewStore$Server", "state", "LLeasedViewStore$State;", true)
  | 3 => ("LeasedViewStore$Server", "pendingWrite", "LLeasedViewStore$Operation;", true)
  | 4 => ("LeasedViewStore$Server", "skew", "I", false)
  | 5 => ("LeasedViewStore$Server", "lease", "I", false)
  | 6 => ("LeasedViewStore$Server", "crashed", "Z", false)
  | 7 => ("LeasedViewStore$Server", "ready", "Z", false)
  | 8 => ("LeasedViewStore$Server", "pending", "Z", false)
  | _ => ("LeasedViewStore$Server", "filled", "Z", false)
def t_Server : Nat → FieldType := fun k => match k with
  | 0 => .int
  | 1 => .object "LeasedViewStore$View"
  | 2 => .object "LeasedViewStore$State"
  | 3 => .object "LeasedViewStore$Operation"
  | 4 => .int
  | 5 => .int
  | 6 => .boolean
  | 7 => .boolean
  | 8 => .boolean
  | _ => .boolean
theorem nm_Server : ∀ a, a < 10 → ∀ b, b < 10 → a ≠ b → (T_Server a).2.1 ≠ (T_Server b).2.1 := by decide +kernel
theorem ok_Server : ∀ k, k < 10 → parseFieldDescriptor (T_Server k).2.2.1 = some (t_Server k) := by decide +kernel
abbrev R_Client : String := "LeasedViewStore$Client"
def T_Client : u_T := fun k => match k with
  | 0 => ("LeasedViewStore$Client", "operation", "LLeasedViewStore$Operation;", true)
  | 1 => ("LeasedViewStore$Client", "underWay", "Z", false)
  | 2 => ("LeasedViewStore$Client", "finished", "I", false)
  | _ => ("LeasedViewStore$Client", "result", "I", false)
def t_Client : Nat → FieldType := fun k => match k with
  | 0 => .object "LeasedViewStore$Operation"
  | 1 => .boolean
  | 2 => .int
  | _ => .int
theorem nm_Client : ∀ a, a < 4 → ∀ b, b < 4 → a ≠ b → (T_Client a).2.1 ≠ (T_Client b).2.1 := by decide +kernel
theorem ok_Client : ∀ k, k < 4 → parseFieldDescriptor (T_Client k).2.2.1 = some (t_Client k) := by decide +kernel
abbrev R_Service : String := "LeasedViewStore$Service"
def T_Service : u_T := fun k => match k with
  | 0 => ("LeasedViewStore$Service", "present", "LLeasedViewStore$View;", true)
  | 1 => ("LeasedViewStore$Service", "latestPing", "[I", true)
  | _ => ("LeasedViewStore$Service", "confirmed", "Z", false)
def t_Service : Nat → FieldType := fun k => match k with
  | 0 => .object "LeasedViewStore$View"
  | 1 => .array .int
  | _ => .boolean
theorem nm_Service : ∀ a, a < 3 → ∀ b, b < 3 → a ≠ b → (T_Service a).2.1 ≠ (T_Service b).2.1 := by decide +kernel
theorem ok_Service : ∀ k, k < 3 → parseFieldDescriptor (T_Service k).2.2.1 = some (t_Service k) := by decide +kernel
abbrev R_Post : String := "LeasedViewStore$Post"
def T_Post : u_T := fun k => match k with
  | 0 => ("LeasedViewStore$Post", "row", "[LLeasedViewStore$Letter;", true)
  | 1 => ("LeasedViewStore$Post", "lost", "LLeasedViewStore$Letter;", true)
  | _ => ("LeasedViewStore$Post", "waiting", "I", false)
def t_Post : Nat → FieldType := fun k => match k with
  | 0 => .array (.object "LeasedViewStore$Letter")
  | 1 => .object "LeasedViewStore$Letter"
  | _ => .int
theorem nm_Post : ∀ a, a < 3 → ∀ b, b < 3 → a ≠ b → (T_Post a).2.1 ≠ (T_Post b).2.1 := by decide +kernel
theorem ok_Post : ∀ k, k < 3 → parseFieldDescriptor (T_Post k).2.2.1 = some (t_Post k) := by decide +kernel
abbrev R_Letter : String := "LeasedViewStore$Letter"
def T_Letter : u_T := fun k => match k with
  | 0 => ("LeasedViewStore$Letter", "view", "LLeasedViewStore$View;", true)
  | 1 => ("LeasedViewStore$Letter", "operation", "LLeasedViewStore$Operation;", true)
  | 2 => ("LeasedViewStore$Letter", "state", "LLeasedViewStore$State;", true)
  | 3 => ("LeasedViewStore$Letter", "kind", "I", false)
  | 4 => ("LeasedViewStore$Letter", "party", "I", false)
  | 5 => ("LeasedViewStore$Letter", "confirmed", "I", false)
  | 6 => ("LeasedViewStore$Letter", "clock", "I", false)
  | 7 => ("LeasedViewStore$Letter", "count", "I", false)
  | _ => ("LeasedViewStore$Letter", "result", "I", false)
def t_Letter : Nat → FieldType := fun k => match k with
  | 0 => .object "LeasedViewStore$View"
  | 1 => .object "LeasedViewStore$Operation"
  | 2 => .object "LeasedViewStore$State"
  | 3 => .int
  | 4 => .int
  | 5 => .int
  | 6 => .int
  | 7 => .int
  | _ => .int
theorem nm_Letter : ∀ a, a < 9 → ∀ b, b < 9 → a ≠ b → (T_Letter a).2.1 ≠ (T_Letter b).2.1 := by decide +kernel
theorem ok_Letter : ∀ k, k < 9 → parseFieldDescriptor (T_Letter k).2.2.1 = some (t_Letter k) := by decide +kernel
abbrev R_View : String := "LeasedViewStore$View"
def T_View : u_T := fun k => match k with
  | 0 => ("LeasedViewStore$View", "number", "I", false)
  | 1 => ("LeasedViewStore$View", "primary", "I", false)
  | _ => ("LeasedViewStore$View", "backup", "I", false)
def t_View : Nat → FieldType := fun k => match k with
  | 0 => .int
  | 1 => .int
  | _ => .int
theorem nm_View : ∀ a, a < 3 → ∀ b, b < 3 → a ≠ b → (T_View a).2.1 ≠ (T_View b).2.1 := by decide +kernel
theorem ok_View : ∀ k, k < 3 → parseFieldDescriptor (T_View k).2.2.1 = some (t_View k) := by decide +kernel
abbrev R_Operation : String := "LeasedViewStore$Operation"
def T_Operation : u_T := fun k => match k with
  | 0 => ("LeasedViewStore$Operation", "client", "I", false)
  | 1 => ("LeasedViewStore$Operation", "number", "I", false)
  | 2 => ("LeasedViewStore$Operation", "write", "Z", false)
  | 3 => ("LeasedViewStore$Operation", "cell", "I", false)
  | _ => ("LeasedViewStore$Operation", "value", "I", false)
def t_Operation : Nat → FieldType := fun k => match k with
  | 0 => .int
  | 1 => .int
  | 2 => .boolean
  | 3 => .int
  | _ => .int
theorem nm_Operation : ∀ a, a < 5 → ∀ b, b < 5 → a ≠ b → (T_Operation a).2.1 ≠ (T_Operation b).2.1 := by decide +kernel
theorem ok_Operation : ∀ k, k < 5 → parseFieldDescriptor (T_Operation k).2.2.1 = some (t_Operation k) := by decide +kernel
abbrev R_State : String := "LeasedViewStore$State"
def T_State : u_T := fun k => match k with
  | 0 => ("LeasedViewStore$State", "cells", "[I", true)
  | 1 => ("LeasedViewStore$State", "latest", "[I", true)
  | 2 => ("LeasedViewStore$State", "results", "[I", true)
  | _ => ("LeasedViewStore$State", "count", "I", false)
def t_State : Nat → FieldType := fun k => match k with
  | 0 => .array .int
  | 1 => .array .int
  | 2 => .array .int
  | _ => .int
theorem nm_State : ∀ a, a < 4 → ∀ b, b < 4 → a ≠ b → (T_State a).2.1 ≠ (T_State b).2.1 := by decide +kernel
theorem ok_State : ∀ k, k < 4 → parseFieldDescriptor (T_State k).2.2.1 = some (t_State k) := by decide +kernel
abbrev R_Model : String := "LeasedViewStoreModel"
def T_Model : u_T := fun k => match k with
  | 0 => ("LeasedViewStoreModel", "n", "I", false)
  | 1 => ("LeasedViewStoreModel", "time", "I", false)
  | 2 => ("LeasedViewStoreModel", "begun", "I", false)
  | 3 => ("LeasedViewStoreModel", "opClient", "[I", false)
  | 4 => ("LeasedViewStoreModel", "opNumber", "[I", false)
  | 5 => ("LeasedViewStoreModel", "opCell", "[I", false)
  | 6 => ("LeasedViewStoreModel", "opValue", "[I", false)
  | 7 => ("LeasedViewStoreModel", "opWrite", "[Z", false)
  | 8 => ("LeasedViewStoreModel", "number", "[I", false)
  | 9 => ("LeasedViewStoreModel", "primary", "[I", false)
  | 10 => ("LeasedViewStoreModel", "backup", "[I", false)
  | 11 => ("LeasedViewStoreModel", "confirmed", "Z", false)
  | 12 => ("LeasedViewStoreModel", "heard", "[I", false)
  | 13 => ("LeasedViewStoreModel", "skews", "[I", false)
  | 14 => ("LeasedViewStoreModel", "lease", "[I", false)
  | 15 => ("LeasedViewStoreModel", "ready", "[Z", false)
  | 16 => ("LeasedViewStoreModel", "filled", "[Z", false)
  | 17 => ("LeasedViewStoreModel", "dead", "[Z", false)
  | 18 => ("LeasedViewStoreModel", "pending", "[I", false)
  | 19 => ("LeasedViewStoreModel", "length", "[I", false)
  | 20 => ("LeasedViewStoreModel", "done", "[S", false)
  | 21 => ("LeasedViewStoreModel", "current", "[I", false)
  | 22 => ("LeasedViewStoreModel", "numbers", "[I", false)
  | 23 => ("LeasedViewStoreModel", "ends", "[I", false)
  | 24 => ("LeasedViewStoreModel", "results", "[I", false)
  | 25 => ("LeasedViewStoreModel", "waiting", "I", false)
  | 26 => ("LeasedViewStoreModel", "order", "[I", false)
  | 27 => ("LeasedViewStoreModel", "busy", "[Z", false)
  | 28 => ("LeasedViewStoreModel", "kind", "[I", false)
  | 29 => ("LeasedViewStoreModel", "to", "[I", false)
  | 30 => ("LeasedViewStoreModel", "num", "[I", false)
  | 31 => ("LeasedViewStoreModel", "pri", "[I", false)
  | 32 => ("LeasedViewStoreModel", "back", "[I", false)
  | 33 => ("LeasedViewStoreModel", "clock", "[I", false)
  | 34 => ("LeasedViewStoreModel", "what", "[I", false)
  | 35 => ("LeasedViewStoreModel", "result", "[I", false)
  | _ => ("LeasedViewStoreModel", "copy", "[S", false)
def t_Model : Nat → FieldType := fun k => match k with
  | 0 => .int
  | 1 => .int
  | 2 => .int
  | 3 => .array .int
  | 4 => .array .int
  | 5 => .array .int
  | 6 => .array .int
  | 7 => .array .boolean
  | 8 => .array .int
  | 9 => .array .int
  | 10 => .array .int
  | 11 => .boolean
  | 12 => .array .int
  | 13 => .array .int
  | 14 => .array .int
  | 15 => .array .boolean
  | 16 => .array .boolean
  | 17 => .array .boolean
  | 18 => .array .int
  | 19 => .array .int
  | 20 => .array .short
  | 21 => .array .int
  | 22 => .array .int
  | 23 => .array .int
  | 24 => .array .int
  | 25 => .int
  | 26 => .array .int
  | 27 => .array .boolean
  | 28 => .array .int
  | 29 => .array .int
  | 30 => .array .int
  | 31 => .array .int
  | 32 => .array .int
  | 33 => .array .int
  | 34 => .array .int
  | 35 => .array .int
  | _ => .array .short
theorem nm_Model : ∀ a, a < 37 → ∀ b, b < 37 → a ≠ b → (T_Model a).2.1 ≠ (T_Model b).2.1 := by decide +kernel
theorem ok_Model : ∀ k, k < 37 → parseFieldDescriptor (T_Model k).2.2.1 = some (t_Model k) := by decide +kernel
abbrev zCl : List vw_C := [(R_Store, T_Store, 5), (R_Server, T_Server, 10), (R_Client, T_Client, 4), (R_Service, T_Service, 3), (R_Post, T_Post, 3), (R_Letter, T_Letter, 9), (R_View, T_View, 3), (R_Operation, T_Operation, 5), (R_State, T_State, 4), (R_Model, T_Model, 37)]
/-! the words that every method takes: those of the tables that stand from state to state -/
def zWs : List Cond := lw_tbl.filter goodWord
theorem zWs_good : ∀ w ∈ zWs, (w.onTables && w.keeps) = true ∨ ∃ ty, w = .arrayClass ty := fun w h => good_of_word (List.mem_filter.mp h).2
theorem zWs_in {w : Cond} (h : w ∈ tables_1) (g : goodWord w = true) : w ∈ zWs := List.mem_filter.mpr ⟨List.mem_append_right _ h, g⟩
theorem zWs_pr {w : Cond} (h : w ∈ k2_sels lw_privs) (g : goodWord w = true) : w ∈ zWs := List.mem_filter.mpr ⟨List.mem_append_left _ h, g⟩
theorem w_0 : (Jvm.Cond.initialized "LeasedViewStoreLaw") ∈ zWs := zWs_in (List.mem_append_left _ (List.mem_of_getElem? (i := 0) rfl)) rfl
theorem w_1 : (Jvm.Cond.initialized "LeasedViewStore") ∈ zWs := zWs_in (List.mem_append_left _ (List.mem_of_getElem? (i := 1) rfl)) rfl
theorem w_2 : (Jvm.Cond.initialized "java/lang/Math") ∈ zWs := zWs_in (List.mem_append_left _ (List.mem_of_getElem? (i := 2) rfl)) rfl
theorem w_3 : (Jvm.Cond.initialized "LeasedViewStore$Server") ∈ zWs := zWs_in (List.mem_append_left _ (List.mem_of_getElem? (i := 3) rfl)) rfl
theorem w_4 : (Jvm.Cond.initialized "LeasedViewStore$View") ∈ zWs := zWs_in (List.mem_append_left _ (List.mem_of_getElem? (i := 4) rfl)) rfl
theorem w_5 : (Jvm.Cond.initialized "LeasedViewStore$State") ∈ zWs := zWs_in (List.mem_append_left _ (List.mem_of_getElem? (i := 5) rfl)) rfl
theorem w_6 : (Jvm.Cond.initialized "LeasedViewStore$Operation") ∈ zWs := zWs_in (List.mem_append_left _ (List.mem_of_getElem? (i := 6) rfl)) rfl
theorem w_7 : (Jvm.Cond.initialized "LeasedViewStore$Client") ∈ zWs := zWs_in (List.mem_append_left _ (List.mem_of_getElem? (i := 7) rfl)) rfl
theorem w_8 : (Jvm.Cond.initialized "LeasedViewStore$Service") ∈ zWs := zWs_in (List.mem_append_left _ (List.mem_of_getElem? (i := 8) rfl)) rfl
theorem w_9 : (Jvm.Cond.initialized "LeasedViewStore$Post") ∈ zWs := zWs_in (List.mem_append_left _ (List.mem_of_getElem? (i := 9) rfl)) rfl
theorem w_10 : (Jvm.Cond.initialized "LeasedViewStore$Letter") ∈ zWs := zWs_in (List.mem_append_left _ (List.mem_of_getElem? (i := 10) rfl)) rfl
theorem w_11 : (Jvm.Cond.initialized "LeasedViewStoreModel") ∈ zWs := zWs_in (List.mem_append_left _ (List.mem_of_getElem? (i := 11) rfl)) rfl
theorem w_12 : (Jvm.Cond.initialized "java/lang/System") ∈ zWs := zWs_in (List.mem_append_left _ (List.mem_of_getElem? (i := 12) rfl)) rfl
theorem w_13 : (Jvm.Cond.classLink "LeasedViewStoreLaw" (7 : Nat) "LeasedViewStore") ∈ zWs := zWs_in (List.mem_append_left _ (List.mem_of_getElem? (i := 13) rfl)) rfl
theorem w_14 : (Jvm.Cond.instantiable "LeasedViewStore" (5 : Nat)) ∈ zWs := zWs_in (List.mem_append_left _ (List.mem_of_getElem? (i := 14) rfl)) rfl
theorem w_15 : (Jvm.Cond.methodLink "LeasedViewStoreLaw" (15 : Nat) ({ cls := "LeasedViewStore", name := "<init>", desc := "(I)V" } : Jvm.MethodName)) ∈ zWs := zWs_in (List.mem_append_left _ (List.mem_of_getElem? (i := 15) rfl)) rfl
theorem w_16 : (Jvm.Cond.instanceMethod ({ cls := "LeasedViewStore", name := "<init>", desc := "(I)V" } : Jvm.MethodName)) ∈ zWs := zWs_in (List.mem_append_left _ (List.mem_of_getElem? (i := 16) rfl)) rfl
theorem w_17 : (Jvm.Cond.code ({ cls := "LeasedViewStore", name := "<init>", desc := "(I)V" } : Jvm.MethodName) prog_1_method_1_code (4 : Nat) (Option.none : Option Jvm.ClassFile.FieldType)) ∈ zWs := zWs_in (List.mem_append_left _ (List.mem_of_getElem? (i := 17) rfl)) rfl
theorem w_18 : (Jvm.Cond.methodLink "LeasedViewStore" (1 : Nat) ({ cls := "java/lang/Object", name := "<init>", desc := "()V" } : Jvm.MethodName)) ∈ zWs := zWs_in (List.mem_append_left _ (List.mem_of_getElem? (i := 18) rfl)) rfl
theorem w_19 : (Jvm.Cond.instanceMethod ({ cls := "java/lang/Object", name := "<init>", desc := "()V" } : Jvm.MethodName)) ∈ zWs := zWs_in (List.mem_append_left _ (List.mem_of_getElem? (i := 19) rfl)) rfl
theorem w_20 : (Jvm.Cond.code ({ cls := "java/lang/Object", name := "<init>", desc := "()V" } : Jvm.MethodName) object_method_1_code (1 : Nat) (Option.none : Option Jvm.ClassFile.FieldType)) ∈ zWs := zWs_in (List.mem_append_left _ (List.mem_of_getElem? (i := 20) rfl)) rfl
theorem w_21 : (Jvm.Cond.methodLink "LeasedViewStore" (9 : Nat) ({ cls := "java/lang/Math", name := "min", desc := "(II)I" } : Jvm.MethodName)) ∈ zWs := zWs_in (List.mem_append_left _ (List.mem_of_getElem? (i := 21) rfl)) rfl
theorem w_22 : (Jvm.Cond.static ({ cls := "java/lang/Math", name := "min", desc := "(II)I" } : Jvm.MethodName)) ∈ zWs := zWs_in (List.mem_append_left _ (List.mem_of_getElem? (i := 22) rfl)) rfl
theorem w_23 : (Jvm.Cond.code ({ cls := "java/lang/Math", name := "min", desc := "(II)I" } : Jvm.MethodName) prog_12_method_69_code (2 : Nat) (Option.some Jvm.ClassFile.FieldType.int)) ∈ zWs := zWs_in (List.mem_append_left _ (List.mem_of_getElem? (i := 23) rfl)) rfl
theorem w_24 : (Jvm.Cond.methodLink "LeasedViewStore" (15 : Nat) ({ cls := "java/lang/Math", name := "max", desc := "(II)I" } : Jvm.MethodName)) ∈ zWs := zWs_in (List.mem_append_left _ (List.mem_of_getElem? (i := 24) rfl)) rfl
theorem w_25 : (Jvm.Cond.static ({ cls := "java/lang/Math", name := "max", desc := "(II)I" } : Jvm.MethodName)) ∈ zWs := zWs_in (List.mem_append_left _ (List.mem_of_getElem? (i := 25) rfl)) rfl
theorem w_26 : (Jvm.Cond.code ({ cls := "java/lang/Math", name := "max", desc := "(II)I" } : Jvm.MethodName) prog_12_method_65_code (2 : Nat) (Option.some Jvm.ClassFile.FieldType.int)) ∈ zWs := zWs_in (List.mem_append_left _ (List.mem_of_getElem? (i := 26) rfl)) rfl
theorem w_27 : (Jvm.Cond.classLink "LeasedViewStore" (18 : Nat) "LeasedViewStore$Server") ∈ zWs := zWs_in (List.mem_append_left _ (List.mem_of_getElem? (i := 27) rfl)) rfl
theorem w_29 : (Jvm.Cond.instantiable "LeasedViewStore$Server" (10 : Nat)) ∈ zWs := zWs_in (List.mem_append_left _ (List.mem_of_getElem? (i := 29) rfl)) rfl
theorem w_30 : (Jvm.Cond.methodLink "LeasedViewStore" (24 : Nat) ({ cls := "LeasedViewStore$Server", name := "<init>", desc := "(I)V" } : Jvm.MethodName)) ∈ zWs := zWs_in (List.mem_append_left _ (List.mem_of_getElem? (i := 30) rfl)) rfl
theorem w_31 : (Jvm.Cond.instanceMethod ({ cls := "LeasedViewStore$Server", name := "<init>", desc := "(I)V" } : Jvm.MethodName)) ∈ zWs := zWs_in (List.mem_append_left _ (List.mem_of_getElem? (i := 31) rfl)) rfl
theorem w_32 : (Jvm.Cond.code ({ cls := "LeasedViewStore$Server", name := "<init>", desc := "(I)V" } : Jvm.MethodName) prog_6_method_1_code (2 : Nat) (Option.none : Option Jvm.ClassFile.FieldType)) ∈ zWs := zWs_in (List.mem_append_left _ (List.mem_of_getElem? (i := 32) rfl)) rfl
theorem w_33 : (Jvm.Cond.methodLink "LeasedViewStore$Server" (3 : Nat) ({ cls := "java/lang/Object", name := "<init>", desc := "()V" } : Jvm.MethodName)) ∈ zWs := zWs_in (List.mem_append_left _ (List.mem_of_getElem? (i := 33) rfl)) rfl
theorem w_34 : (Jvm.Cond.classLink "LeasedViewStore$Server" (9 : Nat) "LeasedViewStore$View") ∈ zWs := zWs_in (List.mem_append_left _ (List.mem_of_getElem? (i := 34) rfl)) rfl
theorem w_35 : (Jvm.Cond.instantiable "LeasedViewStore$View" (3 : Nat)) ∈ zWs := zWs_in (List.mem_append_left _ (List.mem_of_getElem? (i := 35) rfl)) rfl
theorem w_37 : (Jvm.Cond.instanceMethod ({ cls := "LeasedViewStore$View", name := "<init>", desc := "()V" } : Jvm.MethodName)) ∈ zWs := zWs_in (List.mem_append_left _ (List.mem_of_getElem? (i := 37) rfl)) rfl
theorem w_38 : (Jvm.Cond.code ({ cls := "LeasedViewStore$View", name := "<init>", desc := "()V" } : Jvm.MethodName) prog_9_method_1_code (1 : Nat) (Option.none : Option Jvm.ClassFile.FieldType)) ∈ zWs := zWs_in (List.mem_append_left _ (List.mem_of_getElem? (i := 38) rfl)) rfl
theorem w_39 : (Jvm.Cond.methodLink "LeasedViewStore$View" (3 : Nat) ({ cls := "java/lang/Object", name := "<init>", desc := "()V" } : Jvm.MethodName)) ∈ zWs := zWs_in (List.mem_append_left _ (List.mem_of_getElem? (i := 39) rfl)) rfl
theorem w_40 : (Jvm.Cond.fieldLink "LeasedViewStore$View" (9 : Nat) "LeasedViewStore$View" "number" "I") ∈ zWs := zWs_in (List.mem_append_left _ (List.mem_of_getElem? (i := 40) rfl)) rfl
theorem w_41 : (Jvm.Cond.fieldLink "LeasedViewStore$Service" (32 : Nat) "LeasedViewStore$View" "number" "I") ∈ zWs := zWs_in (List.mem_append_left _ (List.mem_of_getElem? (i := 41) rfl)) rfl
theorem w_42 : (Jvm.Cond.fieldLink "LeasedViewStore$Server" (58 : Nat) "LeasedViewStore$View" "number" "I") ∈ zWs := zWs_in (List.mem_append_left _ (List.mem_of_getElem? (i := 42) rfl)) rfl
theorem w_43 : (Jvm.Cond.fieldLink "LeasedViewStore" (92 : Nat) "LeasedViewStore$View" "number" "I") ∈ zWs := zWs_in (List.mem_append_left _ (List.mem_of_getElem? (i := 43) rfl)) rfl
theorem w_44 : (Jvm.Cond.fieldLink "LeasedViewStore$View" (15 : Nat) "LeasedViewStore$View" "primary" "I") ∈ zWs := zWs_in (List.mem_append_left _ (List.mem_of_getElem? (i := 44) rfl)) rfl
theorem w_45 : (Jvm.Cond.fieldLink "LeasedViewStore$Server" (55 : Nat) "LeasedViewStore$View" "primary" "I") ∈ zWs := zWs_in (List.mem_append_left _ (List.mem_of_getElem? (i := 45) rfl)) rfl
theorem w_46 : (Jvm.Cond.fieldLink "LeasedViewStore$Service" (39 : Nat) "LeasedViewStore$View" "primary" "I") ∈ zWs := zWs_in (List.mem_append_left _ (List.mem_of_getElem? (i := 46) rfl)) rfl
theorem w_47 : (Jvm.Cond.fieldLink "LeasedViewStore" (241 : Nat) "LeasedViewStore$View" "primary" "I") ∈ zWs := zWs_in (List.mem_append_left _ (List.mem_of_getElem? (i := 47) rfl)) rfl
theorem w_48 : (Jvm.Cond.fieldLink "LeasedViewStore$View" (18 : Nat) "LeasedViewStore$View" "backup" "I") ∈ zWs := zWs_in (List.mem_append_left _ (List.mem_of_getElem? (i := 48) rfl)) rfl
theorem w_49 : (Jvm.Cond.fieldLink "LeasedViewStore$Service" (52 : Nat) "LeasedViewStore$View" "backup" "I") ∈ zWs := zWs_in (List.mem_append_left _ (List.mem_of_getElem? (i := 49) rfl)) rfl
theorem w_50 : (Jvm.Cond.fieldLink "LeasedViewStore$Server" (61 : Nat) "LeasedViewStore$View" "backup" "I") ∈ zWs := zWs_in (List.mem_append_left _ (List.mem_of_getElem? (i := 50) rfl)) rfl
theorem w_51 : (Jvm.Cond.fieldLink "LeasedViewStore" (287 : Nat) "LeasedViewStore$View" "backup" "I") ∈ zWs := zWs_in (List.mem_append_left _ (List.mem_of_getElem? (i := 51) rfl)) rfl
theorem w_52 : (Jvm.Cond.lays "LeasedViewStore$View" "LeasedViewStore$View" "number" "I") ∈ zWs := zWs_in (List.mem_append_left _ (List.mem_of_getElem? (i := 52) rfl)) rfl
theorem w_54 : (Jvm.Cond.lays "LeasedViewStore$View" "LeasedViewStore$View" "primary" "I") ∈ zWs := zWs_in (List.mem_append_left _ (List.mem_of_getElem? (i := 54) rfl)) rfl
theorem w_56 : (Jvm.Cond.lays "LeasedViewStore$View" "LeasedViewStore$View" "backup" "I") ∈ zWs := zWs_in (List.mem_append_left _ (List.mem_of_getElem? (i := 56) rfl)) rfl
theorem w_59 : (Jvm.Cond.classLink "LeasedViewStore$Server" (18 : Nat) "LeasedViewStore$State") ∈ zWs := zWs_in (List.mem_append_left _ (List.mem_of_getElem? (i := 59) rfl)) rfl
theorem w_60 : (Jvm.Cond.instantiable "LeasedViewStore$State" (4 : Nat)) ∈ zWs := zWs_in (List.mem_append_left _ (List.mem_of_getElem? (i := 60) rfl)) rfl
theorem w_62 : (Jvm.Cond.instanceMethod ({ cls := "LeasedViewStore$State", name := "<init>", desc := "()V" } : Jvm.MethodName)) ∈ zWs := zWs_in (List.mem_append_left _ (List.mem_of_getElem? (i := 62) rfl)) rfl
theorem w_63 : (Jvm.Cond.code ({ cls := "LeasedViewStore$State", name := "<init>", desc := "()V" } : Jvm.MethodName) prog_8_method_1_code (1 : Nat) (Option.none : Option Jvm.ClassFile.FieldType)) ∈ zWs := zWs_in (List.mem_append_left _ (List.mem_of_getElem? (i := 63) rfl)) rfl
theorem w_64 : (Jvm.Cond.methodLink "LeasedViewStore$State" (3 : Nat) ({ cls := "java/lang/Object", name := "<init>", desc := "()V" } : Jvm.MethodName)) ∈ zWs := zWs_in (List.mem_append_left _ (List.mem_of_getElem? (i := 64) rfl)) rfl
theorem w_65 : (Jvm.Cond.fieldLink "LeasedViewStore$State" (9 : Nat) "LeasedViewStore$State" "cells" "[I") ∈ zWs := zWs_in (List.mem_append_left _ (List.mem_of_getElem? (i := 65) rfl)) rfl
theorem w_66 : (Jvm.Cond.fieldLink "LeasedViewStore" (179 : Nat) "LeasedViewStore$State" "cells" "[I") ∈ zWs := zWs_in (List.mem_append_left _ (List.mem_of_getElem? (i := 66) rfl)) rfl
theorem w_67 : (Jvm.Cond.fieldLink "LeasedViewStore$State" (15 : Nat) "LeasedViewStore$State" "latest" "[I") ∈ zWs := zWs_in (List.mem_append_left _ (List.mem_of_getElem? (i := 67) rfl)) rfl
theorem w_68 : (Jvm.Cond.fieldLink "LeasedViewStore" (278 : Nat) "LeasedViewStore$State" "latest" "[I") ∈ zWs := zWs_in (List.mem_append_left _ (List.mem_of_getElem? (i := 68) rfl)) rfl
theorem w_69 : (Jvm.Cond.fieldLink "LeasedViewStore$State" (18 : Nat) "LeasedViewStore$State" "results" "[I") ∈ zWs := zWs_in (List.mem_append_left _ (List.mem_of_getElem? (i := 69) rfl)) rfl
theorem w_70 : (Jvm.Cond.fieldLink "LeasedViewStore" (284 : Nat) "LeasedViewStore$State" "results" "[I") ∈ zWs := zWs_in (List.mem_append_left _ (List.mem_of_getElem? (i := 70) rfl)) rfl
theorem w_71 : (Jvm.Cond.fieldLink "LeasedViewStore$State" (21 : Nat) "LeasedViewStore$State" "count" "I") ∈ zWs := zWs_in (List.mem_append_left _ (List.mem_of_getElem? (i := 71) rfl)) rfl
theorem w_72 : (Jvm.Cond.fieldLink "LeasedViewStore" (185 : Nat) "LeasedViewStore$State" "count" "I") ∈ zWs := zWs_in (List.mem_append_left _ (List.mem_of_getElem? (i := 72) rfl)) rfl
theorem w_73 : (Jvm.Cond.laysFinal "LeasedViewStore$State" "LeasedViewStore$State" "cells" "[I") ∈ zWs := zWs_in (List.mem_append_left _ (List.mem_of_getElem? (i := 73) rfl)) rfl
theorem w_75 : (Jvm.Cond.laysFinal "LeasedViewStore$State" "LeasedViewStore$State" "latest" "[I") ∈ zWs := zWs_in (List.mem_append_left _ (List.mem_of_getElem? (i := 75) rfl)) rfl
theorem w_77 : (Jvm.Cond.laysFinal "LeasedViewStore$State" "LeasedViewStore$State" "results" "[I") ∈ zWs := zWs_in (List.mem_append_left _ (List.mem_of_getElem? (i := 77) rfl)) rfl
theorem w_79 : (Jvm.Cond.lays "LeasedViewStore$State" "LeasedViewStore$State" "count" "I") ∈ zWs := zWs_in (List.mem_append_left _ (List.mem_of_getElem? (i := 79) rfl)) rfl
theorem w_82 : (Jvm.Cond.arrayClass Jvm.ClassFile.FieldType.int) ∈ zWs := zWs_in (List.mem_append_left _ (List.mem_of_getElem? (i := 82) rfl)) rfl
theorem w_83 : (Jvm.Cond.classLink "LeasedViewStore$Server" (25 : Nat) "LeasedViewStore$Operation") ∈ zWs := zWs_in (List.mem_append_left _ (List.mem_of_getElem? (i := 83) rfl)) rfl
theorem w_84 : (Jvm.Cond.instantiable "LeasedViewStore$Operation" (5 : Nat)) ∈ zWs := zWs_in (List.mem_append_left _ (List.mem_of_getElem? (i := 84) rfl)) rfl
theorem w_86 : (Jvm.Cond.instanceMethod ({ cls := "LeasedViewStore$Operation", name := "<init>", desc := "()V" } : Jvm.MethodName)) ∈ zWs := zWs_in (List.mem_append_left _ (List.mem_of_getElem? (i := 86) rfl)) rfl
theorem w_87 : (Jvm.Cond.code ({ cls := "LeasedViewStore$Operation", name := "<init>", desc := "()V" } : Jvm.MethodName) prog_4_method_1_code (1 : Nat) (Option.none : Option Jvm.ClassFile.FieldType)) ∈ zWs := zWs_in (List.mem_append_left _ (List.mem_of_getElem? (i := 87) rfl)) rfl
theorem w_88 : (Jvm.Cond.methodLink "LeasedViewStore$Operation" (1 : Nat) ({ cls := "java/lang/Object", name := "<init>", desc := "()V" } : Jvm.MethodName)) ∈ zWs := zWs_in (List.mem_append_left _ (List.mem_of_getElem? (i := 88) rfl)) rfl
theorem w_89 : (Jvm.Cond.fieldLink "LeasedViewStore$Operation" (7 : Nat) "LeasedViewStore$Operation" "client" "I") ∈ zWs := zWs_in (List.mem_append_left _ (List.mem_of_getElem? (i := 89) rfl)) rfl
theorem w_90 : (Jvm.Cond.fieldLink "LeasedViewStore$Client" (27 : Nat) "LeasedViewStore$Operation" "client" "I") ∈ zWs := zWs_in (List.mem_append_left _ (List.mem_of_getElem? (i := 90) rfl)) rfl
theorem w_91 : (Jvm.Cond.fieldLink "LeasedViewStore$State" (31 : Nat) "LeasedViewStore$Operation" "client" "I") ∈ zWs := zWs_in (List.mem_append_left _ (List.mem_of_getElem? (i := 91) rfl)) rfl
theorem w_92 : (Jvm.Cond.fieldLink "LeasedViewStore" (281 : Nat) "LeasedViewStore$Operation" "client" "I") ∈ zWs := zWs_in (List.mem_append_left _ (List.mem_of_getElem? (i := 92) rfl)) rfl
theorem w_93 : (Jvm.Cond.fieldLink "LeasedViewStore$Operation" (13 : Nat) "LeasedViewStore$Operation" "number" "I") ∈ zWs := zWs_in (List.mem_append_left _ (List.mem_of_getElem? (i := 93) rfl)) rfl
theorem w_94 : (Jvm.Cond.fieldLink "LeasedViewStore$Client" (30 : Nat) "LeasedViewStore$Operation" "number" "I") ∈ zWs := zWs_in (List.mem_append_left _ (List.mem_of_getElem? (i := 94) rfl)) rfl
theorem w_95 : (Jvm.Cond.fieldLink "LeasedViewStore$State" (42 : Nat) "LeasedViewStore$Operation" "number" "I") ∈ zWs := zWs_in (List.mem_append_left _ (List.mem_of_getElem? (i := 95) rfl)) rfl
theorem w_96 : (Jvm.Cond.fieldLink "LeasedViewStore" (137 : Nat) "LeasedViewStore$Operation" "number" "I") ∈ zWs := zWs_in (List.mem_append_left _ (List.mem_of_getElem? (i := 96) rfl)) rfl
theorem w_97 : (Jvm.Cond.fieldLink "LeasedViewStore$Operation" (16 : Nat) "LeasedViewStore$Operation" "write" "Z") ∈ zWs := zWs_in (List.mem_append_left _ (List.mem_of_getElem? (i := 97) rfl)) rfl
theorem w_98 : (Jvm.Cond.fieldLink "LeasedViewStore$Client" (33 : Nat) "LeasedViewStore$Operation" "write" "Z") ∈ zWs := zWs_in (List.mem_append_left _ (List.mem_of_getElem? (i := 98) rfl)) rfl
theorem w_99 : (Jvm.Cond.fieldLink "LeasedViewStore" (261 : Nat) "LeasedViewStore$Operation" "write" "Z") ∈ zWs := zWs_in (List.mem_append_left _ (List.mem_of_getElem? (i := 99) rfl)) rfl
theorem w_100 : (Jvm.Cond.fieldLink "LeasedViewStore$Operation" (20 : Nat) "LeasedViewStore$Operation" "cell" "I") ∈ zWs := zWs_in (List.mem_append_left _ (List.mem_of_getElem? (i := 100) rfl)) rfl
theorem w_101 : (Jvm.Cond.fieldLink "LeasedViewStore$Client" (36 : Nat) "LeasedViewStore$Operation" "cell" "I") ∈ zWs := zWs_in (List.mem_append_left _ (List.mem_of_getElem? (i := 101) rfl)) rfl
theorem w_102 : (Jvm.Cond.fieldLink "LeasedViewStore$State" (36 : Nat) "LeasedViewStore$Operation" "cell" "I") ∈ zWs := zWs_in (List.mem_append_left _ (List.mem_of_getElem? (i := 102) rfl)) rfl
theorem w_103 : (Jvm.Cond.fieldLink "LeasedViewStore" (271 : Nat) "LeasedViewStore$Operation" "cell" "I") ∈ zWs := zWs_in (List.mem_append_left _ (List.mem_of_getElem? (i := 103) rfl)) rfl
theorem w_104 : (Jvm.Cond.fieldLink "LeasedViewStore$Operation" (23 : Nat) "LeasedViewStore$Operation" "value" "I") ∈ zWs := zWs_in (List.mem_append_left _ (List.mem_of_getElem? (i := 104) rfl)) rfl
theorem w_105 : (Jvm.Cond.fieldLink "LeasedViewStore$Client" (39 : Nat) "LeasedViewStore$Operation" "value" "I") ∈ zWs := zWs_in (List.mem_append_left _ (List.mem_of_getElem? (i := 105) rfl)) rfl
theorem w_106 : (Jvm.Cond.fieldLink "LeasedViewStore$State" (39 : Nat) "LeasedViewStore$Operation" "value" "I") ∈ zWs := zWs_in (List.mem_append_left _ (List.mem_of_getElem? (i := 106) rfl)) rfl
theorem w_107 : (Jvm.Cond.lays "LeasedViewStore$Operation" "LeasedViewStore$Operation" "client" "I") ∈ zWs := zWs_in (List.mem_append_left _ (List.mem_of_getElem? (i := 107) rfl)) rfl
theorem w_109 : (Jvm.Cond.lays "LeasedViewStore$Operation" "LeasedViewStore$Operation" "number" "I") ∈ zWs := zWs_in (List.mem_append_left _ (List.mem_of_getElem? (i := 109) rfl)) rfl
theorem w_111 : (Jvm.Cond.lays "LeasedViewStore$Operation" "LeasedViewStore$Operation" "write" "Z") ∈ zWs := zWs_in (List.mem_append_left _ (List.mem_of_getElem? (i := 111) rfl)) rfl
theorem w_113 : (Jvm.Cond.lays "LeasedViewStore$Operation" "LeasedViewStore$Operation" "cell" "I") ∈ zWs := zWs_in (List.mem_append_left _ (List.mem_of_getElem? (i := 113) rfl)) rfl
theorem w_115 : (Jvm.Cond.lays "LeasedViewStore$Operation" "LeasedViewStore$Operation" "value" "I") ∈ zWs := zWs_in (List.mem_append_left _ (List.mem_of_getElem? (i := 115) rfl)) rfl
theorem w_118 : (Jvm.Cond.fieldLink "LeasedViewStore$Server" (52 : Nat) "LeasedViewStore$Server" "self" "I") ∈ zWs := zWs_in (List.mem_append_left _ (List.mem_of_getElem? (i := 118) rfl)) rfl
theorem w_119 : (Jvm.Cond.fieldLink "LeasedViewStore$Server" (12 : Nat) "LeasedViewStore$Server" "view" "LLeasedViewStore$View;") ∈ zWs := zWs_in (List.mem_append_left _ (List.mem_of_getElem? (i := 119) rfl)) rfl
theorem w_120 : (Jvm.Cond.fieldLink "LeasedViewStore" (101 : Nat) "LeasedViewStore$Server" "view" "LLeasedViewStore$View;") ∈ zWs := zWs_in (List.mem_append_left _ (List.mem_of_getElem? (i := 120) rfl)) rfl
theorem w_121 : (Jvm.Cond.fieldLink "LeasedViewStore$Server" (21 : Nat) "LeasedViewStore$Server" "state" "LLeasedViewStore$State;") ∈ zWs := zWs_in (List.mem_append_left _ (List.mem_of_getElem? (i := 121) rfl)) rfl
theorem w_122 : (Jvm.Cond.fieldLink "LeasedViewStore" (175 : Nat) "LeasedViewStore$Server" "state" "LLeasedViewStore$State;") ∈ zWs := zWs_in (List.mem_append_left _ (List.mem_of_getElem? (i := 122) rfl)) rfl
theorem w_123 : (Jvm.Cond.fieldLink "LeasedViewStore$Server" (28 : Nat) "LeasedViewStore$Server" "pendingWrite" "LLeasedViewStore$Operation;") ∈ zWs := zWs_in (List.mem_append_left _ (List.mem_of_getElem? (i := 123) rfl)) rfl
theorem w_124 : (Jvm.Cond.fieldLink "LeasedViewStore" (254 : Nat) "LeasedViewStore$Server" "pendingWrite" "LLeasedViewStore$Operation;") ∈ zWs := zWs_in (List.mem_append_left _ (List.mem_of_getElem? (i := 124) rfl)) rfl
theorem w_125 : (Jvm.Cond.fieldLink "LeasedViewStore$Server" (32 : Nat) "LeasedViewStore$Server" "skew" "I") ∈ zWs := zWs_in (List.mem_append_left _ (List.mem_of_getElem? (i := 125) rfl)) rfl
theorem w_126 : (Jvm.Cond.fieldLink "LeasedViewStore" (56 : Nat) "LeasedViewStore$Server" "skew" "I") ∈ zWs := zWs_in (List.mem_append_left _ (List.mem_of_getElem? (i := 126) rfl)) rfl
theorem w_127 : (Jvm.Cond.fieldLink "LeasedViewStore$Server" (36 : Nat) "LeasedViewStore$Server" "lease" "I") ∈ zWs := zWs_in (List.mem_append_left _ (List.mem_of_getElem? (i := 127) rfl)) rfl
theorem w_128 : (Jvm.Cond.fieldLink "LeasedViewStore" (231 : Nat) "LeasedViewStore$Server" "lease" "I") ∈ zWs := zWs_in (List.mem_append_left _ (List.mem_of_getElem? (i := 128) rfl)) rfl
theorem w_129 : (Jvm.Cond.fieldLink "LeasedViewStore$Server" (39 : Nat) "LeasedViewStore$Server" "crashed" "Z") ∈ zWs := zWs_in (List.mem_append_left _ (List.mem_of_getElem? (i := 129) rfl)) rfl
theorem w_130 : (Jvm.Cond.fieldLink "LeasedViewStore" (59 : Nat) "LeasedViewStore$Server" "crashed" "Z") ∈ zWs := zWs_in (List.mem_append_left _ (List.mem_of_getElem? (i := 130) rfl)) rfl
theorem w_131 : (Jvm.Cond.fieldLink "LeasedViewStore$Server" (43 : Nat) "LeasedViewStore$Server" "ready" "Z") ∈ zWs := zWs_in (List.mem_append_left _ (List.mem_of_getElem? (i := 131) rfl)) rfl
theorem w_132 : (Jvm.Cond.fieldLink "LeasedViewStore" (107 : Nat) "LeasedViewStore$Server" "ready" "Z") ∈ zWs := zWs_in (List.mem_append_left _ (List.mem_of_getElem? (i := 132) rfl)) rfl
theorem w_133 : (Jvm.Cond.fieldLink "LeasedViewStore$Server" (46 : Nat) "LeasedViewStore$Server" "pending" "Z") ∈ zWs := zWs_in (List.mem_append_left _ (List.mem_of_getElem? (i := 133) rfl)) rfl
theorem w_134 : (Jvm.Cond.fieldLink "LeasedViewStore" (114 : Nat) "LeasedViewStore$Server" "pending" "Z") ∈ zWs := zWs_in (List.mem_append_left _ (List.mem_of_getElem? (i := 134) rfl)) rfl
theorem w_135 : (Jvm.Cond.fieldLink "LeasedViewStore$Server" (49 : Nat) "LeasedViewStore$Server" "filled" "Z") ∈ zWs := zWs_in (List.mem_append_left _ (List.mem_of_getElem? (i := 135) rfl)) rfl
theorem w_136 : (Jvm.Cond.fieldLink "LeasedViewStore" (234 : Nat) "LeasedViewStore$Server" "filled" "Z") ∈ zWs := zWs_in (List.mem_append_left _ (List.mem_of_getElem? (i := 136) rfl)) rfl
theorem w_137 : (Jvm.Cond.laysFinal "LeasedViewStore$Server" "LeasedViewStore$Server" "self" "I") ∈ zWs := zWs_in (List.mem_append_left _ (List.mem_of_getElem? (i := 137) rfl)) rfl
theorem w_139 : (Jvm.Cond.laysFinal "LeasedViewStore$Server" "LeasedViewStore$Server" "view" "LLeasedViewStore$View;") ∈ zWs := zWs_in (List.mem_append_left _ (List.mem_of_getElem? (i := 139) rfl)) rfl
theorem w_141 : (Jvm.Cond.laysFinal "LeasedViewStore$Server" "LeasedViewStore$Server" "state" "LLeasedViewStore$State;") ∈ zWs := zWs_in (List.mem_append_left _ (List.mem_of_getElem? (i := 141) rfl)) rfl
theorem w_143 : (Jvm.Cond.laysFinal "LeasedViewStore$Server" "LeasedViewStore$Server" "pendingWrite" "LLeasedViewStore$Operation;") ∈ zWs := zWs_in (List.mem_append_left _ (List.mem_of_getElem? (i := 143) rfl)) rfl
theorem w_145 : (Jvm.Cond.lays "LeasedViewStore$Server" "LeasedViewStore$Server" "skew" "I") ∈ zWs := zWs_in (List.mem_append_left _ (List.mem_of_getElem? (i := 145) rfl)) rfl
theorem w_147 : (Jvm.Cond.lays "LeasedViewStore$Server" "LeasedViewStore$Server" "lease" "I") ∈ zWs := zWs_in (List.mem_append_left _ (List.mem_of_getElem? (i := 147) rfl)) rfl
theorem w_149 : (Jvm.Cond.lays "LeasedViewStore$Server" "LeasedViewStore$Server" "crashed" "Z") ∈ zWs := zWs_in (List.mem_append_left _ (List.mem_of_getElem? (i := 149) rfl)) rfl
theorem w_151 : (Jvm.Cond.lays "LeasedViewStore$Server" "LeasedViewStore$Server" "ready" "Z") ∈ zWs := zWs_in (List.mem_append_left _ (List.mem_of_getElem? (i := 151) rfl)) rfl
theorem w_153 : (Jvm.Cond.lays "LeasedViewStore$Server" "LeasedViewStore$Server" "pending" "Z") ∈ zWs := zWs_in (List.mem_append_left _ (List.mem_of_getElem? (i := 153) rfl)) rfl
theorem w_155 : (Jvm.Cond.lays "LeasedViewStore$Server" "LeasedViewStore$Server" "filled" "Z") ∈ zWs := zWs_in (List.mem_append_left _ (List.mem_of_getElem? (i := 155) rfl)) rfl
theorem w_158 : (Jvm.Cond.classLink "LeasedViewStore" (27 : Nat) "LeasedViewStore$Client") ∈ zWs := zWs_in (List.mem_append_left _ (List.mem_of_getElem? (i := 158) rfl)) rfl
theorem w_160 : (Jvm.Cond.instantiable "LeasedViewStore$Client" (4 : Nat)) ∈ zWs := zWs_in (List.mem_append_left _ (List.mem_of_getElem? (i := 160) rfl)) rfl
theorem w_161 : (Jvm.Cond.methodLink "LeasedViewStore" (33 : Nat) ({ cls := "LeasedViewStore$Client", name := "<init>", desc := "(I)V" } : Jvm.MethodName)) ∈ zWs := zWs_in (List.mem_append_left _ (List.mem_of_getElem? (i := 161) rfl)) rfl
theorem w_162 : (Jvm.Cond.instanceMethod ({ cls := "LeasedViewStore$Client", name := "<init>", desc := "(I)V" } : Jvm.MethodName)) ∈ zWs := zWs_in (List.mem_append_left _ (List.mem_of_getElem? (i := 162) rfl)) rfl
theorem w_163 : (Jvm.Cond.code ({ cls := "LeasedViewStore$Client", name := "<init>", desc := "(I)V" } : Jvm.MethodName) prog_2_method_1_code (2 : Nat) (Option.none : Option Jvm.ClassFile.FieldType)) ∈ zWs := zWs_in (List.mem_append_left _ (List.mem_of_getElem? (i := 163) rfl)) rfl
theorem w_164 : (Jvm.Cond.methodLink "LeasedViewStore$Client" (1 : Nat) ({ cls := "java/lang/Object", name := "<init>", desc := "()V" } : Jvm.MethodName)) ∈ zWs := zWs_in (List.mem_append_left _ (List.mem_of_getElem? (i := 164) rfl)) rfl
theorem w_165 : (Jvm.Cond.classLink "LeasedViewStore$Client" (7 : Nat) "LeasedViewStore$Operation") ∈ zWs := zWs_in (List.mem_append_left _ (List.mem_of_getElem? (i := 165) rfl)) rfl
theorem w_167 : (Jvm.Cond.fieldLink "LeasedViewStore$Client" (10 : Nat) "LeasedViewStore$Client" "operation" "LLeasedViewStore$Operation;") ∈ zWs := zWs_in (List.mem_append_left _ (List.mem_of_getElem? (i := 167) rfl)) rfl
theorem w_168 : (Jvm.Cond.fieldLink "LeasedViewStore" (133 : Nat) "LeasedViewStore$Client" "operation" "LLeasedViewStore$Operation;") ∈ zWs := zWs_in (List.mem_append_left _ (List.mem_of_getElem? (i := 168) rfl)) rfl
theorem w_169 : (Jvm.Cond.fieldLink "LeasedViewStore$Client" (16 : Nat) "LeasedViewStore$Client" "underWay" "Z") ∈ zWs := zWs_in (List.mem_append_left _ (List.mem_of_getElem? (i := 169) rfl)) rfl
theorem w_170 : (Jvm.Cond.fieldLink "LeasedViewStore" (126 : Nat) "LeasedViewStore$Client" "underWay" "Z") ∈ zWs := zWs_in (List.mem_append_left _ (List.mem_of_getElem? (i := 170) rfl)) rfl
theorem w_171 : (Jvm.Cond.fieldLink "LeasedViewStore$Client" (20 : Nat) "LeasedViewStore$Client" "finished" "I") ∈ zWs := zWs_in (List.mem_append_left _ (List.mem_of_getElem? (i := 171) rfl)) rfl
theorem w_172 : (Jvm.Cond.fieldLink "LeasedViewStore" (188 : Nat) "LeasedViewStore$Client" "finished" "I") ∈ zWs := zWs_in (List.mem_append_left _ (List.mem_of_getElem? (i := 172) rfl)) rfl
theorem w_173 : (Jvm.Cond.fieldLink "LeasedViewStore$Client" (24 : Nat) "LeasedViewStore$Client" "result" "I") ∈ zWs := zWs_in (List.mem_append_left _ (List.mem_of_getElem? (i := 173) rfl)) rfl
theorem w_174 : (Jvm.Cond.fieldLink "LeasedViewStore" (191 : Nat) "LeasedViewStore$Client" "result" "I") ∈ zWs := zWs_in (List.mem_append_left _ (List.mem_of_getElem? (i := 174) rfl)) rfl
theorem w_175 : (Jvm.Cond.laysFinal "LeasedViewStore$Client" "LeasedViewStore$Client" "operation" "LLeasedViewStore$Operation;") ∈ zWs := zWs_in (List.mem_append_left _ (List.mem_of_getElem? (i := 175) rfl)) rfl
theorem w_177 : (Jvm.Cond.lays "LeasedViewStore$Client" "LeasedViewStore$Client" "underWay" "Z") ∈ zWs := zWs_in (List.mem_append_left _ (List.mem_of_getElem? (i := 177) rfl)) rfl
theorem w_179 : (Jvm.Cond.lays "LeasedViewStore$Client" "LeasedViewStore$Client" "finished" "I") ∈ zWs := zWs_in (List.mem_append_left _ (List.mem_of_getElem? (i := 179) rfl)) rfl
theorem w_181 : (Jvm.Cond.lays "LeasedViewStore$Client" "LeasedViewStore$Client" "result" "I") ∈ zWs := zWs_in (List.mem_append_left _ (List.mem_of_getElem? (i := 181) rfl)) rfl
theorem w_184 : (Jvm.Cond.classLink "LeasedViewStore" (34 : Nat) "LeasedViewStore$Service") ∈ zWs := zWs_in (List.mem_append_left _ (List.mem_of_getElem? (i := 184) rfl)) rfl
theorem w_185 : (Jvm.Cond.instantiable "LeasedViewStore$Service" (3 : Nat)) ∈ zWs := zWs_in (List.mem_append_left _ (List.mem_of_getElem? (i := 185) rfl)) rfl
theorem w_186 : (Jvm.Cond.methodLink "LeasedViewStore" (36 : Nat) ({ cls := "LeasedViewStore$Service", name := "<init>", desc := "(I)V" } : Jvm.MethodName)) ∈ zWs := zWs_in (List.mem_append_left _ (List.mem_of_getElem? (i := 186) rfl)) rfl
theorem w_187 : (Jvm.Cond.instanceMethod ({ cls := "LeasedViewStore$Service", name := "<init>", desc := "(I)V" } : Jvm.MethodName)) ∈ zWs := zWs_in (List.mem_append_left _ (List.mem_of_getElem? (i := 187) rfl)) rfl
theorem w_188 : (Jvm.Cond.code ({ cls := "LeasedViewStore$Service", name := "<init>", desc := "(I)V" } : Jvm.MethodName) prog_7_method_1_code (3 : Nat) (Option.none : Option Jvm.ClassFile.FieldType)) ∈ zWs := zWs_in (List.mem_append_left _ (List.mem_of_getElem? (i := 188) rfl)) rfl
theorem w_189 : (Jvm.Cond.methodLink "LeasedViewStore$Service" (3 : Nat) ({ cls := "java/lang/Object", name := "<init>", desc := "()V" } : Jvm.MethodName)) ∈ zWs := zWs_in (List.mem_append_left _ (List.mem_of_getElem? (i := 189) rfl)) rfl
theorem w_190 : (Jvm.Cond.classLink "LeasedViewStore$Service" (9 : Nat) "LeasedViewStore$View") ∈ zWs := zWs_in (List.mem_append_left _ (List.mem_of_getElem? (i := 190) rfl)) rfl
theorem w_192 : (Jvm.Cond.fieldLink "LeasedViewStore$Service" (12 : Nat) "LeasedViewStore$Service" "present" "LLeasedViewStore$View;") ∈ zWs := zWs_in (List.mem_append_left _ (List.mem_of_getElem? (i := 192) rfl)) rfl
theorem w_193 : (Jvm.Cond.fieldLink "LeasedViewStore" (88 : Nat) "LeasedViewStore$Service" "present" "LLeasedViewStore$View;") ∈ zWs := zWs_in (List.mem_append_left _ (List.mem_of_getElem? (i := 193) rfl)) rfl
theorem w_194 : (Jvm.Cond.fieldLink "LeasedViewStore$Service" (22 : Nat) "LeasedViewStore$Service" "latestPing" "[I") ∈ zWs := zWs_in (List.mem_append_left _ (List.mem_of_getElem? (i := 194) rfl)) rfl
theorem w_195 : (Jvm.Cond.fieldLink "LeasedViewStore$Service" (18 : Nat) "LeasedViewStore$Service" "confirmed" "Z") ∈ zWs := zWs_in (List.mem_append_left _ (List.mem_of_getElem? (i := 195) rfl)) rfl
theorem w_196 : (Jvm.Cond.fieldLink "LeasedViewStore" (83 : Nat) "LeasedViewStore$Service" "confirmed" "Z") ∈ zWs := zWs_in (List.mem_append_left _ (List.mem_of_getElem? (i := 196) rfl)) rfl
theorem w_197 : (Jvm.Cond.laysFinal "LeasedViewStore$Service" "LeasedViewStore$Service" "present" "LLeasedViewStore$View;") ∈ zWs := zWs_in (List.mem_append_left _ (List.mem_of_getElem? (i := 197) rfl)) rfl
theorem w_199 : (Jvm.Cond.laysFinal "LeasedViewStore$Service" "LeasedViewStore$Service" "latestPing" "[I") ∈ zWs := zWs_in (List.mem_append_left _ (List.mem_of_getElem? (i := 199) rfl)) rfl
theorem w_201 : (Jvm.Cond.lays "LeasedViewStore$Service" "LeasedViewStore$Service" "confirmed" "Z") ∈ zWs := zWs_in (List.mem_append_left _ (List.mem_of_getElem? (i := 201) rfl)) rfl
theorem w_204 : (Jvm.Cond.classLink "LeasedViewStore" (41 : Nat) "LeasedViewStore$Post") ∈ zWs := zWs_in (List.mem_append_left _ (List.mem_of_getElem? (i := 204) rfl)) rfl
theorem w_205 : (Jvm.Cond.instantiable "LeasedViewStore$Post" (3 : Nat)) ∈ zWs := zWs_in (List.mem_append_left _ (List.mem_of_getElem? (i := 205) rfl)) rfl
theorem w_206 : (Jvm.Cond.methodLink "LeasedViewStore" (43 : Nat) ({ cls := "LeasedViewStore$Post", name := "<init>", desc := "()V" } : Jvm.MethodName)) ∈ zWs := zWs_in (List.mem_append_left _ (List.mem_of_getElem? (i := 206) rfl)) rfl
theorem w_207 : (Jvm.Cond.instanceMethod ({ cls := "LeasedViewStore$Post", name := "<init>", desc := "()V" } : Jvm.MethodName)) ∈ zWs := zWs_in (List.mem_append_left _ (List.mem_of_getElem? (i := 207) rfl)) rfl
theorem w_208 : (Jvm.Cond.code ({ cls := "LeasedViewStore$Post", name := "<init>", desc := "()V" } : Jvm.MethodName) prog_5_method_1_code (2 : Nat) (Option.none : Option Jvm.ClassFile.FieldType)) ∈ zWs := zWs_in (List.mem_append_left _ (List.mem_of_getElem? (i := 208) rfl)) rfl
theorem w_209 : (Jvm.Cond.methodLink "LeasedViewStore$Post" (3 : Nat) ({ cls := "java/lang/Object", name := "<init>", desc := "()V" } : Jvm.MethodName)) ∈ zWs := zWs_in (List.mem_append_left _ (List.mem_of_getElem? (i := 209) rfl)) rfl
theorem w_210 : (Jvm.Cond.classLink "LeasedViewStore$Post" (9 : Nat) "LeasedViewStore$Letter") ∈ zWs := zWs_in (List.mem_append_left _ (List.mem_of_getElem? (i := 210) rfl)) rfl
theorem w_212 : (Jvm.Cond.instantiable "LeasedViewStore$Letter" (9 : Nat)) ∈ zWs := zWs_in (List.mem_append_left _ (List.mem_of_getElem? (i := 212) rfl)) rfl
theorem w_214 : (Jvm.Cond.instanceMethod ({ cls := "LeasedViewStore$Letter", name := "<init>", desc := "()V" } : Jvm.MethodName)) ∈ zWs := zWs_in (List.mem_append_left _ (List.mem_of_getElem? (i := 214) rfl)) rfl
theorem w_215 : (Jvm.Cond.code ({ cls := "LeasedViewStore$Letter", name := "<init>", desc := "()V" } : Jvm.MethodName) prog_3_method_1_code (1 : Nat) (Option.none : Option Jvm.ClassFile.FieldType)) ∈ zWs := zWs_in (List.mem_append_left _ (List.mem_of_getElem? (i := 215) rfl)) rfl
theorem w_216 : (Jvm.Cond.methodLink "LeasedViewStore$Letter" (1 : Nat) ({ cls := "java/lang/Object", name := "<init>", desc := "()V" } : Jvm.MethodName)) ∈ zWs := zWs_in (List.mem_append_left _ (List.mem_of_getElem? (i := 216) rfl)) rfl
theorem w_217 : (Jvm.Cond.classLink "LeasedViewStore$Letter" (7 : Nat) "LeasedViewStore$View") ∈ zWs := zWs_in (List.mem_append_left _ (List.mem_of_getElem? (i := 217) rfl)) rfl
theorem w_219 : (Jvm.Cond.classLink "LeasedViewStore$Letter" (16 : Nat) "LeasedViewStore$Operation") ∈ zWs := zWs_in (List.mem_append_left _ (List.mem_of_getElem? (i := 219) rfl)) rfl
theorem w_221 : (Jvm.Cond.classLink "LeasedViewStore$Letter" (23 : Nat) "LeasedViewStore$State") ∈ zWs := zWs_in (List.mem_append_left _ (List.mem_of_getElem? (i := 221) rfl)) rfl
theorem w_223 : (Jvm.Cond.fieldLink "LeasedViewStore$Letter" (10 : Nat) "LeasedViewStore$Letter" "view" "LLeasedViewStore$View;") ∈ zWs := zWs_in (List.mem_append_left _ (List.mem_of_getElem? (i := 223) rfl)) rfl
theorem w_224 : (Jvm.Cond.fieldLink "LeasedViewStore" (223 : Nat) "LeasedViewStore$Letter" "view" "LLeasedViewStore$View;") ∈ zWs := zWs_in (List.mem_append_left _ (List.mem_of_getElem? (i := 224) rfl)) rfl
theorem w_225 : (Jvm.Cond.fieldLink "LeasedViewStore$Letter" (19 : Nat) "LeasedViewStore$Letter" "operation" "LLeasedViewStore$Operation;") ∈ zWs := zWs_in (List.mem_append_left _ (List.mem_of_getElem? (i := 225) rfl)) rfl
theorem w_226 : (Jvm.Cond.fieldLink "LeasedViewStore$Client" (42 : Nat) "LeasedViewStore$Letter" "operation" "LLeasedViewStore$Operation;") ∈ zWs := zWs_in (List.mem_append_left _ (List.mem_of_getElem? (i := 226) rfl)) rfl
theorem w_227 : (Jvm.Cond.fieldLink "LeasedViewStore" (140 : Nat) "LeasedViewStore$Letter" "operation" "LLeasedViewStore$Operation;") ∈ zWs := zWs_in (List.mem_append_left _ (List.mem_of_getElem? (i := 227) rfl)) rfl
theorem w_228 : (Jvm.Cond.fieldLink "LeasedViewStore$Letter" (26 : Nat) "LeasedViewStore$Letter" "state" "LLeasedViewStore$State;") ∈ zWs := zWs_in (List.mem_append_left _ (List.mem_of_getElem? (i := 228) rfl)) rfl
theorem w_229 : (Jvm.Cond.fieldLink "LeasedViewStore" (237 : Nat) "LeasedViewStore$Letter" "state" "LLeasedViewStore$State;") ∈ zWs := zWs_in (List.mem_append_left _ (List.mem_of_getElem? (i := 229) rfl)) rfl
theorem w_230 : (Jvm.Cond.fieldLink "LeasedViewStore$Letter" (30 : Nat) "LeasedViewStore$Letter" "kind" "I") ∈ zWs := zWs_in (List.mem_append_left _ (List.mem_of_getElem? (i := 230) rfl)) rfl
theorem w_231 : (Jvm.Cond.fieldLink "LeasedViewStore$Post" (26 : Nat) "LeasedViewStore$Letter" "kind" "I") ∈ zWs := zWs_in (List.mem_append_left _ (List.mem_of_getElem? (i := 231) rfl)) rfl
theorem w_232 : (Jvm.Cond.fieldLink "LeasedViewStore" (156 : Nat) "LeasedViewStore$Letter" "kind" "I") ∈ zWs := zWs_in (List.mem_append_left _ (List.mem_of_getElem? (i := 232) rfl)) rfl
theorem w_233 : (Jvm.Cond.fieldLink "LeasedViewStore$Letter" (34 : Nat) "LeasedViewStore$Letter" "party" "I") ∈ zWs := zWs_in (List.mem_append_left _ (List.mem_of_getElem? (i := 233) rfl)) rfl
theorem w_234 : (Jvm.Cond.fieldLink "LeasedViewStore$Service" (26 : Nat) "LeasedViewStore$Letter" "party" "I") ∈ zWs := zWs_in (List.mem_append_left _ (List.mem_of_getElem? (i := 234) rfl)) rfl
theorem w_235 : (Jvm.Cond.fieldLink "LeasedViewStore$Post" (29 : Nat) "LeasedViewStore$Letter" "party" "I") ∈ zWs := zWs_in (List.mem_append_left _ (List.mem_of_getElem? (i := 235) rfl)) rfl
theorem w_236 : (Jvm.Cond.fieldLink "LeasedViewStore" (166 : Nat) "LeasedViewStore$Letter" "party" "I") ∈ zWs := zWs_in (List.mem_append_left _ (List.mem_of_getElem? (i := 236) rfl)) rfl
theorem w_237 : (Jvm.Cond.fieldLink "LeasedViewStore$Letter" (37 : Nat) "LeasedViewStore$Letter" "confirmed" "I") ∈ zWs := zWs_in (List.mem_append_left _ (List.mem_of_getElem? (i := 237) rfl)) rfl
theorem w_238 : (Jvm.Cond.fieldLink "LeasedViewStore$Service" (42 : Nat) "LeasedViewStore$Letter" "confirmed" "I") ∈ zWs := zWs_in (List.mem_append_left _ (List.mem_of_getElem? (i := 238) rfl)) rfl
theorem w_239 : (Jvm.Cond.fieldLink "LeasedViewStore" (71 : Nat) "LeasedViewStore$Letter" "confirmed" "I") ∈ zWs := zWs_in (List.mem_append_left _ (List.mem_of_getElem? (i := 239) rfl)) rfl
theorem w_240 : (Jvm.Cond.fieldLink "LeasedViewStore$Letter" (40 : Nat) "LeasedViewStore$Letter" "clock" "I") ∈ zWs := zWs_in (List.mem_append_right _ (List.mem_append_left _ (List.mem_of_getElem? (i := 0) rfl))) rfl
theorem w_241 : (Jvm.Cond.fieldLink "LeasedViewStore" (80 : Nat) "LeasedViewStore$Letter" "clock" "I") ∈ zWs := zWs_in (List.mem_append_right _ (List.mem_append_left _ (List.mem_of_getElem? (i := 1) rfl))) rfl
theorem w_242 : (Jvm.Cond.fieldLink "LeasedViewStore$Letter" (43 : Nat) "LeasedViewStore$Letter" "count" "I") ∈ zWs := zWs_in (List.mem_append_right _ (List.mem_append_left _ (List.mem_of_getElem? (i := 2) rfl))) rfl
theorem w_243 : (Jvm.Cond.fieldLink "LeasedViewStore" (250 : Nat) "LeasedViewStore$Letter" "count" "I") ∈ zWs := zWs_in (List.mem_append_right _ (List.mem_append_left _ (List.mem_of_getElem? (i := 3) rfl))) rfl
theorem w_244 : (Jvm.Cond.fieldLink "LeasedViewStore$Letter" (46 : Nat) "LeasedViewStore$Letter" "result" "I") ∈ zWs := zWs_in (List.mem_append_right _ (List.mem_append_left _ (List.mem_of_getElem? (i := 4) rfl))) rfl
theorem w_245 : (Jvm.Cond.fieldLink "LeasedViewStore$Client" (45 : Nat) "LeasedViewStore$Letter" "result" "I") ∈ zWs := zWs_in (List.mem_append_right _ (List.mem_append_left _ (List.mem_of_getElem? (i := 5) rfl))) rfl
theorem w_246 : (Jvm.Cond.fieldLink "LeasedViewStore" (290 : Nat) "LeasedViewStore$Letter" "result" "I") ∈ zWs := zWs_in (List.mem_append_right _ (List.mem_append_left _ (List.mem_of_getElem? (i := 6) rfl))) rfl
theorem w_247 : (Jvm.Cond.laysFinal "LeasedViewStore$Letter" "LeasedViewStore$Letter" "view" "LLeasedViewStore$View;") ∈ zWs := zWs_in (List.mem_append_right _ (List.mem_append_left _ (List.mem_of_getElem? (i := 7) rfl))) rfl
theorem w_249 : (Jvm.Cond.laysFinal "LeasedViewStore$Letter" "LeasedViewStore$Letter" "operation" "LLeasedViewStore$Operation;") ∈ zWs := zWs_in (List.mem_append_right _ (List.mem_append_left _ (List.mem_of_getElem? (i := 9) rfl))) rfl
theorem w_251 : (Jvm.Cond.laysFinal "LeasedViewStore$Letter" "LeasedViewStore$Letter" "state" "LLeasedViewStore$State;") ∈ zWs := zWs_in (List.mem_append_right _ (List.mem_append_left _ (List.mem_of_getElem? (i := 11) rfl))) rfl
theorem w_253 : (Jvm.Cond.lays "LeasedViewStore$Letter" "LeasedViewStore$Letter" "kind" "I") ∈ zWs := zWs_in (List.mem_append_right _ (List.mem_append_left _ (List.mem_of_getElem? (i := 13) rfl))) rfl
theorem w_255 : (Jvm.Cond.lays "LeasedViewStore$Letter" "LeasedViewStore$Letter" "party" "I") ∈ zWs := zWs_in (List.mem_append_right _ (List.mem_append_left _ (List.mem_of_getElem? (i := 15) rfl))) rfl
theorem w_257 : (Jvm.Cond.lays "LeasedViewStore$Letter" "LeasedViewStore$Letter" "confirmed" "I") ∈ zWs := zWs_in (List.mem_append_right _ (List.mem_append_left _ (List.mem_of_getElem? (i := 17) rfl))) rfl
theorem w_259 : (Jvm.Cond.lays "LeasedViewStore$Letter" "LeasedViewStore$Letter" "clock" "I") ∈ zWs := zWs_in (List.mem_append_right _ (List.mem_append_left _ (List.mem_of_getElem? (i := 19) rfl))) rfl
theorem w_261 : (Jvm.Cond.lays "LeasedViewStore$Letter" "LeasedViewStore$Letter" "count" "I") ∈ zWs := zWs_in (List.mem_append_right _ (List.mem_append_left _ (List.mem_of_getElem? (i := 21) rfl))) rfl
theorem w_263 : (Jvm.Cond.lays "LeasedViewStore$Letter" "LeasedViewStore$Letter" "result" "I") ∈ zWs := zWs_in (List.mem_append_right _ (List.mem_append_left _ (List.mem_of_getElem? (i := 23) rfl))) rfl
theorem w_266 : (Jvm.Cond.fieldLink "LeasedViewStore$Post" (11 : Nat) "LeasedViewStore$Post" "row" "[LLeasedViewStore$Letter;") ∈ zWs := zWs_in (List.mem_append_right _ (List.mem_append_left _ (List.mem_of_getElem? (i := 26) rfl))) rfl
theorem w_267 : (Jvm.Cond.fieldLink "LeasedViewStore" (162 : Nat) "LeasedViewStore$Post" "row" "[LLeasedViewStore$Letter;") ∈ zWs := zWs_in (List.mem_append_right _ (List.mem_append_left _ (List.mem_of_getElem? (i := 27) rfl))) rfl
theorem w_268 : (Jvm.Cond.fieldLink "LeasedViewStore$Post" (18 : Nat) "LeasedViewStore$Post" "lost" "LLeasedViewStore$Letter;") ∈ zWs := zWs_in (List.mem_append_right _ (List.mem_append_left _ (List.mem_of_getElem? (i := 28) rfl))) rfl
theorem w_269 : (Jvm.Cond.fieldLink "LeasedViewStore$Post" (22 : Nat) "LeasedViewStore$Post" "waiting" "I") ∈ zWs := zWs_in (List.mem_append_right _ (List.mem_append_left _ (List.mem_of_getElem? (i := 29) rfl))) rfl
theorem w_270 : (Jvm.Cond.fieldLink "LeasedViewStore" (159 : Nat) "LeasedViewStore$Post" "waiting" "I") ∈ zWs := zWs_in (List.mem_append_right _ (List.mem_append_left _ (List.mem_of_getElem? (i := 30) rfl))) rfl
theorem w_271 : (Jvm.Cond.laysFinal "LeasedViewStore$Post" "LeasedViewStore$Post" "row" "[LLeasedViewStore$Letter;") ∈ zWs := zWs_in (List.mem_append_right _ (List.mem_append_left _ (List.mem_of_getElem? (i := 31) rfl))) rfl
theorem w_273 : (Jvm.Cond.laysFinal "LeasedViewStore$Post" "LeasedViewStore$Post" "lost" "LLeasedViewStore$Letter;") ∈ zWs := zWs_in (List.mem_append_right _ (List.mem_append_left _ (List.mem_of_getElem? (i := 33) rfl))) rfl
theorem w_275 : (Jvm.Cond.lays "LeasedViewStore$Post" "LeasedViewStore$Post" "waiting" "I") ∈ zWs := zWs_in (List.mem_append_right _ (List.mem_append_left _ (List.mem_of_getElem? (i := 35) rfl))) rfl
theorem w_278 : (Jvm.Cond.fieldLink "LeasedViewStore" (20 : Nat) "LeasedViewStore" "servers" "[LLeasedViewStore$Server;") ∈ zWs := zWs_in (List.mem_append_right _ (List.mem_append_left _ (List.mem_of_getElem? (i := 38) rfl))) rfl
theorem w_279 : (Jvm.Cond.fieldLink "LeasedViewStore" (29 : Nat) "LeasedViewStore" "clients" "[LLeasedViewStore$Client;") ∈ zWs := zWs_in (List.mem_append_right _ (List.mem_append_left _ (List.mem_of_getElem? (i := 39) rfl))) rfl
theorem w_280 : (Jvm.Cond.fieldLink "LeasedViewStore" (37 : Nat) "LeasedViewStore" "service" "LLeasedViewStore$Service;") ∈ zWs := zWs_in (List.mem_append_right _ (List.mem_append_left _ (List.mem_of_getElem? (i := 40) rfl))) rfl
theorem w_281 : (Jvm.Cond.fieldLink "LeasedViewStore" (44 : Nat) "LeasedViewStore" "post" "LLeasedViewStore$Post;") ∈ zWs := zWs_in (List.mem_append_right _ (List.mem_append_left _ (List.mem_of_getElem? (i := 41) rfl))) rfl
theorem w_282 : (Jvm.Cond.fieldLink "LeasedViewStore" (48 : Nat) "LeasedViewStore" "time" "I") ∈ zWs := zWs_in (List.mem_append_right _ (List.mem_append_left _ (List.mem_of_getElem? (i := 42) rfl))) rfl
theorem w_283 : (Jvm.Cond.laysFinal "LeasedViewStore" "LeasedViewStore" "servers" "[LLeasedViewStore$Server;") ∈ zWs := zWs_in (List.mem_append_right _ (List.mem_append_left _ (List.mem_of_getElem? (i := 43) rfl))) rfl
theorem w_285 : (Jvm.Cond.laysFinal "LeasedViewStore" "LeasedViewStore" "clients" "[LLeasedViewStore$Client;") ∈ zWs := zWs_in (List.mem_append_right _ (List.mem_append_left _ (List.mem_of_getElem? (i := 45) rfl))) rfl
theorem w_287 : (Jvm.Cond.laysFinal "LeasedViewStore" "LeasedViewStore" "service" "LLeasedViewStore$Service;") ∈ zWs := zWs_in (List.mem_append_right _ (List.mem_append_left _ (List.mem_of_getElem? (i := 47) rfl))) rfl
theorem w_289 : (Jvm.Cond.laysFinal "LeasedViewStore" "LeasedViewStore" "post" "LLeasedViewStore$Post;") ∈ zWs := zWs_in (List.mem_append_right _ (List.mem_append_left _ (List.mem_of_getElem? (i := 49) rfl))) rfl
theorem w_291 : (Jvm.Cond.lays "LeasedViewStore" "LeasedViewStore" "time" "I") ∈ zWs := zWs_in (List.mem_append_right _ (List.mem_append_left _ (List.mem_of_getElem? (i := 51) rfl))) rfl
theorem w_294 : (Jvm.Cond.methodLink "LeasedViewStoreLaw" (21 : Nat) ({ cls := "LeasedViewStore", name := "advance", desc := "(I)I" } : Jvm.MethodName)) ∈ zWs := zWs_in (List.mem_append_right _ (List.mem_append_left _ (List.mem_of_getElem? (i := 54) rfl))) rfl
theorem w_295 : (Jvm.Cond.instanceMethod ({ cls := "LeasedViewStore", name := "advance", desc := "(I)I" } : Jvm.MethodName)) ∈ zWs := zWs_in (List.mem_append_right _ (List.mem_append_left _ (List.mem_of_getElem? (i := 55) rfl))) rfl
theorem w_296 : (Jvm.Cond.selects "LeasedViewStore" ({ cls := "LeasedViewStore", name := "advance", desc := "(I)I" } : Jvm.MethodName) ({ cls := "LeasedViewStore", name := "advance", desc := "(I)I" } : Jvm.MethodName)) ∈ zWs := zWs_in (List.mem_append_right _ (List.mem_append_left _ (List.mem_of_getElem? (i := 56) rfl))) rfl
theorem w_297 : (Jvm.Cond.code ({ cls := "LeasedViewStore", name := "advance", desc := "(I)I" } : Jvm.MethodName) prog_1_method_2_code (2 : Nat) (Option.some Jvm.ClassFile.FieldType.int)) ∈ zWs := zWs_in (List.mem_append_right _ (List.mem_append_left _ (List.mem_of_getElem? (i := 57) rfl))) rfl
theorem w_298 : (Jvm.Cond.methodLink "LeasedViewStoreLaw" (26 : Nat) ({ cls := "LeasedViewStore", name := "skew", desc := "(II)Z" } : Jvm.MethodName)) ∈ zWs := zWs_in (List.mem_append_right _ (List.mem_append_left _ (List.mem_of_getElem? (i := 58) rfl))) rfl
theorem w_299 : (Jvm.Cond.instanceMethod ({ cls := "LeasedViewStore", name := "skew", desc := "(II)Z" } : Jvm.MethodName)) ∈ zWs := zWs_in (List.mem_append_right _ (List.mem_append_left _ (List.mem_of_getElem? (i := 59) rfl))) rfl
theorem w_300 : (Jvm.Cond.selects "LeasedViewStore" ({ cls := "LeasedViewStore", name := "skew", desc := "(II)Z" } : Jvm.MethodName) ({ cls := "LeasedViewStore", name := "skew", desc := "(II)Z" } : Jvm.MethodName)) ∈ zWs := zWs_in (List.mem_append_right _ (List.mem_append_left _ (List.mem_of_getElem? (i := 60) rfl))) rfl
theorem w_301 : (Jvm.Cond.code ({ cls := "LeasedViewStore", name := "skew", desc := "(II)Z" } : Jvm.MethodName) prog_1_method_3_code (3 : Nat) (Option.some Jvm.ClassFile.FieldType.boolean)) ∈ zWs := zWs_in (List.mem_append_right _ (List.mem_append_left _ (List.mem_of_getElem? (i := 61) rfl))) rfl
theorem w_302 : (Jvm.Cond.methodLink "LeasedViewStore" (52 : Nat) ({ cls := "LeasedViewStore", name := "isServer", desc := "(I)Z" } : Jvm.MethodName)) ∈ zWs := zWs_in (List.mem_append_right _ (List.mem_append_left _ (List.mem_of_getElem? (i := 62) rfl))) rfl
theorem w_304 : (Jvm.Cond.instanceMethod ({ cls := "LeasedViewStore", name := "isServer", desc := "(I)Z" } : Jvm.MethodName)) ∈ zWs := zWs_in (List.mem_append_right _ (List.mem_append_left _ (List.mem_of_getElem? (i := 64) rfl))) rfl
theorem w_305 : (Jvm.Cond.code ({ cls := "LeasedViewStore", name := "isServer", desc := "(I)Z" } : Jvm.MethodName) prog_1_method_20_code (2 : Nat) (Option.some Jvm.ClassFile.FieldType.boolean)) ∈ zWs := zWs_in (List.mem_append_right _ (List.mem_append_left _ (List.mem_of_getElem? (i := 65) rfl))) rfl
theorem w_306 : (Jvm.Cond.methodLink "LeasedViewStoreLaw" (31 : Nat) ({ cls := "LeasedViewStore", name := "ping", desc := "(I)Z" } : Jvm.MethodName)) ∈ zWs := zWs_in (List.mem_append_right _ (List.mem_append_left _ (List.mem_of_getElem? (i := 66) rfl))) rfl
theorem w_307 : (Jvm.Cond.instanceMethod ({ cls := "LeasedViewStore", name := "ping", desc := "(I)Z" } : Jvm.MethodName)) ∈ zWs := zWs_in (List.mem_append_right _ (List.mem_append_left _ (List.mem_of_getElem? (i := 67) rfl))) rfl
theorem w_308 : (Jvm.Cond.selects "LeasedViewStore" ({ cls := "LeasedViewStore", name := "ping", desc := "(I)Z" } : Jvm.MethodName) ({ cls := "LeasedViewStore", name := "ping", desc := "(I)Z" } : Jvm.MethodName)) ∈ zWs := zWs_in (List.mem_append_right _ (List.mem_append_left _ (List.mem_of_getElem? (i := 68) rfl))) rfl
theorem w_309 : (Jvm.Cond.code ({ cls := "LeasedViewStore", name := "ping", desc := "(I)Z" } : Jvm.MethodName) prog_1_method_4_code (4 : Nat) (Option.some Jvm.ClassFile.FieldType.boolean)) ∈ zWs := zWs_in (List.mem_append_right _ (List.mem_append_left _ (List.mem_of_getElem? (i := 69) rfl))) rfl
theorem w_310 : (Jvm.Cond.methodLink "LeasedViewStore" (63 : Nat) ({ cls := "LeasedViewStore$Post", name := "next", desc := "(II)LLeasedViewStore$Letter;" } : Jvm.MethodName)) ∈ zWs := zWs_in (List.mem_append_right _ (List.mem_append_left _ (List.mem_of_getElem? (i := 70) rfl))) rfl
theorem w_311 : (Jvm.Cond.instanceMethod ({ cls := "LeasedViewStore$Post", name := "next", desc := "(II)LLeasedViewStore$Letter;" } : Jvm.MethodName)) ∈ zWs := zWs_in (List.mem_append_right _ (List.mem_append_left _ (List.mem_of_getElem? (i := 71) rfl))) rfl
theorem w_312 : (Jvm.Cond.selects "LeasedViewStore$Post" ({ cls := "LeasedViewStore$Post", name := "next", desc := "(II)LLeasedViewStore$Letter;" } : Jvm.MethodName) ({ cls := "LeasedViewStore$Post", name := "next", desc := "(II)LLeasedViewStore$Letter;" } : Jvm.MethodName)) ∈ zWs := zWs_in (List.mem_append_right _ (List.mem_append_left _ (List.mem_of_getElem? (i := 72) rfl))) rfl
theorem w_313 : (Jvm.Cond.code ({ cls := "LeasedViewStore$Post", name := "next", desc := "(II)LLeasedViewStore$Letter;" } : Jvm.MethodName) prog_5_method_3_code (4 : Nat) (Option.some (Jvm.ClassFile.FieldType.object "LeasedViewStore$Letter"))) ∈ zWs := zWs_in (List.mem_append_right _ (List.mem_append_left _ (List.mem_of_getElem? (i := 73) rfl))) rfl
theorem w_314 : (Jvm.Cond.methodLink "LeasedViewStore" (67 : Nat) ({ cls := "LeasedViewStore$Server", name := "confirmedNumber", desc := "()I" } : Jvm.MethodName)) ∈ zWs := zWs_in (List.mem_append_right _ (List.mem_append_left _ (List.mem_of_getElem? (i := 74) rfl))) rfl
theorem w_315 : (Jvm.Cond.instanceMethod ({ cls := "LeasedViewStore$Server", name := "confirmedNumber", desc := "()I" } : Jvm.MethodName)) ∈ zWs := zWs_in (List.mem_append_right _ (List.mem_append_left _ (List.mem_of_getElem? (i := 75) rfl))) rfl
theorem w_316 : (Jvm.Cond.selects "LeasedViewStore$Server" ({ cls := "LeasedViewStore$Server", name := "confirmedNumber", desc := "()I" } : Jvm.MethodName) ({ cls := "LeasedViewStore$Server", name := "confirmedNumber", desc := "()I" } : Jvm.MethodName)) ∈ zWs := zWs_in (List.mem_append_right _ (List.mem_append_left _ (List.mem_of_getElem? (i := 76) rfl))) rfl
theorem w_317 : (Jvm.Cond.code ({ cls := "LeasedViewStore$Server", name := "confirmedNumber", desc := "()I" } : Jvm.MethodName) prog_6_method_5_code (1 : Nat) (Option.some Jvm.ClassFile.FieldType.int)) ∈ zWs := zWs_in (List.mem_append_right _ (List.mem_append_left _ (List.mem_of_getElem? (i := 77) rfl))) rfl
theorem w_318 : (Jvm.Cond.methodLink "LeasedViewStore$Server" (64 : Nat) ({ cls := "LeasedViewStore$Server", name := "isPrimary", desc := "()Z" } : Jvm.MethodName)) ∈ zWs := zWs_in (List.mem_append_right _ (List.mem_append_left _ (List.mem_of_getElem? (i := 78) rfl))) rfl
theorem w_319 : (Jvm.Cond.instanceMethod ({ cls := "LeasedViewStore$Server", name := "isPrimary", desc := "()Z" } : Jvm.MethodName)) ∈ zWs := zWs_in (List.mem_append_right _ (List.mem_append_left _ (List.mem_of_getElem? (i := 79) rfl))) rfl
theorem w_320 : (Jvm.Cond.selects "LeasedViewStore$Server" ({ cls := "LeasedViewStore$Server", name := "isPrimary", desc := "()Z" } : Jvm.MethodName) ({ cls := "LeasedViewStore$Server", name := "isPrimary", desc := "()Z" } : Jvm.MethodName)) ∈ zWs := zWs_in (List.mem_append_right _ (List.mem_append_left _ (List.mem_of_getElem? (i := 80) rfl))) rfl
theorem w_321 : (Jvm.Cond.code ({ cls := "LeasedViewStore$Server", name := "isPrimary", desc := "()Z" } : Jvm.MethodName) prog_6_method_2_code (1 : Nat) (Option.some Jvm.ClassFile.FieldType.boolean)) ∈ zWs := zWs_in (List.mem_append_right _ (List.mem_append_left _ (List.mem_of_getElem? (i := 81) rfl))) rfl
theorem w_322 : (Jvm.Cond.methodLink "LeasedViewStore" (76 : Nat) ({ cls := "LeasedViewStore", name := "clockOf", desc := "(LLeasedViewStore$Server;)I" } : Jvm.MethodName)) ∈ zWs := zWs_in (List.mem_append_right _ (List.mem_append_left _ (List.mem_of_getElem? (i := 82) rfl))) rfl
theorem w_324 : (Jvm.Cond.instanceMethod ({ cls := "LeasedViewStore", name := "clockOf", desc := "(LLeasedViewStore$Server;)I" } : Jvm.MethodName)) ∈ zWs := zWs_in (List.mem_append_right _ (List.mem_append_left _ (List.mem_of_getElem? (i := 84) rfl))) rfl
theorem w_325 : (Jvm.Cond.code ({ cls := "LeasedViewStore", name := "clockOf", desc := "(LLeasedViewStore$Server;)I" } : Jvm.MethodName) prog_1_method_23_code (2 : Nat) (Option.some Jvm.ClassFile.FieldType.int)) ∈ zWs := zWs_in (List.mem_append_right _ (List.mem_append_left _ (List.mem_of_getElem? (i := 85) rfl))) rfl
theorem w_326 : (Jvm.Cond.methodLink "LeasedViewStoreLaw" (36 : Nat) ({ cls := "LeasedViewStore", name := "check", desc := "()I" } : Jvm.MethodName)) ∈ zWs := zWs_in (List.mem_append_right _ (List.mem_append_left _ (List.mem_of_getElem? (i := 86) rfl))) rfl
theorem w_327 : (Jvm.Cond.instanceMethod ({ cls := "LeasedViewStore", name := "check", desc := "()I" } : Jvm.MethodName)) ∈ zWs := zWs_in (List.mem_append_right _ (List.mem_append_left _ (List.mem_of_getElem? (i := 87) rfl))) rfl
theorem w_328 : (Jvm.Cond.selects "LeasedViewStore" ({ cls := "LeasedViewStore", name := "check", desc := "()I" } : Jvm.MethodName) ({ cls := "LeasedViewStore", name := "check", desc := "()I" } : Jvm.MethodName)) ∈ zWs := zWs_in (List.mem_append_right _ (List.mem_append_left _ (List.mem_of_getElem? (i := 88) rfl))) rfl
theorem w_329 : (Jvm.Cond.code ({ cls := "LeasedViewStore", name := "check", desc := "()I" } : Jvm.MethodName) prog_1_method_5_code (1 : Nat) (Option.some Jvm.ClassFile.FieldType.int)) ∈ zWs := zWs_in (List.mem_append_right _ (List.mem_append_left _ (List.mem_of_getElem? (i := 89) rfl))) rfl
theorem w_330 : (Jvm.Cond.methodLink "LeasedViewStore" (85 : Nat) ({ cls := "LeasedViewStore$Service", name := "reviseView", desc := "(I)V" } : Jvm.MethodName)) ∈ zWs := zWs_in (List.mem_append_right _ (List.mem_append_left _ (List.mem_of_getElem? (i := 90) rfl))) rfl
theorem w_331 : (Jvm.Cond.instanceMethod ({ cls := "LeasedViewStore$Service", name := "reviseView", desc := "(I)V" } : Jvm.MethodName)) ∈ zWs := zWs_in (List.mem_append_right _ (List.mem_append_left _ (List.mem_of_getElem? (i := 91) rfl))) rfl
theorem w_332 : (Jvm.Cond.selects "LeasedViewStore$Service" ({ cls := "LeasedViewStore$Service", name := "reviseView", desc := "(I)V" } : Jvm.MethodName) ({ cls := "LeasedViewStore$Service", name := "reviseView", desc := "(I)V" } : Jvm.MethodName)) ∈ zWs := zWs_in (List.mem_append_right _ (List.mem_append_left _ (List.mem_of_getElem? (i := 92) rfl))) rfl
theorem w_333 : (Jvm.Cond.code ({ cls := "LeasedViewStore$Service", name := "reviseView", desc := "(I)V" } : Jvm.MethodName) prog_7_method_3_code (5 : Nat) (Option.none : Option Jvm.ClassFile.FieldType)) ∈ zWs := zWs_in (List.mem_append_right _ (List.mem_append_left _ (List.mem_of_getElem? (i := 93) rfl))) rfl
theorem w_334 : (Jvm.Cond.methodLink "LeasedViewStore$Service" (44 : Nat) ({ cls := "LeasedViewStore$Service", name := "isFresh", desc := "(II)Z" } : Jvm.MethodName)) ∈ zWs := zWs_in (List.mem_append_right _ (List.mem_append_left _ (List.mem_of_getElem? (i := 94) rfl))) rfl
theorem w_335 : (Jvm.Cond.instanceMethod ({ cls := "LeasedViewStore$Service", name := "isFresh", desc := "(II)Z" } : Jvm.MethodName)) ∈ zWs := zWs_in (List.mem_append_right _ (List.mem_append_left _ (List.mem_of_getElem? (i := 95) rfl))) rfl
theorem w_336 : (Jvm.Cond.selects "LeasedViewStore$Service" ({ cls := "LeasedViewStore$Service", name := "isFresh", desc := "(II)Z" } : Jvm.MethodName) ({ cls := "LeasedViewStore$Service", name := "isFresh", desc := "(II)Z" } : Jvm.MethodName)) ∈ zWs := zWs_in (List.mem_append_right _ (List.mem_append_left _ (List.mem_of_getElem? (i := 96) rfl))) rfl
theorem w_337 : (Jvm.Cond.code ({ cls := "LeasedViewStore$Service", name := "isFresh", desc := "(II)Z" } : Jvm.MethodName) prog_7_method_5_code (3 : Nat) (Option.some Jvm.ClassFile.FieldType.boolean)) ∈ zWs := zWs_in (List.mem_append_right _ (List.mem_append_left _ (List.mem_of_getElem? (i := 97) rfl))) rfl
theorem w_338 : (Jvm.Cond.methodLink "LeasedViewStore$Service" (48 : Nat) ({ cls := "LeasedViewStore$View", name := "hasBackup", desc := "()Z" } : Jvm.MethodName)) ∈ zWs := zWs_in (List.mem_append_right _ (List.mem_append_left _ (List.mem_of_getElem? (i := 98) rfl))) rfl
theorem w_339 : (Jvm.Cond.instanceMethod ({ cls := "LeasedViewStore$View", name := "hasBackup", desc := "()Z" } : Jvm.MethodName)) ∈ zWs := zWs_in (List.mem_append_right _ (List.mem_append_left _ (List.mem_of_getElem? (i := 99) rfl))) rfl
theorem w_340 : (Jvm.Cond.selects "LeasedViewStore$View" ({ cls := "LeasedViewStore$View", name := "hasBackup", desc := "()Z" } : Jvm.MethodName) ({ cls := "LeasedViewStore$View", name := "hasBackup", desc := "()Z" } : Jvm.MethodName)) ∈ zWs := zWs_in (List.mem_append_right _ (List.mem_append_left _ (List.mem_of_getElem? (i := 100) rfl))) rfl
theorem w_341 : (Jvm.Cond.code ({ cls := "LeasedViewStore$View", name := "hasBackup", desc := "()Z" } : Jvm.MethodName) prog_9_method_3_code (1 : Nat) (Option.some Jvm.ClassFile.FieldType.boolean)) ∈ zWs := zWs_in (List.mem_append_right _ (List.mem_append_left _ (List.mem_of_getElem? (i := 101) rfl))) rfl
theorem w_342 : (Jvm.Cond.methodLink "LeasedViewStore$Service" (55 : Nat) ({ cls := "LeasedViewStore$Service", name := "freshNewcomer", desc := "(I)I" } : Jvm.MethodName)) ∈ zWs := zWs_in (List.mem_append_right _ (List.mem_append_left _ (List.mem_of_getElem? (i := 102) rfl))) rfl
theorem w_343 : (Jvm.Cond.instanceMethod ({ cls := "LeasedViewStore$Service", name := "freshNewcomer", desc := "(I)I" } : Jvm.MethodName)) ∈ zWs := zWs_in (List.mem_append_right _ (List.mem_append_left _ (List.mem_of_getElem? (i := 103) rfl))) rfl
theorem w_344 : (Jvm.Cond.selects "LeasedViewStore$Service" ({ cls := "LeasedViewStore$Service", name := "freshNewcomer", desc := "(I)I" } : Jvm.MethodName) ({ cls := "LeasedViewStore$Service", name := "freshNewcomer", desc := "(I)I" } : Jvm.MethodName)) ∈ zWs := zWs_in (List.mem_append_right _ (List.mem_append_left _ (List.mem_of_getElem? (i := 104) rfl))) rfl
theorem w_345 : (Jvm.Cond.code ({ cls := "LeasedViewStore$Service", name := "freshNewcomer", desc := "(I)I" } : Jvm.MethodName) prog_7_method_6_code (3 : Nat) (Option.some Jvm.ClassFile.FieldType.int)) ∈ zWs := zWs_in (List.mem_append_right _ (List.mem_append_left _ (List.mem_of_getElem? (i := 105) rfl))) rfl
theorem w_346 : (Jvm.Cond.methodLink "LeasedViewStore$Service" (35 : Nat) ({ cls := "LeasedViewStore$Service", name := "changeView", desc := "(II)V" } : Jvm.MethodName)) ∈ zWs := zWs_in (List.mem_append_right _ (List.mem_append_left _ (List.mem_of_getElem? (i := 106) rfl))) rfl
theorem w_347 : (Jvm.Cond.instanceMethod ({ cls := "LeasedViewStore$Service", name := "changeView", desc := "(II)V" } : Jvm.MethodName)) ∈ zWs := zWs_in (List.mem_append_right _ (List.mem_append_left _ (List.mem_of_getElem? (i := 107) rfl))) rfl
theorem w_348 : (Jvm.Cond.selects "LeasedViewStore$Service" ({ cls := "LeasedViewStore$Service", name := "changeView", desc := "(II)V" } : Jvm.MethodName) ({ cls := "LeasedViewStore$Service", name := "changeView", desc := "(II)V" } : Jvm.MethodName)) ∈ zWs := zWs_in (List.mem_append_right _ (List.mem_append_left _ (List.mem_of_getElem? (i := 108) rfl))) rfl
theorem w_349 : (Jvm.Cond.code ({ cls := "LeasedViewStore$Service", name := "changeView", desc := "(II)V" } : Jvm.MethodName) prog_7_method_4_code (3 : Nat) (Option.none : Option Jvm.ClassFile.FieldType)) ∈ zWs := zWs_in (List.mem_append_right _ (List.mem_append_left _ (List.mem_of_getElem? (i := 109) rfl))) rfl
theorem w_350 : (Jvm.Cond.methodLink "LeasedViewStoreLaw" (41 : Nat) ({ cls := "LeasedViewStore", name := "push", desc := "(I)Z" } : Jvm.MethodName)) ∈ zWs := zWs_in (List.mem_append_right _ (List.mem_append_left _ (List.mem_of_getElem? (i := 110) rfl))) rfl
theorem w_351 : (Jvm.Cond.instanceMethod ({ cls := "LeasedViewStore", name := "push", desc := "(I)Z" } : Jvm.MethodName)) ∈ zWs := zWs_in (List.mem_append_right _ (List.mem_append_left _ (List.mem_of_getElem? (i := 111) rfl))) rfl
theorem w_352 : (Jvm.Cond.selects "LeasedViewStore" ({ cls := "LeasedViewStore", name := "push", desc := "(I)Z" } : Jvm.MethodName) ({ cls := "LeasedViewStore", name := "push", desc := "(I)Z" } : Jvm.MethodName)) ∈ zWs := zWs_in (List.mem_append_right _ (List.mem_append_left _ (List.mem_of_getElem? (i := 112) rfl))) rfl
theorem w_353 : (Jvm.Cond.code ({ cls := "LeasedViewStore", name := "push", desc := "(I)Z" } : Jvm.MethodName) prog_1_method_6_code (3 : Nat) (Option.some Jvm.ClassFile.FieldType.boolean)) ∈ zWs := zWs_in (List.mem_append_right _ (List.mem_append_left _ (List.mem_of_getElem? (i := 113) rfl))) rfl
theorem w_354 : (Jvm.Cond.methodLink "LeasedViewStore" (97 : Nat) ({ cls := "LeasedViewStore$Server", name := "isPrimary", desc := "()Z" } : Jvm.MethodName)) ∈ zWs := zWs_in (List.mem_append_right _ (List.mem_append_left _ (List.mem_of_getElem? (i := 114) rfl))) rfl
theorem w_355 : (Jvm.Cond.methodLink "LeasedViewStore" (104 : Nat) ({ cls := "LeasedViewStore$View", name := "hasBackup", desc := "()Z" } : Jvm.MethodName)) ∈ zWs := zWs_in (List.mem_append_right _ (List.mem_append_left _ (List.mem_of_getElem? (i := 115) rfl))) rfl
theorem w_356 : (Jvm.Cond.methodLink "LeasedViewStore" (110 : Nat) ({ cls := "LeasedViewStore", name := "sendFill", desc := "(LLeasedViewStore$Server;)V" } : Jvm.MethodName)) ∈ zWs := zWs_in (List.mem_append_right _ (List.mem_append_left _ (List.mem_of_getElem? (i := 116) rfl))) rfl
theorem w_358 : (Jvm.Cond.instanceMethod ({ cls := "LeasedViewStore", name := "sendFill", desc := "(LLeasedViewStore$Server;)V" } : Jvm.MethodName)) ∈ zWs := zWs_in (List.mem_append_right _ (List.mem_append_left _ (List.mem_of_getElem? (i := 118) rfl))) rfl
theorem w_359 : (Jvm.Cond.code ({ cls := "LeasedViewStore", name := "sendFill", desc := "(LLeasedViewStore$Server;)V" } : Jvm.MethodName) prog_1_method_36_code (3 : Nat) (Option.none : Option Jvm.ClassFile.FieldType)) ∈ zWs := zWs_in (List.mem_append_right _ (List.mem_append_left _ (List.mem_of_getElem? (i := 119) rfl))) rfl
theorem w_360 : (Jvm.Cond.methodLink "LeasedViewStore" (224 : Nat) ({ cls := "LeasedViewStore$View", name := "become", desc := "(LLeasedViewStore$View;)V" } : Jvm.MethodName)) ∈ zWs := zWs_in (List.mem_append_right _ (List.mem_append_left _ (List.mem_of_getElem? (i := 120) rfl))) rfl
theorem w_361 : (Jvm.Cond.instanceMethod ({ cls := "LeasedViewStore$View", name := "become", desc := "(LLeasedViewStore$View;)V" } : Jvm.MethodName)) ∈ zWs := zWs_in (List.mem_append_right _ (List.mem_append_left _ (List.mem_of_getElem? (i := 121) rfl))) rfl
theorem w_362 : (Jvm.Cond.selects "LeasedViewStore$View" ({ cls := "LeasedViewStore$View", name := "become", desc := "(LLeasedViewStore$View;)V" } : Jvm.MethodName) ({ cls := "LeasedViewStore$View", name := "become", desc := "(LLeasedViewStore$View;)V" } : Jvm.MethodName)) ∈ zWs := zWs_in (List.mem_append_right _ (List.mem_append_left _ (List.mem_of_getElem? (i := 122) rfl))) rfl
theorem w_363 : (Jvm.Cond.code ({ cls := "LeasedViewStore$View", name := "become", desc := "(LLeasedViewStore$View;)V" } : Jvm.MethodName) prog_9_method_2_code (2 : Nat) (Option.none : Option Jvm.ClassFile.FieldType)) ∈ zWs := zWs_in (List.mem_append_right _ (List.mem_append_left _ (List.mem_of_getElem? (i := 123) rfl))) rfl
theorem w_364 : (Jvm.Cond.methodLink "LeasedViewStore" (238 : Nat) ({ cls := "LeasedViewStore$State", name := "become", desc := "(LLeasedViewStore$State;)V" } : Jvm.MethodName)) ∈ zWs := zWs_in (List.mem_append_right _ (List.mem_append_left _ (List.mem_of_getElem? (i := 124) rfl))) rfl
theorem w_365 : (Jvm.Cond.instanceMethod ({ cls := "LeasedViewStore$State", name := "become", desc := "(LLeasedViewStore$State;)V" } : Jvm.MethodName)) ∈ zWs := zWs_in (List.mem_append_right _ (List.mem_append_left _ (List.mem_of_getElem? (i := 125) rfl))) rfl
theorem w_366 : (Jvm.Cond.selects "LeasedViewStore$State" ({ cls := "LeasedViewStore$State", name := "become", desc := "(LLeasedViewStore$State;)V" } : Jvm.MethodName) ({ cls := "LeasedViewStore$State", name := "become", desc := "(LLeasedViewStore$State;)V" } : Jvm.MethodName)) ∈ zWs := zWs_in (List.mem_append_right _ (List.mem_append_left _ (List.mem_of_getElem? (i := 126) rfl))) rfl
theorem w_367 : (Jvm.Cond.code ({ cls := "LeasedViewStore$State", name := "become", desc := "(LLeasedViewStore$State;)V" } : Jvm.MethodName) prog_8_method_2_code (2 : Nat) (Option.none : Option Jvm.ClassFile.FieldType)) ∈ zWs := zWs_in (List.mem_append_right _ (List.mem_append_left _ (List.mem_of_getElem? (i := 127) rfl))) rfl
theorem w_368 : (Jvm.Cond.methodLink "LeasedViewStore$State" (25 : Nat) ({ cls := "java/lang/System", name := "arraycopy", desc := "(Ljava/lang/Object;ILjava/lang/Object;II)V" } : Jvm.MethodName)) ∈ zWs := zWs_in (List.mem_append_right _ (List.mem_append_left _ (List.mem_of_getElem? (i := 128) rfl))) rfl
theorem w_369 : (Jvm.Cond.static ({ cls := "java/lang/System", name := "arraycopy", desc := "(Ljava/lang/Object;ILjava/lang/Object;II)V" } : Jvm.MethodName)) ∈ zWs := zWs_in (List.mem_append_right _ (List.mem_append_left _ (List.mem_of_getElem? (i := 129) rfl))) rfl
theorem w_370 : (Jvm.Cond.native ({ cls := "java/lang/System", name := "arraycopy", desc := "(Ljava/lang/Object;ILjava/lang/Object;II)V" } : Jvm.MethodName)) ∈ zWs := zWs_in (List.mem_append_right _ (List.mem_append_left _ (List.mem_of_getElem? (i := 130) rfl))) rfl
theorem w_371 : (Jvm.Cond.methodLink "LeasedViewStore" (117 : Nat) ({ cls := "LeasedViewStore", name := "sendPass", desc := "(LLeasedViewStore$Server;)V" } : Jvm.MethodName)) ∈ zWs := zWs_in (List.mem_append_right _ (List.mem_append_left _ (List.mem_of_getElem? (i := 131) rfl))) rfl
theorem w_373 : (Jvm.Cond.instanceMethod ({ cls := "LeasedViewStore", name := "sendPass", desc := "(LLeasedViewStore$Server;)V" } : Jvm.MethodName)) ∈ zWs := zWs_in (List.mem_append_right _ (List.mem_append_left _ (List.mem_of_getElem? (i := 133) rfl))) rfl
theorem w_374 : (Jvm.Cond.code ({ cls := "LeasedViewStore", name := "sendPass", desc := "(LLeasedViewStore$Server;)V" } : Jvm.MethodName) prog_1_method_37_code (3 : Nat) (Option.none : Option Jvm.ClassFile.FieldType)) ∈ zWs := zWs_in (List.mem_append_right _ (List.mem_append_left _ (List.mem_of_getElem? (i := 134) rfl))) rfl
theorem w_375 : (Jvm.Cond.methodLink "LeasedViewStore" (141 : Nat) ({ cls := "LeasedViewStore$Operation", name := "become", desc := "(LLeasedViewStore$Operation;)V" } : Jvm.MethodName)) ∈ zWs := zWs_in (List.mem_append_right _ (List.mem_append_left _ (List.mem_of_getElem? (i := 135) rfl))) rfl
theorem w_376 : (Jvm.Cond.instanceMethod ({ cls := "LeasedViewStore$Operation", name := "become", desc := "(LLeasedViewStore$Operation;)V" } : Jvm.MethodName)) ∈ zWs := zWs_in (List.mem_append_right _ (List.mem_append_left _ (List.mem_of_getElem? (i := 136) rfl))) rfl
theorem w_377 : (Jvm.Cond.selects "LeasedViewStore$Operation" ({ cls := "LeasedViewStore$Operation", name := "become", desc := "(LLeasedViewStore$Operation;)V" } : Jvm.MethodName) ({ cls := "LeasedViewStore$Operation", name := "become", desc := "(LLeasedViewStore$Operation;)V" } : Jvm.MethodName)) ∈ zWs := zWs_in (List.mem_append_right _ (List.mem_append_left _ (List.mem_of_getElem? (i := 137) rfl))) rfl
theorem w_378 : (Jvm.Cond.code ({ cls := "LeasedViewStore$Operation", name := "become", desc := "(LLeasedViewStore$Operation;)V" } : Jvm.MethodName) prog_4_method_2_code (2 : Nat) (Option.none : Option Jvm.ClassFile.FieldType)) ∈ zWs := zWs_in (List.mem_append_right _ (List.mem_append_left _ (List.mem_of_getElem? (i := 138) rfl))) rfl
theorem w_379 : (Jvm.Cond.methodLink "LeasedViewStoreLaw" (45 : Nat) ({ cls := "LeasedViewStore", name := "begin", desc := "(IZII)I" } : Jvm.MethodName)) ∈ zWs := zWs_in (List.mem_append_right _ (List.mem_append_left _ (List.mem_of_getElem? (i := 139) rfl))) rfl
theorem w_380 : (Jvm.Cond.instanceMethod ({ cls := "LeasedViewStore", name := "begin", desc := "(IZII)I" } : Jvm.MethodName)) ∈ zWs := zWs_in (List.mem_append_right _ (List.mem_append_left _ (List.mem_of_getElem? (i := 140) rfl))) rfl
theorem w_381 : (Jvm.Cond.selects "LeasedViewStore" ({ cls := "LeasedViewStore", name := "begin", desc := "(IZII)I" } : Jvm.MethodName) ({ cls := "LeasedViewStore", name := "begin", desc := "(IZII)I" } : Jvm.MethodName)) ∈ zWs := zWs_in (List.mem_append_right _ (List.mem_append_left _ (List.mem_of_getElem? (i := 141) rfl))) rfl
theorem w_382 : (Jvm.Cond.code ({ cls := "LeasedViewStore", name := "begin", desc := "(IZII)I" } : Jvm.MethodName) prog_1_method_7_code (6 : Nat) (Option.some Jvm.ClassFile.FieldType.int)) ∈ zWs := zWs_in (List.mem_append_right _ (List.mem_append_left _ (List.mem_of_getElem? (i := 142) rfl))) rfl
theorem w_383 : (Jvm.Cond.methodLink "LeasedViewStore" (120 : Nat) ({ cls := "LeasedViewStore", name := "isClient", desc := "(I)Z" } : Jvm.MethodName)) ∈ zWs := zWs_in (List.mem_append_right _ (List.mem_append_left _ (List.mem_of_getElem? (i := 143) rfl))) rfl
theorem w_385 : (Jvm.Cond.instanceMethod ({ cls := "LeasedViewStore", name := "isClient", desc := "(I)Z" } : Jvm.MethodName)) ∈ zWs := zWs_in (List.mem_append_right _ (List.mem_append_left _ (List.mem_of_getElem? (i := 145) rfl))) rfl
theorem w_386 : (Jvm.Cond.code ({ cls := "LeasedViewStore", name := "isClient", desc := "(I)Z" } : Jvm.MethodName) prog_1_method_21_code (2 : Nat) (Option.some Jvm.ClassFile.FieldType.boolean)) ∈ zWs := zWs_in (List.mem_append_right _ (List.mem_append_left _ (List.mem_of_getElem? (i := 146) rfl))) rfl
theorem w_387 : (Jvm.Cond.methodLink "LeasedViewStore" (123 : Nat) ({ cls := "LeasedViewStore", name := "isCell", desc := "(I)Z" } : Jvm.MethodName)) ∈ zWs := zWs_in (List.mem_append_right _ (List.mem_append_left _ (List.mem_of_getElem? (i := 147) rfl))) rfl
theorem w_389 : (Jvm.Cond.instanceMethod ({ cls := "LeasedViewStore", name := "isCell", desc := "(I)Z" } : Jvm.MethodName)) ∈ zWs := zWs_in (List.mem_append_right _ (List.mem_append_left _ (List.mem_of_getElem? (i := 149) rfl))) rfl
theorem w_390 : (Jvm.Cond.code ({ cls := "LeasedViewStore", name := "isCell", desc := "(I)Z" } : Jvm.MethodName) prog_1_method_22_code (2 : Nat) (Option.some Jvm.ClassFile.FieldType.boolean)) ∈ zWs := zWs_in (List.mem_append_right _ (List.mem_append_left _ (List.mem_of_getElem? (i := 150) rfl))) rfl
theorem w_391 : (Jvm.Cond.methodLink "LeasedViewStore" (129 : Nat) ({ cls := "LeasedViewStore$Client", name := "start", desc := "(ZII)V" } : Jvm.MethodName)) ∈ zWs := zWs_in (List.mem_append_right _ (List.mem_append_left _ (List.mem_of_getElem? (i := 151) rfl))) rfl
theorem w_392 : (Jvm.Cond.instanceMethod ({ cls := "LeasedViewStore$Client", name := "start", desc := "(ZII)V" } : Jvm.MethodName)) ∈ zWs := zWs_in (List.mem_append_right _ (List.mem_append_left _ (List.mem_of_getElem? (i := 152) rfl))) rfl
theorem w_393 : (Jvm.Cond.selects "LeasedViewStore$Client" ({ cls := "LeasedViewStore$Client", name := "start", desc := "(ZII)V" } : Jvm.MethodName) ({ cls := "LeasedViewStore$Client", name := "start", desc := "(ZII)V" } : Jvm.MethodName)) ∈ zWs := zWs_in (List.mem_append_right _ (List.mem_append_left _ (List.mem_of_getElem? (i := 153) rfl))) rfl
theorem w_394 : (Jvm.Cond.code ({ cls := "LeasedViewStore$Client", name := "start", desc := "(ZII)V" } : Jvm.MethodName) prog_2_method_2_code (4 : Nat) (Option.none : Option Jvm.ClassFile.FieldType)) ∈ zWs := zWs_in (List.mem_append_right _ (List.mem_append_left _ (List.mem_of_getElem? (i := 154) rfl))) rfl
theorem w_395 : (Jvm.Cond.methodLink "LeasedViewStoreLaw" (50 : Nat) ({ cls := "LeasedViewStore", name := "send", desc := "(II)Z" } : Jvm.MethodName)) ∈ zWs := zWs_in (List.mem_append_right _ (List.mem_append_left _ (List.mem_of_getElem? (i := 155) rfl))) rfl
theorem w_396 : (Jvm.Cond.instanceMethod ({ cls := "LeasedViewStore", name := "send", desc := "(II)Z" } : Jvm.MethodName)) ∈ zWs := zWs_in (List.mem_append_right _ (List.mem_append_left _ (List.mem_of_getElem? (i := 156) rfl))) rfl
theorem w_397 : (Jvm.Cond.selects "LeasedViewStore" ({ cls := "LeasedViewStore", name := "send", desc := "(II)Z" } : Jvm.MethodName) ({ cls := "LeasedViewStore", name := "send", desc := "(II)Z" } : Jvm.MethodName)) ∈ zWs := zWs_in (List.mem_append_right _ (List.mem_append_left _ (List.mem_of_getElem? (i := 157) rfl))) rfl
theorem w_398 : (Jvm.Cond.code ({ cls := "LeasedViewStore", name := "send", desc := "(II)Z" } : Jvm.MethodName) prog_1_method_8_code (3 : Nat) (Option.some Jvm.ClassFile.FieldType.boolean)) ∈ zWs := zWs_in (List.mem_append_right _ (List.mem_append_left _ (List.mem_of_getElem? (i := 158) rfl))) rfl
theorem w_399 : (Jvm.Cond.methodLink "LeasedViewStoreLaw" (54 : Nat) ({ cls := "LeasedViewStore", name := "deliver", desc := "(I)I" } : Jvm.MethodName)) ∈ zWs := zWs_in (List.mem_append_right _ (List.mem_append_left _ (List.mem_of_getElem? (i := 159) rfl))) rfl
theorem w_400 : (Jvm.Cond.instanceMethod ({ cls := "LeasedViewStore", name := "deliver", desc := "(I)I" } : Jvm.MethodName)) ∈ zWs := zWs_in (List.mem_append_right _ (List.mem_append_left _ (List.mem_of_getElem? (i := 160) rfl))) rfl
theorem w_401 : (Jvm.Cond.selects "LeasedViewStore" ({ cls := "LeasedViewStore", name := "deliver", desc := "(I)I" } : Jvm.MethodName) ({ cls := "LeasedViewStore", name := "deliver", desc := "(I)I" } : Jvm.MethodName)) ∈ zWs := zWs_in (List.mem_append_right _ (List.mem_append_left _ (List.mem_of_getElem? (i := 161) rfl))) rfl
theorem w_402 : (Jvm.Cond.code ({ cls := "LeasedViewStore", name := "deliver", desc := "(I)I" } : Jvm.MethodName) prog_1_method_9_code (3 : Nat) (Option.some Jvm.ClassFile.FieldType.int)) ∈ zWs := zWs_in (List.mem_append_right _ (List.mem_append_left _ (List.mem_of_getElem? (i := 162) rfl))) rfl
theorem w_403 : (Jvm.Cond.methodLink "LeasedViewStore" (145 : Nat) ({ cls := "LeasedViewStore$Post", name := "has", desc := "(I)Z" } : Jvm.MethodName)) ∈ zWs := zWs_in (List.mem_append_right _ (List.mem_append_left _ (List.mem_of_getElem? (i := 163) rfl))) rfl
theorem w_404 : (Jvm.Cond.instanceMethod ({ cls := "LeasedViewStore$Post", name := "has", desc := "(I)Z" } : Jvm.MethodName)) ∈ zWs := zWs_in (List.mem_append_right _ (List.mem_append_left _ (List.mem_of_getElem? (i := 164) rfl))) rfl
theorem w_405 : (Jvm.Cond.selects "LeasedViewStore$Post" ({ cls := "LeasedViewStore$Post", name := "has", desc := "(I)Z" } : Jvm.MethodName) ({ cls := "LeasedViewStore$Post", name := "has", desc := "(I)Z" } : Jvm.MethodName)) ∈ zWs := zWs_in (List.mem_append_right _ (List.mem_append_left _ (List.mem_of_getElem? (i := 165) rfl))) rfl
theorem w_406 : (Jvm.Cond.code ({ cls := "LeasedViewStore$Post", name := "has", desc := "(I)Z" } : Jvm.MethodName) prog_5_method_2_code (2 : Nat) (Option.some Jvm.ClassFile.FieldType.boolean)) ∈ zWs := zWs_in (List.mem_append_right _ (List.mem_append_left _ (List.mem_of_getElem? (i := 166) rfl))) rfl
theorem w_407 : (Jvm.Cond.methodLink "LeasedViewStore" (148 : Nat) ({ cls := "LeasedViewStore$Post", name := "take", desc := "(I)LLeasedViewStore$Letter;" } : Jvm.MethodName)) ∈ zWs := zWs_in (List.mem_append_right _ (List.mem_append_left _ (List.mem_of_getElem? (i := 167) rfl))) rfl
theorem w_408 : (Jvm.Cond.instanceMethod ({ cls := "LeasedViewStore$Post", name := "take", desc := "(I)LLeasedViewStore$Letter;" } : Jvm.MethodName)) ∈ zWs := zWs_in (List.mem_append_right _ (List.mem_append_left _ (List.mem_of_getElem? (i := 168) rfl))) rfl
theorem w_409 : (Jvm.Cond.selects "LeasedViewStore$Post" ({ cls := "LeasedViewStore$Post", name := "take", desc := "(I)LLeasedViewStore$Letter;" } : Jvm.MethodName) ({ cls := "LeasedViewStore$Post", name := "take", desc := "(I)LLeasedViewStore$Letter;" } : Jvm.MethodName)) ∈ zWs := zWs_in (List.mem_append_right _ (List.mem_append_left _ (List.mem_of_getElem? (i := 169) rfl))) rfl
theorem w_410 : (Jvm.Cond.code ({ cls := "LeasedViewStore$Post", name := "take", desc := "(I)LLeasedViewStore$Letter;" } : Jvm.MethodName) prog_5_method_4_code (4 : Nat) (Option.some (Jvm.ClassFile.FieldType.object "LeasedViewStore$Letter"))) ∈ zWs := zWs_in (List.mem_append_right _ (List.mem_append_left _ (List.mem_of_getElem? (i := 170) rfl))) rfl
theorem w_411 : (Jvm.Cond.methodLink "LeasedViewStore" (152 : Nat) ({ cls := "LeasedViewStore", name := "takesEffect", desc := "(LLeasedViewStore$Letter;)Z" } : Jvm.MethodName)) ∈ zWs := zWs_in (List.mem_append_right _ (List.mem_append_left _ (List.mem_of_getElem? (i := 171) rfl))) rfl
theorem w_413 : (Jvm.Cond.instanceMethod ({ cls := "LeasedViewStore", name := "takesEffect", desc := "(LLeasedViewStore$Letter;)Z" } : Jvm.MethodName)) ∈ zWs := zWs_in (List.mem_append_right _ (List.mem_append_left _ (List.mem_of_getElem? (i := 173) rfl))) rfl
theorem w_414 : (Jvm.Cond.code ({ cls := "LeasedViewStore", name := "takesEffect", desc := "(LLeasedViewStore$Letter;)Z" } : Jvm.MethodName) prog_1_method_24_code (3 : Nat) (Option.some Jvm.ClassFile.FieldType.boolean)) ∈ zWs := zWs_in (List.mem_append_right _ (List.mem_append_left _ (List.mem_of_getElem? (i := 174) rfl))) rfl
theorem w_415 : (Jvm.Cond.methodLink "LeasedViewStore" (194 : Nat) ({ cls := "LeasedViewStore", name := "takePing", desc := "(LLeasedViewStore$Letter;)Z" } : Jvm.MethodName)) ∈ zWs := zWs_in (List.mem_append_right _ (List.mem_append_left _ (List.mem_of_getElem? (i := 175) rfl))) rfl
theorem w_417 : (Jvm.Cond.instanceMethod ({ cls := "LeasedViewStore", name := "takePing", desc := "(LLeasedViewStore$Letter;)Z" } : Jvm.MethodName)) ∈ zWs := zWs_in (List.mem_append_right _ (List.mem_append_left _ (List.mem_of_getElem? (i := 177) rfl))) rfl
theorem w_418 : (Jvm.Cond.code ({ cls := "LeasedViewStore", name := "takePing", desc := "(LLeasedViewStore$Letter;)Z" } : Jvm.MethodName) prog_1_method_25_code (3 : Nat) (Option.some Jvm.ClassFile.FieldType.boolean)) ∈ zWs := zWs_in (List.mem_append_right _ (List.mem_append_left _ (List.mem_of_getElem? (i := 178) rfl))) rfl
theorem w_419 : (Jvm.Cond.methodLink "LeasedViewStore" (219 : Nat) ({ cls := "LeasedViewStore$Service", name := "notePing", desc := "(LLeasedViewStore$Letter;I)V" } : Jvm.MethodName)) ∈ zWs := zWs_in (List.mem_append_right _ (List.mem_append_left _ (List.mem_of_getElem? (i := 179) rfl))) rfl
theorem w_420 : (Jvm.Cond.instanceMethod ({ cls := "LeasedViewStore$Service", name := "notePing", desc := "(LLeasedViewStore$Letter;I)V" } : Jvm.MethodName)) ∈ zWs := zWs_in (List.mem_append_right _ (List.mem_append_left _ (List.mem_of_getElem? (i := 180) rfl))) rfl
theorem w_421 : (Jvm.Cond.selects "LeasedViewStore$Service" ({ cls := "LeasedViewStore$Service", name := "notePing", desc := "(LLeasedViewStore$Letter;I)V" } : Jvm.MethodName) ({ cls := "LeasedViewStore$Service", name := "notePing", desc := "(LLeasedViewStore$Letter;I)V" } : Jvm.MethodName)) ∈ zWs := zWs_in (List.mem_append_right _ (List.mem_append_left _ (List.mem_of_getElem? (i := 181) rfl))) rfl
theorem w_422 : (Jvm.Cond.code ({ cls := "LeasedViewStore$Service", name := "notePing", desc := "(LLeasedViewStore$Letter;I)V" } : Jvm.MethodName) prog_7_method_2_code (3 : Nat) (Option.none : Option Jvm.ClassFile.FieldType)) ∈ zWs := zWs_in (List.mem_append_right _ (List.mem_append_left _ (List.mem_of_getElem? (i := 182) rfl))) rfl
theorem w_423 : (Jvm.Cond.methodLink "LeasedViewStore" (197 : Nat) ({ cls := "LeasedViewStore$Client", name := "takeAnswer", desc := "(LLeasedViewStore$Letter;)Z" } : Jvm.MethodName)) ∈ zWs := zWs_in (List.mem_append_right _ (List.mem_append_left _ (List.mem_of_getElem? (i := 183) rfl))) rfl
theorem w_424 : (Jvm.Cond.instanceMethod ({ cls := "LeasedViewStore$Client", name := "takeAnswer", desc := "(LLeasedViewStore$Letter;)Z" } : Jvm.MethodName)) ∈ zWs := zWs_in (List.mem_append_right _ (List.mem_append_left _ (List.mem_of_getElem? (i := 184) rfl))) rfl
theorem w_425 : (Jvm.Cond.selects "LeasedViewStore$Client" ({ cls := "LeasedViewStore$Client", name := "takeAnswer", desc := "(LLeasedViewStore$Letter;)Z" } : Jvm.MethodName) ({ cls := "LeasedViewStore$Client", name := "takeAnswer", desc := "(LLeasedViewStore$Letter;)Z" } : Jvm.MethodName)) ∈ zWs := zWs_in (List.mem_append_right _ (List.mem_append_left _ (List.mem_of_getElem? (i := 185) rfl))) rfl
theorem w_426 : (Jvm.Cond.code ({ cls := "LeasedViewStore$Client", name := "takeAnswer", desc := "(LLeasedViewStore$Letter;)Z" } : Jvm.MethodName) prog_2_method_3_code (2 : Nat) (Option.some Jvm.ClassFile.FieldType.boolean)) ∈ zWs := zWs_in (List.mem_append_right _ (List.mem_append_left _ (List.mem_of_getElem? (i := 186) rfl))) rfl
theorem w_427 : (Jvm.Cond.methodLink "LeasedViewStore" (200 : Nat) ({ cls := "LeasedViewStore", name := "takeView", desc := "(LLeasedViewStore$Server;LLeasedViewStore$Letter;)Z" } : Jvm.MethodName)) ∈ zWs := zWs_in (List.mem_append_right _ (List.mem_append_left _ (List.mem_of_getElem? (i := 187) rfl))) rfl
theorem w_429 : (Jvm.Cond.instanceMethod ({ cls := "LeasedViewStore", name := "takeView", desc := "(LLeasedViewStore$Server;LLeasedViewStore$Letter;)Z" } : Jvm.MethodName)) ∈ zWs := zWs_in (List.mem_append_right _ (List.mem_append_left _ (List.mem_of_getElem? (i := 189) rfl))) rfl
theorem w_430 : (Jvm.Cond.code ({ cls := "LeasedViewStore", name := "takeView", desc := "(LLeasedViewStore$Server;LLeasedViewStore$Letter;)Z" } : Jvm.MethodName) prog_1_method_26_code (3 : Nat) (Option.some Jvm.ClassFile.FieldType.boolean)) ∈ zWs := zWs_in (List.mem_append_right _ (List.mem_append_left _ (List.mem_of_getElem? (i := 190) rfl))) rfl
theorem w_431 : (Jvm.Cond.methodLink "LeasedViewStore" (227 : Nat) ({ cls := "LeasedViewStore", name := "enterView", desc := "(LLeasedViewStore$Server;LLeasedViewStore$View;)V" } : Jvm.MethodName)) ∈ zWs := zWs_in (List.mem_append_right _ (List.mem_append_left _ (List.mem_of_getElem? (i := 191) rfl))) rfl
theorem w_433 : (Jvm.Cond.instanceMethod ({ cls := "LeasedViewStore", name := "enterView", desc := "(LLeasedViewStore$Server;LLeasedViewStore$View;)V" } : Jvm.MethodName)) ∈ zWs := zWs_in (List.mem_append_right _ (List.mem_append_left _ (List.mem_of_getElem? (i := 193) rfl))) rfl
theorem w_434 : (Jvm.Cond.code ({ cls := "LeasedViewStore", name := "enterView", desc := "(LLeasedViewStore$Server;LLeasedViewStore$View;)V" } : Jvm.MethodName) prog_1_method_35_code (3 : Nat) (Option.none : Option Jvm.ClassFile.FieldType)) ∈ zWs := zWs_in (List.mem_append_right _ (List.mem_append_left _ (List.mem_of_getElem? (i := 194) rfl))) rfl
theorem w_435 : (Jvm.Cond.methodLink "LeasedViewStore" (204 : Nat) ({ cls := "LeasedViewStore", name := "takeFill", desc := "(LLeasedViewStore$Server;LLeasedViewStore$Letter;)Z" } : Jvm.MethodName)) ∈ zWs := zWs_in (List.mem_append_right _ (List.mem_append_left _ (List.mem_of_getElem? (i := 195) rfl))) rfl
theorem w_437 : (Jvm.Cond.instanceMethod ({ cls := "LeasedViewStore", name := "takeFill", desc := "(LLeasedViewStore$Server;LLeasedViewStore$Letter;)Z" } : Jvm.MethodName)) ∈ zWs := zWs_in (List.mem_append_right _ (List.mem_append_left _ (List.mem_of_getElem? (i := 197) rfl))) rfl
theorem w_438 : (Jvm.Cond.code ({ cls := "LeasedViewStore", name := "takeFill", desc := "(LLeasedViewStore$Server;LLeasedViewStore$Letter;)Z" } : Jvm.MethodName) prog_1_method_27_code (3 : Nat) (Option.some Jvm.ClassFile.FieldType.boolean)) ∈ zWs := zWs_in (List.mem_append_right _ (List.mem_append_left _ (List.mem_of_getElem? (i := 198) rfl))) rfl
theorem w_439 : (Jvm.Cond.methodLink "LeasedViewStore" (207 : Nat) ({ cls := "LeasedViewStore", name := "takeFilled", desc := "(LLeasedViewStore$Server;LLeasedViewStore$Letter;)Z" } : Jvm.MethodName)) ∈ zWs := zWs_in (List.mem_append_right _ (List.mem_append_left _ (List.mem_of_getElem? (i := 199) rfl))) rfl
theorem w_441 : (Jvm.Cond.instanceMethod ({ cls := "LeasedViewStore", name := "takeFilled", desc := "(LLeasedViewStore$Server;LLeasedViewStore$Letter;)Z" } : Jvm.MethodName)) ∈ zWs := zWs_in (List.mem_append_right _ (List.mem_append_left _ (List.mem_of_getElem? (i := 201) rfl))) rfl
theorem w_442 : (Jvm.Cond.code ({ cls := "LeasedViewStore", name := "takeFilled", desc := "(LLeasedViewStore$Server;LLeasedViewStore$Letter;)Z" } : Jvm.MethodName) prog_1_method_28_code (3 : Nat) (Option.some Jvm.ClassFile.FieldType.boolean)) ∈ zWs := zWs_in (List.mem_append_right _ (List.mem_append_left _ (List.mem_of_getElem? (i := 202) rfl))) rfl
theorem w_443 : (Jvm.Cond.methodLink "LeasedViewStore" (244 : Nat) ({ cls := "LeasedViewStore$Server", name := "isPrimaryOf", desc := "(I)Z" } : Jvm.MethodName)) ∈ zWs := zWs_in (List.mem_append_right _ (List.mem_append_left _ (List.mem_of_getElem? (i := 203) rfl))) rfl
theorem w_444 : (Jvm.Cond.instanceMethod ({ cls := "LeasedViewStore$Server", name := "isPrimaryOf", desc := "(I)Z" } : Jvm.MethodName)) ∈ zWs := zWs_in (List.mem_append_right _ (List.mem_append_left _ (List.mem_of_getElem? (i := 204) rfl))) rfl
theorem w_445 : (Jvm.Cond.selects "LeasedViewStore$Server" ({ cls := "LeasedViewStore$Server", name := "isPrimaryOf", desc := "(I)Z" } : Jvm.MethodName) ({ cls := "LeasedViewStore$Server", name := "isPrimaryOf", desc := "(I)Z" } : Jvm.MethodName)) ∈ zWs := zWs_in (List.mem_append_right _ (List.mem_append_left _ (List.mem_of_getElem? (i := 205) rfl))) rfl
theorem w_446 : (Jvm.Cond.code ({ cls := "LeasedViewStore$Server", name := "isPrimaryOf", desc := "(I)Z" } : Jvm.MethodName) prog_6_method_3_code (2 : Nat) (Option.some Jvm.ClassFile.FieldType.boolean)) ∈ zWs := zWs_in (List.mem_append_right _ (List.mem_append_left _ (List.mem_of_getElem? (i := 206) rfl))) rfl
theorem w_447 : (Jvm.Cond.methodLink "LeasedViewStore" (210 : Nat) ({ cls := "LeasedViewStore", name := "takePass", desc := "(LLeasedViewStore$Server;LLeasedViewStore$Letter;)Z" } : Jvm.MethodName)) ∈ zWs := zWs_in (List.mem_append_right _ (List.mem_append_left _ (List.mem_of_getElem? (i := 207) rfl))) rfl
theorem w_449 : (Jvm.Cond.instanceMethod ({ cls := "LeasedViewStore", name := "takePass", desc := "(LLeasedViewStore$Server;LLeasedViewStore$Letter;)Z" } : Jvm.MethodName)) ∈ zWs := zWs_in (List.mem_append_right _ (List.mem_append_left _ (List.mem_of_getElem? (i := 209) rfl))) rfl
theorem w_450 : (Jvm.Cond.code ({ cls := "LeasedViewStore", name := "takePass", desc := "(LLeasedViewStore$Server;LLeasedViewStore$Letter;)Z" } : Jvm.MethodName) prog_1_method_29_code (4 : Nat) (Option.some Jvm.ClassFile.FieldType.boolean)) ∈ zWs := zWs_in (List.mem_append_right _ (List.mem_append_left _ (List.mem_of_getElem? (i := 210) rfl))) rfl
theorem w_451 : (Jvm.Cond.methodLink "LeasedViewStore" (247 : Nat) ({ cls := "LeasedViewStore$Server", name := "isBackupOf", desc := "(I)Z" } : Jvm.MethodName)) ∈ zWs := zWs_in (List.mem_append_right _ (List.mem_append_left _ (List.mem_of_getElem? (i := 211) rfl))) rfl
theorem w_452 : (Jvm.Cond.instanceMethod ({ cls := "LeasedViewStore$Server", name := "isBackupOf", desc := "(I)Z" } : Jvm.MethodName)) ∈ zWs := zWs_in (List.mem_append_right _ (List.mem_append_left _ (List.mem_of_getElem? (i := 212) rfl))) rfl
theorem w_453 : (Jvm.Cond.selects "LeasedViewStore$Server" ({ cls := "LeasedViewStore$Server", name := "isBackupOf", desc := "(I)Z" } : Jvm.MethodName) ({ cls := "LeasedViewStore$Server", name := "isBackupOf", desc := "(I)Z" } : Jvm.MethodName)) ∈ zWs := zWs_in (List.mem_append_right _ (List.mem_append_left _ (List.mem_of_getElem? (i := 213) rfl))) rfl
theorem w_454 : (Jvm.Cond.code ({ cls := "LeasedViewStore$Server", name := "isBackupOf", desc := "(I)Z" } : Jvm.MethodName) prog_6_method_4_code (2 : Nat) (Option.some Jvm.ClassFile.FieldType.boolean)) ∈ zWs := zWs_in (List.mem_append_right _ (List.mem_append_left _ (List.mem_of_getElem? (i := 214) rfl))) rfl
theorem w_455 : (Jvm.Cond.methodLink "LeasedViewStore" (251 : Nat) ({ cls := "LeasedViewStore$State", name := "doWrite", desc := "(LLeasedViewStore$Operation;)V" } : Jvm.MethodName)) ∈ zWs := zWs_in (List.mem_append_right _ (List.mem_append_left _ (List.mem_of_getElem? (i := 215) rfl))) rfl
theorem w_456 : (Jvm.Cond.instanceMethod ({ cls := "LeasedViewStore$State", name := "doWrite", desc := "(LLeasedViewStore$Operation;)V" } : Jvm.MethodName)) ∈ zWs := zWs_in (List.mem_append_right _ (List.mem_append_left _ (List.mem_of_getElem? (i := 216) rfl))) rfl
theorem w_457 : (Jvm.Cond.selects "LeasedViewStore$State" ({ cls := "LeasedViewStore$State", name := "doWrite", desc := "(LLeasedViewStore$Operation;)V" } : Jvm.MethodName) ({ cls := "LeasedViewStore$State", name := "doWrite", desc := "(LLeasedViewStore$Operation;)V" } : Jvm.MethodName)) ∈ zWs := zWs_in (List.mem_append_right _ (List.mem_append_left _ (List.mem_of_getElem? (i := 217) rfl))) rfl
theorem w_458 : (Jvm.Cond.code ({ cls := "LeasedViewStore$State", name := "doWrite", desc := "(LLeasedViewStore$Operation;)V" } : Jvm.MethodName) prog_8_method_3_code (2 : Nat) (Option.none : Option Jvm.ClassFile.FieldType)) ∈ zWs := zWs_in (List.mem_append_right _ (List.mem_append_left _ (List.mem_of_getElem? (i := 218) rfl))) rfl
theorem w_459 : (Jvm.Cond.methodLink "LeasedViewStore" (213 : Nat) ({ cls := "LeasedViewStore", name := "takePassed", desc := "(LLeasedViewStore$Server;LLeasedViewStore$Letter;)Z" } : Jvm.MethodName)) ∈ zWs := zWs_in (List.mem_append_right _ (List.mem_append_left _ (List.mem_of_getElem? (i := 219) rfl))) rfl
theorem w_461 : (Jvm.Cond.instanceMethod ({ cls := "LeasedViewStore", name := "takePassed", desc := "(LLeasedViewStore$Server;LLeasedViewStore$Letter;)Z" } : Jvm.MethodName)) ∈ zWs := zWs_in (List.mem_append_right _ (List.mem_append_left _ (List.mem_of_getElem? (i := 221) rfl))) rfl
theorem w_462 : (Jvm.Cond.code ({ cls := "LeasedViewStore", name := "takePassed", desc := "(LLeasedViewStore$Server;LLeasedViewStore$Letter;)Z" } : Jvm.MethodName) prog_1_method_30_code (3 : Nat) (Option.some Jvm.ClassFile.FieldType.boolean)) ∈ zWs := zWs_in (List.mem_append_right _ (List.mem_append_left _ (List.mem_of_getElem? (i := 222) rfl))) rfl
theorem w_463 : (Jvm.Cond.methodLink "LeasedViewStore" (257 : Nat) ({ cls := "LeasedViewStore", name := "doWriteAndAnswer", desc := "(LLeasedViewStore$Server;LLeasedViewStore$Operation;)V" } : Jvm.MethodName)) ∈ zWs := zWs_in (List.mem_append_right _ (List.mem_append_left _ (List.mem_of_getElem? (i := 223) rfl))) rfl
theorem w_465 : (Jvm.Cond.instanceMethod ({ cls := "LeasedViewStore", name := "doWriteAndAnswer", desc := "(LLeasedViewStore$Server;LLeasedViewStore$Operation;)V" } : Jvm.MethodName)) ∈ zWs := zWs_in (List.mem_append_right _ (List.mem_append_left _ (List.mem_of_getElem? (i := 225) rfl))) rfl
theorem w_466 : (Jvm.Cond.code ({ cls := "LeasedViewStore", name := "doWriteAndAnswer", desc := "(LLeasedViewStore$Server;LLeasedViewStore$Operation;)V" } : Jvm.MethodName) prog_1_method_34_code (3 : Nat) (Option.none : Option Jvm.ClassFile.FieldType)) ∈ zWs := zWs_in (List.mem_append_right _ (List.mem_append_left _ (List.mem_of_getElem? (i := 226) rfl))) rfl
theorem w_467 : (Jvm.Cond.methodLink "LeasedViewStore" (274 : Nat) ({ cls := "LeasedViewStore", name := "sendAnswer", desc := "(LLeasedViewStore$Operation;I)V" } : Jvm.MethodName)) ∈ zWs := zWs_in (List.mem_append_right _ (List.mem_append_left _ (List.mem_of_getElem? (i := 227) rfl))) rfl
theorem w_469 : (Jvm.Cond.instanceMethod ({ cls := "LeasedViewStore", name := "sendAnswer", desc := "(LLeasedViewStore$Operation;I)V" } : Jvm.MethodName)) ∈ zWs := zWs_in (List.mem_append_right _ (List.mem_append_left _ (List.mem_of_getElem? (i := 229) rfl))) rfl
theorem w_470 : (Jvm.Cond.code ({ cls := "LeasedViewStore", name := "sendAnswer", desc := "(LLeasedViewStore$Operation;I)V" } : Jvm.MethodName) prog_1_method_38_code (4 : Nat) (Option.none : Option Jvm.ClassFile.FieldType)) ∈ zWs := zWs_in (List.mem_append_right _ (List.mem_append_left _ (List.mem_of_getElem? (i := 230) rfl))) rfl
theorem w_471 : (Jvm.Cond.methodLink "LeasedViewStore" (216 : Nat) ({ cls := "LeasedViewStore", name := "takeAsk", desc := "(LLeasedViewStore$Server;LLeasedViewStore$Letter;)Z" } : Jvm.MethodName)) ∈ zWs := zWs_in (List.mem_append_right _ (List.mem_append_left _ (List.mem_of_getElem? (i := 231) rfl))) rfl
theorem w_473 : (Jvm.Cond.instanceMethod ({ cls := "LeasedViewStore", name := "takeAsk", desc := "(LLeasedViewStore$Server;LLeasedViewStore$Letter;)Z" } : Jvm.MethodName)) ∈ zWs := zWs_in (List.mem_append_right _ (List.mem_append_left _ (List.mem_of_getElem? (i := 233) rfl))) rfl
theorem w_474 : (Jvm.Cond.code ({ cls := "LeasedViewStore", name := "takeAsk", desc := "(LLeasedViewStore$Server;LLeasedViewStore$Letter;)Z" } : Jvm.MethodName) prog_1_method_31_code (4 : Nat) (Option.some Jvm.ClassFile.FieldType.boolean)) ∈ zWs := zWs_in (List.mem_append_right _ (List.mem_append_left _ (List.mem_of_getElem? (i := 234) rfl))) rfl
theorem w_475 : (Jvm.Cond.methodLink "LeasedViewStore" (264 : Nat) ({ cls := "LeasedViewStore", name := "takeWrite", desc := "(LLeasedViewStore$Server;LLeasedViewStore$Operation;)Z" } : Jvm.MethodName)) ∈ zWs := zWs_in (List.mem_append_right _ (List.mem_append_left _ (List.mem_of_getElem? (i := 235) rfl))) rfl
theorem w_477 : (Jvm.Cond.instanceMethod ({ cls := "LeasedViewStore", name := "takeWrite", desc := "(LLeasedViewStore$Server;LLeasedViewStore$Operation;)Z" } : Jvm.MethodName)) ∈ zWs := zWs_in (List.mem_append_right _ (List.mem_append_left _ (List.mem_of_getElem? (i := 237) rfl))) rfl
theorem w_478 : (Jvm.Cond.code ({ cls := "LeasedViewStore", name := "takeWrite", desc := "(LLeasedViewStore$Server;LLeasedViewStore$Operation;)Z" } : Jvm.MethodName) prog_1_method_33_code (4 : Nat) (Option.some Jvm.ClassFile.FieldType.boolean)) ∈ zWs := zWs_in (List.mem_append_right _ (List.mem_append_left _ (List.mem_of_getElem? (i := 238) rfl))) rfl
theorem w_479 : (Jvm.Cond.methodLink "LeasedViewStore" (268 : Nat) ({ cls := "LeasedViewStore", name := "takeRead", desc := "(LLeasedViewStore$Server;LLeasedViewStore$Operation;)Z" } : Jvm.MethodName)) ∈ zWs := zWs_in (List.mem_append_right _ (List.mem_append_left _ (List.mem_of_getElem? (i := 239) rfl))) rfl
theorem w_481 : (Jvm.Cond.instanceMethod ({ cls := "LeasedViewStore", name := "takeRead", desc := "(LLeasedViewStore$Server;LLeasedViewStore$Operation;)Z" } : Jvm.MethodName)) ∈ zWs := zWs_in (List.mem_append_right _ (List.mem_append_right _ (List.mem_append_left _ (List.mem_of_getElem? (i := 1) rfl)))) rfl
theorem w_482 : (Jvm.Cond.code ({ cls := "LeasedViewStore", name := "takeRead", desc := "(LLeasedViewStore$Server;LLeasedViewStore$Operation;)Z" } : Jvm.MethodName) prog_1_method_32_code (3 : Nat) (Option.some Jvm.ClassFile.FieldType.boolean)) ∈ zWs := zWs_in (List.mem_append_right _ (List.mem_append_right _ (List.mem_append_left _ (List.mem_of_getElem? (i := 2) rfl)))) rfl
theorem w_483 : (Jvm.Cond.methodLink "LeasedViewStoreLaw" (58 : Nat) ({ cls := "LeasedViewStore", name := "lose", desc := "(I)Z" } : Jvm.MethodName)) ∈ zWs := zWs_in (List.mem_append_right _ (List.mem_append_right _ (List.mem_append_left _ (List.mem_of_getElem? (i := 3) rfl)))) rfl
theorem w_484 : (Jvm.Cond.instanceMethod ({ cls := "LeasedViewStore", name := "lose", desc := "(I)Z" } : Jvm.MethodName)) ∈ zWs := zWs_in (List.mem_append_right _ (List.mem_append_right _ (List.mem_append_left _ (List.mem_of_getElem? (i := 4) rfl)))) rfl
theorem w_485 : (Jvm.Cond.selects "LeasedViewStore" ({ cls := "LeasedViewStore", name := "lose", desc := "(I)Z" } : Jvm.MethodName) ({ cls := "LeasedViewStore", name := "lose", desc := "(I)Z" } : Jvm.MethodName)) ∈ zWs := zWs_in (List.mem_append_right _ (List.mem_append_right _ (List.mem_append_left _ (List.mem_of_getElem? (i := 5) rfl)))) rfl
theorem w_486 : (Jvm.Cond.code ({ cls := "LeasedViewStore", name := "lose", desc := "(I)Z" } : Jvm.MethodName) prog_1_method_10_code (2 : Nat) (Option.some Jvm.ClassFile.FieldType.boolean)) ∈ zWs := zWs_in (List.mem_append_right _ (List.mem_append_right _ (List.mem_append_left _ (List.mem_of_getElem? (i := 6) rfl)))) rfl
theorem w_487 : (Jvm.Cond.methodLink "LeasedViewStoreLaw" (62 : Nat) ({ cls := "LeasedViewStore", name := "crash", desc := "(I)Z" } : Jvm.MethodName)) ∈ zWs := zWs_in (List.mem_append_right _ (List.mem_append_right _ (List.mem_append_left _ (List.mem_of_getElem? (i := 7) rfl)))) rfl
theorem w_488 : (Jvm.Cond.instanceMethod ({ cls := "LeasedViewStore", name := "crash", desc := "(I)Z" } : Jvm.MethodName)) ∈ zWs := zWs_in (List.mem_append_right _ (List.mem_append_right _ (List.mem_append_left _ (List.mem_of_getElem? (i := 8) rfl)))) rfl
theorem w_489 : (Jvm.Cond.selects "LeasedViewStore" ({ cls := "LeasedViewStore", name := "crash", desc := "(I)Z" } : Jvm.MethodName) ({ cls := "LeasedViewStore", name := "crash", desc := "(I)Z" } : Jvm.MethodName)) ∈ zWs := zWs_in (List.mem_append_right _ (List.mem_append_right _ (List.mem_append_left _ (List.mem_of_getElem? (i := 9) rfl)))) rfl
theorem w_490 : (Jvm.Cond.code ({ cls := "LeasedViewStore", name := "crash", desc := "(I)Z" } : Jvm.MethodName) prog_1_method_11_code (2 : Nat) (Option.some Jvm.ClassFile.FieldType.boolean)) ∈ zWs := zWs_in (List.mem_append_right _ (List.mem_append_right _ (List.mem_append_left _ (List.mem_of_getElem? (i := 10) rfl)))) rfl
theorem w_491 : (Jvm.Cond.methodLink "LeasedViewStoreLaw" (66 : Nat) ({ cls := "LeasedViewStore", name := "letters", desc := "()I" } : Jvm.MethodName)) ∈ zWs := zWs_in (List.mem_append_right _ (List.mem_append_right _ (List.mem_append_left _ (List.mem_of_getElem? (i := 11) rfl)))) rfl
theorem w_492 : (Jvm.Cond.instanceMethod ({ cls := "LeasedViewStore", name := "letters", desc := "()I" } : Jvm.MethodName)) ∈ zWs := zWs_in (List.mem_append_right _ (List.mem_append_right _ (List.mem_append_left _ (List.mem_of_getElem? (i := 12) rfl)))) rfl
theorem w_493 : (Jvm.Cond.selects "LeasedViewStore" ({ cls := "LeasedViewStore", name := "letters", desc := "()I" } : Jvm.MethodName) ({ cls := "LeasedViewStore", name := "letters", desc := "()I" } : Jvm.MethodName)) ∈ zWs := zWs_in (List.mem_append_right _ (List.mem_append_right _ (List.mem_append_left _ (List.mem_of_getElem? (i := 13) rfl)))) rfl
theorem w_494 : (Jvm.Cond.code ({ cls := "LeasedViewStore", name := "letters", desc := "()I" } : Jvm.MethodName) prog_1_method_12_code (1 : Nat) (Option.some Jvm.ClassFile.FieldType.int)) ∈ zWs := zWs_in (List.mem_append_right _ (List.mem_append_right _ (List.mem_append_left _ (List.mem_of_getElem? (i := 14) rfl)))) rfl
theorem w_495 : (Jvm.Cond.methodLink "LeasedViewStoreLaw" (70 : Nat) ({ cls := "LeasedViewStore", name := "letter", desc := "(I)I" } : Jvm.MethodName)) ∈ zWs := zWs_in (List.mem_append_right _ (List.mem_append_right _ (List.mem_append_left _ (List.mem_of_getElem? (i := 15) rfl)))) rfl
theorem w_496 : (Jvm.Cond.instanceMethod ({ cls := "LeasedViewStore", name := "letter", desc := "(I)I" } : Jvm.MethodName)) ∈ zWs := zWs_in (List.mem_append_right _ (List.mem_append_right _ (List.mem_append_left _ (List.mem_of_getElem? (i := 16) rfl)))) rfl
theorem w_497 : (Jvm.Cond.selects "LeasedViewStore" ({ cls := "LeasedViewStore", name := "letter", desc := "(I)I" } : Jvm.MethodName) ({ cls := "LeasedViewStore", name := "letter", desc := "(I)I" } : Jvm.MethodName)) ∈ zWs := zWs_in (List.mem_append_right _ (List.mem_append_right _ (List.mem_append_left _ (List.mem_of_getElem? (i := 17) rfl)))) rfl
theorem w_498 : (Jvm.Cond.code ({ cls := "LeasedViewStore", name := "letter", desc := "(I)I" } : Jvm.MethodName) prog_1_method_13_code (3 : Nat) (Option.some Jvm.ClassFile.FieldType.int)) ∈ zWs := zWs_in (List.mem_append_right _ (List.mem_append_right _ (List.mem_append_left _ (List.mem_of_getElem? (i := 18) rfl)))) rfl
theorem w_499 : (Jvm.Cond.methodLink "LeasedViewStoreLaw" (74 : Nat) ({ cls := "LeasedViewStore", name := "view", desc := "(I)I" } : Jvm.MethodName)) ∈ zWs := zWs_in (List.mem_append_right _ (List.mem_append_right _ (List.mem_append_left _ (List.mem_of_getElem? (i := 19) rfl)))) rfl
theorem w_500 : (Jvm.Cond.instanceMethod ({ cls := "LeasedViewStore", name := "view", desc := "(I)I" } : Jvm.MethodName)) ∈ zWs := zWs_in (List.mem_append_right _ (List.mem_append_right _ (List.mem_append_left _ (List.mem_of_getElem? (i := 20) rfl)))) rfl
theorem w_501 : (Jvm.Cond.selects "LeasedViewStore" ({ cls := "LeasedViewStore", name := "view", desc := "(I)I" } : Jvm.MethodName) ({ cls := "LeasedViewStore", name := "view", desc := "(I)I" } : Jvm.MethodName)) ∈ zWs := zWs_in (List.mem_append_right _ (List.mem_append_right _ (List.mem_append_left _ (List.mem_of_getElem? (i := 21) rfl)))) rfl
theorem w_502 : (Jvm.Cond.code ({ cls := "LeasedViewStore", name := "view", desc := "(I)I" } : Jvm.MethodName) prog_1_method_14_code (2 : Nat) (Option.some Jvm.ClassFile.FieldType.int)) ∈ zWs := zWs_in (List.mem_append_right _ (List.mem_append_right _ (List.mem_append_left _ (List.mem_of_getElem? (i := 22) rfl)))) rfl
theorem w_503 : (Jvm.Cond.methodLink "LeasedViewStore" (169 : Nat) ({ cls := "LeasedViewStore$View", name := "shown", desc := "()I" } : Jvm.MethodName)) ∈ zWs := zWs_in (List.mem_append_right _ (List.mem_append_right _ (List.mem_append_left _ (List.mem_of_getElem? (i := 23) rfl)))) rfl
theorem w_504 : (Jvm.Cond.instanceMethod ({ cls := "LeasedViewStore$View", name := "shown", desc := "()I" } : Jvm.MethodName)) ∈ zWs := zWs_in (List.mem_append_right _ (List.mem_append_right _ (List.mem_append_left _ (List.mem_of_getElem? (i := 24) rfl)))) rfl
theorem w_505 : (Jvm.Cond.selects "LeasedViewStore$View" ({ cls := "LeasedViewStore$View", name := "shown", desc := "()I" } : Jvm.MethodName) ({ cls := "LeasedViewStore$View", name := "shown", desc := "()I" } : Jvm.MethodName)) ∈ zWs := zWs_in (List.mem_append_right _ (List.mem_append_right _ (List.mem_append_left _ (List.mem_of_getElem? (i := 25) rfl)))) rfl
theorem w_506 : (Jvm.Cond.code ({ cls := "LeasedViewStore$View", name := "shown", desc := "()I" } : Jvm.MethodName) prog_9_method_4_code (1 : Nat) (Option.some Jvm.ClassFile.FieldType.int)) ∈ zWs := zWs_in (List.mem_append_right _ (List.mem_append_right _ (List.mem_append_left _ (List.mem_of_getElem? (i := 26) rfl)))) rfl
theorem w_507 : (Jvm.Cond.methodLink "LeasedViewStoreLaw" (78 : Nat) ({ cls := "LeasedViewStore", name := "role", desc := "(I)I" } : Jvm.MethodName)) ∈ zWs := zWs_in (List.mem_append_right _ (List.mem_append_right _ (List.mem_append_left _ (List.mem_of_getElem? (i := 27) rfl)))) rfl
theorem w_508 : (Jvm.Cond.instanceMethod ({ cls := "LeasedViewStore", name := "role", desc := "(I)I" } : Jvm.MethodName)) ∈ zWs := zWs_in (List.mem_append_right _ (List.mem_append_right _ (List.mem_append_left _ (List.mem_of_getElem? (i := 28) rfl)))) rfl
theorem w_509 : (Jvm.Cond.selects "LeasedViewStore" ({ cls := "LeasedViewStore", name := "role", desc := "(I)I" } : Jvm.MethodName) ({ cls := "LeasedViewStore", name := "role", desc := "(I)I" } : Jvm.MethodName)) ∈ zWs := zWs_in (List.mem_append_right _ (List.mem_append_right _ (List.mem_append_left _ (List.mem_of_getElem? (i := 29) rfl)))) rfl
theorem w_510 : (Jvm.Cond.code ({ cls := "LeasedViewStore", name := "role", desc := "(I)I" } : Jvm.MethodName) prog_1_method_15_code (3 : Nat) (Option.some Jvm.ClassFile.FieldType.int)) ∈ zWs := zWs_in (List.mem_append_right _ (List.mem_append_right _ (List.mem_append_left _ (List.mem_of_getElem? (i := 30) rfl)))) rfl
theorem w_511 : (Jvm.Cond.methodLink "LeasedViewStore" (172 : Nat) ({ cls := "LeasedViewStore$Server", name := "liveRole", desc := "()I" } : Jvm.MethodName)) ∈ zWs := zWs_in (List.mem_append_right _ (List.mem_append_right _ (List.mem_append_left _ (List.mem_of_getElem? (i := 31) rfl)))) rfl
theorem w_512 : (Jvm.Cond.instanceMethod ({ cls := "LeasedViewStore$Server", name := "liveRole", desc := "()I" } : Jvm.MethodName)) ∈ zWs := zWs_in (List.mem_append_right _ (List.mem_append_right _ (List.mem_append_left _ (List.mem_of_getElem? (i := 32) rfl)))) rfl
theorem w_513 : (Jvm.Cond.selects "LeasedViewStore$Server" ({ cls := "LeasedViewStore$Server", name := "liveRole", desc := "()I" } : Jvm.MethodName) ({ cls := "LeasedViewStore$Server", name := "liveRole", desc := "()I" } : Jvm.MethodName)) ∈ zWs := zWs_in (List.mem_append_right _ (List.mem_append_right _ (List.mem_append_left _ (List.mem_of_getElem? (i := 33) rfl)))) rfl
theorem w_514 : (Jvm.Cond.code ({ cls := "LeasedViewStore$Server", name := "liveRole", desc := "()I" } : Jvm.MethodName) prog_6_method_6_code (1 : Nat) (Option.some Jvm.ClassFile.FieldType.int)) ∈ zWs := zWs_in (List.mem_append_right _ (List.mem_append_right _ (List.mem_append_left _ (List.mem_of_getElem? (i := 34) rfl)))) rfl
theorem w_515 : (Jvm.Cond.methodLink "LeasedViewStoreLaw" (82 : Nat) ({ cls := "LeasedViewStore", name := "cell", desc := "(II)I" } : Jvm.MethodName)) ∈ zWs := zWs_in (List.mem_append_right _ (List.mem_append_right _ (List.mem_append_left _ (List.mem_of_getElem? (i := 35) rfl)))) rfl
theorem w_516 : (Jvm.Cond.instanceMethod ({ cls := "LeasedViewStore", name := "cell", desc := "(II)I" } : Jvm.MethodName)) ∈ zWs := zWs_in (List.mem_append_right _ (List.mem_append_right _ (List.mem_append_left _ (List.mem_of_getElem? (i := 36) rfl)))) rfl
theorem w_517 : (Jvm.Cond.selects "LeasedViewStore" ({ cls := "LeasedViewStore", name := "cell", desc := "(II)I" } : Jvm.MethodName) ({ cls := "LeasedViewStore", name := "cell", desc := "(II)I" } : Jvm.MethodName)) ∈ zWs := zWs_in (List.mem_append_right _ (List.mem_append_right _ (List.mem_append_left _ (List.mem_of_getElem? (i := 37) rfl)))) rfl
theorem w_518 : (Jvm.Cond.code ({ cls := "LeasedViewStore", name := "cell", desc := "(II)I" } : Jvm.MethodName) prog_1_method_16_code (3 : Nat) (Option.some Jvm.ClassFile.FieldType.int)) ∈ zWs := zWs_in (List.mem_append_right _ (List.mem_append_right _ (List.mem_append_left _ (List.mem_of_getElem? (i := 38) rfl)))) rfl
theorem w_519 : (Jvm.Cond.methodLink "LeasedViewStoreLaw" (86 : Nat) ({ cls := "LeasedViewStore", name := "count", desc := "(I)I" } : Jvm.MethodName)) ∈ zWs := zWs_in (List.mem_append_right _ (List.mem_append_right _ (List.mem_append_left _ (List.mem_of_getElem? (i := 39) rfl)))) rfl
theorem w_520 : (Jvm.Cond.instanceMethod ({ cls := "LeasedViewStore", name := "count", desc := "(I)I" } : Jvm.MethodName)) ∈ zWs := zWs_in (List.mem_append_right _ (List.mem_append_right _ (List.mem_append_left _ (List.mem_of_getElem? (i := 40) rfl)))) rfl
theorem w_521 : (Jvm.Cond.selects "LeasedViewStore" ({ cls := "LeasedViewStore", name := "count", desc := "(I)I" } : Jvm.MethodName) ({ cls := "LeasedViewStore", name := "count", desc := "(I)I" } : Jvm.MethodName)) ∈ zWs := zWs_in (List.mem_append_right _ (List.mem_append_right _ (List.mem_append_left _ (List.mem_of_getElem? (i := 41) rfl)))) rfl
theorem w_522 : (Jvm.Cond.code ({ cls := "LeasedViewStore", name := "count", desc := "(I)I" } : Jvm.MethodName) prog_1_method_17_code (2 : Nat) (Option.some Jvm.ClassFile.FieldType.int)) ∈ zWs := zWs_in (List.mem_append_right _ (List.mem_append_right _ (List.mem_append_left _ (List.mem_of_getElem? (i := 42) rfl)))) rfl
theorem w_523 : (Jvm.Cond.methodLink "LeasedViewStoreLaw" (90 : Nat) ({ cls := "LeasedViewStore", name := "finished", desc := "(I)I" } : Jvm.MethodName)) ∈ zWs := zWs_in (List.mem_append_right _ (List.mem_append_right _ (List.mem_append_left _ (List.mem_of_getElem? (i := 43) rfl)))) rfl
theorem w_524 : (Jvm.Cond.instanceMethod ({ cls := "LeasedViewStore", name := "finished", desc := "(I)I" } : Jvm.MethodName)) ∈ zWs := zWs_in (List.mem_append_right _ (List.mem_append_right _ (List.mem_append_left _ (List.mem_of_getElem? (i := 44) rfl)))) rfl
theorem w_525 : (Jvm.Cond.selects "LeasedViewStore" ({ cls := "LeasedViewStore", name := "finished", desc := "(I)I" } : Jvm.MethodName) ({ cls := "LeasedViewStore", name := "finished", desc := "(I)I" } : Jvm.MethodName)) ∈ zWs := zWs_in (List.mem_append_right _ (List.mem_append_right _ (List.mem_append_left _ (List.mem_of_getElem? (i := 45) rfl)))) rfl
theorem w_526 : (Jvm.Cond.code ({ cls := "LeasedViewStore", name := "finished", desc := "(I)I" } : Jvm.MethodName) prog_1_method_18_code (2 : Nat) (Option.some Jvm.ClassFile.FieldType.int)) ∈ zWs := zWs_in (List.mem_append_right _ (List.mem_append_right _ (List.mem_append_left _ (List.mem_of_getElem? (i := 46) rfl)))) rfl
theorem w_527 : (Jvm.Cond.methodLink "LeasedViewStoreLaw" (94 : Nat) ({ cls := "LeasedViewStore", name := "result", desc := "(I)I" } : Jvm.MethodName)) ∈ zWs := zWs_in (List.mem_append_right _ (List.mem_append_right _ (List.mem_append_left _ (List.mem_of_getElem? (i := 47) rfl)))) rfl
theorem w_528 : (Jvm.Cond.instanceMethod ({ cls := "LeasedViewStore", name := "result", desc := "(I)I" } : Jvm.MethodName)) ∈ zWs := zWs_in (List.mem_append_right _ (List.mem_append_right _ (List.mem_append_left _ (List.mem_of_getElem? (i := 48) rfl)))) rfl
theorem w_529 : (Jvm.Cond.selects "LeasedViewStore" ({ cls := "LeasedViewStore", name := "result", desc := "(I)I" } : Jvm.MethodName) ({ cls := "LeasedViewStore", name := "result", desc := "(I)I" } : Jvm.MethodName)) ∈ zWs := zWs_in (List.mem_append_right _ (List.mem_append_right _ (List.mem_append_left _ (List.mem_of_getElem? (i := 49) rfl)))) rfl
theorem w_530 : (Jvm.Cond.code ({ cls := "LeasedViewStore", name := "result", desc := "(I)I" } : Jvm.MethodName) prog_1_method_19_code (2 : Nat) (Option.some Jvm.ClassFile.FieldType.int)) ∈ zWs := zWs_in (List.mem_append_right _ (List.mem_append_right _ (List.mem_append_left _ (List.mem_of_getElem? (i := 50) rfl)))) rfl
theorem w_531 : (Jvm.Cond.methodLink "LeasedViewStoreLaw" (9 : Nat) ({ cls := "LeasedViewStoreLaw", name := "cell", desc := "([II)I" } : Jvm.MethodName)) ∈ zWs := zWs_in (List.mem_append_right _ (List.mem_append_right _ (List.mem_append_left _ (List.mem_of_getElem? (i := 51) rfl)))) rfl
theorem w_532 : (Jvm.Cond.static ({ cls := "LeasedViewStoreLaw", name := "cell", desc := "([II)I" } : Jvm.MethodName)) ∈ zWs := zWs_in (List.mem_append_right _ (List.mem_append_right _ (List.mem_append_left _ (List.mem_of_getElem? (i := 52) rfl)))) rfl
theorem w_533 : (Jvm.Cond.code ({ cls := "LeasedViewStoreLaw", name := "cell", desc := "([II)I" } : Jvm.MethodName) method_2_code (2 : Nat) (Option.some Jvm.ClassFile.FieldType.int)) ∈ zWs := zWs_in (List.mem_append_right _ (List.mem_append_right _ (List.mem_append_left _ (List.mem_of_getElem? (i := 53) rfl)))) rfl
theorem w_534 : (Jvm.Cond.classLink "LeasedViewStoreLaw" (18 : Nat) "LeasedViewStoreModel") ∈ zWs := zWs_in (List.mem_append_right _ (List.mem_append_right _ (List.mem_append_left _ (List.mem_of_getElem? (i := 54) rfl)))) rfl
theorem w_535 : (Jvm.Cond.instantiable "LeasedViewStoreModel" (37 : Nat)) ∈ zWs := zWs_in (List.mem_append_right _ (List.mem_append_right _ (List.mem_append_left _ (List.mem_of_getElem? (i := 55) rfl)))) rfl
theorem w_536 : (Jvm.Cond.methodLink "LeasedViewStoreLaw" (20 : Nat) ({ cls := "LeasedViewStoreModel", name := "<init>", desc := "(I)V" } : Jvm.MethodName)) ∈ zWs := zWs_in (List.mem_append_right _ (List.mem_append_right _ (List.mem_append_left _ (List.mem_of_getElem? (i := 56) rfl)))) rfl
theorem w_537 : (Jvm.Cond.instanceMethod ({ cls := "LeasedViewStoreModel", name := "<init>", desc := "(I)V" } : Jvm.MethodName)) ∈ zWs := zWs_in (List.mem_append_right _ (List.mem_append_right _ (List.mem_append_left _ (List.mem_of_getElem? (i := 57) rfl)))) rfl
theorem w_538 : (Jvm.Cond.code ({ cls := "LeasedViewStoreModel", name := "<init>", desc := "(I)V" } : Jvm.MethodName) prog_11_method_1_code (3 : Nat) (Option.none : Option Jvm.ClassFile.FieldType)) ∈ zWs := zWs_in (List.mem_append_right _ (List.mem_append_right _ (List.mem_append_left _ (List.mem_of_getElem? (i := 58) rfl)))) rfl
theorem w_539 : (Jvm.Cond.methodLink "LeasedViewStoreModel" (1 : Nat) ({ cls := "java/lang/Object", name := "<init>", desc := "()V" } : Jvm.MethodName)) ∈ zWs := zWs_in (List.mem_append_right _ (List.mem_append_right _ (List.mem_append_left _ (List.mem_of_getElem? (i := 59) rfl)))) rfl
theorem w_540 : (Jvm.Cond.fieldLink "LeasedViewStoreModel" (108 : Nat) "LeasedViewStoreModel" "n" "I") ∈ zWs := zWs_in (List.mem_append_right _ (List.mem_append_right _ (List.mem_append_left _ (List.mem_of_getElem? (i := 60) rfl)))) rfl
theorem w_541 : (Jvm.Cond.fieldLink "LeasedViewStoreModel" (127 : Nat) "LeasedViewStoreModel" "time" "I") ∈ zWs := zWs_in (List.mem_append_right _ (List.mem_append_right _ (List.mem_append_left _ (List.mem_of_getElem? (i := 61) rfl)))) rfl
theorem w_542 : (Jvm.Cond.fieldLink "LeasedViewStoreModel" (150 : Nat) "LeasedViewStoreModel" "begun" "I") ∈ zWs := zWs_in (List.mem_append_right _ (List.mem_append_right _ (List.mem_append_left _ (List.mem_of_getElem? (i := 62) rfl)))) rfl
theorem w_543 : (Jvm.Cond.fieldLink "LeasedViewStoreModel" (7 : Nat) "LeasedViewStoreModel" "opClient" "[I") ∈ zWs := zWs_in (List.mem_append_right _ (List.mem_append_right _ (List.mem_append_left _ (List.mem_of_getElem? (i := 63) rfl)))) rfl
theorem w_544 : (Jvm.Cond.fieldLink "LeasedViewStoreModel" (13 : Nat) "LeasedViewStoreModel" "opNumber" "[I") ∈ zWs := zWs_in (List.mem_append_right _ (List.mem_append_right _ (List.mem_append_left _ (List.mem_of_getElem? (i := 64) rfl)))) rfl
theorem w_545 : (Jvm.Cond.fieldLink "LeasedViewStoreModel" (16 : Nat) "LeasedViewStoreModel" "opCell" "[I") ∈ zWs := zWs_in (List.mem_append_right _ (List.mem_append_right _ (List.mem_append_left _ (List.mem_of_getElem? (i := 65) rfl)))) rfl
theorem w_546 : (Jvm.Cond.fieldLink "LeasedViewStoreModel" (19 : Nat) "LeasedViewStoreModel" "opValue" "[I") ∈ zWs := zWs_in (List.mem_append_right _ (List.mem_append_right _ (List.mem_append_left _ (List.mem_of_getElem? (i := 66) rfl)))) rfl
theorem w_547 : (Jvm.Cond.fieldLink "LeasedViewStoreModel" (22 : Nat) "LeasedViewStoreModel" "opWrite" "[Z") ∈ zWs := zWs_in (List.mem_append_right _ (List.mem_append_right _ (List.mem_append_left _ (List.mem_of_getElem? (i := 67) rfl)))) rfl
theorem w_548 : (Jvm.Cond.fieldLink "LeasedViewStoreModel" (26 : Nat) "LeasedViewStoreModel" "number" "[I") ∈ zWs := zWs_in (List.mem_append_right _ (List.mem_append_right _ (List.mem_append_left _ (List.mem_of_getElem? (i := 68) rfl)))) rfl
theorem w_549 : (Jvm.Cond.fieldLink "LeasedViewStoreModel" (29 : Nat) "LeasedViewStoreModel" "primary" "[I") ∈ zWs := zWs_in (List.mem_append_right _ (List.mem_append_right _ (List.mem_append_left _ (List.mem_of_getElem? (i := 69) rfl)))) rfl
theorem w_550 : (Jvm.Cond.fieldLink "LeasedViewStoreModel" (32 : Nat) "LeasedViewStoreModel" "backup" "[I") ∈ zWs := zWs_in (List.mem_append_right _ (List.mem_append_right _ (List.mem_append_left _ (List.mem_of_getElem? (i := 70) rfl)))) rfl
theorem w_551 : (Jvm.Cond.fieldLink "LeasedViewStoreModel" (130 : Nat) "LeasedViewStoreModel" "confirmed" "Z") ∈ zWs := zWs_in (List.mem_append_right _ (List.mem_append_right _ (List.mem_append_left _ (List.mem_of_getElem? (i := 71) rfl)))) rfl
theorem w_552 : (Jvm.Cond.fieldLink "LeasedViewStoreModel" (35 : Nat) "LeasedViewStoreModel" "heard" "[I") ∈ zWs := zWs_in (List.mem_append_right _ (List.mem_append_right _ (List.mem_append_left _ (List.mem_of_getElem? (i := 72) rfl)))) rfl
theorem w_553 : (Jvm.Cond.fieldLink "LeasedViewStoreModel" (38 : Nat) "LeasedViewStoreModel" "skews" "[I") ∈ zWs := zWs_in (List.mem_append_right _ (List.mem_append_right _ (List.mem_append_left _ (List.mem_of_getElem? (i := 73) rfl)))) rfl
theorem w_554 : (Jvm.Cond.fieldLink "LeasedViewStoreModel" (41 : Nat) "LeasedViewStoreModel" "lease" "[I") ∈ zWs := zWs_in (List.mem_append_right _ (List.mem_append_right _ (List.mem_append_left _ (List.mem_of_getElem? (i := 74) rfl)))) rfl
theorem w_555 : (Jvm.Cond.fieldLink "LeasedViewStoreModel" (44 : Nat) "LeasedViewStoreModel" "ready" "[Z") ∈ zWs := zWs_in (List.mem_append_right _ (List.mem_append_right _ (List.mem_append_left _ (List.mem_of_getElem? (i := 75) rfl)))) rfl
theorem w_556 : (Jvm.Cond.fieldLink "LeasedViewStoreModel" (47 : Nat) "LeasedViewStoreModel" "filled" "[Z") ∈ zWs := zWs_in (List.mem_append_right _ (List.mem_append_right _ (List.mem_append_left _ (List.mem_of_getElem? (i := 76) rfl)))) rfl
theorem w_557 : (Jvm.Cond.fieldLink "LeasedViewStoreModel" (50 : Nat) "LeasedViewStoreModel" "dead" "[Z") ∈ zWs := zWs_in (List.mem_append_right _ (List.mem_append_right _ (List.mem_append_left _ (List.mem_of_getElem? (i := 77) rfl)))) rfl
theorem w_558 : (Jvm.Cond.fieldLink "LeasedViewStoreModel" (53 : Nat) "LeasedViewStoreModel" "pending" "[I") ∈ zWs := zWs_in (List.mem_append_right _ (List.mem_append_right _ (List.mem_append_left _ (List.mem_of_getElem? (i := 78) rfl)))) rfl
theorem w_559 : (Jvm.Cond.fieldLink "LeasedViewStoreModel" (56 : Nat) "LeasedViewStoreModel" "length" "[I") ∈ zWs := zWs_in (List.mem_append_right _ (List.mem_append_right _ (List.mem_append_left _ (List.mem_of_getElem? (i := 79) rfl)))) rfl
theorem w_560 : (Jvm.Cond.fieldLink "LeasedViewStoreModel" (59 : Nat) "LeasedViewStoreModel" "done" "[S") ∈ zWs := zWs_in (List.mem_append_right _ (List.mem_append_right _ (List.mem_append_left _ (List.mem_of_getElem? (i := 80) rfl)))) rfl
theorem w_561 : (Jvm.Cond.fieldLink "LeasedViewStoreModel" (63 : Nat) "LeasedViewStoreModel" "current" "[I") ∈ zWs := zWs_in (List.mem_append_right _ (List.mem_append_right _ (List.mem_append_left _ (List.mem_of_getElem? (i := 81) rfl)))) rfl
theorem w_562 : (Jvm.Cond.fieldLink "LeasedViewStoreModel" (66 : Nat) "LeasedViewStoreModel" "numbers" "[I") ∈ zWs := zWs_in (List.mem_append_right _ (List.mem_append_right _ (List.mem_append_left _ (List.mem_of_getElem? (i := 82) rfl)))) rfl
theorem w_563 : (Jvm.Cond.fieldLink "LeasedViewStoreModel" (69 : Nat) "LeasedViewStoreModel" "ends" "[I") ∈ zWs := zWs_in (List.mem_append_right _ (List.mem_append_right _ (List.mem_append_left _ (List.mem_of_getElem? (i := 83) rfl)))) rfl
theorem w_564 : (Jvm.Cond.fieldLink "LeasedViewStoreModel" (72 : Nat) "LeasedViewStoreModel" "results" "[I") ∈ zWs := zWs_in (List.mem_append_right _ (List.mem_append_right _ (List.mem_append_left _ (List.mem_of_getElem? (i := 84) rfl)))) rfl
theorem w_565 : (Jvm.Cond.fieldLink "LeasedViewStoreModel" (112 : Nat) "LeasedViewStoreModel" "waiting" "I") ∈ zWs := zWs_in (List.mem_append_right _ (List.mem_append_right _ (List.mem_append_left _ (List.mem_of_getElem? (i := 85) rfl)))) rfl
theorem w_566 : (Jvm.Cond.fieldLink "LeasedViewStoreModel" (75 : Nat) "LeasedViewStoreModel" "order" "[I") ∈ zWs := zWs_in (List.mem_append_right _ (List.mem_append_right _ (List.mem_append_left _ (List.mem_of_getElem? (i := 86) rfl)))) rfl
theorem w_567 : (Jvm.Cond.fieldLink "LeasedViewStoreModel" (78 : Nat) "LeasedViewStoreModel" "busy" "[Z") ∈ zWs := zWs_in (List.mem_append_right _ (List.mem_append_right _ (List.mem_append_left _ (List.mem_of_getElem? (i := 87) rfl)))) rfl
theorem w_568 : (Jvm.Cond.fieldLink "LeasedViewStoreModel" (81 : Nat) "LeasedViewStoreModel" "kind" "[I") ∈ zWs := zWs_in (List.mem_append_right _ (List.mem_append_right _ (List.mem_append_left _ (List.mem_of_getElem? (i := 88) rfl)))) rfl
theorem w_569 : (Jvm.Cond.fieldLink "LeasedViewStoreModel" (84 : Nat) "LeasedViewStoreModel" "to" "[I") ∈ zWs := zWs_in (List.mem_append_right _ (List.mem_append_right _ (List.mem_append_left _ (List.mem_of_getElem? (i := 89) rfl)))) rfl
theorem w_570 : (Jvm.Cond.fieldLink "LeasedViewStoreModel" (87 : Nat) "LeasedViewStoreModel" "num" "[I") ∈ zWs := zWs_in (List.mem_append_right _ (List.mem_append_right _ (List.mem_append_left _ (List.mem_of_getElem? (i := 90) rfl)))) rfl
theorem w_571 : (Jvm.Cond.fieldLink "LeasedViewStoreModel" (90 : Nat) "LeasedViewStoreModel" "pri" "[I") ∈ zWs := zWs_in (List.mem_append_right _ (List.mem_append_right _ (List.mem_append_left _ (List.mem_of_getElem? (i := 91) rfl)))) rfl
theorem w_572 : (Jvm.Cond.fieldLink "LeasedViewStoreModel" (93 : Nat) "LeasedViewStoreModel" "back" "[I") ∈ zWs := zWs_in (List.mem_append_right _ (List.mem_append_right _ (List.mem_append_left _ (List.mem_of_getElem? (i := 92) rfl)))) rfl
theorem w_573 : (Jvm.Cond.fieldLink "LeasedViewStoreModel" (96 : Nat) "LeasedViewStoreModel" "clock" "[I") ∈ zWs := zWs_in (List.mem_append_right _ (List.mem_append_right _ (List.mem_append_left _ (List.mem_of_getElem? (i := 93) rfl)))) rfl
theorem w_574 : (Jvm.Cond.fieldLink "LeasedViewStoreModel" (99 : Nat) "LeasedViewStoreModel" "what" "[I") ∈ zWs := zWs_in (List.mem_append_right _ (List.mem_append_right _ (List.mem_append_left _ (List.mem_of_getElem? (i := 94) rfl)))) rfl
theorem w_575 : (Jvm.Cond.fieldLink "LeasedViewStoreModel" (102 : Nat) "LeasedViewStoreModel" "result" "[I") ∈ zWs := zWs_in (List.mem_append_right _ (List.mem_append_right _ (List.mem_append_left _ (List.mem_of_getElem? (i := 95) rfl)))) rfl
theorem w_576 : (Jvm.Cond.fieldLink "LeasedViewStoreModel" (105 : Nat) "LeasedViewStoreModel" "copy" "[S") ∈ zWs := zWs_in (List.mem_append_right _ (List.mem_append_right _ (List.mem_append_left _ (List.mem_of_getElem? (i := 96) rfl)))) rfl
theorem w_577 : (Jvm.Cond.lays "LeasedViewStoreModel" "LeasedViewStoreModel" "n" "I") ∈ zWs := zWs_in (List.mem_append_right _ (List.mem_append_right _ (List.mem_append_left _ (List.mem_of_getElem? (i := 97) rfl)))) rfl
theorem w_579 : (Jvm.Cond.lays "LeasedViewStoreModel" "LeasedViewStoreModel" "time" "I") ∈ zWs := zWs_in (List.mem_append_right _ (List.mem_append_right _ (List.mem_append_left _ (List.mem_of_getElem? (i := 99) rfl)))) rfl
theorem w_581 : (Jvm.Cond.lays "LeasedViewStoreModel" "LeasedViewStoreModel" "begun" "I") ∈ zWs := zWs_in (List.mem_append_right _ (List.mem_append_right _ (List.mem_append_left _ (List.mem_of_getElem? (i := 101) rfl)))) rfl
theorem w_583 : (Jvm.Cond.lays "LeasedViewStoreModel" "LeasedViewStoreModel" "opClient" "[I") ∈ zWs := zWs_in (List.mem_append_right _ (List.mem_append_right _ (List.mem_append_left _ (List.mem_of_getElem? (i := 103) rfl)))) rfl
theorem w_585 : (Jvm.Cond.lays "LeasedViewStoreModel" "LeasedViewStoreModel" "opNumber" "[I") ∈ zWs := zWs_in (List.mem_append_right _ (List.mem_append_right _ (List.mem_append_left _ (List.mem_of_getElem? (i := 105) rfl)))) rfl
theorem w_587 : (Jvm.Cond.lays "LeasedViewStoreModel" "LeasedViewStoreModel" "opCell" "[I") ∈ zWs := zWs_in (List.mem_append_right _ (List.mem_append_right _ (List.mem_append_left _ (List.mem_of_getElem? (i := 107) rfl)))) rfl
theorem w_589 : (Jvm.Cond.lays "LeasedViewStoreModel" "LeasedViewStoreModel" "opValue" "[I") ∈ zWs := zWs_in (List.mem_append_right _ (List.mem_append_right _ (List.mem_append_left _ (List.mem_of_getElem? (i := 109) rfl)))) rfl
theorem w_591 : (Jvm.Cond.lays "LeasedViewStoreModel" "LeasedViewStoreModel" "opWrite" "[Z") ∈ zWs := zWs_in (List.mem_append_right _ (List.mem_append_right _ (List.mem_append_left _ (List.mem_of_getElem? (i := 111) rfl)))) rfl
theorem w_593 : (Jvm.Cond.lays "LeasedViewStoreModel" "LeasedViewStoreModel" "number" "[I") ∈ zWs := zWs_in (List.mem_append_right _ (List.mem_append_right _ (List.mem_append_left _ (List.mem_of_getElem? (i := 113) rfl)))) rfl
theorem w_595 : (Jvm.Cond.lays "LeasedViewStoreModel" "LeasedViewStoreModel" "primary" "[I") ∈ zWs := zWs_in (List.mem_append_right _ (List.mem_append_right _ (List.mem_append_left _ (List.mem_of_getElem? (i := 115) rfl)))) rfl
theorem w_597 : (Jvm.Cond.lays "LeasedViewStoreModel" "LeasedViewStoreModel" "backup" "[I") ∈ zWs := zWs_in (List.mem_append_right _ (List.mem_append_right _ (List.mem_append_left _ (List.mem_of_getElem? (i := 117) rfl)))) rfl
theorem w_599 : (Jvm.Cond.lays "LeasedViewStoreModel" "LeasedViewStoreModel" "confirmed" "Z") ∈ zWs := zWs_in (List.mem_append_right _ (List.mem_append_right _ (List.mem_append_left _ (List.mem_of_getElem? (i := 119) rfl)))) rfl
theorem w_601 : (Jvm.Cond.lays "LeasedViewStoreModel" "LeasedViewStoreModel" "heard" "[I") ∈ zWs := zWs_in (List.mem_append_right _ (List.mem_append_right _ (List.mem_append_left _ (List.mem_of_getElem? (i := 121) rfl)))) rfl
theorem w_603 : (Jvm.Cond.lays "LeasedViewStoreModel" "LeasedViewStoreModel" "skews" "[I") ∈ zWs := zWs_in (List.mem_append_right _ (List.mem_append_right _ (List.mem_append_left _ (List.mem_of_getElem? (i := 123) rfl)))) rfl
theorem w_605 : (Jvm.Cond.lays "LeasedViewStoreModel" "LeasedViewStoreModel" "lease" "[I") ∈ zWs := zWs_in (List.mem_append_right _ (List.mem_append_right _ (List.mem_append_left _ (List.mem_of_getElem? (i := 125) rfl)))) rfl
theorem w_607 : (Jvm.Cond.lays "LeasedViewStoreModel" "LeasedViewStoreModel" "ready" "[Z") ∈ zWs := zWs_in (List.mem_append_right _ (List.mem_append_right _ (List.mem_append_left _ (List.mem_of_getElem? (i := 127) rfl)))) rfl
theorem w_609 : (Jvm.Cond.lays "LeasedViewStoreModel" "LeasedViewStoreModel" "filled" "[Z") ∈ zWs := zWs_in (List.mem_append_right _ (List.mem_append_right _ (List.mem_append_left _ (List.mem_of_getElem? (i := 129) rfl)))) rfl
theorem w_611 : (Jvm.Cond.lays "LeasedViewStoreModel" "LeasedViewStoreModel" "dead" "[Z") ∈ zWs := zWs_in (List.mem_append_right _ (List.mem_append_right _ (List.mem_append_left _ (List.mem_of_getElem? (i := 131) rfl)))) rfl
theorem w_613 : (Jvm.Cond.lays "LeasedViewStoreModel" "LeasedViewStoreModel" "pending" "[I") ∈ zWs := zWs_in (List.mem_append_right _ (List.mem_append_right _ (List.mem_append_left _ (List.mem_of_getElem? (i := 133) rfl)))) rfl
theorem w_615 : (Jvm.Cond.lays "LeasedViewStoreModel" "LeasedViewStoreModel" "length" "[I") ∈ zWs := zWs_in (List.mem_append_right _ (List.mem_append_right _ (List.mem_append_left _ (List.mem_of_getElem? (i := 135) rfl)))) rfl
theorem w_617 : (Jvm.Cond.lays "LeasedViewStoreModel" "LeasedViewStoreModel" "done" "[S") ∈ zWs := zWs_in (List.mem_append_right _ (List.mem_append_right _ (List.mem_append_left _ (List.mem_of_getElem? (i := 137) rfl)))) rfl
theorem w_619 : (Jvm.Cond.lays "LeasedViewStoreModel" "LeasedViewStoreModel" "current" "[I") ∈ zWs := zWs_in (List.mem_append_right _ (List.mem_append_right _ (List.mem_append_left _ (List.mem_of_getElem? (i := 139) rfl)))) rfl
theorem w_621 : (Jvm.Cond.lays "LeasedViewStoreModel" "LeasedViewStoreModel" "numbers" "[I") ∈ zWs := zWs_in (List.mem_append_right _ (List.mem_append_right _ (List.mem_append_left _ (List.mem_of_getElem? (i := 141) rfl)))) rfl
theorem w_623 : (Jvm.Cond.lays "LeasedViewStoreModel" "LeasedViewStoreModel" "ends" "[I") ∈ zWs := zWs_in (List.mem_append_right _ (List.mem_append_right _ (List.mem_append_left _ (List.mem_of_getElem? (i := 143) rfl)))) rfl
theorem w_625 : (Jvm.Cond.lays "LeasedViewStoreModel" "LeasedViewStoreModel" "results" "[I") ∈ zWs := zWs_in (List.mem_append_right _ (List.mem_append_right _ (List.mem_append_left _ (List.mem_of_getElem? (i := 145) rfl)))) rfl
theorem w_627 : (Jvm.Cond.lays "LeasedViewStoreModel" "LeasedViewStoreModel" "waiting" "I") ∈ zWs := zWs_in (List.mem_append_right _ (List.mem_append_right _ (List.mem_append_left _ (List.mem_of_getElem? (i := 147) rfl)))) rfl
theorem w_629 : (Jvm.Cond.lays "LeasedViewStoreModel" "LeasedViewStoreModel" "order" "[I") ∈ zWs := zWs_in (List.mem_append_right _ (List.mem_append_right _ (List.mem_append_left _ (List.mem_of_getElem? (i := 149) rfl)))) rfl
theorem w_631 : (Jvm.Cond.lays "LeasedViewStoreModel" "LeasedViewStoreModel" "busy" "[Z") ∈ zWs := zWs_in (List.mem_append_right _ (List.mem_append_right _ (List.mem_append_left _ (List.mem_of_getElem? (i := 151) rfl)))) rfl
theorem w_633 : (Jvm.Cond.lays "LeasedViewStoreModel" "LeasedViewStoreModel" "kind" "[I") ∈ zWs := zWs_in (List.mem_append_right _ (List.mem_append_right _ (List.mem_append_left _ (List.mem_of_getElem? (i := 153) rfl)))) rfl
theorem w_635 : (Jvm.Cond.lays "LeasedViewStoreModel" "LeasedViewStoreModel" "to" "[I") ∈ zWs := zWs_in (List.mem_append_right _ (List.mem_append_right _ (List.mem_append_left _ (List.mem_of_getElem? (i := 155) rfl)))) rfl
theorem w_637 : (Jvm.Cond.lays "LeasedViewStoreModel" "LeasedViewStoreModel" "num" "[I") ∈ zWs := zWs_in (List.mem_append_right _ (List.mem_append_right _ (List.mem_append_left _ (List.mem_of_getElem? (i := 157) rfl)))) rfl
theorem w_639 : (Jvm.Cond.lays "LeasedViewStoreModel" "LeasedViewStoreModel" "pri" "[I") ∈ zWs := zWs_in (List.mem_append_right _ (List.mem_append_right _ (List.mem_append_left _ (List.mem_of_getElem? (i := 159) rfl)))) rfl
theorem w_641 : (Jvm.Cond.lays "LeasedViewStoreModel" "LeasedViewStoreModel" "back" "[I") ∈ zWs := zWs_in (List.mem_append_right _ (List.mem_append_right _ (List.mem_append_left _ (List.mem_of_getElem? (i := 161) rfl)))) rfl
theorem w_643 : (Jvm.Cond.lays "LeasedViewStoreModel" "LeasedViewStoreModel" "clock" "[I") ∈ zWs := zWs_in (List.mem_append_right _ (List.mem_append_right _ (List.mem_append_left _ (List.mem_of_getElem? (i := 163) rfl)))) rfl
theorem w_645 : (Jvm.Cond.lays "LeasedViewStoreModel" "LeasedViewStoreModel" "what" "[I") ∈ zWs := zWs_in (List.mem_append_right _ (List.mem_append_right _ (List.mem_append_left _ (List.mem_of_getElem? (i := 165) rfl)))) rfl
theorem w_647 : (Jvm.Cond.lays "LeasedViewStoreModel" "LeasedViewStoreModel" "result" "[I") ∈ zWs := zWs_in (List.mem_append_right _ (List.mem_append_right _ (List.mem_append_left _ (List.mem_of_getElem? (i := 167) rfl)))) rfl
theorem w_649 : (Jvm.Cond.lays "LeasedViewStoreModel" "LeasedViewStoreModel" "copy" "[S") ∈ zWs := zWs_in (List.mem_append_right _ (List.mem_append_right _ (List.mem_append_left _ (List.mem_of_getElem? (i := 169) rfl)))) rfl
theorem w_652 : (Jvm.Cond.arrayClass Jvm.ClassFile.FieldType.boolean) ∈ zWs := zWs_in (List.mem_append_right _ (List.mem_append_right _ (List.mem_append_left _ (List.mem_of_getElem? (i := 172) rfl)))) rfl
theorem w_653 : (Jvm.Cond.arrayClass Jvm.ClassFile.FieldType.short) ∈ zWs := zWs_in (List.mem_append_right _ (List.mem_append_right _ (List.mem_append_left _ (List.mem_of_getElem? (i := 173) rfl)))) rfl
theorem w_654 : (Jvm.Cond.methodLink "LeasedViewStoreLaw" (40 : Nat) ({ cls := "LeasedViewStoreModel", name := "check", desc := "()I" } : Jvm.MethodName)) ∈ zWs := zWs_in (List.mem_append_right _ (List.mem_append_right _ (List.mem_append_left _ (List.mem_of_getElem? (i := 174) rfl)))) rfl
theorem w_655 : (Jvm.Cond.instanceMethod ({ cls := "LeasedViewStoreModel", name := "check", desc := "()I" } : Jvm.MethodName)) ∈ zWs := zWs_in (List.mem_append_right _ (List.mem_append_right _ (List.mem_append_left _ (List.mem_of_getElem? (i := 175) rfl)))) rfl
theorem w_656 : (Jvm.Cond.selects "LeasedViewStoreModel" ({ cls := "LeasedViewStoreModel", name := "check", desc := "()I" } : Jvm.MethodName) ({ cls := "LeasedViewStoreModel", name := "check", desc := "()I" } : Jvm.MethodName)) ∈ zWs := zWs_in (List.mem_append_right _ (List.mem_append_right _ (List.mem_append_left _ (List.mem_of_getElem? (i := 176) rfl)))) rfl
theorem w_657 : (Jvm.Cond.code ({ cls := "LeasedViewStoreModel", name := "check", desc := "()I" } : Jvm.MethodName) prog_11_method_15_code (6 : Nat) (Option.some Jvm.ClassFile.FieldType.int)) ∈ zWs := zWs_in (List.mem_append_right _ (List.mem_append_right _ (List.mem_append_left _ (List.mem_of_getElem? (i := 177) rfl)))) rfl
theorem w_658 : (Jvm.Cond.methodLink "LeasedViewStoreModel" (134 : Nat) ({ cls := "LeasedViewStoreModel", name := "fresh", desc := "(I)Z" } : Jvm.MethodName)) ∈ zWs := zWs_in (List.mem_append_right _ (List.mem_append_right _ (List.mem_append_left _ (List.mem_of_getElem? (i := 178) rfl)))) rfl
theorem w_660 : (Jvm.Cond.instanceMethod ({ cls := "LeasedViewStoreModel", name := "fresh", desc := "(I)Z" } : Jvm.MethodName)) ∈ zWs := zWs_in (List.mem_append_right _ (List.mem_append_right _ (List.mem_append_left _ (List.mem_of_getElem? (i := 180) rfl)))) rfl
theorem w_661 : (Jvm.Cond.code ({ cls := "LeasedViewStoreModel", name := "fresh", desc := "(I)Z" } : Jvm.MethodName) prog_11_method_14_code (2 : Nat) (Option.some Jvm.ClassFile.FieldType.boolean)) ∈ zWs := zWs_in (List.mem_append_right _ (List.mem_append_right _ (List.mem_append_left _ (List.mem_of_getElem? (i := 181) rfl)))) rfl
theorem w_662 : (Jvm.Cond.methodLink "LeasedViewStoreLaw" (25 : Nat) ({ cls := "LeasedViewStoreModel", name := "advance", desc := "(I)I" } : Jvm.MethodName)) ∈ zWs := zWs_in (List.mem_append_right _ (List.mem_append_right _ (List.mem_append_left _ (List.mem_of_getElem? (i := 182) rfl)))) rfl
theorem w_663 : (Jvm.Cond.instanceMethod ({ cls := "LeasedViewStoreModel", name := "advance", desc := "(I)I" } : Jvm.MethodName)) ∈ zWs := zWs_in (List.mem_append_right _ (List.mem_append_right _ (List.mem_append_left _ (List.mem_of_getElem? (i := 183) rfl)))) rfl
theorem w_664 : (Jvm.Cond.selects "LeasedViewStoreModel" ({ cls := "LeasedViewStoreModel", name := "advance", desc := "(I)I" } : Jvm.MethodName) ({ cls := "LeasedViewStoreModel", name := "advance", desc := "(I)I" } : Jvm.MethodName)) ∈ zWs := zWs_in (List.mem_append_right _ (List.mem_append_right _ (List.mem_append_left _ (List.mem_of_getElem? (i := 184) rfl)))) rfl
theorem w_665 : (Jvm.Cond.code ({ cls := "LeasedViewStoreModel", name := "advance", desc := "(I)I" } : Jvm.MethodName) prog_11_method_16_code (2 : Nat) (Option.some Jvm.ClassFile.FieldType.int)) ∈ zWs := zWs_in (List.mem_append_right _ (List.mem_append_right _ (List.mem_append_left _ (List.mem_of_getElem? (i := 185) rfl)))) rfl
theorem w_666 : (Jvm.Cond.methodLink "LeasedViewStoreLaw" (30 : Nat) ({ cls := "LeasedViewStoreModel", name := "skew", desc := "(II)Z" } : Jvm.MethodName)) ∈ zWs := zWs_in (List.mem_append_right _ (List.mem_append_right _ (List.mem_append_left _ (List.mem_of_getElem? (i := 186) rfl)))) rfl
theorem w_667 : (Jvm.Cond.instanceMethod ({ cls := "LeasedViewStoreModel", name := "skew", desc := "(II)Z" } : Jvm.MethodName)) ∈ zWs := zWs_in (List.mem_append_right _ (List.mem_append_right _ (List.mem_append_left _ (List.mem_of_getElem? (i := 187) rfl)))) rfl
theorem w_668 : (Jvm.Cond.selects "LeasedViewStoreModel" ({ cls := "LeasedViewStoreModel", name := "skew", desc := "(II)Z" } : Jvm.MethodName) ({ cls := "LeasedViewStoreModel", name := "skew", desc := "(II)Z" } : Jvm.MethodName)) ∈ zWs := zWs_in (List.mem_append_right _ (List.mem_append_right _ (List.mem_append_left _ (List.mem_of_getElem? (i := 188) rfl)))) rfl
theorem w_669 : (Jvm.Cond.code ({ cls := "LeasedViewStoreModel", name := "skew", desc := "(II)Z" } : Jvm.MethodName) prog_11_method_17_code (3 : Nat) (Option.some Jvm.ClassFile.FieldType.boolean)) ∈ zWs := zWs_in (List.mem_append_right _ (List.mem_append_right _ (List.mem_append_left _ (List.mem_of_getElem? (i := 189) rfl)))) rfl
theorem w_670 : (Jvm.Cond.methodLink "LeasedViewStoreModel" (138 : Nat) ({ cls := "LeasedViewStoreModel", name := "noServer", desc := "(I)Z" } : Jvm.MethodName)) ∈ zWs := zWs_in (List.mem_append_right _ (List.mem_append_right _ (List.mem_append_left _ (List.mem_of_getElem? (i := 190) rfl)))) rfl
theorem w_672 : (Jvm.Cond.instanceMethod ({ cls := "LeasedViewStoreModel", name := "noServer", desc := "(I)Z" } : Jvm.MethodName)) ∈ zWs := zWs_in (List.mem_append_right _ (List.mem_append_right _ (List.mem_append_left _ (List.mem_of_getElem? (i := 192) rfl)))) rfl
theorem w_673 : (Jvm.Cond.code ({ cls := "LeasedViewStoreModel", name := "noServer", desc := "(I)Z" } : Jvm.MethodName) prog_11_method_2_code (2 : Nat) (Option.some Jvm.ClassFile.FieldType.boolean)) ∈ zWs := zWs_in (List.mem_append_right _ (List.mem_append_right _ (List.mem_append_left _ (List.mem_of_getElem? (i := 193) rfl)))) rfl
theorem w_674 : (Jvm.Cond.methodLink "LeasedViewStoreLaw" (35 : Nat) ({ cls := "LeasedViewStoreModel", name := "ping", desc := "(I)Z" } : Jvm.MethodName)) ∈ zWs := zWs_in (List.mem_append_right _ (List.mem_append_right _ (List.mem_append_left _ (List.mem_of_getElem? (i := 194) rfl)))) rfl
theorem w_675 : (Jvm.Cond.instanceMethod ({ cls := "LeasedViewStoreModel", name := "ping", desc := "(I)Z" } : Jvm.MethodName)) ∈ zWs := zWs_in (List.mem_append_right _ (List.mem_append_right _ (List.mem_append_left _ (List.mem_of_getElem? (i := 195) rfl)))) rfl
theorem w_676 : (Jvm.Cond.selects "LeasedViewStoreModel" ({ cls := "LeasedViewStoreModel", name := "ping", desc := "(I)Z" } : Jvm.MethodName) ({ cls := "LeasedViewStoreModel", name := "ping", desc := "(I)Z" } : Jvm.MethodName)) ∈ zWs := zWs_in (List.mem_append_right _ (List.mem_append_right _ (List.mem_append_left _ (List.mem_of_getElem? (i := 196) rfl)))) rfl
theorem w_677 : (Jvm.Cond.code ({ cls := "LeasedViewStoreModel", name := "ping", desc := "(I)Z" } : Jvm.MethodName) prog_11_method_18_code (3 : Nat) (Option.some Jvm.ClassFile.FieldType.boolean)) ∈ zWs := zWs_in (List.mem_append_right _ (List.mem_append_right _ (List.mem_append_left _ (List.mem_of_getElem? (i := 197) rfl)))) rfl
theorem w_678 : (Jvm.Cond.methodLink "LeasedViewStoreModel" (115 : Nat) ({ cls := "LeasedViewStoreModel", name := "post", desc := "(II)I" } : Jvm.MethodName)) ∈ zWs := zWs_in (List.mem_append_right _ (List.mem_append_right _ (List.mem_append_left _ (List.mem_of_getElem? (i := 198) rfl)))) rfl
theorem w_680 : (Jvm.Cond.instanceMethod ({ cls := "LeasedViewStoreModel", name := "post", desc := "(II)I" } : Jvm.MethodName)) ∈ zWs := zWs_in (List.mem_append_right _ (List.mem_append_right _ (List.mem_append_left _ (List.mem_of_getElem? (i := 200) rfl)))) rfl
theorem w_681 : (Jvm.Cond.code ({ cls := "LeasedViewStoreModel", name := "post", desc := "(II)I" } : Jvm.MethodName) prog_11_method_4_code (4 : Nat) (Option.some Jvm.ClassFile.FieldType.int)) ∈ zWs := zWs_in (List.mem_append_right _ (List.mem_append_right _ (List.mem_append_left _ (List.mem_of_getElem? (i := 201) rfl)))) rfl
theorem w_682 : (Jvm.Cond.methodLink "LeasedViewStoreModel" (141 : Nat) ({ cls := "LeasedViewStoreModel", name := "leads", desc := "(I)Z" } : Jvm.MethodName)) ∈ zWs := zWs_in (List.mem_append_right _ (List.mem_append_right _ (List.mem_append_left _ (List.mem_of_getElem? (i := 202) rfl)))) rfl
theorem w_684 : (Jvm.Cond.instanceMethod ({ cls := "LeasedViewStoreModel", name := "leads", desc := "(I)Z" } : Jvm.MethodName)) ∈ zWs := zWs_in (List.mem_append_right _ (List.mem_append_right _ (List.mem_append_left _ (List.mem_of_getElem? (i := 204) rfl)))) rfl
theorem w_685 : (Jvm.Cond.code ({ cls := "LeasedViewStoreModel", name := "leads", desc := "(I)Z" } : Jvm.MethodName) prog_11_method_12_code (2 : Nat) (Option.some Jvm.ClassFile.FieldType.boolean)) ∈ zWs := zWs_in (List.mem_append_right _ (List.mem_append_right _ (List.mem_append_left _ (List.mem_of_getElem? (i := 205) rfl)))) rfl
theorem w_686 : (Jvm.Cond.methodLink "LeasedViewStoreLaw" (44 : Nat) ({ cls := "LeasedViewStoreModel", name := "push", desc := "(I)Z" } : Jvm.MethodName)) ∈ zWs := zWs_in (List.mem_append_right _ (List.mem_append_right _ (List.mem_append_left _ (List.mem_of_getElem? (i := 206) rfl)))) rfl
theorem w_687 : (Jvm.Cond.instanceMethod ({ cls := "LeasedViewStoreModel", name := "push", desc := "(I)Z" } : Jvm.MethodName)) ∈ zWs := zWs_in (List.mem_append_right _ (List.mem_append_right _ (List.mem_append_left _ (List.mem_of_getElem? (i := 207) rfl)))) rfl
theorem w_688 : (Jvm.Cond.selects "LeasedViewStoreModel" ({ cls := "LeasedViewStoreModel", name := "push", desc := "(I)Z" } : Jvm.MethodName) ({ cls := "LeasedViewStoreModel", name := "push", desc := "(I)Z" } : Jvm.MethodName)) ∈ zWs := zWs_in (List.mem_append_right _ (List.mem_append_right _ (List.mem_append_left _ (List.mem_of_getElem? (i := 208) rfl)))) rfl
theorem w_689 : (Jvm.Cond.code ({ cls := "LeasedViewStoreModel", name := "push", desc := "(I)Z" } : Jvm.MethodName) prog_11_method_19_code (2 : Nat) (Option.some Jvm.ClassFile.FieldType.boolean)) ∈ zWs := zWs_in (List.mem_append_right _ (List.mem_append_right _ (List.mem_append_left _ (List.mem_of_getElem? (i := 209) rfl)))) rfl
theorem w_690 : (Jvm.Cond.methodLink "LeasedViewStoreModel" (123 : Nat) ({ cls := "LeasedViewStoreModel", name := "sendFill", desc := "(I)V" } : Jvm.MethodName)) ∈ zWs := zWs_in (List.mem_append_right _ (List.mem_append_right _ (List.mem_append_left _ (List.mem_of_getElem? (i := 210) rfl)))) rfl
theorem w_692 : (Jvm.Cond.instanceMethod ({ cls := "LeasedViewStoreModel", name := "sendFill", desc := "(I)V" } : Jvm.MethodName)) ∈ zWs := zWs_in (List.mem_append_right _ (List.mem_append_right _ (List.mem_append_left _ (List.mem_of_getElem? (i := 212) rfl)))) rfl
theorem w_693 : (Jvm.Cond.code ({ cls := "LeasedViewStoreModel", name := "sendFill", desc := "(I)V" } : Jvm.MethodName) prog_11_method_7_code (4 : Nat) (Option.none : Option Jvm.ClassFile.FieldType)) ∈ zWs := zWs_in (List.mem_append_right _ (List.mem_append_right _ (List.mem_append_left _ (List.mem_of_getElem? (i := 213) rfl)))) rfl
theorem w_694 : (Jvm.Cond.methodLink "LeasedViewStoreModel" (144 : Nat) ({ cls := "LeasedViewStoreModel", name := "sendPass", desc := "(I)V" } : Jvm.MethodName)) ∈ zWs := zWs_in (List.mem_append_right _ (List.mem_append_right _ (List.mem_append_left _ (List.mem_of_getElem? (i := 214) rfl)))) rfl
theorem w_696 : (Jvm.Cond.instanceMethod ({ cls := "LeasedViewStoreModel", name := "sendPass", desc := "(I)V" } : Jvm.MethodName)) ∈ zWs := zWs_in (List.mem_append_right _ (List.mem_append_right _ (List.mem_append_left _ (List.mem_of_getElem? (i := 216) rfl)))) rfl
theorem w_697 : (Jvm.Cond.code ({ cls := "LeasedViewStoreModel", name := "sendPass", desc := "(I)V" } : Jvm.MethodName) prog_11_method_8_code (3 : Nat) (Option.none : Option Jvm.ClassFile.FieldType)) ∈ zWs := zWs_in (List.mem_append_right _ (List.mem_append_right _ (List.mem_append_left _ (List.mem_of_getElem? (i := 217) rfl)))) rfl
theorem w_698 : (Jvm.Cond.methodLink "LeasedViewStoreLaw" (49 : Nat) ({ cls := "LeasedViewStoreModel", name := "begin", desc := "(IZII)I" } : Jvm.MethodName)) ∈ zWs := zWs_in (List.mem_append_right _ (List.mem_append_right _ (List.mem_append_left _ (List.mem_of_getElem? (i := 218) rfl)))) rfl
theorem w_699 : (Jvm.Cond.instanceMethod ({ cls := "LeasedViewStoreModel", name := "begin", desc := "(IZII)I" } : Jvm.MethodName)) ∈ zWs := zWs_in (List.mem_append_right _ (List.mem_append_right _ (List.mem_append_left _ (List.mem_of_getElem? (i := 219) rfl)))) rfl
theorem w_700 : (Jvm.Cond.selects "LeasedViewStoreModel" ({ cls := "LeasedViewStoreModel", name := "begin", desc := "(IZII)I" } : Jvm.MethodName) ({ cls := "LeasedViewStoreModel", name := "begin", desc := "(IZII)I" } : Jvm.MethodName)) ∈ zWs := zWs_in (List.mem_append_right _ (List.mem_append_right _ (List.mem_append_left _ (List.mem_of_getElem? (i := 220) rfl)))) rfl
theorem w_701 : (Jvm.Cond.code ({ cls := "LeasedViewStoreModel", name := "begin", desc := "(IZII)I" } : Jvm.MethodName) prog_11_method_20_code (5 : Nat) (Option.some Jvm.ClassFile.FieldType.int)) ∈ zWs := zWs_in (List.mem_append_right _ (List.mem_append_right _ (List.mem_append_left _ (List.mem_of_getElem? (i := 221) rfl)))) rfl
theorem w_702 : (Jvm.Cond.methodLink "LeasedViewStoreModel" (147 : Nat) ({ cls := "LeasedViewStoreModel", name := "noClient", desc := "(I)Z" } : Jvm.MethodName)) ∈ zWs := zWs_in (List.mem_append_right _ (List.mem_append_right _ (List.mem_append_left _ (List.mem_of_getElem? (i := 222) rfl)))) rfl
theorem w_704 : (Jvm.Cond.instanceMethod ({ cls := "LeasedViewStoreModel", name := "noClient", desc := "(I)Z" } : Jvm.MethodName)) ∈ zWs := zWs_in (List.mem_append_right _ (List.mem_append_right _ (List.mem_append_left _ (List.mem_of_getElem? (i := 224) rfl)))) rfl
theorem w_705 : (Jvm.Cond.code ({ cls := "LeasedViewStoreModel", name := "noClient", desc := "(I)Z" } : Jvm.MethodName) prog_11_method_3_code (2 : Nat) (Option.some Jvm.ClassFile.FieldType.boolean)) ∈ zWs := zWs_in (List.mem_append_right _ (List.mem_append_right _ (List.mem_append_left _ (List.mem_of_getElem? (i := 225) rfl)))) rfl
theorem w_706 : (Jvm.Cond.methodLink "LeasedViewStoreLaw" (53 : Nat) ({ cls := "LeasedViewStoreModel", name := "send", desc := "(II)Z" } : Jvm.MethodName)) ∈ zWs := zWs_in (List.mem_append_right _ (List.mem_append_right _ (List.mem_append_left _ (List.mem_of_getElem? (i := 226) rfl)))) rfl
theorem w_707 : (Jvm.Cond.instanceMethod ({ cls := "LeasedViewStoreModel", name := "send", desc := "(II)Z" } : Jvm.MethodName)) ∈ zWs := zWs_in (List.mem_append_right _ (List.mem_append_right _ (List.mem_append_left _ (List.mem_of_getElem? (i := 227) rfl)))) rfl
theorem w_708 : (Jvm.Cond.selects "LeasedViewStoreModel" ({ cls := "LeasedViewStoreModel", name := "send", desc := "(II)Z" } : Jvm.MethodName) ({ cls := "LeasedViewStoreModel", name := "send", desc := "(II)Z" } : Jvm.MethodName)) ∈ zWs := zWs_in (List.mem_append_right _ (List.mem_append_right _ (List.mem_append_left _ (List.mem_of_getElem? (i := 228) rfl)))) rfl
theorem w_709 : (Jvm.Cond.code ({ cls := "LeasedViewStoreModel", name := "send", desc := "(II)Z" } : Jvm.MethodName) prog_11_method_21_code (4 : Nat) (Option.some Jvm.ClassFile.FieldType.boolean)) ∈ zWs := zWs_in (List.mem_append_right _ (List.mem_append_right _ (List.mem_append_left _ (List.mem_of_getElem? (i := 229) rfl)))) rfl
theorem w_710 : (Jvm.Cond.methodLink "LeasedViewStoreLaw" (61 : Nat) ({ cls := "LeasedViewStoreModel", name := "lose", desc := "(I)Z" } : Jvm.MethodName)) ∈ zWs := zWs_in (List.mem_append_right _ (List.mem_append_right _ (List.mem_append_left _ (List.mem_of_getElem? (i := 230) rfl)))) rfl
theorem w_711 : (Jvm.Cond.instanceMethod ({ cls := "LeasedViewStoreModel", name := "lose", desc := "(I)Z" } : Jvm.MethodName)) ∈ zWs := zWs_in (List.mem_append_right _ (List.mem_append_right _ (List.mem_append_left _ (List.mem_of_getElem? (i := 231) rfl)))) rfl
theorem w_712 : (Jvm.Cond.selects "LeasedViewStoreModel" ({ cls := "LeasedViewStoreModel", name := "lose", desc := "(I)Z" } : Jvm.MethodName) ({ cls := "LeasedViewStoreModel", name := "lose", desc := "(I)Z" } : Jvm.MethodName)) ∈ zWs := zWs_in (List.mem_append_right _ (List.mem_append_right _ (List.mem_append_left _ (List.mem_of_getElem? (i := 232) rfl)))) rfl
theorem w_713 : (Jvm.Cond.code ({ cls := "LeasedViewStoreModel", name := "lose", desc := "(I)Z" } : Jvm.MethodName) prog_11_method_22_code (3 : Nat) (Option.some Jvm.ClassFile.FieldType.boolean)) ∈ zWs := zWs_in (List.mem_append_right _ (List.mem_append_right _ (List.mem_append_left _ (List.mem_of_getElem? (i := 233) rfl)))) rfl
theorem w_714 : (Jvm.Cond.methodLink "LeasedViewStoreModel" (153 : Nat) ({ cls := "LeasedViewStoreModel", name := "take", desc := "(I)I" } : Jvm.MethodName)) ∈ zWs := zWs_in (List.mem_append_right _ (List.mem_append_right _ (List.mem_append_left _ (List.mem_of_getElem? (i := 234) rfl)))) rfl
theorem w_716 : (Jvm.Cond.instanceMethod ({ cls := "LeasedViewStoreModel", name := "take", desc := "(I)I" } : Jvm.MethodName)) ∈ zWs := zWs_in (List.mem_append_right _ (List.mem_append_right _ (List.mem_append_left _ (List.mem_of_getElem? (i := 236) rfl)))) rfl
theorem w_717 : (Jvm.Cond.code ({ cls := "LeasedViewStoreModel", name := "take", desc := "(I)I" } : Jvm.MethodName) prog_11_method_5_code (4 : Nat) (Option.some Jvm.ClassFile.FieldType.int)) ∈ zWs := zWs_in (List.mem_append_right _ (List.mem_append_right _ (List.mem_append_left _ (List.mem_of_getElem? (i := 237) rfl)))) rfl
theorem w_718 : (Jvm.Cond.methodLink "LeasedViewStoreLaw" (65 : Nat) ({ cls := "LeasedViewStoreModel", name := "crash", desc := "(I)Z" } : Jvm.MethodName)) ∈ zWs := zWs_in (List.mem_append_right _ (List.mem_append_right _ (List.mem_append_left _ (List.mem_of_getElem? (i := 238) rfl)))) rfl
theorem w_719 : (Jvm.Cond.instanceMethod ({ cls := "LeasedViewStoreModel", name := "crash", desc := "(I)Z" } : Jvm.MethodName)) ∈ zWs := zWs_in (List.mem_append_right _ (List.mem_append_right _ (List.mem_append_left _ (List.mem_of_getElem? (i := 239) rfl)))) rfl
theorem w_720 : (Jvm.Cond.selects "LeasedViewStoreModel" ({ cls := "LeasedViewStoreModel", name := "crash", desc := "(I)Z" } : Jvm.MethodName) ({ cls := "LeasedViewStoreModel", name := "crash", desc := "(I)Z" } : Jvm.MethodName)) ∈ zWs := zWs_in (List.mem_append_right _ (List.mem_append_right _ (List.mem_append_right _ (List.mem_of_getElem? (i := 0) rfl)))) rfl
theorem w_721 : (Jvm.Cond.code ({ cls := "LeasedViewStoreModel", name := "crash", desc := "(I)Z" } : Jvm.MethodName) prog_11_method_23_code (2 : Nat) (Option.some Jvm.ClassFile.FieldType.boolean)) ∈ zWs := zWs_in (List.mem_append_right _ (List.mem_append_right _ (List.mem_append_right _ (List.mem_of_getElem? (i := 1) rfl)))) rfl
theorem w_722 : (Jvm.Cond.methodLink "LeasedViewStoreLaw" (57 : Nat) ({ cls := "LeasedViewStoreModel", name := "deliver", desc := "(I)I" } : Jvm.MethodName)) ∈ zWs := zWs_in (List.mem_append_right _ (List.mem_append_right _ (List.mem_append_right _ (List.mem_of_getElem? (i := 2) rfl)))) rfl
theorem w_723 : (Jvm.Cond.instanceMethod ({ cls := "LeasedViewStoreModel", name := "deliver", desc := "(I)I" } : Jvm.MethodName)) ∈ zWs := zWs_in (List.mem_append_right _ (List.mem_append_right _ (List.mem_append_right _ (List.mem_of_getElem? (i := 3) rfl)))) rfl
theorem w_724 : (Jvm.Cond.selects "LeasedViewStoreModel" ({ cls := "LeasedViewStoreModel", name := "deliver", desc := "(I)I" } : Jvm.MethodName) ({ cls := "LeasedViewStoreModel", name := "deliver", desc := "(I)I" } : Jvm.MethodName)) ∈ zWs := zWs_in (List.mem_append_right _ (List.mem_append_right _ (List.mem_append_right _ (List.mem_of_getElem? (i := 4) rfl)))) rfl
theorem w_725 : (Jvm.Cond.code ({ cls := "LeasedViewStoreModel", name := "deliver", desc := "(I)I" } : Jvm.MethodName) prog_11_method_24_code (5 : Nat) (Option.some Jvm.ClassFile.FieldType.int)) ∈ zWs := zWs_in (List.mem_append_right _ (List.mem_append_right _ (List.mem_append_right _ (List.mem_of_getElem? (i := 5) rfl)))) rfl
theorem w_726 : (Jvm.Cond.methodLink "LeasedViewStoreModel" (157 : Nat) ({ cls := "LeasedViewStoreModel", name := "arrive", desc := "(II)Z" } : Jvm.MethodName)) ∈ zWs := zWs_in (List.mem_append_right _ (List.mem_append_right _ (List.mem_append_right _ (List.mem_of_getElem? (i := 6) rfl)))) rfl
theorem w_728 : (Jvm.Cond.instanceMethod ({ cls := "LeasedViewStoreModel", name := "arrive", desc := "(II)Z" } : Jvm.MethodName)) ∈ zWs := zWs_in (List.mem_append_right _ (List.mem_append_right _ (List.mem_append_right _ (List.mem_of_getElem? (i := 8) rfl)))) rfl
theorem w_729 : (Jvm.Cond.code ({ cls := "LeasedViewStoreModel", name := "arrive", desc := "(II)Z" } : Jvm.MethodName) prog_11_method_25_code (4 : Nat) (Option.some Jvm.ClassFile.FieldType.boolean)) ∈ zWs := zWs_in (List.mem_append_right _ (List.mem_append_right _ (List.mem_append_right _ (List.mem_of_getElem? (i := 9) rfl)))) rfl
theorem w_730 : (Jvm.Cond.methodLink "LeasedViewStoreModel" (161 : Nat) ({ cls := "LeasedViewStoreModel", name := "hear", desc := "(II)V" } : Jvm.MethodName)) ∈ zWs := zWs_in (List.mem_append_right _ (List.mem_append_right _ (List.mem_append_right _ (List.mem_of_getElem? (i := 10) rfl)))) rfl
theorem w_732 : (Jvm.Cond.instanceMethod ({ cls := "LeasedViewStoreModel", name := "hear", desc := "(II)V" } : Jvm.MethodName)) ∈ zWs := zWs_in (List.mem_append_right _ (List.mem_append_right _ (List.mem_append_right _ (List.mem_of_getElem? (i := 12) rfl)))) rfl
theorem w_733 : (Jvm.Cond.code ({ cls := "LeasedViewStoreModel", name := "hear", desc := "(II)V" } : Jvm.MethodName) prog_11_method_26_code (4 : Nat) (Option.none : Option Jvm.ClassFile.FieldType)) ∈ zWs := zWs_in (List.mem_append_right _ (List.mem_append_right _ (List.mem_append_right _ (List.mem_of_getElem? (i := 13) rfl)))) rfl
theorem w_734 : (Jvm.Cond.methodLink "LeasedViewStoreModel" (165 : Nat) ({ cls := "LeasedViewStoreModel", name := "see", desc := "(II)Z" } : Jvm.MethodName)) ∈ zWs := zWs_in (List.mem_append_right _ (List.mem_append_right _ (List.mem_append_right _ (List.mem_of_getElem? (i := 14) rfl)))) rfl
theorem w_736 : (Jvm.Cond.instanceMethod ({ cls := "LeasedViewStoreModel", name := "see", desc := "(II)Z" } : Jvm.MethodName)) ∈ zWs := zWs_in (List.mem_append_right _ (List.mem_append_right _ (List.mem_append_right _ (List.mem_of_getElem? (i := 16) rfl)))) rfl
theorem w_737 : (Jvm.Cond.code ({ cls := "LeasedViewStoreModel", name := "see", desc := "(II)Z" } : Jvm.MethodName) prog_11_method_27_code (3 : Nat) (Option.some Jvm.ClassFile.FieldType.boolean)) ∈ zWs := zWs_in (List.mem_append_right _ (List.mem_append_right _ (List.mem_append_right _ (List.mem_of_getElem? (i := 17) rfl)))) rfl
theorem w_738 : (Jvm.Cond.methodLink "LeasedViewStoreModel" (183 : Nat) ({ cls := "LeasedViewStoreModel", name := "enter", desc := "(IIII)V" } : Jvm.MethodName)) ∈ zWs := zWs_in (List.mem_append_right _ (List.mem_append_right _ (List.mem_append_right _ (List.mem_of_getElem? (i := 18) rfl)))) rfl
theorem w_740 : (Jvm.Cond.instanceMethod ({ cls := "LeasedViewStoreModel", name := "enter", desc := "(IIII)V" } : Jvm.MethodName)) ∈ zWs := zWs_in (List.mem_append_right _ (List.mem_append_right _ (List.mem_append_right _ (List.mem_of_getElem? (i := 20) rfl)))) rfl
theorem w_741 : (Jvm.Cond.code ({ cls := "LeasedViewStoreModel", name := "enter", desc := "(IIII)V" } : Jvm.MethodName) prog_11_method_13_code (5 : Nat) (Option.none : Option Jvm.ClassFile.FieldType)) ∈ zWs := zWs_in (List.mem_append_right _ (List.mem_append_right _ (List.mem_append_right _ (List.mem_of_getElem? (i := 21) rfl)))) rfl
theorem w_742 : (Jvm.Cond.methodLink "LeasedViewStoreModel" (168 : Nat) ({ cls := "LeasedViewStoreModel", name := "fill", desc := "(II)Z" } : Jvm.MethodName)) ∈ zWs := zWs_in (List.mem_append_right _ (List.mem_append_right _ (List.mem_append_right _ (List.mem_of_getElem? (i := 22) rfl)))) rfl
theorem w_744 : (Jvm.Cond.instanceMethod ({ cls := "LeasedViewStoreModel", name := "fill", desc := "(II)Z" } : Jvm.MethodName)) ∈ zWs := zWs_in (List.mem_append_right _ (List.mem_append_right _ (List.mem_append_right _ (List.mem_of_getElem? (i := 24) rfl)))) rfl
theorem w_745 : (Jvm.Cond.code ({ cls := "LeasedViewStoreModel", name := "fill", desc := "(II)Z" } : Jvm.MethodName) prog_11_method_28_code (4 : Nat) (Option.some Jvm.ClassFile.FieldType.boolean)) ∈ zWs := zWs_in (List.mem_append_right _ (List.mem_append_right _ (List.mem_append_right _ (List.mem_of_getElem? (i := 25) rfl)))) rfl
theorem w_746 : (Jvm.Cond.methodLink "LeasedViewStoreModel" (171 : Nat) ({ cls := "LeasedViewStoreModel", name := "filledBack", desc := "(II)Z" } : Jvm.MethodName)) ∈ zWs := zWs_in (List.mem_append_right _ (List.mem_append_right _ (List.mem_append_right _ (List.mem_of_getElem? (i := 26) rfl)))) rfl
theorem w_748 : (Jvm.Cond.instanceMethod ({ cls := "LeasedViewStoreModel", name := "filledBack", desc := "(II)Z" } : Jvm.MethodName)) ∈ zWs := zWs_in (List.mem_append_right _ (List.mem_append_right _ (List.mem_append_right _ (List.mem_of_getElem? (i := 28) rfl)))) rfl
theorem w_749 : (Jvm.Cond.code ({ cls := "LeasedViewStoreModel", name := "filledBack", desc := "(II)Z" } : Jvm.MethodName) prog_11_method_29_code (3 : Nat) (Option.some Jvm.ClassFile.FieldType.boolean)) ∈ zWs := zWs_in (List.mem_append_right _ (List.mem_append_right _ (List.mem_append_right _ (List.mem_of_getElem? (i := 29) rfl)))) rfl
theorem w_750 : (Jvm.Cond.methodLink "LeasedViewStoreModel" (174 : Nat) ({ cls := "LeasedViewStoreModel", name := "pass", desc := "(II)Z" } : Jvm.MethodName)) ∈ zWs := zWs_in (List.mem_append_right _ (List.mem_append_right _ (List.mem_append_right _ (List.mem_of_getElem? (i := 30) rfl)))) rfl
theorem w_752 : (Jvm.Cond.instanceMethod ({ cls := "LeasedViewStoreModel", name := "pass", desc := "(II)Z" } : Jvm.MethodName)) ∈ zWs := zWs_in (List.mem_append_right _ (List.mem_append_right _ (List.mem_append_right _ (List.mem_of_getElem? (i := 32) rfl)))) rfl
theorem w_753 : (Jvm.Cond.code ({ cls := "LeasedViewStoreModel", name := "pass", desc := "(II)Z" } : Jvm.MethodName) prog_11_method_30_code (5 : Nat) (Option.some Jvm.ClassFile.FieldType.boolean)) ∈ zWs := zWs_in (List.mem_append_right _ (List.mem_append_right _ (List.mem_append_right _ (List.mem_of_getElem? (i := 33) rfl)))) rfl
theorem w_754 : (Jvm.Cond.methodLink "LeasedViewStoreModel" (187 : Nat) ({ cls := "LeasedViewStoreModel", name := "perform", desc := "(II)I" } : Jvm.MethodName)) ∈ zWs := zWs_in (List.mem_append_right _ (List.mem_append_right _ (List.mem_append_right _ (List.mem_of_getElem? (i := 34) rfl)))) rfl
theorem w_756 : (Jvm.Cond.instanceMethod ({ cls := "LeasedViewStoreModel", name := "perform", desc := "(II)I" } : Jvm.MethodName)) ∈ zWs := zWs_in (List.mem_append_right _ (List.mem_append_right _ (List.mem_append_right _ (List.mem_of_getElem? (i := 36) rfl)))) rfl
theorem w_757 : (Jvm.Cond.code ({ cls := "LeasedViewStoreModel", name := "perform", desc := "(II)I" } : Jvm.MethodName) prog_11_method_11_code (4 : Nat) (Option.some Jvm.ClassFile.FieldType.int)) ∈ zWs := zWs_in (List.mem_append_right _ (List.mem_append_right _ (List.mem_append_right _ (List.mem_of_getElem? (i := 37) rfl)))) rfl
theorem w_758 : (Jvm.Cond.methodLink "LeasedViewStoreModel" (119 : Nat) ({ cls := "LeasedViewStoreModel", name := "held", desc := "(III)I" } : Jvm.MethodName)) ∈ zWs := zWs_in (List.mem_append_right _ (List.mem_append_right _ (List.mem_append_right _ (List.mem_of_getElem? (i := 38) rfl)))) rfl
theorem w_760 : (Jvm.Cond.instanceMethod ({ cls := "LeasedViewStoreModel", name := "held", desc := "(III)I" } : Jvm.MethodName)) ∈ zWs := zWs_in (List.mem_append_right _ (List.mem_append_right _ (List.mem_append_right _ (List.mem_of_getElem? (i := 40) rfl)))) rfl
theorem w_761 : (Jvm.Cond.code ({ cls := "LeasedViewStoreModel", name := "held", desc := "(III)I" } : Jvm.MethodName) prog_11_method_9_code (6 : Nat) (Option.some Jvm.ClassFile.FieldType.int)) ∈ zWs := zWs_in (List.mem_append_right _ (List.mem_append_right _ (List.mem_append_right _ (List.mem_of_getElem? (i := 41) rfl)))) rfl
theorem w_762 : (Jvm.Cond.methodLink "LeasedViewStoreModel" (177 : Nat) ({ cls := "LeasedViewStoreModel", name := "passed", desc := "(II)Z" } : Jvm.MethodName)) ∈ zWs := zWs_in (List.mem_append_right _ (List.mem_append_right _ (List.mem_append_right _ (List.mem_of_getElem? (i := 42) rfl)))) rfl
theorem w_764 : (Jvm.Cond.instanceMethod ({ cls := "LeasedViewStoreModel", name := "passed", desc := "(II)Z" } : Jvm.MethodName)) ∈ zWs := zWs_in (List.mem_append_right _ (List.mem_append_right _ (List.mem_append_right _ (List.mem_of_getElem? (i := 44) rfl)))) rfl
theorem w_765 : (Jvm.Cond.code ({ cls := "LeasedViewStoreModel", name := "passed", desc := "(II)Z" } : Jvm.MethodName) prog_11_method_31_code (5 : Nat) (Option.some Jvm.ClassFile.FieldType.boolean)) ∈ zWs := zWs_in (List.mem_append_right _ (List.mem_append_right _ (List.mem_append_right _ (List.mem_of_getElem? (i := 45) rfl)))) rfl
theorem w_766 : (Jvm.Cond.methodLink "LeasedViewStoreModel" (190 : Nat) ({ cls := "LeasedViewStoreModel", name := "answer", desc := "(II)V" } : Jvm.MethodName)) ∈ zWs := zWs_in (List.mem_append_right _ (List.mem_append_right _ (List.mem_append_right _ (List.mem_of_getElem? (i := 46) rfl)))) rfl
theorem w_768 : (Jvm.Cond.instanceMethod ({ cls := "LeasedViewStoreModel", name := "answer", desc := "(II)V" } : Jvm.MethodName)) ∈ zWs := zWs_in (List.mem_append_right _ (List.mem_append_right _ (List.mem_append_right _ (List.mem_of_getElem? (i := 48) rfl)))) rfl
theorem w_769 : (Jvm.Cond.code ({ cls := "LeasedViewStoreModel", name := "answer", desc := "(II)V" } : Jvm.MethodName) prog_11_method_6_code (4 : Nat) (Option.none : Option Jvm.ClassFile.FieldType)) ∈ zWs := zWs_in (List.mem_append_right _ (List.mem_append_right _ (List.mem_append_right _ (List.mem_of_getElem? (i := 49) rfl)))) rfl
theorem w_770 : (Jvm.Cond.methodLink "LeasedViewStoreModel" (180 : Nat) ({ cls := "LeasedViewStoreModel", name := "ask", desc := "(II)Z" } : Jvm.MethodName)) ∈ zWs := zWs_in (List.mem_append_right _ (List.mem_append_right _ (List.mem_append_right _ (List.mem_of_getElem? (i := 50) rfl)))) rfl
theorem w_772 : (Jvm.Cond.instanceMethod ({ cls := "LeasedViewStoreModel", name := "ask", desc := "(II)Z" } : Jvm.MethodName)) ∈ zWs := zWs_in (List.mem_append_right _ (List.mem_append_right _ (List.mem_append_right _ (List.mem_of_getElem? (i := 52) rfl)))) rfl
theorem w_773 : (Jvm.Cond.code ({ cls := "LeasedViewStoreModel", name := "ask", desc := "(II)Z" } : Jvm.MethodName) prog_11_method_32_code (6 : Nat) (Option.some Jvm.ClassFile.FieldType.boolean)) ∈ zWs := zWs_in (List.mem_append_right _ (List.mem_append_right _ (List.mem_append_right _ (List.mem_of_getElem? (i := 53) rfl)))) rfl
theorem w_774 : (Jvm.Cond.methodLink "LeasedViewStoreModel" (193 : Nat) ({ cls := "LeasedViewStoreModel", name := "latest", desc := "(II)I" } : Jvm.MethodName)) ∈ zWs := zWs_in (List.mem_append_right _ (List.mem_append_right _ (List.mem_append_right _ (List.mem_of_getElem? (i := 54) rfl)))) rfl
theorem w_776 : (Jvm.Cond.instanceMethod ({ cls := "LeasedViewStoreModel", name := "latest", desc := "(II)I" } : Jvm.MethodName)) ∈ zWs := zWs_in (List.mem_append_right _ (List.mem_append_right _ (List.mem_append_right _ (List.mem_of_getElem? (i := 56) rfl)))) rfl
theorem w_777 : (Jvm.Cond.code ({ cls := "LeasedViewStoreModel", name := "latest", desc := "(II)I" } : Jvm.MethodName) prog_11_method_10_code (4 : Nat) (Option.some Jvm.ClassFile.FieldType.int)) ∈ zWs := zWs_in (List.mem_append_right _ (List.mem_append_right _ (List.mem_append_right _ (List.mem_of_getElem? (i := 57) rfl)))) rfl
theorem w_778 : (Jvm.Cond.methodLink "LeasedViewStoreLaw" (69 : Nat) ({ cls := "LeasedViewStoreModel", name := "letters", desc := "()I" } : Jvm.MethodName)) ∈ zWs := zWs_in (List.mem_append_right _ (List.mem_append_right _ (List.mem_append_right _ (List.mem_of_getElem? (i := 58) rfl)))) rfl
theorem w_779 : (Jvm.Cond.instanceMethod ({ cls := "LeasedViewStoreModel", name := "letters", desc := "()I" } : Jvm.MethodName)) ∈ zWs := zWs_in (List.mem_append_right _ (List.mem_append_right _ (List.mem_append_right _ (List.mem_of_getElem? (i := 59) rfl)))) rfl
theorem w_780 : (Jvm.Cond.selects "LeasedViewStoreModel" ({ cls := "LeasedViewStoreModel", name := "letters", desc := "()I" } : Jvm.MethodName) ({ cls := "LeasedViewStoreModel", name := "letters", desc := "()I" } : Jvm.MethodName)) ∈ zWs := zWs_in (List.mem_append_right _ (List.mem_append_right _ (List.mem_append_right _ (List.mem_of_getElem? (i := 60) rfl)))) rfl
theorem w_781 : (Jvm.Cond.code ({ cls := "LeasedViewStoreModel", name := "letters", desc := "()I" } : Jvm.MethodName) prog_11_method_33_code (1 : Nat) (Option.some Jvm.ClassFile.FieldType.int)) ∈ zWs := zWs_in (List.mem_append_right _ (List.mem_append_right _ (List.mem_append_right _ (List.mem_of_getElem? (i := 61) rfl)))) rfl
theorem w_782 : (Jvm.Cond.methodLink "LeasedViewStoreLaw" (73 : Nat) ({ cls := "LeasedViewStoreModel", name := "letter", desc := "(I)I" } : Jvm.MethodName)) ∈ zWs := zWs_in (List.mem_append_right _ (List.mem_append_right _ (List.mem_append_right _ (List.mem_of_getElem? (i := 62) rfl)))) rfl
theorem w_783 : (Jvm.Cond.instanceMethod ({ cls := "LeasedViewStoreModel", name := "letter", desc := "(I)I" } : Jvm.MethodName)) ∈ zWs := zWs_in (List.mem_append_right _ (List.mem_append_right _ (List.mem_append_right _ (List.mem_of_getElem? (i := 63) rfl)))) rfl
theorem w_784 : (Jvm.Cond.selects "LeasedViewStoreModel" ({ cls := "LeasedViewStoreModel", name := "letter", desc := "(I)I" } : Jvm.MethodName) ({ cls := "LeasedViewStoreModel", name := "letter", desc := "(I)I" } : Jvm.MethodName)) ∈ zWs := zWs_in (List.mem_append_right _ (List.mem_append_right _ (List.mem_append_right _ (List.mem_of_getElem? (i := 64) rfl)))) rfl
theorem w_785 : (Jvm.Cond.code ({ cls := "LeasedViewStoreModel", name := "letter", desc := "(I)I" } : Jvm.MethodName) prog_11_method_34_code (2 : Nat) (Option.some Jvm.ClassFile.FieldType.int)) ∈ zWs := zWs_in (List.mem_append_right _ (List.mem_append_right _ (List.mem_append_right _ (List.mem_of_getElem? (i := 65) rfl)))) rfl
theorem w_786 : (Jvm.Cond.methodLink "LeasedViewStoreLaw" (77 : Nat) ({ cls := "LeasedViewStoreModel", name := "view", desc := "(I)I" } : Jvm.MethodName)) ∈ zWs := zWs_in (List.mem_append_right _ (List.mem_append_right _ (List.mem_append_right _ (List.mem_of_getElem? (i := 66) rfl)))) rfl
theorem w_787 : (Jvm.Cond.instanceMethod ({ cls := "LeasedViewStoreModel", name := "view", desc := "(I)I" } : Jvm.MethodName)) ∈ zWs := zWs_in (List.mem_append_right _ (List.mem_append_right _ (List.mem_append_right _ (List.mem_of_getElem? (i := 67) rfl)))) rfl
theorem w_788 : (Jvm.Cond.selects "LeasedViewStoreModel" ({ cls := "LeasedViewStoreModel", name := "view", desc := "(I)I" } : Jvm.MethodName) ({ cls := "LeasedViewStoreModel", name := "view", desc := "(I)I" } : Jvm.MethodName)) ∈ zWs := zWs_in (List.mem_append_right _ (List.mem_append_right _ (List.mem_append_right _ (List.mem_of_getElem? (i := 68) rfl)))) rfl
theorem w_789 : (Jvm.Cond.code ({ cls := "LeasedViewStoreModel", name := "view", desc := "(I)I" } : Jvm.MethodName) prog_11_method_35_code (3 : Nat) (Option.some Jvm.ClassFile.FieldType.int)) ∈ zWs := zWs_in (List.mem_append_right _ (List.mem_append_right _ (List.mem_append_right _ (List.mem_of_getElem? (i := 69) rfl)))) rfl
theorem w_790 : (Jvm.Cond.methodLink "LeasedViewStoreLaw" (81 : Nat) ({ cls := "LeasedViewStoreModel", name := "role", desc := "(I)I" } : Jvm.MethodName)) ∈ zWs := zWs_in (List.mem_append_right _ (List.mem_append_right _ (List.mem_append_right _ (List.mem_of_getElem? (i := 70) rfl)))) rfl
theorem w_791 : (Jvm.Cond.instanceMethod ({ cls := "LeasedViewStoreModel", name := "role", desc := "(I)I" } : Jvm.MethodName)) ∈ zWs := zWs_in (List.mem_append_right _ (List.mem_append_right _ (List.mem_append_right _ (List.mem_of_getElem? (i := 71) rfl)))) rfl
theorem w_792 : (Jvm.Cond.selects "LeasedViewStoreModel" ({ cls := "LeasedViewStoreModel", name := "role", desc := "(I)I" } : Jvm.MethodName) ({ cls := "LeasedViewStoreModel", name := "role", desc := "(I)I" } : Jvm.MethodName)) ∈ zWs := zWs_in (List.mem_append_right _ (List.mem_append_right _ (List.mem_append_right _ (List.mem_of_getElem? (i := 72) rfl)))) rfl
theorem w_793 : (Jvm.Cond.code ({ cls := "LeasedViewStoreModel", name := "role", desc := "(I)I" } : Jvm.MethodName) prog_11_method_36_code (3 : Nat) (Option.some Jvm.ClassFile.FieldType.int)) ∈ zWs := zWs_in (List.mem_append_right _ (List.mem_append_right _ (List.mem_append_right _ (List.mem_of_getElem? (i := 73) rfl)))) rfl
theorem w_794 : (Jvm.Cond.methodLink "LeasedViewStoreLaw" (85 : Nat) ({ cls := "LeasedViewStoreModel", name := "cell", desc := "(II)I" } : Jvm.MethodName)) ∈ zWs := zWs_in (List.mem_append_right _ (List.mem_append_right _ (List.mem_append_right _ (List.mem_of_getElem? (i := 74) rfl)))) rfl
theorem w_795 : (Jvm.Cond.instanceMethod ({ cls := "LeasedViewStoreModel", name := "cell", desc := "(II)I" } : Jvm.MethodName)) ∈ zWs := zWs_in (List.mem_append_right _ (List.mem_append_right _ (List.mem_append_right _ (List.mem_of_getElem? (i := 75) rfl)))) rfl
theorem w_796 : (Jvm.Cond.selects "LeasedViewStoreModel" ({ cls := "LeasedViewStoreModel", name := "cell", desc := "(II)I" } : Jvm.MethodName) ({ cls := "LeasedViewStoreModel", name := "cell", desc := "(II)I" } : Jvm.MethodName)) ∈ zWs := zWs_in (List.mem_append_right _ (List.mem_append_right _ (List.mem_append_right _ (List.mem_of_getElem? (i := 76) rfl)))) rfl
theorem w_797 : (Jvm.Cond.code ({ cls := "LeasedViewStoreModel", name := "cell", desc := "(II)I" } : Jvm.MethodName) prog_11_method_37_code (3 : Nat) (Option.some Jvm.ClassFile.FieldType.int)) ∈ zWs := zWs_in (List.mem_append_right _ (List.mem_append_right _ (List.mem_append_right _ (List.mem_of_getElem? (i := 77) rfl)))) rfl
theorem w_798 : (Jvm.Cond.methodLink "LeasedViewStoreLaw" (89 : Nat) ({ cls := "LeasedViewStoreModel", name := "count", desc := "(I)I" } : Jvm.MethodName)) ∈ zWs := zWs_in (List.mem_append_right _ (List.mem_append_right _ (List.mem_append_right _ (List.mem_of_getElem? (i := 78) rfl)))) rfl
theorem w_799 : (Jvm.Cond.instanceMethod ({ cls := "LeasedViewStoreModel", name := "count", desc := "(I)I" } : Jvm.MethodName)) ∈ zWs := zWs_in (List.mem_append_right _ (List.mem_append_right _ (List.mem_append_right _ (List.mem_of_getElem? (i := 79) rfl)))) rfl
theorem w_800 : (Jvm.Cond.selects "LeasedViewStoreModel" ({ cls := "LeasedViewStoreModel", name := "count", desc := "(I)I" } : Jvm.MethodName) ({ cls := "LeasedViewStoreModel", name := "count", desc := "(I)I" } : Jvm.MethodName)) ∈ zWs := zWs_in (List.mem_append_right _ (List.mem_append_right _ (List.mem_append_right _ (List.mem_of_getElem? (i := 80) rfl)))) rfl
theorem w_801 : (Jvm.Cond.code ({ cls := "LeasedViewStoreModel", name := "count", desc := "(I)I" } : Jvm.MethodName) prog_11_method_38_code (2 : Nat) (Option.some Jvm.ClassFile.FieldType.int)) ∈ zWs := zWs_in (List.mem_append_right _ (List.mem_append_right _ (List.mem_append_right _ (List.mem_of_getElem? (i := 81) rfl)))) rfl
theorem w_802 : (Jvm.Cond.methodLink "LeasedViewStoreLaw" (93 : Nat) ({ cls := "LeasedViewStoreModel", name := "finished", desc := "(I)I" } : Jvm.MethodName)) ∈ zWs := zWs_in (List.mem_append_right _ (List.mem_append_right _ (List.mem_append_right _ (List.mem_of_getElem? (i := 82) rfl)))) rfl
theorem w_803 : (Jvm.Cond.instanceMethod ({ cls := "LeasedViewStoreModel", name := "finished", desc := "(I)I" } : Jvm.MethodName)) ∈ zWs := zWs_in (List.mem_append_right _ (List.mem_append_right _ (List.mem_append_right _ (List.mem_of_getElem? (i := 83) rfl)))) rfl
theorem w_804 : (Jvm.Cond.selects "LeasedViewStoreModel" ({ cls := "LeasedViewStoreModel", name := "finished", desc := "(I)I" } : Jvm.MethodName) ({ cls := "LeasedViewStoreModel", name := "finished", desc := "(I)I" } : Jvm.MethodName)) ∈ zWs := zWs_in (List.mem_append_right _ (List.mem_append_right _ (List.mem_append_right _ (List.mem_of_getElem? (i := 84) rfl)))) rfl
theorem w_805 : (Jvm.Cond.code ({ cls := "LeasedViewStoreModel", name := "finished", desc := "(I)I" } : Jvm.MethodName) prog_11_method_39_code (2 : Nat) (Option.some Jvm.ClassFile.FieldType.int)) ∈ zWs := zWs_in (List.mem_append_right _ (List.mem_append_right _ (List.mem_append_right _ (List.mem_of_getElem? (i := 85) rfl)))) rfl
theorem w_806 : (Jvm.Cond.methodLink "LeasedViewStoreLaw" (97 : Nat) ({ cls := "LeasedViewStoreModel", name := "result", desc := "(I)I" } : Jvm.MethodName)) ∈ zWs := zWs_in (List.mem_append_right _ (List.mem_append_right _ (List.mem_append_right _ (List.mem_of_getElem? (i := 86) rfl)))) rfl
theorem w_807 : (Jvm.Cond.instanceMethod ({ cls := "LeasedViewStoreModel", name := "result", desc := "(I)I" } : Jvm.MethodName)) ∈ zWs := zWs_in (List.mem_append_right _ (List.mem_append_right _ (List.mem_append_right _ (List.mem_of_getElem? (i := 87) rfl)))) rfl
theorem w_808 : (Jvm.Cond.selects "LeasedViewStoreModel" ({ cls := "LeasedViewStoreModel", name := "result", desc := "(I)I" } : Jvm.MethodName) ({ cls := "LeasedViewStoreModel", name := "result", desc := "(I)I" } : Jvm.MethodName)) ∈ zWs := zWs_in (List.mem_append_right _ (List.mem_append_right _ (List.mem_append_right _ (List.mem_of_getElem? (i := 88) rfl)))) rfl
theorem w_809 : (Jvm.Cond.code ({ cls := "LeasedViewStoreModel", name := "result", desc := "(I)I" } : Jvm.MethodName) prog_11_method_40_code (2 : Nat) (Option.some Jvm.ClassFile.FieldType.int)) ∈ zWs := zWs_in (List.mem_append_right _ (List.mem_append_right _ (List.mem_append_right _ (List.mem_of_getElem? (i := 89) rfl)))) rfl
theorem ws_0 : Cond.selects "LeasedViewStore" ⟨"LeasedViewStore", "isServer", "(I)Z"⟩ ⟨"LeasedViewStore", "isServer", "(I)Z"⟩ ∈ zWs := zWs_pr (List.mem_of_getElem? (i := 0) rfl) rfl
theorem ws_1 : Cond.selects "LeasedViewStore" ⟨"LeasedViewStore", "clockOf", "(LLeasedViewStore$Server;)I"⟩ ⟨"LeasedViewStore", "clockOf", "(LLeasedViewStore$Server;)I"⟩ ∈ zWs := zWs_pr (List.mem_of_getElem? (i := 1) rfl) rfl
theorem ws_2 : Cond.selects "LeasedViewStore" ⟨"LeasedViewStore", "sendFill", "(LLeasedViewStore$Server;)V"⟩ ⟨"LeasedViewStore", "sendFill", "(LLeasedViewStore$Server;)V"⟩ ∈ zWs := zWs_pr (List.mem_of_getElem? (i := 2) rfl) rfl
theorem ws_3 : Cond.selects "LeasedViewStore" ⟨"LeasedViewStore", "sendPass", "(LLeasedViewStore$Server;)V"⟩ ⟨"LeasedViewStore", "sendPass", "(LLeasedViewStore$Server;)V"⟩ ∈ zWs := zWs_pr (List.mem_of_getElem? (i := 3) rfl) rfl
theorem ws_4 : Cond.selects "LeasedViewStore" ⟨"LeasedViewStore", "isClient", "(I)Z"⟩ ⟨"LeasedViewStore", "isClient", "(I)Z"⟩ ∈ zWs := zWs_pr (List.mem_of_getElem? (i := 4) rfl) rfl
theorem ws_5 : Cond.selects "LeasedViewStore" ⟨"LeasedViewStore", "isCell", "(I)Z"⟩ ⟨"LeasedViewStore", "isCell", "(I)Z"⟩ ∈ zWs := zWs_pr (List.mem_of_getElem? (i := 5) rfl) rfl
theorem ws_6 : Cond.selects "LeasedViewStore" ⟨"LeasedViewStore", "takesEffect", "(LLeasedViewStore$Letter;)Z"⟩ ⟨"LeasedViewStore", "takesEffect", "(LLeasedViewStore$Letter;)Z"⟩ ∈ zWs := zWs_pr (List.mem_of_getElem? (i := 6) rfl) rfl
theorem ws_7 : Cond.selects "LeasedViewStore" ⟨"LeasedViewStore", "takePing", "(LLeasedViewStore$Letter;)Z"⟩ ⟨"LeasedViewStore", "takePing", "(LLeasedViewStore$Letter;)Z"⟩ ∈ zWs := zWs_pr (List.mem_of_getElem? (i := 7) rfl) rfl
theorem ws_8 : Cond.selects "LeasedViewStore" ⟨"LeasedViewStore", "takeView", "(LLeasedViewStore$Server;LLeasedViewStore$Letter;)Z"⟩ ⟨"LeasedViewStore", "takeView", "(LLeasedViewStore$Server;LLeasedViewStore$Letter;)Z"⟩ ∈ zWs := zWs_pr (List.mem_of_getElem? (i := 8) rfl) rfl
theorem ws_9 : Cond.selects "LeasedViewStore" ⟨"LeasedViewStore", "enterView", "(LLeasedViewStore$Server;LLeasedViewStore$View;)V"⟩ ⟨"LeasedViewStore", "enterView", "(LLeasedViewStore$Server;LLeasedViewStore$View;)V"⟩ ∈ zWs := zWs_pr (List.mem_of_getElem? (i := 9) rfl) rfl
theorem ws_10 : Cond.selects "LeasedViewStore" ⟨"LeasedViewStore", "takeFill", "(LLeasedViewStore$Server;LLeasedViewStore$Letter;)Z"⟩ ⟨"LeasedViewStore", "takeFill", "(LLeasedViewStore$Server;LLeasedViewStore$Letter;)Z"⟩ ∈ zWs := zWs_pr (List.mem_of_getElem? (i := 10) rfl) rfl
theorem ws_11 : Cond.selects "LeasedViewStore" ⟨"LeasedViewStore", "takeFilled", "(LLeasedViewStore$Server;LLeasedViewStore$Letter;)Z"⟩ ⟨"LeasedViewStore", "takeFilled", "(LLeasedViewStore$Server;LLeasedViewStore$Letter;)Z"⟩ ∈ zWs := zWs_pr (List.mem_of_getElem? (i := 11) rfl) rfl
theorem ws_12 : Cond.selects "LeasedViewStore" ⟨"LeasedViewStore", "takePass", "(LLeasedViewStore$Server;LLeasedViewStore$Letter;)Z"⟩ ⟨"LeasedViewStore", "takePass", "(LLeasedViewStore$Server;LLeasedViewStore$Letter;)Z"⟩ ∈ zWs := zWs_pr (List.mem_of_getElem? (i := 12) rfl) rfl
theorem ws_13 : Cond.selects "LeasedViewStore" ⟨"LeasedViewStore", "takePassed", "(LLeasedViewStore$Server;LLeasedViewStore$Letter;)Z"⟩ ⟨"LeasedViewStore", "takePassed", "(LLeasedViewStore$Server;LLeasedViewStore$Letter;)Z"⟩ ∈ zWs := zWs_pr (List.mem_of_getElem? (i := 13) rfl) rfl
theorem ws_14 : Cond.selects "LeasedViewStore" ⟨"LeasedViewStore", "doWriteAndAnswer", "(LLeasedViewStore$Server;LLeasedViewStore$Operation;)V"⟩ ⟨"LeasedViewStore", "doWriteAndAnswer", "(LLeasedViewStore$Server;LLeasedViewStore$Operation;)V"⟩ ∈ zWs := zWs_pr (List.mem_of_getElem? (i := 14) rfl) rfl
theorem ws_15 : Cond.selects "LeasedViewStore" ⟨"LeasedViewStore", "sendAnswer", "(LLeasedViewStore$Operation;I)V"⟩ ⟨"LeasedViewStore", "sendAnswer", "(LLeasedViewStore$Operation;I)V"⟩ ∈ zWs := zWs_pr (List.mem_of_getElem? (i := 15) rfl) rfl
theorem ws_16 : Cond.selects "LeasedViewStore" ⟨"LeasedViewStore", "takeAsk", "(LLeasedViewStore$Server;LLeasedViewStore$Letter;)Z"⟩ ⟨"LeasedViewStore", "takeAsk", "(LLeasedViewStore$Server;LLeasedViewStore$Letter;)Z"⟩ ∈ zWs := zWs_pr (List.mem_of_getElem? (i := 16) rfl) rfl
theorem ws_17 : Cond.selects "LeasedViewStore" ⟨"LeasedViewStore", "takeWrite", "(LLeasedViewStore$Server;LLeasedViewStore$Operation;)Z"⟩ ⟨"LeasedViewStore", "takeWrite", "(LLeasedViewStore$Server;LLeasedViewStore$Operation;)Z"⟩ ∈ zWs := zWs_pr (List.mem_of_getElem? (i := 17) rfl) rfl
theorem ws_18 : Cond.selects "LeasedViewStore" ⟨"LeasedViewStore", "takeRead", "(LLeasedViewStore$Server;LLeasedViewStore$Operation;)Z"⟩ ⟨"LeasedViewStore", "takeRead", "(LLeasedViewStore$Server;LLeasedViewStore$Operation;)Z"⟩ ∈ zWs := zWs_pr (List.mem_of_getElem? (i := 18) rfl) rfl
theorem ws_19 : Cond.selects "LeasedViewStoreModel" ⟨"LeasedViewStoreModel", "fresh", "(I)Z"⟩ ⟨"LeasedViewStoreModel", "fresh", "(I)Z"⟩ ∈ zWs := zWs_pr (List.mem_of_getElem? (i := 19) rfl) rfl
theorem ws_20 : Cond.selects "LeasedViewStoreModel" ⟨"LeasedViewStoreModel", "noServer", "(I)Z"⟩ ⟨"LeasedViewStoreModel", "noServer", "(I)Z"⟩ ∈ zWs := zWs_pr (List.mem_of_getElem? (i := 20) rfl) rfl
theorem ws_21 : Cond.selects "LeasedViewStoreModel" ⟨"LeasedViewStoreModel", "post", "(II)I"⟩ ⟨"LeasedViewStoreModel", "post", "(II)I"⟩ ∈ zWs := zWs_pr (List.mem_of_getElem? (i := 21) rfl) rfl
theorem ws_22 : Cond.selects "LeasedViewStoreModel" ⟨"LeasedViewStoreModel", "leads", "(I)Z"⟩ ⟨"LeasedViewStoreModel", "leads", "(I)Z"⟩ ∈ zWs := zWs_pr (List.mem_of_getElem? (i := 22) rfl) rfl
theorem ws_23 : Cond.selects "LeasedViewStoreModel" ⟨"LeasedViewStoreModel", "sendFill", "(I)V"⟩ ⟨"LeasedViewStoreModel", "sendFill", "(I)V"⟩ ∈ zWs := zWs_pr (List.mem_of_getElem? (i := 23) rfl) rfl
theorem ws_24 : Cond.selects "LeasedViewStoreModel" ⟨"LeasedViewStoreModel", "sendPass", "(I)V"⟩ ⟨"LeasedViewStoreModel", "sendPass", "(I)V"⟩ ∈ zWs := zWs_pr (List.mem_of_getElem? (i := 24) rfl) rfl
theorem ws_25 : Cond.selects "LeasedViewStoreModel" ⟨"LeasedViewStoreModel", "noClient", "(I)Z"⟩ ⟨"LeasedViewStoreModel", "noClient", "(I)Z"⟩ ∈ zWs := zWs_pr (List.mem_of_getElem? (i := 25) rfl) rfl
theorem ws_26 : Cond.selects "LeasedViewStoreModel" ⟨"LeasedViewStoreModel", "take", "(I)I"⟩ ⟨"LeasedViewStoreModel", "take", "(I)I"⟩ ∈ zWs := zWs_pr (List.mem_of_getElem? (i := 26) rfl) rfl
theorem ws_27 : Cond.selects "LeasedViewStoreModel" ⟨"LeasedViewStoreModel", "arrive", "(II)Z"⟩ ⟨"LeasedViewStoreModel", "arrive", "(II)Z"⟩ ∈ zWs := zWs_pr (List.mem_of_getElem? (i := 27) rfl) rfl
theorem ws_28 : Cond.selects "LeasedViewStoreModel" ⟨"LeasedViewStoreModel", "hear", "(II)V"⟩ ⟨"LeasedViewStoreModel", "hear", "(II)V"⟩ ∈ zWs := zWs_pr (List.mem_of_getElem? (i := 28) rfl) rfl
theorem ws_29 : Cond.selects "LeasedViewStoreModel" ⟨"LeasedViewStoreModel", "see", "(II)Z"⟩ ⟨"LeasedViewStoreModel", "see", "(II)Z"⟩ ∈ zWs := zWs_pr (List.mem_of_getElem? (i := 29) rfl) rfl
theorem ws_30 : Cond.selects "LeasedViewStoreModel" ⟨"LeasedViewStoreModel", "enter", "(IIII)V"⟩ ⟨"LeasedViewStoreModel", "enter", "(IIII)V"⟩ ∈ zWs := zWs_pr (List.mem_of_getElem? (i := 30) rfl) rfl
theorem ws_31 : Cond.selects "LeasedViewStoreModel" ⟨"LeasedViewStoreModel", "fill", "(II)Z"⟩ ⟨"LeasedViewStoreModel", "fill", "(II)Z"⟩ ∈ zWs := zWs_pr (List.mem_of_getElem? (i := 31) rfl) rfl
theorem ws_32 : Cond.selects "LeasedViewStoreModel" ⟨"LeasedViewStoreModel", "filledBack", "(II)Z"⟩ ⟨"LeasedViewStoreModel", "filledBack", "(II)Z"⟩ ∈ zWs := zWs_pr (List.mem_of_getElem? (i := 32) rfl) rfl
theorem ws_33 : Cond.selects "LeasedViewStoreModel" ⟨"LeasedViewStoreModel", "pass", "(II)Z"⟩ ⟨"LeasedViewStoreModel", "pass", "(II)Z"⟩ ∈ zWs := zWs_pr (List.mem_of_getElem? (i := 33) rfl) rfl
theorem ws_34 : Cond.selects "LeasedViewStoreModel" ⟨"LeasedViewStoreModel", "perform", "(II)I"⟩ ⟨"LeasedViewStoreModel", "perform", "(II)I"⟩ ∈ zWs := zWs_pr (List.mem_of_getElem? (i := 34) rfl) rfl
theorem ws_35 : Cond.selects "LeasedViewStoreModel" ⟨"LeasedViewStoreModel", "held", "(III)I"⟩ ⟨"LeasedViewStoreModel", "held", "(III)I"⟩ ∈ zWs := zWs_pr (List.mem_of_getElem? (i := 35) rfl) rfl
theorem ws_36 : Cond.selects "LeasedViewStoreModel" ⟨"LeasedViewStoreModel", "passed", "(II)Z"⟩ ⟨"LeasedViewStoreModel", "passed", "(II)Z"⟩ ∈ zWs := zWs_pr (List.mem_of_getElem? (i := 36) rfl) rfl
theorem ws_37 : Cond.selects "LeasedViewStoreModel" ⟨"LeasedViewStoreModel", "answer", "(II)V"⟩ ⟨"LeasedViewStoreModel", "answer", "(II)V"⟩ ∈ zWs := zWs_pr (List.mem_of_getElem? (i := 37) rfl) rfl
theorem ws_38 : Cond.selects "LeasedViewStoreModel" ⟨"LeasedViewStoreModel", "ask", "(II)Z"⟩ ⟨"LeasedViewStoreModel", "ask", "(II)Z"⟩ ∈ zWs := zWs_pr (List.mem_of_getElem? (i := 38) rfl) rfl
theorem ws_39 : Cond.selects "LeasedViewStoreModel" ⟨"LeasedViewStoreModel", "latest", "(II)I"⟩ ⟨"LeasedViewStoreModel", "latest", "(II)I"⟩ ∈ zWs := zWs_pr (List.mem_of_getElem? (i := 39) rfl) rfl
theorem hin_Store {c : Cond} : ∀ w ∈ u_ws R_Store T_Store 5, w ∈ c :: zWs := by
  have h : ∀ w ∈ u_ws R_Store T_Store 5, w ∈ zWs := List.forall_mem_cons.mpr ⟨w_283, List.forall_mem_cons.mpr ⟨w_285, List.forall_mem_cons.mpr ⟨w_287, List.forall_mem_cons.mpr ⟨w_289, List.forall_mem_cons.mpr ⟨w_291, fun _ h => absurd h List.not_mem_nil⟩⟩⟩⟩⟩
  exact fun w hw => List.mem_cons_of_mem _ (h w hw)
theorem hin_Server {c : Cond} : ∀ w ∈ u_ws R_Server T_Server 10, w ∈ c :: zWs := by
  have h : ∀ w ∈ u_ws R_Server T_Server 10, w ∈ zWs := List.forall_mem_cons.mpr ⟨w_137, List.forall_mem_cons.mpr ⟨w_139, List.forall_mem_cons.mpr ⟨w_141, List.forall_mem_cons.mpr ⟨w_143, List.forall_mem_cons.mpr ⟨w_145, List.forall_mem_cons.mpr ⟨w_147, List.forall_mem_cons.mpr ⟨w_149, List.forall_mem_cons.mpr ⟨w_151, List.forall_mem_cons.mpr ⟨w_153, List.forall_mem_cons.mpr ⟨w_155, fun _ h => absurd h List.not_mem_nil⟩⟩⟩⟩⟩⟩⟩⟩⟩⟩
  exact fun w hw => List.mem_cons_of_mem _ (h w hw)
theorem hin_Client {c : Cond} : ∀ w ∈ u_ws R_Client T_Client 4, w ∈ c :: zWs := by
  have h : ∀ w ∈ u_ws R_Client T_Client 4, w ∈ zWs := List.forall_mem_cons.mpr ⟨w_175, List.forall_mem_cons.mpr ⟨w_177, List.forall_mem_cons.mpr ⟨w_179, List.forall_mem_cons.mpr ⟨w_181, fun _ h => absurd h List.not_mem_nil⟩⟩⟩⟩
  exact fun w hw => List.mem_cons_of_mem _ (h w hw)
theorem hin_Service {c : Cond} : ∀ w ∈ u_ws R_Service T_Service 3, w ∈ c :: zWs := by
  have h : ∀ w ∈ u_ws R_Service T_Service 3, w ∈ zWs := List.forall_mem_cons.mpr ⟨w_197, List.forall_mem_cons.mpr ⟨w_199, List.forall_mem_cons.mpr ⟨w_201, fun _ h => absurd h List.not_mem_nil⟩⟩⟩
  exact fun w hw => List.mem_cons_of_mem _ (h w hw)
theorem hin_Post {c : Cond} : ∀ w ∈ u_ws R_Post T_Post 3, w ∈ c :: zWs := by
  have h : ∀ w ∈ u_ws R_Post T_Post 3, w ∈ zWs := List.forall_mem_cons.mpr ⟨w_271, List.forall_mem_cons.mpr ⟨w_273, List.forall_mem_cons.mpr ⟨w_275, fun _ h => absurd h List.not_mem_nil⟩⟩⟩
  exact fun w hw => List.mem_cons_of_mem _ (h w hw)
theorem hin_Letter {c : Cond} : ∀ w ∈ u_ws R_Letter T_Letter 9, w ∈ c :: zWs := by
  have h : ∀ w ∈ u_ws R_Letter T_Letter 9, w ∈ zWs := List.forall_mem_cons.mpr ⟨w_247, List.forall_mem_cons.mpr ⟨w_249, List.forall_mem_cons.mpr ⟨w_251, List.forall_mem_cons.mpr ⟨w_253, List.forall_mem_cons.mpr ⟨w_255, List.forall_mem_cons.mpr ⟨w_257, List.forall_mem_cons.mpr ⟨w_259, List.forall_mem_cons.mpr ⟨w_261, List.forall_mem_cons.mpr ⟨w_263, fun _ h => absurd h List.not_mem_nil⟩⟩⟩⟩⟩⟩⟩⟩⟩
  exact fun w hw => List.mem_cons_of_mem _ (h w hw)
theorem hin_View {c : Cond} : ∀ w ∈ u_ws R_View T_View 3, w ∈ c :: zWs := by
  have h : ∀ w ∈ u_ws R_View T_View 3, w ∈ zWs := List.forall_mem_cons.mpr ⟨w_52, List.forall_mem_cons.mpr ⟨w_54, List.forall_mem_cons.mpr ⟨w_56, fun _ h => absurd h List.not_mem_nil⟩⟩⟩
  exact fun w hw => List.mem_cons_of_mem _ (h w hw)
theorem hin_Operation {c : Cond} : ∀ w ∈ u_ws R_Operation T_Operation 5, w ∈ c :: zWs := by
  have h : ∀ w ∈ u_ws R_Operation T_Operation 5, w ∈ zWs := List.forall_mem_cons.mpr ⟨w_107, List.forall_mem_cons.mpr ⟨w_109, List.forall_mem_cons.mpr ⟨w_111, List.forall_mem_cons.mpr ⟨w_113, List.forall_mem_cons.mpr ⟨w_115, fun _ h => absurd h List.not_mem_nil⟩⟩⟩⟩⟩
  exact fun w hw => List.mem_cons_of_mem _ (h w hw)
theorem hin_State {c : Cond} : ∀ w ∈ u_ws R_State T_State 4, w ∈ c :: zWs := by
  have h : ∀ w ∈ u_ws R_State T_State 4, w ∈ zWs := List.forall_mem_cons.mpr ⟨w_73, List.forall_mem_cons.mpr ⟨w_75, List.forall_mem_cons.mpr ⟨w_77, List.forall_mem_cons.mpr ⟨w_79, fun _ h => absurd h List.not_mem_nil⟩⟩⟩⟩
  exact fun w hw => List.mem_cons_of_mem _ (h w hw)
theorem hin_Model {c : Cond} : ∀ w ∈ u_ws R_Model T_Model 37, w ∈ c :: zWs := by
  have h : ∀ w ∈ u_ws R_Model T_Model 37, w ∈ zWs := List.forall_mem_cons.mpr ⟨w_577, List.forall_mem_cons.mpr ⟨w_579, List.forall_mem_cons.mpr ⟨w_581, List.forall_mem_cons.mpr ⟨w_583, List.forall_mem_cons.mpr ⟨w_585, List.forall_mem_cons.mpr ⟨w_587, List.forall_mem_cons.mpr ⟨w_589, List.forall_mem_cons.mpr ⟨w_591, List.forall_mem_cons.mpr ⟨w_593, List.forall_mem_cons.mpr ⟨w_595, List.forall_mem_cons.mpr ⟨w_597, List.forall_mem_cons.mpr ⟨w_599, List.forall_mem_cons.mpr ⟨w_601, List.forall_mem_cons.mpr ⟨w_603, List.forall_mem_cons.mpr ⟨w_605, List.forall_mem_cons.mpr ⟨w_607, List.forall_mem_cons.mpr ⟨w_609, List.forall_mem_cons.mpr ⟨w_611, List.forall_mem_cons.mpr ⟨w_613, List.forall_mem_cons.mpr ⟨w_615, List.forall_mem_cons.mpr ⟨w_617, List.forall_mem_cons.mpr ⟨w_619, List.forall_mem_cons.mpr ⟨w_621, List.forall_mem_cons.mpr ⟨w_623, List.forall_mem_cons.mpr ⟨w_625, List.forall_mem_cons.mpr ⟨w_627, List.forall_mem_cons.mpr ⟨w_629, List.forall_mem_cons.mpr ⟨w_631, List.forall_mem_cons.mpr ⟨w_633, List.forall_mem_cons.mpr ⟨w_635, List.forall_mem_cons.mpr ⟨w_637, List.forall_mem_cons.mpr ⟨w_639, List.forall_mem_cons.mpr ⟨w_641, List.forall_mem_cons.mpr ⟨w_643, List.forall_mem_cons.mpr ⟨w_645, List.forall_mem_cons.mpr ⟨w_647, List.forall_mem_cons.mpr ⟨w_649, fun _ h => absurd h List.not_mem_nil⟩⟩⟩⟩⟩⟩⟩⟩⟩⟩⟩⟩⟩⟩⟩⟩⟩⟩⟩⟩⟩⟩⟩⟩⟩⟩⟩⟩⟩⟩⟩⟩⟩⟩⟩⟩⟩
  exact fun w hw => List.mem_cons_of_mem _ (h w hw)
theorem zGood {c0 c1 : Cond} {own C : String} {idx : Nat} {y : MethodName} (h1 : Cond.methodLink own idx y ∈ zWs) (h2 : Cond.instanceMethod y ∈ zWs) (h3 : Cond.selects C y y ∈ zWs) (h4 : Cond.initialized C ∈ zWs) (h5 : c1 ∈ zWs) : GoodIn (c0 :: zWs) (wsV own idx C y (c1 :: zWs)) := by
  intro w hw
  have hz : w ∈ zWs := by
    unfold wsV at hw
    simp only [List.cons_append, List.nil_append, List.mem_cons] at hw
    rcases hw with rfl | rfl | rfl | rfl | rfl | h
    · exact h1
    · exact h2
    · exact h3
    · exact h4
    · exact h5
    · exact h
  exact ⟨List.mem_cons_of_mem _ hz, zWs_good w hz⟩
theorem zGoodI {c0 c1 : Cond} (h5 : c1 ∈ zWs) : GoodIn (c0 :: zWs) (c1 :: zWs) := by
  intro w hw
  have hz : w ∈ zWs := by
    rcases List.mem_cons.mp hw with rfl | h
    · exact h5
    · exact h
  exact ⟨List.mem_cons_of_mem _ hz, zWs_good w hz⟩
/-! methods: name, words -/
abbrev y_Store_init : MethodName := ⟨"LeasedViewStore", "<init>", "(I)V"⟩
def ws_Store_init : List Cond := .code y_Store_init prog_1_method_1_code 4 (Option.none : Option Jvm.ClassFile.FieldType) :: zWs
abbrev y_Store_advance : MethodName := ⟨"LeasedViewStore", "advance", "(I)I"⟩
def ws_Store_advance : List Cond := .code y_Store_advance prog_1_method_2_code 2 (Option.some Jvm.ClassFile.FieldType.int) :: zWs
theorem cw_Store_advance {R : Room} {s : State} {args : Array Value} {c0 : Cond} {own : String} {idx : Nat} {rm : Room} (hts : ∀ w ∈ c0 :: zWs, w.before args s = true) (h1 : Cond.methodLink own idx y_Store_advance ∈ zWs) (hrc : rm.cells = 0) (hrs : rm.slots = 0) (hR : rm.frames + 1 ≤ R.frames ∧ 8 + (2 + 11) + rm.locals ≤ R.locals) : CallW R s args own "LeasedViewStore" idx y_Store_advance prog_1_method_2_code 2 (Option.some Jvm.ClassFile.FieldType.int) ws_Store_advance rm 0 0 1 :=
  cwV 1 hts (zGood h1 w_295 w_296 w_1 w_297) rfl hrc hrs (by decide +kernel) hR
abbrev y_Store_skew : MethodName := ⟨"LeasedViewStore", "skew", "(II)Z"⟩
def ws_Store_skew : List Cond := .code y_Store_skew prog_1_method_3_code 3 (Option.some Jvm.ClassFile.FieldType.boolean) :: zWs
theorem cw_Store_skew {R : Room} {s : State} {args : Array Value} {c0 : Cond} {own : String} {idx : Nat} {rm : Room} (hts : ∀ w ∈ c0 :: zWs, w.before args s = true) (h1 : Cond.methodLink own idx y_Store_skew ∈ zWs) (hrc : rm.cells = 0) (hrs : rm.slots = 0) (hR : rm.frames + 1 ≤ R.frames ∧ 8 + (3 + 11) + rm.locals ≤ R.locals) : CallW R s args own "LeasedViewStore" idx y_Store_skew prog_1_method_3_code 3 (Option.some Jvm.ClassFile.FieldType.boolean) ws_Store_skew rm 0 0 2 :=
  cwV 2 hts (zGood h1 w_299 w_300 w_1 w_301) rfl hrc hrs (by decide +kernel) hR
abbrev y_Store_ping : MethodName := ⟨"LeasedViewStore", "ping", "(I)Z"⟩
def ws_Store_ping : List Cond := .code y_Store_ping prog_1_method_4_code 4 (Option.some Jvm.ClassFile.FieldType.boolean) :: zWs
theorem cw_Store_ping {R : Room} {s : State} {args : Array Value} {c0 : Cond} {own : String} {idx : Nat} {rm : Room} (hts : ∀ w ∈ c0 :: zWs, w.before args s = true) (h1 : Cond.methodLink own idx y_Store_ping ∈ zWs) (hrc : rm.cells = 0) (hrs : rm.slots = 0) (hR : rm.frames + 1 ≤ R.frames ∧ 8 + (4 + 11) + rm.locals ≤ R.locals) : CallW R s args own "LeasedViewStore" idx y_Store_ping prog_1_method_4_code 4 (Option.some Jvm.ClassFile.FieldType.boolean) ws_Store_ping rm 0 0 1 :=
  cwV 1 hts (zGood h1 w_307 w_308 w_1 w_309) rfl hrc hrs (by decide +kernel) hR
abbrev y_Store_check : MethodName := ⟨"LeasedViewStore", "check", "()I"⟩
def ws_Store_check : List Cond := .code y_Store_check prog_1_method_5_code 1 (Option.some Jvm.ClassFile.FieldType.int) :: zWs
theorem cw_Store_check {R : Room} {s : State} {args : Array Value} {c0 : Cond} {own : String} {idx : Nat} {rm : Room} (hts : ∀ w ∈ c0 :: zWs, w.before args s = true) (h1 : Cond.methodLink own idx y_Store_check ∈ zWs) (hrc : rm.cells = 0) (hrs : rm.slots = 0) (hR : rm.frames + 1 ≤ R.frames ∧ 8 + (1 + 11) + rm.locals ≤ R.locals) : CallW R s args own "LeasedViewStore" idx y_Store_check prog_1_method_5_code 1 (Option.some Jvm.ClassFile.FieldType.int) ws_Store_check rm 0 0 0 :=
  cwV 0 hts (zGood h1 w_327 w_328 w_1 w_329) rfl hrc hrs (by decide +kernel) hR
abbrev y_Store_push : MethodName := ⟨"LeasedViewStore", "push", "(I)Z"⟩
def ws_Store_push : List Cond := .code y_Store_push prog_1_method_6_code 3 (Option.some Jvm.ClassFile.FieldType.boolean) :: zWs
theorem cw_Store_push {R : Room} {s : State} {args : Array Value} {c0 : Cond} {own : String} {idx : Nat} {rm : Room} (hts : ∀ w ∈ c0 :: zWs, w.before args s = true) (h1 : Cond.methodLink own idx y_Store_push ∈ zWs) (hrc : rm.cells = 0) (hrs : rm.slots = 0) (hR : rm.frames + 1 ≤ R.frames ∧ 8 + (3 + 11) + rm.locals ≤ R.locals) : CallW R s args own "LeasedViewStore" idx y_Store_push prog_1_method_6_code 3 (Option.some Jvm.ClassFile.FieldType.boolean) ws_Store_push rm 0 0 1 :=
  cwV 1 hts (zGood h1 w_351 w_352 w_1 w_353) rfl hrc hrs (by decide +kernel) hR
abbrev y_Store_begin : MethodName := ⟨"LeasedViewStore", "begin", "(IZII)I"⟩
def ws_Store_begin : List Cond := .code y_Store_begin prog_1_method_7_code 6 (Option.some Jvm.ClassFile.FieldType.int) :: zWs
theorem cw_Store_begin {R : Room} {s : State} {args : Array Value} {c0 : Cond} {own : String} {idx : Nat} {rm : Room} (hts : ∀ w ∈ c0 :: zWs, w.before args s = true) (h1 : Cond.methodLink own idx y_Store_begin ∈ zWs) (hrc : rm.cells = 0) (hrs : rm.slots = 0) (hR : rm.frames + 1 ≤ R.frames ∧ 8 + (6 + 11) + rm.locals ≤ R.locals) : CallW R s args own "LeasedViewStore" idx y_Store_begin prog_1_method_7_code 6 (Option.some Jvm.ClassFile.FieldType.int) ws_Store_begin rm 0 0 4 :=
  cwV 4 hts (zGood h1 w_380 w_381 w_1 w_382) rfl hrc hrs (by decide +kernel) hR
abbrev y_Store_send : MethodName := ⟨"LeasedViewStore", "send", "(II)Z"⟩
def ws_Store_send : List Cond := .code y_Store_send prog_1_method_8_code 3 (Option.some Jvm.ClassFile.FieldType.boolean) :: zWs
theorem cw_Store_send {R : Room} {s : State} {args : Array Value} {c0 : Cond} {own : String} {idx : Nat} {rm : Room} (hts : ∀ w ∈ c0 :: zWs, w.before args s = true) (h1 : Cond.methodLink own idx y_Store_send ∈ zWs) (hrc : rm.cells = 0) (hrs : rm.slots = 0) (hR : rm.frames + 1 ≤ R.frames ∧ 8 + (3 + 11) + rm.locals ≤ R.locals) : CallW R s args own "LeasedViewStore" idx y_Store_send prog_1_method_8_code 3 (Option.some Jvm.ClassFile.FieldType.boolean) ws_Store_send rm 0 0 2 :=
  cwV 2 hts (zGood h1 w_396 w_397 w_1 w_398) rfl hrc hrs (by decide +kernel) hR
abbrev y_Store_deliver : MethodName := ⟨"LeasedViewStore", "deliver", "(I)I"⟩
def ws_Store_deliver : List Cond := .code y_Store_deliver prog_1_method_9_code 3 (Option.some Jvm.ClassFile.FieldType.int) :: zWs
theorem cw_Store_deliver {R : Room} {s : State} {args : Array Value} {c0 : Cond} {own : String} {idx : Nat} {rm : Room} (hts : ∀ w ∈ c0 :: zWs, w.before args s = true) (h1 : Cond.methodLink own idx y_Store_deliver ∈ zWs) (hrc : rm.cells = 0) (hrs : rm.slots = 0) (hR : rm.frames + 1 ≤ R.frames ∧ 8 + (3 + 11) + rm.locals ≤ R.locals) : CallW R s args own "LeasedViewStore" idx y_Store_deliver prog_1_method_9_code 3 (Option.some Jvm.ClassFile.FieldType.int) ws_Store_deliver rm 0 0 1 :=
  cwV 1 hts (zGood h1 w_400 w_401 w_1 w_402) rfl hrc hrs (by decide +kernel) hR
abbrev y_Store_lose : MethodName := ⟨"LeasedViewStore", "lose", "(I)Z"⟩
def ws_Store_lose : List Cond := .code y_Store_lose prog_1_method_10_code 2 (Option.some Jvm.ClassFile.FieldType.boolean) :: zWs
theorem cw_Store_lose {R : Room} {s : State} {args : Array Value} {c0 : Cond} {own : String} {idx : Nat} {rm : Room} (hts : ∀ w ∈ c0 :: zWs, w.before args s = true) (h1 : Cond.methodLink own idx y_Store_lose ∈ zWs) (hrc : rm.cells = 0) (hrs : rm.slots = 0) (hR : rm.frames + 1 ≤ R.frames ∧ 8 + (2 + 11) + rm.locals ≤ R.locals) : CallW R s args own "LeasedViewStore" idx y_Store_lose prog_1_method_10_code 2 (Option.some Jvm.ClassFile.FieldType.boolean) ws_Store_lose rm 0 0 1 :=
  cwV 1 hts (zGood h1 w_484 w_485 w_1 w_486) rfl hrc hrs (by decide +kernel) hR
abbrev y_Store_crash : MethodName := ⟨"LeasedViewStore", "crash", "(I)Z"⟩
def ws_Store_crash : List Cond := .code y_Store_crash prog_1_method_11_code 2 (Option.some Jvm.ClassFile.FieldType.boolean) :: zWs
theorem cw_Store_crash {R : Room} {s : State} {args : Array Value} {c0 : Cond} {own : String} {idx : Nat} {rm : Room} (hts : ∀ w ∈ c0 :: zWs, w.before args s = true) (h1 : Cond.methodLink own idx y_Store_crash ∈ zWs) (hrc : rm.cells = 0) (hrs : rm.slots = 0) (hR : rm.frames + 1 ≤ R.frames ∧ 8 + (2 + 11) + rm.locals ≤ R.locals) : CallW R s args own "LeasedViewStore" idx y_Store_crash prog_1_method_11_code 2 (Option.some Jvm.ClassFile.FieldType.boolean) ws_Store_crash rm 0 0 1 :=
  cwV 1 hts (zGood h1 w_488 w_489 w_1 w_490) rfl hrc hrs (by decide +kernel) hR
abbrev y_Store_letters : MethodName := ⟨"LeasedViewStore", "letters", "()I"⟩
def ws_Store_letters : List Cond := .code y_Store_letters prog_1_method_12_code 1 (Option.some Jvm.ClassFile.FieldType.int) :: zWs
theorem cw_Store_letters {R : Room} {s : State} {args : Array Value} {c0 : Cond} {own : String} {idx : Nat} {rm : Room} (hts : ∀ w ∈ c0 :: zWs, w.before args s = true) (h1 : Cond.methodLink own idx y_Store_letters ∈ zWs) (hrc : rm.cells = 0) (hrs : rm.slots = 0) (hR : rm.frames + 1 ≤ R.frames ∧ 8 + (1 + 11) + rm.locals ≤ R.locals) : CallW R s args own "LeasedViewStore" idx y_Store_letters prog_1_method_12_code 1 (Option.some Jvm.ClassFile.FieldType.int) ws_Store_letters rm 0 0 0 :=
  cwV 0 hts (zGood h1 w_492 w_493 w_1 w_494) rfl hrc hrs (by decide +kernel) hR
abbrev y_Store_letter : MethodName := ⟨"LeasedViewStore", "letter", "(I)I"⟩
def ws_Store_letter : List Cond := .code y_Store_letter prog_1_method_13_code 3 (Option.some Jvm.ClassFile.FieldType.int) :: zWs
theorem cw_Store_letter {R : Room} {s : State} {args : Array Value} {c0 : Cond} {own : String} {idx : Nat} {rm : Room} (hts : ∀ w ∈ c0 :: zWs, w.before args s = true) (h1 : Cond.methodLink own idx y_Store_letter ∈ zWs) (hrc : rm.cells = 0) (hrs : rm.slots = 0) (hR : rm.frames + 1 ≤ R.frames ∧ 8 + (3 + 11) + rm.locals ≤ R.locals) : CallW R s args own "LeasedViewStore" idx y_Store_letter prog_1_method_13_code 3 (Option.some Jvm.ClassFile.FieldType.int) ws_Store_letter rm 0 0 1 :=
  cwV 1 hts (zGood h1 w_496 w_497 w_1 w_498) rfl hrc hrs (by decide +kernel) hR
abbrev y_Store_view : MethodName := ⟨"LeasedViewStore", "view", "(I)I"⟩
def ws_Store_view : List Cond := .code y_Store_view prog_1_method_14_code 2 (Option.some Jvm.ClassFile.FieldType.int) :: zWs
theorem cw_Store_view {R : Room} {s : State} {args : Array Value} {c0 : Cond} {own : String} {idx : Nat} {rm : Room} (hts : ∀ w ∈ c0 :: zWs, w.before args s = true) (h1 : Cond.methodLink own idx y_Store_view ∈ zWs) (hrc : rm.cells = 0) (hrs : rm.slots = 0) (hR : rm.frames + 1 ≤ R.frames ∧ 8 + (2 + 11) + rm.locals ≤ R.locals) : CallW R s args own "LeasedViewStore" idx y_Store_view prog_1_method_14_code 2 (Option.some Jvm.ClassFile.FieldType.int) ws_Store_view rm 0 0 1 :=
  cwV 1 hts (zGood h1 w_500 w_501 w_1 w_502) rfl hrc hrs (by decide +kernel) hR
abbrev y_Store_role : MethodName := ⟨"LeasedViewStore", "role", "(I)I"⟩
def ws_Store_role : List Cond := .code y_Store_role prog_1_method_15_code 3 (Option.some Jvm.ClassFile.FieldType.int) :: zWs
theorem cw_Store_role {R : Room} {s : State} {args : Array Value} {c0 : Cond} {own : String} {idx : Nat} {rm : Room} (hts : ∀ w ∈ c0 :: zWs, w.before args s = true) (h1 : Cond.methodLink own idx y_Store_role ∈ zWs) (hrc : rm.cells = 0) (hrs : rm.slots = 0) (hR : rm.frames + 1 ≤ R.frames ∧ 8 + (3 + 11) + rm.locals ≤ R.locals) : CallW R s args own "LeasedViewStore" idx y_Store_role prog_1_method_15_code 3 (Option.some Jvm.ClassFile.FieldType.int) ws_Store_role rm 0 0 1 :=
  cwV 1 hts (zGood h1 w_508 w_509 w_1 w_510) rfl hrc hrs (by decide +kernel) hR
abbrev y_Store_cell : MethodName := ⟨"LeasedViewStore", "cell", "(II)I"⟩
def ws_Store_cell : List Cond := .code y_Store_cell prog_1_method_16_code 3 (Option.some Jvm.ClassFile.FieldType.int) :: zWs
theorem cw_Store_cell {R : Room} {s : State} {args : Array Value} {c0 : Cond} {own : String} {idx : Nat} {rm : Room} (hts : ∀ w ∈ c0 :: zWs, w.before args s = true) (h1 : Cond.methodLink own idx y_Store_cell ∈ zWs) (hrc : rm.cells = 0) (hrs : rm.slots = 0) (hR : rm.frames + 1 ≤ R.frames ∧ 8 + (3 + 11) + rm.locals ≤ R.locals) : CallW R s args own "LeasedViewStore" idx y_Store_cell prog_1_method_16_code 3 (Option.some Jvm.ClassFile.FieldType.int) ws_Store_cell rm 0 0 2 :=
  cwV 2 hts (zGood h1 w_516 w_517 w_1 w_518) rfl hrc hrs (by decide +kernel) hR
abbrev y_Store_count : MethodName := ⟨"LeasedViewStore", "count", "(I)I"⟩
def ws_Store_count : List Cond := .code y_Store_count prog_1_method_17_code 2 (Option.some Jvm.ClassFile.FieldType.int) :: zWs
theorem cw_Store_count {R : Room} {s : State} {args : Array Value} {c0 : Cond} {own : String} {idx : Nat} {rm : Room} (hts : ∀ w ∈ c0 :: zWs, w.before args s = true) (h1 : Cond.methodLink own idx y_Store_count ∈ zWs) (hrc : rm.cells = 0) (hrs : rm.slots = 0) (hR : rm.frames + 1 ≤ R.frames ∧ 8 + (2 + 11) + rm.locals ≤ R.locals) : CallW R s args own "LeasedViewStore" idx y_Store_count prog_1_method_17_code 2 (Option.some Jvm.ClassFile.FieldType.int) ws_Store_count rm 0 0 1 :=
  cwV 1 hts (zGood h1 w_520 w_521 w_1 w_522) rfl hrc hrs (by decide +kernel) hR
abbrev y_Store_finished : MethodName := ⟨"LeasedViewStore", "finished", "(I)I"⟩
def ws_Store_finished : List Cond := .code y_Store_finished prog_1_method_18_code 2 (Option.some Jvm.ClassFile.FieldType.int) :: zWs
theorem cw_Store_finished {R : Room} {s : State} {args : Array Value} {c0 : Cond} {own : String} {idx : Nat} {rm : Room} (hts : ∀ w ∈ c0 :: zWs, w.before args s = true) (h1 : Cond.methodLink own idx y_Store_finished ∈ zWs) (hrc : rm.cells = 0) (hrs : rm.slots = 0) (hR : rm.frames + 1 ≤ R.frames ∧ 8 + (2 + 11) + rm.locals ≤ R.locals) : CallW R s args own "LeasedViewStore" idx y_Store_finished prog_1_method_18_code 2 (Option.some Jvm.ClassFile.FieldType.int) ws_Store_finished rm 0 0 1 :=
  cwV 1 hts (zGood h1 w_524 w_525 w_1 w_526) rfl hrc hrs (by decide +kernel) hR
abbrev y_Store_result : MethodName := ⟨"LeasedViewStore", "result", "(I)I"⟩
def ws_Store_result : List Cond := .code y_Store_result prog_1_method_19_code 2 (Option.some Jvm.ClassFile.FieldType.int) :: zWs
theorem cw_Store_result {R : Room} {s : State} {args : Array Value} {c0 : Cond} {own : String} {idx : Nat} {rm : Room} (hts : ∀ w ∈ c0 :: zWs, w.before args s = true) (h1 : Cond.methodLink own idx y_Store_result ∈ zWs) (hrc : rm.cells = 0) (hrs : rm.slots = 0) (hR : rm.frames + 1 ≤ R.frames ∧ 8 + (2 + 11) + rm.locals ≤ R.locals) : CallW R s args own "LeasedViewStore" idx y_Store_result prog_1_method_19_code 2 (Option.some Jvm.ClassFile.FieldType.int) ws_Store_result rm 0 0 1 :=
  cwV 1 hts (zGood h1 w_528 w_529 w_1 w_530) rfl hrc hrs (by decide +kernel) hR
abbrev y_Store_isServer : MethodName := ⟨"LeasedViewStore", "isServer", "(I)Z"⟩
def ws_Store_isServer : List Cond := .code y_Store_isServer prog_1_method_20_code 2 (Option.some Jvm.ClassFile.FieldType.boolean) :: zWs
theorem cw_Store_isServer {R : Room} {s : State} {args : Array Value} {c0 : Cond} {own : String} {idx : Nat} {rm : Room} (hts : ∀ w ∈ c0 :: zWs, w.before args s = true) (h1 : Cond.methodLink own idx y_Store_isServer ∈ zWs) (hrc : rm.cells = 0) (hrs : rm.slots = 0) (hR : rm.frames + 1 ≤ R.frames ∧ 8 + (2 + 11) + rm.locals ≤ R.locals) : CallW R s args own "LeasedViewStore" idx y_Store_isServer prog_1_method_20_code 2 (Option.some Jvm.ClassFile.FieldType.boolean) ws_Store_isServer rm 0 0 1 :=
  cwV 1 hts (zGood h1 w_304 ws_0 w_1 w_305) rfl hrc hrs (by decide +kernel) hR
abbrev y_Store_isClient : MethodName := ⟨"LeasedViewStore", "isClient", "(I)Z"⟩
def ws_Store_isClient : List Cond := .code y_Store_isClient prog_1_method_21_code 2 (Option.some Jvm.ClassFile.FieldType.boolean) :: zWs
theorem cw_Store_isClient {R : Room} {s : State} {args : Array Value} {c0 : Cond} {own : String} {idx : Nat} {rm : Room} (hts : ∀ w ∈ c0 :: zWs, w.before args s = true) (h1 : Cond.methodLink own idx y_Store_isClient ∈ zWs) (hrc : rm.cells = 0) (hrs : rm.slots = 0) (hR : rm.frames + 1 ≤ R.frames ∧ 8 + (2 + 11) + rm.locals ≤ R.locals) : CallW R s args own "LeasedViewStore" idx y_Store_isClient prog_1_method_21_code 2 (Option.some Jvm.ClassFile.FieldType.boolean) ws_Store_isClient rm 0 0 1 :=
  cwV 1 hts (zGood h1 w_385 ws_4 w_1 w_386) rfl hrc hrs (by decide +kernel) hR
abbrev y_Store_isCell : MethodName := ⟨"LeasedViewStore", "isCell", "(I)Z"⟩
def ws_Store_isCell : List Cond := .code y_Store_isCell prog_1_method_22_code 2 (Option.some Jvm.ClassFile.FieldType.boolean) :: zWs
theorem cw_Store_isCell {R : Room} {s : State} {args : Array Value} {c0 : Cond} {own : String} {idx : Nat} {rm : Room} (hts : ∀ w ∈ c0 :: zWs, w.before args s = true) (h1 : Cond.methodLink own idx y_Store_isCell ∈ zWs) (hrc : rm.cells = 0) (hrs : rm.slots = 0) (hR : rm.frames + 1 ≤ R.frames ∧ 8 + (2 + 11) + rm.locals ≤ R.locals) : CallW R s args own "LeasedViewStore" idx y_Store_isCell prog_1_method_22_code 2 (Option.some Jvm.ClassFile.FieldType.boolean) ws_Store_isCell rm 0 0 1 :=
  cwV 1 hts (zGood h1 w_389 ws_5 w_1 w_390) rfl hrc hrs (by decide +kernel) hR
abbrev y_Store_clockOf : MethodName := ⟨"LeasedViewStore", "clockOf", "(LLeasedViewStore$Server;)I"⟩
def ws_Store_clockOf : List Cond := .code y_Store_clockOf prog_1_method_23_code 2 (Option.some Jvm.ClassFile.FieldType.int) :: zWs
theorem cw_Store_clockOf {R : Room} {s : State} {args : Array Value} {c0 : Cond} {own : String} {idx : Nat} {rm : Room} (hts : ∀ w ∈ c0 :: zWs, w.before args s = true) (h1 : Cond.methodLink own idx y_Store_clockOf ∈ zWs) (hrc : rm.cells = 0) (hrs : rm.slots = 0) (hR : rm.frames + 1 ≤ R.frames ∧ 8 + (2 + 11) + rm.locals ≤ R.locals) : CallW R s args own "LeasedViewStore" idx y_Store_clockOf prog_1_method_23_code 2 (Option.some Jvm.ClassFile.FieldType.int) ws_Store_clockOf rm 0 0 1 :=
  cwV 1 hts (zGood h1 w_324 ws_1 w_1 w_325) rfl hrc hrs (by decide +kernel) hR
abbrev y_Store_takesEffect : MethodName := ⟨"LeasedViewStore", "takesEffect", "(LLeasedViewStore$Letter;)Z"⟩
def ws_Store_takesEffect : List Cond := .code y_Store_takesEffect prog_1_method_24_code 3 (Option.some Jvm.ClassFile.FieldType.boolean) :: zWs
theorem cw_Store_takesEffect {R : Room} {s : State} {args : Array Value} {c0 : Cond} {own : String} {idx : Nat} {rm : Room} (hts : ∀ w ∈ c0 :: zWs, w.before args s = true) (h1 : Cond.methodLink own idx y_Store_takesEffect ∈ zWs) (hrc : rm.cells = 0) (hrs : rm.slots = 0) (hR : rm.frames + 1 ≤ R.frames ∧ 8 + (3 + 11) + rm.locals ≤ R.locals) : CallW R s args own "LeasedViewStore" idx y_Store_takesEffect prog_1_method_24_code 3 (Option.some Jvm.ClassFile.FieldType.boolean) ws_Store_takesEffect rm 0 0 1 :=
  cwV 1 hts (zGood h1 w_413 ws_6 w_1 w_414) rfl hrc hrs (by decide +kernel) hR
abbrev y_Store_takePing : MethodName := ⟨"LeasedViewStore", "takePing", "(LLeasedViewStore$Letter;)Z"⟩
def ws_Store_takePing : List Cond := .code y_Store_takePing prog_1_method_25_code 3 (Option.some Jvm.ClassFile.FieldType.boolean) :: zWs
theorem cw_Store_takePing {R : Room} {s : State} {args : Array Value} {c0 : Cond} {own : String} {idx : Nat} {rm : Room} (hts : ∀ w ∈ c0 :: zWs, w.before args s = true) (h1 : Cond.methodLink own idx y_Store_takePing ∈ zWs) (hrc : rm.cells = 0) (hrs : rm.slots = 0) (hR : rm.frames + 1 ≤ R.frames ∧ 8 + (3 + 11) + rm.locals ≤ R.locals) : CallW R s args own "LeasedViewStore" idx y_Store_takePing prog_1_method_25_code 3 (Option.some Jvm.ClassFile.FieldType.boolean) ws_Store_takePing rm 0 0 1 :=
  cwV 1 hts (zGood h1 w_417 ws_7 w_1 w_418) rfl hrc hrs (by decide +kernel) hR
abbrev y_Store_takeView : MethodName := ⟨"LeasedViewStore", "takeView", "(LLeasedViewStore$Server;LLeasedViewStore$Letter;)Z"⟩
def ws_Store_takeView : List Cond := .code y_Store_takeView prog_1_method_26_code 3 (Option.some Jvm.ClassFile.FieldType.boolean) :: zWs
theorem cw_Store_takeView {R : Room} {s : State} {args : Array Value} {c0 : Cond} {own : String} {idx : Nat} {rm : Room} (hts : ∀ w ∈ c0 :: zWs, w.before args s = true) (h1 : Cond.methodLink own idx y_Store_takeView ∈ zWs) (hrc : rm.cells = 0) (hrs : rm.slots = 0) (hR : rm.frames + 1 ≤ R.frames ∧ 8 + (3 + 11) + rm.locals ≤ R.locals) : CallW R s args own "LeasedViewStore" idx y_Store_takeView prog_1_method_26_code 3 (Option.some Jvm.ClassFile.FieldType.boolean) ws_Store_takeView rm 0 0 2 :=
  cwV 2 hts (zGood h1 w_429 ws_8 w_1 w_430) rfl hrc hrs (by decide +kernel) hR
abbrev y_Store_takeFill : MethodName := ⟨"LeasedViewStore", "takeFill", "(LLeasedViewStore$Server;LLeasedViewStore$Letter;)Z"⟩
def ws_Store_takeFill : List Cond := .code y_Store_takeFill prog_1_method_27_code 3 (Option.some Jvm.ClassFile.FieldType.boolean) :: zWs
theorem cw_Store_takeFill {R : Room} {s : State} {args : Array Value} {c0 : Cond} {own : String} {idx : Nat} {rm : Room} (hts : ∀ w ∈ c0 :: zWs, w.before args s = true) (h1 : Cond.methodLink own idx y_Store_takeFill ∈ zWs) (hrc : rm.cells = 0) (hrs : rm.slots = 0) (hR : rm.frames + 1 ≤ R.frames ∧ 8 + (3 + 11) + rm.locals ≤ R.locals) : CallW R s args own "LeasedViewStore" idx y_Store_takeFill prog_1_method_27_code 3 (Option.some Jvm.ClassFile.FieldType.boolean) ws_Store_takeFill rm 0 0 2 :=
  cwV 2 hts (zGood h1 w_437 ws_10 w_1 w_438) rfl hrc hrs (by decide +kernel) hR
abbrev y_Store_takeFilled : MethodName := ⟨"LeasedViewStore", "takeFilled", "(LLeasedViewStore$Server;LLeasedViewStore$Letter;)Z"⟩
def ws_Store_takeFilled : List Cond := .code y_Store_takeFilled prog_1_method_28_code 3 (Option.some Jvm.ClassFile.FieldType.boolean) :: zWs
theorem cw_Store_takeFilled {R : Room} {s : State} {args : Array Value} {c0 : Cond} {own : String} {idx : Nat} {rm : Room} (hts : ∀ w ∈ c0 :: zWs, w.before args s = true) (h1 : Cond.methodLink own idx y_Store_takeFilled ∈ zWs) (hrc : rm.cells = 0) (hrs : rm.slots = 0) (hR : rm.frames + 1 ≤ R.frames ∧ 8 + (3 + 11) + rm.locals ≤ R.locals) : CallW R s args own "LeasedViewStore" idx y_Store_takeFilled prog_1_method_28_code 3 (Option.some Jvm.ClassFile.FieldType.boolean) ws_Store_takeFilled rm 0 0 2 :=
  cwV 2 hts (zGood h1 w_441 ws_11 w_1 w_442) rfl hrc hrs (by decide +kernel) hR
abbrev y_Store_takePass : MethodName := ⟨"LeasedViewStore", "takePass", "(LLeasedViewStore$Server;LLeasedViewStore$Letter;)Z"⟩
def ws_Store_takePass : List Cond := .code y_Store_takePass prog_1_method_29_code 4 (Option.some Jvm.ClassFile.FieldType.boolean) :: zWs
theorem cw_Store_takePass {R : Room} {s : State} {args : Array Value} {c0 : Cond} {own : String} {idx : Nat} {rm : Room} (hts : ∀ w ∈ c0 :: zWs, w.before args s = true) (h1 : Cond.methodLink own idx y_Store_takePass ∈ zWs) (hrc : rm.cells = 0) (hrs : rm.slots = 0) (hR : rm.frames + 1 ≤ R.frames ∧ 8 + (4 + 11) + rm.locals ≤ R.locals) : CallW R s args own "LeasedViewStore" idx y_Store_takePass prog_1_method_29_code 4 (Option.some Jvm.ClassFile.FieldType.boolean) ws_Store_takePass rm 0 0 2 :=
  cwV 2 hts (zGood h1 w_449 ws_12 w_1 w_450) rfl hrc hrs (by decide +kernel) hR
abbrev y_Store_takePassed : MethodName := ⟨"LeasedViewStore", "takePassed", "(LLeasedViewStore$Server;LLeasedViewStore$Letter;)Z"⟩
def ws_Store_takePassed : List Cond := .code y_Store_takePassed prog_1_method_30_code 3 (Option.some Jvm.ClassFile.FieldType.boolean) :: zWs
theorem cw_Store_takePassed {R : Room} {s : State} {args : Array Value} {c0 : Cond} {own : String} {idx : Nat} {rm : Room} (hts : ∀ w ∈ c0 :: zWs, w.before args s = true) (h1 : Cond.methodLink own idx y_Store_takePassed ∈ zWs) (hrc : rm.cells = 0) (hrs : rm.slots = 0) (hR : rm.frames + 1 ≤ R.frames ∧ 8 + (3 + 11) + rm.locals ≤ R.locals) : CallW R s args own "LeasedViewStore" idx y_Store_takePassed prog_1_method_30_code 3 (Option.some Jvm.ClassFile.FieldType.boolean) ws_Store_takePassed rm 0 0 2 :=
  cwV 2 hts (zGood h1 w_461 ws_13 w_1 w_462) rfl hrc hrs (by decide +kernel) hR
abbrev y_Store_takeAsk : MethodName := ⟨"LeasedViewStore", "takeAsk", "(LLeasedViewStore$Server;LLeasedViewStore$Letter;)Z"⟩
def ws_Store_takeAsk : List Cond := .code y_Store_takeAsk prog_1_method_31_code 4 (Option.some Jvm.ClassFile.FieldType.boolean) :: zWs
theorem cw_Store_takeAsk {R : Room} {s : State} {args : Array Value} {c0 : Cond} {own : String} {idx : Nat} {rm : Room} (hts : ∀ w ∈ c0 :: zWs, w.before args s = true) (h1 : Cond.methodLink own idx y_Store_takeAsk ∈ zWs) (hrc : rm.cells = 0) (hrs : rm.slots = 0) (hR : rm.frames + 1 ≤ R.frames ∧ 8 + (4 + 11) + rm.locals ≤ R.locals) : CallW R s args own "LeasedViewStore" idx y_Store_takeAsk prog_1_method_31_code 4 (Option.some Jvm.ClassFile.FieldType.boolean) ws_Store_takeAsk rm 0 0 2 :=
  cwV 2 hts (zGood h1 w_473 ws_16 w_1 w_474) rfl hrc hrs (by decide +kernel) hR
abbrev y_Store_takeRead : MethodName := ⟨"LeasedViewStore", "takeRead", "(LLeasedViewStore$Server;LLeasedViewStore$Operation;)Z"⟩
def ws_Store_takeRead : List Cond := .code y_Store_takeRead prog_1_method_32_code 3 (Option.some Jvm.ClassFile.FieldType.boolean) :: zWs
theorem cw_Store_takeRead {R : Room} {s : State} {args : Array Value} {c0 : Cond} {own : String} {idx : Nat} {rm : Room} (hts : ∀ w ∈ c0 :: zWs, w.before args s = true) (h1 : Cond.methodLink own idx y_Store_takeRead ∈ zWs) (hrc : rm.cells = 0) (hrs : rm.slots = 0) (hR : rm.frames + 1 ≤ R.frames ∧ 8 + (3 + 11) + rm.locals ≤ R.locals) : CallW R s args own "LeasedViewStore" idx y_Store_takeRead prog_1_method_32_code 3 (Option.some Jvm.ClassFile.FieldType.boolean) ws_Store_takeRead rm 0 0 2 :=
  cwV 2 hts (zGood h1 w_481 ws_18 w_1 w_482) rfl hrc hrs (by decide +kernel) hR
abbrev y_Store_takeWrite : MethodName := ⟨"LeasedViewStore", "takeWrite", "(LLeasedViewStore$Server;LLeasedViewStore$Operation;)Z"⟩
def ws_Store_takeWrite : List Cond := .code y_Store_takeWrite prog_1_method_33_code 4 (Option.some Jvm.ClassFile.FieldType.boolean) :: zWs
theorem cw_Store_takeWrite {R : Room} {s : State} {args : Array Value} {c0 : Cond} {own : String} {idx : Nat} {rm : Room} (hts : ∀ w ∈ c0 :: zWs, w.before args s = true) (h1 : Cond.methodLink own idx y_Store_takeWrite ∈ zWs) (hrc : rm.cells = 0) (hrs : rm.slots = 0) (hR : rm.frames + 1 ≤ R.frames ∧ 8 + (4 + 11) + rm.locals ≤ R.locals) : CallW R s args own "LeasedViewStore" idx y_Store_takeWrite prog_1_method_33_code 4 (Option.some Jvm.ClassFile.FieldType.boolean) ws_Store_takeWrite rm 0 0 2 :=
  cwV 2 hts (zGood h1 w_477 ws_17 w_1 w_478) rfl hrc hrs (by decide +kernel) hR
abbrev y_Store_doWriteAndAnswer : MethodName := ⟨"LeasedViewStore", "doWriteAndAnswer", "(LLeasedViewStore$Server;LLeasedViewStore$Operation;)V"⟩
def ws_Store_doWriteAndAnswer : List Cond := .code y_Store_doWriteAndAnswer prog_1_method_34_code 3 (Option.none : Option Jvm.ClassFile.FieldType) :: zWs
theorem cw_Store_doWriteAndAnswer {R : Room} {s : State} {args : Array Value} {c0 : Cond} {own : String} {idx : Nat} {rm : Room} (hts : ∀ w ∈ c0 :: zWs, w.before args s = true) (h1 : Cond.methodLink own idx y_Store_doWriteAndAnswer ∈ zWs) (hrc : rm.cells = 0) (hrs : rm.slots = 0) (hR : rm.frames + 1 ≤ R.frames ∧ 8 + (3 + 11) + rm.locals ≤ R.locals) : CallW R s args own "LeasedViewStore" idx y_Store_doWriteAndAnswer prog_1_method_34_code 3 (Option.none : Option Jvm.ClassFile.FieldType) ws_Store_doWriteAndAnswer rm 0 0 2 :=
  cwV 2 hts (zGood h1 w_465 ws_14 w_1 w_466) rfl hrc hrs (by decide +kernel) hR
abbrev y_Store_enterView : MethodName := ⟨"LeasedViewStore", "enterView", "(LLeasedViewStore$Server;LLeasedViewStore$View;)V"⟩
def ws_Store_enterView : List Cond := .code y_Store_enterView prog_1_method_35_code 3 (Option.none : Option Jvm.ClassFile.FieldType) :: zWs
theorem cw_Store_enterView {R : Room} {s : State} {args : Array Value} {c0 : Cond} {own : String} {idx : Nat} {rm : Room} (hts : ∀ w ∈ c0 :: zWs, w.before args s = true) (h1 : Cond.methodLink own idx y_Store_enterView ∈ zWs) (hrc : rm.cells = 0) (hrs : rm.slots = 0) (hR : rm.frames + 1 ≤ R.frames ∧ 8 + (3 + 11) + rm.locals ≤ R.locals) : CallW R s args own "LeasedViewStore" idx y_Store_enterView prog_1_method_35_code 3 (Option.none : Option Jvm.ClassFile.FieldType) ws_Store_enterView rm 0 0 2 :=
  cwV 2 hts (zGood h1 w_433 ws_9 w_1 w_434) rfl hrc hrs (by decide +kernel) hR
abbrev y_Store_sendFill : MethodName := ⟨"LeasedViewStore", "sendFill", "(LLeasedViewStore$Server;)V"⟩
def ws_Store_sendFill : List Cond := .code y_Store_sendFill prog_1_method_36_code 3 (Option.none : Option Jvm.ClassFile.FieldType) :: zWs
theorem cw_Store_sendFill {R : Room} {s : State} {args : Array Value} {c0 : Cond} {own : String} {idx : Nat} {rm : Room} (hts : ∀ w ∈ c0 :: zWs, w.before args s = true) (h1 : Cond.methodLink own idx y_Store_sendFill ∈ zWs) (hrc : rm.cells = 0) (hrs : rm.slots = 0) (hR : rm.frames + 1 ≤ R.frames ∧ 8 + (3 + 11) + rm.locals ≤ R.locals) : CallW R s args own "LeasedViewStore" idx y_Store_sendFill prog_1_method_36_code 3 (Option.none : Option Jvm.ClassFile.FieldType) ws_Store_sendFill rm 0 0 1 :=
  cwV 1 hts (zGood h1 w_358 ws_2 w_1 w_359) rfl hrc hrs (by decide +kernel) hR
abbrev y_Store_sendPass : MethodName := ⟨"LeasedViewStore", "sendPass", "(LLeasedViewStore$Server;)V"⟩
def ws_Store_sendPass : List Cond := .code y_Store_sendPass prog_1_method_37_code 3 (Option.none : Option Jvm.ClassFile.FieldType) :: zWs
theorem cw_Store_sendPass {R : Room} {s : State} {args : Array Value} {c0 : Cond} {own : String} {idx : Nat} {rm : Room} (hts : ∀ w ∈ c0 :: zWs, w.before args s = true) (h1 : Cond.methodLink own idx y_Store_sendPass ∈ zWs) (hrc : rm.cells = 0) (hrs : rm.slots = 0) (hR : rm.frames + 1 ≤ R.frames ∧ 8 + (3 + 11) + rm.locals ≤ R.locals) : CallW R s args own "LeasedViewStore" idx y_Store_sendPass prog_1_method_37_code 3 (Option.none : Option Jvm.ClassFile.FieldType) ws_Store_sendPass rm 0 0 1 :=
  cwV 1 hts (zGood h1 w_373 ws_3 w_1 w_374) rfl hrc hrs (by decide +kernel) hR
abbrev y_Store_sendAnswer : MethodName := ⟨"LeasedViewStore", "sendAnswer", "(LLeasedViewStore$Operation;I)V"⟩
def ws_Store_sendAnswer : List Cond := .code y_Store_sendAnswer prog_1_method_38_code 4 (Option.none : Option Jvm.ClassFile.FieldType) :: zWs
theorem cw_Store_sendAnswer {R : Room} {s : State} {args : Array Value} {c0 : Cond} {own : String} {idx : Nat} {rm : Room} (hts : ∀ w ∈ c0 :: zWs, w.before args s = true) (h1 : Cond.methodLink own idx y_Store_sendAnswer ∈ zWs) (hrc : rm.cells = 0) (hrs : rm.slots = 0) (hR : rm.frames + 1 ≤ R.frames ∧ 8 + (4 + 11) + rm.locals ≤ R.locals) : CallW R s args own "LeasedViewStore" idx y_Store_sendAnswer prog_1_method_38_code 4 (Option.none : Option Jvm.ClassFile.FieldType) ws_Store_sendAnswer rm 0 0 2 :=
  cwV 2 hts (zGood h1 w_469 ws_15 w_1 w_470) rfl hrc hrs (by decide +kernel) hR
abbrev y_Model_init : MethodName := ⟨"LeasedViewStoreModel", "<init>", "(I)V"⟩
def ws_Model_init : List Cond := .code y_Model_init prog_11_method_1_code 3 (Option.none : Option Jvm.ClassFile.FieldType) :: zWs
abbrev y_Model_noServer : MethodName := ⟨"LeasedViewStoreModel", "noServer", "(I)Z"⟩
def ws_Model_noServer : List Cond := .code y_Model_noServer prog_11_method_2_code 2 (Option.some Jvm.ClassFile.FieldType.boolean) :: zWs
theorem cw_Model_noServer {R : Room} {s : State} {args : Array Value} {c0 : Cond} {own : String} {idx : Nat} {rm : Room} (hts : ∀ w ∈ c0 :: zWs, w.before args s = true) (h1 : Cond.methodLink own idx y_Model_noServer ∈ zWs) (hrc : rm.cells = 0) (hrs : rm.slots = 0) (hR : rm.frames + 1 ≤ R.frames ∧ 8 + (2 + 11) + rm.locals ≤ R.locals) : CallW R s args own "LeasedViewStoreModel" idx y_Model_noServer prog_11_method_2_code 2 (Option.some Jvm.ClassFile.FieldType.boolean) ws_Model_noServer rm 0 0 1 :=
  cwV 1 hts (zGood h1 w_672 ws_20 w_11 w_673) rfl hrc hrs (by decide +kernel) hR
abbrev y_Model_noClient : MethodName := ⟨"LeasedViewStoreModel", "noClient", "(I)Z"⟩
def ws_Model_noClient : List Cond := .code y_Model_noClient prog_11_method_3_code 2 (Option.some Jvm.ClassFile.FieldType.boolean) :: zWs
theorem cw_Model_noClient {R : Room} {s : State} {args : Array Value} {c0 : Cond} {own : String} {idx : Nat} {rm : Room} (hts : ∀ w ∈ c0 :: zWs, w.before args s = true) (h1 : Cond.methodLink own idx y_Model_noClient ∈ zWs) (hrc : rm.cells = 0) (hrs : rm.slots = 0) (hR : rm.frames + 1 ≤ R.frames ∧ 8 + (2 + 11) + rm.locals ≤ R.locals) : CallW R s args own "LeasedViewStoreModel" idx y_Model_noClient prog_11_method_3_code 2 (Option.some Jvm.ClassFile.FieldType.boolean) ws_Model_noClient rm 0 0 1 :=
  cwV 1 hts (zGood h1 w_704 ws_25 w_11 w_705) rfl hrc hrs (by decide +kernel) hR
abbrev y_Model_post : MethodName := ⟨"LeasedViewStoreModel", "post", "(II)I"⟩
def ws_Model_post : List Cond := .code y_Model_post prog_11_method_4_code 4 (Option.some Jvm.ClassFile.FieldType.int) :: zWs
theorem cw_Model_post {R : Room} {s : State} {args : Array Value} {c0 : Cond} {own : String} {idx : Nat} {rm : Room} (hts : ∀ w ∈ c0 :: zWs, w.before args s = true) (h1 : Cond.methodLink own idx y_Model_post ∈ zWs) (hrc : rm.cells = 0) (hrs : rm.slots = 0) (hR : rm.frames + 1 ≤ R.frames ∧ 8 + (4 + 11) + rm.locals ≤ R.locals) : CallW R s args own "LeasedViewStoreModel" idx y_Model_post prog_11_method_4_code 4 (Option.some Jvm.ClassFile.FieldType.int) ws_Model_post rm 0 0 2 :=
  cwV 2 hts (zGood h1 w_680 ws_21 w_11 w_681) rfl hrc hrs (by decide +kernel) hR
abbrev y_Model_take : MethodName := ⟨"LeasedViewStoreModel", "take", "(I)I"⟩
def ws_Model_take : List Cond := .code y_Model_take prog_11_method_5_code 4 (Option.some Jvm.ClassFile.FieldType.int) :: zWs
theorem cw_Model_take {R : Room} {s : State} {args : Array Value} {c0 : Cond} {own : String} {idx : Nat} {rm : Room} (hts : ∀ w ∈ c0 :: zWs, w.before args s = true) (h1 : Cond.methodLink own idx y_Model_take ∈ zWs) (hrc : rm.cells = 0) (hrs : rm.slots = 0) (hR : rm.frames + 1 ≤ R.frames ∧ 8 + (4 + 11) + rm.locals ≤ R.locals) : CallW R s args own "LeasedViewStoreModel" idx y_Model_take prog_11_method_5_code 4 (Option.some Jvm.ClassFile.FieldType.int) ws_Model_take rm 0 0 1 :=
  cwV 1 hts (zGood h1 w_716 ws_26 w_11 w_717) rfl hrc hrs (by decide +kernel) hR
abbrev y_Model_answer : MethodName := ⟨"LeasedViewStoreModel", "answer", "(II)V"⟩
def ws_Model_answer : List Cond := .code y_Model_answer prog_11_method_6_code 4 (Option.none : Option Jvm.ClassFile.FieldType) :: zWs
theorem cw_Model_answer {R : Room} {s : State} {args : Array Value} {c0 : Cond} {own : String} {idx : Nat} {rm : Room} (hts : ∀ w ∈ c0 :: zWs, w.before args s = true) (h1 : Cond.methodLink own idx y_Model_answer ∈ zWs) (hrc : rm.cells = 0) (hrs : rm.slots = 0) (hR : rm.frames + 1 ≤ R.frames ∧ 8 + (4 + 11) + rm.locals ≤ R.locals) : CallW R s args own "LeasedViewStoreModel" idx y_Model_answer prog_11_method_6_code 4 (Option.none : Option Jvm.ClassFile.FieldType) ws_Model_answer rm 0 0 2 :=
  cwV 2 hts (zGood h1 w_768 ws_37 w_11 w_769) rfl hrc hrs (by decide +kernel) hR
abbrev y_Model_sendFill : MethodName := ⟨"LeasedViewStoreModel", "sendFill", "(I)V"⟩
def ws_Model_sendFill : List Cond := .code y_Model_sendFill prog_11_method_7_code 4 (Option.none : Option Jvm.ClassFile.FieldType) :: zWs
theorem cw_Model_sendFill {R : Room} {s : State} {args : Array Value} {c0 : Cond} {own : String} {idx : Nat} {rm : Room} (hts : ∀ w ∈ c0 :: zWs, w.before args s = true) (h1 : Cond.methodLink own idx y_Model_sendFill ∈ zWs) (hrc : rm.cells = 0) (hrs : rm.slots = 0) (hR : rm.frames + 1 ≤ R.frames ∧ 8 + (4 + 11) + rm.locals ≤ R.locals) : CallW R s args own "LeasedViewStoreModel" idx y_Model_sendFill prog_11_method_7_code 4 (Option.none : Option Jvm.ClassFile.FieldType) ws_Model_sendFill rm 0 0 1 :=
  cwV 1 hts (zGood h1 w_692 ws_23 w_11 w_693) rfl hrc hrs (by decide +kernel) hR
abbrev y_Model_sendPass : MethodName := ⟨"LeasedViewStoreModel", "sendPass", "(I)V"⟩
def ws_Model_sendPass : List Cond := .code y_Model_sendPass prog_11_method_8_code 3 (Option.none : Option Jvm.ClassFile.FieldType) :: zWs
theorem cw_Model_sendPass {R : Room} {s : State} {args : Array Value} {c0 : Cond} {own : String} {idx : Nat} {rm : Room} (hts : ∀ w ∈ c0 :: zWs, w.before args s = true) (h1 : Cond.methodLink own idx y_Model_sendPass ∈ zWs) (hrc : rm.cells = 0) (hrs : rm.slots = 0) (hR : rm.frames + 1 ≤ R.frames ∧ 8 + (3 + 11) + rm.locals ≤ R.locals) : CallW R s args own "LeasedViewStoreModel" idx y_Model_sendPass prog_11_method_8_code 3 (Option.none : Option Jvm.ClassFile.FieldType) ws_Model_sendPass rm 0 0 1 :=
  cwV 1 hts (zGood h1 w_696 ws_24 w_11 w_697) rfl hrc hrs (by decide +kernel) hR
abbrev y_Model_held : MethodName := ⟨"LeasedViewStoreModel", "held", "(III)I"⟩
def ws_Model_held : List Cond := .code y_Model_held prog_11_method_9_code 6 (Option.some Jvm.ClassFile.FieldType.int) :: zWs
theorem cw_Model_held {R : Room} {s : State} {args : Array Value} {c0 : Cond} {own : String} {idx : Nat} {rm : Room} (hts : ∀ w ∈ c0 :: zWs, w.before args s = true) (h1 : Cond.methodLink own idx y_Model_held ∈ zWs) (hrc : rm.cells = 0) (hrs : rm.slots = 0) (hR : rm.frames + 1 ≤ R.frames ∧ 8 + (6 + 11) + rm.locals ≤ R.locals) : CallW R s args own "LeasedViewStoreModel" idx y_Model_held prog_11_method_9_code 6 (Option.some Jvm.ClassFile.FieldType.int) ws_Model_held rm 0 0 3 :=
  cwV 3 hts (zGood h1 w_760 ws_35 w_11 w_761) rfl hrc hrs (by decide +kernel) hR
abbrev y_Model_latest : MethodName := ⟨"LeasedViewStoreModel", "latest", "(II)I"⟩
def ws_Model_latest : List Cond := .code y_Model_latest prog_11_method_10_code 4 (Option.some Jvm.ClassFile.FieldType.int) :: zWs
theorem cw_Model_latest {R : Room} {s : State} {args : Array Value} {c0 : Cond} {own : String} {idx : Nat} {rm : Room} (hts : ∀ w ∈ c0 :: zWs, w.before args s = true) (h1 : Cond.methodLink own idx y_Model_latest ∈ zWs) (hrc : rm.cells = 0) (hrs : rm.slots = 0) (hR : rm.frames + 1 ≤ R.frames ∧ 8 + (4 + 11) + rm.locals ≤ R.locals) : CallW R s args own "LeasedViewStoreModel" idx y_Model_latest prog_11_method_10_code 4 (Option.some Jvm.ClassFile.FieldType.int) ws_Model_latest rm 0 0 2 :=
  cwV 2 hts (zGood h1 w_776 ws_39 w_11 w_777) rfl hrc hrs (by decide +kernel) hR
abbrev y_Model_perform : MethodName := ⟨"LeasedViewStoreModel", "perform", "(II)I"⟩
def ws_Model_perform : List Cond := .code y_Model_perform prog_11_method_11_code 4 (Option.some Jvm.ClassFile.FieldType.int) :: zWs
theorem cw_Model_perform {R : Room} {s : State} {args : Array Value} {c0 : Cond} {own : String} {idx : Nat} {rm : Room} (hts : ∀ w ∈ c0 :: zWs, w.before args s = true) (h1 : Cond.methodLink own idx y_Model_perform ∈ zWs) (hrc : rm.cells = 0) (hrs : rm.slots = 0) (hR : rm.frames + 1 ≤ R.frames ∧ 8 + (4 + 11) + rm.locals ≤ R.locals) : CallW R s args own "LeasedViewStoreModel" idx y_Model_perform prog_11_method_11_code 4 (Option.some Jvm.ClassFile.FieldType.int) ws_Model_perform rm 0 0 2 :=
  cwV 2 hts (zGood h1 w_756 ws_34 w_11 w_757) rfl hrc hrs (by decide +kernel) hR
abbrev y_Model_leads : MethodName := ⟨"LeasedViewStoreModel", "leads", "(I)Z"⟩
def ws_Model_leads : List Cond := .code y_Model_leads prog_11_method_12_code 2 (Option.some Jvm.ClassFile.FieldType.boolean) :: zWs
theorem cw_Model_leads {R : Room} {s : State} {args : Array Value} {c0 : Cond} {own : String} {idx : Nat} {rm : Room} (hts : ∀ w ∈ c0 :: zWs, w.before args s = true) (h1 : Cond.methodLink own idx y_Model_leads ∈ zWs) (hrc : rm.cells = 0) (hrs : rm.slots = 0) (hR : rm.frames + 1 ≤ R.frames ∧ 8 + (2 + 11) + rm.locals ≤ R.locals) : CallW R s args own "LeasedViewStoreModel" idx y_Model_leads prog_11_method_12_code 2 (Option.some Jvm.ClassFile.FieldType.boolean) ws_Model_leads rm 0 0 1 :=
  cwV 1 hts (zGood h1 w_684 ws_22 w_11 w_685) rfl hrc hrs (by decide +kernel) hR
abbrev y_Model_enter : MethodName := ⟨"LeasedViewStoreModel", "enter", "(IIII)V"⟩
def ws_Model_enter : List Cond := .code y_Model_enter prog_11_method_13_code 5 (Option.none : Option Jvm.ClassFile.FieldType) :: zWs
theorem cw_Model_enter {R : Room} {s : State} {args : Array Value} {c0 : Cond} {own : String} {idx : Nat} {rm : Room} (hts : ∀ w ∈ c0 :: zWs, w.before args s = true) (h1 : Cond.methodLink own idx y_Model_enter ∈ zWs) (hrc : rm.cells = 0) (hrs : rm.slots = 0) (hR : rm.frames + 1 ≤ R.frames ∧ 8 + (5 + 11) + rm.locals ≤ R.locals) : CallW R s args own "LeasedViewStoreModel" idx y_Model_enter prog_11_method_13_code 5 (Option.none : Option Jvm.ClassFile.FieldType) ws_Model_enter rm 0 0 4 :=
  cwV 4 hts (zGood h1 w_740 ws_30 w_11 w_741) rfl hrc hrs (by decide +kernel) hR
abbrev y_Model_fresh : MethodName := ⟨"LeasedViewStoreModel", "fresh", "(I)Z"⟩
def ws_Model_fresh : List Cond := .code y_Model_fresh prog_11_method_14_code 2 (Option.some Jvm.ClassFile.FieldType.boolean) :: zWs
theorem cw_Model_fresh {R : Room} {s : State} {args : Array Value} {c0 : Cond} {own : String} {idx : Nat} {rm : Room} (hts : ∀ w ∈ c0 :: zWs, w.before args s = true) (h1 : Cond.methodLink own idx y_Model_fresh ∈ zWs) (hrc : rm.cells = 0) (hrs : rm.slots = 0) (hR : rm.frames + 1 ≤ R.frames ∧ 8 + (2 + 11) + rm.locals ≤ R.locals) : CallW R s args own "LeasedViewStoreModel" idx y_Model_fresh prog_11_method_14_code 2 (Option.some Jvm.ClassFile.FieldType.boolean) ws_Model_fresh rm 0 0 1 :=
  cwV 1 hts (zGood h1 w_660 ws_19 w_11 w_661) rfl hrc hrs (by decide +kernel) hR
abbrev y_Model_check : MethodName := ⟨"LeasedViewStoreModel", "check", "()I"⟩
def ws_Model_check : List Cond := .code y_Model_check prog_11_method_15_code 6 (Option.some Jvm.ClassFile.FieldType.int) :: zWs
theorem cw_Model_check {R : Room} {s : State} {args : Array Value} {c0 : Cond} {own : String} {idx : Nat} {rm : Room} (hts : ∀ w ∈ c0 :: zWs, w.before args s = true) (h1 : Cond.methodLink own idx y_Model_check ∈ zWs) (hrc : rm.cells = 0) (hrs : rm.slots = 0) (hR : rm.frames + 1 ≤ R.frames ∧ 8 + (6 + 11) + rm.locals ≤ R.locals) : CallW R s args own "LeasedViewStoreModel" idx y_Model_check prog_11_method_15_code 6 (Option.some Jvm.ClassFile.FieldType.int) ws_Model_check rm 0 0 0 :=
  cwV 0 hts (zGood h1 w_655 w_656 w_11 w_657) rfl hrc hrs (by decide +kernel) hR
abbrev y_Model_advance : MethodName := ⟨"LeasedViewStoreModel", "advance", "(I)I"⟩
def ws_Model_advance : List Cond := .code y_Model_advance prog_11_method_16_code 2 (Option.some Jvm.ClassFile.FieldType.int) :: zWs
theorem cw_Model_advance {R : Room} {s : State} {args : Array Value} {c0 : Cond} {own : String} {idx : Nat} {rm : Room} (hts : ∀ w ∈ c0 :: zWs, w.before args s = true) (h1 : Cond.methodLink own idx y_Model_advance ∈ zWs) (hrc : rm.cells = 0) (hrs : rm.slots = 0) (hR : rm.frames + 1 ≤ R.frames ∧ 8 + (2 + 11) + rm.locals ≤ R.locals) : CallW R s args own "LeasedViewStoreModel" idx y_Model_advance prog_11_method_16_code 2 (Option.some Jvm.ClassFile.FieldType.int) ws_Model_advance rm 0 0 1 :=
  cwV 1 hts (zGood h1 w_663 w_664 w_11 w_665) rfl hrc hrs (by decide +kernel) hR
abbrev y_Model_skew : MethodName := ⟨"LeasedViewStoreModel", "skew", "(II)Z"⟩
def ws_Model_skew : List Cond := .code y_Model_skew prog_11_method_17_code 3 (Option.some Jvm.ClassFile.FieldType.boolean) :: zWs
theorem cw_Model_skew {R : Room} {s : State} {args : Array Value} {c0 : Cond} {own : String} {idx : Nat} {rm : Room} (hts : ∀ w ∈ c0 :: zWs, w.before args s = true) (h1 : Cond.methodLink own idx y_Model_skew ∈ zWs) (hrc : rm.cells = 0) (hrs : rm.slots = 0) (hR : rm.frames + 1 ≤ R.frames ∧ 8 + (3 + 11) + rm.locals ≤ R.locals) : CallW R s args own "LeasedViewStoreModel" idx y_Model_skew prog_11_method_17_code 3 (Option.some Jvm.ClassFile.FieldType.boolean) ws_Model_skew rm 0 0 2 :=
  cwV 2 hts (zGood h1 w_667 w_668 w_11 w_669) rfl hrc hrs (by decide +kernel) hR
abbrev y_Model_ping : MethodName := ⟨"LeasedViewStoreModel", "ping", "(I)Z"⟩
def ws_Model_ping : List Cond := .code y_Model_ping prog_11_method_18_code 3 (Option.some Jvm.ClassFile.FieldType.boolean) :: zWs
theorem cw_Model_ping {R : Room} {s : State} {args : Array Value} {c0 : Cond} {own : String} {idx : Nat} {rm : Room} (hts : ∀ w ∈ c0 :: zWs, w.before args s = true) (h1 : Cond.methodLink own idx y_Model_ping ∈ zWs) (hrc : rm.cells = 0) (hrs : rm.slots = 0) (hR : rm.frames + 1 ≤ R.frames ∧ 8 + (3 + 11) + rm.locals ≤ R.locals) : CallW R s args own "LeasedViewStoreModel" idx y_Model_ping prog_11_method_18_code 3 (Option.some Jvm.ClassFile.FieldType.boolean) ws_Model_ping rm 0 0 1 :=
  cwV 1 hts (zGood h1 w_675 w_676 w_11 w_677) rfl hrc hrs (by decide +kernel) hR
abbrev y_Model_push : MethodName := ⟨"LeasedViewStoreModel", "push", "(I)Z"⟩
def ws_Model_push : List Cond := .code y_Model_push prog_11_method_19_code 2 (Option.some Jvm.ClassFile.FieldType.boolean) :: zWs
theorem cw_Model_push {R : Room} {s : State} {args : Array Value} {c0 : Cond} {own : String} {idx : Nat} {rm : Room} (hts : ∀ w ∈ c0 :: zWs, w.before args s = true) (h1 : Cond.methodLink own idx y_Model_push ∈ zWs) (hrc : rm.cells = 0) (hrs : rm.slots = 0) (hR : rm.frames + 1 ≤ R.frames ∧ 8 + (2 + 11) + rm.locals ≤ R.locals) : CallW R s args own "LeasedViewStoreModel" idx y_Model_push prog_11_method_19_code 2 (Option.some Jvm.ClassFile.FieldType.boolean) ws_Model_push rm 0 0 1 :=
  cwV 1 hts (zGood h1 w_687 w_688 w_11 w_689) rfl hrc hrs (by decide +kernel) hR
abbrev y_Model_begin : MethodName := ⟨"LeasedViewStoreModel", "begin", "(IZII)I"⟩
def ws_Model_begin : List Cond := .code y_Model_begin prog_11_method_20_code 5 (Option.some Jvm.ClassFile.FieldType.int) :: zWs
theorem cw_Model_begin {R : Room} {s : State} {args : Array Value} {c0 : Cond} {own : String} {idx : Nat} {rm : Room} (hts : ∀ w ∈ c0 :: zWs, w.before args s = true) (h1 : Cond.methodLink own idx y_Model_begin ∈ zWs) (hrc : rm.cells = 0) (hrs : rm.slots = 0) (hR : rm.frames + 1 ≤ R.frames ∧ 8 + (5 + 11) + rm.locals ≤ R.locals) : CallW R s args own "LeasedViewStoreModel" idx y_Model_begin prog_11_method_20_code 5 (Option.some Jvm.ClassFile.FieldType.int) ws_Model_begin rm 0 0 4 :=
  cwV 4 hts (zGood h1 w_699 w_700 w_11 w_701) rfl hrc hrs (by decide +kernel) hR
abbrev y_Model_send : MethodName := ⟨"LeasedViewStoreModel", "send", "(II)Z"⟩
def ws_Model_send : List Cond := .code y_Model_send prog_11_method_21_code 4 (Option.some Jvm.ClassFile.FieldType.boolean) :: zWs
theorem cw_Model_send {R : Room} {s : State} {args : Array Value} {c0 : Cond} {own : String} {idx : Nat} {rm : Room} (hts : ∀ w ∈ c0 :: zWs, w.before args s = true) (h1 : Cond.methodLink own idx y_Model_send ∈ zWs) (hrc : rm.cells = 0) (hrs : rm.slots = 0) (hR : rm.frames + 1 ≤ R.frames ∧ 8 + (4 + 11) + rm.locals ≤ R.locals) : CallW R s args own "LeasedViewStoreModel" idx y_Model_send prog_11_method_21_code 4 (Option.some Jvm.ClassFile.FieldType.boolean) ws_Model_send rm 0 0 2 :=
  cwV 2 hts (zGood h1 w_707 w_708 w_11 w_709) rfl hrc hrs (by decide +kernel) hR
abbrev y_Model_lose : MethodName := ⟨"LeasedViewStoreModel", "lose", "(I)Z"⟩
def ws_Model_lose : List Cond := .code y_Model_lose prog_11_method_22_code 3 (Option.some Jvm.ClassFile.FieldType.boolean) :: zWs
theorem cw_Model_lose {R : Room} {s : State} {args : Array Value} {c0 : Cond} {own : String} {idx : Nat} {rm : Room} (hts : ∀ w ∈ c0 :: zWs, w.before args s = true) (h1 : Cond.methodLink own idx y_Model_lose ∈ zWs) (hrc : rm.cells = 0) (hrs : rm.slots = 0) (hR : rm.frames + 1 ≤ R.frames ∧ 8 + (3 + 11) + rm.locals ≤ R.locals) : CallW R s args own "LeasedViewStoreModel" idx y_Model_lose prog_11_method_22_code 3 (Option.some Jvm.ClassFile.FieldType.boolean) ws_Model_lose rm 0 0 1 :=
  cwV 1 hts (zGood h1 w_711 w_712 w_11 w_713) rfl hrc hrs (by decide +kernel) hR
abbrev y_Model_crash : MethodName := ⟨"LeasedViewStoreModel", "crash", "(I)Z"⟩
def ws_Model_crash : List Cond := .code y_Model_crash prog_11_method_23_code 2 (Option.some Jvm.ClassFile.FieldType.boolean) :: zWs
theorem cw_Model_crash {R : Room} {s : State} {args : Array Value} {c0 : Cond} {own : String} {idx : Nat} {rm : Room} (hts : ∀ w ∈ c0 :: zWs, w.before args s = true) (h1 : Cond.methodLink own idx y_Model_crash ∈ zWs) (hrc : rm.cells = 0) (hrs : rm.slots = 0) (hR : rm.frames + 1 ≤ R.frames ∧ 8 + (2 + 11) + rm.locals ≤ R.locals) : CallW R s args own "LeasedViewStoreModel" idx y_Model_crash prog_11_method_23_code 2 (Option.some Jvm.ClassFile.FieldType.boolean) ws_Model_crash rm 0 0 1 :=
  cwV 1 hts (zGood h1 w_719 w_720 w_11 w_721) rfl hrc hrs (by decide +kernel) hR
abbrev y_Model_deliver : MethodName := ⟨"LeasedViewStoreModel", "deliver", "(I)I"⟩
def ws_Model_deliver : List Cond := .code y_Model_deliver prog_11_method_24_code 5 (Option.some Jvm.ClassFile.FieldType.int) :: zWs
theorem cw_Model_deliver {R : Room} {s : State} {args : Array Value} {c0 : Cond} {own : String} {idx : Nat} {rm : Room} (hts : ∀ w ∈ c0 :: zWs, w.before args s = true) (h1 : Cond.methodLink own idx y_Model_deliver ∈ zWs) (hrc : rm.cells = 0) (hrs : rm.slots = 0) (hR : rm.frames + 1 ≤ R.frames ∧ 8 + (5 + 11) + rm.locals ≤ R.locals) : CallW R s args own "LeasedViewStoreModel" idx y_Model_deliver prog_11_method_24_code 5 (Option.some Jvm.ClassFile.FieldType.int) ws_Model_deliver rm 0 0 1 :=
  cwV 1 hts (zGood h1 w_723 w_724 w_11 w_725) rfl hrc hrs (by decide +kernel) hR
abbrev y_Model_arrive : MethodName := ⟨"LeasedViewStoreModel", "arrive", "(II)Z"⟩
def ws_Model_arrive : List Cond := .code y_Model_arrive prog_11_method_25_code 4 (Option.some Jvm.ClassFile.FieldType.boolean) :: zWs
theorem cw_Model_arrive {R : Room} {s : State} {args : Array Value} {c0 : Cond} {own : String} {idx : Nat} {rm : Room} (hts : ∀ w ∈ c0 :: zWs, w.before args s = true) (h1 : Cond.methodLink own idx y_Model_arrive ∈ zWs) (hrc : rm.cells = 0) (hrs : rm.slots = 0) (hR : rm.frames + 1 ≤ R.frames ∧ 8 + (4 + 11) + rm.locals ≤ R.locals) : CallW R s args own "LeasedViewStoreModel" idx y_Model_arrive prog_11_method_25_code 4 (Option.some Jvm.ClassFile.FieldType.boolean) ws_Model_arrive rm 0 0 2 :=
  cwV 2 hts (zGood h1 w_728 ws_27 w_11 w_729) rfl hrc hrs (by decide +kernel) hR
abbrev y_Model_hear : MethodName := ⟨"LeasedViewStoreModel", "hear", "(II)V"⟩
def ws_Model_hear : List Cond := .code y_Model_hear prog_11_method_26_code 4 (Option.none : Option Jvm.ClassFile.FieldType) :: zWs
theorem cw_Model_hear {R : Room} {s : State} {args : Array Value} {c0 : Cond} {own : String} {idx : Nat} {rm : Room} (hts : ∀ w ∈ c0 :: zWs, w.before args s = true) (h1 : Cond.methodLink own idx y_Model_hear ∈ zWs) (hrc : rm.cells = 0) (hrs : rm.slots = 0) (hR : rm.frames + 1 ≤ R.frames ∧ 8 + (4 + 11) + rm.locals ≤ R.locals) : CallW R s args own "LeasedViewStoreModel" idx y_Model_hear prog_11_method_26_code 4 (Option.none : Option Jvm.ClassFile.FieldType) ws_Model_hear rm 0 0 2 :=
  cwV 2 hts (zGood h1 w_732 ws_28 w_11 w_733) rfl hrc hrs (by decide +kernel) hR
abbrev y_Model_see : MethodName := ⟨"LeasedViewStoreModel", "see", "(II)Z"⟩
def ws_Model_see : List Cond := .code y_Model_see prog_11_method_27_code 3 (Option.some Jvm.ClassFile.FieldType.boolean) :: zWs
theorem cw_Model_see {R : Room} {s : State} {args : Array Value} {c0 : Cond} {own : String} {idx : Nat} {rm : Room} (hts : ∀ w ∈ c0 :: zWs, w.before args s = true) (h1 : Cond.methodLink own idx y_Model_see ∈ zWs) (hrc : rm.cells = 0) (hrs : rm.slots = 0) (hR : rm.frames + 1 ≤ R.frames ∧ 8 + (3 + 11) + rm.locals ≤ R.locals) : CallW R s args own "LeasedViewStoreModel" idx y_Model_see prog_11_method_27_code 3 (Option.some Jvm.ClassFile.FieldType.boolean) ws_Model_see rm 0 0 2 :=
  cwV 2 hts (zGood h1 w_736 ws_29 w_11 w_737) rfl hrc hrs (by decide +kernel) hR
abbrev y_Model_fill : MethodName := ⟨"LeasedViewStoreModel", "fill", "(II)Z"⟩
def ws_Model_fill : List Cond := .code y_Model_fill prog_11_method_28_code 4 (Option.some Jvm.ClassFile.FieldType.boolean) :: zWs
theorem cw_Model_fill {R : Room} {s : State} {args : Array Value} {c0 : Cond} {own : String} {idx : Nat} {rm : Room} (hts : ∀ w ∈ c0 :: zWs, w.before args s = true) (h1 : Cond.methodLink own idx y_Model_fill ∈ zWs) (hrc : rm.cells = 0) (hrs : rm.slots = 0) (hR : rm.frames + 1 ≤ R.frames ∧ 8 + (4 + 11) + rm.locals ≤ R.locals) : CallW R s args own "LeasedViewStoreModel" idx y_Model_fill prog_11_method_28_code 4 (Option.some Jvm.ClassFile.FieldType.boolean) ws_Model_fill rm 0 0 2 :=
  cwV 2 hts (zGood h1 w_744 ws_31 w_11 w_745) rfl hrc hrs (by decide +kernel) hR
abbrev y_Model_filledBack : MethodName := ⟨"LeasedViewStoreModel", "filledBack", "(II)Z"⟩
def ws_Model_filledBack : List Cond := .code y_Model_filledBack prog_11_method_29_code 3 (Option.some Jvm.ClassFile.FieldType.boolean) :: zWs
theorem cw_Model_filledBack {R : Room} {s : State} {args : Array Value} {c0 : Cond} {own : String} {idx : Nat} {rm : Room} (hts : ∀ w ∈ c0 :: zWs, w.before args s = true) (h1 : Cond.methodLink own idx y_Model_filledBack ∈ zWs) (hrc : rm.cells = 0) (hrs : rm.slots = 0) (hR : rm.frames + 1 ≤ R.frames ∧ 8 + (3 + 11) + rm.locals ≤ R.locals) : CallW R s args own "LeasedViewStoreModel" idx y_Model_filledBack prog_11_method_29_code 3 (Option.some Jvm.ClassFile.FieldType.boolean) ws_Model_filledBack rm 0 0 2 :=
  cwV 2 hts (zGood h1 w_748 ws_32 w_11 w_749) rfl hrc hrs (by decide +kernel) hR
abbrev y_Model_pass : MethodName := ⟨"LeasedViewStoreModel", "pass", "(II)Z"⟩
def ws_Model_pass : List Cond := .code y_Model_pass prog_11_method_30_code 5 (Option.some Jvm.ClassFile.FieldType.boolean) :: zWs
theorem cw_Model_pass {R : Room} {s : State} {args : Array Value} {c0 : Cond} {own : String} {idx : Nat} {rm : Room} (hts : ∀ w ∈ c0 :: zWs, w.before args s = true) (h1 : Cond.methodLink own idx y_Model_pass ∈ zWs) (hrc : rm.cells = 0) (hrs : rm.slots = 0) (hR : rm.frames + 1 ≤ R.frames ∧ 8 + (5 + 11) + rm.locals ≤ R.locals) : CallW R s args own "LeasedViewStoreModel" idx y_Model_pass prog_11_method_30_code 5 (Option.some Jvm.ClassFile.FieldType.boolean) ws_Model_pass rm 0 0 2 :=
  cwV 2 hts (zGood h1 w_752 ws_33 w_11 w_753) rfl hrc hrs (by decide +kernel) hR
abbrev y_Model_passed : MethodName := ⟨"LeasedViewStoreModel", "passed", "(II)Z"⟩
def ws_Model_passed : List Cond := .code y_Model_passed prog_11_method_31_code 5 (Option.some Jvm.ClassFile.FieldType.boolean) :: zWs
theorem cw_Model_passed {R : Room} {s : State} {args : Array Value} {c0 : Cond} {own : String} {idx : Nat} {rm : Room} (hts : ∀ w ∈ c0 :: zWs, w.before args s = true) (h1 : Cond.methodLink own idx y_Model_passed ∈ zWs) (hrc : rm.cells = 0) (hrs : rm.slots = 0) (hR : rm.frames + 1 ≤ R.frames ∧ 8 + (5 + 11) + rm.locals ≤ R.locals) : CallW R s args own "LeasedViewStoreModel" idx y_Model_passed prog_11_method_31_code 5 (Option.some Jvm.ClassFile.FieldType.boolean) ws_Model_passed rm 0 0 2 :=
  cwV 2 hts (zGood h1 w_764 ws_36 w_11 w_765) rfl hrc hrs (by decide +kernel) hR
abbrev y_Model_ask : MethodName := ⟨"LeasedViewStoreModel", "ask", "(II)Z"⟩
def ws_Model_ask : List Cond := .code y_Model_ask prog_11_method_32_code 6 (Option.some Jvm.ClassFile.FieldType.boolean) :: zWs
theorem cw_Model_ask {R : Room} {s : State} {args : Array Value} {c0 : Cond} {own : String} {idx : Nat} {rm : Room} (hts : ∀ w ∈ c0 :: zWs, w.before args s = true) (h1 : Cond.methodLink own idx y_Model_ask ∈ zWs) (hrc : rm.cells = 0) (hrs : rm.slots = 0) (hR : rm.frames + 1 ≤ R.frames ∧ 8 + (6 + 11) + rm.locals ≤ R.locals) : CallW R s args own "LeasedViewStoreModel" idx y_Model_ask prog_11_method_32_code 6 (Option.some Jvm.ClassFile.FieldType.boolean) ws_Model_ask rm 0 0 2 :=
  cwV 2 hts (zGood h1 w_772 ws_38 w_11 w_773) rfl hrc hrs (by decide +kernel) hR
abbrev y_Model_letters : MethodName := ⟨"LeasedViewStoreModel", "letters", "()I"⟩
def ws_Model_letters : List Cond := .code y_Model_letters prog_11_method_33_code 1 (Option.some Jvm.ClassFile.FieldType.int) :: zWs
theorem cw_Model_letters {R : Room} {s : State} {args : Array Value} {c0 : Cond} {own : String} {idx : Nat} {rm : Room} (hts : ∀ w ∈ c0 :: zWs, w.before args s = true) (h1 : Cond.methodLink own idx y_Model_letters ∈ zWs) (hrc : rm.cells = 0) (hrs : rm.slots = 0) (hR : rm.frames + 1 ≤ R.frames ∧ 8 + (1 + 11) + rm.locals ≤ R.locals) : CallW R s args own "LeasedViewStoreModel" idx y_Model_letters prog_11_method_33_code 1 (Option.some Jvm.ClassFile.FieldType.int) ws_Model_letters rm 0 0 0 :=
  cwV 0 hts (zGood h1 w_779 w_780 w_11 w_781) rfl hrc hrs (by decide +kernel) hR
abbrev y_Model_letter : MethodName := ⟨"LeasedViewStoreModel", "letter", "(I)I"⟩
def ws_Model_letter : List Cond := .code y_Model_letter prog_11_method_34_code 2 (Option.some Jvm.ClassFile.FieldType.int) :: zWs
theorem cw_Model_letter {R : Room} {s : State} {args : Array Value} {c0 : Cond} {own : String} {idx : Nat} {rm : Room} (hts : ∀ w ∈ c0 :: zWs, w.before args s = true) (h1 : Cond.methodLink own idx y_Model_letter ∈ zWs) (hrc : rm.cells = 0) (hrs : rm.slots = 0) (hR : rm.frames + 1 ≤ R.frames ∧ 8 + (2 + 11) + rm.locals ≤ R.locals) : CallW R s args own "LeasedViewStoreModel" idx y_Model_letter prog_11_method_34_code 2 (Option.some Jvm.ClassFile.FieldType.int) ws_Model_letter rm 0 0 1 :=
  cwV 1 hts (zGood h1 w_783 w_784 w_11 w_785) rfl hrc hrs (by decide +kernel) hR
abbrev y_Model_view : MethodName := ⟨"LeasedViewStoreModel", "view", "(I)I"⟩
def ws_Model_view : List Cond := .code y_Model_view prog_11_method_35_code 3 (Option.some Jvm.ClassFile.FieldType.int) :: zWs
theorem cw_Model_view {R : Room} {s : State} {args : Array Value} {c0 : Cond} {own : String} {idx : Nat} {rm : Room} (hts : ∀ w ∈ c0 :: zWs, w.before args s = true) (h1 : Cond.methodLink own idx y_Model_view ∈ zWs) (hrc : rm.cells = 0) (hrs : rm.slots = 0) (hR : rm.frames + 1 ≤ R.frames ∧ 8 + (3 + 11) + rm.locals ≤ R.locals) : CallW R s args own "LeasedViewStoreModel" idx y_Model_view prog_11_method_35_code 3 (Option.some Jvm.ClassFile.FieldType.int) ws_Model_view rm 0 0 1 :=
  cwV 1 hts (zGood h1 w_787 w_788 w_11 w_789) rfl hrc hrs (by decide +kernel) hR
abbrev y_Model_role : MethodName := ⟨"LeasedViewStoreModel", "role", "(I)I"⟩
def ws_Model_role : List Cond := .code y_Model_role prog_11_method_36_code 3 (Option.some Jvm.ClassFile.FieldType.int) :: zWs
theorem cw_Model_role {R : Room} {s : State} {args : Array Value} {c0 : Cond} {own : String} {idx : Nat} {rm : Room} (hts : ∀ w ∈ c0 :: zWs, w.before args s = true) (h1 : Cond.methodLink own idx y_Model_role ∈ zWs) (hrc : rm.cells = 0) (hrs : rm.slots = 0) (hR : rm.frames + 1 ≤ R.frames ∧ 8 + (3 + 11) + rm.locals ≤ R.locals) : CallW R s args own "LeasedViewStoreModel" idx y_Model_role prog_11_method_36_code 3 (Option.some Jvm.ClassFile.FieldType.int) ws_Model_role rm 0 0 1 :=
  cwV 1 hts (zGood h1 w_791 w_792 w_11 w_793) rfl hrc hrs (by decide +kernel) hR
abbrev y_Model_cell : MethodName := ⟨"LeasedViewStoreModel", "cell", "(II)I"⟩
def ws_Model_cell : List Cond := .code y_Model_cell prog_11_method_37_code 3 (Option.some Jvm.ClassFile.FieldType.int) :: zWs
theorem cw_Model_cell {R : Room} {s : State} {args : Array Value} {c0 : Cond} {own : String} {idx : Nat} {rm : Room} (hts : ∀ w ∈ c0 :: zWs, w.before args s = true) (h1 : Cond.methodLink own idx y_Model_cell ∈ zWs) (hrc : rm.cells = 0) (hrs : rm.slots = 0) (hR : rm.frames + 1 ≤ R.frames ∧ 8 + (3 + 11) + rm.locals ≤ R.locals) : CallW R s args own "LeasedViewStoreModel" idx y_Model_cell prog_11_method_37_code 3 (Option.some Jvm.ClassFile.FieldType.int) ws_Model_cell rm 0 0 2 :=
  cwV 2 hts (zGood h1 w_795 w_796 w_11 w_797) rfl hrc hrs (by decide +kernel) hR
abbrev y_Model_count : MethodName := ⟨"LeasedViewStoreModel", "count", "(I)I"⟩
def ws_Model_count : List Cond := .code y_Model_count prog_11_method_38_code 2 (Option.some Jvm.ClassFile.FieldType.int) :: zWs
theorem cw_Model_count {R : Room} {s : State} {args : Array Value} {c0 : Cond} {own : String} {idx : Nat} {rm : Room} (hts : ∀ w ∈ c0 :: zWs, w.before args s = true) (h1 : Cond.methodLink own idx y_Model_count ∈ zWs) (hrc : rm.cells = 0) (hrs : rm.slots = 0) (hR : rm.frames + 1 ≤ R.frames ∧ 8 + (2 + 11) + rm.locals ≤ R.locals) : CallW R s args own "LeasedViewStoreModel" idx y_Model_count prog_11_method_38_code 2 (Option.some Jvm.ClassFile.FieldType.int) ws_Model_count rm 0 0 1 :=
  cwV 1 hts (zGood h1 w_799 w_800 w_11 w_801) rfl hrc hrs (by decide +kernel) hR
abbrev y_Model_finished : MethodName := ⟨"LeasedViewStoreModel", "finished", "(I)I"⟩
def ws_Model_finished : List Cond := .code y_Model_finished prog_11_method_39_code 2 (Option.some Jvm.ClassFile.FieldType.int) :: zWs
theorem cw_Model_finished {R : Room} {s : State} {args : Array Value} {c0 : Cond} {own : String} {idx : Nat} {rm : Room} (hts : ∀ w ∈ c0 :: zWs, w.before args s = true) (h1 : Cond.methodLink own idx y_Model_finished ∈ zWs) (hrc : rm.cells = 0) (hrs : rm.slots = 0) (hR : rm.frames + 1 ≤ R.frames ∧ 8 + (2 + 11) + rm.locals ≤ R.locals) : CallW R s args own "LeasedViewStoreModel" idx y_Model_finished prog_11_method_39_code 2 (Option.some Jvm.ClassFile.FieldType.int) ws_Model_finished rm 0 0 1 :=
  cwV 1 hts (zGood h1 w_803 w_804 w_11 w_805) rfl hrc hrs (by decide +kernel) hR
abbrev y_Model_result : MethodName := ⟨"LeasedViewStoreModel", "result", "(I)I"⟩
def ws_Model_result : List Cond := .code y_Model_result prog_11_method_40_code 2 (Option.some Jvm.ClassFile.FieldType.int) :: zWs
theorem cw_Model_result {R : Room} {s : State} {args : Array Value} {c0 : Cond} {own : String} {idx : Nat} {rm : Room} (hts : ∀ w ∈ c0 :: zWs, w.before args s = true) (h1 : Cond.methodLink own idx y_Model_result ∈ zWs) (hrc : rm.cells = 0) (hrs : rm.slots = 0) (hR : rm.frames + 1 ≤ R.frames ∧ 8 + (2 + 11) + rm.locals ≤ R.locals) : CallW R s args own "LeasedViewStoreModel" idx y_Model_result prog_11_method_40_code 2 (Option.some Jvm.ClassFile.FieldType.int) ws_Model_result rm 0 0 1 :=
  cwV 1 hts (zGood h1 w_807 w_808 w_11 w_809) rfl hrc hrs (by decide +kernel) hR
abbrev y_Client_init : MethodName := ⟨"LeasedViewStore$Client", "<init>", "(I)V"⟩
def ws_Client_init : List Cond := .code y_Client_init prog_2_method_1_code 2 (Option.none : Option Jvm.ClassFile.FieldType) :: zWs
abbrev y_Client_start : MethodName := ⟨"LeasedViewStore$Client", "start", "(ZII)V"⟩
def ws_Client_start : List Cond := .code y_Client_start prog_2_method_2_code 4 (Option.none : Option Jvm.ClassFile.FieldType) :: zWs
theorem cw_Client_start {R : Room} {s : State} {args : Array Value} {c0 : Cond} {own : String} {idx : Nat} {rm : Room} (hts : ∀ w ∈ c0 :: zWs, w.before args s = true) (h1 : Cond.methodLink own idx y_Client_start ∈ zWs) (hrc : rm.cells = 0) (hrs : rm.slots = 0) (hR : rm.frames + 1 ≤ R.frames ∧ 8 + (4 + 11) + rm.locals ≤ R.locals) : CallW R s args own "LeasedViewStore$Client" idx y_Client_start prog_2_method_2_code 4 (Option.none : Option Jvm.ClassFile.FieldType) ws_Client_start rm 0 0 3 :=
  cwV 3 hts (zGood h1 w_392 w_393 w_7 w_394) rfl hrc hrs (by decide +kernel) hR
abbrev y_Client_takeAnswer : MethodName := ⟨"LeasedViewStore$Client", "takeAnswer", "(LLeasedViewStore$Letter;)Z"⟩
def ws_Client_takeAnswer : List Cond := .code y_Client_takeAnswer prog_2_method_3_code 2 (Option.some Jvm.ClassFile.FieldType.boolean) :: zWs
theorem cw_Client_takeAnswer {R : Room} {s : State} {args : Array Value} {c0 : Cond} {own : String} {idx : Nat} {rm : Room} (hts : ∀ w ∈ c0 :: zWs, w.before args s = true) (h1 : Cond.methodLink own idx y_Client_takeAnswer ∈ zWs) (hrc : rm.cells = 0) (hrs : rm.slots = 0) (hR : rm.frames + 1 ≤ R.frames ∧ 8 + (2 + 11) + rm.locals ≤ R.locals) : CallW R s args own "LeasedViewStore$Client" idx y_Client_takeAnswer prog_2_method_3_code 2 (Option.some Jvm.ClassFile.FieldType.boolean) ws_Client_takeAnswer rm 0 0 1 :=
  cwV 1 hts (zGood h1 w_424 w_425 w_7 w_426) rfl hrc hrs (by decide +kernel) hR
abbrev y_Letter_init : MethodName := ⟨"LeasedViewStore$Letter", "<init>", "()V"⟩
def ws_Letter_init : List Cond := .code y_Letter_init prog_3_method_1_code 1 (Option.none : Option Jvm.ClassFile.FieldType) :: zWs
abbrev y_Operation_init : MethodName := ⟨"LeasedViewStore$Operation", "<init>", "()V"⟩
def ws_Operation_init : List Cond := .code y_Operation_init prog_4_method_1_code 1 (Option.none : Option Jvm.ClassFile.FieldType) :: zWs
abbrev y_Operation_become : MethodName := ⟨"LeasedViewStore$Operation", "become", "(LLeasedViewStore$Operation;)V"⟩
def ws_Operation_become : List Cond := .code y_Operation_become prog_4_method_2_code 2 (Option.none : Option Jvm.ClassFile.FieldType) :: zWs
theorem cw_Operation_become {R : Room} {s : State} {args : Array Value} {c0 : Cond} {own : String} {idx : Nat} {rm : Room} (hts : ∀ w ∈ c0 :: zWs, w.before args s = true) (h1 : Cond.methodLink own idx y_Operation_become ∈ zWs) (hrc : rm.cells = 0) (hrs : rm.slots = 0) (hR : rm.frames + 1 ≤ R.frames ∧ 8 + (2 + 11) + rm.locals ≤ R.locals) : CallW R s args own "LeasedViewStore$Operation" idx y_Operation_become prog_4_method_2_code 2 (Option.none : Option Jvm.ClassFile.FieldType) ws_Operation_become rm 0 0 1 :=
  cwV 1 hts (zGood h1 w_376 w_377 w_6 w_378) rfl hrc hrs (by decide +kernel) hR
abbrev y_Post_init : MethodName := ⟨"LeasedViewStore$Post", "<init>", "()V"⟩
def ws_Post_init : List Cond := .code y_Post_init prog_5_method_1_code 2 (Option.none : Option Jvm.ClassFile.FieldType) :: zWs
abbrev y_Post_has : MethodName := ⟨"LeasedViewStore$Post", "has", "(I)Z"⟩
def ws_Post_has : List Cond := .code y_Post_has prog_5_method_2_code 2 (Option.some Jvm.ClassFile.FieldType.boolean) :: zWs
theorem cw_Post_has {R : Room} {s : State} {args : Array Value} {c0 : Cond} {own : String} {idx : Nat} {rm : Room} (hts : ∀ w ∈ c0 :: zWs, w.before args s = true) (h1 : Cond.methodLink own idx y_Post_has ∈ zWs) (hrc : rm.cells = 0) (hrs : rm.slots = 0) (hR : rm.frames + 1 ≤ R.frames ∧ 8 + (2 + 11) + rm.locals ≤ R.locals) : CallW R s args own "LeasedViewStore$Post" idx y_Post_has prog_5_method_2_code 2 (Option.some Jvm.ClassFile.FieldType.boolean) ws_Post_has rm 0 0 1 :=
  cwV 1 hts (zGood h1 w_404 w_405 w_9 w_406) rfl hrc hrs (by decide +kernel) hR
abbrev y_Post_next : MethodName := ⟨"LeasedViewStore$Post", "next", "(II)LLeasedViewStore$Letter;"⟩
def ws_Post_next : List Cond := .code y_Post_next prog_5_method_3_code 4 (Option.some (Jvm.ClassFile.FieldType.object "LeasedViewStore$Letter")) :: zWs
theorem cw_Post_next {R : Room} {s : State} {args : Array Value} {c0 : Cond} {own : String} {idx : Nat} {rm : Room} (hts : ∀ w ∈ c0 :: zWs, w.before args s = true) (h1 : Cond.methodLink own idx y_Post_next ∈ zWs) (hrc : rm.cells = 0) (hrs : rm.slots = 0) (hR : rm.frames + 1 ≤ R.frames ∧ 8 + (4 + 11) + rm.locals ≤ R.locals) : CallW R s args own "LeasedViewStore$Post" idx y_Post_next prog_5_method_3_code 4 (Option.some (Jvm.ClassFile.FieldType.object "LeasedViewStore$Letter")) ws_Post_next rm 0 0 2 :=
  cwV 2 hts (zGood h1 w_311 w_312 w_9 w_313) rfl hrc hrs (by decide +kernel) hR
abbrev y_Post_take : MethodName := ⟨"LeasedViewStore$Post", "take", "(I)LLeasedViewStore$Letter;"⟩
def ws_Post_take : List Cond := .code y_Post_take prog_5_method_4_code 4 (Option.some (Jvm.ClassFile.FieldType.object "LeasedViewStore$Letter")) :: zWs
theorem cw_Post_take {R : Room} {s : State} {args : Array Value} {c0 : Cond} {own : String} {idx : Nat} {rm : Room} (hts : ∀ w ∈ c0 :: zWs, w.before args s = true) (h1 : Cond.methodLink own idx y_Post_take ∈ zWs) (hrc : rm.cells = 0) (hrs : rm.slots = 0) (hR : rm.frames + 1 ≤ R.frames ∧ 8 + (4 + 11) + rm.locals ≤ R.locals) : CallW R s args own "LeasedViewStore$Post" idx y_Post_take prog_5_method_4_code 4 (Option.some (Jvm.ClassFile.FieldType.object "LeasedViewStore$Letter")) ws_Post_take rm 0 0 1 :=
  cwV 1 hts (zGood h1 w_408 w_409 w_9 w_410) rfl hrc hrs (by decide +kernel) hR
abbrev y_Server_init : MethodName := ⟨"LeasedViewStore$Server", "<init>", "(I)V"⟩
def ws_Server_init : List Cond := .code y_Server_init prog_6_method_1_code 2 (Option.none : Option Jvm.ClassFile.FieldType) :: zWs
abbrev y_Server_isPrimary : MethodName := ⟨"LeasedViewStore$Server", "isPrimary", "()Z"⟩
def ws_Server_isPrimary : List Cond := .code y_Server_isPrimary prog_6_method_2_code 1 (Option.some Jvm.ClassFile.FieldType.boolean) :: zWs
theorem cw_Server_isPrimary {R : Room} {s : State} {args : Array Value} {c0 : Cond} {own : String} {idx : Nat} {rm : Room} (hts : ∀ w ∈ c0 :: zWs, w.before args s = true) (h1 : Cond.methodLink own idx y_Server_isPrimary ∈ zWs) (hrc : rm.cells = 0) (hrs : rm.slots = 0) (hR : rm.frames + 1 ≤ R.frames ∧ 8 + (1 + 11) + rm.locals ≤ R.locals) : CallW R s args own "LeasedViewStore$Server" idx y_Server_isPrimary prog_6_method_2_code 1 (Option.some Jvm.ClassFile.FieldType.boolean) ws_Server_isPrimary rm 0 0 0 :=
  cwV 0 hts (zGood h1 w_319 w_320 w_3 w_321) rfl hrc hrs (by decide +kernel) hR
abbrev y_Server_isPrimaryOf : MethodName := ⟨"LeasedViewStore$Server", "isPrimaryOf", "(I)Z"⟩
def ws_Server_isPrimaryOf : List Cond := .code y_Server_isPrimaryOf prog_6_method_3_code 2 (Option.some Jvm.ClassFile.FieldType.boolean) :: zWs
theorem cw_Server_isPrimaryOf {R : Room} {s : State} {args : Array Value} {c0 : Cond} {own : String} {idx : Nat} {rm : Room} (hts : ∀ w ∈ c0 :: zWs, w.before args s = true) (h1 : Cond.methodLink own idx y_Server_isPrimaryOf ∈ zWs) (hrc : rm.cells = 0) (hrs : rm.slots = 0) (hR : rm.frames + 1 ≤ R.frames ∧ 8 + (2 + 11) + rm.locals ≤ R.locals) : CallW R s args own "LeasedViewStore$Server" idx y_Server_isPrimaryOf prog_6_method_3_code 2 (Option.some Jvm.ClassFile.FieldType.boolean) ws_Server_isPrimaryOf rm 0 0 1 :=
  cwV 1 hts (zGood h1 w_444 w_445 w_3 w_446) rfl hrc hrs (by decide +kernel) hR
abbrev y_Server_isBackupOf : MethodName := ⟨"LeasedViewStore$Server", "isBackupOf", "(I)Z"⟩
def ws_Server_isBackupOf : List Cond := .code y_Server_isBackupOf prog_6_method_4_code 2 (Option.some Jvm.ClassFile.FieldType.boolean) :: zWs
theorem cw_Server_isBackupOf {R : Room} {s : State} {args : Array Value} {c0 : Cond} {own : String} {idx : Nat} {rm : Room} (hts : ∀ w ∈ c0 :: zWs, w.before args s = true) (h1 : Cond.methodLink own idx y_Server_isBackupOf ∈ zWs) (hrc : rm.cells = 0) (hrs : rm.slots = 0) (hR : rm.frames + 1 ≤ R.frames ∧ 8 + (2 + 11) + rm.locals ≤ R.locals) : CallW R s args own "LeasedViewStore$Server" idx y_Server_isBackupOf prog_6_method_4_code 2 (Option.some Jvm.ClassFile.FieldType.boolean) ws_Server_isBackupOf rm 0 0 1 :=
  cwV 1 hts (zGood h1 w_452 w_453 w_3 w_454) rfl hrc hrs (by decide +kernel) hR
abbrev y_Server_confirmedNumber : MethodName := ⟨"LeasedViewStore$Server", "confirmedNumber", "()I"⟩
def ws_Server_confirmedNumber : List Cond := .code y_Server_confirmedNumber prog_6_method_5_code 1 (Option.some Jvm.ClassFile.FieldType.int) :: zWs
theorem cw_Server_confirmedNumber {R : Room} {s : State} {args : Array Value} {c0 : Cond} {own : String} {idx : Nat} {rm : Room} (hts : ∀ w ∈ c0 :: zWs, w.before args s = true) (h1 : Cond.methodLink own idx y_Server_confirmedNumber ∈ zWs) (hrc : rm.cells = 0) (hrs : rm.slots = 0) (hR : rm.frames + 1 ≤ R.frames ∧ 8 + (1 + 11) + rm.locals ≤ R.locals) : CallW R s args own "LeasedViewStore$Server" idx y_Server_confirmedNumber prog_6_method_5_code 1 (Option.some Jvm.ClassFile.FieldType.int) ws_Server_confirmedNumber rm 0 0 0 :=
  cwV 0 hts (zGood h1 w_315 w_316 w_3 w_317) rfl hrc hrs (by decide +kernel) hR
abbrev y_Server_liveRole : MethodName := ⟨"LeasedViewStore$Server", "liveRole", "()I"⟩
def ws_Server_liveRole : List Cond := .code y_Server_liveRole prog_6_method_6_code 1 (Option.some Jvm.ClassFile.FieldType.int) :: zWs
theorem cw_Server_liveRole {R : Room} {s : State} {args : Array Value} {c0 : Cond} {own : String} {idx : Nat} {rm : Room} (hts : ∀ w ∈ c0 :: zWs, w.before args s = true) (h1 : Cond.methodLink own idx y_Server_liveRole ∈ zWs) (hrc : rm.cells = 0) (hrs : rm.slots = 0) (hR : rm.frames + 1 ≤ R.frames ∧ 8 + (1 + 11) + rm.locals ≤ R.locals) : CallW R s args own "LeasedViewStore$Server" idx y_Server_liveRole prog_6_method_6_code 1 (Option.some Jvm.ClassFile.FieldType.int) ws_Server_liveRole rm 0 0 0 :=
  cwV 0 hts (zGood h1 w_512 w_513 w_3 w_514) rfl hrc hrs (by decide +kernel) hR
abbrev y_Service_init : MethodName := ⟨"LeasedViewStore$Service", "<init>", "(I)V"⟩
def ws_Service_init : List Cond := .code y_Service_init prog_7_method_1_code 3 (Option.none : Option Jvm.ClassFile.FieldType) :: zWs
abbrev y_Service_notePing : MethodName := ⟨"LeasedViewStore$Service", "notePing", "(LLeasedViewStore$Letter;I)V"⟩
def ws_Service_notePing : List Cond := .code y_Service_notePing prog_7_method_2_code 3 (Option.none : Option Jvm.ClassFile.FieldType) :: zWs
theorem cw_Service_notePing {R : Room} {s : State} {args : Array Value} {c0 : Cond} {own : String} {idx : Nat} {rm : Room} (hts : ∀ w ∈ c0 :: zWs, w.before args s = true) (h1 : Cond.methodLink own idx y_Service_notePing ∈ zWs) (hrc : rm.cells = 0) (hrs : rm.slots = 0) (hR : rm.frames + 1 ≤ R.frames ∧ 8 + (3 + 11) + rm.locals ≤ R.locals) : CallW R s args own "LeasedViewStore$Service" idx y_Service_notePing prog_7_method_2_code 3 (Option.none : Option Jvm.ClassFile.FieldType) ws_Service_notePing rm 0 0 2 :=
  cwV 2 hts (zGood h1 w_420 w_421 w_8 w_422) rfl hrc hrs (by decide +kernel) hR
abbrev y_Service_reviseView : MethodName := ⟨"LeasedViewStore$Service", "reviseView", "(I)V"⟩
def ws_Service_reviseView : List Cond := .code y_Service_reviseView prog_7_method_3_code 5 (Option.none : Option Jvm.ClassFile.FieldType) :: zWs
theorem cw_Service_reviseView {R : Room} {s : State} {args : Array Value} {c0 : Cond} {own : String} {idx : Nat} {rm : Room} (hts : ∀ w ∈ c0 :: zWs, w.before args s = true) (h1 : Cond.methodLink own idx y_Service_reviseView ∈ zWs) (hrc : rm.cells = 0) (hrs : rm.slots = 0) (hR : rm.frames + 1 ≤ R.frames ∧ 8 + (5 + 11) + rm.locals ≤ R.locals) : CallW R s args own "LeasedViewStore$Service" idx y_Service_reviseView prog_7_method_3_code 5 (Option.none : Option Jvm.ClassFile.FieldType) ws_Service_reviseView rm 0 0 1 :=
  cwV 1 hts (zGood h1 w_331 w_332 w_8 w_333) rfl hrc hrs (by decide +kernel) hR
abbrev y_Service_changeView : MethodName := ⟨"LeasedViewStore$Service", "changeView", "(II)V"⟩
def ws_Service_changeView : List Cond := .code y_Service_changeView prog_7_method_4_code 3 (Option.none : Option Jvm.ClassFile.FieldType) :: zWs
theorem cw_Service_changeView {R : Room} {s : State} {args : Array Value} {c0 : Cond} {own : String} {idx : Nat} {rm : Room} (hts : ∀ w ∈ c0 :: zWs, w.before args s = true) (h1 : Cond.methodLink own idx y_Service_changeView ∈ zWs) (hrc : rm.cells = 0) (hrs : rm.slots = 0) (hR : rm.frames + 1 ≤ R.frames ∧ 8 + (3 + 11) + rm.locals ≤ R.locals) : CallW R s args own "LeasedViewStore$Service" idx y_Service_changeView prog_7_method_4_code 3 (Option.none : Option Jvm.ClassFile.FieldType) ws_Service_changeView rm 0 0 2 :=
  cwV 2 hts (zGood h1 w_347 w_348 w_8 w_349) rfl hrc hrs (by decide +kernel) hR
abbrev y_Service_isFresh : MethodName := ⟨"LeasedViewStore$Service", "isFresh", "(II)Z"⟩
def ws_Service_isFresh : List Cond := .code y_Service_isFresh prog_7_method_5_code 3 (Option.some Jvm.ClassFile.FieldType.boolean) :: zWs
theorem cw_Service_isFresh {R : Room} {s : State} {args : Array Value} {c0 : Cond} {own : String} {idx : Nat} {rm : Room} (hts : ∀ w ∈ c0 :: zWs, w.before args s = true) (h1 : Cond.methodLink own idx y_Service_isFresh ∈ zWs) (hrc : rm.cells = 0) (hrs : rm.slots = 0) (hR : rm.frames + 1 ≤ R.frames ∧ 8 + (3 + 11) + rm.locals ≤ R.locals) : CallW R s args own "LeasedViewStore$Service" idx y_Service_isFresh prog_7_method_5_code 3 (Option.some Jvm.ClassFile.FieldType.boolean) ws_Service_isFresh rm 0 0 2 :=
  cwV 2 hts (zGood h1 w_335 w_336 w_8 w_337) rfl hrc hrs (by decide +kernel) hR
abbrev y_Service_freshNewcomer : MethodName := ⟨"LeasedViewStore$Service", "freshNewcomer", "(I)I"⟩
def ws_Service_freshNewcomer : List Cond := .code y_Service_freshNewcomer prog_7_method_6_code 3 (Option.some Jvm.ClassFile.FieldType.int) :: zWs
theorem cw_Service_freshNewcomer {R : Room} {s : State} {args : Array Value} {c0 : Cond} {own : String} {idx : Nat} {rm : Room} (hts : ∀ w ∈ c0 :: zWs, w.before args s = true) (h1 : Cond.methodLink own idx y_Service_freshNewcomer ∈ zWs) (hrc : rm.cells = 0) (hrs : rm.slots = 0) (hR : rm.frames + 1 ≤ R.frames ∧ 8 + (3 + 11) + rm.locals ≤ R.locals) : CallW R s args own "LeasedViewStore$Service" idx y_Service_freshNewcomer prog_7_method_6_code 3 (Option.some Jvm.ClassFile.FieldType.int) ws_Service_freshNewcomer rm 0 0 1 :=
  cwV 1 hts (zGood h1 w_343 w_344 w_8 w_345) rfl hrc hrs (by decide +kernel) hR
abbrev y_State_init : MethodName := ⟨"LeasedViewStore$State", "<init>", "()V"⟩
def ws_State_init : List Cond := .code y_State_init prog_8_method_1_code 1 (Option.none : Option Jvm.ClassFile.FieldType) :: zWs
abbrev y_State_become : MethodName := ⟨"LeasedViewStore$State", "become", "(LLeasedViewStore$State;)V"⟩
def ws_State_become : List Cond := .code y_State_become prog_8_method_2_code 2 (Option.none : Option Jvm.ClassFile.FieldType) :: zWs
theorem cw_State_become {R : Room} {s : State} {args : Array Value} {c0 : Cond} {own : String} {idx : Nat} {rm : Room} (hts : ∀ w ∈ c0 :: zWs, w.before args s = true) (h1 : Cond.methodLink own idx y_State_become ∈ zWs) (hrc : rm.cells = 0) (hrs : rm.slots = 0) (hR : rm.frames + 1 ≤ R.frames ∧ 8 + (2 + 11) + rm.locals ≤ R.locals) : CallW R s args own "LeasedViewStore$State" idx y_State_become prog_8_method_2_code 2 (Option.none : Option Jvm.ClassFile.FieldType) ws_State_become rm 0 0 1 :=
  cwV 1 hts (zGood h1 w_365 w_366 w_5 w_367) rfl hrc hrs (by decide +kernel) hR
abbrev y_State_doWrite : MethodName := ⟨"LeasedViewStore$State", "doWrite", "(LLeasedViewStore$Operation;)V"⟩
def ws_State_doWrite : List Cond := .code y_State_doWrite prog_8_method_3_code 2 (Option.none : Option Jvm.ClassFile.FieldType) :: zWs
theorem cw_State_doWrite {R : Room} {s : State} {args : Array Value} {c0 : Cond} {own : String} {idx : Nat} {rm : Room} (hts : ∀ w ∈ c0 :: zWs, w.before args s = true) (h1 : Cond.methodLink own idx y_State_doWrite ∈ zWs) (hrc : rm.cells = 0) (hrs : rm.slots = 0) (hR : rm.frames + 1 ≤ R.frames ∧ 8 + (2 + 11) + rm.locals ≤ R.locals) : CallW R s args own "LeasedViewStore$State" idx y_State_doWrite prog_8_method_3_code 2 (Option.none : Option Jvm.ClassFile.FieldType) ws_State_doWrite rm 0 0 1 :=
  cwV 1 hts (zGood h1 w_456 w_457 w_5 w_458) rfl hrc hrs (by decide +kernel) hR
abbrev y_View_init : MethodName := ⟨"LeasedViewStore$View", "<init>", "()V"⟩
def ws_View_init : List Cond := .code y_View_init prog_9_method_1_code 1 (Option.none : Option Jvm.ClassFile.FieldType) :: zWs
abbrev y_View_become : MethodName := ⟨"LeasedViewStore$View", "become", "(LLeasedViewStore$View;)V"⟩
def ws_View_become : List Cond := .code y_View_become prog_9_method_2_code 2 (Option.none : Option Jvm.ClassFile.FieldType) :: zWs
theorem cw_View_become {R : Room} {s : State} {args : Array Value} {c0 : Cond} {own : String} {idx : Nat} {rm : Room} (hts : ∀ w ∈ c0 :: zWs, w.before args s = true) (h1 : Cond.methodLink own idx y_View_become ∈ zWs) (hrc : rm.cells = 0) (hrs : rm.slots = 0) (hR : rm.frames + 1 ≤ R.frames ∧ 8 + (2 + 11) + rm.locals ≤ R.locals) : CallW R s args own "LeasedViewStore$View" idx y_View_become prog_9_method_2_code 2 (Option.none : Option Jvm.ClassFile.FieldType) ws_View_become rm 0 0 1 :=
  cwV 1 hts (zGood h1 w_361 w_362 w_4 w_363) rfl hrc hrs (by decide +kernel) hR
abbrev y_View_hasBackup : MethodName := ⟨"LeasedViewStore$View", "hasBackup", "()Z"⟩
def ws_View_hasBackup : List Cond := .code y_View_hasBackup prog_9_method_3_code 1 (Option.some Jvm.ClassFile.FieldType.boolean) :: zWs
theorem cw_View_hasBackup {R : Room} {s : State} {args : Array Value} {c0 : Cond} {own : String} {idx : Nat} {rm : Room} (hts : ∀ w ∈ c0 :: zWs, w.before args s = true) (h1 : Cond.methodLink own idx y_View_hasBackup ∈ zWs) (hrc : rm.cells = 0) (hrs : rm.slots = 0) (hR : rm.frames + 1 ≤ R.frames ∧ 8 + (1 + 11) + rm.locals ≤ R.locals) : CallW R s args own "LeasedViewStore$View" idx y_View_hasBackup prog_9_method_3_code 1 (Option.some Jvm.ClassFile.FieldType.boolean) ws_View_hasBackup rm 0 0 0 :=
  cwV 0 hts (zGood h1 w_339 w_340 w_4 w_341) rfl hrc hrs (by decide +kernel) hR
abbrev y_View_shown : MethodName := ⟨"LeasedViewStore$View", "shown", "()I"⟩
def ws_View_shown : List Cond := .code y_View_shown prog_9_method_4_code 1 (Option.some Jvm.ClassFile.FieldType.int) :: zWs
theorem cw_View_shown {R : Room} {s : State} {args : Array Value} {c0 : Cond} {own : String} {idx : Nat} {rm : Room} (hts : ∀ w ∈ c0 :: zWs, w.before args s = true) (h1 : Cond.methodLink own idx y_View_shown ∈ zWs) (hrc : rm.cells = 0) (hrs : rm.slots = 0) (hR : rm.frames + 1 ≤ R.frames ∧ 8 + (1 + 11) + rm.locals ≤ R.locals) : CallW R s args own "LeasedViewStore$View" idx y_View_shown prog_9_method_4_code 1 (Option.some Jvm.ClassFile.FieldType.int) ws_View_shown rm 0 0 0 :=
  cwV 0 hts (zGood h1 w_504 w_505 w_4 w_506) rfl hrc hrs (by decide +kernel) hR
abbrev y_Law_cell : MethodName := ⟨"LeasedViewStoreLaw", "cell", "([II)I"⟩
def ws_Law_cell : List Cond := .code y_Law_cell method_2_code 2 (Option.some Jvm.ClassFile.FieldType.int) :: zWs
end
section
/-! worlds by roles: a role is (kind, index); ad gives its address; C its cell -/
def zw_W (RL : List (Nat × Nat)) (ad : Nat → Nat → Nat) (C : Nat → Nat → va_E) : va_W := RL.map (fun r => (ad r.1 r.2, C r.1 r.2))
def zw_A (RL : List (Nat × Nat)) (ad : Nat → Nat → Nat) : Nat → Prop := fun q => ∃ r : Nat × Nat, r ∈ RL ∧ q = ad r.1 r.2
def zw_J (RL : List (Nat × Nat)) (ad : Nat → Nat → Nat) : Prop := ∀ (i j : Nat) (p q : Nat × Nat), RL[i]? = some p → RL[j]? = some q → ad p.1 p.2 = ad q.1 q.2 → i = j
def zw_up (C : Nat → Nat → va_E) (k i : Nat) (e : va_E) : Nat → Nat → va_E := fun a b => if a = k ∧ b = i then e else C a b
theorem zw_at {RL : List (Nat × Nat)} {ad : Nat → Nat → Nat} {C : Nat → Nat → va_E} {j : Nat} {q : Nat × va_E} (h : (zw_W RL ad C)[j]? = some q) : ∃ r : Nat × Nat, RL[j]? = some r ∧ q = (ad r.1 r.2, C r.1 r.2) := by
  unfold zw_W at h
  rw [List.getElem?_map] at h
  cases hr : RL[j]? with
  | none => rw [hr] at h; cases h
  | some r => rw [hr] at h; exact ⟨r, rfl, (Option.some.inj h).symm⟩
theorem zw_get {RL : List (Nat × Nat)} {ad : Nat → Nat → Nat} {C : Nat → Nat → va_E} {k i : Nat} (h : (k, i) ∈ RL) : ∃ j : Nat, RL[j]? = some (k, i) ∧ (zw_W RL ad C)[j]? = some (ad k i, C k i) := by
  obtain ⟨j, hj⟩ := List.getElem?_of_mem h
  refine ⟨j, hj, ?_⟩
  unfold zw_W
  rw [List.getElem?_map, hj]
  rfl
theorem zw_D {RL : List (Nat × Nat)} {ad : Nat → Nat → Nat} {C : Nat → Nat → va_E} (hJ : zw_J RL ad) : va_D (zw_A RL ad) (zw_W RL ad C) := by
  refine ⟨fun i j x y hi hj hxy => ?_, fun k q hk => ?_⟩
  · obtain ⟨r1, h1, e1⟩ := zw_at hi
    obtain ⟨r2, h2, e2⟩ := zw_at hj
    rw [e1, e2] at hxy
    exact hJ i j r1 r2 h1 h2 hxy
  · obtain ⟨r, h1, e1⟩ := zw_at hk
    rw [e1]
    exact ⟨r, List.mem_of_getElem? h1, rfl⟩
theorem zw_set {RL : List (Nat × Nat)} {ad : Nat → Nat → Nat} {C : Nat → Nat → va_E} {k i j : Nat} {e : va_E} (hJ : zw_J RL ad) (hj : RL[j]? = some (k, i)) : (zw_W RL ad C).set j (ad k i, e) = zw_W RL ad (zw_up C k i e) := by
  apply List.ext_getElem?
  intro x
  by_cases hx : x = j
  · subst hx
    have hl : x < (zw_W RL ad C).length := by
      unfold zw_W
      rw [List.length_map]
      exact (List.getElem?_eq_some_iff.mp hj).1
    rw [List.getElem?_set_self hl]
    unfold zw_W
    rw [List.getElem?_map, hj]
    simp [zw_up]
  · rw [List.getElem?_set_ne (Ne.symm hx)]
    unfold zw_W
    rw [List.getElem?_map, List.getElem?_map]
    cases hr : RL[x]? with
    | none => rfl
    | some r =>
      have hne : ¬ (r.1 = k ∧ r.2 = i) := fun h => hx (hJ x j r (k, i) hr hj (by rw [h.1, h.2]))
      simp [zw_up, hne]
/-- the judgement: at pc, with these locals and this stack, over any heap of which I holds -/
def zG (p : Program) (l : Launch) (e : Env) (R : Room) (s : State) (m : MethodId) (args : Array Value) (below : List Frame) (meth : Method) (c : Code) (nL : Nat) (Q : State → Prop) (I : Heap → List Loc → Prop) (cells slots : Nat) (pc : Nat) (lv : List (Nat × Value)) (st : List Value) : Prop :=
  ∀ (H : Heap) (locs : List Loc) (ls : Array Slot), I H locs → lv_has ls nL lv → W p l e R s m args below meth c H locs cells slots Q (F0 m pc ls st)
/-- the heap holds the world C, and nothing outside of it has changed -/
def zI (D : va_G) (cl : List vw_C) (RL : List (Nat × Nat)) (ad : Nat → Nat → Nat) (H0 : Heap) (C : Nat → Nat → va_E) : Heap → List Loc → Prop := fun H locs => va_P D cl (zw_W RL ad C) H ∧ va_S (zw_A RL ad) H0 H locs
def zQ (D : va_G) (cl : List vw_C) (RL : List (Nat × Nat)) (ad : Nat → Nat → Nat) (v : Option Value) (C : Nat → Nat → va_E) : Array Value → State → Outcome → State → Prop := fun _ st oc t => (oc = .returned v ∧ va_P D cl (zw_W RL ad C) t.heap) ∧ va_F (zw_A RL ad) st t
def zPc (D : va_G) (cl : List vw_C) (tys : List (ClassId × FieldType)) (RL : List (Nat × Nat)) (ad : Nat → Nat → Nat) (av : List Value) (C : Nat → Nat → va_E) : Array Value → State → Prop := va_Pc av (fun U => va_P D cl (zw_W RL ad C) U.heap ∧ va_K D cl tys U)
/-- a method's contract: with the arguments av, in the world C, it returns v and leaves the world C' -/
def zM (l : Launch) (y : MethodName) (ws : List Cond) (rm : Room) (D : va_G) (cl : List vw_C) (tys : List (ClassId × FieldType)) (RL : List (Nat × Nat)) (ad : Nat → Nat → Nat) (av : List Value) (C : Nat → Nat → va_E) (v : Option Value) (C' : Nat → Nat → va_E) : Prop :=
  Met l y ws rm (zPc D cl tys RL ad av C) (zQ D cl RL ad v C') 0 0 (zw_A RL ad)
theorem zM.of {l : Launch} {y : MethodName} {ws ws' : List Cond} {rm : Room} {D : va_G} {cl : List vw_C} {tys : List (ClassId × FieldType)} {RL : List (Nat × Nat)} {ad : Nat → Nat → Nat} {av : List Value} {C : Nat → Nat → va_E} {v : Option Value} {C' : Nat → Nat → va_E} {cc : ByteArray} {maxL : Nat} {ret : Option FieldType}
    (hy : plainName y.cls = true) (hw : ws = Cond.code y cc maxL ret :: ws') (hn : (lg_sl av).length ≤ maxL)
    (body : ∀ (p : Program) (e : Env) (s : State) (m : MethodId) (below : List Frame) (meth : Method) (c : Code), CallFix p m c cc maxL s av.toArray ws y.cls → meth.sig.returnType = ret → meth.locks = false → va_K D cl tys s →
      zG p l e (headSpec ws rm).room s m av.toArray below meth c maxL (MQ below (zQ D cl RL ad v C') av.toArray s 0 0 (zw_A RL ad)) (zI D cl RL ad s.heap C) 0 0 0 (lv_args 0 av) []) : zM l y ws rm D cl tys RL ad av C v C' := by
  refine Met.ofW (cc := cc) (maxL := maxL) (ret := ret) hy hw ?_
  intro p e s m args below meth c s₁ B hml hv
  obtain ⟨rfl, hP, hK⟩ := hv
  have hl := lv_entry av (n := maxL) hn
  rw [lg_entry_eq]
  exact body p e s m below meth c ⟨B.exec, B.bytes, hml, findClass_of_methodNamed B.named, atoms_spec (ws := ws) B.pre⟩ B.returns B.notSynchronized hK s.heap [] _ ⟨hP, va_S.rf⟩ hl
section ZR
variable {p : Program} {l : Launch} {e : Env} {R : Room} {s : State} {m : MethodId} {args : Array Value} {below : List Frame} {meth : Method} {c : Code} {nL : Nat} {D : va_G} {cl : List vw_C} {tys : List (ClassId × FieldType)} {RL : List (Nat × Nat)} {ad : Nat → Nat → Nat} {H0 : Heap} {Q : State → Prop} {C C' : Nat → Nat → va_E} {I : Heap → List Loc → Prop} {cells slots pc : Nat} {lv lv' : List (Nat × Value)} {st rest : List Value} {cc : ByteArray} {Ts : List Cond} {own : String}
/-- a field is read -/
theorem z_get (S : CallFix p m c cc nL s args Ts own) (hK : va_K D cl tys s) {ref Cn : String} {T : u_T} {N ci index : Nat} (hin : ∀ w ∈ u_ws Cn T N, w ∈ Ts) {x i : Nat} (hr : (x, i) ∈ RL) {fs : List Value} (hcell : C x i = .inr (ci, fs)) (hc : cl[ci]? = some (Cn, T, N)) (k : Nat) (hk : k < N) (hlink : (Cond.fieldLink own index ref (T k).2.1 (T k).2.2.1).before args s = true) (hsame : ∀ x, s.fieldFound? (T k).1 (T k).2.1 (T k).2.2.1 = some x → s.fieldFound? ref (T k).2.1 (T k).2.2.1 = some x) (d : decode cc pc = .ok (.getfield index, 3)) (q : Nat) (hq : pc + 3 = q) (v : Value) (hv : fs[k]? = some v)
    (kk : zG p l e R s m args below meth c nL Q (zI D cl RL ad H0 C) 0 0 q lv (v :: rest)) : zG p l e R s m args below meth c nL Q (zI D cl RL ad H0 C) 0 0 pc lv (.ref (ad x i) :: rest) := by
  subst hq
  intro H locs ls ⟨hP, hS⟩ hl
  obtain ⟨j, -, h0⟩ := zw_get (ad := ad) (C := C) hr
  rw [hcell] at h0
  exact va_get S.1 S.2.1 S.2.2.2.2 hin S.2.2.2.1 hK hP j h0 hc k hk hlink hsame hv d (kk H locs ls ⟨hP, hS⟩ hl)
/-- a field is written -/
theorem z_put (S : CallFix p m c cc nL s args Ts own) (hJ : zw_J RL ad) (hK : va_K D cl tys s) {ref Cn : String} {T : u_T} {N ci index : Nat} (hin : ∀ w ∈ u_ws Cn T N, w ∈ Ts) (ty0 : Nat → FieldType) (hty : ∀ k, k < N → parseFieldDescriptor (T k).2.2.1 = some (ty0 k)) (hnm : ∀ a, a < N → ∀ b, b < N → a ≠ b → (T a).2.1 ≠ (T b).2.1) {x i : Nat} (hr : (x, i) ∈ RL) {fs : List Value} (hcell : C x i = .inr (ci, fs)) (hc : cl[ci]? = some (Cn, T, N)) (k : Nat) (hk : k < N) (hlink : (Cond.fieldLink own index ref (T k).2.1 (T k).2.2.1).before args s = true) (hsame : ∀ x, s.fieldFound? (T k).1 (T k).2.1 (T k).2.2.1 = some x → s.fieldFound? ref (T k).2.1 (T k).2.2.1 = some x) (hfin : (T k).2.2.2 = false) {v : Value} (hn : narrow (ty0 k) v = v) (hfit : fits (ty0 k) v = true) (hl : k < fs.length) (hC : zw_up C x i (.inr (ci, fs.set k v)) = C') (d : decode cc pc = .ok (.putfield index, 3)) (q : Nat) (hq : pc + 3 = q)
    (kk : zG p l e R s m args below meth c nL Q (zI D cl RL ad H0 C') 0 0 q lv rest) : zG p l e R s m args below meth c nL Q (zI D cl RL ad H0 C) 0 0 pc lv (v :: .ref (ad x i) :: rest) := by
  subst hq
  intro H locs ls ⟨hP, hS⟩ hlv
  obtain ⟨j, hj, h0⟩ := zw_get (ad := ad) (C := C) hr
  rw [hcell] at h0
  refine va_put S.1 S.2.1 S.2.2.2.2 hin ty0 hty hnm S.2.2.2.1 hK hP (zw_D hJ) hS j h0 hc k hk hlink hsame hfin (hty k hk) hn hfit hl d (fun H1 locs1 hP1 _ hS1 => ?_)
  rw [zw_set hJ hj, hC] at hP1
  exact kk H1 locs1 ls ⟨hP1, hS1⟩ hlv
theorem z_iald (S : CallFix p m c cc nL s args Ts own) (hK : va_K D cl tys s) {x i : Nat} (hr : (x, i) ∈ RL) (t0 : Nat) {cA : ClassId} {n : Nat} {f : Nat → Int32} (hcell : C x i = .inl (cA, n, .inl f)) (ht : tys[t0]? = some (cA, .int)) {j : Int32} (hin : vp_in j n) (d : decode cc pc = .ok (.iaload, 1)) (q : Nat) (hq : pc + 1 = q) (v : Int32) (hv : f j.toNatClampNeg = v)
    (kk : zG p l e R s m args below meth c nL Q (zI D cl RL ad H0 C) 0 0 q lv (.int v :: rest)) : zG p l e R s m args below meth c nL Q (zI D cl RL ad H0 C) 0 0 pc lv (.int j :: .ref (ad x i) :: rest) := by
  subst hq
  subst hv
  intro H locs ls ⟨hP, hS⟩ hl
  obtain ⟨q, -, h0⟩ := zw_get (ad := ad) (C := C) hr
  rw [hcell] at h0
  exact va_iald S.1 S.2.1 hK hP q t0 h0 ht hin d (kk H locs ls ⟨hP, hS⟩ hl)
theorem z_iast (S : CallFix p m c cc nL s args Ts own) (hJ : zw_J RL ad) (hK : va_K D cl tys s) {x i : Nat} (hr : (x, i) ∈ RL) (t0 : Nat) {cA : ClassId} {n : Nat} {f : Nat → Int32} (hcell : C x i = .inl (cA, n, .inl f)) (ht : tys[t0]? = some (cA, .int)) {j z w : Int32} (hin : vp_in j n) (hw : z = w) (hC : zw_up C x i (.inl (cA, n, .inl (upd f j.toNatClampNeg w))) = C') (d : decode cc pc = .ok (.iastore, 1)) (q : Nat) (hq : pc + 1 = q)
    (kk : zG p l e R s m args below meth c nL Q (zI D cl RL ad H0 C') 0 0 q lv rest) : zG p l e R s m args below meth c nL Q (zI D cl RL ad H0 C) 0 0 pc lv (.int z :: .int j :: .ref (ad x i) :: rest) := by
  subst hq
  subst hw
  intro H locs ls ⟨hP, hS⟩ hl
  obtain ⟨q, hq, h0⟩ := zw_get (ad := ad) (C := C) hr
  rw [hcell] at h0
  refine va_iast S.1 S.2.1 hK hP (zw_D hJ) hS q t0 h0 ht hin d (fun H1 locs1 hP1 _ hS1 => ?_)
  rw [zw_set hJ hq, hC] at hP1
  exact kk H1 locs1 ls ⟨hP1, hS1⟩ hl
theorem z_zald (S : CallFix p m c cc nL s args Ts own) (hK : va_K D cl tys s) {x i : Nat} (hr : (x, i) ∈ RL) (t0 : Nat) {cA : ClassId} {n : Nat} {f : Nat → Int32} (hcell : C x i = .inl (cA, n, .inl f)) (ht : tys[t0]? = some (cA, .boolean)) {j : Int32} (hin : vp_in j n) (d : decode cc pc = .ok (.baload, 1)) (q : Nat) (hq : pc + 1 = q) (v : Int32) (hv : f j.toNatClampNeg = v)
    (kk : zG p l e R s m args below meth c nL Q (zI D cl RL ad H0 C) 0 0 q lv (.int v :: rest)) : zG p l e R s m args below meth c nL Q (zI D cl RL ad H0 C) 0 0 pc lv (.int j :: .ref (ad x i) :: rest) := by
  subst hq
  subst hv
  intro H locs ls ⟨hP, hS⟩ hl
  obtain ⟨q, -, h0⟩ := zw_get (ad := ad) (C := C) hr
  rw [hcell] at h0
  exact va_zald S.1 S.2.1 hK hP q t0 h0 ht hin d (kk H locs ls ⟨hP, hS⟩ hl)
theorem z_zast (S : CallFix p m c cc nL s args Ts own) (hJ : zw_J RL ad) (hK : va_K D cl tys s) {x i : Nat} (hr : (x, i) ∈ RL) (t0 : Nat) {cA : ClassId} {n : Nat} {f : Nat → Int32} (hcell : C x i = .inl (cA, n, .inl f)) (ht : tys[t0]? = some (cA, .boolean)) {j z w : Int32} (hin : vp_in j n) (hw : vp_nar .boolean z = w) (hC : zw_up C x i (.inl (cA, n, .inl (upd f j.toNatClampNeg w))) = C') (d : decode cc pc = .ok (.bastore, 1)) (q : Nat) (hq : pc + 1 = q)
    (kk : zG p l e R s m args below meth c nL Q (zI D cl RL ad H0 C') 0 0 q lv rest) : zG p l e R s m args below meth c nL Q (zI D cl RL ad H0 C) 0 0 pc lv (.int z :: .int j :: .ref (ad x i) :: rest) := by
  subst hq
  subst hw
  intro H locs ls ⟨hP, hS⟩ hl
  obtain ⟨q, hq, h0⟩ := zw_get (ad := ad) (C := C) hr
  rw [hcell] at h0
  refine va_zast S.1 S.2.1 hK hP (zw_D hJ) hS q t0 h0 ht hin d (fun H1 locs1 hP1 _ hS1 => ?_)
  rw [zw_set hJ hq, hC] at hP1
  exact kk H1 locs1 ls ⟨hP1, hS1⟩ hl
theorem z_sald (S : CallFix p m c cc nL s args Ts own) (hK : va_K D cl tys s) {x i : Nat} (hr : (x, i) ∈ RL) (t0 : Nat) {cA : ClassId} {n : Nat} {f : Nat → Int32} (hcell : C x i = .inl (cA, n, .inl f)) (ht : tys[t0]? = some (cA, .short)) {j : Int32} (hin : vp_in j n) (d : decode cc pc = .ok (.saload, 1)) (q : Nat) (hq : pc + 1 = q) (v : Int32) (hv : f j.toNatClampNeg = v)
    (kk : zG p l e R s m args below meth c nL Q (zI D cl RL ad H0 C) 0 0 q lv (.int v :: rest)) : zG p l e R s m args below meth c nL Q (zI D cl RL ad H0 C) 0 0 pc lv (.int j :: .ref (ad x i) :: rest) := by
  subst hq
  subst hv
  intro H locs ls ⟨hP, hS⟩ hl
  obtain ⟨q, -, h0⟩ := zw_get (ad := ad) (C := C) hr
  rw [hcell] at h0
  exact va_sald S.1 S.2.1 hK hP q t0 h0 ht hin d (kk H locs ls ⟨hP, hS⟩ hl)
theorem z_sast (S : CallFix p m c cc nL s args Ts own) (hJ : zw_J RL ad) (hK : va_K D cl tys s) {x i : Nat} (hr : (x, i) ∈ RL) (t0 : Nat) {cA : ClassId} {n : Nat} {f : Nat → Int32} (hcell : C x i = .inl (cA, n, .inl f)) (ht : tys[t0]? = some (cA, .short)) {j z w : Int32} (hin : vp_in j n) (hw : vp_nar .short z = w) (hC : zw_up C x i (.inl (cA, n, .inl (upd f j.toNatClampNeg w))) = C') (d : decode cc pc = .ok (.sastore, 1)) (q : Nat) (hq : pc + 1 = q)
    (kk : zG p l e R s m args below meth c nL Q (zI D cl RL ad H0 C') 0 0 q lv rest) : zG p l e R s m args below meth c nL Q (zI D cl RL ad H0 C) 0 0 pc lv (.int z :: .int j :: .ref (ad x i) :: rest) := by
  subst hq
  subst hw
  intro H locs ls ⟨hP, hS⟩ hl
  obtain ⟨q, hq, h0⟩ := zw_get (ad := ad) (C := C) hr
  rw [hcell] at h0
  refine va_sast S.1 S.2.1 hK hP (zw_D hJ) hS q t0 h0 ht hin d (fun H1 locs1 hP1 _ hS1 => ?_)
  rw [zw_set hJ hq, hC] at hP1
  exact kk H1 locs1 ls ⟨hP1, hS1⟩ hl
/-- a reference is read out of an array / written to it / lengths / copies / Math -/
theorem z_aald (S : CallFix p m c cc nL s args Ts own) (hK : va_K D cl tys s) {x i : Nat} (hr : (x, i) ∈ RL) (t0 : Nat) {cA : ClassId} {Cn : String} {n y : Nat} {f : Nat → Option Nat} (hcell : C x i = .inl (cA, n, .inr (.inr (.inr (.inr f))))) (ht : tys[t0]? = some (cA, .object Cn)) {j : Int32} (hin : vp_in j n) (hy : f j.toNatClampNeg = some y) (d : decode cc pc = .ok (.aaload, 1)) (q : Nat) (hq : pc + 1 = q)
    (kk : zG p l e R s m args below meth c nL Q (zI D cl RL ad H0 C) 0 0 q lv (.ref y :: rest)) : zG p l e R s m args below meth c nL Q (zI D cl RL ad H0 C) 0 0 pc lv (.int j :: .ref (ad x i) :: rest) := by
  subst hq
  intro H locs ls ⟨hP, hS⟩ hl
  obtain ⟨q, -, h0⟩ := zw_get (ad := ad) (C := C) hr
  rw [hcell] at h0
  refine va_aldq S.1 S.2.1 hK hP q t0 h0 ht hin d ?_
  rw [hy]
  exact kk H locs ls ⟨hP, hS⟩ hl
theorem z_aast (S : CallFix p m c cc nL s args Ts own) (hJ : zw_J RL ad) (hK : va_K D cl tys s) {x i : Nat} (hr : (x, i) ∈ RL) (t0 ci : Nat) {cA : ClassId} {r : vw_C} {n x2 i2 : Nat} {vs : List Value} {f : Nat → Option Nat} (hcell : C x i = .inl (cA, n, .inr (.inr (.inr (.inr f))))) (ht : tys[t0]? = some (cA, .object r.1)) (hr2 : (x2, i2) ∈ RL) (hcell2 : C x2 i2 = .inr (ci, vs)) (hc : cl[ci]? = some r) {j : Int32} (hin : vp_in j n) (hC : zw_up C x i (.inl (cA, n, .inr (.inr (.inr (.inr (va_up f j.toNatClampNeg (some (ad x2 i2)))))))) = C') (d : decode cc pc = .ok (.aastore, 1)) (q : Nat) (hq : pc + 1 = q)
    (kk : zG p l e R s m args below meth c nL Q (zI D cl RL ad H0 C') 0 0 q lv rest) : zG p l e R s m args below meth c nL Q (zI D cl RL ad H0 C) 0 0 pc lv (.ref (ad x2 i2) :: .int j :: .ref (ad x i) :: rest) := by
  subst hq
  intro H locs ls ⟨hP, hS⟩ hl
  obtain ⟨q, hq, h0⟩ := zw_get (ad := ad) (C := C) hr
  obtain ⟨q2, -, h2⟩ := zw_get (ad := ad) (C := C) hr2
  rw [hcell] at h0
  rw [hcell2] at h2
  refine va_astq S.1 S.2.1 hK hP (zw_D hJ) hS q t0 q2 ci h0 ht h2 hc hin d (fun H1 locs1 hP1 _ hS1 => ?_)
  rw [zw_set hJ hq, hC] at hP1
  exact kk H1 locs1 ls ⟨hP1, hS1⟩ hl
theorem z_alen (S : CallFix p m c cc nL s args Ts own) (hK : va_K D cl tys s) {x i : Nat} (hr : (x, i) ∈ RL) (t0 : Nat) {cA : ClassId} {a : vp_A} (hcell : C x i = .inl (cA, a)) {ty : FieldType} (ht : tys[t0]? = some (cA, ty)) {v : Int32} (hv : Int32.ofNat a.1 = v) (d : decode cc pc = .ok (.arraylength, 1)) (q : Nat) (hq : pc + 1 = q)
    (kk : zG p l e R s m args below meth c nL Q (zI D cl RL ad H0 C) 0 0 q lv (.int v :: rest)) : zG p l e R s m args below meth c nL Q (zI D cl RL ad H0 C) 0 0 pc lv (.ref (ad x i) :: rest) := by
  subst hq
  intro H locs ls ⟨hP, hS⟩ hl
  obtain ⟨q, -, h0⟩ := zw_get (ad := ad) (C := C) hr
  rw [hcell] at h0
  exact va_alen S.1 S.2.1 hK hP q t0 h0 ht hv d (kk H locs ls ⟨hP, hS⟩ hl)
theorem z_copyi (S : CallFix p m c cc nL s args Ts own) (hJ : zw_J RL ad) (hK : va_K D cl tys s) {index : Nat} (hlink : (Cond.methodLink own index arraycopyName).before args s = true) (hnat : (Cond.native arraycopyName).before args s = true) (hstat : (Cond.static arraycopyName).before args s = true) (hini : (Cond.initialized "java/lang/System").before args s = true)
    {x0 i0 x i : Nat} (hr0 : (x0, i0) ∈ RL) (hr : (x, i) ∈ RL) (t0 t1 : Nat) {c0 c1 : ClassId} {n0 n1 : Nat} {f g : Nat → Int32} {ty : FieldType} (hcell0 : C x0 i0 = .inl (c0, n0, .inl f)) (hcell : C x i = .inl (c1, n1, .inl g)) (ht0 : tys[t0]? = some (c0, ty)) (ht1 : tys[t1]? = some (c1, ty)) (hprim : refKind ty = false)
    {sp dp n : Int32} (h1 : ¬ sp < 0) (h2 : ¬ dp < 0) (h3 : ¬ n < 0) (h4 : sp.toNatClampNeg + n.toNatClampNeg ≤ n0) (h5 : dp.toNatClampNeg + n.toNatClampNeg ≤ n1) (hfit : ∀ i, i < n.toNatClampNeg → fits ty (.int (f (sp.toNatClampNeg + i))) = true)
    (hframes : 1 ≤ R.frames) (hlocals : (rest.map fun v => v.category).sum + (nativeFrameWords "java/lang/System" "arraycopy" 5 + 11) ≤ R.locals) (hC : zw_up C x i (.inl (c1, n1, .inl (va_cpy f g sp.toNatClampNeg dp.toNatClampNeg n.toNatClampNeg))) = C') (d : decode cc pc = .ok (.invokestatic index, 3)) (q : Nat) (hq : pc + 3 = q)
    (kk : zG p l e R s m args below meth c nL Q (zI D cl RL ad H0 C') 0 0 q lv rest) : zG p l e R s m args below meth c nL Q (zI D cl RL ad H0 C) 0 0 pc lv (.int n :: .int dp :: .ref (ad x i) :: .int sp :: .ref (ad x0 i0) :: rest) := by
  subst hq
  intro H locs ls ⟨hP, hS⟩ hl
  obtain ⟨q0, -, e0⟩ := zw_get (ad := ad) (C := C) hr0
  obtain ⟨q1, hq1, e1⟩ := zw_get (ad := ad) (C := C) hr
  rw [hcell0] at e0
  rw [hcell] at e1
  refine va_copyi S.1 S.2.1 (S.2.2.1.trans hl.1.symm) S.2.2.2.1 hlink hnat hstat hini hK hP (zw_D hJ) hS q0 q1 t0 t1 e0 e1 ht0 ht1 hprim h1 h2 h3 h4 h5 hfit hframes hlocals d (fun H1 locs1 hP1 _ hS1 => ?_)
  rw [zw_set hJ hq1, hC] at hP1
  exact kk H1 locs1 ls ⟨hP1, hS1⟩ hl
theorem z_mmax (S : CallFix p m c cc nL s args Ts own) {index : Nat} (hlink : (Cond.methodLink own index Lib.Math.max.name).before args s = true) (hstat : (Cond.static Lib.Math.max.name).before args s = true) (hini : (Cond.initialized "java/lang/Math").before args s = true) (hcode : (Cond.code Lib.Math.max.name Lib.Math.max.code 2 (some .int)).before args s = true) (hframes : 1 ≤ R.frames) (hlocals : (rest.map fun v => v.category).sum + 13 ≤ R.locals) {x y : Int32} (d : decode cc pc = .ok (.invokestatic index, 3)) (q : Nat) (hq : pc + 3 = q)
    (kk : zG p l e R s m args below meth c nL Q (zI D cl RL ad H0 C) 0 0 q lv (.int (if x < y then y else x) :: rest)) : zG p l e R s m args below meth c nL Q (zI D cl RL ad H0 C) 0 0 pc lv (.int y :: .int x :: rest) := by
  subst hq
  exact fun H locs ls hI hl => va_mmax S.1 S.2.1 (S.2.2.1.trans hl.1.symm) S.2.2.2.1 hlink hstat hini hcode hframes hlocals (Nat.zero_le _) (Nat.zero_le _) d (kk H locs ls hI hl)
/-- a call by contract: the world goes over to the callee's end -/
theorem z_run {v : Option Value} {av : List Value} (q : Nat) (hq : pc + 3 = q) (hr : ∀ (H : Heap) (locs : List Loc) (ls : Array Slot), va_P D cl (zw_W RL ad C) H → lv_has ls nL lv → va_Run p l e R s m args below meth c H locs 0 0 0 0 (F0 m pc ls st) rest (zQ D cl RL ad v C' av.toArray) (zw_A RL ad))
    (kk : zG p l e R s m args below meth c nL Q (zI D cl RL ad H0 C') 0 0 q lv (v.toList ++ rest)) : zG p l e R s m args below meth c nL Q (zI D cl RL ad H0 C) 0 0 pc lv st := by
  subst hq
  intro H locs ls ⟨hP, hS⟩ hl T hT X
  obtain ⟨v', st₀, t, T', L, h0, X', hL, e1, e2, ⟨⟨hv, hB⟩, hz, hk⟩, go⟩ := hr H locs ls hP hl T hT X
  cases hv
  rw [h0] at hz hk
  obtain ⟨t2, a1, b1⟩ := kk T'.heap (locs ++ L) ls ⟨by rw [e1]; exact hB, Nat.le_trans hS.1 (by rw [e1]; exact hz), fun q h1 h2 => by rw [e1, hk q (Nat.lt_of_lt_of_le h1 hS.1) h2]; exact hS.2.1 q h1 h2, fun q hq => by
      rcases List.mem_append.mp hq with h | h
      · exact hS.2.2 q h
      · exact hL q h⟩ hl T' rfl X'
  exact ⟨t2, go t2 a1, b1⟩
theorem z_blind {av : List Value} : FrameBlind (zPc D cl tys RL ad av C) := fun _ U _ _ q => ⟨q.1, q.2.1, va_K.moved (Vm.Alike.refl U.vm) q.2.2⟩
theorem z_callV (S : CallFix p m c cc nL s args Ts own) (hK : va_K D cl tys s) {y : MethodName} {ws : List Cond} {rm : Room} {v : Option Value} {As : List Value} {Cn : String} {T : u_T} {N ci index maxL n x i : Nat} {bytes : ByteArray} {ret : Option FieldType} {fs : List Value}
    (hM : zM l y ws rm D cl tys RL ad (.ref (ad x i) :: As) C v C') (cw : CallW R s args own Cn index y bytes maxL ret ws rm 0 0 n) (hr : (x, i) ∈ RL) (hcell : C x i = .inr (ci, fs)) (hc : cl[ci]? = some (Cn, T, N)) (hn : As.length = n) (hst : st = As.reverse ++ .ref (ad x i) :: rest) (hW : (rest.map fun v => v.category).sum ≤ 8) (d : decode cc pc = .ok (.invokevirtual index, 3)) (q : Nat) (hq : pc + 3 = q) (st' : List Value) (hst' : v.toList ++ rest = st')
    (kk : zG p l e R s m args below meth c nL Q (zI D cl RL ad H0 C') 0 0 q lv st') : zG p l e R s m args below meth c nL Q (zI D cl RL ad H0 C) 0 0 pc lv st := by
  subst hst'
  refine z_run (av := .ref (ad x i) :: As) q hq (fun H locs ls hP hl => ?_) kk
  obtain ⟨j, -, h0⟩ := zw_get (ad := ad) (C := C) hr
  rw [hcell] at h0
  exact va_runV S hM cw ⟨z_blind, va_recv hK hP hc h0, fun U hU hW => ⟨rfl, by rw [hU]; exact hP, va_K.moved hW.alike hK⟩⟩ rfl hn hl.1 hst (lv_room hW) d ⟨Nat.zero_le _, Nat.zero_le _⟩
theorem z_callVN (S : CallFix p m c cc nL s args Ts own) (hK : va_K D cl tys s) {y : MethodName} {ws : List Cond} {rm : Room} {v : Option Value} {As : List Value} {Cn host : String} {T : u_T} {N ci index maxL n x i : Nat} {bytes : ByteArray} {ret : Option FieldType} {fs : List Value}
    (hM : zM l y ws rm D cl tys RL ad (.ref (ad x i) :: As) C v C') (cw : va_CN R s args own index y host bytes maxL ret ws rm 0 0 n ∧ (Cond.instanceMethod y).before args s = true ∧ (Cond.selects Cn y y).before args s = true) (hr : (x, i) ∈ RL) (hcell : C x i = .inr (ci, fs)) (hc : cl[ci]? = some (Cn, T, N)) (hn : As.length = n) (hst : st = As.reverse ++ .ref (ad x i) :: rest) (hW : (rest.map fun v => v.category).sum ≤ 8) (d : decode cc pc = .ok (.invokevirtual index, 3)) (q : Nat) (hq : pc + 3 = q) (st' : List Value) (hst' : v.toList ++ rest = st')
    (kk : zG p l e R s m args below meth c nL Q (zI D cl RL ad H0 C') 0 0 q lv st') : zG p l e R s m args below meth c nL Q (zI D cl RL ad H0 C) 0 0 pc lv st := by
  subst hst'
  refine z_run (av := .ref (ad x i) :: As) q hq (fun H locs ls hP hl => ?_) kk
  obtain ⟨j, -, h0⟩ := zw_get (ad := ad) (C := C) hr
  rw [hcell] at h0
  exact va_runVN S hM cw ⟨z_blind, va_recv hK hP hc h0, fun U hU hW => ⟨rfl, by rw [hU]; exact hP, va_K.moved hW.alike hK⟩⟩ rfl hn hl.1 hst (lv_room hW) d ⟨Nat.zero_le _, Nat.zero_le _⟩
theorem z_iret {x v : Int32} (S : CallFix p m c cc nL s args Ts own) (hr : meth.sig.returnType = some .int) (hlocks : meth.locks = false) (d : decode cc pc = .ok (.ireturn, 1)) (hx : x = v) (hC : C = C') : zG p l e R s m args below meth c nL (MQ below (zQ D cl RL ad (some (.int v)) C') args s 0 0 (zw_A RL ad)) (zI D cl RL ad s.heap C) 0 0 pc lv [.int x] := by
  subst hx
  subst hC
  exact fun H locs ls ⟨hP, hS⟩ hl => W.iret S.1 S.2.1 hr (fun t ht hW => ⟨⟨rfl, by rw [ht]; exact hP⟩, hS.F ht⟩) hS.2.2 d hlocks
theorem z_zret {x v : Int32} {ty : FieldType} (S : CallFix p m c cc nL s args Ts own) (hr : meth.sig.returnType = some ty) (hn : narrow ty (.int x) = .int x) (hlocks : meth.locks = false) (d : decode cc pc = .ok (.ireturn, 1)) (hx : x = v) (hC : C = C') : zG p l e R s m args below meth c nL (MQ below (zQ D cl RL ad (some (.int v)) C') args s 0 0 (zw_A RL ad)) (zI D cl RL ad s.heap C) 0 0 pc lv [.int x] := by
  subst hx
  subst hC
  exact fun H locs ls ⟨hP, hS⟩ hl => W.zret S.1 S.2.1 hr hn (fun t ht hW => ⟨⟨rfl, by rw [ht]; exact hP⟩, hS.F ht⟩) hS.2.2 d hlocks
theorem z_vret (S : CallFix p m c cc nL s args Ts own) (hr : meth.sig.returnType = none) (hlocks : meth.locks = false) (d : decode cc pc = .ok (.return_, 1)) (hC : C = C') : zG p l e R s m args below meth c nL (MQ below (zQ D cl RL ad none C') args s 0 0 (zw_A RL ad)) (zI D cl RL ad s.heap C) 0 0 pc lv [] := by
  subst hC
  exact fun H locs ls ⟨hP, hS⟩ hl => W.vret S.1 S.2.1 hr (fun t ht hW => ⟨⟨rfl, by rw [ht]; exact hP⟩, hS.F ht⟩) hS.2.2 d hlocks
theorem z_aret {a b : Nat} {rt : FieldType} (S : CallFix p m c cc nL s args Ts own) (hr : meth.sig.returnType = some rt) (hrt : (∃ n, rt = .object n) ∨ ∃ t, rt = .array t) (hlocks : meth.locks = false) (d : decode cc pc = .ok (.areturn, 1)) (hx : a = b) (hC : C = C') : zG p l e R s m args below meth c nL (MQ below (zQ D cl RL ad (some (.ref b)) C') args s 0 0 (zw_A RL ad)) (zI D cl RL ad s.heap C) 0 0 pc lv [.ref a] := by
  subst hx
  subst hC
  exact fun H locs ls ⟨hP, hS⟩ hl => W.aret S.1 S.2.1 hr hrt (Or.inr ⟨a, rfl⟩) (fun t ht hW => ⟨⟨rfl, by rw [ht]; exact hP⟩, hS.F ht⟩) hS.2.2 d hlocks
theorem z_to {C2 : Nat → Nat → va_E} (h : C = C2) (k : zG p l e R s m args below meth c nL Q (zI D cl RL ad H0 C2) 0 0 pc lv st) : zG p l e R s m args below meth c nL Q (zI D cl RL ad H0 C) 0 0 pc lv st := h ▸ k
theorem z_iconst (S : CallFix p m c cc nL s args Ts own) {n : Int} (d : decode cc pc = .ok (.iconst n, 1)) (v : Int32) (hv : Int32.ofInt n = v) (q : Nat) (hq : pc + 1 = q) (k : zG p l e R s m args below meth c nL Q I cells slots q lv (.int v :: rest)) : zG p l e R s m args below meth c nL Q I cells slots pc lv rest := by
  subst hq; exact fun H locs ls hI hl => lv_iconst S.1 S.2.1 d hv (k H locs ls hI hl)
theorem z_bipush (S : CallFix p m c cc nL s args Ts own) {n : Int} (d : decode cc pc = .ok (.bipush n, 2)) (v : Int32) (hv : (Int8.ofInt n).toInt32 = v) (q : Nat) (hq : pc + 2 = q) (k : zG p l e R s m args below meth c nL Q I cells slots q lv (.int v :: rest)) : zG p l e R s m args below meth c nL Q I cells slots pc lv rest := by
  subst hq; exact fun H locs ls hI hl => lv_bipush S.1 S.2.1 d hv (k H locs ls hI hl)
theorem z_sipush (S : CallFix p m c cc nL s args Ts own) {n : Int} (d : decode cc pc = .ok (.sipush n, 3)) (v : Int32) (hv : (Int16.ofInt n).toInt32 = v) (q : Nat) (hq : pc + 3 = q) (k : zG p l e R s m args below meth c nL Q I cells slots q lv (.int v :: rest)) : zG p l e R s m args below meth c nL Q I cells slots pc lv rest := by
  subst hq; exact fun H locs ls hI hl => lv_sipush S.1 S.2.1 d hv (k H locs ls hI hl)
theorem z_iload_n (S : CallFix p m c cc nL s args Ts own) {n : Fin 4} {i : Nat} {x : Int32} (d : decode cc pc = .ok (.iload_n n, 1)) (hi : (n : Nat) = i) (j : Nat) (hj : lv[j]? = some (i, .int x)) (q : Nat) (hq : pc + 1 = q) (k : zG p l e R s m args below meth c nL Q I cells slots q lv (.int x :: rest)) : zG p l e R s m args below meth c nL Q I cells slots pc lv rest := by
  subst hq; exact fun H locs ls hI hl => lv_iload_n S.1 S.2.1 d hi (lv_at hl j hj) (k H locs ls hI hl)
theorem z_iload (S : CallFix p m c cc nL s args Ts own) {i : Nat} {x : Int32} (d : decode cc pc = .ok (.iload i, 2)) (j : Nat) (hj : lv[j]? = some (i, .int x)) (q : Nat) (hq : pc + 2 = q) (k : zG p l e R s m args below meth c nL Q I cells slots q lv (.int x :: rest)) : zG p l e R s m args below meth c nL Q I cells slots pc lv rest := by
  subst hq; exact fun H locs ls hI hl => lv_iload S.1 S.2.1 d (lv_at hl j hj) (k H locs ls hI hl)
theorem z_aload_n (S : CallFix p m c cc nL s args Ts own) {n : Fin 4} {i : Nat} {x : Nat} (d : decode cc pc = .ok (.aload_n n, 1)) (hi : (n : Nat) = i) (j : Nat) (hj : lv[j]? = some (i, .ref x)) (q : Nat) (hq : pc + 1 = q) (k : zG p l e R s m args below meth c nL Q I cells slots q lv (.ref x :: rest)) : zG p l e R s m args below meth c nL Q I cells slots pc lv rest := by
  subst hq; exact fun H locs ls hI hl => lv_aload_n S.1 S.2.1 d hi (lv_at hl j hj) (k H locs ls hI hl)
theorem z_aload (S : CallFix p m c cc nL s args Ts own) {i : Nat} {x : Nat} (d : decode cc pc = .ok (.aload i, 2)) (j : Nat) (hj : lv[j]? = some (i, .ref x)) (q : Nat) (hq : pc + 2 = q) (k : zG p l e R s m args below meth c nL Q I cells slots q lv (.ref x :: rest)) : zG p l e R s m args below meth c nL Q I cells slots pc lv rest := by
  subst hq; exact fun H locs ls hI hl => lv_aload S.1 S.2.1 d (lv_at hl j hj) (k H locs ls hI hl)
theorem z_istore_n (S : CallFix p m c cc nL s args Ts own) {n : Fin 4} {i : Nat} {x : Int32} (d : decode cc pc = .ok (.istore_n n, 1)) (hi : (n : Nat) = i) (hn : i < nL) (lv' : List (Nat × Value)) (hl' : (i, Value.int x) :: lv.filter (fun q => !(q.1 == i) && !(q.1 + 1 == i && q.2.category == 2)) = lv') (q : Nat) (hq : pc + 1 = q) (k : zG p l e R s m args below meth c nL Q I cells slots q lv' rest) : zG p l e R s m args below meth c nL Q I cells slots pc lv (.int x :: rest) := by
  subst hq; exact fun H locs ls hI hl => lv_istore_n S.1 S.2.1 d hi hl hn hl' (fun ls' h9 => k H locs ls' hI h9)
theorem z_istore (S : CallFix p m c cc nL s args Ts own) {i : Nat} {x : Int32} (d : decode cc pc = .ok (.istore i, 2)) (hn : i < nL) (lv' : List (Nat × Value)) (hl' : (i, Value.int x) :: lv.filter (fun q => !(q.1 == i) && !(q.1 + 1 == i && q.2.category == 2)) = lv') (q : Nat) (hq : pc + 2 = q) (k : zG p l e R s m args below meth c nL Q I cells slots q lv' rest) : zG p l e R s m args below meth c nL Q I cells slots pc lv (.int x :: rest) := by
  subst hq; exact fun H locs ls hI hl => lv_istore S.1 S.2.1 d hl hn hl' (fun ls' h9 => k H locs ls' hI h9)
theorem z_astore_n (S : CallFix p m c cc nL s args Ts own) {n : Fin 4} {i : Nat} {x : Nat} (d : decode cc pc = .ok (.astore_n n, 1)) (hi : (n : Nat) = i) (hn : i < nL) (lv' : List (Nat × Value)) (hl' : (i, Value.ref x) :: lv.filter (fun q => !(q.1 == i) && !(q.1 + 1 == i && q.2.category == 2)) = lv') (q : Nat) (hq : pc + 1 = q) (k : zG p l e R s m args below meth c nL Q I cells slots q lv' rest) : zG p l e R s m args below meth c nL Q I cells slots pc lv (.ref x :: rest) := by
  subst hq; exact fun H locs ls hI hl => lv_astore_n S.1 S.2.1 d hi hl hn hl' (fun ls' h9 => k H locs ls' hI h9)
theorem z_astore (S : CallFix p m c cc nL s args Ts own) {i : Nat} {x : Nat} (d : decode cc pc = .ok (.astore i, 2)) (hn : i < nL) (lv' : List (Nat × Value)) (hl' : (i, Value.ref x) :: lv.filter (fun q => !(q.1 == i) && !(q.1 + 1 == i && q.2.category == 2)) = lv') (q : Nat) (hq : pc + 2 = q) (k : zG p l e R s m args below meth c nL Q I cells slots q lv' rest) : zG p l e R s m args below meth c nL Q I cells slots pc lv (.ref x :: rest) := by
  subst hq; exact fun H locs ls hI hl => lv_astore S.1 S.2.1 d hl hn hl' (fun ls' h9 => k H locs ls' hI h9)
theorem z_iinc (S : CallFix p m c cc nL s args Ts own) {i : Nat} {n : Int} {x v : Int32} (d : decode cc pc = .ok (.iinc i n, 3)) (j : Nat) (hj : lv[j]? = some (i, .int x)) (hv : x + Int32.ofInt n = v) (hn : i < nL) (lv' : List (Nat × Value)) (hl' : (i, Value.int v) :: lv.filter (fun q => !(q.1 == i) && !(q.1 + 1 == i && q.2.category == 2)) = lv') (q : Nat) (hq : pc + 3 = q) (k : zG p l e R s m args below meth c nL Q I cells slots q lv' rest) : zG p l e R s m args below meth c nL Q I cells slots pc lv rest := by
  subst hq; exact fun H locs ls hI hl => lv_iinc S.1 S.2.1 d hl hj hv hn hl' (fun ls' h9 => k H locs ls' hI h9)
theorem z_iadd (S : CallFix p m c cc nL s args Ts own) {x y : Int32} (d : decode cc pc = .ok (.iadd, 1))  (q : Nat) (hq : pc + 1 = q) (k : zG p l e R s m args below meth c nL Q I cells slots q lv (.int (x + y) :: rest)) : zG p l e R s m args below meth c nL Q I cells slots pc lv (.int y :: .int x :: rest) := by
  subst hq; exact fun H locs ls hI hl => lv_iadd S.1 S.2.1 d (k H locs ls hI hl)
theorem z_isub (S : CallFix p m c cc nL s args Ts own) {x y : Int32} (d : decode cc pc = .ok (.isub, 1))  (q : Nat) (hq : pc + 1 = q) (k : zG p l e R s m args below meth c nL Q I cells slots q lv (.int (x - y) :: rest)) : zG p l e R s m args below meth c nL Q I cells slots pc lv (.int y :: .int x :: rest) := by
  subst hq; exact fun H locs ls hI hl => lv_isub S.1 S.2.1 d (k H locs ls hI hl)
theorem z_imul (S : CallFix p m c cc nL s args Ts own) {x y : Int32} (d : decode cc pc = .ok (.imul, 1))  (q : Nat) (hq : pc + 1 = q) (k : zG p l e R s m args below meth c nL Q I cells slots q lv (.int (x * y) :: rest)) : zG p l e R s m args below meth c nL Q I cells slots pc lv (.int y :: .int x :: rest) := by
  subst hq; exact fun H locs ls hI hl => lv_imul S.1 S.2.1 d (k H locs ls hI hl)
theorem z_iand (S : CallFix p m c cc nL s args Ts own) {x y : Int32} (d : decode cc pc = .ok (.iand, 1))  (q : Nat) (hq : pc + 1 = q) (k : zG p l e R s m args below meth c nL Q I cells slots q lv (.int (x &&& y) :: rest)) : zG p l e R s m args below meth c nL Q I cells slots pc lv (.int y :: .int x :: rest) := by
  subst hq; exact fun H locs ls hI hl => lv_iand S.1 S.2.1 d (k H locs ls hI hl)
theorem z_i2s (S : CallFix p m c cc nL s args Ts own) {x : Int32} (d : decode cc pc = .ok (.i2s, 1)) (v : Int32) (hv : x.toInt16.toInt32 = v) (q : Nat) (hq : pc + 1 = q) (k : zG p l e R s m args below meth c nL Q I cells slots q lv (.int v :: rest)) : zG p l e R s m args below meth c nL Q I cells slots pc lv (.int x :: rest) := by
  subst hq; exact fun H locs ls hI hl => lv_i2s S.1 S.2.1 d hv (k H locs ls hI hl)
theorem z_dup (S : CallFix p m c cc nL s args Ts own) {va : Value} (d : decode cc pc = .ok (.dup, 1)) (hva : va.category = 1) (q : Nat) (hq : pc + 1 = q) (k : zG p l e R s m args below meth c nL Q I cells slots q lv (va :: va :: rest)) : zG p l e R s m args below meth c nL Q I cells slots pc lv (va :: rest) := by
  subst hq; exact fun H locs ls hI hl => lv_dup S.1 S.2.1 d hva (k H locs ls hI hl)
theorem z_pop (S : CallFix p m c cc nL s args Ts own) {va : Value} (d : decode cc pc = .ok (.pop, 1)) (hva : va.category = 1) (q : Nat) (hq : pc + 1 = q) (k : zG p l e R s m args below meth c nL Q I cells slots q lv rest) : zG p l e R s m args below meth c nL Q I cells slots pc lv (va :: rest) := by
  subst hq; exact fun H locs ls hI hl => lv_pop S.1 S.2.1 d hva (k H locs ls hI hl)
theorem z_dup_x1 (S : CallFix p m c cc nL s args Ts own) {va vb : Value} (d : decode cc pc = .ok (.dup_x1, 1)) (hva : va.category = 1) (hvb : vb.category = 1) (q : Nat) (hq : pc + 1 = q) (k : zG p l e R s m args below meth c nL Q I cells slots q lv (va :: vb :: va :: rest)) : zG p l e R s m args below meth c nL Q I cells slots pc lv (va :: vb :: rest) := by
  subst hq; exact fun H locs ls hI hl => lv_dup_x1 S.1 S.2.1 d hva hvb (k H locs ls hI hl)
theorem z_dup_x2 (S : CallFix p m c cc nL s args Ts own) {va vb vd : Value} (d : decode cc pc = .ok (.dup_x2, 1)) (hva : va.category = 1) (hvb : vb.category = 1) (hvd : vd.category = 1) (q : Nat) (hq : pc + 1 = q) (k : zG p l e R s m args below meth c nL Q I cells slots q lv (va :: vb :: vd :: va :: rest)) : zG p l e R s m args below meth c nL Q I cells slots pc lv (va :: vb :: vd :: rest) := by
  subst hq; exact fun H locs ls hI hl => lv_dup_x2 S.1 S.2.1 d hva hvb hvd (k H locs ls hI hl)
theorem z_dup2_11 (S : CallFix p m c cc nL s args Ts own) {va vb : Value} (d : decode cc pc = .ok (.dup2, 1)) (hva : va.category = 1) (hvb : vb.category = 1) (q : Nat) (hq : pc + 1 = q) (k : zG p l e R s m args below meth c nL Q I cells slots q lv (va :: vb :: va :: vb :: rest)) : zG p l e R s m args below meth c nL Q I cells slots pc lv (va :: vb :: rest) := by
  subst hq; exact fun H locs ls hI hl => lv_dup2_11 S.1 S.2.1 d hva hvb (k H locs ls hI hl)
theorem z_if_eq (S : CallFix p m c cc nL s args Ts own) {x : Int32} {off : Int} (d : decode cc pc = .ok (.ifCond .eq off, 3)) (tgt : Nat) (ht : (pc : Int) + off = (tgt : Int)) (q : Nat) (hq : pc + 3 = q) (kt : x = 0 → zG p l e R s m args below meth c nL Q I cells slots tgt lv rest) (kf : ¬ x = 0 → zG p l e R s m args below meth c nL Q I cells slots q lv rest) : zG p l e R s m args below meth c nL Q I cells slots pc lv (.int x :: rest) := by
  subst hq; exact fun H locs ls hI hl => lv_if_eq S.1 S.2.1 d ht (fun h => kt h H locs ls hI hl) (fun h => kf h H locs ls hI hl)
theorem z_icmp_eq (S : CallFix p m c cc nL s args Ts own) {x y : Int32} {off : Int} (d : decode cc pc = .ok (.if_icmp .eq off, 3)) (tgt : Nat) (ht : (pc : Int) + off = (tgt : Int)) (q : Nat) (hq : pc + 3 = q) (kt : x = y → zG p l e R s m args below meth c nL Q I cells slots tgt lv rest) (kf : ¬ x = y → zG p l e R s m args below meth c nL Q I cells slots q lv rest) : zG p l e R s m args below meth c nL Q I cells slots pc lv (.int y :: .int x :: rest) := by
  subst hq; exact fun H locs ls hI hl => lv_icmp_eq S.1 S.2.1 d ht (fun h => kt h H locs ls hI hl) (fun h => kf h H locs ls hI hl)
theorem z_if_ne (S : CallFix p m c cc nL s args Ts own) {x : Int32} {off : Int} (d : decode cc pc = .ok (.ifCond .ne off, 3)) (tgt : Nat) (ht : (pc : Int) + off = (tgt : Int)) (q : Nat) (hq : pc + 3 = q) (kt : ¬ x = 0 → zG p l e R s m args below meth c nL Q I cells slots tgt lv rest) (kf : x = 0 → zG p l e R s m args below meth c nL Q I cells slots q lv rest) : zG p l e R s m args below meth c nL Q I cells slots pc lv (.int x :: rest) := by
  subst hq; exact fun H locs ls hI hl => lv_if_ne S.1 S.2.1 d ht (fun h => kt h H locs ls hI hl) (fun h => kf h H locs ls hI hl)
theorem z_icmp_ne (S : CallFix p m c cc nL s args Ts own) {x y : Int32} {off : Int} (d : decode cc pc = .ok (.if_icmp .ne off, 3)) (tgt : Nat) (ht : (pc : Int) + off = (tgt : Int)) (q : Nat) (hq : pc + 3 = q) (kt : ¬ x = y → zG p l e R s m args below meth c nL Q I cells slots tgt lv rest) (kf : x = y → zG p l e R s m args below meth c nL Q I cells slots q lv rest) : zG p l e R s m args below meth c nL Q I cells slots pc lv (.int y :: .int x :: rest) := by
  subst hq; exact fun H locs ls hI hl => lv_icmp_ne S.1 S.2.1 d ht (fun h => kt h H locs ls hI hl) (fun h => kf h H locs ls hI hl)
theorem z_if_lt (S : CallFix p m c cc nL s args Ts own) {x : Int32} {off : Int} (d : decode cc pc = .ok (.ifCond .lt off, 3)) (tgt : Nat) (ht : (pc : Int) + off = (tgt : Int)) (q : Nat) (hq : pc + 3 = q) (kt : x < 0 → zG p l e R s m args below meth c nL Q I cells slots tgt lv rest) (kf : ¬ x < 0 → zG p l e R s m args below meth c nL Q I cells slots q lv rest) : zG p l e R s m args below meth c nL Q I cells slots pc lv (.int x :: rest) := by
  subst hq; exact fun H locs ls hI hl => lv_if_lt S.1 S.2.1 d ht (fun h => kt h H locs ls hI hl) (fun h => kf h H locs ls hI hl)
theorem z_icmp_lt (S : CallFix p m c cc nL s args Ts own) {x y : Int32} {off : Int} (d : decode cc pc = .ok (.if_icmp .lt off, 3)) (tgt : Nat) (ht : (pc : Int) + off = (tgt : Int)) (q : Nat) (hq : pc + 3 = q) (kt : x < y → zG p l e R s m args below meth c nL Q I cells slots tgt lv rest) (kf : ¬ x < y → zG p l e R s m args below meth c nL Q I cells slots q lv rest) : zG p l e R s m args below meth c nL Q I cells slots pc lv (.int y :: .int x :: rest) := by
  subst hq; exact fun H locs ls hI hl => lv_icmp_lt S.1 S.2.1 d ht (fun h => kt h H locs ls hI hl) (fun h => kf h H locs ls hI hl)
theorem z_if_ge (S : CallFix p m c cc nL s args Ts own) {x : Int32} {off : Int} (d : decode cc pc = .ok (.ifCond .ge off, 3)) (tgt : Nat) (ht : (pc : Int) + off = (tgt : Int)) (q : Nat) (hq : pc + 3 = q) (kt : 0 ≤ x → zG p l e R s m args below meth c nL Q I cells slots tgt lv rest) (kf : ¬ 0 ≤ x → zG p l e R s m args below meth c nL Q I cells slots q lv rest) : zG p l e R s m args below meth c nL Q I cells slots pc lv (.int x :: rest) := by
  subst hq; exact fun H locs ls hI hl => lv_if_ge S.1 S.2.1 d ht (fun h => kt h H locs ls hI hl) (fun h => kf h H locs ls hI hl)
theorem z_icmp_ge (S : CallFix p m c cc nL s args Ts own) {x y : Int32} {off : Int} (d : decode cc pc = .ok (.if_icmp .ge off, 3)) (tgt : Nat) (ht : (pc : Int) + off = (tgt : Int)) (q : Nat) (hq : pc + 3 = q) (kt : y ≤ x → zG p l e R s m args below meth c nL Q I cells slots tgt lv rest) (kf : ¬ y ≤ x → zG p l e R s m args below meth c nL Q I cells slots q lv rest) : zG p l e R s m args below meth c nL Q I cells slots pc lv (.int y :: .int x :: rest) := by
  subst hq; exact fun H locs ls hI hl => lv_icmp_ge S.1 S.2.1 d ht (fun h => kt h H locs ls hI hl) (fun h => kf h H locs ls hI hl)
theorem z_if_gt (S : CallFix p m c cc nL s args Ts own) {x : Int32} {off : Int} (d : decode cc pc = .ok (.ifCond .gt off, 3)) (tgt : Nat) (ht : (pc : Int) + off = (tgt : Int)) (q : Nat) (hq : pc + 3 = q) (kt : 0 < x → zG p l e R s m args below meth c nL Q I cells slots tgt lv rest) (kf : ¬ 0 < x → zG p l e R s m args below meth c nL Q I cells slots q lv rest) : zG p l e R s m args below meth c nL Q I cells slots pc lv (.int x :: rest) := by
  subst hq; exact fun H locs ls hI hl => lv_if_gt S.1 S.2.1 d ht (fun h => kt h H locs ls hI hl) (fun h => kf h H locs ls hI hl)
theorem z_icmp_gt (S : CallFix p m c cc nL s args Ts own) {x y : Int32} {off : Int} (d : decode cc pc = .ok (.if_icmp .gt off, 3)) (tgt : Nat) (ht : (pc : Int) + off = (tgt : Int)) (q : Nat) (hq : pc + 3 = q) (kt : y < x → zG p l e R s m args below meth c nL Q I cells slots tgt lv rest) (kf : ¬ y < x → zG p l e R s m args below meth c nL Q I cells slots q lv rest) : zG p l e R s m args below meth c nL Q I cells slots pc lv (.int y :: .int x :: rest) := by
  subst hq; exact fun H locs ls hI hl => lv_icmp_gt S.1 S.2.1 d ht (fun h => kt h H locs ls hI hl) (fun h => kf h H locs ls hI hl)
theorem z_if_le (S : CallFix p m c cc nL s args Ts own) {x : Int32} {off : Int} (d : decode cc pc = .ok (.ifCond .le off, 3)) (tgt : Nat) (ht : (pc : Int) + off = (tgt : Int)) (q : Nat) (hq : pc + 3 = q) (kt : x ≤ 0 → zG p l e R s m args below meth c nL Q I cells slots tgt lv rest) (kf : ¬ x ≤ 0 → zG p l e R s m args below meth c nL Q I cells slots q lv rest) : zG p l e R s m args below meth c nL Q I cells slots pc lv (.int x :: rest) := by
  subst hq; exact fun H locs ls hI hl => lv_if_le S.1 S.2.1 d ht (fun h => kt h H locs ls hI hl) (fun h => kf h H locs ls hI hl)
theorem z_icmp_le (S : CallFix p m c cc nL s args Ts own) {x y : Int32} {off : Int} (d : decode cc pc = .ok (.if_icmp .le off, 3)) (tgt : Nat) (ht : (pc : Int) + off = (tgt : Int)) (q : Nat) (hq : pc + 3 = q) (kt : x ≤ y → zG p l e R s m args below meth c nL Q I cells slots tgt lv rest) (kf : ¬ x ≤ y → zG p l e R s m args below meth c nL Q I cells slots q lv rest) : zG p l e R s m args below meth c nL Q I cells slots pc lv (.int y :: .int x :: rest) := by
  subst hq; exact fun H locs ls hI hl => lv_icmp_le S.1 S.2.1 d ht (fun h => kt h H locs ls hI hl) (fun h => kf h H locs ls hI hl)
theorem z_goto (S : CallFix p m c cc nL s args Ts own) {off : Int} (d : decode cc pc = .ok (.goto off, 3)) (tgt : Nat) (ht : (pc : Int) + off = (tgt : Int))  (k : zG p l e R s m args below meth c nL Q I cells slots tgt lv rest) : zG p l e R s m args below meth c nL Q I cells slots pc lv rest := by
  exact fun H locs ls hI hl => lv_goto S.1 S.2.1 d ht (k H locs ls hI hl)
theorem z_tableIn (S : CallFix p m c cc nL s args Ts own) {dflt lo hi : Int} {offs : Array Int} {len : Nat} {x : Int32} {off : Int} (d : decode cc pc = .ok (.tableswitch dflt lo hi offs, len)) (h1 : ¬ x.toInt < lo) (h2 : ¬ hi < x.toInt) (ho : offs[(x.toInt - lo).toNat]? = some off) (tgt : Nat) (ht : (pc : Int) + off = (tgt : Int))  (k : zG p l e R s m args below meth c nL Q I cells slots tgt lv rest) : zG p l e R s m args below meth c nL Q I cells slots pc lv (.int x :: rest) := by
  exact fun H locs ls hI hl => lv_tableIn S.1 S.2.1 d h1 h2 ho ht (k H locs ls hI hl)
theorem z_tableOut (S : CallFix p m c cc nL s args Ts own) {dflt lo hi : Int} {offs : Array Int} {len : Nat} {x : Int32} (d : decode cc pc = .ok (.tableswitch dflt lo hi offs, len)) (h : x.toInt < lo ∨ hi < x.toInt) (tgt : Nat) (ht : (pc : Int) + dflt = (tgt : Int))  (k : zG p l e R s m args below meth c nL Q I cells slots tgt lv rest) : zG p l e R s m args below meth c nL Q I cells slots pc lv (.int x :: rest) := by
  exact fun H locs ls hI hl => lv_tableOut S.1 S.2.1 d h ht (k H locs ls hI hl)
end ZR
end
section
/-! the state of the class (and of the reference): numbers by kind, slot and index -/
abbrev S3 : Type := Nat → Nat → Nat → Int32
def uA (s : S3) (a b : Nat) (f : Nat → Int32) : S3 := fun a' => if a' = a then (fun b' => if b' = b then f else s a b') else s a'
def u3 (s : S3) (a b c : Nat) (x : Int32) : S3 := uA s a b (upd (s a b) c x)
def zb (x : Int32) : Prop := x = 0 ∨ x = 1
theorem zb_n {x : Int32} (h : zb x) : narrow .boolean (.int x) = .int x := by rcases h with h | h <;> subst h <;> rfl
theorem zb_f {x : Int32} (h : zb x) : fits .boolean (.int x) = true := by rcases h with h | h <;> subst h <;> rfl
theorem zb_v {x : Int32} (h : zb x) : vp_nar .boolean x = x := by rcases h with h | h <;> subst h <;> rfl
theorem zb_0 : zb 0 := Or.inl rfl
theorem zb_1 : zb 1 := Or.inr rfl
theorem vp_lt {j : Int32} {n : Nat} (h : vp_in j n) : j.toNatClampNeg < n := by
  unfold vp_in at h
  omega
theorem u3_id (s : S3) (a b c : Nat) : u3 s a b c (s a b c) = s := by
  funext x y z
  by_cases hx : x = a
  · subst hx
    by_cases hy : y = b
    · subst hy
      by_cases hz : z = c
      · subst hz; simp [u3, uA, upd]
      · simp [u3, uA, upd, hz]
    · simp [u3, uA, hy]
  · simp [u3, uA, hx]
def zTys (K : Nat → ClassId) : List (ClassId × FieldType) := [(K 0, .int), (K 1, .boolean), (K 2, .short), (K 3, .object "LeasedViewStore$Server"), (K 4, .object "LeasedViewStore$Client"), (K 5, .object "LeasedViewStore$Letter")]

def kE (K : Nat → ClassId) (ad : Nat → Nat → Nat) (n : Nat) (π : Nat → Nat) (k i : Nat) (r : Nat → Nat → Int32) : va_E := match k with
  | 0 => .inr (0, [.ref (ad 10 (0)), .ref (ad 11 (0)), .ref (ad 3 (0)), .ref (ad 4 (0)), .int (r 4 i)])
  | 1 => .inr (1, [.int (r 0 i), .ref (ad 6 (i)), .ref (ad 8 (i)), .ref (ad 7 (i)), .int (r 4 i), .int (r 5 i), .int (r 6 i), .int (r 7 i), .int (r 8 i), .int (r 9 i)])
  | 2 => .inr (2, [.ref (ad 7 (5 + i)), .int (r 1 i), .int (r 2 i), .int (r 3 i)])
  | 3 => .inr (3, [.ref (ad 6 (7)), .ref (ad 15 (0)), .int (r 2 i)])
  | 4 => .inr (4, [.ref (ad 12 (0)), .ref (ad 5 (33)), .int (r 2 i)])
  | 5 => .inr (5, [.ref (ad 6 (8 + i)), .ref (ad 7 (8 + i)), .ref (ad 8 (8 + i)), .int (r 3 i), .int (r 4 i), .int (r 5 i), .int (r 6 i), .int (r 7 i), .int (r 8 i)])
  | 6 => .inr (6, [.int (r 0 i), .int (r 1 i), .int (r 2 i)])
  | 7 => .inr (7, [.int (r 0 i), .int (r 1 i), .int (r 2 i), .int (r 3 i), .int (r 4 i)])
  | 8 => .inr (8, [.ref (ad 9 (i)), .ref (ad 13 (i)), .ref (ad 14 (i)), .int (r 3 i)])
  | 9 => .inl (K 0, 4, .inl (r i))
  | 10 => .inl (K 3, n, .inr (.inr (.inr (.inr (fun j => some (ad 1 j))))))
  | 11 => .inl (K 4, 3, .inr (.inr (.inr (.inr (fun j => some (ad 2 j))))))
  | 12 => .inl (K 5, 33, .inr (.inr (.inr (.inr (fun j => some (ad 5 (if i = 0 then π j else 0)))))))
  | 13 => .inl (K 0, 3, .inl (r i))
  | 14 => .inl (K 0, 3, .inl (r i))
  | _ => .inl (K 0, n, .inl (r i))
def kC (K : Nat → ClassId) (ad : Nat → Nat → Nat) (n : Nat) (s : S3) (π : Nat → Nat) : Nat → Nat → va_E := fun k i => kE K ad n π k i (s k)
section KC
variable {K : Nat → ClassId} {ad : Nat → Nat → Nat} {n : Nat} {s s' : S3} {π : Nat → Nat} {i : Nat}
theorem kC_eq (h : s = s') : kC K ad n s π = kC K ad n s' π := by rw [h]
theorem kC_0 : kC K ad n s π 0 i = .inr (0, [.ref (ad 10 (0)), .ref (ad 11 (0)), .ref (ad 3 (0)), .ref (ad 4 (0)), .int (s 0 4 i)]) := rfl
theorem kC_1 : kC K ad n s π 1 i = .inr (1, [.int (s 1 0 i), .ref (ad 6 (i)), .ref (ad 8 (i)), .ref (ad 7 (i)), .int (s 1 4 i), .int (s 1 5 i), .int (s 1 6 i), .int (s 1 7 i), .int (s 1 8 i), .int (s 1 9 i)]) := rfl
theorem kC_2 : kC K ad n s π 2 i = .inr (2, [.ref (ad 7 (5 + i)), .int (s 2 1 i), .int (s 2 2 i), .int (s 2 3 i)]) := rfl
theorem kC_3 : kC K ad n s π 3 i = .inr (3, [.ref (ad 6 (7)), .ref (ad 15 (0)), .int (s 3 2 i)]) := rfl
theorem kC_4 : kC K ad n s π 4 i = .inr (4, [.ref (ad 12 (0)), .ref (ad 5 (33)), .int (s 4 2 i)]) := rfl
theorem kC_5 : kC K ad n s π 5 i = .inr (5, [.ref (ad 6 (8 + i)), .ref (ad 7 (8 + i)), .ref (ad 8 (8 + i)), .int (s 5 3 i), .int (s 5 4 i), .int (s 5 5 i), .int (s 5 6 i), .int (s 5 7 i), .int (s 5 8 i)]) := rfl
theorem kC_6 : kC K ad n s π 6 i = .inr (6, [.int (s 6 0 i), .int (s 6 1 i), .int (s 6 2 i)]) := rfl
theorem kC_7 : kC K ad n s π 7 i = .inr (7, [.int (s 7 0 i), .int (s 7 1 i), .int (s 7 2 i), .int (s 7 3 i), .int (s 7 4 i)]) := rfl
theorem kC_8 : kC K ad n s π 8 i = .inr (8, [.ref (ad 9 (i)), .ref (ad 13 (i)), .ref (ad 14 (i)), .int (s 8 3 i)]) := rfl
theorem kC_9 : kC K ad n s π 9 i = .inl (K 0, 4, .inl (s 9 i)) := rfl
theorem kC_10 : kC K ad n s π 10 i = .inl (K 3, n, .inr (.inr (.inr (.inr (fun j => some (ad 1 j)))))) := rfl
theorem kC_11 : kC K ad n s π 11 i = .inl (K 4, 3, .inr (.inr (.inr (.inr (fun j => some (ad 2 j)))))) := rfl
theorem kC_12 : kC K ad n s π 12 0 = .inl (K 5, 33, .inr (.inr (.inr (.inr (fun j => some (ad 5 (π j))))))) := rfl
theorem kC_13 : kC K ad n s π 13 i = .inl (K 0, 3, .inl (s 13 i)) := rfl
theorem kC_14 : kC K ad n s π 14 i = .inl (K 0, 3, .inl (s 14 i)) := rfl
theorem kC_15 : kC K ad n s π 15 i = .inl (K 0, n, .inl (s 15 i)) := rfl
theorem up_0_4 {x : Int32} : zw_up (kC K ad n s π) 0 i (.inr (0, [.ref (ad 10 (0)), .ref (ad 11 (0)), .ref (ad 3 (0)), .ref (ad 4 (0)), .int (s 0 4 i)].set 4 (.int x))) = kC K ad n (u3 s 0 4 i x) π := by
  funext a b
  unfold zw_up
  by_cases ha : a = 0
  · subst ha
    by_cases hb : b = i
    · subst hb; simp [kC, kE, u3, uA, upd]
    · simp [kC, kE, u3, uA, upd, hb]
  · simp [kC, u3, uA, ha]
theorem up_1_0 {x : Int32} : zw_up (kC K ad n s π) 1 i (.inr (1, [.int (s 1 0 i), .ref (ad 6 (i)), .ref (ad 8 (i)), .ref (ad 7 (i)), .int (s 1 4 i), .int (s 1 5 i), .int (s 1 6 i), .int (s 1 7 i), .int (s 1 8 i), .int (s 1 9 i)].set 0 (.int x))) = kC K ad n (u3 s 1 0 i x) π := by
  funext a b
  unfold zw_up
  by_cases ha : a = 1
  · subst ha
    by_cases hb : b = i
    · subst hb; simp [kC, kE, u3, uA, upd]
    · simp [kC, kE, u3, uA, upd, hb]
  · simp [kC, u3, uA, ha]
theorem up_1_4 {x : Int32} : zw_up (kC K ad n s π) 1 i (.inr (1, [.int (s 1 0 i), .ref (ad 6 (i)), .ref (ad 8 (i)), .ref (ad 7 (i)), .int (s 1 4 i), .int (s 1 5 i), .int (s 1 6 i), .int (s 1 7 i), .int (s 1 8 i), .int (s 1 9 i)].set 4 (.int x))) = kC K ad n (u3 s 1 4 i x) π := by
  funext a b
  unfold zw_up
  by_cases ha : a = 1
  · subst ha
    by_cases hb : b = i
    · subst hb; simp [kC, kE, u3, uA, upd]
    · simp [kC, kE, u3, uA, upd, hb]
  · simp [kC, u3, uA, ha]
theorem up_1_5 {x : Int32} : zw_up (kC K ad n s π) 1 i (.inr (1, [.int (s 1 0 i), .ref (ad 6 (i)), .ref (ad 8 (i)), .ref (ad 7 (i)), .int (s 1 4 i), .int (s 1 5 i), .int (s 1 6 i), .int (s 1 7 i), .int (s 1 8 i), .int (s 1 9 i)].set 5 (.int x))) = kC K ad n (u3 s 1 5 i x) π := by
  funext a b
  unfold zw_up
  by_cases ha : a = 1
  · subst ha
    by_cases hb : b = i
    · subst hb; simp [kC, kE, u3, uA, upd]
    · simp [kC, kE, u3, uA, upd, hb]
  · simp [kC, u3, uA, ha]
theorem up_1_6 {x : Int32} : zw_up (kC K ad n s π) 1 i (.inr (1, [.int (s 1 0 i), .ref (ad 6 (i)), .ref (ad 8 (i)), .ref (ad 7 (i)), .int (s 1 4 i), .int (s 1 5 i), .int (s 1 6 i), .int (s 1 7 i), .int (s 1 8 i), .int (s 1 9 i)].set 6 (.int x))) = kC K ad n (u3 s 1 6 i x) π := by
  funext a b
  unfold zw_up
  by_cases ha : a = 1
  · subst ha
    by_cases hb : b = i
    · subst hb; simp [kC, kE, u3, uA, upd]
    · simp [kC, kE, u3, uA, upd, hb]
  · simp [kC, u3, uA, ha]
theorem up_1_7 {x : Int32} : zw_up (kC K ad n s π) 1 i (.inr (1, [.int (s 1 0 i), .ref (ad 6 (i)), .ref (ad 8 (i)), .ref (ad 7 (i)), .int (s 1 4 i), .int (s 1 5 i), .int (s 1 6 i), .int (s 1 7 i), .int (s 1 8 i), .int (s 1 9 i)].set 7 (.int x))) = kC K ad n (u3 s 1 7 i x) π := by
  funext a b
  unfold zw_up
  by_cases ha : a = 1
  · subst ha
    by_cases hb : b = i
    · subst hb; simp [kC, kE, u3, uA, upd]
    · simp [kC, kE, u3, uA, upd, hb]
  · simp [kC, u3, uA, ha]
theorem up_1_8 {x : Int32} : zw_up (kC K ad n s π) 1 i (.inr (1, [.int (s 1 0 i), .ref (ad 6 (i)), .ref (ad 8 (i)), .ref (ad 7 (i)), .int (s 1 4 i), .int (s 1 5 i), .int (s 1 6 i), .int (s 1 7 i), .int (s 1 8 i), .int (s 1 9 i)].set 8 (.int x))) = kC K ad n (u3 s 1 8 i x) π := by
  funext a b
  unfold zw_up
  by_cases ha : a = 1
  · subst ha
    by_cases hb : b = i
    · subst hb; simp [kC, kE, u3, uA, upd]
    · simp [kC, kE, u3, uA, upd, hb]
  · simp [kC, u3, uA, ha]
theorem up_1_9 {x : Int32} : zw_up (kC K ad n s π) 1 i (.inr (1, [.int (s 1 0 i), .ref (ad 6 (i)), .ref (ad 8 (i)), .ref (ad 7 (i)), .int (s 1 4 i), .int (s 1 5 i), .int (s 1 6 i), .int (s 1 7 i), .int (s 1 8 i), .int (s 1 9 i)].set 9 (.int x))) = kC K ad n (u3 s 1 9 i x) π := by
  funext a b
  unfold zw_up
  by_cases ha : a = 1
  · subst ha
    by_cases hb : b = i
    · subst hb; simp [kC, kE, u3, uA, upd]
    · simp [kC, kE, u3, uA, upd, hb]
  · simp [kC, u3, uA, ha]
theorem up_2_1 {x : Int32} : zw_up (kC K ad n s π) 2 i (.inr (2, [.ref (ad 7 (5 + i)), .int (s 2 1 i), .int (s 2 2 i), .int (s 2 3 i)].set 1 (.int x))) = kC K ad n (u3 s 2 1 i x) π := by
  funext a b
  unfold zw_up
  by_cases ha : a = 2
  · subst ha
    by_cases hb : b = i
    · subst hb; simp [kC, kE, u3, uA, upd]
    · simp [kC, kE, u3, uA, upd, hb]
  · simp [kC, u3, uA, ha]
theorem up_2_2 {x : Int32} : zw_up (kC K ad n s π) 2 i (.inr (2, [.ref (ad 7 (5 + i)), .int (s 2 1 i), .int (s 2 2 i), .int (s 2 3 i)].set 2 (.int x))) = kC K ad n (u3 s 2 2 i x) π := by
  funext a b
  unfold zw_up
  by_cases ha : a = 2
  · subst ha
    by_cases hb : b = i
    · subst hb; simp [kC, kE, u3, uA, upd]
    · simp [kC, kE, u3, uA, upd, hb]
  · simp [kC, u3, uA, ha]
theorem up_2_3 {x : Int32} : zw_up (kC K ad n s π) 2 i (.inr (2, [.ref (ad 7 (5 + i)), .int (s 2 1 i), .int (s 2 2 i), .int (s 2 3 i)].set 3 (.int x))) = kC K ad n (u3 s 2 3 i x) π := by
  funext a b
  unfold zw_up
  by_cases ha : a = 2
  · subst ha
    by_cases hb : b = i
    · subst hb; simp [kC, kE, u3, uA, upd]
    · simp [kC, kE, u3, uA, upd, hb]
  · simp [kC, u3, uA, ha]
theorem up_3_2 {x : Int32} : zw_up (kC K ad n s π) 3 i (.inr (3, [.ref (ad 6 (7)), .ref (ad 15 (0)), .int (s 3 2 i)].set 2 (.int x))) = kC K ad n (u3 s 3 2 i x) π := by
  funext a b
  unfold zw_up
  by_cases ha : a = 3
  · subst ha
    by_cases hb : b = i
    · subst hb; simp [kC, kE, u3, uA, upd]
    · simp [kC, kE, u3, uA, upd, hb]
  · simp [kC, u3, uA, ha]
theorem up_4_2 {x : Int32} : zw_up (kC K ad n s π) 4 i (.inr (4, [.ref (ad 12 (0)), .ref (ad 5 (33)), .int (s 4 2 i)].set 2 (.int x))) = kC K ad n (u3 s 4 2 i x) π := by
  funext a b
  unfold zw_up
  by_cases ha : a = 4
  · subst ha
    by_cases hb : b = i
    · subst hb; simp [kC, kE, u3, uA, upd]
    · simp [kC, kE, u3, uA, upd, hb]
  · simp [kC, u3, uA, ha]
theorem up_5_3 {x : Int32} : zw_up (kC K ad n s π) 5 i (.inr (5, [.ref (ad 6 (8 + i)), .ref (ad 7 (8 + i)), .ref (ad 8 (8 + i)), .int (s 5 3 i), .int (s 5 4 i), .int (s 5 5 i), .int (s 5 6 i), .int (s 5 7 i), .int (s 5 8 i)].set 3 (.int x))) = kC K ad n (u3 s 5 3 i x) π := by
  funext a b
  unfold zw_up
  by_cases ha : a = 5
  · subst ha
    by_cases hb : b = i
    · subst hb; simp [kC, kE, u3, uA, upd]
    · simp [kC, kE, u3, uA, upd, hb]
  · simp [kC, u3, uA, ha]
theorem up_5_4 {x : Int32} : zw_up (kC K ad n s π) 5 i (.inr (5, [.ref (ad 6 (8 + i)), .ref (ad 7 (8 + i)), .ref (ad 8 (8 + i)), .int (s 5 3 i), .int (s 5 4 i), .int (s 5 5 i), .int (s 5 6 i), .int (s 5 7 i), .int (s 5 8 i)].set 4 (.int x))) = kC K ad n (u3 s 5 4 i x) π := by
  funext a b
  unfold zw_up
  by_cases ha : a = 5
  · subst ha
    by_cases hb : b = i
    · subst hb; simp [kC, kE, u3, uA, upd]
    · simp [kC, kE, u3, uA, upd, hb]
  · simp [kC, u3, uA, ha]
theorem up_5_5 {x : Int32} : zw_up (kC K ad n s π) 5 i (.inr (5, [.ref (ad 6 (8 + i)), .ref (ad 7 (8 + i)), .ref (ad 8 (8 + i)), .int (s 5 3 i), .int (s 5 4 i), .int (s 5 5 i), .int (s 5 6 i), .int (s 5 7 i), .int (s 5 8 i)].set 5 (.int x))) = kC K ad n (u3 s 5 5 i x) π := by
  funext a b
  unfold zw_up
  by_cases ha : a = 5
  · subst ha
    by_cases hb : b = i
    · subst hb; simp [kC, kE, u3, uA, upd]
    · simp [kC, kE, u3, uA, upd, hb]
  · simp [kC, u3, uA, ha]
theorem up_5_6 {x : Int32} : zw_up (kC K ad n s π) 5 i (.inr (5, [.ref (ad 6 (8 + i)), .ref (ad 7 (8 + i)), .ref (ad 8 (8 + i)), .int (s 5 3 i), .int (s 5 4 i), .int (s 5 5 i), .int (s 5 6 i), .int (s 5 7 i), .int (s 5 8 i)].set 6 (.int x))) = kC K ad n (u3 s 5 6 i x) π := by
  funext a b
  unfold zw_up
  by_cases ha : a = 5
  · subst ha
    by_cases hb : b = i
    · subst hb; simp [kC, kE, u3, uA, upd]
    · simp [kC, kE, u3, uA, upd, hb]
  · simp [kC, u3, uA, ha]
theorem up_5_7 {x : Int32} : zw_up (kC K ad n s π) 5 i (.inr (5, [.ref (ad 6 (8 + i)), .ref (ad 7 (8 + i)), .ref (ad 8 (8 + i)), .int (s 5 3 i), .int (s 5 4 i), .int (s 5 5 i), .int (s 5 6 i), .int (s 5 7 i), .int (s 5 8 i)].set 7 (.int x))) = kC K ad n (u3 s 5 7 i x) π := by
  funext a b
  unfold zw_up
  by_cases ha : a = 5
  · subst ha
    by_cases hb : b = i
    · subst hb; simp [kC, kE, u3, uA, upd]
    · simp [kC, kE, u3, uA, upd, hb]
  · simp [kC, u3, uA, ha]
theorem up_5_8 {x : Int32} : zw_up (kC K ad n s π) 5 i (.inr (5, [.ref (ad 6 (8 + i)), .ref (ad 7 (8 + i)), .ref (ad 8 (8 + i)), .int (s 5 3 i), .int (s 5 4 i), .int (s 5 5 i), .int (s 5 6 i), .int (s 5 7 i), .int (s 5 8 i)].set 8 (.int x))) = kC K ad n (u3 s 5 8 i x) π := by
  funext a b
  unfold zw_up
  by_cases ha : a = 5
  · subst ha
    by_cases hb : b = i
    · subst hb; simp [kC, kE, u3, uA, upd]
    · simp [kC, kE, u3, uA, upd, hb]
  · simp [kC, u3, uA, ha]
theorem up_6_0 {x : Int32} : zw_up (kC K ad n s π) 6 i (.inr (6, [.int (s 6 0 i), .int (s 6 1 i), .int (s 6 2 i)].set 0 (.int x))) = kC K ad n (u3 s 6 0 i x) π := by
  funext a b
  unfold zw_up
  by_cases ha : a = 6
  · subst ha
    by_cases hb : b = i
    · subst hb; simp [kC, kE, u3, uA, upd]
    · simp [kC, kE, u3, uA, upd, hb]
  · simp [kC, u3, uA, ha]
theorem up_6_1 {x : Int32} : zw_up (kC K ad n s π) 6 i (.inr (6, [.int (s 6 0 i), .int (s 6 1 i), .int (s 6 2 i)].set 1 (.int x))) = kC K ad n (u3 s 6 1 i x) π := by
  funext a b
  unfold zw_up
  by_cases ha : a = 6
  · subst ha
    by_cases hb : b = i
    · subst hb; simp [kC, kE, u3, uA, upd]
    · simp [kC, kE, u3, uA, upd, hb]
  · simp [kC, u3, uA, ha]
theorem up_6_2 {x : Int32} : zw_up (kC K ad n s π) 6 i (.inr (6, [.int (s 6 0 i), .int (s 6 1 i), .int (s 6 2 i)].set 2 (.int x))) = kC K ad n (u3 s 6 2 i x) π := by
  funext a b
  unfold zw_up
  by_cases ha : a = 6
  · subst ha
    by_cases hb : b = i
    · subst hb; simp [kC, kE, u3, uA, upd]
    · simp [kC, kE, u3, uA, upd, hb]
  · simp [kC, u3, uA, ha]
theorem up_7_0 {x : Int32} : zw_up (kC K ad n s π) 7 i (.inr (7, [.int (s 7 0 i), .int (s 7 1 i), .int (s 7 2 i), .int (s 7 3 i), .int (s 7 4 i)].set 0 (.int x))) = kC K ad n (u3 s 7 0 i x) π := by
  funext a b
  unfold zw_up
  by_cases ha : a = 7
  · subst ha
    by_cases hb : b = i
    · subst hb; simp [kC, kE, u3, uA, upd]
    · simp [kC, kE, u3, uA, upd, hb]
  · simp [kC, u3, uA, ha]
theorem up_7_1 {x : Int32} : zw_up (kC K ad n s π) 7 i (.inr (7, [.int (s 7 0 i), .int (s 7 1 i), .int (s 7 2 i), .int (s 7 3 i), .int (s 7 4 i)].set 1 (.int x))) = kC K ad n (u3 s 7 1 i x) π := by
  funext a b
  unfold zw_up
  by_cases ha : a = 7
  · subst ha
    by_cases hb : b = i
    · subst hb; simp [kC, kE, u3, uA, upd]
    · simp [kC, kE, u3, uA, upd, hb]
  · simp [kC, u3, uA, ha]
theorem up_7_2 {x : Int32} : zw_up (kC K ad n s π) 7 i (.inr (7, [.int (s 7 0 i), .int (s 7 1 i), .int (s 7 2 i), .int (s 7 3 i), .int (s 7 4 i)].set 2 (.int x))) = kC K ad n (u3 s 7 2 i x) π := by
  funext a b
  unfold zw_up
  by_cases ha : a = 7
  · subst ha
    by_cases hb : b = i
    · subst hb; simp [kC, kE, u3, uA, upd]
    · simp [kC, kE, u3, uA, upd, hb]
  · simp [kC, u3, uA, ha]
theorem up_7_3 {x : Int32} : zw_up (kC K ad n s π) 7 i (.inr (7, [.int (s 7 0 i), .int (s 7 1 i), .int (s 7 2 i), .int (s 7 3 i), .int (s 7 4 i)].set 3 (.int x))) = kC K ad n (u3 s 7 3 i x) π := by
  funext a b
  unfold zw_up
  by_cases ha : a = 7
  · subst ha
    by_cases hb : b = i
    · subst hb; simp [kC, kE, u3, uA, upd]
    · simp [kC, kE, u3, uA, upd, hb]
  · simp [kC, u3, uA, ha]
theorem up_7_4 {x : Int32} : zw_up (kC K ad n s π) 7 i (.inr (7, [.int (s 7 0 i), .int (s 7 1 i), .int (s 7 2 i), .int (s 7 3 i), .int (s 7 4 i)].set 4 (.int x))) = kC K ad n (u3 s 7 4 i x) π := by
  funext a b
  unfold zw_up
  by_cases ha : a = 7
  · subst ha
    by_cases hb : b = i
    · subst hb; simp [kC, kE, u3, uA, upd]
    · simp [kC, kE, u3, uA, upd, hb]
  · simp [kC, u3, uA, ha]
theorem up_8_3 {x : Int32} : zw_up (kC K ad n s π) 8 i (.inr (8, [.ref (ad 9 (i)), .ref (ad 13 (i)), .ref (ad 14 (i)), .int (s 8 3 i)].set 3 (.int x))) = kC K ad n (u3 s 8 3 i x) π := by
  funext a b
  unfold zw_up
  by_cases ha : a = 8
  · subst ha
    by_cases hb : b = i
    · subst hb; simp [kC, kE, u3, uA, upd]
    · simp [kC, kE, u3, uA, upd, hb]
  · simp [kC, u3, uA, ha]
theorem upA_9 {f : Nat → Int32} : zw_up (kC K ad n s π) 9 i (.inl (K 0, 4, .inl f)) = kC K ad n (uA s 9 i f) π := by
  funext a b
  unfold zw_up
  by_cases ha : a = 9
  · subst ha
    by_cases hb : b = i
    · subst hb; simp [kC, kE, uA]
    · simp [kC, kE, uA, hb]
  · simp [kC, uA, ha]
theorem upI_9 {j : Nat} {x : Int32} : zw_up (kC K ad n s π) 9 i (.inl (K 0, 4, .inl (upd (s 9 i) j x))) = kC K ad n (u3 s 9 i j x) π := upA_9
theorem upA_13 {f : Nat → Int32} : zw_up (kC K ad n s π) 13 i (.inl (K 0, 3, .inl f)) = kC K ad n (uA s 13 i f) π := by
  funext a b
  unfold zw_up
  by_cases ha : a = 13
  · subst ha
    by_cases hb : b = i
    · subst hb; simp [kC, kE, uA]
    · simp [kC, kE, uA, hb]
  · simp [kC, uA, ha]
theorem upI_13 {j : Nat} {x : Int32} : zw_up (kC K ad n s π) 13 i (.inl (K 0, 3, .inl (upd (s 13 i) j x))) = kC K ad n (u3 s 13 i j x) π := upA_13
theorem upA_14 {f : Nat → Int32} : zw_up (kC K ad n s π) 14 i (.inl (K 0, 3, .inl f)) = kC K ad n (uA s 14 i f) π := by
  funext a b
  unfold zw_up
  by_cases ha : a = 14
  · subst ha
    by_cases hb : b = i
    · subst hb; simp [kC, kE, uA]
    · simp [kC, kE, uA, hb]
  · simp [kC, uA, ha]
theorem upI_14 {j : Nat} {x : Int32} : zw_up (kC K ad n s π) 14 i (.inl (K 0, 3, .inl (upd (s 14 i) j x))) = kC K ad n (u3 s 14 i j x) π := upA_14
theorem upA_15 {f : Nat → Int32} : zw_up (kC K ad n s π) 15 i (.inl (K 0, n, .inl f)) = kC K ad n (uA s 15 i f) π := by
  funext a b
  unfold zw_up
  by_cases ha : a = 15
  · subst ha
    by_cases hb : b = i
    · subst hb; simp [kC, kE, uA]
    · simp [kC, kE, uA, hb]
  · simp [kC, uA, ha]
theorem upI_15 {j : Nat} {x : Int32} : zw_up (kC K ad n s π) 15 i (.inl (K 0, n, .inl (upd (s 15 i) j x))) = kC K ad n (u3 s 15 i j x) π := upA_15
theorem upP {j q : Nat} : zw_up (kC K ad n s π) 12 0 (.inl (K 5, 33, .inr (.inr (.inr (.inr (va_up (fun j => some (ad 5 (π j))) j (some (ad 5 q)))))))) = kC K ad n s (va_up π j q) := by
  have hf : (va_up (fun j => some (ad 5 (π j))) j (some (ad 5 q))) = fun x => some (ad 5 (va_up π j q x)) := by
    funext x
    by_cases hx : x = j
    · subst hx; simp [va_up]
    · simp [va_up, hx]
  rw [hf]
  funext a b
  unfold zw_up
  by_cases ha : a = 12
  · subst ha
    by_cases hb : b = 0
    · subst hb; simp [kC, kE]
    · simp [kC, kE, hb]
  · have : ∀ π2 : Nat → Nat, kC K ad n s π2 a b = kC K ad n s π a b := by
      intro π2
      unfold kC kE
      split <;> first | rfl | exact absurd rfl ha
    simp [ha, this]
end KC
def opOK (s : S3) : Prop := ∀ x, vp_in (s 7 0 x) 3 ∧ vp_in (s 7 3 x) 4 ∧ zb (s 7 2 x)
theorem opOK.c {s : S3} (h : opOK s) (x : Nat) : vp_in (s 7 0 x) 3 := (h x).1
theorem opOK.k {s : S3} (h : opOK s) (x : Nat) : vp_in (s 7 3 x) 4 := (h x).2.1
theorem opOK.w {s : S3} (h : opOK s) (x : Nat) : zb (s 7 2 x) := (h x).2.2
/-! the roles of the class, in the order of their making; their addresses -/
def sB (i : Nat) : List (Nat × Nat) := [(1, i), (6, i), (8, i), (9, i), (13, i), (14, i), (7, i)]
def lB (j : Nat) : List (Nat × Nat) := [(5, j), (6, 8 + j), (7, 8 + j), (8, 8 + j), (9, 8 + j), (13, 8 + j), (14, 8 + j)]
def cB (c : Nat) : List (Nat × Nat) := [(2, c), (7, 5 + c)]
def cRL (n : Nat) : List (Nat × Nat) := [(0, 0), (10, 0)] ++ ((List.range n).flatMap sB ++ ([(11, 0)] ++ ((List.range 3).flatMap cB ++ ([(3, 0), (6, 7), (15, 0), (4, 0), (12, 0)] ++ (lB 33 ++ (List.range 33).flatMap lB)))))
section RLM
variable {n i j c : Nat} {q : Nat × Nat}
theorem rl_S (h : i < n) (hq : q ∈ sB i) : q ∈ cRL n := List.mem_append_right _ (List.mem_append_left _ (List.mem_flatMap.mpr ⟨i, List.mem_range.mpr h, hq⟩))
theorem rl_C (h : c < 3) (hq : q ∈ cB c) : q ∈ cRL n := List.mem_append_right _ (List.mem_append_right _ (List.mem_append_right _ (List.mem_append_left _ (List.mem_flatMap.mpr ⟨c, List.mem_range.mpr h, hq⟩))))
theorem rl_F (hq : q ∈ [(3, 0), (6, 7), (15, 0), (4, 0), (12, 0)]) : q ∈ cRL n := List.mem_append_right _ (List.mem_append_right _ (List.mem_append_right _ (List.mem_append_right _ (List.mem_append_left _ hq))))
theorem rl_L (h : j < 34) (hq : q ∈ lB j) : q ∈ cRL n := by
  by_cases hj : j = 33
  · subst hj
    exact List.mem_append_right _ (List.mem_append_right _ (List.mem_append_right _ (List.mem_append_right _ (List.mem_append_right _ (List.mem_append_left _ hq)))))
  · exact List.mem_append_right _ (List.mem_append_right _ (List.mem_append_right _ (List.mem_append_right _ (List.mem_append_right _ (List.mem_append_right _ (List.mem_flatMap.mpr ⟨j, List.mem_range.mpr (by omega), hq⟩))))))
theorem rl_cases (h : q ∈ cRL n) : q = (0, 0) ∨ q = (10, 0) ∨ (∃ i, i < n ∧ q ∈ sB i) ∨ q = (11, 0) ∨ (∃ c, c < 3 ∧ q ∈ cB c) ∨ q ∈ [(3, 0), (6, 7), (15, 0), (4, 0), (12, 0)] ∨ ∃ j, j < 34 ∧ q ∈ lB j := by
  unfold cRL at h
  rcases List.mem_append.mp h with h | h
  · simp at h; rcases h with h | h
    · exact Or.inl h
    · exact Or.inr (Or.inl h)
  rcases List.mem_append.mp h with h | h
  · obtain ⟨i, hi, hq⟩ := List.mem_flatMap.mp h
    exact Or.inr (Or.inr (Or.inl ⟨i, List.mem_range.mp hi, hq⟩))
  rcases List.mem_append.mp h with h | h
  · simp at h
    exact Or.inr (Or.inr (Or.inr (Or.inl h)))
  rcases List.mem_append.mp h with h | h
  · obtain ⟨i, hi, hq⟩ := List.mem_flatMap.mp h
    exact Or.inr (Or.inr (Or.inr (Or.inr (Or.inl ⟨i, List.mem_range.mp hi, hq⟩))))
  rcases List.mem_append.mp h with h | h
  · exact Or.inr (Or.inr (Or.inr (Or.inr (Or.inr (Or.inl h)))))
  rcases List.mem_append.mp h with h | h
  · exact Or.inr (Or.inr (Or.inr (Or.inr (Or.inr (Or.inr ⟨33, by omega, h⟩)))))
  · obtain ⟨i, hi, hq⟩ := List.mem_flatMap.mp h
    have := List.mem_range.mp hi
    exact Or.inr (Or.inr (Or.inr (Or.inr (Or.inr (Or.inr ⟨i, by omega, hq⟩)))))
theorem rl_srv (h : i < n) : (1, i) ∈ cRL n := rl_S h (by simp [sB])
theorem rl_cli (h : c < 3) : (2, c) ∈ cRL n := rl_C h (by simp [cB])
theorem rl_let (h : j < 34) : (5, j) ∈ cRL n := rl_L h (by simp [lB])
theorem rl_1 (h : (1, i) ∈ cRL n) : i < n := by
  rcases rl_cases h with h | h | ⟨j, hj, h⟩ | h | ⟨j, hj, h⟩ | h | ⟨j, hj, h⟩ <;> simp [sB, cB, lB] at h
  omega
theorem rl_2 (h : (2, c) ∈ cRL n) : c < 3 := by
  rcases rl_cases h with h | h | ⟨j, hj, h⟩ | h | ⟨j, hj, h⟩ | h | ⟨j, hj, h⟩ <;> simp [sB, cB, lB] at h
  omega
theorem rl_5 (h : (5, j) ∈ cRL n) : j < 34 := by
  rcases rl_cases h with h | h | ⟨i, hi, h⟩ | h | ⟨i, hi, h⟩ | h | ⟨i, hi, h⟩ <;> simp [sB, cB, lB] at h
  omega
theorem rl_8 (h : (8, i) ∈ cRL n) : i < n ∨ ∃ j, j < 34 ∧ i = 8 + j := by
  rcases rl_cases h with h | h | ⟨j, hj, h⟩ | h | ⟨j, hj, h⟩ | h | ⟨j, hj, h⟩ <;> simp [sB, cB, lB] at h
  · exact Or.inl (by omega)
  · exact Or.inr ⟨j, hj, h⟩
theorem rl_0 : (0, 0) ∈ cRL n := List.mem_append_left _ (by simp)
theorem rl_10 : (10, 0) ∈ cRL n := List.mem_append_left _ (by simp)
theorem rl_11 : (11, 0) ∈ cRL n := List.mem_append_right _ (List.mem_append_right _ (List.mem_append_left _ (by simp)))
theorem rl_3 : (3, 0) ∈ cRL n := rl_F (by simp)
theorem rl_67 : (6, 7) ∈ cRL n := rl_F (by simp)
theorem rl_15 : (15, 0) ∈ cRL n := rl_F (by simp)
theorem rl_4 : (4, 0) ∈ cRL n := rl_F (by simp)
theorem rl_12 : (12, 0) ∈ cRL n := rl_F (by simp)
theorem rl_533 : (5, 33) ∈ cRL n := rl_L (j := 33) (by omega) (by simp [lB])
theorem rl_sv (h : (1, i) ∈ cRL n) : (6, i) ∈ cRL n := rl_S (rl_1 h) (by simp [sB])
theorem rl_ss (h : (1, i) ∈ cRL n) : (8, i) ∈ cRL n := rl_S (rl_1 h) (by simp [sB])
theorem rl_so (h : (1, i) ∈ cRL n) : (7, i) ∈ cRL n := rl_S (rl_1 h) (by simp [sB])
theorem rl_co (h : (2, c) ∈ cRL n) : (7, 5 + c) ∈ cRL n := rl_C (rl_2 h) (by simp [cB])
theorem rl_lv (h : (5, j) ∈ cRL n) : (6, 8 + j) ∈ cRL n := rl_L (rl_5 h) (by simp [lB])
theorem rl_lo (h : (5, j) ∈ cRL n) : (7, 8 + j) ∈ cRL n := rl_L (rl_5 h) (by simp [lB])
theorem rl_ls (h : (5, j) ∈ cRL n) : (8, 8 + j) ∈ cRL n := rl_L (rl_5 h) (by simp [lB])
theorem rl_s9 (h : (8, i) ∈ cRL n) : (9, i) ∈ cRL n := by
  rcases rl_8 h with h | ⟨j, hj, rfl⟩
  · exact rl_S h (by simp [sB])
  · exact rl_L hj (by simp [lB])
theorem rl_s13 (h : (8, i) ∈ cRL n) : (13, i) ∈ cRL n := by
  rcases rl_8 h with h | ⟨j, hj, rfl⟩
  · exact rl_S h (by simp [sB])
  · exact rl_L hj (by simp [lB])
theorem rl_s14 (h : (8, i) ∈ cRL n) : (14, i) ∈ cRL n := by
  rcases rl_8 h with h | ⟨j, hj, rfl⟩
  · exact rl_S h (by simp [sB])
  · exact rl_L hj (by simp [lB])
end RLM
end
section
theorem d_View_become_0 : decode prog_9_method_2_code 0 = .ok (.aload_n 0, 1) := by decide +kernel
theorem d_View_become_1 : decode prog_9_method_2_code 1 = .ok (.aload_n 1, 1) := by decide +kernel
theorem d_View_become_2 : decode prog_9_method_2_code 2 = .ok (.getfield 9, 3) := by decide +kernel
theorem d_View_become_5 : decode prog_9_method_2_code 5 = .ok (.putfield 9, 3) := by decide +kernel
theorem d_View_become_8 : decode prog_9_method_2_code 8 = .ok (.aload_n 0, 1) := by decide +kernel
theorem d_View_become_9 : decode prog_9_method_2_code 9 = .ok (.aload_n 1, 1) := by decide +kernel
theorem d_View_become_10 : decode prog_9_method_2_code 10 = .ok (.getfield 15, 3) := by decide +kernel
theorem d_View_become_13 : decode prog_9_method_2_code 13 = .ok (.putfield 15, 3) := by decide +kernel
theorem d_View_become_16 : decode prog_9_method_2_code 16 = .ok (.aload_n 0, 1) := by decide +kernel
theorem d_View_become_17 : decode prog_9_method_2_code 17 = .ok (.aload_n 1, 1) := by decide +kernel
theorem d_View_become_18 : decode prog_9_method_2_code 18 = .ok (.getfield 18, 3) := by decide +kernel
theorem d_View_become_21 : decode prog_9_method_2_code 21 = .ok (.putfield 18, 3) := by decide +kernel
theorem d_View_become_24 : decode prog_9_method_2_code 24 = .ok (.return_, 1) := by decide +kernel
def S_View_become (π : Nat → Nat) (s : S3) (a : Nat) (b : Nat) : S3 := u3 (u3 (u3 s 6 0 a (s 6 0 b)) 6 1 a (s 6 1 b)) 6 2 a (s 6 2 b)
set_option maxHeartbeats 4000000 in
set_option maxRecDepth 100000 in
theorem c_View_become {l : Launch} {D : va_G} {K : Nat → ClassId} {ad : Nat → Nat → Nat} {n : Nat} {π : Nat → Nat} {s : S3} {a b : Nat} (hJ : zw_J (cRL n) ad) (ma : (6, a) ∈ cRL n) (mb : (6, b) ∈ cRL n) : zM l y_View_become ws_View_become ({ frames := 0, cells := 0, slots := 0, locals := 0 }) D zCl (zTys K) (cRL n) ad [.ref (ad 6 a), .ref (ad 6 b)] (kC K ad n s π) (none) (kC K ad n (S_View_become π s a b) π) := by
  refine zM.of (cc := prog_9_method_2_code) (maxL := 2) (ret := (Option.none : Option Jvm.ClassFile.FieldType)) (by decide) rfl (Nat.le_of_ble_eq_true rfl) ?_
  intro pP eE U mM bL mT cO S hr hlk hK
  have hts := S.2.2.2.2
  have ht := fun w h => hts w (List.mem_cons_of_mem _ h)
  refine z_aload_n S d_View_become_0 rfl 0 rfl 1 rfl ?_
  refine z_aload_n S d_View_become_1 rfl 1 rfl 2 rfl ?_
  refine z_get S hK hin_View mb kC_6 rfl 0 (Nat.le_of_ble_eq_true rfl) (ht _ w_40) (fun _ h => h) d_View_become_2 5 rfl (.int (s 6 0 b)) rfl ?_
  refine z_put S hJ hK hin_View t_View ok_View nm_View ma kC_6 rfl 0 (Nat.le_of_ble_eq_true rfl) (ht _ w_40) (fun _ h => h) rfl rfl rfl (Nat.le_of_ble_eq_true rfl) up_6_0 d_View_become_5 8 rfl ?_
  refine z_aload_n S d_View_become_8 rfl 0 rfl 9 rfl ?_
  refine z_aload_n S d_View_become_9 rfl 1 rfl 10 rfl ?_
  refine z_get S hK hin_View mb kC_6 rfl 1 (Nat.le_of_ble_eq_true rfl) (ht _ w_44) (fun _ h => h) d_View_become_10 13 rfl (.int (s 6 1 b)) rfl ?_
  refine z_put S hJ hK hin_View t_View ok_View nm_View ma kC_6 rfl 1 (Nat.le_of_ble_eq_true rfl) (ht _ w_44) (fun _ h => h) rfl rfl rfl (Nat.le_of_ble_eq_true rfl) up_6_1 d_View_become_13 16 rfl ?_
  refine z_aload_n S d_View_become_16 rfl 0 rfl 17 rfl ?_
  refine z_aload_n S d_View_become_17 rfl 1 rfl 18 rfl ?_
  refine z_get S hK hin_View mb kC_6 rfl 2 (Nat.le_of_ble_eq_true rfl) (ht _ w_48) (fun _ h => h) d_View_become_18 21 rfl (.int (s 6 2 b)) rfl ?_
  refine z_put S hJ hK hin_View t_View ok_View nm_View ma kC_6 rfl 2 (Nat.le_of_ble_eq_true rfl) (ht _ w_48) (fun _ h => h) rfl rfl rfl (Nat.le_of_ble_eq_true rfl) up_6_2 d_View_become_21 24 rfl ?_
  exact z_vret S hr hlk d_View_become_24 (kC_eq rfl)
theorem d_View_hasBackup_0 : decode prog_9_method_3_code 0 = .ok (.aload_n 0, 1) := by decide +kernel
theorem d_View_hasBackup_1 : decode prog_9_method_3_code 1 = .ok (.getfield 18, 3) := by decide +kernel
theorem d_View_hasBackup_4 : decode prog_9_method_3_code 4 = .ok (.bipush 7, 2) := by decide +kernel
theorem d_View_hasBackup_6 : decode prog_9_method_3_code 6 = .ok (.if_icmp .eq 7, 3) := by decide +kernel
theorem d_View_hasBackup_9 : decode prog_9_method_3_code 9 = .ok (.iconst 1, 1) := by decide +kernel
theorem d_View_hasBackup_10 : decode prog_9_method_3_code 10 = .ok (.goto 4, 3) := by decide +kernel
theorem d_View_hasBackup_13 : decode prog_9_method_3_code 13 = .ok (.iconst 0, 1) := by decide +kernel
theorem d_View_hasBackup_14 : decode prog_9_method_3_code 14 = .ok (.ireturn, 1) := by decide +kernel
def v_View_hasBackup (x0 : Int32)  : Int32 := if (x0) = 7 then 0 else 1
theorem zbv_View_hasBackup {x0 : Int32}  : zb (v_View_hasBackup x0 ) := by
  unfold v_View_hasBackup zb
  repeat' split
  all_goals simp
set_option maxHeartbeats 4000000 in
set_option maxRecDepth 100000 in
theorem c_View_hasBackup {l : Launch} {D : va_G} {K : Nat → ClassId} {ad : Nat → Nat → Nat} {n : Nat} {π : Nat → Nat} {s : S3} {a : Nat} (hJ : zw_J (cRL n) ad) (ma : (6, a) ∈ cRL n) : zM l y_View_hasBackup ws_View_hasBackup ({ frames := 0, cells := 0, slots := 0, locals := 0 }) D zCl (zTys K) (cRL n) ad [.ref (ad 6 a)] (kC K ad n s π) (some (.int (v_View_hasBackup (s 6 2 a)))) (kC K ad n (s) π) := by
  refine zM.of (cc := prog_9_method_3_code) (maxL := 1) (ret := (Option.some Jvm.ClassFile.FieldType.boolean)) (by decide) rfl (Nat.le_of_ble_eq_true rfl) ?_
  intro pP eE U mM bL mT cO S hr hlk hK
  have hts := S.2.2.2.2
  have ht := fun w h => hts w (List.mem_cons_of_mem _ h)
  refine z_aload_n S d_View_hasBackup_0 rfl 0 rfl 1 rfl ?_
  refine z_get S hK hin_View ma kC_6 rfl 2 (Nat.le_of_ble_eq_true rfl) (ht _ w_48) (fun _ h => h) d_View_hasBackup_1 4 rfl (.int (s 6 2 a)) rfl ?_
  refine z_bipush S d_View_hasBackup_4 7 (by decide) 6 rfl ?_
  refine z_icmp_eq S d_View_hasBackup_6 13 (by decide) 9 rfl (fun h1 => ?_) (fun h1 => ?_)
  · refine z_iconst S d_View_hasBackup_13 0 (by decide) 14 rfl ?_
    exact z_zret S hr (zb_n zb_0) hlk d_View_hasBackup_14 (by unfold v_View_hasBackup; simp only [if_pos h1]) rfl
  · refine z_iconst S d_View_hasBackup_9 1 (by decide) 10 rfl ?_
    refine z_goto S d_View_hasBackup_10 14 (by decide) ?_
    exact z_zret S hr (zb_n zb_1) hlk d_View_hasBackup_14 (by unfold v_View_hasBackup; simp only [if_neg h1]) rfl
theorem d_View_shown_0 : decode prog_9_method_4_code 0 = .ok (.aload_n 0, 1) := by decide +kernel
theorem d_View_shown_1 : decode prog_9_method_4_code 1 = .ok (.getfield 9, 3) := by decide +kernel
theorem d_View_shown_4 : decode prog_9_method_4_code 4 = .ok (.ifCond .ne 7, 3) := by decide +kernel
theorem d_View_shown_7 : decode prog_9_method_4_code 7 = .ok (.iconst 0, 1) := by decide +kernel
theorem d_View_shown_8 : decode prog_9_method_4_code 8 = .ok (.goto 23, 3) := by decide +kernel
theorem d_View_shown_11 : decode prog_9_method_4_code 11 = .ok (.bipush 64, 2) := by decide +kernel
theorem d_View_shown_13 : decode prog_9_method_4_code 13 = .ok (.aload_n 0, 1) := by decide +kernel
theorem d_View_shown_14 : decode prog_9_method_4_code 14 = .ok (.getfield 9, 3) := by decide +kernel
theorem d_View_shown_17 : decode prog_9_method_4_code 17 = .ok (.imul, 1) := by decide +kernel
theorem d_View_shown_18 : decode prog_9_method_4_code 18 = .ok (.bipush 8, 2) := by decide +kernel
theorem d_View_shown_20 : decode prog_9_method_4_code 20 = .ok (.aload_n 0, 1) := by decide +kernel
theorem d_View_shown_21 : decode prog_9_method_4_code 21 = .ok (.getfield 15, 3) := by decide +kernel
theorem d_View_shown_24 : decode prog_9_method_4_code 24 = .ok (.imul, 1) := by decide +kernel
theorem d_View_shown_25 : decode prog_9_method_4_code 25 = .ok (.iadd, 1) := by decide +kernel
theorem d_View_shown_26 : decode prog_9_method_4_code 26 = .ok (.aload_n 0, 1) := by decide +kernel
theorem d_View_shown_27 : decode prog_9_method_4_code 27 = .ok (.getfield 18, 3) := by decide +kernel
theorem d_View_shown_30 : decode prog_9_method_4_code 30 = .ok (.iadd, 1) := by decide +kernel
theorem d_View_shown_31 : decode prog_9_method_4_code 31 = .ok (.ireturn, 1) := by decide +kernel
def v_View_shown (x0 : Int32) (x1 : Int32) (x2 : Int32)  : Int32 := if (x0) = 0 then 0 else ((64 * (x0)) + (8 * (x1))) + (x2)
set_option maxHeartbeats 4000000 in
set_option maxRecDepth 100000 in
theorem c_View_shown {l : Launch} {D : va_G} {K : Nat → ClassId} {ad : Nat → Nat → Nat} {n : Nat} {π : Nat → Nat} {s : S3} {a : Nat} (hJ : zw_J (cRL n) ad) (ma : (6, a) ∈ cRL n) : zM l y_View_shown ws_View_shown ({ frames := 0, cells := 0, slots := 0, locals := 0 }) D zCl (zTys K) (cRL n) ad [.ref (ad 6 a)] (kC K ad n s π) (some (.int (v_View_shown (s 6 0 a) (s 6 1 a) (s 6 2 a)))) (kC K ad n (s) π) := by
  refine zM.of (cc := prog_9_method_4_code) (maxL := 1) (ret := (Option.some Jvm.ClassFile.FieldType.int)) (by decide) rfl (Nat.le_of_ble_eq_true rfl) ?_
  intro pP eE U mM bL mT cO S hr hlk hK
  have hts := S.2.2.2.2
  have ht := fun w h => hts w (List.mem_cons_of_mem _ h)
  refine z_aload_n S d_View_shown_0 rfl 0 rfl 1 rfl ?_
  refine z_get S hK hin_View ma kC_6 rfl 0 (Nat.le_of_ble_eq_true rfl) (ht _ w_40) (fun _ h => h) d_View_shown_1 4 rfl (.int (s 6 0 a)) rfl ?_
  refine z_if_ne S d_View_shown_4 11 (by decide) 7 rfl (fun h1 => ?_) (fun h1 => ?_)
  · refine z_bipush S d_View_shown_11 64 (by decide) 13 rfl ?_
    refine z_aload_n S d_View_shown_13 rfl 0 rfl 14 rfl ?_
    refine z_get S hK hin_View ma kC_6 rfl 0 (Nat.le_of_ble_eq_true rfl) (ht _ w_40) (fun _ h => h) d_View_shown_14 17 rfl (.int (s 6 0 a)) rfl ?_
    refine z_imul S d_View_shown_17 18 rfl ?_
    refine z_bipush S d_View_shown_18 8 (by decide) 20 rfl ?_
    refine z_aload_n S d_View_shown_20 rfl 0 rfl 21 rfl ?_
    refine z_get S hK hin_View ma kC_6 rfl 1 (Nat.le_of_ble_eq_true rfl) (ht _ w_44) (fun _ h => h) d_View_shown_21 24 rfl (.int (s 6 1 a)) rfl ?_
    refine z_imul S d_View_shown_24 25 rfl ?_
    refine z_iadd S d_View_shown_25 26 rfl ?_
    refine z_aload_n S d_View_shown_26 rfl 0 rfl 27 rfl ?_
    refine z_get S hK hin_View ma kC_6 rfl 2 (Nat.le_of_ble_eq_true rfl) (ht _ w_48) (fun _ h => h) d_View_shown_27 30 rfl (.int (s 6 2 a)) rfl ?_
    refine z_iadd S d_View_shown_30 31 rfl ?_
    exact z_iret S hr hlk d_View_shown_31 (by unfold v_View_shown; simp only [if_neg h1]) rfl
  · refine z_iconst S d_View_shown_7 0 (by decide) 8 rfl ?_
    refine z_goto S d_View_shown_8 31 (by decide) ?_
    exact z_iret S hr hlk d_View_shown_31 (by unfold v_View_shown; simp only [if_pos h1]) rfl
theorem d_Operation_become_0 : decode prog_4_method_2_code 0 = .ok (.aload_n 0, 1) := by decide +kernel
theorem d_Operation_become_1 : decode prog_4_method_2_code 1 = .ok (.aload_n 1, 1) := by decide +kernel
theorem d_Operation_become_2 : decode prog_4_method_2_code 2 = .ok (.getfield 7, 3) := by decide +kernel
theorem d_Operation_become_5 : decode prog_4_method_2_code 5 = .ok (.putfield 7, 3) := by decide +kernel
theorem d_Operation_become_8 : decode prog_4_method_2_code 8 = .ok (.aload_n 0, 1) := by decide +kernel
theorem d_Operation_become_9 : decode prog_4_method_2_code 9 = .ok (.aload_n 1, 1) := by decide +kernel
theorem d_Operation_become_10 : decode prog_4_method_2_code 10 = .ok (.getfield 13, 3) := by decide +kernel
theorem d_Operation_become_13 : decode prog_4_method_2_code 13 = .ok (.putfield 13, 3) := by decide +kernel
theorem d_Operation_become_16 : decode prog_4_method_2_code 16 = .ok (.aload_n 0, 1) := by decide +kernel
theorem d_Operation_become_17 : decode prog_4_method_2_code 17 = .ok (.aload_n 1, 1) := by decide +kernel
theorem d_Operation_become_18 : decode prog_4_method_2_code 18 = .ok (.getfield 16, 3) := by decide +kernel
theorem d_Operation_become_21 : decode prog_4_method_2_code 21 = .ok (.putfield 16, 3) := by decide +kernel
theorem d_Operation_become_24 : decode prog_4_method_2_code 24 = .ok (.aload_n 0, 1) := by decide +kernel
theorem d_Operation_become_25 : decode prog_4_method_2_code 25 = .ok (.aload_n 1, 1) := by decide +kernel
theorem d_Operation_become_26 : decode prog_4_method_2_code 26 = .ok (.getfield 20, 3) := by decide +kernel
theorem d_Operation_become_29 : decode prog_4_method_2_code 29 = .ok (.putfield 20, 3) := by decide +kernel
theorem d_Operation_become_32 : decode prog_4_method_2_code 32 = .ok (.aload_n 0, 1) := by decide +kernel
theorem d_Operation_become_33 : decode prog_4_method_2_code 33 = .ok (.aload_n 1, 1) := by decide +kernel
theorem d_Operation_become_34 : decode prog_4_method_2_code 34 = .ok (.getfield 23, 3) := by decide +kernel
theorem d_Operation_become_37 : decode prog_4_method_2_code 37 = .ok (.putfield 23, 3) := by decide +kernel
theorem d_Operation_become_40 : decode prog_4_method_2_code 40 = .ok (.return_, 1) := by decide +kernel
def S_Operation_become (π : Nat → Nat) (s : S3) (a : Nat) (b : Nat) : S3 := u3 (u3 (u3 (u3 (u3 s 7 0 a (s 7 0 b)) 7 1 a (s 7 1 b)) 7 2 a (s 7 2 b)) 7 3 a (s 7 3 b)) 7 4 a (s 7 4 b)
set_option maxHeartbeats 4000000 in
set_option maxRecDepth 100000 in
theorem c_Operation_become {l : Launch} {D : va_G} {K : Nat → ClassId} {ad : Nat → Nat → Nat} {n : Nat} {π : Nat → Nat} {s : S3} {a b : Nat} (hJ : zw_J (cRL n) ad) (ma : (7, a) ∈ cRL n) (mb : (7, b) ∈ cRL n) (hz : zb (s 7 2 b)) : zM l y_Operation_become ws_Operation_become ({ frames := 0, cells := 0, slots := 0, locals := 0 }) D zCl (zTys K) (cRL n) ad [.ref (ad 7 a), .ref (ad 7 b)] (kC K ad n s π) (none) (kC K ad n (S_Operation_become π s a b) π) := by
  refine zM.of (cc := prog_4_method_2_code) (maxL := 2) (ret := (Option.none : Option Jvm.ClassFile.FieldType)) (by decide) rfl (Nat.le_of_ble_eq_true rfl) ?_
  intro pP eE U mM bL mT cO S hr hlk hK
  have hts := S.2.2.2.2
  have ht := fun w h => hts w (List.mem_cons_of_mem _ h)
  refine z_aload_n S d_Operation_become_0 rfl 0 rfl 1 rfl ?_
  refine z_aload_n S d_Operation_become_1 rfl 1 rfl 2 rfl ?_
  refine z_get S hK hin_Operation mb kC_7 rfl 0 (Nat.le_of_ble_eq_true rfl) (ht _ w_89) (fun _ h => h) d_Operation_become_2 5 rfl (.int (s 7 0 b)) rfl ?_
  refine z_put S hJ hK hin_Operation t_Operation ok_Operation nm_Operation ma kC_7 rfl 0 (Nat.le_of_ble_eq_true rfl) (ht _ w_89) (fun _ h => h) rfl rfl rfl (Nat.le_of_ble_eq_true rfl) up_7_0 d_Operation_become_5 8 rfl ?_
  refine z_aload_n S d_Operation_become_8 rfl 0 rfl 9 rfl ?_
  refine z_aload_n S d_Operation_become_9 rfl 1 rfl 10 rfl ?_
  refine z_get S hK hin_Operation mb kC_7 rfl 1 (Nat.le_of_ble_eq_true rfl) (ht _ w_93) (fun _ h => h) d_Operation_become_10 13 rfl (.int (s 7 1 b)) rfl ?_
  refine z_put S hJ hK hin_Operation t_Operation ok_Operation nm_Operation ma kC_7 rfl 1 (Nat.le_of_ble_eq_true rfl) (ht _ w_93) (fun _ h => h) rfl rfl rfl (Nat.le_of_ble_eq_true rfl) up_7_1 d_Operation_become_13 16 rfl ?_
  refine z_aload_n S d_Operation_become_16 rfl 0 rfl 17 rfl ?_
  refine z_aload_n S d_Operation_become_17 rfl 1 rfl 18 rfl ?_
  refine z_get S hK hin_Operation mb kC_7 rfl 2 (Nat.le_of_ble_eq_true rfl) (ht _ w_97) (fun _ h => h) d_Operation_become_18 21 rfl (.int (s 7 2 b)) rfl ?_
  refine z_put S hJ hK hin_Operation t_Operation ok_Operation nm_Operation ma kC_7 rfl 2 (Nat.le_of_ble_eq_true rfl) (ht _ w_97) (fun _ h => h) rfl (zb_n hz) (zb_f hz) (Nat.le_of_ble_eq_true rfl) up_7_2 d_Operation_become_21 24 rfl ?_
  refine z_aload_n S d_Operation_become_24 rfl 0 rfl 25 rfl ?_
  refine z_aload_n S d_Operation_become_25 rfl 1 rfl 26 rfl ?_
  refine z_get S hK hin_Operation mb kC_7 rfl 3 (Nat.le_of_ble_eq_true rfl) (ht _ w_100) (fun _ h => h) d_Operation_become_26 29 rfl (.int (s 7 3 b)) rfl ?_
  refine z_put S hJ hK hin_Operation t_Operation ok_Operation nm_Operation ma kC_7 rfl 3 (Nat.le_of_ble_eq_true rfl) (ht _ w_100) (fun _ h => h) rfl rfl rfl (Nat.le_of_ble_eq_true rfl) up_7_3 d_Operation_become_29 32 rfl ?_
  refine z_aload_n S d_Operation_become_32 rfl 0 rfl 33 rfl ?_
  refine z_aload_n S d_Operation_become_33 rfl 1 rfl 34 rfl ?_
  refine z_get S hK hin_Operation mb kC_7 rfl 4 (Nat.le_of_ble_eq_true rfl) (ht _ w_104) (fun _ h => h) d_Operation_become_34 37 rfl (.int (s 7 4 b)) rfl ?_
  refine z_put S hJ hK hin_Operation t_Operation ok_Operation nm_Operation ma kC_7 rfl 4 (Nat.le_of_ble_eq_true rfl) (ht _ w_104) (fun _ h => h) rfl rfl rfl (Nat.le_of_ble_eq_true rfl) up_7_4 d_Operation_become_37 40 rfl ?_
  exact z_vret S hr hlk d_Operation_become_40 (kC_eq rfl)
theorem d_State_become_0 : decode prog_8_method_2_code 0 = .ok (.aload_n 1, 1) := by decide +kernel
theorem d_State_become_1 : decode prog_8_method_2_code 1 = .ok (.getfield 9, 3) := by decide +kernel
theorem d_State_become_4 : decode prog_8_method_2_code 4 = .ok (.iconst 0, 1) := by decide +kernel
theorem d_State_become_5 : decode prog_8_method_2_code 5 = .ok (.aload_n 0, 1) := by decide +kernel
theorem d_State_become_6 : decode prog_8_method_2_code 6 = .ok (.getfield 9, 3) := by decide +kernel
theorem d_State_become_9 : decode prog_8_method_2_code 9 = .ok (.iconst 0, 1) := by decide +kernel
theorem d_State_become_10 : decode prog_8_method_2_code 10 = .ok (.iconst 4, 1) := by decide +kernel
theorem d_State_become_11 : decode prog_8_method_2_code 11 = .ok (.invokestatic 25, 3) := by decide +kernel
theorem d_State_become_14 : decode prog_8_method_2_code 14 = .ok (.aload_n 1, 1) := by decide +kernel
theorem d_State_become_15 : decode prog_8_method_2_code 15 = .ok (.getfield 15, 3) := by decide +kernel
theorem d_State_become_18 : decode prog_8_method_2_code 18 = .ok (.iconst 0, 1) := by decide +kernel
theorem d_State_become_19 : decode prog_8_method_2_code 19 = .ok (.aload_n 0, 1) := by decide +kernel
theorem d_State_become_20 : decode prog_8_method_2_code 20 = .ok (.getfield 15, 3) := by decide +kernel
theorem d_State_become_23 : decode prog_8_method_2_code 23 = .ok (.iconst 0, 1) := by decide +kernel
theorem d_State_become_24 : decode prog_8_method_2_code 24 = .ok (.iconst 3, 1) := by decide +kernel
theorem d_State_become_25 : decode prog_8_method_2_code 25 = .ok (.invokestatic 25, 3) := by decide +kernel
theorem d_State_become_28 : decode prog_8_method_2_code 28 = .ok (.aload_n 1, 1) := by decide +kernel
theorem d_State_become_29 : decode prog_8_method_2_code 29 = .ok (.getfield 18, 3) := by decide +kernel
theorem d_State_become_32 : decode prog_8_method_2_code 32 = .ok (.iconst 0, 1) := by decide +kernel
theorem d_State_become_33 : decode prog_8_method_2_code 33 = .ok (.aload_n 0, 1) := by decide +kernel
theorem d_State_become_34 : decode prog_8_method_2_code 34 = .ok (.getfield 18, 3) := by decide +kernel
theorem d_State_become_37 : decode prog_8_method_2_code 37 = .ok (.iconst 0, 1) := by decide +kernel
theorem d_State_become_38 : decode prog_8_method_2_code 38 = .ok (.iconst 3, 1) := by decide +kernel
theorem d_State_become_39 : decode prog_8_method_2_code 39 = .ok (.invokestatic 25, 3) := by decide +kernel
theorem d_State_become_42 : decode prog_8_method_2_code 42 = .ok (.aload_n 0, 1) := by decide +kernel
theorem d_State_become_43 : decode prog_8_method_2_code 43 = .ok (.aload_n 1, 1) := by decide +kernel
theorem d_State_become_44 : decode prog_8_method_2_code 44 = .ok (.getfield 21, 3) := by decide +kernel
theorem d_State_become_47 : decode prog_8_method_2_code 47 = .ok (.putfield 21, 3) := by decide +kernel
theorem d_State_become_50 : decode prog_8_method_2_code 50 = .ok (.return_, 1) := by decide +kernel
def S_State_become (π : Nat → Nat) (s : S3) (a : Nat) (b : Nat) : S3 := u3 (uA (uA (uA s 9 a (va_cpy (s 9 b) (s 9 a) (0 : Int32).toNatClampNeg (0 : Int32).toNatClampNeg (4 : Int32).toNatClampNeg)) 13 a (va_cpy (s 13 b) (s 13 a) (0 : Int32).toNatClampNeg (0 : Int32).toNatClampNeg (3 : Int32).toNatClampNeg)) 14 a (va_cpy (s 14 b) (s 14 a) (0 : Int32).toNatClampNeg (0 : Int32).toNatClampNeg (3 : Int32).toNatClampNeg)) 8 3 a (s 8 3 b)
set_option maxHeartbeats 4000000 in
set_option maxRecDepth 100000 in
theorem c_State_become {l : Launch} {D : va_G} {K : Nat → ClassId} {ad : Nat → Nat → Nat} {n : Nat} {π : Nat → Nat} {s : S3} {a b : Nat} (hJ : zw_J (cRL n) ad) (ma : (8, a) ∈ cRL n) (mb : (8, b) ∈ cRL n) : zM l y_State_become ws_State_become ({ frames := 1, cells := 0, slots := 0, locals := 80 }) D zCl (zTys K) (cRL n) ad [.ref (ad 8 a), .ref (ad 8 b)] (kC K ad n s π) (none) (kC K ad n (S_State_become π s a b) π) := by
  refine zM.of (cc := prog_8_method_2_code) (maxL := 2) (ret := (Option.none : Option Jvm.ClassFile.FieldType)) (by decide) rfl (Nat.le_of_ble_eq_true rfl) ?_
  intro pP eE U mM bL mT cO S hr hlk hK
  have hts := S.2.2.2.2
  have ht := fun w h => hts w (List.mem_cons_of_mem _ h)
  refine z_aload_n S d_State_become_0 rfl 1 rfl 1 rfl ?_
  refine z_get S hK hin_State mb kC_8 rfl 0 (Nat.le_of_ble_eq_true rfl) (ht _ w_65) (fun _ h => h) d_State_become_1 4 rfl (.ref (ad 9 b)) rfl ?_
  refine z_iconst S d_State_become_4 0 (by decide) 5 rfl ?_
  refine z_aload_n S d_State_become_5 rfl 0 rfl 6 rfl ?_
  refine z_get S hK hin_State ma kC_8 rfl 0 (Nat.le_of_ble_eq_true rfl) (ht _ w_65) (fun _ h => h) d_State_become_6 9 rfl (.ref (ad 9 a)) rfl ?_
  refine z_iconst S d_State_become_9 0 (by decide) 10 rfl ?_
  refine z_iconst S d_State_become_10 4 (by decide) 11 rfl ?_
  refine z_copyi S hJ hK (ht _ w_368) (ht _ w_370) (ht _ w_369) (ht _ w_12) (rl_s9 mb) (rl_s9 ma) 0 0 kC_9 kC_9 rfl rfl rfl (by decide) (by decide) (by decide) (by decide) (by decide) (fun _ _ => rfl) (Nat.le_of_ble_eq_true rfl) (Nat.le_of_ble_eq_true rfl) upA_9 d_State_become_11 14 rfl ?_
  refine z_aload_n S d_State_become_14 rfl 1 rfl 15 rfl ?_
  refine z_get S hK hin_State mb kC_8 rfl 1 (Nat.le_of_ble_eq_true rfl) (ht _ w_67) (fun _ h => h) d_State_become_15 18 rfl (.ref (ad 13 b)) rfl ?_
  refine z_iconst S d_State_become_18 0 (by decide) 19 rfl ?_
  refine z_aload_n S d_State_become_19 rfl 0 rfl 20 rfl ?_
  refine z_get S hK hin_State ma kC_8 rfl 1 (Nat.le_of_ble_eq_true rfl) (ht _ w_67) (fun _ h => h) d_State_become_20 23 rfl (.ref (ad 13 a)) rfl ?_
  refine z_iconst S d_State_become_23 0 (by decide) 24 rfl ?_
  refine z_iconst S d_State_become_24 3 (by decide) 25 rfl ?_
  refine z_copyi S hJ hK (ht _ w_368) (ht _ w_370) (ht _ w_369) (ht _ w_12) (rl_s13 mb) (rl_s13 ma) 0 0 kC_13 kC_13 rfl rfl rfl (by decide) (by decide) (by decide) (by decide) (by decide) (fun _ _ => rfl) (Nat.le_of_ble_eq_true rfl) (Nat.le_of_ble_eq_true rfl) upA_13 d_State_become_25 28 rfl ?_
  refine z_aload_n S d_State_become_28 rfl 1 rfl 29 rfl ?_
  refine z_get S hK hin_State mb kC_8 rfl 2 (Nat.le_of_ble_eq_true rfl) (ht _ w_69) (fun _ h => h) d_State_become_29 32 rfl (.ref (ad 14 b)) rfl ?_
  refine z_iconst S d_State_become_32 0 (by decide) 33 rfl ?_
  refine z_aload_n S d_State_become_33 rfl 0 rfl 34 rfl ?_
  refine z_get S hK hin_State ma kC_8 rfl 2 (Nat.le_of_ble_eq_true rfl) (ht _ w_69) (fun _ h => h) d_State_become_34 37 rfl (.ref (ad 14 a)) rfl ?_
  refine z_iconst S d_State_become_37 0 (by decide) 38 rfl ?_
  refine z_iconst S d_State_become_38 3 (by decide) 39 rfl ?_
  refine z_copyi S hJ hK (ht _ w_368) (ht _ w_370) (ht _ w_369) (ht _ w_12) (rl_s14 mb) (rl_s14 ma) 0 0 kC_14 kC_14 rfl rfl rfl (by decide) (by decide) (by decide) (by decide) (by decide) (fun _ _ => rfl) (Nat.le_of_ble_eq_true rfl) (Nat.le_of_ble_eq_true rfl) upA_14 d_State_become_39 42 rfl ?_
  refine z_aload_n S d_State_become_42 rfl 0 rfl 43 rfl ?_
  refine z_aload_n S d_State_become_43 rfl 1 rfl 44 rfl ?_
  refine z_get S hK hin_State mb kC_8 rfl 3 (Nat.le_of_ble_eq_true rfl) (ht _ w_71) (fun _ h => h) d_State_become_44 47 rfl (.int (s 8 3 b)) rfl ?_
  refine z_put S hJ hK hin_State t_State ok_State nm_State ma kC_8 rfl 3 (Nat.le_of_ble_eq_true rfl) (ht _ w_71) (fun _ h => h) rfl rfl rfl (Nat.le_of_ble_eq_true rfl) up_8_3 d_State_become_47 50 rfl ?_
  exact z_vret S hr hlk d_State_become_50 (kC_eq rfl)
theorem d_State_doWrite_0 : decode prog_8_method_3_code 0 = .ok (.aload_n 0, 1) := by decide +kernel
theorem d_State_doWrite_1 : decode prog_8_method_3_code 1 = .ok (.getfield 18, 3) := by decide +kernel
theorem d_State_doWrite_4 : decode prog_8_method_3_code 4 = .ok (.aload_n 1, 1) := by decide +kernel
theorem d_State_doWrite_5 : decode prog_8_method_3_code 5 = .ok (.getfield 31, 3) := by decide +kernel
theorem d_State_doWrite_8 : decode prog_8_method_3_code 8 = .ok (.aload_n 0, 1) := by decide +kernel
theorem d_State_doWrite_9 : decode prog_8_method_3_code 9 = .ok (.getfield 9, 3) := by decide +kernel
theorem d_State_doWrite_12 : decode prog_8_method_3_code 12 = .ok (.aload_n 1, 1) := by decide +kernel
theorem d_State_doWrite_13 : decode prog_8_method_3_code 13 = .ok (.getfield 36, 3) := by decide +kernel
theorem d_State_doWrite_16 : decode prog_8_method_3_code 16 = .ok (.iaload, 1) := by decide +kernel
theorem d_State_doWrite_17 : decode prog_8_method_3_code 17 = .ok (.iastore, 1) := by decide +kernel
theorem d_State_doWrite_18 : decode prog_8_method_3_code 18 = .ok (.aload_n 0, 1) := by decide +kernel
theorem d_State_doWrite_19 : decode prog_8_method_3_code 19 = .ok (.getfield 9, 3) := by decide +kernel
theorem d_State_doWrite_22 : decode prog_8_method_3_code 22 = .ok (.aload_n 1, 1) := by decide +kernel
theorem d_State_doWrite_23 : decode prog_8_method_3_code 23 = .ok (.getfield 36, 3) := by decide +kernel
theorem d_State_doWrite_26 : decode prog_8_method_3_code 26 = .ok (.aload_n 1, 1) := by decide +kernel
theorem d_State_doWrite_27 : decode prog_8_method_3_code 27 = .ok (.getfield 39, 3) := by decide +kernel
theorem d_State_doWrite_30 : decode prog_8_method_3_code 30 = .ok (.iastore, 1) := by decide +kernel
theorem d_State_doWrite_31 : decode prog_8_method_3_code 31 = .ok (.aload_n 0, 1) := by decide +kernel
theorem d_State_doWrite_32 : decode prog_8_method_3_code 32 = .ok (.getfield 15, 3) := by decide +kernel
theorem d_State_doWrite_35 : decode prog_8_method_3_code 35 = .ok (.aload_n 1, 1) := by decide +kernel
theorem d_State_doWrite_36 : decode prog_8_method_3_code 36 = .ok (.getfield 31, 3) := by decide +kernel
theorem d_State_doWrite_39 : decode prog_8_method_3_code 39 = .ok (.aload_n 1, 1) := by decide +kernel
theorem d_State_doWrite_40 : decode prog_8_method_3_code 40 = .ok (.getfield 42, 3) := by decide +kernel
theorem d_State_doWrite_43 : decode prog_8_method_3_code 43 = .ok (.iastore, 1) := by decide +kernel
theorem d_State_doWrite_44 : decode prog_8_method_3_code 44 = .ok (.aload_n 0, 1) := by decide +kernel
theorem d_State_doWrite_45 : decode prog_8_method_3_code 45 = .ok (.dup, 1) := by decide +kernel
theorem d_State_doWrite_46 : decode prog_8_method_3_code 46 = .ok (.getfield 21, 3) := by decide +kernel
theorem d_State_doWrite_49 : decode prog_8_method_3_code 49 = .ok (.iconst 1, 1) := by decide +kernel
theorem d_State_doWrite_50 : decode prog_8_method_3_code 50 = .ok (.iadd, 1) := by decide +kernel
theorem d_State_doWrite_51 : decode prog_8_method_3_code 51 = .ok (.putfield 21, 3) := by decide +kernel
theorem d_State_doWrite_54 : decode prog_8_method_3_code 54 = .ok (.return_, 1) := by decide +kernel
def S_State_doWrite (π : Nat → Nat) (s : S3) (a : Nat) (w : Nat) : S3 := u3 (u3 (u3 (u3 s 14 a ((s 7 0 w).toNatClampNeg) (s 9 a ((s 7 3 w).toNatClampNeg))) 9 a ((s 7 3 w).toNatClampNeg) (s 7 4 w)) 13 a ((s 7 0 w).toNatClampNeg) (s 7 1 w)) 8 3 a ((s 8 3 a) + 1)
set_option maxHeartbeats 4000000 in
set_option maxRecDepth 100000 in
theorem c_State_doWrite {l : Launch} {D : va_G} {K : Nat → ClassId} {ad : Nat → Nat → Nat} {n : Nat} {π : Nat → Nat} {s : S3} {a w : Nat} (hJ : zw_J (cRL n) ad) (ma : (8, a) ∈ cRL n) (mw : (7, w) ∈ cRL n) (h0 : vp_in (s 7 0 w) 3) (h3 : vp_in (s 7 3 w) 4) : zM l y_State_doWrite ws_State_doWrite ({ frames := 0, cells := 0, slots := 0, locals := 0 }) D zCl (zTys K) (cRL n) ad [.ref (ad 8 a), .ref (ad 7 w)] (kC K ad n s π) (none) (kC K ad n (S_State_doWrite π s a w) π) := by
  refine zM.of (cc := prog_8_method_3_code) (maxL := 2) (ret := (Option.none : Option Jvm.ClassFile.FieldType)) (by decide) rfl (Nat.le_of_ble_eq_true rfl) ?_
  intro pP eE U mM bL mT cO S hr hlk hK
  have hts := S.2.2.2.2
  have ht := fun w h => hts w (List.mem_cons_of_mem _ h)
  refine z_aload_n S d_State_doWrite_0 rfl 0 rfl 1 rfl ?_
  refine z_get S hK hin_State ma kC_8 rfl 2 (Nat.le_of_ble_eq_true rfl) (ht _ w_69) (fun _ h => h) d_State_doWrite_1 4 rfl (.ref (ad 14 a)) rfl ?_
  refine z_aload_n S d_State_doWrite_4 rfl 1 rfl 5 rfl ?_
  refine z_get S hK hin_Operation mw kC_7 rfl 0 (Nat.le_of_ble_eq_true rfl) (ht _ w_91) (fun _ h => h) d_State_doWrite_5 8 rfl (.int (s 7 0 w)) rfl ?_
  refine z_aload_n S d_State_doWrite_8 rfl 0 rfl 9 rfl ?_
  refine z_get S hK hin_State ma kC_8 rfl 0 (Nat.le_of_ble_eq_true rfl) (ht _ w_65) (fun _ h => h) d_State_doWrite_9 12 rfl (.ref (ad 9 a)) rfl ?_
  refine z_aload_n S d_State_doWrite_12 rfl 1 rfl 13 rfl ?_
  refine z_get S hK hin_Operation mw kC_7 rfl 3 (Nat.le_of_ble_eq_true rfl) (ht _ w_102) (fun _ h => h) d_State_doWrite_13 16 rfl (.int (s 7 3 w)) rfl ?_
  refine z_iald S hK (rl_s9 ma) 0 kC_9 rfl h3 d_State_doWrite_16 17 rfl (s 9 a ((s 7 3 w).toNatClampNeg)) rfl ?_
  refine z_iast S hJ hK (rl_s14 ma) 0 kC_14 rfl h0 rfl upI_14 d_State_doWrite_17 18 rfl ?_
  refine z_aload_n S d_State_doWrite_18 rfl 0 rfl 19 rfl ?_
  refine z_get S hK hin_State ma kC_8 rfl 0 (Nat.le_of_ble_eq_true rfl) (ht _ w_65) (fun _ h => h) d_State_doWrite_19 22 rfl (.ref (ad 9 a)) rfl ?_
  refine z_aload_n S d_State_doWrite_22 rfl 1 rfl 23 rfl ?_
  refine z_get S hK hin_Operation mw kC_7 rfl 3 (Nat.le_of_ble_eq_true rfl) (ht _ w_102) (fun _ h => h) d_State_doWrite_23 26 rfl (.int (s 7 3 w)) rfl ?_
  refine z_aload_n S d_State_doWrite_26 rfl 1 rfl 27 rfl ?_
  refine z_get S hK hin_Operation mw kC_7 rfl 4 (Nat.le_of_ble_eq_true rfl) (ht _ w_106) (fun _ h => h) d_State_doWrite_27 30 rfl (.int (s 7 4 w)) rfl ?_
  refine z_iast S hJ hK (rl_s9 ma) 0 kC_9 rfl h3 rfl upI_9 d_State_doWrite_30 31 rfl ?_
  refine z_aload_n S d_State_doWrite_31 rfl 0 rfl 32 rfl ?_
  refine z_get S hK hin_State ma kC_8 rfl 1 (Nat.le_of_ble_eq_true rfl) (ht _ w_67) (fun _ h => h) d_State_doWrite_32 35 rfl (.ref (ad 13 a)) rfl ?_
  refine z_aload_n S d_State_doWrite_35 rfl 1 rfl 36 rfl ?_
  refine z_get S hK hin_Operation mw kC_7 rfl 0 (Nat.le_of_ble_eq_true rfl) (ht _ w_91) (fun _ h => h) d_State_doWrite_36 39 rfl (.int (s 7 0 w)) rfl ?_
  refine z_aload_n S d_State_doWrite_39 rfl 1 rfl 40 rfl ?_
  refine z_get S hK hin_Operation mw kC_7 rfl 1 (Nat.le_of_ble_eq_true rfl) (ht _ w_95) (fun _ h => h) d_State_doWrite_40 43 rfl (.int (s 7 1 w)) rfl ?_
  refine z_iast S hJ hK (rl_s13 ma) 0 kC_13 rfl h0 rfl upI_13 d_State_doWrite_43 44 rfl ?_
  refine z_aload_n S d_State_doWrite_44 rfl 0 rfl 45 rfl ?_
  refine z_dup S d_State_doWrite_45 rfl 46 rfl ?_
  refine z_get S hK hin_State ma kC_8 rfl 3 (Nat.le_of_ble_eq_true rfl) (ht _ w_71) (fun _ h => h) d_State_doWrite_46 49 rfl (.int (s 8 3 a)) rfl ?_
  refine z_iconst S d_State_doWrite_49 1 (by decide) 50 rfl ?_
  refine z_iadd S d_State_doWrite_50 51 rfl ?_
  refine z_put S hJ hK hin_State t_State ok_State nm_State ma kC_8 rfl 3 (Nat.le_of_ble_eq_true rfl) (ht _ w_71) (fun _ h => h) rfl rfl rfl (Nat.le_of_ble_eq_true rfl) up_8_3 d_State_doWrite_51 54 rfl ?_
  exact z_vret S hr hlk d_State_doWrite_54 (kC_eq rfl)
theorem d_Server_isPrimary_0 : decode prog_6_method_2_code 0 = .ok (.aload_n 0, 1) := by decide +kernel
theorem d_Server_isPrimary_1 : decode prog_6_method_2_code 1 = .ok (.getfield 12, 3) := by decide +kernel
theorem d_Server_isPrimary_4 : decode prog_6_method_2_code 4 = .ok (.getfield 55, 3) := by decide +kernel
theorem d_Server_isPrimary_7 : decode prog_6_method_2_code 7 = .ok (.aload_n 0, 1) := by decide +kernel
theorem d_Server_isPrimary_8 : decode prog_6_method_2_code 8 = .ok (.getfield 52, 3) := by decide +kernel
theorem d_Server_isPrimary_11 : decode prog_6_method_2_code 11 = .ok (.if_icmp .ne 7, 3) := by decide +kernel
theorem d_Server_isPrimary_14 : decode prog_6_method_2_code 14 = .ok (.iconst 1, 1) := by decide +kernel
theorem d_Server_isPrimary_15 : decode prog_6_method_2_code 15 = .ok (.goto 4, 3) := by decide +kernel
theorem d_Server_isPrimary_18 : decode prog_6_method_2_code 18 = .ok (.iconst 0, 1) := by decide +kernel
theorem d_Server_isPrimary_19 : decode prog_6_method_2_code 19 = .ok (.ireturn, 1) := by decide +kernel
def v_Server_isPrimary (x0 : Int32) (x1 : Int32)  : Int32 := if (x0) = (x1) then 1 else 0
theorem zbv_Server_isPrimary {x0 : Int32} {x1 : Int32}  : zb (v_Server_isPrimary x0 x1 ) := by
  unfold v_Server_isPrimary zb
  repeat' split
  all_goals simp
set_option maxHeartbeats 4000000 in
set_option maxRecDepth 100000 in
theorem c_Server_isPrimary {l : Launch} {D : va_G} {K : Nat → ClassId} {ad : Nat → Nat → Nat} {n : Nat} {π : Nat → Nat} {s : S3} {i : Nat} (hJ : zw_J (cRL n) ad) (mi : (1, i) ∈ cRL n) : zM l y_Server_isPrimary ws_Server_isPrimary ({ frames := 0, cells := 0, slots := 0, locals := 0 }) D zCl (zTys K) (cRL n) ad [.ref (ad 1 i)] (kC K ad n s π) (some (.int (v_Server_isPrimary (s 6 1 i) (s 1 0 i)))) (kC K ad n (s) π) := by
  refine zM.of (cc := prog_6_method_2_code) (maxL := 1) (ret := (Option.some Jvm.ClassFile.FieldType.boolean)) (by decide) rfl (Nat.le_of_ble_eq_true rfl) ?_
  intro pP eE U mM bL mT cO S hr hlk hK
  have hts := S.2.2.2.2
  have ht := fun w h => hts w (List.mem_cons_of_mem _ h)
  refine z_aload_n S d_Server_isPrimary_0 rfl 0 rfl 1 rfl ?_
  refine z_get S hK hin_Server mi kC_1 rfl 1 (Nat.le_of_ble_eq_true rfl) (ht _ w_119) (fun _ h => h) d_Server_isPrimary_1 4 rfl (.ref (ad 6 i)) rfl ?_
  refine z_get S hK hin_View (rl_sv mi) kC_6 rfl 1 (Nat.le_of_ble_eq_true rfl) (ht _ w_45) (fun _ h => h) d_Server_isPrimary_4 7 rfl (.int (s 6 1 i)) rfl ?_
  refine z_aload_n S d_Server_isPrimary_7 rfl 0 rfl 8 rfl ?_
  refine z_get S hK hin_Server mi kC_1 rfl 0 (Nat.le_of_ble_eq_true rfl) (ht _ w_118) (fun _ h => h) d_Server_isPrimary_8 11 rfl (.int (s 1 0 i)) rfl ?_
  refine z_icmp_ne S d_Server_isPrimary_11 18 (by decide) 14 rfl (fun h1 => ?_) (fun h1 => ?_)
  · refine z_iconst S d_Server_isPrimary_18 0 (by decide) 19 rfl ?_
    exact z_zret S hr (zb_n zb_0) hlk d_Server_isPrimary_19 (by unfold v_Server_isPrimary; simp only [if_neg h1]) rfl
  · refine z_iconst S d_Server_isPrimary_14 1 (by decide) 15 rfl ?_
    refine z_goto S d_Server_isPrimary_15 19 (by decide) ?_
    exact z_zret S hr (zb_n zb_1) hlk d_Server_isPrimary_19 (by unfold v_Server_isPrimary; simp only [if_pos h1]) rfl
theorem d_Server_confirmedNumber_0 : decode prog_6_method_5_code 0 = .ok (.aload_n 0, 1) := by decide +kernel
theorem d_Server_confirmedNumber_1 : decode prog_6_method_5_code 1 = .ok (.invokevirtual 64, 3) := by decide +kernel
theorem d_Server_confirmedNumber_4 : decode prog_6_method_5_code 4 = .ok (.ifCond .eq 14, 3) := by decide +kernel
theorem d_Server_confirmedNumber_7 : decode prog_6_method_5_code 7 = .ok (.aload_n 0, 1) := by decide +kernel
theorem d_Server_confirmedNumber_8 : decode prog_6_method_5_code 8 = .ok (.getfield 43, 3) := by decide +kernel
theorem d_Server_confirmedNumber_11 : decode prog_6_method_5_code 11 = .ok (.ifCond .ne 7, 3) := by decide +kernel
theorem d_Server_confirmedNumber_14 : decode prog_6_method_5_code 14 = .ok (.iconst 0, 1) := by decide +kernel
theorem d_Server_confirmedNumber_15 : decode prog_6_method_5_code 15 = .ok (.goto 10, 3) := by decide +kernel
theorem d_Server_confirmedNumber_18 : decode prog_6_method_5_code 18 = .ok (.aload_n 0, 1) := by decide +kernel
theorem d_Server_confirmedNumber_19 : decode prog_6_method_5_code 19 = .ok (.getfield 12, 3) := by decide +kernel
theorem d_Server_confirmedNumber_22 : decode prog_6_method_5_code 22 = .ok (.getfield 58, 3) := by decide +kernel
theorem d_Server_confirmedNumber_25 : decode prog_6_method_5_code 25 = .ok (.ireturn, 1) := by decide +kernel
def v_Server_confirmedNumber (x0 : Int32) (x1 : Int32) (x2 : Int32) (x3 : Int32)  : Int32 := if (v_Server_isPrimary (x0) (x1)) = 0 then (x2) else if (x3) = 0 then 0 else (x2)
set_option maxHeartbeats 4000000 in
set_option maxRecDepth 100000 in
theorem c_Server_confirmedNumber {l : Launch} {D : va_G} {K : Nat → ClassId} {ad : Nat → Nat → Nat} {n : Nat} {π : Nat → Nat} {s : S3} {i : Nat} (hJ : zw_J (cRL n) ad) (mi : (1, i) ∈ cRL n) : zM l y_Server_confirmedNumber ws_Server_confirmedNumber ({ frames := 1, cells := 0, slots := 0, locals := 20 }) D zCl (zTys K) (cRL n) ad [.ref (ad 1 i)] (kC K ad n s π) (some (.int (v_Server_confirmedNumber (s 6 1 i) (s 1 0 i) (s 6 0 i) (s 1 7 i)))) (kC K ad n (s) π) := by
  refine zM.of (cc := prog_6_method_5_code) (maxL := 1) (ret := (Option.some Jvm.ClassFile.FieldType.int)) (by decide) rfl (Nat.le_of_ble_eq_true rfl) ?_
  intro pP eE U mM bL mT cO S hr hlk hK
  have hts := S.2.2.2.2
  have ht := fun w h => hts w (List.mem_cons_of_mem _ h)
  refine z_aload_n S d_Server_confirmedNumber_0 rfl 0 rfl 1 rfl ?_
  refine z_callV S hK (As := []) (rest := []) (c_Server_isPrimary (i := i) hJ mi) (cw_Server_isPrimary hts w_318 rfl rfl ⟨(Nat.le_of_ble_eq_true rfl), (Nat.le_of_ble_eq_true rfl)⟩) mi kC_1 rfl rfl rfl (Nat.le_of_ble_eq_true rfl) d_Server_confirmedNumber_1 4 rfl [.int (v_Server_isPrimary (s 6 1 i) (s 1 0 i))] rfl ?_
  refine z_if_eq S d_Server_confirmedNumber_4 18 (by decide) 7 rfl (fun h1 => ?_) (fun h1 => ?_)
  · refine z_aload_n S d_Server_confirmedNumber_18 rfl 0 rfl 19 rfl ?_
    refine z_get S hK hin_Server mi kC_1 rfl 1 (Nat.le_of_ble_eq_true rfl) (ht _ w_119) (fun _ h => h) d_Server_confirmedNumber_19 22 rfl (.ref (ad 6 i)) rfl ?_
    refine z_get S hK hin_View (rl_sv mi) kC_6 rfl 0 (Nat.le_of_ble_eq_true rfl) (ht _ w_42) (fun _ h => h) d_Server_confirmedNumber_22 25 rfl (.int (s 6 0 i)) rfl ?_
    exact z_iret S hr hlk d_Server_confirmedNumber_25 (by unfold v_Server_confirmedNumber; simp only [if_pos h1]) rfl
  · refine z_aload_n S d_Server_confirmedNumber_7 rfl 0 rfl 8 rfl ?_
    refine z_get S hK hin_Server mi kC_1 rfl 7 (Nat.le_of_ble_eq_true rfl) (ht _ w_131) (fun _ h => h) d_Server_confirmedNumber_8 11 rfl (.int (s 1 7 i)) rfl ?_
    refine z_if_ne S d_Server_confirmedNumber_11 18 (by decide) 14 rfl (fun h2 => ?_) (fun h2 => ?_)
    · refine z_aload_n S d_Server_confirmedNumber_18 rfl 0 rfl 19 rfl ?_
      refine z_get S hK hin_Server mi kC_1 rfl 1 (Nat.le_of_ble_eq_true rfl) (ht _ w_119) (fun _ h => h) d_Server_confirmedNumber_19 22 rfl (.ref (ad 6 i)) rfl ?_
      refine z_get S hK hin_View (rl_sv mi) kC_6 rfl 0 (Nat.le_of_ble_eq_true rfl) (ht _ w_42) (fun _ h => h) d_Server_confirmedNumber_22 25 rfl (.int (s 6 0 i)) rfl ?_
      exact z_iret S hr hlk d_Server_confirmedNumber_25 (by unfold v_Server_confirmedNumber; simp only [if_neg h1, if_neg h2]) rfl
    · refine z_iconst S d_Server_confirmedNumber_14 0 (by decide) 15 rfl ?_
      refine z_goto S d_Server_confirmedNumber_15 25 (by decide) ?_
      exact z_iret S hr hlk d_Server_confirmedNumber_25 (by unfold v_Server_confirmedNumber; simp only [if_neg h1, if_pos h2]) rfl
theorem d_Server_liveRole_0 : decode prog_6_method_6_code 0 = .ok (.aload_n 0, 1) := by decide +kernel
theorem d_Server_liveRole_1 : decode prog_6_method_6_code 1 = .ok (.getfield 12, 3) := by decide +kernel
theorem d_Server_liveRole_4 : decode prog_6_method_6_code 4 = .ok (.getfield 58, 3) := by decide +kernel
theorem d_Server_liveRole_7 : decode prog_6_method_6_code 7 = .ok (.ifCond .ne 5, 3) := by decide +kernel
theorem d_Server_liveRole_10 : decode prog_6_method_6_code 10 = .ok (.iconst 0, 1) := by decide +kernel
theorem d_Server_liveRole_11 : decode prog_6_method_6_code 11 = .ok (.ireturn, 1) := by decide +kernel
theorem d_Server_liveRole_12 : decode prog_6_method_6_code 12 = .ok (.aload_n 0, 1) := by decide +kernel
theorem d_Server_liveRole_13 : decode prog_6_method_6_code 13 = .ok (.getfield 12, 3) := by decide +kernel
theorem d_Server_liveRole_16 : decode prog_6_method_6_code 16 = .ok (.getfield 55, 3) := by decide +kernel
theorem d_Server_liveRole_19 : decode prog_6_method_6_code 19 = .ok (.aload_n 0, 1) := by decide +kernel
theorem d_Server_liveRole_20 : decode prog_6_method_6_code 20 = .ok (.getfield 52, 3) := by decide +kernel
theorem d_Server_liveRole_23 : decode prog_6_method_6_code 23 = .ok (.if_icmp .ne 25, 3) := by decide +kernel
theorem d_Server_liveRole_26 : decode prog_6_method_6_code 26 = .ok (.aload_n 0, 1) := by decide +kernel
theorem d_Server_liveRole_27 : decode prog_6_method_6_code 27 = .ok (.getfield 43, 3) := by decide +kernel
theorem d_Server_liveRole_30 : decode prog_6_method_6_code 30 = .ok (.ifCond .ne 5, 3) := by decide +kernel
theorem d_Server_liveRole_33 : decode prog_6_method_6_code 33 = .ok (.iconst 2, 1) := by decide +kernel
theorem d_Server_liveRole_34 : decode prog_6_method_6_code 34 = .ok (.ireturn, 1) := by decide +kernel
theorem d_Server_liveRole_35 : decode prog_6_method_6_code 35 = .ok (.aload_n 0, 1) := by decide +kernel
theorem d_Server_liveRole_36 : decode prog_6_method_6_code 36 = .ok (.getfield 46, 3) := by decide +kernel
theorem d_Server_liveRole_39 : decode prog_6_method_6_code 39 = .ok (.ifCond .eq 7, 3) := by decide +kernel
theorem d_Server_liveRole_42 : decode prog_6_method_6_code 42 = .ok (.iconst 3, 1) := by decide +kernel
theorem d_Server_liveRole_43 : decode prog_6_method_6_code 43 = .ok (.goto 4, 3) := by decide +kernel
theorem d_Server_liveRole_46 : decode prog_6_method_6_code 46 = .ok (.iconst 1, 1) := by decide +kernel
theorem d_Server_liveRole_47 : decode prog_6_method_6_code 47 = .ok (.ireturn, 1) := by decide +kernel
theorem d_Server_liveRole_48 : decode prog_6_method_6_code 48 = .ok (.aload_n 0, 1) := by decide +kernel
theorem d_Server_liveRole_49 : decode prog_6_method_6_code 49 = .ok (.getfield 12, 3) := by decide +kernel
theorem d_Server_liveRole_52 : decode prog_6_method_6_code 52 = .ok (.getfield 61, 3) := by decide +kernel
theorem d_Server_liveRole_55 : decode prog_6_method_6_code 55 = .ok (.aload_n 0, 1) := by decide +kernel
theorem d_Server_liveRole_56 : decode prog_6_method_6_code 56 = .ok (.getfield 52, 3) := by decide +kernel
theorem d_Server_liveRole_59 : decode prog_6_method_6_code 59 = .ok (.if_icmp .ne 16, 3) := by decide +kernel
theorem d_Server_liveRole_62 : decode prog_6_method_6_code 62 = .ok (.aload_n 0, 1) := by decide +kernel
theorem d_Server_liveRole_63 : decode prog_6_method_6_code 63 = .ok (.getfield 49, 3) := by decide +kernel
theorem d_Server_liveRole_66 : decode prog_6_method_6_code 66 = .ok (.ifCond .eq 7, 3) := by decide +kernel
theorem d_Server_liveRole_69 : decode prog_6_method_6_code 69 = .ok (.iconst 4, 1) := by decide +kernel
theorem d_Server_liveRole_70 : decode prog_6_method_6_code 70 = .ok (.goto 4, 3) := by decide +kernel
theorem d_Server_liveRole_73 : decode prog_6_method_6_code 73 = .ok (.iconst 5, 1) := by decide +kernel
theorem d_Server_liveRole_74 : decode prog_6_method_6_code 74 = .ok (.ireturn, 1) := by decide +kernel
theorem d_Server_liveRole_75 : decode prog_6_method_6_code 75 = .ok (.bipush 6, 2) := by decide +kernel
theorem d_Server_liveRole_77 : decode prog_6_method_6_code 77 = .ok (.ireturn, 1) := by decide +kernel
def v_Server_liveRole (x0 : Int32) (x1 : Int32) (x2 : Int32) (x3 : Int32) (x4 : Int32) (x5 : Int32) (x6 : Int32)  : Int32 := if (x0) = 0 then 0 else if (x1) = (x2) then (if (x3) = 0 then 2 else if (x4) = 0 then 1 else 3) else if (x5) = (x2) then (if (x6) = 0 then 5 else 4) else 6
set_option maxHeartbeats 4000000 in
set_option maxRecDepth 100000 in
theorem c_Server_liveRole {l : Launch} {D : va_G} {K : Nat → ClassId} {ad : Nat → Nat → Nat} {n : Nat} {π : Nat → Nat} {s : S3} {i : Nat} (hJ : zw_J (cRL n) ad) (mi : (1, i) ∈ cRL n) : zM l y_Server_liveRole ws_Server_liveRole ({ frames := 0, cells := 0, slots := 0, locals := 0 }) D zCl (zTys K) (cRL n) ad [.ref (ad 1 i)] (kC K ad n s π) (some (.int (v_Server_liveRole (s 6 0 i) (s 6 1 i) (s 1 0 i) (s 1 7 i) (s 1 8 i) (s 6 2 i) (s 1 9 i)))) (kC K ad n (s) π) := by
  refine zM.of (cc := prog_6_method_6_code) (maxL := 1) (ret := (Option.some Jvm.ClassFile.FieldType.int)) (by decide) rfl (Nat.le_of_ble_eq_true rfl) ?_
  intro pP eE U mM bL mT cO S hr hlk hK
  have hts := S.2.2.2.2
  have ht := fun w h => hts w (List.mem_cons_of_mem _ h)
  refine z_aload_n S d_Server_liveRole_0 rfl 0 rfl 1 rfl ?_
  refine z_get S hK hin_Server mi kC_1 rfl 1 (Nat.le_of_ble_eq_true rfl) (ht _ w_119) (fun _ h => h) d_Server_liveRole_1 4 rfl (.ref (ad 6 i)) rfl ?_
  refine z_get S hK hin_View (rl_sv mi) kC_6 rfl 0 (Nat.le_of_ble_eq_true rfl) (ht _ w_42) (fun _ h => h) d_Server_liveRole_4 7 rfl (.int (s 6 0 i)) rfl ?_
  refine z_if_ne S d_Server_liveRole_7 12 (by decide) 10 rfl (fun h1 => ?_) (fun h1 => ?_)
  · refine z_aload_n S d_Server_liveRole_12 rfl 0 rfl 13 rfl ?_
    refine z_get S hK hin_Server mi kC_1 rfl 1 (Nat.le_of_ble_eq_true rfl) (ht _ w_119) (fun _ h => h) d_Server_liveRole_13 16 rfl (.ref (ad 6 i)) rfl ?_
    refine z_get S hK hin_View (rl_sv mi) kC_6 rfl 1 (Nat.le_of_ble_eq_true rfl) (ht _ w_45) (fun _ h => h) d_Server_liveRole_16 19 rfl (.int (s 6 1 i)) rfl ?_
    refine z_aload_n S d_Server_liveRole_19 rfl 0 rfl 20 rfl ?_
    refine z_get S hK hin_Server mi kC_1 rfl 0 (Nat.le_of_ble_eq_true rfl) (ht _ w_118) (fun _ h => h) d_Server_liveRole_20 23 rfl (.int (s 1 0 i)) rfl ?_
    refine z_icmp_ne S d_Server_liveRole_23 48 (by decide) 26 rfl (fun h2 => ?_) (fun h2 => ?_)
    · refine z_aload_n S d_Server_liveRole_48 rfl 0 rfl 49 rfl ?_
      refine z_get S hK hin_Server mi kC_1 rfl 1 (Nat.le_of_ble_eq_true rfl) (ht _ w_119) (fun _ h => h) d_Server_liveRole_49 52 rfl (.ref (ad 6 i)) rfl ?_
      refine z_get S hK hin_View (rl_sv mi) kC_6 rfl 2 (Nat.le_of_ble_eq_true rfl) (ht _ w_50) (fun _ h => h) d_Server_liveRole_52 55 rfl (.int (s 6 2 i)) rfl ?_
      refine z_aload_n S d_Server_liveRole_55 rfl 0 rfl 56 rfl ?_
      refine z_get S hK hin_Server mi kC_1 rfl 0 (Nat.le_of_ble_eq_true rfl) (ht _ w_118) (fun _ h => h) d_Server_liveRole_56 59 rfl (.int (s 1 0 i)) rfl ?_
      refine z_icmp_ne S d_Server_liveRole_59 75 (by decide) 62 rfl (fun h3 => ?_) (fun h3 => ?_)
      · refine z_bipush S d_Server_liveRole_75 6 (by decide) 77 rfl ?_
        exact z_iret S hr hlk d_Server_liveRole_77 (by unfold v_Server_liveRole; simp only [if_neg h1, if_neg h2, if_neg h3]) rfl
      · refine z_aload_n S d_Server_liveRole_62 rfl 0 rfl 63 rfl ?_
        refine z_get S hK hin_Server mi kC_1 rfl 9 (Nat.le_of_ble_eq_true rfl) (ht _ w_135) (fun _ h => h) d_Server_liveRole_63 66 rfl (.int (s 1 9 i)) rfl ?_
        refine z_if_eq S d_Server_liveRole_66 73 (by decide) 69 rfl (fun h4 => ?_) (fun h4 => ?_)
        · refine z_iconst S d_Server_liveRole_73 5 (by decide) 74 rfl ?_
          exact z_iret S hr hlk d_Server_liveRole_74 (by unfold v_Server_liveRole; simp only [if_neg h1, if_neg h2, if_pos h3, if_pos h4]) rfl
        · refine z_iconst S d_Server_liveRole_69 4 (by decide) 70 rfl ?_
          refine z_goto S d_Server_liveRole_70 74 (by decide) ?_
          exact z_iret S hr hlk d_Server_liveRole_74 (by unfold v_Server_liveRole; simp only [if_neg h1, if_neg h2, if_pos h3, if_neg h4]) rfl
    · refine z_aload_n S d_Server_liveRole_26 rfl 0 rfl 27 rfl ?_
      refine z_get S hK hin_Server mi kC_1 rfl 7 (Nat.le_of_ble_eq_true rfl) (ht _ w_131) (fun _ h => h) d_Server_liveRole_27 30 rfl (.int (s 1 7 i)) rfl ?_
      refine z_if_ne S d_Server_liveRole_30 35 (by decide) 33 rfl (fun h5 => ?_) (fun h5 => ?_)
      · refine z_aload_n S d_Server_liveRole_35 rfl 0 rfl 36 rfl ?_
        refine z_get S hK hin_Server mi kC_1 rfl 8 (Nat.le_of_ble_eq_true rfl) (ht _ w_133) (fun _ h => h) d_Server_liveRole_36 39 rfl (.int (s 1 8 i)) rfl ?_
        refine z_if_eq S d_Server_liveRole_39 46 (by decide) 42 rfl (fun h6 => ?_) (fun h6 => ?_)
        · refine z_iconst S d_Server_liveRole_46 1 (by decide) 47 rfl ?_
          exact z_iret S hr hlk d_Server_liveRole_47 (by unfold v_Server_liveRole; simp only [if_neg h1, if_pos h2, if_neg h5, if_pos h6]) rfl
        · refine z_iconst S d_Server_liveRole_42 3 (by decide) 43 rfl ?_
          refine z_goto S d_Server_liveRole_43 47 (by decide) ?_
          exact z_iret S hr hlk d_Server_liveRole_47 (by unfold v_Server_liveRole; simp only [if_neg h1, if_pos h2, if_neg h5, if_neg h6]) rfl
      · refine z_iconst S d_Server_liveRole_33 2 (by decide) 34 rfl ?_
        exact z_iret S hr hlk d_Server_liveRole_34 (by unfold v_Server_liveRole; simp only [if_neg h1, if_pos h2, if_pos h5]) rfl
  · refine z_iconst S d_Server_liveRole_10 0 (by decide) 11 rfl ?_
    exact z_iret S hr hlk d_Server_liveRole_11 (by unfold v_Server_liveRole; simp only [if_pos h1]) rfl
theorem d_Server_isPrimaryOf_0 : decode prog_6_method_3_code 0 = .ok (.aload_n 0, 1) := by decide +kernel
theorem d_Server_isPrimaryOf_1 : decode prog_6_method_3_code 1 = .ok (.getfield 12, 3) := by decide +kernel
theorem d_Server_isPrimaryOf_4 : decode prog_6_method_3_code 4 = .ok (.getfield 58, 3) := by decide +kernel
theorem d_Server_isPrimaryOf_7 : decode prog_6_method_3_code 7 = .ok (.iload_n 1, 1) := by decide +kernel
theorem d_Server_isPrimaryOf_8 : decode prog_6_method_3_code 8 = .ok (.if_icmp .ne 21, 3) := by decide +kernel
theorem d_Server_isPrimaryOf_11 : decode prog_6_method_3_code 11 = .ok (.aload_n 0, 1) := by decide +kernel
theorem d_Server_isPrimaryOf_12 : decode prog_6_method_3_code 12 = .ok (.getfield 12, 3) := by decide +kernel
theorem d_Server_isPrimaryOf_15 : decode prog_6_method_3_code 15 = .ok (.getfield 55, 3) := by decide +kernel
theorem d_Server_isPrimaryOf_18 : decode prog_6_method_3_code 18 = .ok (.aload_n 0, 1) := by decide +kernel
theorem d_Server_isPrimaryOf_19 : decode prog_6_method_3_code 19 = .ok (.getfield 52, 3) := by decide +kernel
theorem d_Server_isPrimaryOf_22 : decode prog_6_method_3_code 22 = .ok (.if_icmp .ne 7, 3) := by decide +kernel
theorem d_Server_isPrimaryOf_25 : decode prog_6_method_3_code 25 = .ok (.iconst 1, 1) := by decide +kernel
theorem d_Server_isPrimaryOf_26 : decode prog_6_method_3_code 26 = .ok (.goto 4, 3) := by decide +kernel
theorem d_Server_isPrimaryOf_29 : decode prog_6_method_3_code 29 = .ok (.iconst 0, 1) := by decide +kernel
theorem d_Server_isPrimaryOf_30 : decode prog_6_method_3_code 30 = .ok (.ireturn, 1) := by decide +kernel
def v_Server_isPrimaryOf (x0 : Int32) (x1 : Int32) (x2 : Int32) (x : Int32) : Int32 := if (x0) = x then (if (x1) = (x2) then 1 else 0) else 0
theorem zbv_Server_isPrimaryOf {x0 : Int32} {x1 : Int32} {x2 : Int32} {x : Int32} : zb (v_Server_isPrimaryOf x0 x1 x2 x) := by
  unfold v_Server_isPrimaryOf zb
  repeat' split
  all_goals simp
set_option maxHeartbeats 4000000 in
set_option maxRecDepth 100000 in
theorem c_Server_isPrimaryOf {l : Launch} {D : va_G} {K : Nat → ClassId} {ad : Nat → Nat → Nat} {n : Nat} {π : Nat → Nat} {s : S3} {i : Nat} {x : Int32} (hJ : zw_J (cRL n) ad) (mi : (1, i) ∈ cRL n) : zM l y_Server_isPrimaryOf ws_Server_isPrimaryOf ({ frames := 0, cells := 0, slots := 0, locals := 0 }) D zCl (zTys K) (cRL n) ad [.ref (ad 1 i), .int x] (kC K ad n s π) (some (.int (v_Server_isPrimaryOf (s 6 0 i) (s 6 1 i) (s 1 0 i) x))) (kC K ad n (s) π) := by
  refine zM.of (cc := prog_6_method_3_code) (maxL := 2) (ret := (Option.some Jvm.ClassFile.FieldType.boolean)) (by decide) rfl (Nat.le_of_ble_eq_true rfl) ?_
  intro pP eE U mM bL mT cO S hr hlk hK
  have hts := S.2.2.2.2
  have ht := fun w h => hts w (List.mem_cons_of_mem _ h)
  refine z_aload_n S d_Server_isPrimaryOf_0 rfl 0 rfl 1 rfl ?_
  refine z_get S hK hin_Server mi kC_1 rfl 1 (Nat.le_of_ble_eq_true rfl) (ht _ w_119) (fun _ h => h) d_Server_isPrimaryOf_1 4 rfl (.ref (ad 6 i)) rfl ?_
  refine z_get S hK hin_View (rl_sv mi) kC_6 rfl 0 (Nat.le_of_ble_eq_true rfl) (ht _ w_42) (fun _ h => h) d_Server_isPrimaryOf_4 7 rfl (.int (s 6 0 i)) rfl ?_
  refine z_iload_n S d_Server_isPrimaryOf_7 rfl 1 rfl 8 rfl ?_
  refine z_icmp_ne S d_Server_isPrimaryOf_8 29 (by decide) 11 rfl (fun h1 => ?_) (fun h1 => ?_)
  · refine z_iconst S d_Server_isPrimaryOf_29 0 (by decide) 30 rfl ?_
    exact z_zret S hr (zb_n zb_0) hlk d_Server_isPrimaryOf_30 (by unfold v_Server_isPrimaryOf; simp only [if_neg h1]) rfl
  · refine z_aload_n S d_Server_isPrimaryOf_11 rfl 0 rfl 12 rfl ?_
    refine z_get S hK hin_Server mi kC_1 rfl 1 (Nat.le_of_ble_eq_true rfl) (ht _ w_119) (fun _ h => h) d_Server_isPrimaryOf_12 15 rfl (.ref (ad 6 i)) rfl ?_
    refine z_get S hK hin_View (rl_sv mi) kC_6 rfl 1 (Nat.le_of_ble_eq_true rfl) (ht _ w_45) (fun _ h => h) d_Server_isPrimaryOf_15 18 rfl (.int (s 6 1 i)) rfl ?_
    refine z_aload_n S d_Server_isPrimaryOf_18 rfl 0 rfl 19 rfl ?_
    refine z_get S hK hin_Server mi kC_1 rfl 0 (Nat.le_of_ble_eq_true rfl) (ht _ w_118) (fun _ h => h) d_Server_isPrimaryOf_19 22 rfl (.int (s 1 0 i)) rfl ?_
    refine z_icmp_ne S d_Server_isPrimaryOf_22 29 (by decide) 25 rfl (fun h2 => ?_) (fun h2 => ?_)
    · refine z_iconst S d_Server_isPrimaryOf_29 0 (by decide) 30 rfl ?_
      exact z_zret S hr (zb_n zb_0) hlk d_Server_isPrimaryOf_30 (by unfold v_Server_isPrimaryOf; simp only [if_pos h1, if_neg h2]) rfl
    · refine z_iconst S d_Server_isPrimaryOf_25 1 (by decide) 26 rfl ?_
      refine z_goto S d_Server_isPrimaryOf_26 30 (by decide) ?_
      exact z_zret S hr (zb_n zb_1) hlk d_Server_isPrimaryOf_30 (by unfold v_Server_isPrimaryOf; simp only [if_pos h1, if_pos h2]) rfl
theorem d_Server_isBackupOf_0 : decode prog_6_method_4_code 0 = .ok (.aload_n 0, 1) := by decide +kernel
theorem d_Server_isBackupOf_1 : decode prog_6_method_4_code 1 = .ok (.getfield 12, 3) := by decide +kernel
theorem d_Server_isBackupOf_4 : decode prog_6_method_4_code 4 = .ok (.getfield 58, 3) := by decide +kernel
theorem d_Server_isBackupOf_7 : decode prog_6_method_4_code 7 = .ok (.iload_n 1, 1) := by decide +kernel
theorem d_Server_isBackupOf_8 : decode prog_6_method_4_code 8 = .ok (.if_icmp .ne 21, 3) := by decide +kernel
theorem d_Server_isBackupOf_11 : decode prog_6_method_4_code 11 = .ok (.aload_n 0, 1) := by decide +kernel
theorem d_Server_isBackupOf_12 : decode prog_6_method_4_code 12 = .ok (.getfield 12, 3) := by decide +kernel
theorem d_Server_isBackupOf_15 : decode prog_6_method_4_code 15 = .ok (.getfield 61, 3) := by decide +kernel
theorem d_Server_isBackupOf_18 : decode prog_6_method_4_code 18 = .ok (.aload_n 0, 1) := by decide +kernel
theorem d_Server_isBackupOf_19 : decode prog_6_method_4_code 19 = .ok (.getfield 52, 3) := by decide +kernel
theorem d_Server_isBackupOf_22 : decode prog_6_method_4_code 22 = .ok (.if_icmp .ne 7, 3) := by decide +kernel
theorem d_Server_isBackupOf_25 : decode prog_6_method_4_code 25 = .ok (.iconst 1, 1) := by decide +kernel
theorem d_Server_isBackupOf_26 : decode prog_6_method_4_code 26 = .ok (.goto 4, 3) := by decide +kernel
theorem d_Server_isBackupOf_29 : decode prog_6_method_4_code 29 = .ok (.iconst 0, 1) := by decide +kernel
theorem d_Server_isBackupOf_30 : decode prog_6_method_4_code 30 = .ok (.ireturn, 1) := by decide +kernel
def v_Server_isBackupOf (x0 : Int32) (x1 : Int32) (x2 : Int32) (x : Int32) : Int32 := if (x0) = x then (if (x1) = (x2) then 1 else 0) else 0
theorem zbv_Server_isBackupOf {x0 : Int32} {x1 : Int32} {x2 : Int32} {x : Int32} : zb (v_Server_isBackupOf x0 x1 x2 x) := by
  unfold v_Server_isBackupOf zb
  repeat' split
  all_goals simp
set_option maxHeartbeats 4000000 in
set_option maxRecDepth 100000 in
theorem c_Server_isBackupOf {l : Launch} {D : va_G} {K : Nat → ClassId} {ad : Nat → Nat → Nat} {n : Nat} {π : Nat → Nat} {s : S3} {i : Nat} {x : Int32} (hJ : zw_J (cRL n) ad) (mi : (1, i) ∈ cRL n) : zM l y_Server_isBackupOf ws_Server_isBackupOf ({ frames := 0, cells := 0, slots := 0, locals := 0 }) D zCl (zTys K) (cRL n) ad [.ref (ad 1 i), .int x] (kC K ad n s π) (some (.int (v_Server_isBackupOf (s 6 0 i) (s 6 2 i) (s 1 0 i) x))) (kC K ad n (s) π) := by
  refine zM.of (cc := prog_6_method_4_code) (maxL := 2) (ret := (Option.some Jvm.ClassFile.FieldType.boolean)) (by decide) rfl (Nat.le_of_ble_eq_true rfl) ?_
  intro pP eE U mM bL mT cO S hr hlk hK
  have hts := S.2.2.2.2
  have ht := fun w h => hts w (List.mem_cons_of_mem _ h)
  refine z_aload_n S d_Server_isBackupOf_0 rfl 0 rfl 1 rfl ?_
  refine z_get S hK hin_Server mi kC_1 rfl 1 (Nat.le_of_ble_eq_true rfl) (ht _ w_119) (fun _ h => h) d_Server_isBackupOf_1 4 rfl (.ref (ad 6 i)) rfl ?_
  refine z_get S hK hin_View (rl_sv mi) kC_6 rfl 0 (Nat.le_of_ble_eq_true rfl) (ht _ w_42) (fun _ h => h) d_Server_isBackupOf_4 7 rfl (.int (s 6 0 i)) rfl ?_
  refine z_iload_n S d_Server_isBackupOf_7 rfl 1 rfl 8 rfl ?_
  refine z_icmp_ne S d_Server_isBackupOf_8 29 (by decide) 11 rfl (fun h1 => ?_) (fun h1 => ?_)
  · refine z_iconst S d_Server_isBackupOf_29 0 (by decide) 30 rfl ?_
    exact z_zret S hr (zb_n zb_0) hlk d_Server_isBackupOf_30 (by unfold v_Server_isBackupOf; simp only [if_neg h1]) rfl
  · refine z_aload_n S d_Server_isBackupOf_11 rfl 0 rfl 12 rfl ?_
    refine z_get S hK hin_Server mi kC_1 rfl 1 (Nat.le_of_ble_eq_true rfl) (ht _ w_119) (fun _ h => h) d_Server_isBackupOf_12 15 rfl (.ref (ad 6 i)) rfl ?_
    refine z_get S hK hin_View (rl_sv mi) kC_6 rfl 2 (Nat.le_of_ble_eq_true rfl) (ht _ w_50) (fun _ h => h) d_Server_isBackupOf_15 18 rfl (.int (s 6 2 i)) rfl ?_
    refine z_aload_n S d_Server_isBackupOf_18 rfl 0 rfl 19 rfl ?_
    refine z_get S hK hin_Server mi kC_1 rfl 0 (Nat.le_of_ble_eq_true rfl) (ht _ w_118) (fun _ h => h) d_Server_isBackupOf_19 22 rfl (.int (s 1 0 i)) rfl ?_
    refine z_icmp_ne S d_Server_isBackupOf_22 29 (by decide) 25 rfl (fun h2 => ?_) (fun h2 => ?_)
    · refine z_iconst S d_Server_isBackupOf_29 0 (by decide) 30 rfl ?_
      exact z_zret S hr (zb_n zb_0) hlk d_Server_isBackupOf_30 (by unfold v_Server_isBackupOf; simp only [if_pos h1, if_neg h2]) rfl
    · refine z_iconst S d_Server_isBackupOf_25 1 (by decide) 26 rfl ?_
      refine z_goto S d_Server_isBackupOf_26 30 (by decide) ?_
      exact z_zret S hr (zb_n zb_1) hlk d_Server_isBackupOf_30 (by unfold v_Server_isBackupOf; simp only [if_pos h1, if_pos h2]) rfl
theorem d_Client_start_0 : decode prog_2_method_2_code 0 = .ok (.aload_n 0, 1) := by decide +kernel
theorem d_Client_start_1 : decode prog_2_method_2_code 1 = .ok (.getfield 10, 3) := by decide +kernel
theorem d_Client_start_4 : decode prog_2_method_2_code 4 = .ok (.dup, 1) := by decide +kernel
theorem d_Client_start_5 : decode prog_2_method_2_code 5 = .ok (.getfield 30, 3) := by decide +kernel
theorem d_Client_start_8 : decode prog_2_method_2_code 8 = .ok (.iconst 1, 1) := by decide +kernel
theorem d_Client_start_9 : decode prog_2_method_2_code 9 = .ok (.iadd, 1) := by decide +kernel
theorem d_Client_start_10 : decode prog_2_method_2_code 10 = .ok (.putfield 30, 3) := by decide +kernel
theorem d_Client_start_13 : decode prog_2_method_2_code 13 = .ok (.aload_n 0, 1) := by decide +kernel
theorem d_Client_start_14 : decode prog_2_method_2_code 14 = .ok (.getfield 10, 3) := by decide +kernel
theorem d_Client_start_17 : decode prog_2_method_2_code 17 = .ok (.iload_n 1, 1) := by decide +kernel
theorem d_Client_start_18 : decode prog_2_method_2_code 18 = .ok (.putfield 33, 3) := by decide +kernel
theorem d_Client_start_21 : decode prog_2_method_2_code 21 = .ok (.aload_n 0, 1) := by decide +kernel
theorem d_Client_start_22 : decode prog_2_method_2_code 22 = .ok (.getfield 10, 3) := by decide +kernel
theorem d_Client_start_25 : decode prog_2_method_2_code 25 = .ok (.iload_n 2, 1) := by decide +kernel
theorem d_Client_start_26 : decode prog_2_method_2_code 26 = .ok (.putfield 36, 3) := by decide +kernel
theorem d_Client_start_29 : decode prog_2_method_2_code 29 = .ok (.aload_n 0, 1) := by decide +kernel
theorem d_Client_start_30 : decode prog_2_method_2_code 30 = .ok (.getfield 10, 3) := by decide +kernel
theorem d_Client_start_33 : decode prog_2_method_2_code 33 = .ok (.iload_n 3, 1) := by decide +kernel
theorem d_Client_start_34 : decode prog_2_method_2_code 34 = .ok (.putfield 39, 3) := by decide +kernel
theorem d_Client_start_37 : decode prog_2_method_2_code 37 = .ok (.aload_n 0, 1) := by decide +kernel
theorem d_Client_start_38 : decode prog_2_method_2_code 38 = .ok (.iconst 1, 1) := by decide +kernel
theorem d_Client_start_39 : decode prog_2_method_2_code 39 = .ok (.putfield 16, 3) := by decide +kernel
theorem d_Client_start_42 : decode prog_2_method_2_code 42 = .ok (.return_, 1) := by decide +kernel
def S_Client_start (π : Nat → Nat) (s : S3) (c : Nat) (w : Int32) (k : Int32) (v : Int32) : S3 := u3 (u3 (u3 (u3 (u3 s 7 1 (5 + c) ((s 7 1 (5 + c)) + 1)) 7 2 (5 + c) w) 7 3 (5 + c) k) 7 4 (5 + c) v) 2 1 c 1
set_option maxHeartbeats 4000000 in
set_option maxRecDepth 100000 in
theorem c_Client_start {l : Launch} {D : va_G} {K : Nat → ClassId} {ad : Nat → Nat → Nat} {n : Nat} {π : Nat → Nat} {s : S3} {c : Nat} {w k v : Int32} (hJ : zw_J (cRL n) ad) (mc : (2, c) ∈ cRL n) (hz : zb w) : zM l y_Client_start ws_Client_start ({ frames := 0, cells := 0, slots := 0, locals := 0 }) D zCl (zTys K) (cRL n) ad [.ref (ad 2 c), .int w, .int k, .int v] (kC K ad n s π) (none) (kC K ad n (S_Client_start π s c w k v) π) := by
  refine zM.of (cc := prog_2_method_2_code) (maxL := 4) (ret := (Option.none : Option Jvm.ClassFile.FieldType)) (by decide) rfl (Nat.le_of_ble_eq_true rfl) ?_
  intro pP eE U mM bL mT cO S hr hlk hK
  have hts := S.2.2.2.2
  have ht := fun w h => hts w (List.mem_cons_of_mem _ h)
  refine z_aload_n S d_Client_start_0 rfl 0 rfl 1 rfl ?_
  refine z_get S hK hin_Client mc kC_2 rfl 0 (Nat.le_of_ble_eq_true rfl) (ht _ w_167) (fun _ h => h) d_Client_start_1 4 rfl (.ref (ad 7 (5 + c))) rfl ?_
  refine z_dup S d_Client_start_4 rfl 5 rfl ?_
  refine z_get S hK hin_Operation (rl_co mc) kC_7 rfl 1 (Nat.le_of_ble_eq_true rfl) (ht _ w_94) (fun _ h => h) d_Client_start_5 8 rfl (.int (s 7 1 (5 + c))) rfl ?_
  refine z_iconst S d_Client_start_8 1 (by decide) 9 rfl ?_
  refine z_iadd S d_Client_start_9 10 rfl ?_
  refine z_put S hJ hK hin_Operation t_Operation ok_Operation nm_Operation (rl_co mc) kC_7 rfl 1 (Nat.le_of_ble_eq_true rfl) (ht _ w_94) (fun _ h => h) rfl rfl rfl (Nat.le_of_ble_eq_true rfl) up_7_1 d_Client_start_10 13 rfl ?_
  refine z_aload_n S d_Client_start_13 rfl 0 rfl 14 rfl ?_
  refine z_get S hK hin_Client mc kC_2 rfl 0 (Nat.le_of_ble_eq_true rfl) (ht _ w_167) (fun _ h => h) d_Client_start_14 17 rfl (.ref (ad 7 (5 + c))) rfl ?_
  refine z_iload_n S d_Client_start_17 rfl 1 rfl 18 rfl ?_
  refine z_put S hJ hK hin_Operation t_Operation ok_Operation nm_Operation (rl_co mc) kC_7 rfl 2 (Nat.le_of_ble_eq_true rfl) (ht _ w_98) (fun _ h => h) rfl (zb_n hz) (zb_f hz) (Nat.le_of_ble_eq_true rfl) up_7_2 d_Client_start_18 21 rfl ?_
  refine z_aload_n S d_Client_start_21 rfl 0 rfl 22 rfl ?_
  refine z_get S hK hin_Client mc kC_2 rfl 0 (Nat.le_of_ble_eq_true rfl) (ht _ w_167) (fun _ h => h) d_Client_start_22 25 rfl (.ref (ad 7 (5 + c))) rfl ?_
  refine z_iload_n S d_Client_start_25 rfl 2 rfl 26 rfl ?_
  refine z_put S hJ hK hin_Operation t_Operation ok_Operation nm_Operation (rl_co mc) kC_7 rfl 3 (Nat.le_of_ble_eq_true rfl) (ht _ w_101) (fun _ h => h) rfl rfl rfl (Nat.le_of_ble_eq_true rfl) up_7_3 d_Client_start_26 29 rfl ?_
  refine z_aload_n S d_Client_start_29 rfl 0 rfl 30 rfl ?_
  refine z_get S hK hin_Client mc kC_2 rfl 0 (Nat.le_of_ble_eq_true rfl) (ht _ w_167) (fun _ h => h) d_Client_start_30 33 rfl (.ref (ad 7 (5 + c))) rfl ?_
  refine z_iload_n S d_Client_start_33 rfl 3 rfl 34 rfl ?_
  refine z_put S hJ hK hin_Operation t_Operation ok_Operation nm_Operation (rl_co mc) kC_7 rfl 4 (Nat.le_of_ble_eq_true rfl) (ht _ w_105) (fun _ h => h) rfl rfl rfl (Nat.le_of_ble_eq_true rfl) up_7_4 d_Client_start_34 37 rfl ?_
  refine z_aload_n S d_Client_start_37 rfl 0 rfl 38 rfl ?_
  refine z_iconst S d_Client_start_38 1 (by decide) 39 rfl ?_
  refine z_put S hJ hK hin_Client t_Client ok_Client nm_Client mc kC_2 rfl 1 (Nat.le_of_ble_eq_true rfl) (ht _ w_169) (fun _ h => h) rfl (zb_n zb_1) (zb_f zb_1) (Nat.le_of_ble_eq_true rfl) up_2_1 d_Client_start_39 42 rfl ?_
  exact z_vret S hr hlk d_Client_start_42 (kC_eq rfl)
theorem d_Client_takeAnswer_0 : decode prog_2_method_3_code 0 = .ok (.aload_n 0, 1) := by decide +kernel
theorem d_Client_takeAnswer_1 : decode prog_2_method_3_code 1 = .ok (.getfield 16, 3) := by decide +kernel
theorem d_Client_takeAnswer_4 : decode prog_2_method_3_code 4 = .ok (.ifCond .eq 20, 3) := by decide +kernel
theorem d_Client_takeAnswer_7 : decode prog_2_method_3_code 7 = .ok (.aload_n 0, 1) := by decide +kernel
theorem d_Client_takeAnswer_8 : decode prog_2_method_3_code 8 = .ok (.getfield 10, 3) := by decide +kernel
theorem d_Client_takeAnswer_11 : decode prog_2_method_3_code 11 = .ok (.getfield 30, 3) := by decide +kernel
theorem d_Client_takeAnswer_14 : decode prog_2_method_3_code 14 = .ok (.aload_n 1, 1) := by decide +kernel
theorem d_Client_takeAnswer_15 : decode prog_2_method_3_code 15 = .ok (.getfield 42, 3) := by decide +kernel
theorem d_Client_takeAnswer_18 : decode prog_2_method_3_code 18 = .ok (.getfield 30, 3) := by decide +kernel
theorem d_Client_takeAnswer_21 : decode prog_2_method_3_code 21 = .ok (.if_icmp .eq 5, 3) := by decide +kernel
theorem d_Client_takeAnswer_24 : decode prog_2_method_3_code 24 = .ok (.iconst 0, 1) := by decide +kernel
theorem d_Client_takeAnswer_25 : decode prog_2_method_3_code 25 = .ok (.ireturn, 1) := by decide +kernel
theorem d_Client_takeAnswer_26 : decode prog_2_method_3_code 26 = .ok (.aload_n 0, 1) := by decide +kernel
theorem d_Client_takeAnswer_27 : decode prog_2_method_3_code 27 = .ok (.iconst 0, 1) := by decide +kernel
theorem d_Client_takeAnswer_28 : decode prog_2_method_3_code 28 = .ok (.putfield 16, 3) := by decide +kernel
theorem d_Client_takeAnswer_31 : decode prog_2_method_3_code 31 = .ok (.aload_n 0, 1) := by decide +kernel
theorem d_Client_takeAnswer_32 : decode prog_2_method_3_code 32 = .ok (.dup, 1) := by decide +kernel
theorem d_Client_takeAnswer_33 : decode prog_2_method_3_code 33 = .ok (.getfield 20, 3) := by decide +kernel
theorem d_Client_takeAnswer_36 : decode prog_2_method_3_code 36 = .ok (.iconst 1, 1) := by decide +kernel
theorem d_Client_takeAnswer_37 : decode prog_2_method_3_code 37 = .ok (.iadd, 1) := by decide +kernel
theorem d_Client_takeAnswer_38 : decode prog_2_method_3_code 38 = .ok (.putfield 20, 3) := by decide +kernel
theorem d_Client_takeAnswer_41 : decode prog_2_method_3_code 41 = .ok (.aload_n 0, 1) := by decide +kernel
theorem d_Client_takeAnswer_42 : decode prog_2_method_3_code 42 = .ok (.aload_n 1, 1) := by decide +kernel
theorem d_Client_takeAnswer_43 : decode prog_2_method_3_code 43 = .ok (.getfield 45, 3) := by decide +kernel
theorem d_Client_takeAnswer_46 : decode prog_2_method_3_code 46 = .ok (.putfield 24, 3) := by decide +kernel
theorem d_Client_takeAnswer_49 : decode prog_2_method_3_code 49 = .ok (.iconst 1, 1) := by decide +kernel
theorem d_Client_takeAnswer_50 : decode prog_2_method_3_code 50 = .ok (.ireturn, 1) := by decide +kernel
def S_Client_takeAnswer (n : Nat) (π : Nat → Nat) (s : S3) (c : Nat) (L : Nat) : S3 := if (s 2 1 c) = 0 then s else if (s 7 1 (5 + c)) = (s 7 1 (8 + L)) then (u3 (u3 (u3 s 2 1 c 0) 2 2 c ((s 2 2 c) + 1)) 2 3 c (s 5 8 L)) else s
def v_Client_takeAnswer (n : Nat) (π : Nat → Nat) (s : S3) (c : Nat) (L : Nat) : Int32 := if (s 2 1 c) = 0 then 0 else if (s 7 1 (5 + c)) = (s 7 1 (8 + L)) then 1 else 0
theorem zbv_Client_takeAnswer {n : Nat} {π : Nat → Nat} {s : S3} {c : Nat} {L : Nat} : zb (v_Client_takeAnswer n π s c L) := by
  unfold v_Client_takeAnswer
  repeat' split
  all_goals first | with_reducible exact zb_0 | with_reducible exact zb_1 | with_reducible exact zbv_View_hasBackup | with_reducible exact zbv_Server_isPrimary | with_reducible exact zbv_Server_isPrimaryOf | with_reducible exact zbv_Server_isBackupOf
set_option maxHeartbeats 4000000 in
set_option maxRecDepth 100000 in
theorem c_Client_takeAnswer {l : Launch} {D : va_G} {K : Nat → ClassId} {ad : Nat → Nat → Nat} {n : Nat} {π : Nat → Nat} {s : S3} {c L : Nat} (hJ : zw_J (cRL n) ad) (mc : (2, c) ∈ cRL n) (mL : (5, L) ∈ cRL n) : zM l y_Client_takeAnswer ws_Client_takeAnswer ({ frames := 0, cells := 0, slots := 0, locals := 0 }) D zCl (zTys K) (cRL n) ad [.ref (ad 2 c), .ref (ad 5 L)] (kC K ad n s π) (some (.int (v_Client_takeAnswer n π s c L))) (kC K ad n (S_Client_takeAnswer n π s c L) π) := by
  refine zM.of (cc := prog_2_method_3_code) (maxL := 2) (ret := (Option.some Jvm.ClassFile.FieldType.boolean)) (by decide) rfl (Nat.le_of_ble_eq_true rfl) ?_
  intro pP eE U mM bL mT cO S hr hlk hK
  have hts := S.2.2.2.2
  have ht := fun w h => hts w (List.mem_cons_of_mem _ h)
  refine z_aload_n S d_Client_takeAnswer_0 rfl 0 rfl 1 rfl ?_
  refine z_get S hK hin_Client mc kC_2 rfl 1 (Nat.le_of_ble_eq_true rfl) (ht _ w_169) (fun _ h => h) d_Client_takeAnswer_1 4 rfl (.int (s 2 1 c)) rfl ?_
  refine z_if_eq S d_Client_takeAnswer_4 24 (by decide) 7 rfl (fun h1 => ?_) (fun h1 => ?_)
  · refine z_iconst S d_Client_takeAnswer_24 0 (by decide) 25 rfl ?_
    exact z_zret S hr (zb_n zb_0) hlk d_Client_takeAnswer_25 (by unfold v_Client_takeAnswer; simp only [if_pos h1]) (kC_eq (by unfold S_Client_takeAnswer; simp only [if_pos h1]))
  · refine z_aload_n S d_Client_takeAnswer_7 rfl 0 rfl 8 rfl ?_
    refine z_get S hK hin_Client mc kC_2 rfl 0 (Nat.le_of_ble_eq_true rfl) (ht _ w_167) (fun _ h => h) d_Client_takeAnswer_8 11 rfl (.ref (ad 7 (5 + c))) rfl ?_
    refine z_get S hK hin_Operation (rl_co mc) kC_7 rfl 1 (Nat.le_of_ble_eq_true rfl) (ht _ w_94) (fun _ h => h) d_Client_takeAnswer_11 14 rfl (.int (s 7 1 (5 + c))) rfl ?_
    refine z_aload_n S d_Client_takeAnswer_14 rfl 1 rfl 15 rfl ?_
    refine z_get S hK hin_Letter mL kC_5 rfl 1 (Nat.le_of_ble_eq_true rfl) (ht _ w_226) (fun _ h => h) d_Client_takeAnswer_15 18 rfl (.ref (ad 7 (8 + L))) rfl ?_
    refine z_get S hK hin_Operation (rl_lo mL) kC_7 rfl 1 (Nat.le_of_ble_eq_true rfl) (ht _ w_94) (fun _ h => h) d_Client_takeAnswer_18 21 rfl (.int (s 7 1 (8 + L))) rfl ?_
    refine z_icmp_eq S d_Client_takeAnswer_21 26 (by decide) 24 rfl (fun h2 => ?_) (fun h2 => ?_)
    · refine z_aload_n S d_Client_takeAnswer_26 rfl 0 rfl 27 rfl ?_
      refine z_iconst S d_Client_takeAnswer_27 0 (by decide) 28 rfl ?_
      refine z_put S hJ hK hin_Client t_Client ok_Client nm_Client mc kC_2 rfl 1 (Nat.le_of_ble_eq_true rfl) (ht _ w_169) (fun _ h => h) rfl (zb_n zb_0) (zb_f zb_0) (Nat.le_of_ble_eq_true rfl) up_2_1 d_Client_takeAnswer_28 31 rfl ?_
      refine z_aload_n S d_Client_takeAnswer_31 rfl 0 rfl 32 rfl ?_
      refine z_dup S d_Client_takeAnswer_32 rfl 33 rfl ?_
      refine z_get S hK hin_Client mc kC_2 rfl 2 (Nat.le_of_ble_eq_true rfl) (ht _ w_171) (fun _ h => h) d_Client_takeAnswer_33 36 rfl (.int (s 2 2 c)) rfl ?_
      refine z_iconst S d_Client_takeAnswer_36 1 (by decide) 37 rfl ?_
      refine z_iadd S d_Client_takeAnswer_37 38 rfl ?_
      refine z_put S hJ hK hin_Client t_Client ok_Client nm_Client mc kC_2 rfl 2 (Nat.le_of_ble_eq_true rfl) (ht _ w_171) (fun _ h => h) rfl rfl rfl (Nat.le_of_ble_eq_true rfl) up_2_2 d_Client_takeAnswer_38 41 rfl ?_
      refine z_aload_n S d_Client_takeAnswer_41 rfl 0 rfl 42 rfl ?_
      refine z_aload_n S d_Client_takeAnswer_42 rfl 1 rfl 43 rfl ?_
      refine z_get S hK hin_Letter mL kC_5 rfl 8 (Nat.le_of_ble_eq_true rfl) (ht _ w_245) (fun _ h => h) d_Client_takeAnswer_43 46 rfl (.int (s 5 8 L)) rfl ?_
      refine z_put S hJ hK hin_Client t_Client ok_Client nm_Client mc kC_2 rfl 3 (Nat.le_of_ble_eq_true rfl) (ht _ w_173) (fun _ h => h) rfl rfl rfl (Nat.le_of_ble_eq_true rfl) up_2_3 d_Client_takeAnswer_46 49 rfl ?_
      refine z_iconst S d_Client_takeAnswer_49 1 (by decide) 50 rfl ?_
      exact z_zret S hr (zb_n zb_1) hlk d_Client_takeAnswer_50 (by unfold v_Client_takeAnswer; simp only [if_neg h1, if_pos h2]) (kC_eq (by unfold S_Client_takeAnswer; simp only [if_neg h1, if_pos h2]))
    · refine z_iconst S d_Client_takeAnswer_24 0 (by decide) 25 rfl ?_
      exact z_zret S hr (zb_n zb_0) hlk d_Client_takeAnswer_25 (by unfold v_Client_takeAnswer; simp only [if_neg h1, if_neg h2]) (kC_eq (by unfold S_Client_takeAnswer; simp only [if_neg h1, if_neg h2]))
theorem d_Service_changeView_0 : decode prog_7_method_4_code 0 = .ok (.aload_n 0, 1) := by decide +kernel
theorem d_Service_changeView_1 : decode prog_7_method_4_code 1 = .ok (.getfield 12, 3) := by decide +kernel
theorem d_Service_changeView_4 : decode prog_7_method_4_code 4 = .ok (.dup, 1) := by decide +kernel
theorem d_Service_changeView_5 : decode prog_7_method_4_code 5 = .ok (.getfield 32, 3) := by decide +kernel
theorem d_Service_changeView_8 : decode prog_7_method_4_code 8 = .ok (.iconst 1, 1) := by decide +kernel
theorem d_Service_changeView_9 : decode prog_7_method_4_code 9 = .ok (.iadd, 1) := by decide +kernel
theorem d_Service_changeView_10 : decode prog_7_method_4_code 10 = .ok (.putfield 32, 3) := by decide +kernel
theorem d_Service_changeView_13 : decode prog_7_method_4_code 13 = .ok (.aload_n 0, 1) := by decide +kernel
theorem d_Service_changeView_14 : decode prog_7_method_4_code 14 = .ok (.getfield 12, 3) := by decide +kernel
theorem d_Service_changeView_17 : decode prog_7_method_4_code 17 = .ok (.iload_n 1, 1) := by decide +kernel
theorem d_Service_changeView_18 : decode prog_7_method_4_code 18 = .ok (.putfield 39, 3) := by decide +kernel
theorem d_Service_changeView_21 : decode prog_7_method_4_code 21 = .ok (.aload_n 0, 1) := by decide +kernel
theorem d_Service_changeView_22 : decode prog_7_method_4_code 22 = .ok (.getfield 12, 3) := by decide +kernel
theorem d_Service_changeView_25 : decode prog_7_method_4_code 25 = .ok (.iload_n 2, 1) := by decide +kernel
theorem d_Service_changeView_26 : decode prog_7_method_4_code 26 = .ok (.putfield 52, 3) := by decide +kernel
theorem d_Service_changeView_29 : decode prog_7_method_4_code 29 = .ok (.aload_n 0, 1) := by decide +kernel
theorem d_Service_changeView_30 : decode prog_7_method_4_code 30 = .ok (.iconst 0, 1) := by decide +kernel
theorem d_Service_changeView_31 : decode prog_7_method_4_code 31 = .ok (.putfield 18, 3) := by decide +kernel
theorem d_Service_changeView_34 : decode prog_7_method_4_code 34 = .ok (.return_, 1) := by decide +kernel
def S_Service_changeView (π : Nat → Nat) (s : S3) (x : Int32) (y : Int32) : S3 := u3 (u3 (u3 (u3 s 6 0 7 ((s 6 0 7) + 1)) 6 1 7 x) 6 2 7 y) 3 2 0 0
set_option maxHeartbeats 4000000 in
set_option maxRecDepth 100000 in
theorem c_Service_changeView {l : Launch} {D : va_G} {K : Nat → ClassId} {ad : Nat → Nat → Nat} {n : Nat} {π : Nat → Nat} {s : S3} {x y : Int32} (hJ : zw_J (cRL n) ad) : zM l y_Service_changeView ws_Service_changeView ({ frames := 0, cells := 0, slots := 0, locals := 0 }) D zCl (zTys K) (cRL n) ad [.ref (ad 3 0), .int x, .int y] (kC K ad n s π) (none) (kC K ad n (S_Service_changeView π s x y) π) := by
  refine zM.of (cc := prog_7_method_4_code) (maxL := 3) (ret := (Option.none : Option Jvm.ClassFile.FieldType)) (by decide) rfl (Nat.le_of_ble_eq_true rfl) ?_
  intro pP eE U mM bL mT cO S hr hlk hK
  have hts := S.2.2.2.2
  have ht := fun w h => hts w (List.mem_cons_of_mem _ h)
  refine z_aload_n S d_Service_changeView_0 rfl 0 rfl 1 rfl ?_
  refine z_get S hK hin_Service rl_3 kC_3 rfl 0 (Nat.le_of_ble_eq_true rfl) (ht _ w_192) (fun _ h => h) d_Service_changeView_1 4 rfl (.ref (ad 6 7)) rfl ?_
  refine z_dup S d_Service_changeView_4 rfl 5 rfl ?_
  refine z_get S hK hin_View rl_67 kC_6 rfl 0 (Nat.le_of_ble_eq_true rfl) (ht _ w_41) (fun _ h => h) d_Service_changeView_5 8 rfl (.int (s 6 0 7)) rfl ?_
  refine z_iconst S d_Service_changeView_8 1 (by decide) 9 rfl ?_
  refine z_iadd S d_Service_changeView_9 10 rfl ?_
  refine z_put S hJ hK hin_View t_View ok_View nm_View rl_67 kC_6 rfl 0 (Nat.le_of_ble_eq_true rfl) (ht _ w_41) (fun _ h => h) rfl rfl rfl (Nat.le_of_ble_eq_true rfl) up_6_0 d_Service_changeView_10 13 rfl ?_
  refine z_aload_n S d_Service_changeView_13 rfl 0 rfl 14 rfl ?_
  refine z_get S hK hin_Service rl_3 kC_3 rfl 0 (Nat.le_of_ble_eq_true rfl) (ht _ w_192) (fun _ h => h) d_Service_changeView_14 17 rfl (.ref (ad 6 7)) rfl ?_
  refine z_iload_n S d_Service_changeView_17 rfl 1 rfl 18 rfl ?_
  refine z_put S hJ hK hin_View t_View ok_View nm_View rl_67 kC_6 rfl 1 (Nat.le_of_ble_eq_true rfl) (ht _ w_46) (fun _ h => h) rfl rfl rfl (Nat.le_of_ble_eq_true rfl) up_6_1 d_Service_changeView_18 21 rfl ?_
  refine z_aload_n S d_Service_changeView_21 rfl 0 rfl 22 rfl ?_
  refine z_get S hK hin_Service rl_3 kC_3 rfl 0 (Nat.le_of_ble_eq_true rfl) (ht _ w_192) (fun _ h => h) d_Service_changeView_22 25 rfl (.ref (ad 6 7)) rfl ?_
  refine z_iload_n S d_Service_changeView_25 rfl 2 rfl 26 rfl ?_
  refine z_put S hJ hK hin_View t_View ok_View nm_View rl_67 kC_6 rfl 2 (Nat.le_of_ble_eq_true rfl) (ht _ w_49) (fun _ h => h) rfl rfl rfl (Nat.le_of_ble_eq_true rfl) up_6_2 d_Service_changeView_26 29 rfl ?_
  refine z_aload_n S d_Service_changeView_29 rfl 0 rfl 30 rfl ?_
  refine z_iconst S d_Service_changeView_30 0 (by decide) 31 rfl ?_
  refine z_put S hJ hK hin_Service t_Service ok_Service nm_Service rl_3 kC_3 rfl 2 (Nat.le_of_ble_eq_true rfl) (ht _ w_195) (fun _ h => h) rfl (zb_n zb_0) (zb_f zb_0) (Nat.le_of_ble_eq_true rfl) up_3_2 d_Service_changeView_31 34 rfl ?_
  exact z_vret S hr hlk d_Service_changeView_34 (kC_eq rfl)
theorem d_Service_isFresh_0 : decode prog_7_method_5_code 0 = .ok (.aload_n 0, 1) := by decide +kernel
theorem d_Service_isFresh_1 : decode prog_7_method_5_code 1 = .ok (.getfield 22, 3) := by decide +kernel
theorem d_Service_isFresh_4 : decode prog_7_method_5_code 4 = .ok (.iload_n 1, 1) := by decide +kernel
theorem d_Service_isFresh_5 : decode prog_7_method_5_code 5 = .ok (.iaload, 1) := by decide +kernel
theorem d_Service_isFresh_6 : decode prog_7_method_5_code 6 = .ok (.iconst (-1), 1) := by decide +kernel
theorem d_Service_isFresh_7 : decode prog_7_method_5_code 7 = .ok (.if_icmp .eq 21, 3) := by decide +kernel
theorem d_Service_isFresh_10 : decode prog_7_method_5_code 10 = .ok (.iload_n 2, 1) := by decide +kernel
theorem d_Service_isFresh_11 : decode prog_7_method_5_code 11 = .ok (.aload_n 0, 1) := by decide +kernel
theorem d_Service_isFresh_12 : decode prog_7_method_5_code 12 = .ok (.getfield 22, 3) := by decide +kernel
theorem d_Service_isFresh_15 : decode prog_7_method_5_code 15 = .ok (.iload_n 1, 1) := by decide +kernel
theorem d_Service_isFresh_16 : decode prog_7_method_5_code 16 = .ok (.iaload, 1) := by decide +kernel
theorem d_Service_isFresh_17 : decode prog_7_method_5_code 17 = .ok (.isub, 1) := by decide +kernel
theorem d_Service_isFresh_18 : decode prog_7_method_5_code 18 = .ok (.sipush 130, 3) := by decide +kernel
theorem d_Service_isFresh_21 : decode prog_7_method_5_code 21 = .ok (.if_icmp .ge 7, 3) := by decide +kernel
theorem d_Service_isFresh_24 : decode prog_7_method_5_code 24 = .ok (.iconst 1, 1) := by decide +kernel
theorem d_Service_isFresh_25 : decode prog_7_method_5_code 25 = .ok (.goto 4, 3) := by decide +kernel
theorem d_Service_isFresh_28 : decode prog_7_method_5_code 28 = .ok (.iconst 0, 1) := by decide +kernel
theorem d_Service_isFresh_29 : decode prog_7_method_5_code 29 = .ok (.ireturn, 1) := by decide +kernel
def v_Service_isFresh (x0 : Int32) (t : Int32) : Int32 := if (x0) = (-1) then 0 else if 130 ≤ (t - (x0)) then 0 else 1
theorem zbv_Service_isFresh {x0 : Int32} {t : Int32} : zb (v_Service_isFresh x0 t) := by
  unfold v_Service_isFresh zb
  repeat' split
  all_goals simp
set_option maxHeartbeats 4000000 in
set_option maxRecDepth 100000 in
theorem c_Service_isFresh {l : Launch} {D : va_G} {K : Nat → ClassId} {ad : Nat → Nat → Nat} {n : Nat} {π : Nat → Nat} {s : S3} {x t : Int32} (hJ : zw_J (cRL n) ad) (hx : vp_in x n) : zM l y_Service_isFresh ws_Service_isFresh ({ frames := 0, cells := 0, slots := 0, locals := 0 }) D zCl (zTys K) (cRL n) ad [.ref (ad 3 0), .int x, .int t] (kC K ad n s π) (some (.int (v_Service_isFresh (s 15 0 x.toNatClampNeg) t))) (kC K ad n (s) π) := by
  refine zM.of (cc := prog_7_method_5_code) (maxL := 3) (ret := (Option.some Jvm.ClassFile.FieldType.boolean)) (by decide) rfl (Nat.le_of_ble_eq_true rfl) ?_
  intro pP eE U mM bL mT cO S hr hlk hK
  have hts := S.2.2.2.2
  have ht := fun w h => hts w (List.mem_cons_of_mem _ h)
  refine z_aload_n S d_Service_isFresh_0 rfl 0 rfl 1 rfl ?_
  refine z_get S hK hin_Service rl_3 kC_3 rfl 1 (Nat.le_of_ble_eq_true rfl) (ht _ w_194) (fun _ h => h) d_Service_isFresh_1 4 rfl (.ref (ad 15 0)) rfl ?_
  refine z_iload_n S d_Service_isFresh_4 rfl 1 rfl 5 rfl ?_
  refine z_iald S hK rl_15 0 kC_15 rfl hx d_Service_isFresh_5 6 rfl (s 15 0 x.toNatClampNeg) rfl ?_
  refine z_iconst S d_Service_isFresh_6 (-1) (by decide) 7 rfl ?_
  refine z_icmp_eq S d_Service_isFresh_7 28 (by decide) 10 rfl (fun h1 => ?_) (fun h1 => ?_)
  · refine z_iconst S d_Service_isFresh_28 0 (by decide) 29 rfl ?_
    exact z_zret S hr (zb_n zb_0) hlk d_Service_isFresh_29 (by unfold v_Service_isFresh; simp only [if_pos h1]) rfl
  · refine z_iload_n S d_Service_isFresh_10 rfl 2 rfl 11 rfl ?_
    refine z_aload_n S d_Service_isFresh_11 rfl 0 rfl 12 rfl ?_
    refine z_get S hK hin_Service rl_3 kC_3 rfl 1 (Nat.le_of_ble_eq_true rfl) (ht _ w_194) (fun _ h => h) d_Service_isFresh_12 15 rfl (.ref (ad 15 0)) rfl ?_
    refine z_iload_n S d_Service_isFresh_15 rfl 1 rfl 16 rfl ?_
    refine z_iald S hK rl_15 0 kC_15 rfl hx d_Service_isFresh_16 17 rfl (s 15 0 x.toNatClampNeg) rfl ?_
    refine z_isub S d_Service_isFresh_17 18 rfl ?_
    refine z_sipush S d_Service_isFresh_18 130 (by decide) 21 rfl ?_
    refine z_icmp_ge S d_Service_isFresh_21 28 (by decide) 24 rfl (fun h2 => ?_) (fun h2 => ?_)
    · refine z_iconst S d_Service_isFresh_28 0 (by decide) 29 rfl ?_
      exact z_zret S hr (zb_n zb_0) hlk d_Service_isFresh_29 (by unfold v_Service_isFresh; simp only [if_neg h1, if_pos h2]) rfl
    · refine z_iconst S d_Service_isFresh_24 1 (by decide) 25 rfl ?_
      refine z_goto S d_Service_isFresh_25 29 (by decide) ?_
      exact z_zret S hr (zb_n zb_1) hlk d_Service_isFresh_29 (by unfold v_Service_isFresh; simp only [if_neg h1, if_neg h2]) rfl
theorem d_Service_notePing_0 : decode prog_7_method_2_code 0 = .ok (.aload_n 0, 1) := by decide +kernel
theorem d_Service_notePing_1 : decode prog_7_method_2_code 1 = .ok (.getfield 22, 3) := by decide +kernel
theorem d_Service_notePing_4 : decode prog_7_method_2_code 4 = .ok (.aload_n 1, 1) := by decide +kernel
theorem d_Service_notePing_5 : decode prog_7_method_2_code 5 = .ok (.getfield 26, 3) := by decide +kernel
theorem d_Service_notePing_8 : decode prog_7_method_2_code 8 = .ok (.iload_n 2, 1) := by decide +kernel
theorem d_Service_notePing_9 : decode prog_7_method_2_code 9 = .ok (.iastore, 1) := by decide +kernel
theorem d_Service_notePing_10 : decode prog_7_method_2_code 10 = .ok (.aload_n 0, 1) := by decide +kernel
theorem d_Service_notePing_11 : decode prog_7_method_2_code 11 = .ok (.getfield 12, 3) := by decide +kernel
theorem d_Service_notePing_14 : decode prog_7_method_2_code 14 = .ok (.getfield 32, 3) := by decide +kernel
theorem d_Service_notePing_17 : decode prog_7_method_2_code 17 = .ok (.ifCond .ne 16, 3) := by decide +kernel
theorem d_Service_notePing_20 : decode prog_7_method_2_code 20 = .ok (.aload_n 0, 1) := by decide +kernel
theorem d_Service_notePing_21 : decode prog_7_method_2_code 21 = .ok (.aload_n 1, 1) := by decide +kernel
theorem d_Service_notePing_22 : decode prog_7_method_2_code 22 = .ok (.getfield 26, 3) := by decide +kernel
theorem d_Service_notePing_25 : decode prog_7_method_2_code 25 = .ok (.bipush 7, 2) := by decide +kernel
theorem d_Service_notePing_27 : decode prog_7_method_2_code 27 = .ok (.invokevirtual 35, 3) := by decide +kernel
theorem d_Service_notePing_30 : decode prog_7_method_2_code 30 = .ok (.goto 36, 3) := by decide +kernel
theorem d_Service_notePing_33 : decode prog_7_method_2_code 33 = .ok (.aload_n 1, 1) := by decide +kernel
theorem d_Service_notePing_34 : decode prog_7_method_2_code 34 = .ok (.getfield 26, 3) := by decide +kernel
theorem d_Service_notePing_37 : decode prog_7_method_2_code 37 = .ok (.aload_n 0, 1) := by decide +kernel
theorem d_Service_notePing_38 : decode prog_7_method_2_code 38 = .ok (.getfield 12, 3) := by decide +kernel
theorem d_Service_notePing_41 : decode prog_7_method_2_code 41 = .ok (.getfield 39, 3) := by decide +kernel
theorem d_Service_notePing_44 : decode prog_7_method_2_code 44 = .ok (.if_icmp .ne 22, 3) := by decide +kernel
theorem d_Service_notePing_47 : decode prog_7_method_2_code 47 = .ok (.aload_n 1, 1) := by decide +kernel
theorem d_Service_notePing_48 : decode prog_7_method_2_code 48 = .ok (.getfield 42, 3) := by decide +kernel
theorem d_Service_notePing_51 : decode prog_7_method_2_code 51 = .ok (.aload_n 0, 1) := by decide +kernel
theorem d_Service_notePing_52 : decode prog_7_method_2_code 52 = .ok (.getfield 12, 3) := by decide +kernel
theorem d_Service_notePing_55 : decode prog_7_method_2_code 55 = .ok (.getfield 32, 3) := by decide +kernel
theorem d_Service_notePing_58 : decode prog_7_method_2_code 58 = .ok (.if_icmp .ne 8, 3) := by decide +kernel
theorem d_Service_notePing_61 : decode prog_7_method_2_code 61 = .ok (.aload_n 0, 1) := by decide +kernel
theorem d_Service_notePing_62 : decode prog_7_method_2_code 62 = .ok (.iconst 1, 1) := by decide +kernel
theorem d_Service_notePing_63 : decode prog_7_method_2_code 63 = .ok (.putfield 18, 3) := by decide +kernel
theorem d_Service_notePing_66 : decode prog_7_method_2_code 66 = .ok (.return_, 1) := by decide +kernel
def S_Service_notePing (n : Nat) (π : Nat → Nat) (s : S3) (L : Nat) (t : Int32) : S3 := if (s 6 0 7) = 0 then (S_Service_changeView π (u3 s 15 0 ((s 5 4 L).toNatClampNeg) t) (s 5 4 L) 7) else if (s 5 4 L) = (s 6 1 7) then (if (s 5 5 L) = (s 6 0 7) then (u3 (u3 s 15 0 ((s 5 4 L).toNatClampNeg) t) 3 2 0 1) else u3 s 15 0 ((s 5 4 L).toNatClampNeg) t) else u3 s 15 0 ((s 5 4 L).toNatClampNeg) t
set_option maxHeartbeats 4000000 in
set_option maxRecDepth 100000 in
theorem c_Service_notePing {l : Launch} {D : va_G} {K : Nat → ClassId} {ad : Nat → Nat → Nat} {n : Nat} {π : Nat → Nat} {s : S3} {L : Nat} {t : Int32} (hJ : zw_J (cRL n) ad) (mL : (5, L) ∈ cRL n) (hp : vp_in (s 5 4 L) n) : zM l y_Service_notePing ws_Service_notePing ({ frames := 1, cells := 0, slots := 0, locals := 22 }) D zCl (zTys K) (cRL n) ad [.ref (ad 3 0), .ref (ad 5 L), .int t] (kC K ad n s π) (none) (kC K ad n (S_Service_notePing n π s L t) π) := by
  refine zM.of (cc := prog_7_method_2_code) (maxL := 3) (ret := (Option.none : Option Jvm.ClassFile.FieldType)) (by decide) rfl (Nat.le_of_ble_eq_true rfl) ?_
  intro pP eE U mM bL mT cO S hr hlk hK
  have hts := S.2.2.2.2
  have ht := fun w h => hts w (List.mem_cons_of_mem _ h)
  refine z_aload_n S d_Service_notePing_0 rfl 0 rfl 1 rfl ?_
  refine z_get S hK hin_Service rl_3 kC_3 rfl 1 (Nat.le_of_ble_eq_true rfl) (ht _ w_194) (fun _ h => h) d_Service_notePing_1 4 rfl (.ref (ad 15 0)) rfl ?_
  refine z_aload_n S d_Service_notePing_4 rfl 1 rfl 5 rfl ?_
  refine z_get S hK hin_Letter mL kC_5 rfl 4 (Nat.le_of_ble_eq_true rfl) (ht _ w_234) (fun _ h => h) d_Service_notePing_5 8 rfl (.int (s 5 4 L)) rfl ?_
  refine z_iload_n S d_Service_notePing_8 rfl 2 rfl 9 rfl ?_
  refine z_iast S hJ hK rl_15 0 kC_15 rfl hp rfl upI_15 d_Service_notePing_9 10 rfl ?_
  refine z_aload_n S d_Service_notePing_10 rfl 0 rfl 11 rfl ?_
  refine z_get S hK hin_Service rl_3 kC_3 rfl 0 (Nat.le_of_ble_eq_true rfl) (ht _ w_192) (fun _ h => h) d_Service_notePing_11 14 rfl (.ref (ad 6 7)) rfl ?_
  refine z_get S hK hin_View rl_67 kC_6 rfl 0 (Nat.le_of_ble_eq_true rfl) (ht _ w_41) (fun _ h => h) d_Service_notePing_14 17 rfl (.int (s 6 0 7)) rfl ?_
  refine z_if_ne S d_Service_notePing_17 33 (by decide) 20 rfl (fun h1 => ?_) (fun h1 => ?_)
  · refine z_aload_n S d_Service_notePing_33 rfl 1 rfl 34 rfl ?_
    refine z_get S hK hin_Letter mL kC_5 rfl 4 (Nat.le_of_ble_eq_true rfl) (ht _ w_234) (fun _ h => h) d_Service_notePing_34 37 rfl (.int (s 5 4 L)) rfl ?_
    refine z_aload_n S d_Service_notePing_37 rfl 0 rfl 38 rfl ?_
    refine z_get S hK hin_Service rl_3 kC_3 rfl 0 (Nat.le_of_ble_eq_true rfl) (ht _ w_192) (fun _ h => h) d_Service_notePing_38 41 rfl (.ref (ad 6 7)) rfl ?_
    refine z_get S hK hin_View rl_67 kC_6 rfl 1 (Nat.le_of_ble_eq_true rfl) (ht _ w_46) (fun _ h => h) d_Service_notePing_41 44 rfl (.int (s 6 1 7)) rfl ?_
    refine z_icmp_ne S d_Service_notePing_44 66 (by decide) 47 rfl (fun h2 => ?_) (fun h2 => ?_)
    · exact z_vret S hr hlk d_Service_notePing_66 (kC_eq (by unfold S_Service_notePing; simp only [if_neg h1, if_neg h2]))
    · refine z_aload_n S d_Service_notePing_47 rfl 1 rfl 48 rfl ?_
      refine z_get S hK hin_Letter mL kC_5 rfl 5 (Nat.le_of_ble_eq_true rfl) (ht _ w_238) (fun _ h => h) d_Service_notePing_48 51 rfl (.int (s 5 5 L)) rfl ?_
      refine z_aload_n S d_Service_notePing_51 rfl 0 rfl 52 rfl ?_
      refine z_get S hK hin_Service rl_3 kC_3 rfl 0 (Nat.le_of_ble_eq_true rfl) (ht _ w_192) (fun _ h => h) d_Service_notePing_52 55 rfl (.ref (ad 6 7)) rfl ?_
      refine z_get S hK hin_View rl_67 kC_6 rfl 0 (Nat.le_of_ble_eq_true rfl) (ht _ w_41) (fun _ h => h) d_Service_notePing_55 58 rfl (.int (s 6 0 7)) rfl ?_
      refine z_icmp_ne S d_Service_notePing_58 66 (by decide) 61 rfl (fun h3 => ?_) (fun h3 => ?_)
      · exact z_vret S hr hlk d_Service_notePing_66 (kC_eq (by unfold S_Service_notePing; simp only [if_neg h1, if_pos h2, if_neg h3]))
      · refine z_aload_n S d_Service_notePing_61 rfl 0 rfl 62 rfl ?_
        refine z_iconst S d_Service_notePing_62 1 (by decide) 63 rfl ?_
        refine z_put S hJ hK hin_Service t_Service ok_Service nm_Service rl_3 kC_3 rfl 2 (Nat.le_of_ble_eq_true rfl) (ht _ w_195) (fun _ h => h) rfl (zb_n zb_1) (zb_f zb_1) (Nat.le_of_ble_eq_true rfl) up_3_2 d_Service_notePing_63 66 rfl ?_
        exact z_vret S hr hlk d_Service_notePing_66 (kC_eq (by unfold S_Service_notePing; simp only [if_neg h1, if_pos h2, if_pos h3]))
  · refine z_aload_n S d_Service_notePing_20 rfl 0 rfl 21 rfl ?_
    refine z_aload_n S d_Service_notePing_21 rfl 1 rfl 22 rfl ?_
    refine z_get S hK hin_Letter mL kC_5 rfl 4 (Nat.le_of_ble_eq_true rfl) (ht _ w_234) (fun _ h => h) d_Service_notePing_22 25 rfl (.int (s 5 4 L)) rfl ?_
    refine z_bipush S d_Service_notePing_25 7 (by decide) 27 rfl ?_
    refine z_callV S hK (As := [.int (s 5 4 L), .int 7]) (rest := []) (c_Service_changeView (x := s 5 4 L) (y := 7) hJ) (cw_Service_changeView hts w_346 rfl rfl ⟨(Nat.le_of_ble_eq_true rfl), (Nat.le_of_ble_eq_true rfl)⟩) rl_3 kC_3 rfl rfl rfl (Nat.le_of_ble_eq_true rfl) d_Service_notePing_27 30 rfl [] rfl ?_
    refine z_goto S d_Service_notePing_30 66 (by decide) ?_
    exact z_vret S hr hlk d_Service_notePing_66 (kC_eq (by unfold S_Service_notePing; simp only [if_pos h1]))
theorem d_Post_has_0 : decode prog_5_method_2_code 0 = .ok (.iload_n 1, 1) := by decide +kernel
theorem d_Post_has_1 : decode prog_5_method_2_code 1 = .ok (.ifCond .lt 15, 3) := by decide +kernel
theorem d_Post_has_4 : decode prog_5_method_2_code 4 = .ok (.iload_n 1, 1) := by decide +kernel
theorem d_Post_has_5 : decode prog_5_method_2_code 5 = .ok (.aload_n 0, 1) := by decide +kernel
theorem d_Post_has_6 : decode prog_5_method_2_code 6 = .ok (.getfield 22, 3) := by decide +kernel
theorem d_Post_has_9 : decode prog_5_method_2_code 9 = .ok (.if_icmp .ge 7, 3) := by decide +kernel
theorem d_Post_has_12 : decode prog_5_method_2_code 12 = .ok (.iconst 1, 1) := by decide +kernel
theorem d_Post_has_13 : decode prog_5_method_2_code 13 = .ok (.goto 4, 3) := by decide +kernel
theorem d_Post_has_16 : decode prog_5_method_2_code 16 = .ok (.iconst 0, 1) := by decide +kernel
theorem d_Post_has_17 : decode prog_5_method_2_code 17 = .ok (.ireturn, 1) := by decide +kernel
def v_Post_has (x0 : Int32) (x : Int32) : Int32 := if x < 0 then 0 else if (x0) ≤ x then 0 else 1
theorem zbv_Post_has {x0 : Int32} {x : Int32} : zb (v_Post_has x0 x) := by
  unfold v_Post_has zb
  repeat' split
  all_goals simp
set_option maxHeartbeats 4000000 in
set_option maxRecDepth 100000 in
theorem c_Post_has {l : Launch} {D : va_G} {K : Nat → ClassId} {ad : Nat → Nat → Nat} {n : Nat} {π : Nat → Nat} {s : S3} {x : Int32} (hJ : zw_J (cRL n) ad) : zM l y_Post_has ws_Post_has ({ frames := 0, cells := 0, slots := 0, locals := 0 }) D zCl (zTys K) (cRL n) ad [.ref (ad 4 0), .int x] (kC K ad n s π) (some (.int (v_Post_has (s 4 2 0) x))) (kC K ad n (s) π) := by
  refine zM.of (cc := prog_5_method_2_code) (maxL := 2) (ret := (Option.some Jvm.ClassFile.FieldType.boolean)) (by decide) rfl (Nat.le_of_ble_eq_true rfl) ?_
  intro pP eE U mM bL mT cO S hr hlk hK
  have hts := S.2.2.2.2
  have ht := fun w h => hts w (List.mem_cons_of_mem _ h)
  refine z_iload_n S d_Post_has_0 rfl 1 rfl 1 rfl ?_
  refine z_if_lt S d_Post_has_1 16 (by decide) 4 rfl (fun h1 => ?_) (fun h1 => ?_)
  · refine z_iconst S d_Post_has_16 0 (by decide) 17 rfl ?_
    exact z_zret S hr (zb_n zb_0) hlk d_Post_has_17 (by unfold v_Post_has; simp only [if_pos h1]) rfl
  · refine z_iload_n S d_Post_has_4 rfl 1 rfl 5 rfl ?_
    refine z_aload_n S d_Post_has_5 rfl 0 rfl 6 rfl ?_
    refine z_get S hK hin_Post rl_4 kC_4 rfl 2 (Nat.le_of_ble_eq_true rfl) (ht _ w_269) (fun _ h => h) d_Post_has_6 9 rfl (.int (s 4 2 0)) rfl ?_
    refine z_icmp_ge S d_Post_has_9 16 (by decide) 12 rfl (fun h2 => ?_) (fun h2 => ?_)
    · refine z_iconst S d_Post_has_16 0 (by decide) 17 rfl ?_
      exact z_zret S hr (zb_n zb_0) hlk d_Post_has_17 (by unfold v_Post_has; simp only [if_neg h1, if_pos h2]) rfl
    · refine z_iconst S d_Post_has_12 1 (by decide) 13 rfl ?_
      refine z_goto S d_Post_has_13 17 (by decide) ?_
      exact z_zret S hr (zb_n zb_1) hlk d_Post_has_17 (by unfold v_Post_has; simp only [if_neg h1, if_neg h2]) rfl
theorem d_Post_next_0 : decode prog_5_method_3_code 0 = .ok (.aload_n 0, 1) := by decide +kernel
theorem d_Post_next_1 : decode prog_5_method_3_code 1 = .ok (.getfield 18, 3) := by decide +kernel
theorem d_Post_next_4 : decode prog_5_method_3_code 4 = .ok (.astore_n 3, 1) := by decide +kernel
theorem d_Post_next_5 : decode prog_5_method_3_code 5 = .ok (.aload_n 0, 1) := by decide +kernel
theorem d_Post_next_6 : decode prog_5_method_3_code 6 = .ok (.getfield 22, 3) := by decide +kernel
theorem d_Post_next_9 : decode prog_5_method_3_code 9 = .ok (.bipush 32, 2) := by decide +kernel
theorem d_Post_next_11 : decode prog_5_method_3_code 11 = .ok (.if_icmp .ge 23, 3) := by decide +kernel
theorem d_Post_next_14 : decode prog_5_method_3_code 14 = .ok (.aload_n 0, 1) := by decide +kernel
theorem d_Post_next_15 : decode prog_5_method_3_code 15 = .ok (.getfield 11, 3) := by decide +kernel
theorem d_Post_next_18 : decode prog_5_method_3_code 18 = .ok (.aload_n 0, 1) := by decide +kernel
theorem d_Post_next_19 : decode prog_5_method_3_code 19 = .ok (.getfield 22, 3) := by decide +kernel
theorem d_Post_next_22 : decode prog_5_method_3_code 22 = .ok (.aaload, 1) := by decide +kernel
theorem d_Post_next_23 : decode prog_5_method_3_code 23 = .ok (.astore_n 3, 1) := by decide +kernel
theorem d_Post_next_24 : decode prog_5_method_3_code 24 = .ok (.aload_n 0, 1) := by decide +kernel
theorem d_Post_next_25 : decode prog_5_method_3_code 25 = .ok (.dup, 1) := by decide +kernel
theorem d_Post_next_26 : decode prog_5_method_3_code 26 = .ok (.getfield 22, 3) := by decide +kernel
theorem d_Post_next_29 : decode prog_5_method_3_code 29 = .ok (.iconst 1, 1) := by decide +kernel
theorem d_Post_next_30 : decode prog_5_method_3_code 30 = .ok (.iadd, 1) := by decide +kernel
theorem d_Post_next_31 : decode prog_5_method_3_code 31 = .ok (.putfield 22, 3) := by decide +kernel
theorem d_Post_next_34 : decode prog_5_method_3_code 34 = .ok (.aload_n 3, 1) := by decide +kernel
theorem d_Post_next_35 : decode prog_5_method_3_code 35 = .ok (.iload_n 1, 1) := by decide +kernel
theorem d_Post_next_36 : decode prog_5_method_3_code 36 = .ok (.putfield 26, 3) := by decide +kernel
theorem d_Post_next_39 : decode prog_5_method_3_code 39 = .ok (.aload_n 3, 1) := by decide +kernel
theorem d_Post_next_40 : decode prog_5_method_3_code 40 = .ok (.iload_n 2, 1) := by decide +kernel
theorem d_Post_next_41 : decode prog_5_method_3_code 41 = .ok (.putfield 29, 3) := by decide +kernel
theorem d_Post_next_44 : decode prog_5_method_3_code 44 = .ok (.aload_n 3, 1) := by decide +kernel
theorem d_Post_next_45 : decode prog_5_method_3_code 45 = .ok (.areturn, 1) := by decide +kernel
def nxL (w : Int32) (π : Nat → Nat) : Nat := if 32 ≤ w then 33 else π w.toNatClampNeg
def nxW (w : Int32) : Int32 := if 32 ≤ w then w else w + 1
def S_Post_next (π : Nat → Nat) (s : S3) (k p : Int32) : S3 := u3 (u3 (u3 s 4 2 0 (nxW (s 4 2 0))) 5 3 (nxL (s 4 2 0) π) k) 5 4 (nxL (s 4 2 0) π) p
theorem rl_nx {n : Nat} {π : Nat → Nat} {w : Int32} (hπ : ∀ j, π j < 34) : (5, nxL w π) ∈ cRL n := by
  unfold nxL
  split
  · exact rl_533
  · exact rl_let (hπ _)
set_option maxHeartbeats 4000000 in
set_option maxRecDepth 100000 in
theorem c_Post_next {l : Launch} {D : va_G} {K : Nat → ClassId} {ad : Nat → Nat → Nat} {n : Nat} {π : Nat → Nat} {s : S3} {k p : Int32} (hJ : zw_J (cRL n) ad) (hw : vp_in (s 4 2 0) 33) (hπ : ∀ j, π j < 34) : zM l y_Post_next ws_Post_next ({ frames := 0, cells := 0, slots := 0, locals := 0 }) D zCl (zTys K) (cRL n) ad [.ref (ad 4 0), .int k, .int p] (kC K ad n s π) (some (.ref (ad 5 (nxL (s 4 2 0) π)))) (kC K ad n (S_Post_next π s k p) π) := by
  refine zM.of (cc := prog_5_method_3_code) (maxL := 4) (ret := (Option.some (Jvm.ClassFile.FieldType.object "LeasedViewStore$Letter"))) (by decide) rfl (Nat.le_of_ble_eq_true rfl) ?_
  intro pP eE U mM bL mT cO S hr hlk hK
  have hts := S.2.2.2.2
  have ht := fun w h => hts w (List.mem_cons_of_mem _ h)
  refine z_aload_n S d_Post_next_0 rfl 0 rfl 1 rfl ?_
  refine z_get S hK hin_Post rl_4 kC_4 rfl 1 (Nat.le_of_ble_eq_true rfl) (ht _ w_268) (fun _ h => h) d_Post_next_1 4 rfl (.ref (ad 5 33)) rfl ?_
  refine z_astore_n S d_Post_next_4 rfl (Nat.le_of_ble_eq_true rfl) [(3, .ref (ad 5 33)), (0, .ref (ad 4 0)), (1, .int k), (2, .int p)] rfl 5 rfl ?_
  refine z_aload_n S d_Post_next_5 rfl 1 rfl 6 rfl ?_
  refine z_get S hK hin_Post rl_4 kC_4 rfl 2 (Nat.le_of_ble_eq_true rfl) (ht _ w_269) (fun _ h => h) d_Post_next_6 9 rfl (.int (s 4 2 0)) rfl ?_
  refine z_bipush S d_Post_next_9 32 (by decide) 11 rfl ?_
  refine z_icmp_ge S d_Post_next_11 34 (by decide) 14 rfl (fun h1 => ?_) (fun h1 => ?_)
  · refine z_aload_n S d_Post_next_34 rfl 0 rfl 35 rfl ?_
    refine z_iload_n S d_Post_next_35 rfl 2 rfl 36 rfl ?_
    refine z_put S hJ hK hin_Letter t_Letter ok_Letter nm_Letter rl_533 kC_5 rfl 3 (Nat.le_of_ble_eq_true rfl) (ht _ w_231) (fun _ h => h) rfl rfl rfl (Nat.le_of_ble_eq_true rfl) up_5_3 d_Post_next_36 39 rfl ?_
    refine z_aload_n S d_Post_next_39 rfl 0 rfl 40 rfl ?_
    refine z_iload_n S d_Post_next_40 rfl 3 rfl 41 rfl ?_
    refine z_put S hJ hK hin_Letter t_Letter ok_Letter nm_Letter rl_533 kC_5 rfl 4 (Nat.le_of_ble_eq_true rfl) (ht _ w_235) (fun _ h => h) rfl rfl rfl (Nat.le_of_ble_eq_true rfl) up_5_4 d_Post_next_41 44 rfl ?_
    refine z_aload_n S d_Post_next_44 rfl 0 rfl 45 rfl ?_
    exact z_aret S hr (Or.inl ⟨_, rfl⟩) hlk d_Post_next_45 (by rw [nxL, if_pos h1]) (kC_eq (by simp only [S_Post_next, nxL, nxW, if_pos h1, u3_id]))
  · refine z_aload_n S d_Post_next_14 rfl 1 rfl 15 rfl ?_
    refine z_get S hK hin_Post rl_4 kC_4 rfl 0 (Nat.le_of_ble_eq_true rfl) (ht _ w_266) (fun _ h => h) d_Post_next_15 18 rfl (.ref (ad 12 0)) rfl ?_
    refine z_aload_n S d_Post_next_18 rfl 1 rfl 19 rfl ?_
    refine z_get S hK hin_Post rl_4 kC_4 rfl 2 (Nat.le_of_ble_eq_true rfl) (ht _ w_269) (fun _ h => h) d_Post_next_19 22 rfl (.int (s 4 2 0)) rfl ?_
    refine z_aald S hK rl_12 5 kC_12 rfl hw rfl d_Post_next_22 23 rfl ?_
    refine z_astore_n S d_Post_next_23 rfl (Nat.le_of_ble_eq_true rfl) [(3, .ref (ad 5 (π ((s 4 2 0).toNatClampNeg)))), (0, .ref (ad 4 0)), (1, .int k), (2, .int p)] rfl 24 rfl ?_
    refine z_aload_n S d_Post_next_24 rfl 1 rfl 25 rfl ?_
    refine z_dup S d_Post_next_25 rfl 26 rfl ?_
    refine z_get S hK hin_Post rl_4 kC_4 rfl 2 (Nat.le_of_ble_eq_true rfl) (ht _ w_269) (fun _ h => h) d_Post_next_26 29 rfl (.int (s 4 2 0)) rfl ?_
    refine z_iconst S d_Post_next_29 1 (by decide) 30 rfl ?_
    refine z_iadd S d_Post_next_30 31 rfl ?_
    refine z_put S hJ hK hin_Post t_Post ok_Post nm_Post rl_4 kC_4 rfl 2 (Nat.le_of_ble_eq_true rfl) (ht _ w_269) (fun _ h => h) rfl rfl rfl (Nat.le_of_ble_eq_true rfl) up_4_2 d_Post_next_31 34 rfl ?_
    refine z_aload_n S d_Post_next_34 rfl 0 rfl 35 rfl ?_
    refine z_iload_n S d_Post_next_35 rfl 2 rfl 36 rfl ?_
    refine z_put S hJ hK hin_Letter t_Letter ok_Letter nm_Letter (rl_let (hπ _)) kC_5 rfl 3 (Nat.le_of_ble_eq_true rfl) (ht _ w_231) (fun _ h => h) rfl rfl rfl (Nat.le_of_ble_eq_true rfl) up_5_3 d_Post_next_36 39 rfl ?_
    refine z_aload_n S d_Post_next_39 rfl 0 rfl 40 rfl ?_
    refine z_iload_n S d_Post_next_40 rfl 3 rfl 41 rfl ?_
    refine z_put S hJ hK hin_Letter t_Letter ok_Letter nm_Letter (rl_let (hπ _)) kC_5 rfl 4 (Nat.le_of_ble_eq_true rfl) (ht _ w_235) (fun _ h => h) rfl rfl rfl (Nat.le_of_ble_eq_true rfl) up_5_4 d_Post_next_41 44 rfl ?_
    refine z_aload_n S d_Post_next_44 rfl 0 rfl 45 rfl ?_
    exact z_aret S hr (Or.inl ⟨_, rfl⟩) hlk d_Post_next_45 (by rw [nxL, if_neg h1]) (kC_eq (by simp only [S_Post_next, nxL, nxW, if_neg h1, u3_id]))
end
section
theorem d_Store_isServer_0 : decode prog_1_method_20_code 0 = .ok (.iload_n 1, 1) := by decide +kernel
theorem d_Store_isServer_1 : decode prog_1_method_20_code 1 = .ok (.ifCond .lt 16, 3) := by decide +kernel
theorem d_Store_isServer_4 : decode prog_1_method_20_code 4 = .ok (.iload_n 1, 1) := by decide +kernel
theorem d_Store_isServer_5 : decode prog_1_method_20_code 5 = .ok (.aload_n 0, 1) := by decide +kernel
theorem d_Store_isServer_6 : decode prog_1_method_20_code 6 = .ok (.getfield 20, 3) := by decide +kernel
theorem d_Store_isServer_9 : decode prog_1_method_20_code 9 = .ok (.arraylength, 1) := by decide +kernel
theorem d_Store_isServer_10 : decode prog_1_method_20_code 10 = .ok (.if_icmp .ge 7, 3) := by decide +kernel
theorem d_Store_isServer_13 : decode prog_1_method_20_code 13 = .ok (.iconst 1, 1) := by decide +kernel
theorem d_Store_isServer_14 : decode prog_1_method_20_code 14 = .ok (.goto 4, 3) := by decide +kernel
theorem d_Store_isServer_17 : decode prog_1_method_20_code 17 = .ok (.iconst 0, 1) := by decide +kernel
theorem d_Store_isServer_18 : decode prog_1_method_20_code 18 = .ok (.ireturn, 1) := by decide +kernel
def v_Store_isServer (n : Nat) (x : Int32) : Int32 := if x < 0 then 0 else if (nI n) ≤ x then 0 else 1
theorem zbv_Store_isServer {n : Nat} {x : Int32} : zb (v_Store_isServer n  x) := by
  unfold v_Store_isServer zb
  repeat' split
  all_goals simp
set_option maxHeartbeats 4000000 in
set_option maxRecDepth 100000 in
theorem c_Store_isServer {l : Launch} {D : va_G} {K : Nat → ClassId} {ad : Nat → Nat → Nat} {n : Nat} {π : Nat → Nat} {s : S3} {x : Int32} (hJ : zw_J (cRL n) ad) : zM l y_Store_isServer ws_Store_isServer ({ frames := 0, cells := 0, slots := 0, locals := 0 }) D zCl (zTys K) (cRL n) ad [.ref (ad 0 0), .int x] (kC K ad n s π) (some (.int (v_Store_isServer n  x))) (kC K ad n (s) π) := by
  refine zM.of (cc := prog_1_method_20_code) (maxL := 2) (ret := (Option.some Jvm.ClassFile.FieldType.boolean)) (by decide) rfl (Nat.le_of_ble_eq_true rfl) ?_
  intro pP eE U mM bL mT cO S hr hlk hK
  have hts := S.2.2.2.2
  have ht := fun w h => hts w (List.mem_cons_of_mem _ h)
  refine z_iload_n S d_Store_isServer_0 rfl 1 rfl 1 rfl ?_
  refine z_if_lt S d_Store_isServer_1 17 (by decide) 4 rfl (fun h1 => ?_) (fun h1 => ?_)
  · refine z_iconst S d_Store_isServer_17 0 (by decide) 18 rfl ?_
    exact z_zret S hr (zb_n zb_0) hlk d_Store_isServer_18 (by unfold v_Store_isServer; simp only [if_pos h1]) rfl
  · refine z_iload_n S d_Store_isServer_4 rfl 1 rfl 5 rfl ?_
    refine z_aload_n S d_Store_isServer_5 rfl 0 rfl 6 rfl ?_
    refine z_get S hK hin_Store rl_0 kC_0 rfl 0 (Nat.le_of_ble_eq_true rfl) (ht _ w_278) (fun _ h => h) d_Store_isServer_6 9 rfl (.ref (ad 10 0)) rfl ?_
    refine z_alen S hK rl_10 3 kC_10 rfl (v := nI n) rfl d_Store_isServer_9 10 rfl ?_
    refine z_icmp_ge S d_Store_isServer_10 17 (by decide) 13 rfl (fun h2 => ?_) (fun h2 => ?_)
    · refine z_iconst S d_Store_isServer_17 0 (by decide) 18 rfl ?_
      exact z_zret S hr (zb_n zb_0) hlk d_Store_isServer_18 (by unfold v_Store_isServer; simp only [if_neg h1, if_pos h2]) rfl
    · refine z_iconst S d_Store_isServer_13 1 (by decide) 14 rfl ?_
      refine z_goto S d_Store_isServer_14 18 (by decide) ?_
      exact z_zret S hr (zb_n zb_1) hlk d_Store_isServer_18 (by unfold v_Store_isServer; simp only [if_neg h1, if_neg h2]) rfl
theorem d_Store_isClient_0 : decode prog_1_method_21_code 0 = .ok (.iload_n 1, 1) := by decide +kernel
theorem d_Store_isClient_1 : decode prog_1_method_21_code 1 = .ok (.ifCond .lt 12, 3) := by decide +kernel
theorem d_Store_isClient_4 : decode prog_1_method_21_code 4 = .ok (.iload_n 1, 1) := by decide +kernel
theorem d_Store_isClient_5 : decode prog_1_method_21_code 5 = .ok (.iconst 3, 1) := by decide +kernel
theorem d_Store_isClient_6 : decode prog_1_method_21_code 6 = .ok (.if_icmp .ge 7, 3) := by decide +kernel
theorem d_Store_isClient_9 : decode prog_1_method_21_code 9 = .ok (.iconst 1, 1) := by decide +kernel
theorem d_Store_isClient_10 : decode prog_1_method_21_code 10 = .ok (.goto 4, 3) := by decide +kernel
theorem d_Store_isClient_13 : decode prog_1_method_21_code 13 = .ok (.iconst 0, 1) := by decide +kernel
theorem d_Store_isClient_14 : decode prog_1_method_21_code 14 = .ok (.ireturn, 1) := by decide +kernel
def v_Store_isClient (x : Int32) : Int32 := if x < 0 then 0 else if 3 ≤ x then 0 else 1
theorem zbv_Store_isClient {x : Int32} : zb (v_Store_isClient  x) := by
  unfold v_Store_isClient zb
  repeat' split
  all_goals simp
set_option maxHeartbeats 4000000 in
set_option maxRecDepth 100000 in
theorem c_Store_isClient {l : Launch} {D : va_G} {K : Nat → ClassId} {ad : Nat → Nat → Nat} {n : Nat} {π : Nat → Nat} {s : S3} {x : Int32} (hJ : zw_J (cRL n) ad) : zM l y_Store_isClient ws_Store_isClient ({ frames := 0, cells := 0, slots := 0, locals := 0 }) D zCl (zTys K) (cRL n) ad [.ref (ad 0 0), .int x] (kC K ad n s π) (some (.int (v_Store_isClient  x))) (kC K ad n (s) π) := by
  refine zM.of (cc := prog_1_method_21_code) (maxL := 2) (ret := (Option.some Jvm.ClassFile.FieldType.boolean)) (by decide) rfl (Nat.le_of_ble_eq_true rfl) ?_
  intro pP eE U mM bL mT cO S hr hlk hK
  have hts := S.2.2.2.2
  have ht := fun w h => hts w (List.mem_cons_of_mem _ h)
  refine z_iload_n S d_Store_isClient_0 rfl 1 rfl 1 rfl ?_
  refine z_if_lt S d_Store_isClient_1 13 (by decide) 4 rfl (fun h1 => ?_) (fun h1 => ?_)
  · refine z_iconst S d_Store_isClient_13 0 (by decide) 14 rfl ?_
    exact z_zret S hr (zb_n zb_0) hlk d_Store_isClient_14 (by unfold v_Store_isClient; simp only [if_pos h1]) rfl
  · refine z_iload_n S d_Store_isClient_4 rfl 1 rfl 5 rfl ?_
    refine z_iconst S d_Store_isClient_5 3 (by decide) 6 rfl ?_
    refine z_icmp_ge S d_Store_isClient_6 13 (by decide) 9 rfl (fun h2 => ?_) (fun h2 => ?_)
    · refine z_iconst S d_Store_isClient_13 0 (by decide) 14 rfl ?_
      exact z_zret S hr (zb_n zb_0) hlk d_Store_isClient_14 (by unfold v_Store_isClient; simp only [if_neg h1, if_pos h2]) rfl
    · refine z_iconst S d_Store_isClient_9 1 (by decide) 10 rfl ?_
      refine z_goto S d_Store_isClient_10 14 (by decide) ?_
      exact z_zret S hr (zb_n zb_1) hlk d_Store_isClient_14 (by unfold v_Store_isClient; simp only [if_neg h1, if_neg h2]) rfl
theorem d_Store_isCell_0 : decode prog_1_method_22_code 0 = .ok (.iload_n 1, 1) := by decide +kernel
theorem d_Store_isCell_1 : decode prog_1_method_22_code 1 = .ok (.ifCond .lt 12, 3) := by decide +kernel
theorem d_Store_isCell_4 : decode prog_1_method_22_code 4 = .ok (.iload_n 1, 1) := by decide +kernel
theorem d_Store_isCell_5 : decode prog_1_method_22_code 5 = .ok (.iconst 4, 1) := by decide +kernel
theorem d_Store_isCell_6 : decode prog_1_method_22_code 6 = .ok (.if_icmp .ge 7, 3) := by decide +kernel
theorem d_Store_isCell_9 : decode prog_1_method_22_code 9 = .ok (.iconst 1, 1) := by decide +kernel
theorem d_Store_isCell_10 : decode prog_1_method_22_code 10 = .ok (.goto 4, 3) := by decide +kernel
theorem d_Store_isCell_13 : decode prog_1_method_22_code 13 = .ok (.iconst 0, 1) := by decide +kernel
theorem d_Store_isCell_14 : decode prog_1_method_22_code 14 = .ok (.ireturn, 1) := by decide +kernel
def v_Store_isCell (x : Int32) : Int32 := if x < 0 then 0 else if 4 ≤ x then 0 else 1
theorem zbv_Store_isCell {x : Int32} : zb (v_Store_isCell  x) := by
  unfold v_Store_isCell zb
  repeat' split
  all_goals simp
set_option maxHeartbeats 4000000 in
set_option maxRecDepth 100000 in
theorem c_Store_isCell {l : Launch} {D : va_G} {K : Nat → ClassId} {ad : Nat → Nat → Nat} {n : Nat} {π : Nat → Nat} {s : S3} {x : Int32} (hJ : zw_J (cRL n) ad) : zM l y_Store_isCell ws_Store_isCell ({ frames := 0, cells := 0, slots := 0, locals := 0 }) D zCl (zTys K) (cRL n) ad [.ref (ad 0 0), .int x] (kC K ad n s π) (some (.int (v_Store_isCell  x))) (kC K ad n (s) π) := by
  refine zM.of (cc := prog_1_method_22_code) (maxL := 2) (ret := (Option.some Jvm.ClassFile.FieldType.boolean)) (by decide) rfl (Nat.le_of_ble_eq_true rfl) ?_
  intro pP eE U mM bL mT cO S hr hlk hK
  have hts := S.2.2.2.2
  have ht := fun w h => hts w (List.mem_cons_of_mem _ h)
  refine z_iload_n S d_Store_isCell_0 rfl 1 rfl 1 rfl ?_
  refine z_if_lt S d_Store_isCell_1 13 (by decide) 4 rfl (fun h1 => ?_) (fun h1 => ?_)
  · refine z_iconst S d_Store_isCell_13 0 (by decide) 14 rfl ?_
    exact z_zret S hr (zb_n zb_0) hlk d_Store_isCell_14 (by unfold v_Store_isCell; simp only [if_pos h1]) rfl
  · refine z_iload_n S d_Store_isCell_4 rfl 1 rfl 5 rfl ?_
    refine z_iconst S d_Store_isCell_5 4 (by decide) 6 rfl ?_
    refine z_icmp_ge S d_Store_isCell_6 13 (by decide) 9 rfl (fun h2 => ?_) (fun h2 => ?_)
    · refine z_iconst S d_Store_isCell_13 0 (by decide) 14 rfl ?_
      exact z_zret S hr (zb_n zb_0) hlk d_Store_isCell_14 (by unfold v_Store_isCell; simp only [if_neg h1, if_pos h2]) rfl
    · refine z_iconst S d_Store_isCell_9 1 (by decide) 10 rfl ?_
      refine z_goto S d_Store_isCell_10 14 (by decide) ?_
      exact z_zret S hr (zb_n zb_1) hlk d_Store_isCell_14 (by unfold v_Store_isCell; simp only [if_neg h1, if_neg h2]) rfl
theorem d_Store_clockOf_0 : decode prog_1_method_23_code 0 = .ok (.aload_n 0, 1) := by decide +kernel
theorem d_Store_clockOf_1 : decode prog_1_method_23_code 1 = .ok (.getfield 48, 3) := by decide +kernel
theorem d_Store_clockOf_4 : decode prog_1_method_23_code 4 = .ok (.aload_n 1, 1) := by decide +kernel
theorem d_Store_clockOf_5 : decode prog_1_method_23_code 5 = .ok (.getfield 56, 3) := by decide +kernel
theorem d_Store_clockOf_8 : decode prog_1_method_23_code 8 = .ok (.iadd, 1) := by decide +kernel
theorem d_Store_clockOf_9 : decode prog_1_method_23_code 9 = .ok (.ireturn, 1) := by decide +kernel
set_option maxHeartbeats 4000000 in
set_option maxRecDepth 100000 in
theorem c_Store_clockOf {l : Launch} {D : va_G} {K : Nat → ClassId} {ad : Nat → Nat → Nat} {n : Nat} {π : Nat → Nat} {s : S3} {i : Nat} (hJ : zw_J (cRL n) ad) (mi : (1, i) ∈ cRL n) : zM l y_Store_clockOf ws_Store_clockOf ({ frames := 0, cells := 0, slots := 0, locals := 0 }) D zCl (zTys K) (cRL n) ad [.ref (ad 0 0), .ref (ad 1 i)] (kC K ad n s π) (some (.int ((s 0 4 0) + (s 1 4 i)))) (kC K ad n (s) π) := by
  refine zM.of (cc := prog_1_method_23_code) (maxL := 2) (ret := (Option.some Jvm.ClassFile.FieldType.int)) (by decide) rfl (Nat.le_of_ble_eq_true rfl) ?_
  intro pP eE U mM bL mT cO S hr hlk hK
  have hts := S.2.2.2.2
  have ht := fun w h => hts w (List.mem_cons_of_mem _ h)
  refine z_aload_n S d_Store_clockOf_0 rfl 0 rfl 1 rfl ?_
  refine z_get S hK hin_Store rl_0 kC_0 rfl 4 (Nat.le_of_ble_eq_true rfl) (ht _ w_282) (fun _ h => h) d_Store_clockOf_1 4 rfl (.int (s 0 4 0)) rfl ?_
  refine z_aload_n S d_Store_clockOf_4 rfl 1 rfl 5 rfl ?_
  refine z_get S hK hin_Server mi kC_1 rfl 4 (Nat.le_of_ble_eq_true rfl) (ht _ w_126) (fun _ h => h) d_Store_clockOf_5 8 rfl (.int (s 1 4 i)) rfl ?_
  refine z_iadd S d_Store_clockOf_8 9 rfl ?_
  exact z_iret S hr hlk d_Store_clockOf_9 rfl rfl
theorem d_Store_sendAnswer_0 : decode prog_1_method_38_code 0 = .ok (.aload_n 0, 1) := by decide +kernel
theorem d_Store_sendAnswer_1 : decode prog_1_method_38_code 1 = .ok (.getfield 44, 3) := by decide +kernel
theorem d_Store_sendAnswer_4 : decode prog_1_method_38_code 4 = .ok (.bipush 8, 2) := by decide +kernel
theorem d_Store_sendAnswer_6 : decode prog_1_method_38_code 6 = .ok (.aload_n 1, 1) := by decide +kernel
theorem d_Store_sendAnswer_7 : decode prog_1_method_38_code 7 = .ok (.getfield 281, 3) := by decide +kernel
theorem d_Store_sendAnswer_10 : decode prog_1_method_38_code 10 = .ok (.invokevirtual 63, 3) := by decide +kernel
theorem d_Store_sendAnswer_13 : decode prog_1_method_38_code 13 = .ok (.astore_n 3, 1) := by decide +kernel
theorem d_Store_sendAnswer_14 : decode prog_1_method_38_code 14 = .ok (.aload_n 3, 1) := by decide +kernel
theorem d_Store_sendAnswer_15 : decode prog_1_method_38_code 15 = .ok (.getfield 140, 3) := by decide +kernel
theorem d_Store_sendAnswer_18 : decode prog_1_method_38_code 18 = .ok (.aload_n 1, 1) := by decide +kernel
theorem d_Store_sendAnswer_19 : decode prog_1_method_38_code 19 = .ok (.invokevirtual 141, 3) := by decide +kernel
theorem d_Store_sendAnswer_22 : decode prog_1_method_38_code 22 = .ok (.aload_n 3, 1) := by decide +kernel
theorem d_Store_sendAnswer_23 : decode prog_1_method_38_code 23 = .ok (.iload_n 2, 1) := by decide +kernel
theorem d_Store_sendAnswer_24 : decode prog_1_method_38_code 24 = .ok (.putfield 290, 3) := by decide +kernel
theorem d_Store_sendAnswer_27 : decode prog_1_method_38_code 27 = .ok (.return_, 1) := by decide +kernel
def S_Store_sendAnswer (π : Nat → Nat) (s : S3) (w : Nat) (x : Int32) : S3 := u3 (S_Operation_become π (S_Post_next π s 8 (s 7 0 w)) (8 + (nxL (s 4 2 0) π)) w) 5 8 (nxL (s 4 2 0) π) x
set_option maxHeartbeats 4000000 in
set_option maxRecDepth 100000 in
theorem c_Store_sendAnswer {l : Launch} {D : va_G} {K : Nat → ClassId} {ad : Nat → Nat → Nat} {n : Nat} {π : Nat → Nat} {s : S3} {w : Nat} {x : Int32} (hJ : zw_J (cRL n) ad) (mw : (7, w) ∈ cRL n) (hw : vp_in (s 4 2 0) 33) (hπ : ∀ j, π j < 34) (hop : opOK s) : zM l y_Store_sendAnswer ws_Store_sendAnswer ({ frames := 1, cells := 0, slots := 0, locals := 23 }) D zCl (zTys K) (cRL n) ad [.ref (ad 0 0), .ref (ad 7 w), .int x] (kC K ad n s π) (none) (kC K ad n (S_Store_sendAnswer π s w x) π) := by
  refine zM.of (cc := prog_1_method_38_code) (maxL := 4) (ret := (Option.none : Option Jvm.ClassFile.FieldType)) (by decide) rfl (Nat.le_of_ble_eq_true rfl) ?_
  intro pP eE U mM bL mT cO S hr hlk hK
  have hts := S.2.2.2.2
  have ht := fun w h => hts w (List.mem_cons_of_mem _ h)
  refine z_aload_n S d_Store_sendAnswer_0 rfl 0 rfl 1 rfl ?_
  refine z_get S hK hin_Store rl_0 kC_0 rfl 3 (Nat.le_of_ble_eq_true rfl) (ht _ w_281) (fun _ h => h) d_Store_sendAnswer_1 4 rfl (.ref (ad 4 0)) rfl ?_
  refine z_bipush S d_Store_sendAnswer_4 8 (by decide) 6 rfl ?_
  refine z_aload_n S d_Store_sendAnswer_6 rfl 1 rfl 7 rfl ?_
  refine z_get S hK hin_Operation mw kC_7 rfl 0 (Nat.le_of_ble_eq_true rfl) (ht _ w_92) (fun _ h => h) d_Store_sendAnswer_7 10 rfl (.int (s 7 0 w)) rfl ?_
  refine z_callV S hK (As := [.int 8, .int (s 7 0 w)]) (rest := []) (c_Post_next (k := 8) (p := s 7 0 w) hJ hw hπ) (cw_Post_next hts w_310 rfl rfl ⟨(Nat.le_of_ble_eq_true rfl), (Nat.le_of_ble_eq_true rfl)⟩) rl_4 kC_4 rfl rfl rfl (Nat.le_of_ble_eq_true rfl) d_Store_sendAnswer_10 13 rfl [.ref (ad 5 (nxL (s 4 2 0) π))] rfl ?_
  refine z_astore_n S d_Store_sendAnswer_13 rfl (Nat.le_of_ble_eq_true rfl) [(3, .ref (ad 5 (nxL (s 4 2 0) π))), (0, .ref (ad 0 0)), (1, .ref (ad 7 w)), (2, .int x)] rfl 14 rfl ?_
  refine z_aload_n S d_Store_sendAnswer_14 rfl 0 rfl 15 rfl ?_
  refine z_get S hK hin_Letter (rl_nx hπ) kC_5 rfl 1 (Nat.le_of_ble_eq_true rfl) (ht _ w_227) (fun _ h => h) d_Store_sendAnswer_15 18 rfl (.ref (ad 7 (8 + (nxL (s 4 2 0) π)))) rfl ?_
  refine z_aload_n S d_Store_sendAnswer_18 rfl 2 rfl 19 rfl ?_
  refine z_callV S hK (As := [.ref (ad 7 w)]) (rest := []) (c_Operation_become (a := 8 + (nxL (s 4 2 0) π)) (b := w) hJ (rl_lo (rl_nx hπ)) mw (opOK.w hop w)) (cw_Operation_become hts w_375 rfl rfl ⟨(Nat.le_of_ble_eq_true rfl), (Nat.le_of_ble_eq_true rfl)⟩) (rl_lo (rl_nx hπ)) kC_7 rfl rfl rfl (Nat.le_of_ble_eq_true rfl) d_Store_sendAnswer_19 22 rfl [] rfl ?_
  refine z_aload_n S d_Store_sendAnswer_22 rfl 0 rfl 23 rfl ?_
  refine z_iload_n S d_Store_sendAnswer_23 rfl 3 rfl 24 rfl ?_
  refine z_put S hJ hK hin_Letter t_Letter ok_Letter nm_Letter (rl_nx hπ) kC_5 rfl 8 (Nat.le_of_ble_eq_true rfl) (ht _ w_246) (fun _ h => h) rfl rfl rfl (Nat.le_of_ble_eq_true rfl) up_5_8 d_Store_sendAnswer_24 27 rfl ?_
  exact z_vret S hr hlk d_Store_sendAnswer_27 (kC_eq rfl)
theorem d_Store_sendPass_0 : decode prog_1_method_37_code 0 = .ok (.aload_n 0, 1) := by decide +kernel
theorem d_Store_sendPass_1 : decode prog_1_method_37_code 1 = .ok (.getfield 44, 3) := by decide +kernel
theorem d_Store_sendPass_4 : decode prog_1_method_37_code 4 = .ok (.iconst 5, 1) := by decide +kernel
theorem d_Store_sendPass_5 : decode prog_1_method_37_code 5 = .ok (.aload_n 1, 1) := by decide +kernel
theorem d_Store_sendPass_6 : decode prog_1_method_37_code 6 = .ok (.getfield 101, 3) := by decide +kernel
theorem d_Store_sendPass_9 : decode prog_1_method_37_code 9 = .ok (.getfield 287, 3) := by decide +kernel
theorem d_Store_sendPass_12 : decode prog_1_method_37_code 12 = .ok (.invokevirtual 63, 3) := by decide +kernel
theorem d_Store_sendPass_15 : decode prog_1_method_37_code 15 = .ok (.astore_n 2, 1) := by decide +kernel
theorem d_Store_sendPass_16 : decode prog_1_method_37_code 16 = .ok (.aload_n 2, 1) := by decide +kernel
theorem d_Store_sendPass_17 : decode prog_1_method_37_code 17 = .ok (.getfield 223, 3) := by decide +kernel
theorem d_Store_sendPass_20 : decode prog_1_method_37_code 20 = .ok (.aload_n 1, 1) := by decide +kernel
theorem d_Store_sendPass_21 : decode prog_1_method_37_code 21 = .ok (.getfield 101, 3) := by decide +kernel
theorem d_Store_sendPass_24 : decode prog_1_method_37_code 24 = .ok (.invokevirtual 224, 3) := by decide +kernel
theorem d_Store_sendPass_27 : decode prog_1_method_37_code 27 = .ok (.aload_n 2, 1) := by decide +kernel
theorem d_Store_sendPass_28 : decode prog_1_method_37_code 28 = .ok (.aload_n 1, 1) := by decide +kernel
theorem d_Store_sendPass_29 : decode prog_1_method_37_code 29 = .ok (.getfield 175, 3) := by decide +kernel
theorem d_Store_sendPass_32 : decode prog_1_method_37_code 32 = .ok (.getfield 185, 3) := by decide +kernel
theorem d_Store_sendPass_35 : decode prog_1_method_37_code 35 = .ok (.putfield 250, 3) := by decide +kernel
theorem d_Store_sendPass_38 : decode prog_1_method_37_code 38 = .ok (.aload_n 2, 1) := by decide +kernel
theorem d_Store_sendPass_39 : decode prog_1_method_37_code 39 = .ok (.getfield 140, 3) := by decide +kernel
theorem d_Store_sendPass_42 : decode prog_1_method_37_code 42 = .ok (.aload_n 1, 1) := by decide +kernel
theorem d_Store_sendPass_43 : decode prog_1_method_37_code 43 = .ok (.getfield 254, 3) := by decide +kernel
theorem d_Store_sendPass_46 : decode prog_1_method_37_code 46 = .ok (.invokevirtual 141, 3) := by decide +kernel
theorem d_Store_sendPass_49 : decode prog_1_method_37_code 49 = .ok (.return_, 1) := by decide +kernel
def S_Store_sendPass (π : Nat → Nat) (s : S3) (i : Nat) : S3 := S_Operation_become π (u3 (S_View_become π (S_Post_next π s 5 (s 6 2 i)) (8 + (nxL (s 4 2 0) π)) i) 5 7 (nxL (s 4 2 0) π) (s 8 3 i)) (8 + (nxL (s 4 2 0) π)) i
set_option maxHeartbeats 4000000 in
set_option maxRecDepth 100000 in
theorem c_Store_sendPass {l : Launch} {D : va_G} {K : Nat → ClassId} {ad : Nat → Nat → Nat} {n : Nat} {π : Nat → Nat} {s : S3} {i : Nat} (hJ : zw_J (cRL n) ad) (mi : (1, i) ∈ cRL n) (hw : vp_in (s 4 2 0) 33) (hπ : ∀ j, π j < 34) (hop : opOK s) : zM l y_Store_sendPass ws_Store_sendPass ({ frames := 1, cells := 0, slots := 0, locals := 23 }) D zCl (zTys K) (cRL n) ad [.ref (ad 0 0), .ref (ad 1 i)] (kC K ad n s π) (none) (kC K ad n (S_Store_sendPass π s i) π) := by
  refine zM.of (cc := prog_1_method_37_code) (maxL := 3) (ret := (Option.none : Option Jvm.ClassFile.FieldType)) (by decide) rfl (Nat.le_of_ble_eq_true rfl) ?_
  intro pP eE U mM bL mT cO S hr hlk hK
  have hts := S.2.2.2.2
  have ht := fun w h => hts w (List.mem_cons_of_mem _ h)
  refine z_aload_n S d_Store_sendPass_0 rfl 0 rfl 1 rfl ?_
  refine z_get S hK hin_Store rl_0 kC_0 rfl 3 (Nat.le_of_ble_eq_true rfl) (ht _ w_281) (fun _ h => h) d_Store_sendPass_1 4 rfl (.ref (ad 4 0)) rfl ?_
  refine z_iconst S d_Store_sendPass_4 5 (by decide) 5 rfl ?_
  refine z_aload_n S d_Store_sendPass_5 rfl 1 rfl 6 rfl ?_
  refine z_get S hK hin_Server mi kC_1 rfl 1 (Nat.le_of_ble_eq_true rfl) (ht _ w_120) (fun _ h => h) d_Store_sendPass_6 9 rfl (.ref (ad 6 i)) rfl ?_
  refine z_get S hK hin_View (rl_sv mi) kC_6 rfl 2 (Nat.le_of_ble_eq_true rfl) (ht _ w_51) (fun _ h => h) d_Store_sendPass_9 12 rfl (.int (s 6 2 i)) rfl ?_
  refine z_callV S hK (As := [.int 5, .int (s 6 2 i)]) (rest := []) (c_Post_next (k := 5) (p := s 6 2 i) hJ hw hπ) (cw_Post_next hts w_310 rfl rfl ⟨(Nat.le_of_ble_eq_true rfl), (Nat.le_of_ble_eq_true rfl)⟩) rl_4 kC_4 rfl rfl rfl (Nat.le_of_ble_eq_true rfl) d_Store_sendPass_12 15 rfl [.ref (ad 5 (nxL (s 4 2 0) π))] rfl ?_
  refine z_astore_n S d_Store_sendPass_15 rfl (Nat.le_of_ble_eq_true rfl) [(2, .ref (ad 5 (nxL (s 4 2 0) π))), (0, .ref (ad 0 0)), (1, .ref (ad 1 i))] rfl 16 rfl ?_
  refine z_aload_n S d_Store_sendPass_16 rfl 0 rfl 17 rfl ?_
  refine z_get S hK hin_Letter (rl_nx hπ) kC_5 rfl 0 (Nat.le_of_ble_eq_true rfl) (ht _ w_224) (fun _ h => h) d_Store_sendPass_17 20 rfl (.ref (ad 6 (8 + (nxL (s 4 2 0) π)))) rfl ?_
  refine z_aload_n S d_Store_sendPass_20 rfl 2 rfl 21 rfl ?_
  refine z_get S hK hin_Server mi kC_1 rfl 1 (Nat.le_of_ble_eq_true rfl) (ht _ w_120) (fun _ h => h) d_Store_sendPass_21 24 rfl (.ref (ad 6 i)) rfl ?_
  refine z_callV S hK (As := [.ref (ad 6 i)]) (rest := []) (c_View_become (a := 8 + (nxL (s 4 2 0) π)) (b := i) hJ (rl_lv (rl_nx hπ)) (rl_sv mi)) (cw_View_become hts w_360 rfl rfl ⟨(Nat.le_of_ble_eq_true rfl), (Nat.le_of_ble_eq_true rfl)⟩) (rl_lv (rl_nx hπ)) kC_6 rfl rfl rfl (Nat.le_of_ble_eq_true rfl) d_Store_sendPass_24 27 rfl [] rfl ?_
  refine z_aload_n S d_Store_sendPass_27 rfl 0 rfl 28 rfl ?_
  refine z_aload_n S d_Store_sendPass_28 rfl 2 rfl 29 rfl ?_
  refine z_get S hK hin_Server mi kC_1 rfl 2 (Nat.le_of_ble_eq_true rfl) (ht _ w_122) (fun _ h => h) d_Store_sendPass_29 32 rfl (.ref (ad 8 i)) rfl ?_
  refine z_get S hK hin_State (rl_ss mi) kC_8 rfl 3 (Nat.le_of_ble_eq_true rfl) (ht _ w_72) (fun _ h => h) d_Store_sendPass_32 35 rfl (.int (s 8 3 i)) rfl ?_
  refine z_put S hJ hK hin_Letter t_Letter ok_Letter nm_Letter (rl_nx hπ) kC_5 rfl 7 (Nat.le_of_ble_eq_true rfl) (ht _ w_243) (fun _ h => h) rfl rfl rfl (Nat.le_of_ble_eq_true rfl) up_5_7 d_Store_sendPass_35 38 rfl ?_
  refine z_aload_n S d_Store_sendPass_38 rfl 0 rfl 39 rfl ?_
  refine z_get S hK hin_Letter (rl_nx hπ) kC_5 rfl 1 (Nat.le_of_ble_eq_true rfl) (ht _ w_227) (fun _ h => h) d_Store_sendPass_39 42 rfl (.ref (ad 7 (8 + (nxL (s 4 2 0) π)))) rfl ?_
  refine z_aload_n S d_Store_sendPass_42 rfl 2 rfl 43 rfl ?_
  refine z_get S hK hin_Server mi kC_1 rfl 3 (Nat.le_of_ble_eq_true rfl) (ht _ w_124) (fun _ h => h) d_Store_sendPass_43 46 rfl (.ref (ad 7 i)) rfl ?_
  refine z_callV S hK (As := [.ref (ad 7 i)]) (rest := []) (c_Operation_become (a := 8 + (nxL (s 4 2 0) π)) (b := i) hJ (rl_lo (rl_nx hπ)) (rl_so mi) (opOK.w hop i)) (cw_Operation_become hts w_375 rfl rfl ⟨(Nat.le_of_ble_eq_true rfl), (Nat.le_of_ble_eq_true rfl)⟩) (rl_lo (rl_nx hπ)) kC_7 rfl rfl rfl (Nat.le_of_ble_eq_true rfl) d_Store_sendPass_46 49 rfl [] rfl ?_
  exact z_vret S hr hlk d_Store_sendPass_49 (kC_eq rfl)
theorem d_Store_sendFill_0 : decode prog_1_method_36_code 0 = .ok (.aload_n 0, 1) := by decide +kernel
theorem d_Store_sendFill_1 : decode prog_1_method_36_code 1 = .ok (.getfield 44, 3) := by decide +kernel
theorem d_Store_sendFill_4 : decode prog_1_method_36_code 4 = .ok (.iconst 3, 1) := by decide +kernel
theorem d_Store_sendFill_5 : decode prog_1_method_36_code 5 = .ok (.aload_n 1, 1) := by decide +kernel
theorem d_Store_sendFill_6 : decode prog_1_method_36_code 6 = .ok (.getfield 101, 3) := by decide +kernel
theorem d_Store_sendFill_9 : decode prog_1_method_36_code 9 = .ok (.getfield 287, 3) := by decide +kernel
theorem d_Store_sendFill_12 : decode prog_1_method_36_code 12 = .ok (.invokevirtual 63, 3) := by decide +kernel
theorem d_Store_sendFill_15 : decode prog_1_method_36_code 15 = .ok (.astore_n 2, 1) := by decide +kernel
theorem d_Store_sendFill_16 : decode prog_1_method_36_code 16 = .ok (.aload_n 2, 1) := by decide +kernel
theorem d_Store_sendFill_17 : decode prog_1_method_36_code 17 = .ok (.getfield 223, 3) := by decide +kernel
theorem d_Store_sendFill_20 : decode prog_1_method_36_code 20 = .ok (.aload_n 1, 1) := by decide +kernel
theorem d_Store_sendFill_21 : decode prog_1_method_36_code 21 = .ok (.getfield 101, 3) := by decide +kernel
theorem d_Store_sendFill_24 : decode prog_1_method_36_code 24 = .ok (.invokevirtual 224, 3) := by decide +kernel
theorem d_Store_sendFill_27 : decode prog_1_method_36_code 27 = .ok (.aload_n 2, 1) := by decide +kernel
theorem d_Store_sendFill_28 : decode prog_1_method_36_code 28 = .ok (.getfield 237, 3) := by decide +kernel
theorem d_Store_sendFill_31 : decode prog_1_method_36_code 31 = .ok (.aload_n 1, 1) := by decide +kernel
theorem d_Store_sendFill_32 : decode prog_1_method_36_code 32 = .ok (.getfield 175, 3) := by decide +kernel
theorem d_Store_sendFill_35 : decode prog_1_method_36_code 35 = .ok (.invokevirtual 238, 3) := by decide +kernel
theorem d_Store_sendFill_38 : decode prog_1_method_36_code 38 = .ok (.return_, 1) := by decide +kernel
def S_Store_sendFill (π : Nat → Nat) (s : S3) (i : Nat) : S3 := S_State_become π (S_View_become π (S_Post_next π s 3 (s 6 2 i)) (8 + (nxL (s 4 2 0) π)) i) (8 + (nxL (s 4 2 0) π)) i
set_option maxHeartbeats 4000000 in
set_option maxRecDepth 100000 in
theorem c_Store_sendFill {l : Launch} {D : va_G} {K : Nat → ClassId} {ad : Nat → Nat → Nat} {n : Nat} {π : Nat → Nat} {s : S3} {i : Nat} (hJ : zw_J (cRL n) ad) (mi : (1, i) ∈ cRL n) (hw : vp_in (s 4 2 0) 33) (hπ : ∀ j, π j < 34) : zM l y_Store_sendFill ws_Store_sendFill ({ frames := 2, cells := 0, slots := 0, locals := 101 }) D zCl (zTys K) (cRL n) ad [.ref (ad 0 0), .ref (ad 1 i)] (kC K ad n s π) (none) (kC K ad n (S_Store_sendFill π s i) π) := by
  refine zM.of (cc := prog_1_method_36_code) (maxL := 3) (ret := (Option.none : Option Jvm.ClassFile.FieldType)) (by decide) rfl (Nat.le_of_ble_eq_true rfl) ?_
  intro pP eE U mM bL mT cO S hr hlk hK
  have hts := S.2.2.2.2
  have ht := fun w h => hts w (List.mem_cons_of_mem _ h)
  refine z_aload_n S d_Store_sendFill_0 rfl 0 rfl 1 rfl ?_
  refine z_get S hK hin_Store rl_0 kC_0 rfl 3 (Nat.le_of_ble_eq_true rfl) (ht _ w_281) (fun _ h => h) d_Store_sendFill_1 4 rfl (.ref (ad 4 0)) rfl ?_
  refine z_iconst S d_Store_sendFill_4 3 (by decide) 5 rfl ?_
  refine z_aload_n S d_Store_sendFill_5 rfl 1 rfl 6 rfl ?_
  refine z_get S hK hin_Server mi kC_1 rfl 1 (Nat.le_of_ble_eq_true rfl) (ht _ w_120) (fun _ h => h) d_Store_sendFill_6 9 rfl (.ref (ad 6 i)) rfl ?_
  refine z_get S hK hin_View (rl_sv mi) kC_6 rfl 2 (Nat.le_of_ble_eq_true rfl) (ht _ w_51) (fun _ h => h) d_Store_sendFill_9 12 rfl (.int (s 6 2 i)) rfl ?_
  refine z_callV S hK (As := [.int 3, .int (s 6 2 i)]) (rest := []) (c_Post_next (k := 3) (p := s 6 2 i) hJ hw hπ) (cw_Post_next hts w_310 rfl rfl ⟨(Nat.le_of_ble_eq_true rfl), (Nat.le_of_ble_eq_true rfl)⟩) rl_4 kC_4 rfl rfl rfl (Nat.le_of_ble_eq_true rfl) d_Store_sendFill_12 15 rfl [.ref (ad 5 (nxL (s 4 2 0) π))] rfl ?_
  refine z_astore_n S d_Store_sendFill_15 rfl (Nat.le_of_ble_eq_true rfl) [(2, .ref (ad 5 (nxL (s 4 2 0) π))), (0, .ref (ad 0 0)), (1, .ref (ad 1 i))] rfl 16 rfl ?_
  refine z_aload_n S d_Store_sendFill_16 rfl 0 rfl 17 rfl ?_
  refine z_get S hK hin_Letter (rl_nx hπ) kC_5 rfl 0 (Nat.le_of_ble_eq_true rfl) (ht _ w_224) (fun _ h => h) d_Store_sendFill_17 20 rfl (.ref (ad 6 (8 + (nxL (s 4 2 0) π)))) rfl ?_
  refine z_aload_n S d_Store_sendFill_20 rfl 2 rfl 21 rfl ?_
  refine z_get S hK hin_Server mi kC_1 rfl 1 (Nat.le_of_ble_eq_true rfl) (ht _ w_120) (fun _ h => h) d_Store_sendFill_21 24 rfl (.ref (ad 6 i)) rfl ?_
  refine z_callV S hK (As := [.ref (ad 6 i)]) (rest := []) (c_View_become (a := 8 + (nxL (s 4 2 0) π)) (b := i) hJ (rl_lv (rl_nx hπ)) (rl_sv mi)) (cw_View_become hts w_360 rfl rfl ⟨(Nat.le_of_ble_eq_true rfl), (Nat.le_of_ble_eq_true rfl)⟩) (rl_lv (rl_nx hπ)) kC_6 rfl rfl rfl (Nat.le_of_ble_eq_true rfl) d_Store_sendFill_24 27 rfl [] rfl ?_
  refine z_aload_n S d_Store_sendFill_27 rfl 0 rfl 28 rfl ?_
  refine z_get S hK hin_Letter (rl_nx hπ) kC_5 rfl 2 (Nat.le_of_ble_eq_true rfl) (ht _ w_229) (fun _ h => h) d_Store_sendFill_28 31 rfl (.ref (ad 8 (8 + (nxL (s 4 2 0) π)))) rfl ?_
  refine z_aload_n S d_Store_sendFill_31 rfl 2 rfl 32 rfl ?_
  refine z_get S hK hin_Server mi kC_1 rfl 2 (Nat.le_of_ble_eq_true rfl) (ht _ w_122) (fun _ h => h) d_Store_sendFill_32 35 rfl (.ref (ad 8 i)) rfl ?_
  refine z_callV S hK (As := [.ref (ad 8 i)]) (rest := []) (c_State_become (a := 8 + (nxL (s 4 2 0) π)) (b := i) hJ (rl_ls (rl_nx hπ)) (rl_ss mi)) (cw_State_become hts w_364 rfl rfl ⟨(Nat.le_of_ble_eq_true rfl), (Nat.le_of_ble_eq_true rfl)⟩) (rl_ls (rl_nx hπ)) kC_8 rfl rfl rfl (Nat.le_of_ble_eq_true rfl) d_Store_sendFill_35 38 rfl [] rfl ?_
  exact z_vret S hr hlk d_Store_sendFill_38 (kC_eq rfl)
theorem d_Store_enterView_0 : decode prog_1_method_35_code 0 = .ok (.aload_n 1, 1) := by decide +kernel
theorem d_Store_enterView_1 : decode prog_1_method_35_code 1 = .ok (.getfield 101, 3) := by decide +kernel
theorem d_Store_enterView_4 : decode prog_1_method_35_code 4 = .ok (.aload_n 2, 1) := by decide +kernel
theorem d_Store_enterView_5 : decode prog_1_method_35_code 5 = .ok (.invokevirtual 224, 3) := by decide +kernel
theorem d_Store_enterView_8 : decode prog_1_method_35_code 8 = .ok (.aload_n 1, 1) := by decide +kernel
theorem d_Store_enterView_9 : decode prog_1_method_35_code 9 = .ok (.iconst 0, 1) := by decide +kernel
theorem d_Store_enterView_10 : decode prog_1_method_35_code 10 = .ok (.putfield 114, 3) := by decide +kernel
theorem d_Store_enterView_13 : decode prog_1_method_35_code 13 = .ok (.aload_n 1, 1) := by decide +kernel
theorem d_Store_enterView_14 : decode prog_1_method_35_code 14 = .ok (.iconst 0, 1) := by decide +kernel
theorem d_Store_enterView_15 : decode prog_1_method_35_code 15 = .ok (.putfield 234, 3) := by decide +kernel
theorem d_Store_enterView_18 : decode prog_1_method_35_code 18 = .ok (.aload_n 1, 1) := by decide +kernel
theorem d_Store_enterView_19 : decode prog_1_method_35_code 19 = .ok (.aload_n 1, 1) := by decide +kernel
theorem d_Store_enterView_20 : decode prog_1_method_35_code 20 = .ok (.invokevirtual 97, 3) := by decide +kernel
theorem d_Store_enterView_23 : decode prog_1_method_35_code 23 = .ok (.ifCond .eq 14, 3) := by decide +kernel
theorem d_Store_enterView_26 : decode prog_1_method_35_code 26 = .ok (.aload_n 2, 1) := by decide +kernel
theorem d_Store_enterView_27 : decode prog_1_method_35_code 27 = .ok (.invokevirtual 104, 3) := by decide +kernel
theorem d_Store_enterView_30 : decode prog_1_method_35_code 30 = .ok (.ifCond .ne 7, 3) := by decide +kernel
theorem d_Store_enterView_33 : decode prog_1_method_35_code 33 = .ok (.iconst 1, 1) := by decide +kernel
theorem d_Store_enterView_34 : decode prog_1_method_35_code 34 = .ok (.goto 4, 3) := by decide +kernel
theorem d_Store_enterView_37 : decode prog_1_method_35_code 37 = .ok (.iconst 0, 1) := by decide +kernel
theorem d_Store_enterView_38 : decode prog_1_method_35_code 38 = .ok (.putfield 107, 3) := by decide +kernel
theorem d_Store_enterView_41 : decode prog_1_method_35_code 41 = .ok (.aload_n 1, 1) := by decide +kernel
theorem d_Store_enterView_42 : decode prog_1_method_35_code 42 = .ok (.invokevirtual 97, 3) := by decide +kernel
theorem d_Store_enterView_45 : decode prog_1_method_35_code 45 = .ok (.ifCond .eq 15, 3) := by decide +kernel
theorem d_Store_enterView_48 : decode prog_1_method_35_code 48 = .ok (.aload_n 2, 1) := by decide +kernel
theorem d_Store_enterView_49 : decode prog_1_method_35_code 49 = .ok (.invokevirtual 104, 3) := by decide +kernel
theorem d_Store_enterView_52 : decode prog_1_method_35_code 52 = .ok (.ifCond .eq 8, 3) := by decide +kernel
theorem d_Store_enterView_55 : decode prog_1_method_35_code 55 = .ok (.aload_n 0, 1) := by decide +kernel
theorem d_Store_enterView_56 : decode prog_1_method_35_code 56 = .ok (.aload_n 1, 1) := by decide +kernel
theorem d_Store_enterView_57 : decode prog_1_method_35_code 57 = .ok (.invokevirtual 110, 3) := by decide +kernel
theorem d_Store_enterView_60 : decode prog_1_method_35_code 60 = .ok (.return_, 1) := by decide +kernel
def S_Store_enterView (n : Nat) (π : Nat → Nat) (s : S3) (i : Nat) (v : Nat) : S3 := if (v_Server_isPrimary ((u3 (u3 s 6 0 i (s 6 0 v)) 6 1 i (s 6 1 v)) 6 1 i) (s 1 0 i)) = 0 then (u3 (u3 (u3 (S_View_become π s i v) 1 8 i 0) 1 9 i 0) 1 7 i 0) else if (v_View_hasBackup ((u3 (u3 (u3 s 6 0 i (s 6 0 v)) 6 1 i (s 6 1 v)) 6 2 i (s 6 2 v)) 6 2 v)) = 0 then (u3 (u3 (u3 (S_View_become π s i v) 1 8 i 0) 1 9 i 0) 1 7 i 1) else S_Store_sendFill π (u3 (u3 (u3 (S_View_become π s i v) 1 8 i 0) 1 9 i 0) 1 7 i 0) i
set_option maxHeartbeats 4000000 in
set_option maxRecDepth 100000 in
theorem c_Store_enterView {l : Launch} {D : va_G} {K : Nat → ClassId} {ad : Nat → Nat → Nat} {n : Nat} {π : Nat → Nat} {s : S3} {i v : Nat} (hJ : zw_J (cRL n) ad) (mi : (1, i) ∈ cRL n) (mv : (6, v) ∈ cRL n) (hw : vp_in (s 4 2 0) 33) (hπ : ∀ j, π j < 34) : zM l y_Store_enterView ws_Store_enterView ({ frames := 3, cells := 0, slots := 0, locals := 123 }) D zCl (zTys K) (cRL n) ad [.ref (ad 0 0), .ref (ad 1 i), .ref (ad 6 v)] (kC K ad n s π) (none) (kC K ad n (S_Store_enterView n π s i v) π) := by
  refine zM.of (cc := prog_1_method_35_code) (maxL := 3) (ret := (Option.none : Option Jvm.ClassFile.FieldType)) (by decide) rfl (Nat.le_of_ble_eq_true rfl) ?_
  intro pP eE U mM bL mT cO S hr hlk hK
  have hts := S.2.2.2.2
  have ht := fun w h => hts w (List.mem_cons_of_mem _ h)
  refine z_aload_n S d_Store_enterView_0 rfl 1 rfl 1 rfl ?_
  refine z_get S hK hin_Server mi kC_1 rfl 1 (Nat.le_of_ble_eq_true rfl) (ht _ w_120) (fun _ h => h) d_Store_enterView_1 4 rfl (.ref (ad 6 i)) rfl ?_
  refine z_aload_n S d_Store_enterView_4 rfl 2 rfl 5 rfl ?_
  refine z_callV S hK (As := [.ref (ad 6 v)]) (rest := []) (c_View_become (a := i) (b := v) hJ (rl_sv mi) mv) (cw_View_become hts w_360 rfl rfl ⟨(Nat.le_of_ble_eq_true rfl), (Nat.le_of_ble_eq_true rfl)⟩) (rl_sv mi) kC_6 rfl rfl rfl (Nat.le_of_ble_eq_true rfl) d_Store_enterView_5 8 rfl [] rfl ?_
  refine z_aload_n S d_Store_enterView_8 rfl 1 rfl 9 rfl ?_
  refine z_iconst S d_Store_enterView_9 0 (by decide) 10 rfl ?_
  refine z_put S hJ hK hin_Server t_Server ok_Server nm_Server mi kC_1 rfl 8 (Nat.le_of_ble_eq_true rfl) (ht _ w_134) (fun _ h => h) rfl (zb_n zb_0) (zb_f zb_0) (Nat.le_of_ble_eq_true rfl) up_1_8 d_Store_enterView_10 13 rfl ?_
  refine z_aload_n S d_Store_enterView_13 rfl 1 rfl 14 rfl ?_
  refine z_iconst S d_Store_enterView_14 0 (by decide) 15 rfl ?_
  refine z_put S hJ hK hin_Server t_Server ok_Server nm_Server mi kC_1 rfl 9 (Nat.le_of_ble_eq_true rfl) (ht _ w_136) (fun _ h => h) rfl (zb_n zb_0) (zb_f zb_0) (Nat.le_of_ble_eq_true rfl) up_1_9 d_Store_enterView_15 18 rfl ?_
  refine z_aload_n S d_Store_enterView_18 rfl 1 rfl 19 rfl ?_
  refine z_aload_n S d_Store_enterView_19 rfl 1 rfl 20 rfl ?_
  refine z_callV S hK (As := []) (rest := [.ref (ad 1 i)]) (c_Server_isPrimary (i := i) hJ mi) (cw_Server_isPrimary hts w_354 rfl rfl ⟨(Nat.le_of_ble_eq_true rfl), (Nat.le_of_ble_eq_true rfl)⟩) mi kC_1 rfl rfl rfl (Nat.le_of_ble_eq_true rfl) d_Store_enterView_20 23 rfl [.int (v_Server_isPrimary ((u3 (u3 s 6 0 i (s 6 0 v)) 6 1 i (s 6 1 v)) 6 1 i) (s 1 0 i)), .ref (ad 1 i)] rfl ?_
  refine z_if_eq S d_Store_enterView_23 37 (by decide) 26 rfl (fun h1 => ?_) (fun h1 => ?_)
  · refine z_iconst S d_Store_enterView_37 0 (by decide) 38 rfl ?_
    refine z_put S hJ hK hin_Server t_Server ok_Server nm_Server mi kC_1 rfl 7 (Nat.le_of_ble_eq_true rfl) (ht _ w_132) (fun _ h => h) rfl (zb_n zb_0) (zb_f zb_0) (Nat.le_of_ble_eq_true rfl) up_1_7 d_Store_enterView_38 41 rfl ?_
    refine z_aload_n S d_Store_enterView_41 rfl 1 rfl 42 rfl ?_
    refine z_callV S hK (As := []) (rest := []) (c_Server_isPrimary (i := i) hJ mi) (cw_Server_isPrimary hts w_354 rfl rfl ⟨(Nat.le_of_ble_eq_true rfl), (Nat.le_of_ble_eq_true rfl)⟩) mi kC_1 rfl rfl rfl (Nat.le_of_ble_eq_true rfl) d_Store_enterView_42 45 rfl [.int (v_Server_isPrimary ((u3 (u3 s 6 0 i (s 6 0 v)) 6 1 i (s 6 1 v)) 6 1 i) (s 1 0 i))] rfl ?_
    refine z_if_eq S d_Store_enterView_45 60 (by decide) 48 rfl (fun h2 => ?_) (fun h2 => ?_)
    · exact z_vret S hr hlk d_Store_enterView_60 (kC_eq (by unfold S_Store_enterView; simp only [if_pos h1]))
    · exact absurd h1 h2
  · refine z_aload_n S d_Store_enterView_26 rfl 2 rfl 27 rfl ?_
    refine z_callV S hK (As := []) (rest := [.ref (ad 1 i)]) (c_View_hasBackup (a := v) hJ mv) (cw_View_hasBackup hts w_355 rfl rfl ⟨(Nat.le_of_ble_eq_true rfl), (Nat.le_of_ble_eq_true rfl)⟩) mv kC_6 rfl rfl rfl (Nat.le_of_ble_eq_true rfl) d_Store_enterView_27 30 rfl [.int (v_View_hasBackup ((u3 (u3 (u3 s 6 0 i (s 6 0 v)) 6 1 i (s 6 1 v)) 6 2 i (s 6 2 v)) 6 2 v)), .ref (ad 1 i)] rfl ?_
    refine z_if_ne S d_Store_enterView_30 37 (by decide) 33 rfl (fun h3 => ?_) (fun h3 => ?_)
    · refine z_iconst S d_Store_enterView_37 0 (by decide) 38 rfl ?_
      refine z_put S hJ hK hin_Server t_Server ok_Server nm_Server mi kC_1 rfl 7 (Nat.le_of_ble_eq_true rfl) (ht _ w_132) (fun _ h => h) rfl (zb_n zb_0) (zb_f zb_0) (Nat.le_of_ble_eq_true rfl) up_1_7 d_Store_enterView_38 41 rfl ?_
      refine z_aload_n S d_Store_enterView_41 rfl 1 rfl 42 rfl ?_
      refine z_callV S hK (As := []) (rest := []) (c_Server_isPrimary (i := i) hJ mi) (cw_Server_isPrimary hts w_354 rfl rfl ⟨(Nat.le_of_ble_eq_true rfl), (Nat.le_of_ble_eq_true rfl)⟩) mi kC_1 rfl rfl rfl (Nat.le_of_ble_eq_true rfl) d_Store_enterView_42 45 rfl [.int (v_Server_isPrimary ((u3 (u3 s 6 0 i (s 6 0 v)) 6 1 i (s 6 1 v)) 6 1 i) (s 1 0 i))] rfl ?_
      refine z_if_eq S d_Store_enterView_45 60 (by decide) 48 rfl (fun h4 => ?_) (fun h4 => ?_)
      · exact absurd h4 h1
      · refine z_aload_n S d_Store_enterView_48 rfl 2 rfl 49 rfl ?_
        refine z_callV S hK (As := []) (rest := []) (c_View_hasBackup (a := v) hJ mv) (cw_View_hasBackup hts w_355 rfl rfl ⟨(Nat.le_of_ble_eq_true rfl), (Nat.le_of_ble_eq_true rfl)⟩) mv kC_6 rfl rfl rfl (Nat.le_of_ble_eq_true rfl) d_Store_enterView_49 52 rfl [.int (v_View_hasBackup ((u3 (u3 (u3 s 6 0 i (s 6 0 v)) 6 1 i (s 6 1 v)) 6 2 i (s 6 2 v)) 6 2 v))] rfl ?_
        refine z_if_eq S d_Store_enterView_52 60 (by decide) 55 rfl (fun h5 => ?_) (fun h5 => ?_)
        · exact absurd h5 h3
        · refine z_aload_n S d_Store_enterView_55 rfl 0 rfl 56 rfl ?_
          refine z_aload_n S d_Store_enterView_56 rfl 1 rfl 57 rfl ?_
          refine z_callV S hK (As := [.ref (ad 1 i)]) (rest := []) (c_Store_sendFill (i := i) hJ mi hw hπ) (cw_Store_sendFill hts w_356 rfl rfl ⟨(Nat.le_of_ble_eq_true rfl), (Nat.le_of_ble_eq_true rfl)⟩) rl_0 kC_0 rfl rfl rfl (Nat.le_of_ble_eq_true rfl) d_Store_enterView_57 60 rfl [] rfl ?_
          exact z_vret S hr hlk d_Store_enterView_60 (kC_eq (by unfold S_Store_enterView; simp only [if_neg h1, if_neg h3]))
    · refine z_iconst S d_Store_enterView_33 1 (by decide) 34 rfl ?_
      refine z_goto S d_Store_enterView_34 38 (by decide) ?_
      refine z_put S hJ hK hin_Server t_Server ok_Server nm_Server mi kC_1 rfl 7 (Nat.le_of_ble_eq_true rfl) (ht _ w_132) (fun _ h => h) rfl (zb_n zb_1) (zb_f zb_1) (Nat.le_of_ble_eq_true rfl) up_1_7 d_Store_enterView_38 41 rfl ?_
      refine z_aload_n S d_Store_enterView_41 rfl 1 rfl 42 rfl ?_
      refine z_callV S hK (As := []) (rest := []) (c_Server_isPrimary (i := i) hJ mi) (cw_Server_isPrimary hts w_354 rfl rfl ⟨(Nat.le_of_ble_eq_true rfl), (Nat.le_of_ble_eq_true rfl)⟩) mi kC_1 rfl rfl rfl (Nat.le_of_ble_eq_true rfl) d_Store_enterView_42 45 rfl [.int (v_Server_isPrimary ((u3 (u3 s 6 0 i (s 6 0 v)) 6 1 i (s 6 1 v)) 6 1 i) (s 1 0 i))] rfl ?_
      refine z_if_eq S d_Store_enterView_45 60 (by decide) 48 rfl (fun h6 => ?_) (fun h6 => ?_)
      · exact absurd h6 h1
      · refine z_aload_n S d_Store_enterView_48 rfl 2 rfl 49 rfl ?_
        refine z_callV S hK (As := []) (rest := []) (c_View_hasBackup (a := v) hJ mv) (cw_View_hasBackup hts w_355 rfl rfl ⟨(Nat.le_of_ble_eq_true rfl), (Nat.le_of_ble_eq_true rfl)⟩) mv kC_6 rfl rfl rfl (Nat.le_of_ble_eq_true rfl) d_Store_enterView_49 52 rfl [.int (v_View_hasBackup ((u3 (u3 (u3 s 6 0 i (s 6 0 v)) 6 1 i (s 6 1 v)) 6 2 i (s 6 2 v)) 6 2 v))] rfl ?_
        refine z_if_eq S d_Store_enterView_52 60 (by decide) 55 rfl (fun h7 => ?_) (fun h7 => ?_)
        · exact z_vret S hr hlk d_Store_enterView_60 (kC_eq (by unfold S_Store_enterView; simp only [if_neg h1, if_pos h3]))
        · exact absurd h3 h7
theorem d_Store_doWriteAndAnswer_0 : decode prog_1_method_34_code 0 = .ok (.aload_n 1, 1) := by decide +kernel
theorem d_Store_doWriteAndAnswer_1 : decode prog_1_method_34_code 1 = .ok (.getfield 175, 3) := by decide +kernel
theorem d_Store_doWriteAndAnswer_4 : decode prog_1_method_34_code 4 = .ok (.aload_n 2, 1) := by decide +kernel
theorem d_Store_doWriteAndAnswer_5 : decode prog_1_method_34_code 5 = .ok (.invokevirtual 251, 3) := by decide +kernel
theorem d_Store_doWriteAndAnswer_8 : decode prog_1_method_34_code 8 = .ok (.aload_n 0, 1) := by decide +kernel
theorem d_Store_doWriteAndAnswer_9 : decode prog_1_method_34_code 9 = .ok (.aload_n 2, 1) := by decide +kernel
theorem d_Store_doWriteAndAnswer_10 : decode prog_1_method_34_code 10 = .ok (.aload_n 1, 1) := by decide +kernel
theorem d_Store_doWriteAndAnswer_11 : decode prog_1_method_34_code 11 = .ok (.getfield 175, 3) := by decide +kernel
theorem d_Store_doWriteAndAnswer_14 : decode prog_1_method_34_code 14 = .ok (.getfield 284, 3) := by decide +kernel
theorem d_Store_doWriteAndAnswer_17 : decode prog_1_method_34_code 17 = .ok (.aload_n 2, 1) := by decide +kernel
theorem d_Store_doWriteAndAnswer_18 : decode prog_1_method_34_code 18 = .ok (.getfield 281, 3) := by decide +kernel
theorem d_Store_doWriteAndAnswer_21 : decode prog_1_method_34_code 21 = .ok (.iaload, 1) := by decide +kernel
theorem d_Store_doWriteAndAnswer_22 : decode prog_1_method_34_code 22 = .ok (.invokevirtual 274, 3) := by decide +kernel
theorem d_Store_doWriteAndAnswer_25 : decode prog_1_method_34_code 25 = .ok (.return_, 1) := by decide +kernel
def S_Store_doWriteAndAnswer (π : Nat → Nat) (s : S3) (i : Nat) (w : Nat) : S3 := S_Store_sendAnswer π (S_State_doWrite π s i w) w ((u3 s 14 i ((s 7 0 w).toNatClampNeg) (s 9 i ((s 7 3 w).toNatClampNeg))) 14 i ((s 7 0 w).toNatClampNeg))
set_option maxHeartbeats 4000000 in
set_option maxRecDepth 100000 in
theorem c_Store_doWriteAndAnswer {l : Launch} {D : va_G} {K : Nat → ClassId} {ad : Nat → Nat → Nat} {n : Nat} {π : Nat → Nat} {s : S3} {i w : Nat} (hJ : zw_J (cRL n) ad) (mi : (1, i) ∈ cRL n) (mw : (7, w) ∈ cRL n) (hw : vp_in (s 4 2 0) 33) (hπ : ∀ j, π j < 34) (hop : opOK s) : zM l y_Store_doWriteAndAnswer ws_Store_doWriteAndAnswer ({ frames := 2, cells := 0, slots := 0, locals := 46 }) D zCl (zTys K) (cRL n) ad [.ref (ad 0 0), .ref (ad 1 i), .ref (ad 7 w)] (kC K ad n s π) (none) (kC K ad n (S_Store_doWriteAndAnswer π s i w) π) := by
  refine zM.of (cc := prog_1_method_34_code) (maxL := 3) (ret := (Option.none : Option Jvm.ClassFile.FieldType)) (by decide) rfl (Nat.le_of_ble_eq_true rfl) ?_
  intro pP eE U mM bL mT cO S hr hlk hK
  have hts := S.2.2.2.2
  have ht := fun w h => hts w (List.mem_cons_of_mem _ h)
  refine z_aload_n S d_Store_doWriteAndAnswer_0 rfl 1 rfl 1 rfl ?_
  refine z_get S hK hin_Server mi kC_1 rfl 2 (Nat.le_of_ble_eq_true rfl) (ht _ w_122) (fun _ h => h) d_Store_doWriteAndAnswer_1 4 rfl (.ref (ad 8 i)) rfl ?_
  refine z_aload_n S d_Store_doWriteAndAnswer_4 rfl 2 rfl 5 rfl ?_
  refine z_callV S hK (As := [.ref (ad 7 w)]) (rest := []) (c_State_doWrite (a := i) (w := w) hJ (rl_ss mi) mw (opOK.c hop w) (opOK.k hop w)) (cw_State_doWrite hts w_455 rfl rfl ⟨(Nat.le_of_ble_eq_true rfl), (Nat.le_of_ble_eq_true rfl)⟩) (rl_ss mi) kC_8 rfl rfl rfl (Nat.le_of_ble_eq_true rfl) d_Store_doWriteAndAnswer_5 8 rfl [] rfl ?_
  refine z_aload_n S d_Store_doWriteAndAnswer_8 rfl 0 rfl 9 rfl ?_
  refine z_aload_n S d_Store_doWriteAndAnswer_9 rfl 2 rfl 10 rfl ?_
  refine z_aload_n S d_Store_doWriteAndAnswer_10 rfl 1 rfl 11 rfl ?_
  refine z_get S hK hin_Server mi kC_1 rfl 2 (Nat.le_of_ble_eq_true rfl) (ht _ w_122) (fun _ h => h) d_Store_doWriteAndAnswer_11 14 rfl (.ref (ad 8 i)) rfl ?_
  refine z_get S hK hin_State (rl_ss mi) kC_8 rfl 2 (Nat.le_of_ble_eq_true rfl) (ht _ w_70) (fun _ h => h) d_Store_doWriteAndAnswer_14 17 rfl (.ref (ad 14 i)) rfl ?_
  refine z_aload_n S d_Store_doWriteAndAnswer_17 rfl 2 rfl 18 rfl ?_
  refine z_get S hK hin_Operation mw kC_7 rfl 0 (Nat.le_of_ble_eq_true rfl) (ht _ w_92) (fun _ h => h) d_Store_doWriteAndAnswer_18 21 rfl (.int (s 7 0 w)) rfl ?_
  refine z_iald S hK (rl_s14 (rl_ss mi)) 0 kC_14 rfl (opOK.c hop w) d_Store_doWriteAndAnswer_21 22 rfl ((u3 s 14 i ((s 7 0 w).toNatClampNeg) (s 9 i ((s 7 3 w).toNatClampNeg))) 14 i ((s 7 0 w).toNatClampNeg)) rfl ?_
  refine z_callV S hK (As := [.ref (ad 7 w), .int ((u3 s 14 i ((s 7 0 w).toNatClampNeg) (s 9 i ((s 7 3 w).toNatClampNeg))) 14 i ((s 7 0 w).toNatClampNeg))]) (rest := []) (c_Store_sendAnswer (w := w) (x := (u3 s 14 i ((s 7 0 w).toNatClampNeg) (s 9 i ((s 7 3 w).toNatClampNeg))) 14 i ((s 7 0 w).toNatClampNeg)) hJ mw hw hπ hop) (cw_Store_sendAnswer hts w_467 rfl rfl ⟨(Nat.le_of_ble_eq_true rfl), (Nat.le_of_ble_eq_true rfl)⟩) rl_0 kC_0 rfl rfl rfl (Nat.le_of_ble_eq_true rfl) d_Store_doWriteAndAnswer_22 25 rfl [] rfl ?_
  exact z_vret S hr hlk d_Store_doWriteAndAnswer_25 (kC_eq rfl)
end
section
theorem in_srv {n : Nat} {x : Int32} (hn : n ≤ 5) (h : ¬ v_Store_isServer n x = 0) : vp_in x n := by
  unfold v_Store_isServer at h
  by_cases h1 : x < 0
  · simp [h1] at h
  · by_cases h2 : nI n ≤ x
    · simp [h2] at h
    · obtain ⟨j, hj, rfl⟩ := nI_of h1
      rw [nI_leI (by omega) hj] at h2
      exact nI_in (by omega) (by omega)
theorem in_cli {x : Int32} (h : ¬ v_Store_isClient x = 0) : vp_in x 3 := by
  unfold v_Store_isClient at h
  by_cases h1 : x < 0
  · simp [h1] at h
  · by_cases h2 : (3 : Int32) ≤ x
    · simp [h2] at h
    · obtain ⟨j, hj, rfl⟩ := nI_of h1
      rw [show (3 : Int32) = nI 3 from rfl, nI_leI (by omega) hj] at h2
      exact nI_in (by omega) (by omega)
theorem in_cel {x : Int32} (h : ¬ v_Store_isCell x = 0) : vp_in x 4 := by
  unfold v_Store_isCell at h
  by_cases h1 : x < 0
  · simp [h1] at h
  · by_cases h2 : (4 : Int32) ≤ x
    · simp [h2] at h
    · obtain ⟨j, hj, rfl⟩ := nI_of h1
      rw [show (4 : Int32) = nI 4 from rfl, nI_leI (by omega) hj] at h2
      exact nI_in (by omega) (by omega)
theorem vp_nI {x : Int32} {n : Nat} (h : vp_in x n) : ∃ j, j < n ∧ j < 2 ^ 31 ∧ x = nI j := by
  have h1 : ¬ x < 0 := fun e => h (Or.inl e)
  obtain ⟨j, hj, rfl⟩ := nI_of h1
  have := vp_lt h
  rw [nI_clamp hj] at this
  exact ⟨j, this, hj, rfl⟩
theorem in_has {w x : Int32} (hw : vp_in w 33) (h : ¬ v_Post_has w x = 0) : vp_in x 33 := by
  unfold v_Post_has at h
  by_cases h1 : x < 0
  · simp [h1] at h
  · by_cases h2 : w ≤ x
    · simp [h2] at h
    · obtain ⟨j, hj, rfl⟩ := nI_of h1
      obtain ⟨k, hk, hk2, rfl⟩ := vp_nI hw
      rw [nI_leI hk2 hj] at h2
      exact nI_in (by omega) (by omega)
theorem hw_nx {w : Int32} (hw : vp_in w 33) : vp_in (nxW w) 33 := by
  obtain ⟨k, hk, hk2, rfl⟩ := vp_nI hw
  unfold nxW
  by_cases h : (32 : Int32) ≤ nI k
  · rw [if_pos h]; exact nI_in hk (by omega)
  · rw [if_neg h, nI_1]
    rw [show (32 : Int32) = nI 32 from rfl, nI_leI (by omega) hk2] at h
    exact nI_in (by omega) (by omega)
theorem hw_enter {n : Nat} {π : Nat → Nat} {s : S3} {i v : Nat} (hw : vp_in (s 4 2 0) 33) : vp_in (S_Store_enterView n π s i v 4 2 0) 33 := by
  unfold S_Store_enterView
  repeat' split
  all_goals first | exact hw | exact hw_nx hw
theorem hw_note {n : Nat} {π : Nat → Nat} {s : S3} {L : Nat} {t : Int32} (hw : vp_in (s 4 2 0) 33) : vp_in (S_Service_notePing n π s L t 4 2 0) 33 := by
  unfold S_Service_notePing
  repeat' split
  all_goals exact hw
theorem opOK_bec {π : Nat → Nat} {s : S3} {a b : Nat} (h : opOK s) : opOK (S_Operation_become π s a b) := by
  intro x
  by_cases hx : x = a
  · subst hx
    have := h b
    simpa [S_Operation_become, u3, uA, upd] using this
  · have := h x
    simpa [S_Operation_become, u3, uA, upd, hx] using this
theorem d_Store_takeRead_0 : decode prog_1_method_32_code 0 = .ok (.aload_n 0, 1) := by decide +kernel
theorem d_Store_takeRead_1 : decode prog_1_method_32_code 1 = .ok (.aload_n 1, 1) := by decide +kernel
theorem d_Store_takeRead_2 : decode prog_1_method_32_code 2 = .ok (.invokevirtual 76, 3) := by decide +kernel
theorem d_Store_takeRead_5 : decode prog_1_method_32_code 5 = .ok (.aload_n 1, 1) := by decide +kernel
theorem d_Store_takeRead_6 : decode prog_1_method_32_code 6 = .ok (.getfield 231, 3) := by decide +kernel
theorem d_Store_takeRead_9 : decode prog_1_method_32_code 9 = .ok (.if_icmp .lt 5, 3) := by decide +kernel
theorem d_Store_takeRead_12 : decode prog_1_method_32_code 12 = .ok (.iconst 0, 1) := by decide +kernel
theorem d_Store_takeRead_13 : decode prog_1_method_32_code 13 = .ok (.ireturn, 1) := by decide +kernel
theorem d_Store_takeRead_14 : decode prog_1_method_32_code 14 = .ok (.aload_n 0, 1) := by decide +kernel
theorem d_Store_takeRead_15 : decode prog_1_method_32_code 15 = .ok (.aload_n 2, 1) := by decide +kernel
theorem d_Store_takeRead_16 : decode prog_1_method_32_code 16 = .ok (.aload_n 1, 1) := by decide +kernel
theorem d_Store_takeRead_17 : decode prog_1_method_32_code 17 = .ok (.getfield 175, 3) := by decide +kernel
theorem d_Store_takeRead_20 : decode prog_1_method_32_code 20 = .ok (.getfield 179, 3) := by decide +kernel
theorem d_Store_takeRead_23 : decode prog_1_method_32_code 23 = .ok (.aload_n 2, 1) := by decide +kernel
theorem d_Store_takeRead_24 : decode prog_1_method_32_code 24 = .ok (.getfield 271, 3) := by decide +kernel
theorem d_Store_takeRead_27 : decode prog_1_method_32_code 27 = .ok (.iaload, 1) := by decide +kernel
theorem d_Store_takeRead_28 : decode prog_1_method_32_code 28 = .ok (.invokevirtual 274, 3) := by decide +kernel
theorem d_Store_takeRead_31 : decode prog_1_method_32_code 31 = .ok (.iconst 1, 1) := by decide +kernel
theorem d_Store_takeRead_32 : decode prog_1_method_32_code 32 = .ok (.ireturn, 1) := by decide +kernel
def S_Store_takeRead (n : Nat) (π : Nat → Nat) (s : S3) (i : Nat) (w : Nat) : S3 := if ((s 0 4 0) + (s 1 4 i)) < (s 1 5 i) then (S_Store_sendAnswer π s w (s 9 i ((s 7 3 w).toNatClampNeg))) else s
def v_Store_takeRead (n : Nat) (π : Nat → Nat) (s : S3) (i : Nat) (w : Nat) : Int32 := if ((s 0 4 0) + (s 1 4 i)) < (s 1 5 i) then 1 else 0
theorem zbv_Store_takeRead {n : Nat} {π : Nat → Nat} {s : S3} {i : Nat} {w : Nat} : zb (v_Store_takeRead n π s i w) := by
  unfold v_Store_takeRead
  repeat' split
  all_goals first | with_reducible exact zb_0 | with_reducible exact zb_1 | with_reducible exact zbv_View_hasBackup | with_reducible exact zbv_Server_isPrimary | with_reducible exact zbv_Server_isPrimaryOf | with_reducible exact zbv_Server_isBackupOf | with_reducible exact zbv_Client_takeAnswer | with_reducible exact zbv_Service_isFresh | with_reducible exact zbv_Post_has | with_reducible exact zbv_Store_isServer | with_reducible exact zbv_Store_isClient | with_reducible exact zbv_Store_isCell
set_option maxHeartbeats 4000000 in
set_option maxRecDepth 100000 in
theorem c_Store_takeRead {l : Launch} {D : va_G} {K : Nat → ClassId} {ad : Nat → Nat → Nat} {n : Nat} {π : Nat → Nat} {s : S3} {i w : Nat} (hJ : zw_J (cRL n) ad) (mi : (1, i) ∈ cRL n) (mw : (7, w) ∈ cRL n) (hw : vp_in (s 4 2 0) 33) (hπ : ∀ j, π j < 34) (hop : opOK s) : zM l y_Store_takeRead ws_Store_takeRead ({ frames := 2, cells := 0, slots := 0, locals := 46 }) D zCl (zTys K) (cRL n) ad [.ref (ad 0 0), .ref (ad 1 i), .ref (ad 7 w)] (kC K ad n s π) (some (.int (v_Store_takeRead n π s i w))) (kC K ad n (S_Store_takeRead n π s i w) π) := by
  refine zM.of (cc := prog_1_method_32_code) (maxL := 3) (ret := (Option.some Jvm.ClassFile.FieldType.boolean)) (by decide) rfl (Nat.le_of_ble_eq_true rfl) ?_
  intro pP eE U mM bL mT cO S hr hlk hK
  have hts := S.2.2.2.2
  have ht := fun w h => hts w (List.mem_cons_of_mem _ h)
  refine z_aload_n S d_Store_takeRead_0 rfl 0 rfl 1 rfl ?_
  refine z_aload_n S d_Store_takeRead_1 rfl 1 rfl 2 rfl ?_
  refine z_callV S hK (As := [.ref (ad 1 i)]) (rest := []) (c_Store_clockOf (i := i) hJ mi) (cw_Store_clockOf hts w_322 rfl rfl ⟨(Nat.le_of_ble_eq_true rfl), (Nat.le_of_ble_eq_true rfl)⟩) rl_0 kC_0 rfl rfl rfl (Nat.le_of_ble_eq_true rfl) d_Store_takeRead_2 5 rfl [.int ((s 0 4 0) + (s 1 4 i))] rfl ?_
  refine z_aload_n S d_Store_takeRead_5 rfl 1 rfl 6 rfl ?_
  refine z_get S hK hin_Server mi kC_1 rfl 5 (Nat.le_of_ble_eq_true rfl) (ht _ w_128) (fun _ h => h) d_Store_takeRead_6 9 rfl (.int (s 1 5 i)) rfl ?_
  refine z_icmp_lt S d_Store_takeRead_9 14 (by decide) 12 rfl (fun h1 => ?_) (fun h1 => ?_)
  · refine z_aload_n S d_Store_takeRead_14 rfl 0 rfl 15 rfl ?_
    refine z_aload_n S d_Store_takeRead_15 rfl 2 rfl 16 rfl ?_
    refine z_aload_n S d_Store_takeRead_16 rfl 1 rfl 17 rfl ?_
    refine z_get S hK hin_Server mi kC_1 rfl 2 (Nat.le_of_ble_eq_true rfl) (ht _ w_122) (fun _ h => h) d_Store_takeRead_17 20 rfl (.ref (ad 8 i)) rfl ?_
    refine z_get S hK hin_State (rl_ss mi) kC_8 rfl 0 (Nat.le_of_ble_eq_true rfl) (ht _ w_66) (fun _ h => h) d_Store_takeRead_20 23 rfl (.ref (ad 9 i)) rfl ?_
    refine z_aload_n S d_Store_takeRead_23 rfl 2 rfl 24 rfl ?_
    refine z_get S hK hin_Operation mw kC_7 rfl 3 (Nat.le_of_ble_eq_true rfl) (ht _ w_103) (fun _ h => h) d_Store_takeRead_24 27 rfl (.int (s 7 3 w)) rfl ?_
    refine z_iald S hK (rl_s9 (rl_ss mi)) 0 kC_9 rfl (opOK.k hop w) d_Store_takeRead_27 28 rfl (s 9 i ((s 7 3 w).toNatClampNeg)) rfl ?_
    refine z_callV S hK (As := [.ref (ad 7 w), .int (s 9 i ((s 7 3 w).toNatClampNeg))]) (rest := []) (c_Store_sendAnswer (w := w) (x := s 9 i ((s 7 3 w).toNatClampNeg)) hJ mw hw hπ hop) (cw_Store_sendAnswer hts w_467 rfl rfl ⟨(Nat.le_of_ble_eq_true rfl), (Nat.le_of_ble_eq_true rfl)⟩) rl_0 kC_0 rfl rfl rfl (Nat.le_of_ble_eq_true rfl) d_Store_takeRead_28 31 rfl [] rfl ?_
    refine z_iconst S d_Store_takeRead_31 1 (by decide) 32 rfl ?_
    exact z_zret S hr (zb_n zb_1) hlk d_Store_takeRead_32 (by unfold v_Store_takeRead; simp only [if_pos h1]) (kC_eq (by unfold S_Store_takeRead; simp only [if_pos h1]))
  · refine z_iconst S d_Store_takeRead_12 0 (by decide) 13 rfl ?_
    exact z_zret S hr (zb_n zb_0) hlk d_Store_takeRead_13 (by unfold v_Store_takeRead; simp only [if_neg h1]) (kC_eq (by unfold S_Store_takeRead; simp only [if_neg h1]))
theorem d_Store_takeWrite_0 : decode prog_1_method_33_code 0 = .ok (.aload_n 1, 1) := by decide +kernel
theorem d_Store_takeWrite_1 : decode prog_1_method_33_code 1 = .ok (.getfield 175, 3) := by decide +kernel
theorem d_Store_takeWrite_4 : decode prog_1_method_33_code 4 = .ok (.getfield 278, 3) := by decide +kernel
theorem d_Store_takeWrite_7 : decode prog_1_method_33_code 7 = .ok (.aload_n 2, 1) := by decide +kernel
theorem d_Store_takeWrite_8 : decode prog_1_method_33_code 8 = .ok (.getfield 281, 3) := by decide +kernel
theorem d_Store_takeWrite_11 : decode prog_1_method_33_code 11 = .ok (.iaload, 1) := by decide +kernel
theorem d_Store_takeWrite_12 : decode prog_1_method_33_code 12 = .ok (.istore_n 3, 1) := by decide +kernel
theorem d_Store_takeWrite_13 : decode prog_1_method_33_code 13 = .ok (.aload_n 2, 1) := by decide +kernel
theorem d_Store_takeWrite_14 : decode prog_1_method_33_code 14 = .ok (.getfield 137, 3) := by decide +kernel
theorem d_Store_takeWrite_17 : decode prog_1_method_33_code 17 = .ok (.iload_n 3, 1) := by decide +kernel
theorem d_Store_takeWrite_18 : decode prog_1_method_33_code 18 = .ok (.if_icmp .ge 5, 3) := by decide +kernel
theorem d_Store_takeWrite_21 : decode prog_1_method_33_code 21 = .ok (.iconst 0, 1) := by decide +kernel
theorem d_Store_takeWrite_22 : decode prog_1_method_33_code 22 = .ok (.ireturn, 1) := by decide +kernel
theorem d_Store_takeWrite_23 : decode prog_1_method_33_code 23 = .ok (.aload_n 2, 1) := by decide +kernel
theorem d_Store_takeWrite_24 : decode prog_1_method_33_code 24 = .ok (.getfield 137, 3) := by decide +kernel
theorem d_Store_takeWrite_27 : decode prog_1_method_33_code 27 = .ok (.iload_n 3, 1) := by decide +kernel
theorem d_Store_takeWrite_28 : decode prog_1_method_33_code 28 = .ok (.if_icmp .ne 22, 3) := by decide +kernel
theorem d_Store_takeWrite_31 : decode prog_1_method_33_code 31 = .ok (.aload_n 0, 1) := by decide +kernel
theorem d_Store_takeWrite_32 : decode prog_1_method_33_code 32 = .ok (.aload_n 2, 1) := by decide +kernel
theorem d_Store_takeWrite_33 : decode prog_1_method_33_code 33 = .ok (.aload_n 1, 1) := by decide +kernel
theorem d_Store_takeWrite_34 : decode prog_1_method_33_code 34 = .ok (.getfield 175, 3) := by decide +kernel
theorem d_Store_takeWrite_37 : decode prog_1_method_33_code 37 = .ok (.getfield 284, 3) := by decide +kernel
theorem d_Store_takeWrite_40 : decode prog_1_method_33_code 40 = .ok (.aload_n 2, 1) := by decide +kernel
theorem d_Store_takeWrite_41 : decode prog_1_method_33_code 41 = .ok (.getfield 281, 3) := by decide +kernel
theorem d_Store_takeWrite_44 : decode prog_1_method_33_code 44 = .ok (.iaload, 1) := by decide +kernel
theorem d_Store_takeWrite_45 : decode prog_1_method_33_code 45 = .ok (.invokevirtual 274, 3) := by decide +kernel
theorem d_Store_takeWrite_48 : decode prog_1_method_33_code 48 = .ok (.iconst 1, 1) := by decide +kernel
theorem d_Store_takeWrite_49 : decode prog_1_method_33_code 49 = .ok (.ireturn, 1) := by decide +kernel
theorem d_Store_takeWrite_50 : decode prog_1_method_33_code 50 = .ok (.aload_n 1, 1) := by decide +kernel
theorem d_Store_takeWrite_51 : decode prog_1_method_33_code 51 = .ok (.getfield 101, 3) := by decide +kernel
theorem d_Store_takeWrite_54 : decode prog_1_method_33_code 54 = .ok (.invokevirtual 104, 3) := by decide +kernel
theorem d_Store_takeWrite_57 : decode prog_1_method_33_code 57 = .ok (.ifCond .ne 11, 3) := by decide +kernel
theorem d_Store_takeWrite_60 : decode prog_1_method_33_code 60 = .ok (.aload_n 0, 1) := by decide +kernel
theorem d_Store_takeWrite_61 : decode prog_1_method_33_code 61 = .ok (.aload_n 1, 1) := by decide +kernel
theorem d_Store_takeWrite_62 : decode prog_1_method_33_code 62 = .ok (.aload_n 2, 1) := by decide +kernel
theorem d_Store_takeWrite_63 : decode prog_1_method_33_code 63 = .ok (.invokevirtual 257, 3) := by decide +kernel
theorem d_Store_takeWrite_66 : decode prog_1_method_33_code 66 = .ok (.iconst 1, 1) := by decide +kernel
theorem d_Store_takeWrite_67 : decode prog_1_method_33_code 67 = .ok (.ireturn, 1) := by decide +kernel
theorem d_Store_takeWrite_68 : decode prog_1_method_33_code 68 = .ok (.aload_n 1, 1) := by decide +kernel
theorem d_Store_takeWrite_69 : decode prog_1_method_33_code 69 = .ok (.getfield 107, 3) := by decide +kernel
theorem d_Store_takeWrite_72 : decode prog_1_method_33_code 72 = .ok (.ifCond .eq 10, 3) := by decide +kernel
theorem d_Store_takeWrite_75 : decode prog_1_method_33_code 75 = .ok (.aload_n 1, 1) := by decide +kernel
theorem d_Store_takeWrite_76 : decode prog_1_method_33_code 76 = .ok (.getfield 114, 3) := by decide +kernel
theorem d_Store_takeWrite_79 : decode prog_1_method_33_code 79 = .ok (.ifCond .eq 5, 3) := by decide +kernel
theorem d_Store_takeWrite_82 : decode prog_1_method_33_code 82 = .ok (.iconst 0, 1) := by decide +kernel
theorem d_Store_takeWrite_83 : decode prog_1_method_33_code 83 = .ok (.ireturn, 1) := by decide +kernel
theorem d_Store_takeWrite_84 : decode prog_1_method_33_code 84 = .ok (.aload_n 1, 1) := by decide +kernel
theorem d_Store_takeWrite_85 : decode prog_1_method_33_code 85 = .ok (.iconst 1, 1) := by decide +kernel
theorem d_Store_takeWrite_86 : decode prog_1_method_33_code 86 = .ok (.putfield 114, 3) := by decide +kernel
theorem d_Store_takeWrite_89 : decode prog_1_method_33_code 89 = .ok (.aload_n 1, 1) := by decide +kernel
theorem d_Store_takeWrite_90 : decode prog_1_method_33_code 90 = .ok (.getfield 254, 3) := by decide +kernel
theorem d_Store_takeWrite_93 : decode prog_1_method_33_code 93 = .ok (.aload_n 2, 1) := by decide +kernel
theorem d_Store_takeWrite_94 : decode prog_1_method_33_code 94 = .ok (.invokevirtual 141, 3) := by decide +kernel
theorem d_Store_takeWrite_97 : decode prog_1_method_33_code 97 = .ok (.aload_n 0, 1) := by decide +kernel
theorem d_Store_takeWrite_98 : decode prog_1_method_33_code 98 = .ok (.aload_n 1, 1) := by decide +kernel
theorem d_Store_takeWrite_99 : decode prog_1_method_33_code 99 = .ok (.invokevirtual 117, 3) := by decide +kernel
theorem d_Store_takeWrite_102 : decode prog_1_method_33_code 102 = .ok (.iconst 1, 1) := by decide +kernel
theorem d_Store_takeWrite_103 : decode prog_1_method_33_code 103 = .ok (.ireturn, 1) := by decide +kernel
def S_Store_takeWrite (n : Nat) (π : Nat → Nat) (s : S3) (i : Nat) (w : Nat) : S3 := if (s 13 i ((s 7 0 w).toNatClampNeg)) ≤ (s 7 1 w) then (if (s 7 1 w) = (s 13 i ((s 7 0 w).toNatClampNeg)) then (S_Store_sendAnswer π s w (s 14 i ((s 7 0 w).toNatClampNeg))) else if (v_View_hasBackup (s 6 2 i)) = 0 then (S_Store_doWriteAndAnswer π s i w) else if (s 1 7 i) = 0 then s else if (s 1 8 i) = 0 then (S_Store_sendPass π (S_Operation_become π (u3 s 1 8 i 1) i w) i) else s) else s
def v_Store_takeWrite (n : Nat) (π : Nat → Nat) (s : S3) (i : Nat) (w : Nat) : Int32 := if (s 13 i ((s 7 0 w).toNatClampNeg)) ≤ (s 7 1 w) then (if (s 7 1 w) = (s 13 i ((s 7 0 w).toNatClampNeg)) then 1 else if (v_View_hasBackup (s 6 2 i)) = 0 then 1 else if (s 1 7 i) = 0 then 0 else if (s 1 8 i) = 0 then 1 else 0) else 0
theorem zbv_Store_takeWrite {n : Nat} {π : Nat → Nat} {s : S3} {i : Nat} {w : Nat} : zb (v_Store_takeWrite n π s i w) := by
  unfold v_Store_takeWrite
  repeat' split
  all_goals first | with_reducible exact zb_0 | with_reducible exact zb_1 | with_reducible exact zbv_View_hasBackup | with_reducible exact zbv_Server_isPrimary | with_reducible exact zbv_Server_isPrimaryOf | with_reducible exact zbv_Server_isBackupOf | with_reducible exact zbv_Client_takeAnswer | with_reducible exact zbv_Service_isFresh | with_reducible exact zbv_Post_has | with_reducible exact zbv_Store_isServer | with_reducible exact zbv_Store_isClient | with_reducible exact zbv_Store_isCell | with_reducible exact zbv_Store_takeRead
set_option maxHeartbeats 4000000 in
set_option maxRecDepth 100000 in
theorem c_Store_takeWrite {l : Launch} {D : va_G} {K : Nat → ClassId} {ad : Nat → Nat → Nat} {n : Nat} {π : Nat → Nat} {s : S3} {i w : Nat} (hJ : zw_J (cRL n) ad) (mi : (1, i) ∈ cRL n) (mw : (7, w) ∈ cRL n) (hw : vp_in (s 4 2 0) 33) (hπ : ∀ j, π j < 34) (hop : opOK s) : zM l y_Store_takeWrite ws_Store_takeWrite ({ frames := 3, cells := 0, slots := 0, locals := 68 }) D zCl (zTys K) (cRL n) ad [.ref (ad 0 0), .ref (ad 1 i), .ref (ad 7 w)] (kC K ad n s π) (some (.int (v_Store_takeWrite n π s i w))) (kC K ad n (S_Store_takeWrite n π s i w) π) := by
  refine zM.of (cc := prog_1_method_33_code) (maxL := 4) (ret := (Option.some Jvm.ClassFile.FieldType.boolean)) (by decide) rfl (Nat.le_of_ble_eq_true rfl) ?_
  intro pP eE U mM bL mT cO S hr hlk hK
  have hts := S.2.2.2.2
  have ht := fun w h => hts w (List.mem_cons_of_mem _ h)
  refine z_aload_n S d_Store_takeWrite_0 rfl 1 rfl 1 rfl ?_
  refine z_get S hK hin_Server mi kC_1 rfl 2 (Nat.le_of_ble_eq_true rfl) (ht _ w_122) (fun _ h => h) d_Store_takeWrite_1 4 rfl (.ref (ad 8 i)) rfl ?_
  refine z_get S hK hin_State (rl_ss mi) kC_8 rfl 1 (Nat.le_of_ble_eq_true rfl) (ht _ w_68) (fun _ h => h) d_Store_takeWrite_4 7 rfl (.ref (ad 13 i)) rfl ?_
  refine z_aload_n S d_Store_takeWrite_7 rfl 2 rfl 8 rfl ?_
  refine z_get S hK hin_Operation mw kC_7 rfl 0 (Nat.le_of_ble_eq_true rfl) (ht _ w_92) (fun _ h => h) d_Store_takeWrite_8 11 rfl (.int (s 7 0 w)) rfl ?_
  refine z_iald S hK (rl_s13 (rl_ss mi)) 0 kC_13 rfl (opOK.c hop w) d_Store_takeWrite_11 12 rfl (s 13 i ((s 7 0 w).toNatClampNeg)) rfl ?_
  refine z_istore_n S d_Store_takeWrite_12 rfl (Nat.le_of_ble_eq_true rfl) [(3, .int (s 13 i ((s 7 0 w).toNatClampNeg))), (0, .ref (ad 0 0)), (1, .ref (ad 1 i)), (2, .ref (ad 7 w))] rfl 13 rfl ?_
  refine z_aload_n S d_Store_takeWrite_13 rfl 3 rfl 14 rfl ?_
  refine z_get S hK hin_Operation mw kC_7 rfl 1 (Nat.le_of_ble_eq_true rfl) (ht _ w_96) (fun _ h => h) d_Store_takeWrite_14 17 rfl (.int (s 7 1 w)) rfl ?_
  refine z_iload_n S d_Store_takeWrite_17 rfl 0 rfl 18 rfl ?_
  refine z_icmp_ge S d_Store_takeWrite_18 23 (by decide) 21 rfl (fun h1 => ?_) (fun h1 => ?_)
  · refine z_aload_n S d_Store_takeWrite_23 rfl 3 rfl 24 rfl ?_
    refine z_get S hK hin_Operation mw kC_7 rfl 1 (Nat.le_of_ble_eq_true rfl) (ht _ w_96) (fun _ h => h) d_Store_takeWrite_24 27 rfl (.int (s 7 1 w)) rfl ?_
    refine z_iload_n S d_Store_takeWrite_27 rfl 0 rfl 28 rfl ?_
    refine z_icmp_ne S d_Store_takeWrite_28 50 (by decide) 31 rfl (fun h2 => ?_) (fun h2 => ?_)
    · refine z_aload_n S d_Store_takeWrite_50 rfl 2 rfl 51 rfl ?_
      refine z_get S hK hin_Server mi kC_1 rfl 1 (Nat.le_of_ble_eq_true rfl) (ht _ w_120) (fun _ h => h) d_Store_takeWrite_51 54 rfl (.ref (ad 6 i)) rfl ?_
      refine z_callV S hK (As := []) (rest := []) (c_View_hasBackup (a := i) hJ (rl_sv mi)) (cw_View_hasBackup hts w_355 rfl rfl ⟨(Nat.le_of_ble_eq_true rfl), (Nat.le_of_ble_eq_true rfl)⟩) (rl_sv mi) kC_6 rfl rfl rfl (Nat.le_of_ble_eq_true rfl) d_Store_takeWrite_54 57 rfl [.int (v_View_hasBackup (s 6 2 i))] rfl ?_
      refine z_if_ne S d_Store_takeWrite_57 68 (by decide) 60 rfl (fun h3 => ?_) (fun h3 => ?_)
      · refine z_aload_n S d_Store_takeWrite_68 rfl 2 rfl 69 rfl ?_
        refine z_get S hK hin_Server mi kC_1 rfl 7 (Nat.le_of_ble_eq_true rfl) (ht _ w_132) (fun _ h => h) d_Store_takeWrite_69 72 rfl (.int (s 1 7 i)) rfl ?_
        refine z_if_eq S d_Store_takeWrite_72 82 (by decide) 75 rfl (fun h4 => ?_) (fun h4 => ?_)
        · refine z_iconst S d_Store_takeWrite_82 0 (by decide) 83 rfl ?_
          exact z_zret S hr (zb_n zb_0) hlk d_Store_takeWrite_83 (by unfold v_Store_takeWrite; simp only [if_pos h1, if_neg h2, if_neg h3, if_pos h4]) (kC_eq (by unfold S_Store_takeWrite; simp only [if_pos h1, if_neg h2, if_neg h3, if_pos h4]))
        · refine z_aload_n S d_Store_takeWrite_75 rfl 2 rfl 76 rfl ?_
          refine z_get S hK hin_Server mi kC_1 rfl 8 (Nat.le_of_ble_eq_true rfl) (ht _ w_134) (fun _ h => h) d_Store_takeWrite_76 79 rfl (.int (s 1 8 i)) rfl ?_
          refine z_if_eq S d_Store_takeWrite_79 84 (by decide) 82 rfl (fun h5 => ?_) (fun h5 => ?_)
          · refine z_aload_n S d_Store_takeWrite_84 rfl 2 rfl 85 rfl ?_
            refine z_iconst S d_Store_takeWrite_85 1 (by decide) 86 rfl ?_
            refine z_put S hJ hK hin_Server t_Server ok_Server nm_Server mi kC_1 rfl 8 (Nat.le_of_ble_eq_true rfl) (ht _ w_134) (fun _ h => h) rfl (zb_n zb_1) (zb_f zb_1) (Nat.le_of_ble_eq_true rfl) up_1_8 d_Store_takeWrite_86 89 rfl ?_
            refine z_aload_n S d_Store_takeWrite_89 rfl 2 rfl 90 rfl ?_
            refine z_get S hK hin_Server mi kC_1 rfl 3 (Nat.le_of_ble_eq_true rfl) (ht _ w_124) (fun _ h => h) d_Store_takeWrite_90 93 rfl (.ref (ad 7 i)) rfl ?_
            refine z_aload_n S d_Store_takeWrite_93 rfl 3 rfl 94 rfl ?_
            refine z_callV S hK (As := [.ref (ad 7 w)]) (rest := []) (c_Operation_become (a := i) (b := w) hJ (rl_so mi) mw (opOK.w hop w)) (cw_Operation_become hts w_375 rfl rfl ⟨(Nat.le_of_ble_eq_true rfl), (Nat.le_of_ble_eq_true rfl)⟩) (rl_so mi) kC_7 rfl rfl rfl (Nat.le_of_ble_eq_true rfl) d_Store_takeWrite_94 97 rfl [] rfl ?_
            refine z_aload_n S d_Store_takeWrite_97 rfl 1 rfl 98 rfl ?_
            refine z_aload_n S d_Store_takeWrite_98 rfl 2 rfl 99 rfl ?_
            refine z_callV S hK (As := [.ref (ad 1 i)]) (rest := []) (c_Store_sendPass (i := i) hJ mi hw hπ (opOK_bec hop)) (cw_Store_sendPass hts w_371 rfl rfl ⟨(Nat.le_of_ble_eq_true rfl), (Nat.le_of_ble_eq_true rfl)⟩) rl_0 kC_0 rfl rfl rfl (Nat.le_of_ble_eq_true rfl) d_Store_takeWrite_99 102 rfl [] rfl ?_
            refine z_iconst S d_Store_takeWrite_102 1 (by decide) 103 rfl ?_
            exact z_zret S hr (zb_n zb_1) hlk d_Store_takeWrite_103 (by unfold v_Store_takeWrite; simp only [if_pos h1, if_neg h2, if_neg h3, if_neg h4, if_pos h5]) (kC_eq (by unfold S_Store_takeWrite; simp only [if_pos h1, if_neg h2, if_neg h3, if_neg h4, if_pos h5]))
          · refine z_iconst S d_Store_takeWrite_82 0 (by decide) 83 rfl ?_
            exact z_zret S hr (zb_n zb_0) hlk d_Store_takeWrite_83 (by unfold v_Store_takeWrite; simp only [if_pos h1, if_neg h2, if_neg h3, if_neg h4, if_neg h5]) (kC_eq (by unfold S_Store_takeWrite; simp only [if_pos h1, if_neg h2, if_neg h3, if_neg h4, if_neg h5]))
      · refine z_aload_n S d_Store_takeWrite_60 rfl 1 rfl 61 rfl ?_
        refine z_aload_n S d_Store_takeWrite_61 rfl 2 rfl 62 rfl ?_
        refine z_aload_n S d_Store_takeWrite_62 rfl 3 rfl 63 rfl ?_
        refine z_callV S hK (As := [.ref (ad 1 i), .ref (ad 7 w)]) (rest := []) (c_Store_doWriteAndAnswer (i := i) (w := w) hJ mi mw hw hπ hop) (cw_Store_doWriteAndAnswer hts w_463 rfl rfl ⟨(Nat.le_of_ble_eq_true rfl), (Nat.le_of_ble_eq_true rfl)⟩) rl_0 kC_0 rfl rfl rfl (Nat.le_of_ble_eq_true rfl) d_Store_takeWrite_63 66 rfl [] rfl ?_
        refine z_iconst S d_Store_takeWrite_66 1 (by decide) 67 rfl ?_
        exact z_zret S hr (zb_n zb_1) hlk d_Store_takeWrite_67 (by unfold v_Store_takeWrite; simp only [if_pos h1, if_neg h2, if_pos h3]) (kC_eq (by unfold S_Store_takeWrite; simp only [if_pos h1, if_neg h2, if_pos h3]))
    · refine z_aload_n S d_Store_takeWrite_31 rfl 1 rfl 32 rfl ?_
      refine z_aload_n S d_Store_takeWrite_32 rfl 3 rfl 33 rfl ?_
      refine z_aload_n S d_Store_takeWrite_33 rfl 2 rfl 34 rfl ?_
      refine z_get S hK hin_Server mi kC_1 rfl 2 (Nat.le_of_ble_eq_true rfl) (ht _ w_122) (fun _ h => h) d_Store_takeWrite_34 37 rfl (.ref (ad 8 i)) rfl ?_
      refine z_get S hK hin_State (rl_ss mi) kC_8 rfl 2 (Nat.le_of_ble_eq_true rfl) (ht _ w_70) (fun _ h => h) d_Store_takeWrite_37 40 rfl (.ref (ad 14 i)) rfl ?_
      refine z_aload_n S d_Store_takeWrite_40 rfl 3 rfl 41 rfl ?_
      refine z_get S hK hin_Operation mw kC_7 rfl 0 (Nat.le_of_ble_eq_true rfl) (ht _ w_92) (fun _ h => h) d_Store_takeWrite_41 44 rfl (.int (s 7 0 w)) rfl ?_
      refine z_iald S hK (rl_s14 (rl_ss mi)) 0 kC_14 rfl (opOK.c hop w) d_Store_takeWrite_44 45 rfl (s 14 i ((s 7 0 w).toNatClampNeg)) rfl ?_
      refine z_callV S hK (As := [.ref (ad 7 w), .int (s 14 i ((s 7 0 w).toNatClampNeg))]) (rest := []) (c_Store_sendAnswer (w := w) (x := s 14 i ((s 7 0 w).toNatClampNeg)) hJ mw hw hπ hop) (cw_Store_sendAnswer hts w_467 rfl rfl ⟨(Nat.le_of_ble_eq_true rfl), (Nat.le_of_ble_eq_true rfl)⟩) rl_0 kC_0 rfl rfl rfl (Nat.le_of_ble_eq_true rfl) d_Store_takeWrite_45 48 rfl [] rfl ?_
      refine z_iconst S d_Store_takeWrite_48 1 (by decide) 49 rfl ?_
      exact z_zret S hr (zb_n zb_1) hlk d_Store_takeWrite_49 (by unfold v_Store_takeWrite; simp only [if_pos h1, if_pos h2]) (kC_eq (by unfold S_Store_takeWrite; simp only [if_pos h1, if_pos h2]))
  · refine z_iconst S d_Store_takeWrite_21 0 (by decide) 22 rfl ?_
    exact z_zret S hr (zb_n zb_0) hlk d_Store_takeWrite_22 (by unfold v_Store_takeWrite; simp only [if_neg h1]) (kC_eq (by unfold S_Store_takeWrite; simp only [if_neg h1]))
theorem d_Store_takeAsk_0 : decode prog_1_method_31_code 0 = .ok (.aload_n 1, 1) := by decide +kernel
theorem d_Store_takeAsk_1 : decode prog_1_method_31_code 1 = .ok (.invokevirtual 97, 3) := by decide +kernel
theorem d_Store_takeAsk_4 : decode prog_1_method_31_code 4 = .ok (.ifCond .ne 5, 3) := by decide +kernel
theorem d_Store_takeAsk_7 : decode prog_1_method_31_code 7 = .ok (.iconst 0, 1) := by decide +kernel
theorem d_Store_takeAsk_8 : decode prog_1_method_31_code 8 = .ok (.ireturn, 1) := by decide +kernel
theorem d_Store_takeAsk_9 : decode prog_1_method_31_code 9 = .ok (.aload_n 2, 1) := by decide +kernel
theorem d_Store_takeAsk_10 : decode prog_1_method_31_code 10 = .ok (.getfield 140, 3) := by decide +kernel
theorem d_Store_takeAsk_13 : decode prog_1_method_31_code 13 = .ok (.astore_n 3, 1) := by decide +kernel
theorem d_Store_takeAsk_14 : decode prog_1_method_31_code 14 = .ok (.aload_n 3, 1) := by decide +kernel
theorem d_Store_takeAsk_15 : decode prog_1_method_31_code 15 = .ok (.getfield 261, 3) := by decide +kernel
theorem d_Store_takeAsk_18 : decode prog_1_method_31_code 18 = .ok (.ifCond .eq 12, 3) := by decide +kernel
theorem d_Store_takeAsk_21 : decode prog_1_method_31_code 21 = .ok (.aload_n 0, 1) := by decide +kernel
theorem d_Store_takeAsk_22 : decode prog_1_method_31_code 22 = .ok (.aload_n 1, 1) := by decide +kernel
theorem d_Store_takeAsk_23 : decode prog_1_method_31_code 23 = .ok (.aload_n 3, 1) := by decide +kernel
theorem d_Store_takeAsk_24 : decode prog_1_method_31_code 24 = .ok (.invokevirtual 264, 3) := by decide +kernel
theorem d_Store_takeAsk_27 : decode prog_1_method_31_code 27 = .ok (.goto 9, 3) := by decide +kernel
theorem d_Store_takeAsk_30 : decode prog_1_method_31_code 30 = .ok (.aload_n 0, 1) := by decide +kernel
theorem d_Store_takeAsk_31 : decode prog_1_method_31_code 31 = .ok (.aload_n 1, 1) := by decide +kernel
theorem d_Store_takeAsk_32 : decode prog_1_method_31_code 32 = .ok (.aload_n 3, 1) := by decide +kernel
theorem d_Store_takeAsk_33 : decode prog_1_method_31_code 33 = .ok (.invokevirtual 268, 3) := by decide +kernel
theorem d_Store_takeAsk_36 : decode prog_1_method_31_code 36 = .ok (.ireturn, 1) := by decide +kernel
def S_Store_takeAsk (n : Nat) (π : Nat → Nat) (s : S3) (i : Nat) (L : Nat) : S3 := if (v_Server_isPrimary (s 6 1 i) (s 1 0 i)) = 0 then s else if (s 7 2 (8 + L)) = 0 then (S_Store_takeRead n π s i (8 + L)) else S_Store_takeWrite n π s i (8 + L)
def v_Store_takeAsk (n : Nat) (π : Nat → Nat) (s : S3) (i : Nat) (L : Nat) : Int32 := if (v_Server_isPrimary (s 6 1 i) (s 1 0 i)) = 0 then 0 else if (s 7 2 (8 + L)) = 0 then (v_Store_takeRead n π s i (8 + L)) else v_Store_takeWrite n π s i (8 + L)
theorem zbv_Store_takeAsk {n : Nat} {π : Nat → Nat} {s : S3} {i : Nat} {L : Nat} : zb (v_Store_takeAsk n π s i L) := by
  unfold v_Store_takeAsk
  repeat' split
  all_goals first | with_reducible exact zb_0 | with_reducible exact zb_1 | with_reducible exact zbv_View_hasBackup | with_reducible exact zbv_Server_isPrimary | with_reducible exact zbv_Server_isPrimaryOf | with_reducible exact zbv_Server_isBackupOf | with_reducible exact zbv_Client_takeAnswer | with_reducible exact zbv_Service_isFresh | with_reducible exact zbv_Post_has | with_reducible exact zbv_Store_isServer | with_reducible exact zbv_Store_isClient | with_reducible exact zbv_Store_isCell | with_reducible exact zbv_Store_takeRead | with_reducible exact zbv_Store_takeWrite
set_option maxHeartbeats 4000000 in
set_option maxRecDepth 100000 in
theorem c_Store_takeAsk {l : Launch} {D : va_G} {K : Nat → ClassId} {ad : Nat → Nat → Nat} {n : Nat} {π : Nat → Nat} {s : S3} {i L : Nat} (hJ : zw_J (cRL n) ad) (mi : (1, i) ∈ cRL n) (mL : (5, L) ∈ cRL n) (hw : vp_in (s 4 2 0) 33) (hπ : ∀ j, π j < 34) (hop : opOK s) : zM l y_Store_takeAsk ws_Store_takeAsk ({ frames := 4, cells := 0, slots := 0, locals := 91 }) D zCl (zTys K) (cRL n) ad [.ref (ad 0 0), .ref (ad 1 i), .ref (ad 5 L)] (kC K ad n s π) (some (.int (v_Store_takeAsk n π s i L))) (kC K ad n (S_Store_takeAsk n π s i L) π) := by
  refine zM.of (cc := prog_1_method_31_code) (maxL := 4) (ret := (Option.some Jvm.ClassFile.FieldType.boolean)) (by decide) rfl (Nat.le_of_ble_eq_true rfl) ?_
  intro pP eE U mM bL mT cO S hr hlk hK
  have hts := S.2.2.2.2
  have ht := fun w h => hts w (List.mem_cons_of_mem _ h)
  refine z_aload_n S d_Store_takeAsk_0 rfl 1 rfl 1 rfl ?_
  refine z_callV S hK (As := []) (rest := []) (c_Server_isPrimary (i := i) hJ mi) (cw_Server_isPrimary hts w_354 rfl rfl ⟨(Nat.le_of_ble_eq_true rfl), (Nat.le_of_ble_eq_true rfl)⟩) mi kC_1 rfl rfl rfl (Nat.le_of_ble_eq_true rfl) d_Store_takeAsk_1 4 rfl [.int (v_Server_isPrimary (s 6 1 i) (s 1 0 i))] rfl ?_
  refine z_if_ne S d_Store_takeAsk_4 9 (by decide) 7 rfl (fun h1 => ?_) (fun h1 => ?_)
  · refine z_aload_n S d_Store_takeAsk_9 rfl 2 rfl 10 rfl ?_
    refine z_get S hK hin_Letter mL kC_5 rfl 1 (Nat.le_of_ble_eq_true rfl) (ht _ w_227) (fun _ h => h) d_Store_takeAsk_10 13 rfl (.ref (ad 7 (8 + L))) rfl ?_
    refine z_astore_n S d_Store_takeAsk_13 rfl (Nat.le_of_ble_eq_true rfl) [(3, .ref (ad 7 (8 + L))), (0, .ref (ad 0 0)), (1, .ref (ad 1 i)), (2, .ref (ad 5 L))] rfl 14 rfl ?_
    refine z_aload_n S d_Store_takeAsk_14 rfl 0 rfl 15 rfl ?_
    refine z_get S hK hin_Operation (rl_lo mL) kC_7 rfl 2 (Nat.le_of_ble_eq_true rfl) (ht _ w_99) (fun _ h => h) d_Store_takeAsk_15 18 rfl (.int (s 7 2 (8 + L))) rfl ?_
    refine z_if_eq S d_Store_takeAsk_18 30 (by decide) 21 rfl (fun h2 => ?_) (fun h2 => ?_)
    · refine z_aload_n S d_Store_takeAsk_30 rfl 1 rfl 31 rfl ?_
      refine z_aload_n S d_Store_takeAsk_31 rfl 2 rfl 32 rfl ?_
      refine z_aload_n S d_Store_takeAsk_32 rfl 0 rfl 33 rfl ?_
      refine z_callV S hK (As := [.ref (ad 1 i), .ref (ad 7 (8 + L))]) (rest := []) (c_Store_takeRead (i := i) (w := 8 + L) hJ mi (rl_lo mL) hw hπ hop) (cw_Store_takeRead hts w_479 rfl rfl ⟨(Nat.le_of_ble_eq_true rfl), (Nat.le_of_ble_eq_true rfl)⟩) rl_0 kC_0 rfl rfl rfl (Nat.le_of_ble_eq_true rfl) d_Store_takeAsk_33 36 rfl [.int (v_Store_takeRead n π s i (8 + L))] rfl ?_
      exact z_zret S hr (zb_n zbv_Store_takeRead) hlk d_Store_takeAsk_36 (by unfold v_Store_takeAsk; simp only [if_neg h1, if_pos h2]) (kC_eq (by unfold S_Store_takeAsk; simp only [if_neg h1, if_pos h2]))
    · refine z_aload_n S d_Store_takeAsk_21 rfl 1 rfl 22 rfl ?_
      refine z_aload_n S d_Store_takeAsk_22 rfl 2 rfl 23 rfl ?_
      refine z_aload_n S d_Store_takeAsk_23 rfl 0 rfl 24 rfl ?_
      refine z_callV S hK (As := [.ref (ad 1 i), .ref (ad 7 (8 + L))]) (rest := []) (c_Store_takeWrite (i := i) (w := 8 + L) hJ mi (rl_lo mL) hw hπ hop) (cw_Store_takeWrite hts w_475 rfl rfl ⟨(Nat.le_of_ble_eq_true rfl), (Nat.le_of_ble_eq_true rfl)⟩) rl_0 kC_0 rfl rfl rfl (Nat.le_of_ble_eq_true rfl) d_Store_takeAsk_24 27 rfl [.int (v_Store_takeWrite n π s i (8 + L))] rfl ?_
      refine z_goto S d_Store_takeAsk_27 36 (by decide) ?_
      exact z_zret S hr (zb_n zbv_Store_takeWrite) hlk d_Store_takeAsk_36 (by unfold v_Store_takeAsk; simp only [if_neg h1, if_neg h2]) (kC_eq (by unfold S_Store_takeAsk; simp only [if_neg h1, if_neg h2]))
  · refine z_iconst S d_Store_takeAsk_7 0 (by decide) 8 rfl ?_
    exact z_zret S hr (zb_n zb_0) hlk d_Store_takeAsk_8 (by unfold v_Store_takeAsk; simp only [if_pos h1]) (kC_eq (by unfold S_Store_takeAsk; simp only [if_pos h1]))
theorem d_Store_takePassed_0 : decode prog_1_method_30_code 0 = .ok (.aload_n 1, 1) := by decide +kernel
theorem d_Store_takePassed_1 : decode prog_1_method_30_code 1 = .ok (.aload_n 2, 1) := by decide +kernel
theorem d_Store_takePassed_2 : decode prog_1_method_30_code 2 = .ok (.getfield 223, 3) := by decide +kernel
theorem d_Store_takePassed_5 : decode prog_1_method_30_code 5 = .ok (.getfield 92, 3) := by decide +kernel
theorem d_Store_takePassed_8 : decode prog_1_method_30_code 8 = .ok (.invokevirtual 244, 3) := by decide +kernel
theorem d_Store_takePassed_11 : decode prog_1_method_30_code 11 = .ok (.ifCond .eq 24, 3) := by decide +kernel
theorem d_Store_takePassed_14 : decode prog_1_method_30_code 14 = .ok (.aload_n 1, 1) := by decide +kernel
theorem d_Store_takePassed_15 : decode prog_1_method_30_code 15 = .ok (.getfield 114, 3) := by decide +kernel
theorem d_Store_takePassed_18 : decode prog_1_method_30_code 18 = .ok (.ifCond .eq 17, 3) := by decide +kernel
theorem d_Store_takePassed_21 : decode prog_1_method_30_code 21 = .ok (.aload_n 1, 1) := by decide +kernel
theorem d_Store_takePassed_22 : decode prog_1_method_30_code 22 = .ok (.getfield 175, 3) := by decide +kernel
theorem d_Store_takePassed_25 : decode prog_1_method_30_code 25 = .ok (.getfield 185, 3) := by decide +kernel
theorem d_Store_takePassed_28 : decode prog_1_method_30_code 28 = .ok (.aload_n 2, 1) := by decide +kernel
theorem d_Store_takePassed_29 : decode prog_1_method_30_code 29 = .ok (.getfield 250, 3) := by decide +kernel
theorem d_Store_takePassed_32 : decode prog_1_method_30_code 32 = .ok (.if_icmp .eq 5, 3) := by decide +kernel
theorem d_Store_takePassed_35 : decode prog_1_method_30_code 35 = .ok (.iconst 0, 1) := by decide +kernel
theorem d_Store_takePassed_36 : decode prog_1_method_30_code 36 = .ok (.ireturn, 1) := by decide +kernel
theorem d_Store_takePassed_37 : decode prog_1_method_30_code 37 = .ok (.aload_n 1, 1) := by decide +kernel
theorem d_Store_takePassed_38 : decode prog_1_method_30_code 38 = .ok (.iconst 0, 1) := by decide +kernel
theorem d_Store_takePassed_39 : decode prog_1_method_30_code 39 = .ok (.putfield 114, 3) := by decide +kernel
theorem d_Store_takePassed_42 : decode prog_1_method_30_code 42 = .ok (.aload_n 0, 1) := by decide +kernel
theorem d_Store_takePassed_43 : decode prog_1_method_30_code 43 = .ok (.aload_n 1, 1) := by decide +kernel
theorem d_Store_takePassed_44 : decode prog_1_method_30_code 44 = .ok (.aload_n 1, 1) := by decide +kernel
theorem d_Store_takePassed_45 : decode prog_1_method_30_code 45 = .ok (.getfield 254, 3) := by decide +kernel
theorem d_Store_takePassed_48 : decode prog_1_method_30_code 48 = .ok (.invokevirtual 257, 3) := by decide +kernel
theorem d_Store_takePassed_51 : decode prog_1_method_30_code 51 = .ok (.iconst 1, 1) := by decide +kernel
theorem d_Store_takePassed_52 : decode prog_1_method_30_code 52 = .ok (.ireturn, 1) := by decide +kernel
def S_Store_takePassed (n : Nat) (π : Nat → Nat) (s : S3) (i : Nat) (L : Nat) : S3 := if (v_Server_isPrimaryOf (s 6 0 i) (s 6 1 i) (s 1 0 i) (s 6 0 (8 + L))) = 0 then s else if (s 1 8 i) = 0 then s else if (s 8 3 i) = (s 5 7 L) then (S_Store_doWriteAndAnswer π (u3 s 1 8 i 0) i i) else s
def v_Store_takePassed (n : Nat) (π : Nat → Nat) (s : S3) (i : Nat) (L : Nat) : Int32 := if (v_Server_isPrimaryOf (s 6 0 i) (s 6 1 i) (s 1 0 i) (s 6 0 (8 + L))) = 0 then 0 else if (s 1 8 i) = 0 then 0 else if (s 8 3 i) = (s 5 7 L) then 1 else 0
theorem zbv_Store_takePassed {n : Nat} {π : Nat → Nat} {s : S3} {i : Nat} {L : Nat} : zb (v_Store_takePassed n π s i L) := by
  unfold v_Store_takePassed
  repeat' split
  all_goals first | with_reducible exact zb_0 | with_reducible exact zb_1 | with_reducible exact zbv_View_hasBackup | with_reducible exact zbv_Server_isPrimary | with_reducible exact zbv_Server_isPrimaryOf | with_reducible exact zbv_Server_isBackupOf | with_reducible exact zbv_Client_takeAnswer | with_reducible exact zbv_Service_isFresh | with_reducible exact zbv_Post_has | with_reducible exact zbv_Store_isServer | with_reducible exact zbv_Store_isClient | with_reducible exact zbv_Store_isCell | with_reducible exact zbv_Store_takeRead | with_reducible exact zbv_Store_takeWrite | with_reducible exact zbv_Store_takeAsk
set_option maxHeartbeats 4000000 in
set_option maxRecDepth 100000 in
theorem c_Store_takePassed {l : Launch} {D : va_G} {K : Nat → ClassId} {ad : Nat → Nat → Nat} {n : Nat} {π : Nat → Nat} {s : S3} {i L : Nat} (hJ : zw_J (cRL n) ad) (mi : (1, i) ∈ cRL n) (mL : (5, L) ∈ cRL n) (hw : vp_in (s 4 2 0) 33) (hπ : ∀ j, π j < 34) (hop : opOK s) : zM l y_Store_takePassed ws_Store_takePassed ({ frames := 3, cells := 0, slots := 0, locals := 68 }) D zCl (zTys K) (cRL n) ad [.ref (ad 0 0), .ref (ad 1 i), .ref (ad 5 L)] (kC K ad n s π) (some (.int (v_Store_takePassed n π s i L))) (kC K ad n (S_Store_takePassed n π s i L) π) := by
  refine zM.of (cc := prog_1_method_30_code) (maxL := 3) (ret := (Option.some Jvm.ClassFile.FieldType.boolean)) (by decide) rfl (Nat.le_of_ble_eq_true rfl) ?_
  intro pP eE U mM bL mT cO S hr hlk hK
  have hts := S.2.2.2.2
  have ht := fun w h => hts w (List.mem_cons_of_mem _ h)
  refine z_aload_n S d_Store_takePassed_0 rfl 1 rfl 1 rfl ?_
  refine z_aload_n S d_Store_takePassed_1 rfl 2 rfl 2 rfl ?_
  refine z_get S hK hin_Letter mL kC_5 rfl 0 (Nat.le_of_ble_eq_true rfl) (ht _ w_224) (fun _ h => h) d_Store_takePassed_2 5 rfl (.ref (ad 6 (8 + L))) rfl ?_
  refine z_get S hK hin_View (rl_lv mL) kC_6 rfl 0 (Nat.le_of_ble_eq_true rfl) (ht _ w_43) (fun _ h => h) d_Store_takePassed_5 8 rfl (.int (s 6 0 (8 + L))) rfl ?_
  refine z_callV S hK (As := [.int (s 6 0 (8 + L))]) (rest := []) (c_Server_isPrimaryOf (i := i) (x := s 6 0 (8 + L)) hJ mi) (cw_Server_isPrimaryOf hts w_443 rfl rfl ⟨(Nat.le_of_ble_eq_true rfl), (Nat.le_of_ble_eq_true rfl)⟩) mi kC_1 rfl rfl rfl (Nat.le_of_ble_eq_true rfl) d_Store_takePassed_8 11 rfl [.int (v_Server_isPrimaryOf (s 6 0 i) (s 6 1 i) (s 1 0 i) (s 6 0 (8 + L)))] rfl ?_
  refine z_if_eq S d_Store_takePassed_11 35 (by decide) 14 rfl (fun h1 => ?_) (fun h1 => ?_)
  · refine z_iconst S d_Store_takePassed_35 0 (by decide) 36 rfl ?_
    exact z_zret S hr (zb_n zb_0) hlk d_Store_takePassed_36 (by unfold v_Store_takePassed; simp only [if_pos h1]) (kC_eq (by unfold S_Store_takePassed; simp only [if_pos h1]))
  · refine z_aload_n S d_Store_takePassed_14 rfl 1 rfl 15 rfl ?_
    refine z_get S hK hin_Server mi kC_1 rfl 8 (Nat.le_of_ble_eq_true rfl) (ht _ w_134) (fun _ h => h) d_Store_takePassed_15 18 rfl (.int (s 1 8 i)) rfl ?_
    refine z_if_eq S d_Store_takePassed_18 35 (by decide) 21 rfl (fun h2 => ?_) (fun h2 => ?_)
    · refine z_iconst S d_Store_takePassed_35 0 (by decide) 36 rfl ?_
      exact z_zret S hr (zb_n zb_0) hlk d_Store_takePassed_36 (by unfold v_Store_takePassed; simp only [if_neg h1, if_pos h2]) (kC_eq (by unfold S_Store_takePassed; simp only [if_neg h1, if_pos h2]))
    · refine z_aload_n S d_Store_takePassed_21 rfl 1 rfl 22 rfl ?_
      refine z_get S hK hin_Server mi kC_1 rfl 2 (Nat.le_of_ble_eq_true rfl) (ht _ w_122) (fun _ h => h) d_Store_takePassed_22 25 rfl (.ref (ad 8 i)) rfl ?_
      refine z_get S hK hin_State (rl_ss mi) kC_8 rfl 3 (Nat.le_of_ble_eq_true rfl) (ht _ w_72) (fun _ h => h) d_Store_takePassed_25 28 rfl (.int (s 8 3 i)) rfl ?_
      refine z_aload_n S d_Store_takePassed_28 rfl 2 rfl 29 rfl ?_
      refine z_get S hK hin_Letter mL kC_5 rfl 7 (Nat.le_of_ble_eq_true rfl) (ht _ w_243) (fun _ h => h) d_Store_takePassed_29 32 rfl (.int (s 5 7 L)) rfl ?_
      refine z_icmp_eq S d_Store_takePassed_32 37 (by decide) 35 rfl (fun h3 => ?_) (fun h3 => ?_)
      · refine z_aload_n S d_Store_takePassed_37 rfl 1 rfl 38 rfl ?_
        refine z_iconst S d_Store_takePassed_38 0 (by decide) 39 rfl ?_
        refine z_put S hJ hK hin_Server t_Server ok_Server nm_Server mi kC_1 rfl 8 (Nat.le_of_ble_eq_true rfl) (ht _ w_134) (fun _ h => h) rfl (zb_n zb_0) (zb_f zb_0) (Nat.le_of_ble_eq_true rfl) up_1_8 d_Store_takePassed_39 42 rfl ?_
        refine z_aload_n S d_Store_takePassed_42 rfl 0 rfl 43 rfl ?_
        refine z_aload_n S d_Store_takePassed_43 rfl 1 rfl 44 rfl ?_
        refine z_aload_n S d_Store_takePassed_44 rfl 1 rfl 45 rfl ?_
        refine z_get S hK hin_Server mi kC_1 rfl 3 (Nat.le_of_ble_eq_true rfl) (ht _ w_124) (fun _ h => h) d_Store_takePassed_45 48 rfl (.ref (ad 7 i)) rfl ?_
        refine z_callV S hK (As := [.ref (ad 1 i), .ref (ad 7 i)]) (rest := []) (c_Store_doWriteAndAnswer (i := i) (w := i) hJ mi (rl_so mi) hw hπ hop) (cw_Store_doWriteAndAnswer hts w_463 rfl rfl ⟨(Nat.le_of_ble_eq_true rfl), (Nat.le_of_ble_eq_true rfl)⟩) rl_0 kC_0 rfl rfl rfl (Nat.le_of_ble_eq_true rfl) d_Store_takePassed_48 51 rfl [] rfl ?_
        refine z_iconst S d_Store_takePassed_51 1 (by decide) 52 rfl ?_
        exact z_zret S hr (zb_n zb_1) hlk d_Store_takePassed_52 (by unfold v_Store_takePassed; simp only [if_neg h1, if_neg h2, if_pos h3]) (kC_eq (by unfold S_Store_takePassed; simp only [if_neg h1, if_neg h2, if_pos h3]))
      · refine z_iconst S d_Store_takePassed_35 0 (by decide) 36 rfl ?_
        exact z_zret S hr (zb_n zb_0) hlk d_Store_takePassed_36 (by unfold v_Store_takePassed; simp only [if_neg h1, if_neg h2, if_neg h3]) (kC_eq (by unfold S_Store_takePassed; simp only [if_neg h1, if_neg h2, if_neg h3]))
theorem d_Store_takePass_0 : decode prog_1_method_29_code 0 = .ok (.aload_n 1, 1) := by decide +kernel
theorem d_Store_takePass_1 : decode prog_1_method_29_code 1 = .ok (.aload_n 2, 1) := by decide +kernel
theorem d_Store_takePass_2 : decode prog_1_method_29_code 2 = .ok (.getfield 223, 3) := by decide +kernel
theorem d_Store_takePass_5 : decode prog_1_method_29_code 5 = .ok (.getfield 92, 3) := by decide +kernel
theorem d_Store_takePass_8 : decode prog_1_method_29_code 8 = .ok (.invokevirtual 247, 3) := by decide +kernel
theorem d_Store_takePass_11 : decode prog_1_method_29_code 11 = .ok (.ifCond .eq 10, 3) := by decide +kernel
theorem d_Store_takePass_14 : decode prog_1_method_29_code 14 = .ok (.aload_n 1, 1) := by decide +kernel
theorem d_Store_takePass_15 : decode prog_1_method_29_code 15 = .ok (.getfield 234, 3) := by decide +kernel
theorem d_Store_takePass_18 : decode prog_1_method_29_code 18 = .ok (.ifCond .ne 5, 3) := by decide +kernel
theorem d_Store_takePass_21 : decode prog_1_method_29_code 21 = .ok (.iconst 0, 1) := by decide +kernel
theorem d_Store_takePass_22 : decode prog_1_method_29_code 22 = .ok (.ireturn, 1) := by decide +kernel
theorem d_Store_takePass_23 : decode prog_1_method_29_code 23 = .ok (.aload_n 1, 1) := by decide +kernel
theorem d_Store_takePass_24 : decode prog_1_method_29_code 24 = .ok (.getfield 175, 3) := by decide +kernel
theorem d_Store_takePass_27 : decode prog_1_method_29_code 27 = .ok (.getfield 185, 3) := by decide +kernel
theorem d_Store_takePass_30 : decode prog_1_method_29_code 30 = .ok (.aload_n 2, 1) := by decide +kernel
theorem d_Store_takePass_31 : decode prog_1_method_29_code 31 = .ok (.getfield 250, 3) := by decide +kernel
theorem d_Store_takePass_34 : decode prog_1_method_29_code 34 = .ok (.if_icmp .ne 14, 3) := by decide +kernel
theorem d_Store_takePass_37 : decode prog_1_method_29_code 37 = .ok (.aload_n 1, 1) := by decide +kernel
theorem d_Store_takePass_38 : decode prog_1_method_29_code 38 = .ok (.getfield 175, 3) := by decide +kernel
theorem d_Store_takePass_41 : decode prog_1_method_29_code 41 = .ok (.aload_n 2, 1) := by decide +kernel
theorem d_Store_takePass_42 : decode prog_1_method_29_code 42 = .ok (.getfield 140, 3) := by decide +kernel
theorem d_Store_takePass_45 : decode prog_1_method_29_code 45 = .ok (.invokevirtual 251, 3) := by decide +kernel
theorem d_Store_takePass_48 : decode prog_1_method_29_code 48 = .ok (.aload_n 0, 1) := by decide +kernel
theorem d_Store_takePass_49 : decode prog_1_method_29_code 49 = .ok (.getfield 44, 3) := by decide +kernel
theorem d_Store_takePass_52 : decode prog_1_method_29_code 52 = .ok (.bipush 6, 2) := by decide +kernel
theorem d_Store_takePass_54 : decode prog_1_method_29_code 54 = .ok (.aload_n 1, 1) := by decide +kernel
theorem d_Store_takePass_55 : decode prog_1_method_29_code 55 = .ok (.getfield 101, 3) := by decide +kernel
theorem d_Store_takePass_58 : decode prog_1_method_29_code 58 = .ok (.getfield 241, 3) := by decide +kernel
theorem d_Store_takePass_61 : decode prog_1_method_29_code 61 = .ok (.invokevirtual 63, 3) := by decide +kernel
theorem d_Store_takePass_64 : decode prog_1_method_29_code 64 = .ok (.astore_n 3, 1) := by decide +kernel
theorem d_Store_takePass_65 : decode prog_1_method_29_code 65 = .ok (.aload_n 3, 1) := by decide +kernel
theorem d_Store_takePass_66 : decode prog_1_method_29_code 66 = .ok (.getfield 223, 3) := by decide +kernel
theorem d_Store_takePass_69 : decode prog_1_method_29_code 69 = .ok (.aload_n 1, 1) := by decide +kernel
theorem d_Store_takePass_70 : decode prog_1_method_29_code 70 = .ok (.getfield 101, 3) := by decide +kernel
theorem d_Store_takePass_73 : decode prog_1_method_29_code 73 = .ok (.invokevirtual 224, 3) := by decide +kernel
theorem d_Store_takePass_76 : decode prog_1_method_29_code 76 = .ok (.aload_n 3, 1) := by decide +kernel
theorem d_Store_takePass_77 : decode prog_1_method_29_code 77 = .ok (.aload_n 2, 1) := by decide +kernel
theorem d_Store_takePass_78 : decode prog_1_method_29_code 78 = .ok (.getfield 250, 3) := by decide +kernel
theorem d_Store_takePass_81 : decode prog_1_method_29_code 81 = .ok (.putfield 250, 3) := by decide +kernel
theorem d_Store_takePass_84 : decode prog_1_method_29_code 84 = .ok (.iconst 1, 1) := by decide +kernel
theorem d_Store_takePass_85 : decode prog_1_method_29_code 85 = .ok (.ireturn, 1) := by decide +kernel
def S_Store_takePass (n : Nat) (π : Nat → Nat) (s : S3) (i : Nat) (L : Nat) : S3 := if (v_Server_isBackupOf (s 6 0 i) (s 6 2 i) (s 1 0 i) (s 6 0 (8 + L))) = 0 then s else if (s 1 9 i) = 0 then s else if (s 8 3 i) = (s 5 7 L) then (u3 (S_View_become π (S_Post_next π (S_State_doWrite π s i (8 + L)) 6 (s 6 1 i)) (8 + (nxL (s 4 2 0) π)) i) 5 7 (nxL (s 4 2 0) π) (s 5 7 L)) else u3 (S_View_become π (S_Post_next π s 6 (s 6 1 i)) (8 + (nxL (s 4 2 0) π)) i) 5 7 (nxL (s 4 2 0) π) (s 5 7 L)
def v_Store_takePass (n : Nat) (π : Nat → Nat) (s : S3) (i : Nat) (L : Nat) : Int32 := if (v_Server_isBackupOf (s 6 0 i) (s 6 2 i) (s 1 0 i) (s 6 0 (8 + L))) = 0 then 0 else if (s 1 9 i) = 0 then 0 else if (s 8 3 i) = (s 5 7 L) then 1 else 1
theorem zbv_Store_takePass {n : Nat} {π : Nat → Nat} {s : S3} {i : Nat} {L : Nat} : zb (v_Store_takePass n π s i L) := by
  unfold v_Store_takePass
  repeat' split
  all_goals first | with_reducible exact zb_0 | with_reducible exact zb_1 | with_reducible exact zbv_View_hasBackup | with_reducible exact zbv_Server_isPrimary | with_reducible exact zbv_Server_isPrimaryOf | with_reducible exact zbv_Server_isBackupOf | with_reducible exact zbv_Client_takeAnswer | with_reducible exact zbv_Service_isFresh | with_reducible exact zbv_Post_has | with_reducible exact zbv_Store_isServer | with_reducible exact zbv_Store_isClient | with_reducible exact zbv_Store_isCell | with_reducible exact zbv_Store_takeRead | with_reducible exact zbv_Store_takeWrite | with_reducible exact zbv_Store_takeAsk | with_reducible exact zbv_Store_takePassed
set_option maxHeartbeats 4000000 in
set_option maxRecDepth 100000 in
theorem c_Store_takePass {l : Launch} {D : va_G} {K : Nat → ClassId} {ad : Nat → Nat → Nat} {n : Nat} {π : Nat → Nat} {s : S3} {i L : Nat} (hJ : zw_J (cRL n) ad) (mi : (1, i) ∈ cRL n) (mL : (5, L) ∈ cRL n) (hw : vp_in (s 4 2 0) 33) (hπ : ∀ j, π j < 34) (hop : opOK s) : zM l y_Store_takePass ws_Store_takePass ({ frames := 1, cells := 0, slots := 0, locals := 23 }) D zCl (zTys K) (cRL n) ad [.ref (ad 0 0), .ref (ad 1 i), .ref (ad 5 L)] (kC K ad n s π) (some (.int (v_Store_takePass n π s i L))) (kC K ad n (S_Store_takePass n π s i L) π) := by
  refine zM.of (cc := prog_1_method_29_code) (maxL := 4) (ret := (Option.some Jvm.ClassFile.FieldType.boolean)) (by decide) rfl (Nat.le_of_ble_eq_true rfl) ?_
  intro pP eE U mM bL mT cO S hr hlk hK
  have hts := S.2.2.2.2
  have ht := fun w h => hts w (List.mem_cons_of_mem _ h)
  refine z_aload_n S d_Store_takePass_0 rfl 1 rfl 1 rfl ?_
  refine z_aload_n S d_Store_takePass_1 rfl 2 rfl 2 rfl ?_
  refine z_get S hK hin_Letter mL kC_5 rfl 0 (Nat.le_of_ble_eq_true rfl) (ht _ w_224) (fun _ h => h) d_Store_takePass_2 5 rfl (.ref (ad 6 (8 + L))) rfl ?_
  refine z_get S hK hin_View (rl_lv mL) kC_6 rfl 0 (Nat.le_of_ble_eq_true rfl) (ht _ w_43) (fun _ h => h) d_Store_takePass_5 8 rfl (.int (s 6 0 (8 + L))) rfl ?_
  refine z_callV S hK (As := [.int (s 6 0 (8 + L))]) (rest := []) (c_Server_isBackupOf (i := i) (x := s 6 0 (8 + L)) hJ mi) (cw_Server_isBackupOf hts w_451 rfl rfl ⟨(Nat.le_of_ble_eq_true rfl), (Nat.le_of_ble_eq_true rfl)⟩) mi kC_1 rfl rfl rfl (Nat.le_of_ble_eq_true rfl) d_Store_takePass_8 11 rfl [.int (v_Server_isBackupOf (s 6 0 i) (s 6 2 i) (s 1 0 i) (s 6 0 (8 + L)))] rfl ?_
  refine z_if_eq S d_Store_takePass_11 21 (by decide) 14 rfl (fun h1 => ?_) (fun h1 => ?_)
  · refine z_iconst S d_Store_takePass_21 0 (by decide) 22 rfl ?_
    exact z_zret S hr (zb_n zb_0) hlk d_Store_takePass_22 (by unfold v_Store_takePass; simp only [if_pos h1]) (kC_eq (by unfold S_Store_takePass; simp only [if_pos h1]))
  · refine z_aload_n S d_Store_takePass_14 rfl 1 rfl 15 rfl ?_
    refine z_get S hK hin_Server mi kC_1 rfl 9 (Nat.le_of_ble_eq_true rfl) (ht _ w_136) (fun _ h => h) d_Store_takePass_15 18 rfl (.int (s 1 9 i)) rfl ?_
    refine z_if_ne S d_Store_takePass_18 23 (by decide) 21 rfl (fun h2 => ?_) (fun h2 => ?_)
    · refine z_aload_n S d_Store_takePass_23 rfl 1 rfl 24 rfl ?_
      refine z_get S hK hin_Server mi kC_1 rfl 2 (Nat.le_of_ble_eq_true rfl) (ht _ w_122) (fun _ h => h) d_Store_takePass_24 27 rfl (.ref (ad 8 i)) rfl ?_
      refine z_get S hK hin_State (rl_ss mi) kC_8 rfl 3 (Nat.le_of_ble_eq_true rfl) (ht _ w_72) (fun _ h => h) d_Store_takePass_27 30 rfl (.int (s 8 3 i)) rfl ?_
      refine z_aload_n S d_Store_takePass_30 rfl 2 rfl 31 rfl ?_
      refine z_get S hK hin_Letter mL kC_5 rfl 7 (Nat.le_of_ble_eq_true rfl) (ht _ w_243) (fun _ h => h) d_Store_takePass_31 34 rfl (.int (s 5 7 L)) rfl ?_
      refine z_icmp_ne S d_Store_takePass_34 48 (by decide) 37 rfl (fun h3 => ?_) (fun h3 => ?_)
      · refine z_aload_n S d_Store_takePass_48 rfl 0 rfl 49 rfl ?_
        refine z_get S hK hin_Store rl_0 kC_0 rfl 3 (Nat.le_of_ble_eq_true rfl) (ht _ w_281) (fun _ h => h) d_Store_takePass_49 52 rfl (.ref (ad 4 0)) rfl ?_
        refine z_bipush S d_Store_takePass_52 6 (by decide) 54 rfl ?_
        refine z_aload_n S d_Store_takePass_54 rfl 1 rfl 55 rfl ?_
        refine z_get S hK hin_Server mi kC_1 rfl 1 (Nat.le_of_ble_eq_true rfl) (ht _ w_120) (fun _ h => h) d_Store_takePass_55 58 rfl (.ref (ad 6 i)) rfl ?_
        refine z_get S hK hin_View (rl_sv mi) kC_6 rfl 1 (Nat.le_of_ble_eq_true rfl) (ht _ w_47) (fun _ h => h) d_Store_takePass_58 61 rfl (.int (s 6 1 i)) rfl ?_
        refine z_callV S hK (As := [.int 6, .int (s 6 1 i)]) (rest := []) (c_Post_next (k := 6) (p := s 6 1 i) hJ hw hπ) (cw_Post_next hts w_310 rfl rfl ⟨(Nat.le_of_ble_eq_true rfl), (Nat.le_of_ble_eq_true rfl)⟩) rl_4 kC_4 rfl rfl rfl (Nat.le_of_ble_eq_true rfl) d_Store_takePass_61 64 rfl [.ref (ad 5 (nxL (s 4 2 0) π))] rfl ?_
        refine z_astore_n S d_Store_takePass_64 rfl (Nat.le_of_ble_eq_true rfl) [(3, .ref (ad 5 (nxL (s 4 2 0) π))), (0, .ref (ad 0 0)), (1, .ref (ad 1 i)), (2, .ref (ad 5 L))] rfl 65 rfl ?_
        refine z_aload_n S d_Store_takePass_65 rfl 0 rfl 66 rfl ?_
        refine z_get S hK hin_Letter (rl_nx hπ) kC_5 rfl 0 (Nat.le_of_ble_eq_true rfl) (ht _ w_224) (fun _ h => h) d_Store_takePass_66 69 rfl (.ref (ad 6 (8 + (nxL (s 4 2 0) π)))) rfl ?_
        refine z_aload_n S d_Store_takePass_69 rfl 2 rfl 70 rfl ?_
        refine z_get S hK hin_Server mi kC_1 rfl 1 (Nat.le_of_ble_eq_true rfl) (ht _ w_120) (fun _ h => h) d_Store_takePass_70 73 rfl (.ref (ad 6 i)) rfl ?_
        refine z_callV S hK (As := [.ref (ad 6 i)]) (rest := []) (c_View_become (a := 8 + (nxL (s 4 2 0) π)) (b := i) hJ (rl_lv (rl_nx hπ)) (rl_sv mi)) (cw_View_become hts w_360 rfl rfl ⟨(Nat.le_of_ble_eq_true rfl), (Nat.le_of_ble_eq_true rfl)⟩) (rl_lv (rl_nx hπ)) kC_6 rfl rfl rfl (Nat.le_of_ble_eq_true rfl) d_Store_takePass_73 76 rfl [] rfl ?_
        refine z_aload_n S d_Store_takePass_76 rfl 0 rfl 77 rfl ?_
        refine z_aload_n S d_Store_takePass_77 rfl 3 rfl 78 rfl ?_
        refine z_get S hK hin_Letter mL kC_5 rfl 7 (Nat.le_of_ble_eq_true rfl) (ht _ w_243) (fun _ h => h) d_Store_takePass_78 81 rfl (.int (s 5 7 L)) rfl ?_
        refine z_put S hJ hK hin_Letter t_Letter ok_Letter nm_Letter (rl_nx hπ) kC_5 rfl 7 (Nat.le_of_ble_eq_true rfl) (ht _ w_243) (fun _ h => h) rfl rfl rfl (Nat.le_of_ble_eq_true rfl) up_5_7 d_Store_takePass_81 84 rfl ?_
        refine z_iconst S d_Store_takePass_84 1 (by decide) 85 rfl ?_
        exact z_zret S hr (zb_n zb_1) hlk d_Store_takePass_85 (by unfold v_Store_takePass; simp only [if_neg h1, if_neg h2, if_neg h3]) (kC_eq (by unfold S_Store_takePass; simp only [if_neg h1, if_neg h2, if_neg h3]))
      · refine z_aload_n S d_Store_takePass_37 rfl 1 rfl 38 rfl ?_
        refine z_get S hK hin_Server mi kC_1 rfl 2 (Nat.le_of_ble_eq_true rfl) (ht _ w_122) (fun _ h => h) d_Store_takePass_38 41 rfl (.ref (ad 8 i)) rfl ?_
        refine z_aload_n S d_Store_takePass_41 rfl 2 rfl 42 rfl ?_
        refine z_get S hK hin_Letter mL kC_5 rfl 1 (Nat.le_of_ble_eq_true rfl) (ht _ w_227) (fun _ h => h) d_Store_takePass_42 45 rfl (.ref (ad 7 (8 + L))) rfl ?_
        refine z_callV S hK (As := [.ref (ad 7 (8 + L))]) (rest := []) (c_State_doWrite (a := i) (w := 8 + L) hJ (rl_ss mi) (rl_lo mL) (opOK.c hop (8 + L)) (opOK.k hop (8 + L))) (cw_State_doWrite hts w_455 rfl rfl ⟨(Nat.le_of_ble_eq_true rfl), (Nat.le_of_ble_eq_true rfl)⟩) (rl_ss mi) kC_8 rfl rfl rfl (Nat.le_of_ble_eq_true rfl) d_Store_takePass_45 48 rfl [] rfl ?_
        refine z_aload_n S d_Store_takePass_48 rfl 0 rfl 49 rfl ?_
        refine z_get S hK hin_Store rl_0 kC_0 rfl 3 (Nat.le_of_ble_eq_true rfl) (ht _ w_281) (fun _ h => h) d_Store_takePass_49 52 rfl (.ref (ad 4 0)) rfl ?_
        refine z_bipush S d_Store_takePass_52 6 (by decide) 54 rfl ?_
        refine z_aload_n S d_Store_takePass_54 rfl 1 rfl 55 rfl ?_
        refine z_get S hK hin_Server mi kC_1 rfl 1 (Nat.le_of_ble_eq_true rfl) (ht _ w_120) (fun _ h => h) d_Store_takePass_55 58 rfl (.ref (ad 6 i)) rfl ?_
        refine z_get S hK hin_View (rl_sv mi) kC_6 rfl 1 (Nat.le_of_ble_eq_true rfl) (ht _ w_47) (fun _ h => h) d_Store_takePass_58 61 rfl (.int (s 6 1 i)) rfl ?_
        refine z_callV S hK (As := [.int 6, .int (s 6 1 i)]) (rest := []) (c_Post_next (k := 6) (p := s 6 1 i) hJ hw hπ) (cw_Post_next hts w_310 rfl rfl ⟨(Nat.le_of_ble_eq_true rfl), (Nat.le_of_ble_eq_true rfl)⟩) rl_4 kC_4 rfl rfl rfl (Nat.le_of_ble_eq_true rfl) d_Store_takePass_61 64 rfl [.ref (ad 5 (nxL (s 4 2 0) π))] rfl ?_
        refine z_astore_n S d_Store_takePass_64 rfl (Nat.le_of_ble_eq_true rfl) [(3, .ref (ad 5 (nxL (s 4 2 0) π))), (0, .ref (ad 0 0)), (1, .ref (ad 1 i)), (2, .ref (ad 5 L))] rfl 65 rfl ?_
        refine z_aload_n S d_Store_takePass_65 rfl 0 rfl 66 rfl ?_
        refine z_get S hK hin_Letter (rl_nx hπ) kC_5 rfl 0 (Nat.le_of_ble_eq_true rfl) (ht _ w_224) (fun _ h => h) d_Store_takePass_66 69 rfl (.ref (ad 6 (8 + (nxL (s 4 2 0) π)))) rfl ?_
        refine z_aload_n S d_Store_takePass_69 rfl 2 rfl 70 rfl ?_
        refine z_get S hK hin_Server mi kC_1 rfl 1 (Nat.le_of_ble_eq_true rfl) (ht _ w_120) (fun _ h => h) d_Store_takePass_70 73 rfl (.ref (ad 6 i)) rfl ?_
        refine z_callV S hK (As := [.ref (ad 6 i)]) (rest := []) (c_View_become (a := 8 + (nxL (s 4 2 0) π)) (b := i) hJ (rl_lv (rl_nx hπ)) (rl_sv mi)) (cw_View_become hts w_360 rfl rfl ⟨(Nat.le_of_ble_eq_true rfl), (Nat.le_of_ble_eq_true rfl)⟩) (rl_lv (rl_nx hπ)) kC_6 rfl rfl rfl (Nat.le_of_ble_eq_true rfl) d_Store_takePass_73 76 rfl [] rfl ?_
        refine z_aload_n S d_Store_takePass_76 rfl 0 rfl 77 rfl ?_
        refine z_aload_n S d_Store_takePass_77 rfl 3 rfl 78 rfl ?_
        refine z_get S hK hin_Letter mL kC_5 rfl 7 (Nat.le_of_ble_eq_true rfl) (ht _ w_243) (fun _ h => h) d_Store_takePass_78 81 rfl (.int (s 5 7 L)) rfl ?_
        refine z_put S hJ hK hin_Letter t_Letter ok_Letter nm_Letter (rl_nx hπ) kC_5 rfl 7 (Nat.le_of_ble_eq_true rfl) (ht _ w_243) (fun _ h => h) rfl rfl rfl (Nat.le_of_ble_eq_true rfl) up_5_7 d_Store_takePass_81 84 rfl ?_
        refine z_iconst S d_Store_takePass_84 1 (by decide) 85 rfl ?_
        exact z_zret S hr (zb_n zb_1) hlk d_Store_takePass_85 (by unfold v_Store_takePass; simp only [if_neg h1, if_neg h2, if_pos h3]) (kC_eq (by unfold S_Store_takePass; simp only [if_neg h1, if_neg h2, if_pos h3]))
    · refine z_iconst S d_Store_takePass_21 0 (by decide) 22 rfl ?_
      exact z_zret S hr (zb_n zb_0) hlk d_Store_takePass_22 (by unfold v_Store_takePass; simp only [if_neg h1, if_pos h2]) (kC_eq (by unfold S_Store_takePass; simp only [if_neg h1, if_pos h2]))
theorem d_Store_takeFilled_0 : decode prog_1_method_28_code 0 = .ok (.aload_n 1, 1) := by decide +kernel
theorem d_Store_takeFilled_1 : decode prog_1_method_28_code 1 = .ok (.aload_n 2, 1) := by decide +kernel
theorem d_Store_takeFilled_2 : decode prog_1_method_28_code 2 = .ok (.getfield 223, 3) := by decide +kernel
theorem d_Store_takeFilled_5 : decode prog_1_method_28_code 5 = .ok (.getfield 92, 3) := by decide +kernel
theorem d_Store_takeFilled_8 : decode prog_1_method_28_code 8 = .ok (.invokevirtual 244, 3) := by decide +kernel
theorem d_Store_takeFilled_11 : decode prog_1_method_28_code 11 = .ok (.ifCond .eq 10, 3) := by decide +kernel
theorem d_Store_takeFilled_14 : decode prog_1_method_28_code 14 = .ok (.aload_n 1, 1) := by decide +kernel
theorem d_Store_takeFilled_15 : decode prog_1_method_28_code 15 = .ok (.getfield 107, 3) := by decide +kernel
theorem d_Store_takeFilled_18 : decode prog_1_method_28_code 18 = .ok (.ifCond .eq 5, 3) := by decide +kernel
theorem d_Store_takeFilled_21 : decode prog_1_method_28_code 21 = .ok (.iconst 0, 1) := by decide +kernel
theorem d_Store_takeFilled_22 : decode prog_1_method_28_code 22 = .ok (.ireturn, 1) := by decide +kernel
theorem d_Store_takeFilled_23 : decode prog_1_method_28_code 23 = .ok (.aload_n 1, 1) := by decide +kernel
theorem d_Store_takeFilled_24 : decode prog_1_method_28_code 24 = .ok (.iconst 1, 1) := by decide +kernel
theorem d_Store_takeFilled_25 : decode prog_1_method_28_code 25 = .ok (.putfield 107, 3) := by decide +kernel
theorem d_Store_takeFilled_28 : decode prog_1_method_28_code 28 = .ok (.iconst 1, 1) := by decide +kernel
theorem d_Store_takeFilled_29 : decode prog_1_method_28_code 29 = .ok (.ireturn, 1) := by decide +kernel
def S_Store_takeFilled (n : Nat) (π : Nat → Nat) (s : S3) (i : Nat) (L : Nat) : S3 := if (v_Server_isPrimaryOf (s 6 0 i) (s 6 1 i) (s 1 0 i) (s 6 0 (8 + L))) = 0 then s else if (s 1 7 i) = 0 then (u3 s 1 7 i 1) else s
def v_Store_takeFilled (n : Nat) (π : Nat → Nat) (s : S3) (i : Nat) (L : Nat) : Int32 := if (v_Server_isPrimaryOf (s 6 0 i) (s 6 1 i) (s 1 0 i) (s 6 0 (8 + L))) = 0 then 0 else if (s 1 7 i) = 0 then 1 else 0
theorem zbv_Store_takeFilled {n : Nat} {π : Nat → Nat} {s : S3} {i : Nat} {L : Nat} : zb (v_Store_takeFilled n π s i L) := by
  unfold v_Store_takeFilled
  repeat' split
  all_goals first | with_reducible exact zb_0 | with_reducible exact zb_1 | with_reducible exact zbv_View_hasBackup | with_reducible exact zbv_Server_isPrimary | with_reducible exact zbv_Server_isPrimaryOf | with_reducible exact zbv_Server_isBackupOf | with_reducible exact zbv_Client_takeAnswer | with_reducible exact zbv_Service_isFresh | with_reducible exact zbv_Post_has | with_reducible exact zbv_Store_isServer | with_reducible exact zbv_Store_isClient | with_reducible exact zbv_Store_isCell | with_reducible exact zbv_Store_takeRead | with_reducible exact zbv_Store_takeWrite | with_reducible exact zbv_Store_takeAsk | with_reducible exact zbv_Store_takePassed | with_reducible exact zbv_Store_takePass
set_option maxHeartbeats 4000000 in
set_option maxRecDepth 100000 in
theorem c_Store_takeFilled {l : Launch} {D : va_G} {K : Nat → ClassId} {ad : Nat → Nat → Nat} {n : Nat} {π : Nat → Nat} {s : S3} {i L : Nat} (hJ : zw_J (cRL n) ad) (mi : (1, i) ∈ cRL n) (mL : (5, L) ∈ cRL n) : zM l y_Store_takeFilled ws_Store_takeFilled ({ frames := 1, cells := 0, slots := 0, locals := 21 }) D zCl (zTys K) (cRL n) ad [.ref (ad 0 0), .ref (ad 1 i), .ref (ad 5 L)] (kC K ad n s π) (some (.int (v_Store_takeFilled n π s i L))) (kC K ad n (S_Store_takeFilled n π s i L) π) := by
  refine zM.of (cc := prog_1_method_28_code) (maxL := 3) (ret := (Option.some Jvm.ClassFile.FieldType.boolean)) (by decide) rfl (Nat.le_of_ble_eq_true rfl) ?_
  intro pP eE U mM bL mT cO S hr hlk hK
  have hts := S.2.2.2.2
  have ht := fun w h => hts w (List.mem_cons_of_mem _ h)
  refine z_aload_n S d_Store_takeFilled_0 rfl 1 rfl 1 rfl ?_
  refine z_aload_n S d_Store_takeFilled_1 rfl 2 rfl 2 rfl ?_
  refine z_get S hK hin_Letter mL kC_5 rfl 0 (Nat.le_of_ble_eq_true rfl) (ht _ w_224) (fun _ h => h) d_Store_takeFilled_2 5 rfl (.ref (ad 6 (8 + L))) rfl ?_
  refine z_get S hK hin_View (rl_lv mL) kC_6 rfl 0 (Nat.le_of_ble_eq_true rfl) (ht _ w_43) (fun _ h => h) d_Store_takeFilled_5 8 rfl (.int (s 6 0 (8 + L))) rfl ?_
  refine z_callV S hK (As := [.int (s 6 0 (8 + L))]) (rest := []) (c_Server_isPrimaryOf (i := i) (x := s 6 0 (8 + L)) hJ mi) (cw_Server_isPrimaryOf hts w_443 rfl rfl ⟨(Nat.le_of_ble_eq_true rfl), (Nat.le_of_ble_eq_true rfl)⟩) mi kC_1 rfl rfl rfl (Nat.le_of_ble_eq_true rfl) d_Store_takeFilled_8 11 rfl [.int (v_Server_isPrimaryOf (s 6 0 i) (s 6 1 i) (s 1 0 i) (s 6 0 (8 + L)))] rfl ?_
  refine z_if_eq S d_Store_takeFilled_11 21 (by decide) 14 rfl (fun h1 => ?_) (fun h1 => ?_)
  · refine z_iconst S d_Store_takeFilled_21 0 (by decide) 22 rfl ?_
    exact z_zret S hr (zb_n zb_0) hlk d_Store_takeFilled_22 (by unfold v_Store_takeFilled; simp only [if_pos h1]) (kC_eq (by unfold S_Store_takeFilled; simp only [if_pos h1]))
  · refine z_aload_n S d_Store_takeFilled_14 rfl 1 rfl 15 rfl ?_
    refine z_get S hK hin_Server mi kC_1 rfl 7 (Nat.le_of_ble_eq_true rfl) (ht _ w_132) (fun _ h => h) d_Store_takeFilled_15 18 rfl (.int (s 1 7 i)) rfl ?_
    refine z_if_eq S d_Store_takeFilled_18 23 (by decide) 21 rfl (fun h2 => ?_) (fun h2 => ?_)
    · refine z_aload_n S d_Store_takeFilled_23 rfl 1 rfl 24 rfl ?_
      refine z_iconst S d_Store_takeFilled_24 1 (by decide) 25 rfl ?_
      refine z_put S hJ hK hin_Server t_Server ok_Server nm_Server mi kC_1 rfl 7 (Nat.le_of_ble_eq_true rfl) (ht _ w_132) (fun _ h => h) rfl (zb_n zb_1) (zb_f zb_1) (Nat.le_of_ble_eq_true rfl) up_1_7 d_Store_takeFilled_25 28 rfl ?_
      refine z_iconst S d_Store_takeFilled_28 1 (by decide) 29 rfl ?_
      exact z_zret S hr (zb_n zb_1) hlk d_Store_takeFilled_29 (by unfold v_Store_takeFilled; simp only [if_neg h1, if_pos h2]) (kC_eq (by unfold S_Store_takeFilled; simp only [if_neg h1, if_pos h2]))
    · refine z_iconst S d_Store_takeFilled_21 0 (by decide) 22 rfl ?_
      exact z_zret S hr (zb_n zb_0) hlk d_Store_takeFilled_22 (by unfold v_Store_takeFilled; simp only [if_neg h1, if_neg h2]) (kC_eq (by unfold S_Store_takeFilled; simp only [if_neg h1, if_neg h2]))
theorem d_Store_takeFill_0 : decode prog_1_method_27_code 0 = .ok (.aload_n 2, 1) := by decide +kernel
theorem d_Store_takeFill_1 : decode prog_1_method_27_code 1 = .ok (.getfield 223, 3) := by decide +kernel
theorem d_Store_takeFill_4 : decode prog_1_method_27_code 4 = .ok (.getfield 92, 3) := by decide +kernel
theorem d_Store_takeFill_7 : decode prog_1_method_27_code 7 = .ok (.aload_n 1, 1) := by decide +kernel
theorem d_Store_takeFill_8 : decode prog_1_method_27_code 8 = .ok (.getfield 101, 3) := by decide +kernel
theorem d_Store_takeFill_11 : decode prog_1_method_27_code 11 = .ok (.getfield 92, 3) := by decide +kernel
theorem d_Store_takeFill_14 : decode prog_1_method_27_code 14 = .ok (.if_icmp .ge 5, 3) := by decide +kernel
theorem d_Store_takeFill_17 : decode prog_1_method_27_code 17 = .ok (.iconst 0, 1) := by decide +kernel
theorem d_Store_takeFill_18 : decode prog_1_method_27_code 18 = .ok (.ireturn, 1) := by decide +kernel
theorem d_Store_takeFill_19 : decode prog_1_method_27_code 19 = .ok (.aload_n 2, 1) := by decide +kernel
theorem d_Store_takeFill_20 : decode prog_1_method_27_code 20 = .ok (.getfield 223, 3) := by decide +kernel
theorem d_Store_takeFill_23 : decode prog_1_method_27_code 23 = .ok (.getfield 92, 3) := by decide +kernel
theorem d_Store_takeFill_26 : decode prog_1_method_27_code 26 = .ok (.aload_n 1, 1) := by decide +kernel
theorem d_Store_takeFill_27 : decode prog_1_method_27_code 27 = .ok (.getfield 101, 3) := by decide +kernel
theorem d_Store_takeFill_30 : decode prog_1_method_27_code 30 = .ok (.getfield 92, 3) := by decide +kernel
theorem d_Store_takeFill_33 : decode prog_1_method_27_code 33 = .ok (.if_icmp .le 12, 3) := by decide +kernel
theorem d_Store_takeFill_36 : decode prog_1_method_27_code 36 = .ok (.aload_n 0, 1) := by decide +kernel
theorem d_Store_takeFill_37 : decode prog_1_method_27_code 37 = .ok (.aload_n 1, 1) := by decide +kernel
theorem d_Store_takeFill_38 : decode prog_1_method_27_code 38 = .ok (.aload_n 2, 1) := by decide +kernel
theorem d_Store_takeFill_39 : decode prog_1_method_27_code 39 = .ok (.getfield 223, 3) := by decide +kernel
theorem d_Store_takeFill_42 : decode prog_1_method_27_code 42 = .ok (.invokevirtual 227, 3) := by decide +kernel
theorem d_Store_takeFill_45 : decode prog_1_method_27_code 45 = .ok (.aload_n 1, 1) := by decide +kernel
theorem d_Store_takeFill_46 : decode prog_1_method_27_code 46 = .ok (.getfield 234, 3) := by decide +kernel
theorem d_Store_takeFill_49 : decode prog_1_method_27_code 49 = .ok (.ifCond .ne 19, 3) := by decide +kernel
theorem d_Store_takeFill_52 : decode prog_1_method_27_code 52 = .ok (.aload_n 1, 1) := by decide +kernel
theorem d_Store_takeFill_53 : decode prog_1_method_27_code 53 = .ok (.getfield 175, 3) := by decide +kernel
theorem d_Store_takeFill_56 : decode prog_1_method_27_code 56 = .ok (.aload_n 2, 1) := by decide +kernel
theorem d_Store_takeFill_57 : decode prog_1_method_27_code 57 = .ok (.getfield 237, 3) := by decide +kernel
theorem d_Store_takeFill_60 : decode prog_1_method_27_code 60 = .ok (.invokevirtual 238, 3) := by decide +kernel
theorem d_Store_takeFill_63 : decode prog_1_method_27_code 63 = .ok (.aload_n 1, 1) := by decide +kernel
theorem d_Store_takeFill_64 : decode prog_1_method_27_code 64 = .ok (.iconst 1, 1) := by decide +kernel
theorem d_Store_takeFill_65 : decode prog_1_method_27_code 65 = .ok (.putfield 234, 3) := by decide +kernel
theorem d_Store_takeFill_68 : decode prog_1_method_27_code 68 = .ok (.aload_n 0, 1) := by decide +kernel
theorem d_Store_takeFill_69 : decode prog_1_method_27_code 69 = .ok (.getfield 44, 3) := by decide +kernel
theorem d_Store_takeFill_72 : decode prog_1_method_27_code 72 = .ok (.iconst 4, 1) := by decide +kernel
theorem d_Store_takeFill_73 : decode prog_1_method_27_code 73 = .ok (.aload_n 1, 1) := by decide +kernel
theorem d_Store_takeFill_74 : decode prog_1_method_27_code 74 = .ok (.getfield 101, 3) := by decide +kernel
theorem d_Store_takeFill_77 : decode prog_1_method_27_code 77 = .ok (.getfield 241, 3) := by decide +kernel
theorem d_Store_takeFill_80 : decode prog_1_method_27_code 80 = .ok (.invokevirtual 63, 3) := by decide +kernel
theorem d_Store_takeFill_83 : decode prog_1_method_27_code 83 = .ok (.getfield 223, 3) := by decide +kernel
theorem d_Store_takeFill_86 : decode prog_1_method_27_code 86 = .ok (.aload_n 1, 1) := by decide +kernel
theorem d_Store_takeFill_87 : decode prog_1_method_27_code 87 = .ok (.getfield 101, 3) := by decide +kernel
theorem d_Store_takeFill_90 : decode prog_1_method_27_code 90 = .ok (.invokevirtual 224, 3) := by decide +kernel
theorem d_Store_takeFill_93 : decode prog_1_method_27_code 93 = .ok (.iconst 1, 1) := by decide +kernel
theorem d_Store_takeFill_94 : decode prog_1_method_27_code 94 = .ok (.ireturn, 1) := by decide +kernel
def S_Store_takeFill (n : Nat) (π : Nat → Nat) (s : S3) (i : Nat) (L : Nat) : S3 := if (s 6 0 i) ≤ (s 6 0 (8 + L)) then (if (s 6 0 (8 + L)) ≤ (s 6 0 i) then (if (s 1 9 i) = 0 then (S_View_become π (S_Post_next π (u3 (S_State_become π s i (8 + L)) 1 9 i 1) 4 (s 6 1 i)) (8 + (nxL (s 4 2 0) π)) i) else S_View_become π (S_Post_next π s 4 (s 6 1 i)) (8 + (nxL (s 4 2 0) π)) i) else if ((S_Store_enterView n π s i (8 + L)) 1 9 i) = 0 then (S_View_become π (S_Post_next π (u3 (S_State_become π (S_Store_enterView n π s i (8 + L)) i (8 + L)) 1 9 i 1) 4 ((S_Store_enterView n π s i (8 + L)) 6 1 i)) (8 + (nxL ((S_Store_enterView n π s i (8 + L)) 4 2 0) π)) i) else S_View_become π (S_Post_next π (S_Store_enterView n π s i (8 + L)) 4 ((S_Store_enterView n π s i (8 + L)) 6 1 i)) (8 + (nxL ((S_Store_enterView n π s i (8 + L)) 4 2 0) π)) i) else s
def v_Store_takeFill (n : Nat) (π : Nat → Nat) (s : S3) (i : Nat) (L : Nat) : Int32 := if (s 6 0 i) ≤ (s 6 0 (8 + L)) then (if (s 6 0 (8 + L)) ≤ (s 6 0 i) then (if (s 1 9 i) = 0 then 1 else 1) else if ((S_Store_enterView n π s i (8 + L)) 1 9 i) = 0 then 1 else 1) else 0
theorem zbv_Store_takeFill {n : Nat} {π : Nat → Nat} {s : S3} {i : Nat} {L : Nat} : zb (v_Store_takeFill n π s i L) := by
  unfold v_Store_takeFill
  repeat' split
  all_goals first | with_reducible exact zb_0 | with_reducible exact zb_1 | with_reducible exact zbv_View_hasBackup | with_reducible exact zbv_Server_isPrimary | with_reducible exact zbv_Server_isPrimaryOf | with_reducible exact zbv_Server_isBackupOf | with_reducible exact zbv_Client_takeAnswer | with_reducible exact zbv_Service_isFresh | with_reducible exact zbv_Post_has | with_reducible exact zbv_Store_isServer | with_reducible exact zbv_Store_isClient | with_reducible exact zbv_Store_isCell | with_reducible exact zbv_Store_takeRead | with_reducible exact zbv_Store_takeWrite | with_reducible exact zbv_Store_takeAsk | with_reducible exact zbv_Store_takePassed | with_reducible exact zbv_Store_takePass | with_reducible exact zbv_Store_takeFilled
set_option maxHeartbeats 4000000 in
set_option maxRecDepth 100000 in
theorem c_Store_takeFill {l : Launch} {D : va_G} {K : Nat → ClassId} {ad : Nat → Nat → Nat} {n : Nat} {π : Nat → Nat} {s : S3} {i L : Nat} (hJ : zw_J (cRL n) ad) (mi : (1, i) ∈ cRL n) (mL : (5, L) ∈ cRL n) (hw : vp_in (s 4 2 0) 33) (hπ : ∀ j, π j < 34) : zM l y_Store_takeFill ws_Store_takeFill ({ frames := 4, cells := 0, slots := 0, locals := 145 }) D zCl (zTys K) (cRL n) ad [.ref (ad 0 0), .ref (ad 1 i), .ref (ad 5 L)] (kC K ad n s π) (some (.int (v_Store_takeFill n π s i L))) (kC K ad n (S_Store_takeFill n π s i L) π) := by
  refine zM.of (cc := prog_1_method_27_code) (maxL := 3) (ret := (Option.some Jvm.ClassFile.FieldType.boolean)) (by decide) rfl (Nat.le_of_ble_eq_true rfl) ?_
  intro pP eE U mM bL mT cO S hr hlk hK
  have hts := S.2.2.2.2
  have ht := fun w h => hts w (List.mem_cons_of_mem _ h)
  refine z_aload_n S d_Store_takeFill_0 rfl 2 rfl 1 rfl ?_
  refine z_get S hK hin_Letter mL kC_5 rfl 0 (Nat.le_of_ble_eq_true rfl) (ht _ w_224) (fun _ h => h) d_Store_takeFill_1 4 rfl (.ref (ad 6 (8 + L))) rfl ?_
  refine z_get S hK hin_View (rl_lv mL) kC_6 rfl 0 (Nat.le_of_ble_eq_true rfl) (ht _ w_43) (fun _ h => h) d_Store_takeFill_4 7 rfl (.int (s 6 0 (8 + L))) rfl ?_
  refine z_aload_n S d_Store_takeFill_7 rfl 1 rfl 8 rfl ?_
  refine z_get S hK hin_Server mi kC_1 rfl 1 (Nat.le_of_ble_eq_true rfl) (ht _ w_120) (fun _ h => h) d_Store_takeFill_8 11 rfl (.ref (ad 6 i)) rfl ?_
  refine z_get S hK hin_View (rl_sv mi) kC_6 rfl 0 (Nat.le_of_ble_eq_true rfl) (ht _ w_43) (fun _ h => h) d_Store_takeFill_11 14 rfl (.int (s 6 0 i)) rfl ?_
  refine z_icmp_ge S d_Store_takeFill_14 19 (by decide) 17 rfl (fun h1 => ?_) (fun h1 => ?_)
  · refine z_aload_n S d_Store_takeFill_19 rfl 2 rfl 20 rfl ?_
    refine z_get S hK hin_Letter mL kC_5 rfl 0 (Nat.le_of_ble_eq_true rfl) (ht _ w_224) (fun _ h => h) d_Store_takeFill_20 23 rfl (.ref (ad 6 (8 + L))) rfl ?_
    refine z_get S hK hin_View (rl_lv mL) kC_6 rfl 0 (Nat.le_of_ble_eq_true rfl) (ht _ w_43) (fun _ h => h) d_Store_takeFill_23 26 rfl (.int (s 6 0 (8 + L))) rfl ?_
    refine z_aload_n S d_Store_takeFill_26 rfl 1 rfl 27 rfl ?_
    refine z_get S hK hin_Server mi kC_1 rfl 1 (Nat.le_of_ble_eq_true rfl) (ht _ w_120) (fun _ h => h) d_Store_takeFill_27 30 rfl (.ref (ad 6 i)) rfl ?_
    refine z_get S hK hin_View (rl_sv mi) kC_6 rfl 0 (Nat.le_of_ble_eq_true rfl) (ht _ w_43) (fun _ h => h) d_Store_takeFill_30 33 rfl (.int (s 6 0 i)) rfl ?_
    refine z_icmp_le S d_Store_takeFill_33 45 (by decide) 36 rfl (fun h2 => ?_) (fun h2 => ?_)
    · refine z_aload_n S d_Store_takeFill_45 rfl 1 rfl 46 rfl ?_
      refine z_get S hK hin_Server mi kC_1 rfl 9 (Nat.le_of_ble_eq_true rfl) (ht _ w_136) (fun _ h => h) d_Store_takeFill_46 49 rfl (.int (s 1 9 i)) rfl ?_
      refine z_if_ne S d_Store_takeFill_49 68 (by decide) 52 rfl (fun h3 => ?_) (fun h3 => ?_)
      · refine z_aload_n S d_Store_takeFill_68 rfl 0 rfl 69 rfl ?_
        refine z_get S hK hin_Store rl_0 kC_0 rfl 3 (Nat.le_of_ble_eq_true rfl) (ht _ w_281) (fun _ h => h) d_Store_takeFill_69 72 rfl (.ref (ad 4 0)) rfl ?_
        refine z_iconst S d_Store_takeFill_72 4 (by decide) 73 rfl ?_
        refine z_aload_n S d_Store_takeFill_73 rfl 1 rfl 74 rfl ?_
        refine z_get S hK hin_Server mi kC_1 rfl 1 (Nat.le_of_ble_eq_true rfl) (ht _ w_120) (fun _ h => h) d_Store_takeFill_74 77 rfl (.ref (ad 6 i)) rfl ?_
        refine z_get S hK hin_View (rl_sv mi) kC_6 rfl 1 (Nat.le_of_ble_eq_true rfl) (ht _ w_47) (fun _ h => h) d_Store_takeFill_77 80 rfl (.int (s 6 1 i)) rfl ?_
        refine z_callV S hK (As := [.int 4, .int (s 6 1 i)]) (rest := []) (c_Post_next (k := 4) (p := s 6 1 i) hJ hw hπ) (cw_Post_next hts w_310 rfl rfl ⟨(Nat.le_of_ble_eq_true rfl), (Nat.le_of_ble_eq_true rfl)⟩) rl_4 kC_4 rfl rfl rfl (Nat.le_of_ble_eq_true rfl) d_Store_takeFill_80 83 rfl [.ref (ad 5 (nxL (s 4 2 0) π))] rfl ?_
        refine z_get S hK hin_Letter (rl_nx hπ) kC_5 rfl 0 (Nat.le_of_ble_eq_true rfl) (ht _ w_224) (fun _ h => h) d_Store_takeFill_83 86 rfl (.ref (ad 6 (8 + (nxL (s 4 2 0) π)))) rfl ?_
        refine z_aload_n S d_Store_takeFill_86 rfl 1 rfl 87 rfl ?_
        refine z_get S hK hin_Server mi kC_1 rfl 1 (Nat.le_of_ble_eq_true rfl) (ht _ w_120) (fun _ h => h) d_Store_takeFill_87 90 rfl (.ref (ad 6 i)) rfl ?_
        refine z_callV S hK (As := [.ref (ad 6 i)]) (rest := []) (c_View_become (a := 8 + (nxL (s 4 2 0) π)) (b := i) hJ (rl_lv (rl_nx hπ)) (rl_sv mi)) (cw_View_become hts w_360 rfl rfl ⟨(Nat.le_of_ble_eq_true rfl), (Nat.le_of_ble_eq_true rfl)⟩) (rl_lv (rl_nx hπ)) kC_6 rfl rfl rfl (Nat.le_of_ble_eq_true rfl) d_Store_takeFill_90 93 rfl [] rfl ?_
        refine z_iconst S d_Store_takeFill_93 1 (by decide) 94 rfl ?_
        exact z_zret S hr (zb_n zb_1) hlk d_Store_takeFill_94 (by unfold v_Store_takeFill; simp only [if_pos h1, if_pos h2, if_neg h3]) (kC_eq (by unfold S_Store_takeFill; simp only [if_pos h1, if_pos h2, if_neg h3]))
      · refine z_aload_n S d_Store_takeFill_52 rfl 1 rfl 53 rfl ?_
        refine z_get S hK hin_Server mi kC_1 rfl 2 (Nat.le_of_ble_eq_true rfl) (ht _ w_122) (fun _ h => h) d_Store_takeFill_53 56 rfl (.ref (ad 8 i)) rfl ?_
        refine z_aload_n S d_Store_takeFill_56 rfl 2 rfl 57 rfl ?_
        refine z_get S hK hin_Letter mL kC_5 rfl 2 (Nat.le_of_ble_eq_true rfl) (ht _ w_229) (fun _ h => h) d_Store_takeFill_57 60 rfl (.ref (ad 8 (8 + L))) rfl ?_
        refine z_callV S hK (As := [.ref (ad 8 (8 + L))]) (rest := []) (c_State_become (a := i) (b := 8 + L) hJ (rl_ss mi) (rl_ls mL)) (cw_State_become hts w_364 rfl rfl ⟨(Nat.le_of_ble_eq_true rfl), (Nat.le_of_ble_eq_true rfl)⟩) (rl_ss mi) kC_8 rfl rfl rfl (Nat.le_of_ble_eq_true rfl) d_Store_takeFill_60 63 rfl [] rfl ?_
        refine z_aload_n S d_Store_takeFill_63 rfl 1 rfl 64 rfl ?_
        refine z_iconst S d_Store_takeFill_64 1 (by decide) 65 rfl ?_
        refine z_put S hJ hK hin_Server t_Server ok_Server nm_Server mi kC_1 rfl 9 (Nat.le_of_ble_eq_true rfl) (ht _ w_136) (fun _ h => h) rfl (zb_n zb_1) (zb_f zb_1) (Nat.le_of_ble_eq_true rfl) up_1_9 d_Store_takeFill_65 68 rfl ?_
        refine z_aload_n S d_Store_takeFill_68 rfl 0 rfl 69 rfl ?_
        refine z_get S hK hin_Store rl_0 kC_0 rfl 3 (Nat.le_of_ble_eq_true rfl) (ht _ w_281) (fun _ h => h) d_Store_takeFill_69 72 rfl (.ref (ad 4 0)) rfl ?_
        refine z_iconst S d_Store_takeFill_72 4 (by decide) 73 rfl ?_
        refine z_aload_n S d_Store_takeFill_73 rfl 1 rfl 74 rfl ?_
        refine z_get S hK hin_Server mi kC_1 rfl 1 (Nat.le_of_ble_eq_true rfl) (ht _ w_120) (fun _ h => h) d_Store_takeFill_74 77 rfl (.ref (ad 6 i)) rfl ?_
        refine z_get S hK hin_View (rl_sv mi) kC_6 rfl 1 (Nat.le_of_ble_eq_true rfl) (ht _ w_47) (fun _ h => h) d_Store_takeFill_77 80 rfl (.int (s 6 1 i)) rfl ?_
        refine z_callV S hK (As := [.int 4, .int (s 6 1 i)]) (rest := []) (c_Post_next (k := 4) (p := s 6 1 i) hJ hw hπ) (cw_Post_next hts w_310 rfl rfl ⟨(Nat.le_of_ble_eq_true rfl), (Nat.le_of_ble_eq_true rfl)⟩) rl_4 kC_4 rfl rfl rfl (Nat.le_of_ble_eq_true rfl) d_Store_takeFill_80 83 rfl [.ref (ad 5 (nxL (s 4 2 0) π))] rfl ?_
        refine z_get S hK hin_Letter (rl_nx hπ) kC_5 rfl 0 (Nat.le_of_ble_eq_true rfl) (ht _ w_224) (fun _ h => h) d_Store_takeFill_83 86 rfl (.ref (ad 6 (8 + (nxL (s 4 2 0) π)))) rfl ?_
        refine z_aload_n S d_Store_takeFill_86 rfl 1 rfl 87 rfl ?_
        refine z_get S hK hin_Server mi kC_1 rfl 1 (Nat.le_of_ble_eq_true rfl) (ht _ w_120) (fun _ h => h) d_Store_takeFill_87 90 rfl (.ref (ad 6 i)) rfl ?_
        refine z_callV S hK (As := [.ref (ad 6 i)]) (rest := []) (c_View_become (a := 8 + (nxL (s 4 2 0) π)) (b := i) hJ (rl_lv (rl_nx hπ)) (rl_sv mi)) (cw_View_become hts w_360 rfl rfl ⟨(Nat.le_of_ble_eq_true rfl), (Nat.le_of_ble_eq_true rfl)⟩) (rl_lv (rl_nx hπ)) kC_6 rfl rfl rfl (Nat.le_of_ble_eq_true rfl) d_Store_takeFill_90 93 rfl [] rfl ?_
        refine z_iconst S d_Store_takeFill_93 1 (by decide) 94 rfl ?_
        exact z_zret S hr (zb_n zb_1) hlk d_Store_takeFill_94 (by unfold v_Store_takeFill; simp only [if_pos h1, if_pos h2, if_pos h3]) (kC_eq (by unfold S_Store_takeFill; simp only [if_pos h1, if_pos h2, if_pos h3]))
    · refine z_aload_n S d_Store_takeFill_36 rfl 0 rfl 37 rfl ?_
      refine z_aload_n S d_Store_takeFill_37 rfl 1 rfl 38 rfl ?_
      refine z_aload_n S d_Store_takeFill_38 rfl 2 rfl 39 rfl ?_
      refine z_get S hK hin_Letter mL kC_5 rfl 0 (Nat.le_of_ble_eq_true rfl) (ht _ w_224) (fun _ h => h) d_Store_takeFill_39 42 rfl (.ref (ad 6 (8 + L))) rfl ?_
      refine z_callV S hK (As := [.ref (ad 1 i), .ref (ad 6 (8 + L))]) (rest := []) (c_Store_enterView (i := i) (v := 8 + L) hJ mi (rl_lv mL) hw hπ) (cw_Store_enterView hts w_431 rfl rfl ⟨(Nat.le_of_ble_eq_true rfl), (Nat.le_of_ble_eq_true rfl)⟩) rl_0 kC_0 rfl rfl rfl (Nat.le_of_ble_eq_true rfl) d_Store_takeFill_42 45 rfl [] rfl ?_
      refine z_aload_n S d_Store_takeFill_45 rfl 1 rfl 46 rfl ?_
      refine z_get S hK hin_Server mi kC_1 rfl 9 (Nat.le_of_ble_eq_true rfl) (ht _ w_136) (fun _ h => h) d_Store_takeFill_46 49 rfl (.int ((S_Store_enterView n π s i (8 + L)) 1 9 i)) rfl ?_
      refine z_if_ne S d_Store_takeFill_49 68 (by decide) 52 rfl (fun h4 => ?_) (fun h4 => ?_)
      · refine z_aload_n S d_Store_takeFill_68 rfl 0 rfl 69 rfl ?_
        refine z_get S hK hin_Store rl_0 kC_0 rfl 3 (Nat.le_of_ble_eq_true rfl) (ht _ w_281) (fun _ h => h) d_Store_takeFill_69 72 rfl (.ref (ad 4 0)) rfl ?_
        refine z_iconst S d_Store_takeFill_72 4 (by decide) 73 rfl ?_
        refine z_aload_n S d_Store_takeFill_73 rfl 1 rfl 74 rfl ?_
        refine z_get S hK hin_Server mi kC_1 rfl 1 (Nat.le_of_ble_eq_true rfl) (ht _ w_120) (fun _ h => h) d_Store_takeFill_74 77 rfl (.ref (ad 6 i)) rfl ?_
        refine z_get S hK hin_View (rl_sv mi) kC_6 rfl 1 (Nat.le_of_ble_eq_true rfl) (ht _ w_47) (fun _ h => h) d_Store_takeFill_77 80 rfl (.int ((S_Store_enterView n π s i (8 + L)) 6 1 i)) rfl ?_
        refine z_callV S hK (As := [.int 4, .int ((S_Store_enterView n π s i (8 + L)) 6 1 i)]) (rest := []) (c_Post_next (k := 4) (p := (S_Store_enterView n π s i (8 + L)) 6 1 i) hJ (hw_enter (n := n) hw) hπ) (cw_Post_next hts w_310 rfl rfl ⟨(Nat.le_of_ble_eq_true rfl), (Nat.le_of_ble_eq_true rfl)⟩) rl_4 kC_4 rfl rfl rfl (Nat.le_of_ble_eq_true rfl) d_Store_takeFill_80 83 rfl [.ref (ad 5 (nxL ((S_Store_enterView n π s i (8 + L)) 4 2 0) π))] rfl ?_
        refine z_get S hK hin_Letter (rl_nx hπ) kC_5 rfl 0 (Nat.le_of_ble_eq_true rfl) (ht _ w_224) (fun _ h => h) d_Store_takeFill_83 86 rfl (.ref (ad 6 (8 + (nxL ((S_Store_enterView n π s i (8 + L)) 4 2 0) π)))) rfl ?_
        refine z_aload_n S d_Store_takeFill_86 rfl 1 rfl 87 rfl ?_
        refine z_get S hK hin_Server mi kC_1 rfl 1 (Nat.le_of_ble_eq_true rfl) (ht _ w_120) (fun _ h => h) d_Store_takeFill_87 90 rfl (.ref (ad 6 i)) rfl ?_
        refine z_callV S hK (As := [.ref (ad 6 i)]) (rest := []) (c_View_become (a := 8 + (nxL ((S_Store_enterView n π s i (8 + L)) 4 2 0) π)) (b := i) hJ (rl_lv (rl_nx hπ)) (rl_sv mi)) (cw_View_become hts w_360 rfl rfl ⟨(Nat.le_of_ble_eq_true rfl), (Nat.le_of_ble_eq_true rfl)⟩) (rl_lv (rl_nx hπ)) kC_6 rfl rfl rfl (Nat.le_of_ble_eq_true rfl) d_Store_takeFill_90 93 rfl [] rfl ?_
        refine z_iconst S d_Store_takeFill_93 1 (by decide) 94 rfl ?_
        exact z_zret S hr (zb_n zb_1) hlk d_Store_takeFill_94 (by unfold v_Store_takeFill; simp only [if_pos h1, if_neg h2, if_neg h4]) (kC_eq (by unfold S_Store_takeFill; simp only [if_pos h1, if_neg h2, if_neg h4]))
      · refine z_aload_n S d_Store_takeFill_52 rfl 1 rfl 53 rfl ?_
        refine z_get S hK hin_Server mi kC_1 rfl 2 (Nat.le_of_ble_eq_true rfl) (ht _ w_122) (fun _ h => h) d_Store_takeFill_53 56 rfl (.ref (ad 8 i)) rfl ?_
        refine z_aload_n S d_Store_takeFill_56 rfl 2 rfl 57 rfl ?_
        refine z_get S hK hin_Letter mL kC_5 rfl 2 (Nat.le_of_ble_eq_true rfl) (ht _ w_229) (fun _ h => h) d_Store_takeFill_57 60 rfl (.ref (ad 8 (8 + L))) rfl ?_
        refine z_callV S hK (As := [.ref (ad 8 (8 + L))]) (rest := []) (c_State_become (a := i) (b := 8 + L) hJ (rl_ss mi) (rl_ls mL)) (cw_State_become hts w_364 rfl rfl ⟨(Nat.le_of_ble_eq_true rfl), (Nat.le_of_ble_eq_true rfl)⟩) (rl_ss mi) kC_8 rfl rfl rfl (Nat.le_of_ble_eq_true rfl) d_Store_takeFill_60 63 rfl [] rfl ?_
        refine z_aload_n S d_Store_takeFill_63 rfl 1 rfl 64 rfl ?_
        refine z_iconst S d_Store_takeFill_64 1 (by decide) 65 rfl ?_
        refine z_put S hJ hK hin_Server t_Server ok_Server nm_Server mi kC_1 rfl 9 (Nat.le_of_ble_eq_true rfl) (ht _ w_136) (fun _ h => h) rfl (zb_n zb_1) (zb_f zb_1) (Nat.le_of_ble_eq_true rfl) up_1_9 d_Store_takeFill_65 68 rfl ?_
        refine z_aload_n S d_Store_takeFill_68 rfl 0 rfl 69 rfl ?_
        refine z_get S hK hin_Store rl_0 kC_0 rfl 3 (Nat.le_of_ble_eq_true rfl) (ht _ w_281) (fun _ h => h) d_Store_takeFill_69 72 rfl (.ref (ad 4 0)) rfl ?_
        refine z_iconst S d_Store_takeFill_72 4 (by decide) 73 rfl ?_
        refine z_aload_n S d_Store_takeFill_73 rfl 1 rfl 74 rfl ?_
        refine z_get S hK hin_Server mi kC_1 rfl 1 (Nat.le_of_ble_eq_true rfl) (ht _ w_120) (fun _ h => h) d_Store_takeFill_74 77 rfl (.ref (ad 6 i)) rfl ?_
        refine z_get S hK hin_View (rl_sv mi) kC_6 rfl 1 (Nat.le_of_ble_eq_true rfl) (ht _ w_47) (fun _ h => h) d_Store_takeFill_77 80 rfl (.int ((S_Store_enterView n π s i (8 + L)) 6 1 i)) rfl ?_
        refine z_callV S hK (As := [.int 4, .int ((S_Store_enterView n π s i (8 + L)) 6 1 i)]) (rest := []) (c_Post_next (k := 4) (p := (S_Store_enterView n π s i (8 + L)) 6 1 i) hJ (hw_enter (n := n) hw) hπ) (cw_Post_next hts w_310 rfl rfl ⟨(Nat.le_of_ble_eq_true rfl), (Nat.le_of_ble_eq_true rfl)⟩) rl_4 kC_4 rfl rfl rfl (Nat.le_of_ble_eq_true rfl) d_Store_takeFill_80 83 rfl [.ref (ad 5 (nxL ((S_Store_enterView n π s i (8 + L)) 4 2 0) π))] rfl ?_
        refine z_get S hK hin_Letter (rl_nx hπ) kC_5 rfl 0 (Nat.le_of_ble_eq_true rfl) (ht _ w_224) (fun _ h => h) d_Store_takeFill_83 86 rfl (.ref (ad 6 (8 + (nxL ((S_Store_enterView n π s i (8 + L)) 4 2 0) π)))) rfl ?_
        refine z_aload_n S d_Store_takeFill_86 rfl 1 rfl 87 rfl ?_
        refine z_get S hK hin_Server mi kC_1 rfl 1 (Nat.le_of_ble_eq_true rfl) (ht _ w_120) (fun _ h => h) d_Store_takeFill_87 90 rfl (.ref (ad 6 i)) rfl ?_
        refine z_callV S hK (As := [.ref (ad 6 i)]) (rest := []) (c_View_become (a := 8 + (nxL ((S_Store_enterView n π s i (8 + L)) 4 2 0) π)) (b := i) hJ (rl_lv (rl_nx hπ)) (rl_sv mi)) (cw_View_become hts w_360 rfl rfl ⟨(Nat.le_of_ble_eq_true rfl), (Nat.le_of_ble_eq_true rfl)⟩) (rl_lv (rl_nx hπ)) kC_6 rfl rfl rfl (Nat.le_of_ble_eq_true rfl) d_Store_takeFill_90 93 rfl [] rfl ?_
        refine z_iconst S d_Store_takeFill_93 1 (by decide) 94 rfl ?_
        exact z_zret S hr (zb_n zb_1) hlk d_Store_takeFill_94 (by unfold v_Store_takeFill; simp only [if_pos h1, if_neg h2, if_pos h4]) (kC_eq (by unfold S_Store_takeFill; simp only [if_pos h1, if_neg h2, if_pos h4]))
  · refine z_iconst S d_Store_takeFill_17 0 (by decide) 18 rfl ?_
    exact z_zret S hr (zb_n zb_0) hlk d_Store_takeFill_18 (by unfold v_Store_takeFill; simp only [if_neg h1]) (kC_eq (by unfold S_Store_takeFill; simp only [if_neg h1]))
theorem d_Store_takeView_0 : decode prog_1_method_26_code 0 = .ok (.aload_n 2, 1) := by decide +kernel
theorem d_Store_takeView_1 : decode prog_1_method_26_code 1 = .ok (.getfield 223, 3) := by decide +kernel
theorem d_Store_takeView_4 : decode prog_1_method_26_code 4 = .ok (.getfield 92, 3) := by decide +kernel
theorem d_Store_takeView_7 : decode prog_1_method_26_code 7 = .ok (.aload_n 1, 1) := by decide +kernel
theorem d_Store_takeView_8 : decode prog_1_method_26_code 8 = .ok (.getfield 101, 3) := by decide +kernel
theorem d_Store_takeView_11 : decode prog_1_method_26_code 11 = .ok (.getfield 92, 3) := by decide +kernel
theorem d_Store_takeView_14 : decode prog_1_method_26_code 14 = .ok (.if_icmp .ge 5, 3) := by decide +kernel
theorem d_Store_takeView_17 : decode prog_1_method_26_code 17 = .ok (.iconst 0, 1) := by decide +kernel
theorem d_Store_takeView_18 : decode prog_1_method_26_code 18 = .ok (.ireturn, 1) := by decide +kernel
theorem d_Store_takeView_19 : decode prog_1_method_26_code 19 = .ok (.aload_n 2, 1) := by decide +kernel
theorem d_Store_takeView_20 : decode prog_1_method_26_code 20 = .ok (.getfield 223, 3) := by decide +kernel
theorem d_Store_takeView_23 : decode prog_1_method_26_code 23 = .ok (.getfield 92, 3) := by decide +kernel
theorem d_Store_takeView_26 : decode prog_1_method_26_code 26 = .ok (.aload_n 1, 1) := by decide +kernel
theorem d_Store_takeView_27 : decode prog_1_method_26_code 27 = .ok (.getfield 101, 3) := by decide +kernel
theorem d_Store_takeView_30 : decode prog_1_method_26_code 30 = .ok (.getfield 92, 3) := by decide +kernel
theorem d_Store_takeView_33 : decode prog_1_method_26_code 33 = .ok (.if_icmp .le 12, 3) := by decide +kernel
theorem d_Store_takeView_36 : decode prog_1_method_26_code 36 = .ok (.aload_n 0, 1) := by decide +kernel
theorem d_Store_takeView_37 : decode prog_1_method_26_code 37 = .ok (.aload_n 1, 1) := by decide +kernel
theorem d_Store_takeView_38 : decode prog_1_method_26_code 38 = .ok (.aload_n 2, 1) := by decide +kernel
theorem d_Store_takeView_39 : decode prog_1_method_26_code 39 = .ok (.getfield 223, 3) := by decide +kernel
theorem d_Store_takeView_42 : decode prog_1_method_26_code 42 = .ok (.invokevirtual 227, 3) := by decide +kernel
theorem d_Store_takeView_45 : decode prog_1_method_26_code 45 = .ok (.aload_n 1, 1) := by decide +kernel
theorem d_Store_takeView_46 : decode prog_1_method_26_code 46 = .ok (.invokevirtual 97, 3) := by decide +kernel
theorem d_Store_takeView_49 : decode prog_1_method_26_code 49 = .ok (.ifCond .eq 21, 3) := by decide +kernel
theorem d_Store_takeView_52 : decode prog_1_method_26_code 52 = .ok (.aload_n 1, 1) := by decide +kernel
theorem d_Store_takeView_53 : decode prog_1_method_26_code 53 = .ok (.aload_n 1, 1) := by decide +kernel
theorem d_Store_takeView_54 : decode prog_1_method_26_code 54 = .ok (.getfield 231, 3) := by decide +kernel
theorem d_Store_takeView_57 : decode prog_1_method_26_code 57 = .ok (.aload_n 2, 1) := by decide +kernel
theorem d_Store_takeView_58 : decode prog_1_method_26_code 58 = .ok (.getfield 80, 3) := by decide +kernel
theorem d_Store_takeView_61 : decode prog_1_method_26_code 61 = .ok (.bipush 100, 2) := by decide +kernel
theorem d_Store_takeView_63 : decode prog_1_method_26_code 63 = .ok (.iadd, 1) := by decide +kernel
theorem d_Store_takeView_64 : decode prog_1_method_26_code 64 = .ok (.invokestatic 15, 3) := by decide +kernel
theorem d_Store_takeView_67 : decode prog_1_method_26_code 67 = .ok (.putfield 231, 3) := by decide +kernel
theorem d_Store_takeView_70 : decode prog_1_method_26_code 70 = .ok (.iconst 1, 1) := by decide +kernel
theorem d_Store_takeView_71 : decode prog_1_method_26_code 71 = .ok (.ireturn, 1) := by decide +kernel
def S_Store_takeView (n : Nat) (π : Nat → Nat) (s : S3) (i : Nat) (L : Nat) : S3 := if (s 6 0 i) ≤ (s 6 0 (8 + L)) then (if (s 6 0 (8 + L)) ≤ (s 6 0 i) then (if (v_Server_isPrimary (s 6 1 i) (s 1 0 i)) = 0 then s else u3 s 1 5 i (if (s 1 5 i) < ((s 5 6 L) + 100) then ((s 5 6 L) + 100) else (s 1 5 i))) else if (v_Server_isPrimary ((S_Store_enterView n π s i (8 + L)) 6 1 i) ((S_Store_enterView n π s i (8 + L)) 1 0 i)) = 0 then (S_Store_enterView n π s i (8 + L)) else u3 (S_Store_enterView n π s i (8 + L)) 1 5 i (if ((S_Store_enterView n π s i (8 + L)) 1 5 i) < (((S_Store_enterView n π s i (8 + L)) 5 6 L) + 100) then (((S_Store_enterView n π s i (8 + L)) 5 6 L) + 100) else ((S_Store_enterView n π s i (8 + L)) 1 5 i))) else s
def v_Store_takeView (n : Nat) (π : Nat → Nat) (s : S3) (i : Nat) (L : Nat) : Int32 := if (s 6 0 i) ≤ (s 6 0 (8 + L)) then (if (s 6 0 (8 + L)) ≤ (s 6 0 i) then (if (v_Server_isPrimary (s 6 1 i) (s 1 0 i)) = 0 then 1 else 1) else if (v_Server_isPrimary ((S_Store_enterView n π s i (8 + L)) 6 1 i) ((S_Store_enterView n π s i (8 + L)) 1 0 i)) = 0 then 1 else 1) else 0
theorem zbv_Store_takeView {n : Nat} {π : Nat → Nat} {s : S3} {i : Nat} {L : Nat} : zb (v_Store_takeView n π s i L) := by
  unfold v_Store_takeView
  repeat' split
  all_goals first | with_reducible exact zb_0 | with_reducible exact zb_1 | with_reducible exact zbv_View_hasBackup | with_reducible exact zbv_Server_isPrimary | with_reducible exact zbv_Server_isPrimaryOf | with_reducible exact zbv_Server_isBackupOf | with_reducible exact zbv_Client_takeAnswer | with_reducible exact zbv_Service_isFresh | with_reducible exact zbv_Post_has | with_reducible exact zbv_Store_isServer | with_reducible exact zbv_Store_isClient | with_reducible exact zbv_Store_isCell | with_reducible exact zbv_Store_takeRead | with_reducible exact zbv_Store_takeWrite | with_reducible exact zbv_Store_takeAsk | with_reducible exact zbv_Store_takePassed | with_reducible exact zbv_Store_takePass | with_reducible exact zbv_Store_takeFilled | with_reducible exact zbv_Store_takeFill
set_option maxHeartbeats 4000000 in
set_option maxRecDepth 100000 in
theorem c_Store_takeView {l : Launch} {D : va_G} {K : Nat → ClassId} {ad : Nat → Nat → Nat} {n : Nat} {π : Nat → Nat} {s : S3} {i L : Nat} (hJ : zw_J (cRL n) ad) (mi : (1, i) ∈ cRL n) (mL : (5, L) ∈ cRL n) (hw : vp_in (s 4 2 0) 33) (hπ : ∀ j, π j < 34) : zM l y_Store_takeView ws_Store_takeView ({ frames := 4, cells := 0, slots := 0, locals := 145 }) D zCl (zTys K) (cRL n) ad [.ref (ad 0 0), .ref (ad 1 i), .ref (ad 5 L)] (kC K ad n s π) (some (.int (v_Store_takeView n π s i L))) (kC K ad n (S_Store_takeView n π s i L) π) := by
  refine zM.of (cc := prog_1_method_26_code) (maxL := 3) (ret := (Option.some Jvm.ClassFile.FieldType.boolean)) (by decide) rfl (Nat.le_of_ble_eq_true rfl) ?_
  intro pP eE U mM bL mT cO S hr hlk hK
  have hts := S.2.2.2.2
  have ht := fun w h => hts w (List.mem_cons_of_mem _ h)
  refine z_aload_n S d_Store_takeView_0 rfl 2 rfl 1 rfl ?_
  refine z_get S hK hin_Letter mL kC_5 rfl 0 (Nat.le_of_ble_eq_true rfl) (ht _ w_224) (fun _ h => h) d_Store_takeView_1 4 rfl (.ref (ad 6 (8 + L))) rfl ?_
  refine z_get S hK hin_View (rl_lv mL) kC_6 rfl 0 (Nat.le_of_ble_eq_true rfl) (ht _ w_43) (fun _ h => h) d_Store_takeView_4 7 rfl (.int (s 6 0 (8 + L))) rfl ?_
  refine z_aload_n S d_Store_takeView_7 rfl 1 rfl 8 rfl ?_
  refine z_get S hK hin_Server mi kC_1 rfl 1 (Nat.le_of_ble_eq_true rfl) (ht _ w_120) (fun _ h => h) d_Store_takeView_8 11 rfl (.ref (ad 6 i)) rfl ?_
  refine z_get S hK hin_View (rl_sv mi) kC_6 rfl 0 (Nat.le_of_ble_eq_true rfl) (ht _ w_43) (fun _ h => h) d_Store_takeView_11 14 rfl (.int (s 6 0 i)) rfl ?_
  refine z_icmp_ge S d_Store_takeView_14 19 (by decide) 17 rfl (fun h1 => ?_) (fun h1 => ?_)
  · refine z_aload_n S d_Store_takeView_19 rfl 2 rfl 20 rfl ?_
    refine z_get S hK hin_Letter mL kC_5 rfl 0 (Nat.le_of_ble_eq_true rfl) (ht _ w_224) (fun _ h => h) d_Store_takeView_20 23 rfl (.ref (ad 6 (8 + L))) rfl ?_
    refine z_get S hK hin_View (rl_lv mL) kC_6 rfl 0 (Nat.le_of_ble_eq_true rfl) (ht _ w_43) (fun _ h => h) d_Store_takeView_23 26 rfl (.int (s 6 0 (8 + L))) rfl ?_
    refine z_aload_n S d_Store_takeView_26 rfl 1 rfl 27 rfl ?_
    refine z_get S hK hin_Server mi kC_1 rfl 1 (Nat.le_of_ble_eq_true rfl) (ht _ w_120) (fun _ h => h) d_Store_takeView_27 30 rfl (.ref (ad 6 i)) rfl ?_
    refine z_get S hK hin_View (rl_sv mi) kC_6 rfl 0 (Nat.le_of_ble_eq_true rfl) (ht _ w_43) (fun _ h => h) d_Store_takeView_30 33 rfl (.int (s 6 0 i)) rfl ?_
    refine z_icmp_le S d_Store_takeView_33 45 (by decide) 36 rfl (fun h2 => ?_) (fun h2 => ?_)
    · refine z_aload_n S d_Store_takeView_45 rfl 1 rfl 46 rfl ?_
      refine z_callV S hK (As := []) (rest := []) (c_Server_isPrimary (i := i) hJ mi) (cw_Server_isPrimary hts w_354 rfl rfl ⟨(Nat.le_of_ble_eq_true rfl), (Nat.le_of_ble_eq_true rfl)⟩) mi kC_1 rfl rfl rfl (Nat.le_of_ble_eq_true rfl) d_Store_takeView_46 49 rfl [.int (v_Server_isPrimary (s 6 1 i) (s 1 0 i))] rfl ?_
      refine z_if_eq S d_Store_takeView_49 70 (by decide) 52 rfl (fun h3 => ?_) (fun h3 => ?_)
      · refine z_iconst S d_Store_takeView_70 1 (by decide) 71 rfl ?_
        exact z_zret S hr (zb_n zb_1) hlk d_Store_takeView_71 (by unfold v_Store_takeView; simp only [if_pos h1, if_pos h2, if_pos h3]) (kC_eq (by unfold S_Store_takeView; simp only [if_pos h1, if_pos h2, if_pos h3]))
      · refine z_aload_n S d_Store_takeView_52 rfl 1 rfl 53 rfl ?_
        refine z_aload_n S d_Store_takeView_53 rfl 1 rfl 54 rfl ?_
        refine z_get S hK hin_Server mi kC_1 rfl 5 (Nat.le_of_ble_eq_true rfl) (ht _ w_128) (fun _ h => h) d_Store_takeView_54 57 rfl (.int (s 1 5 i)) rfl ?_
        refine z_aload_n S d_Store_takeView_57 rfl 2 rfl 58 rfl ?_
        refine z_get S hK hin_Letter mL kC_5 rfl 6 (Nat.le_of_ble_eq_true rfl) (ht _ w_241) (fun _ h => h) d_Store_takeView_58 61 rfl (.int (s 5 6 L)) rfl ?_
        refine z_bipush S d_Store_takeView_61 100 (by decide) 63 rfl ?_
        refine z_iadd S d_Store_takeView_63 64 rfl ?_
        refine z_mmax S (ht _ w_24) (ht _ w_25) (ht _ w_2) (ht _ w_26) (Nat.le_of_ble_eq_true rfl) (Nat.le_of_ble_eq_true rfl) d_Store_takeView_64 67 rfl ?_
        refine z_put S hJ hK hin_Server t_Server ok_Server nm_Server mi kC_1 rfl 5 (Nat.le_of_ble_eq_true rfl) (ht _ w_128) (fun _ h => h) rfl rfl rfl (Nat.le_of_ble_eq_true rfl) up_1_5 d_Store_takeView_67 70 rfl ?_
        refine z_iconst S d_Store_takeView_70 1 (by decide) 71 rfl ?_
        exact z_zret S hr (zb_n zb_1) hlk d_Store_takeView_71 (by unfold v_Store_takeView; simp only [if_pos h1, if_pos h2, if_neg h3]) (kC_eq (by unfold S_Store_takeView; simp only [if_pos h1, if_pos h2, if_neg h3]))
    · refine z_aload_n S d_Store_takeView_36 rfl 0 rfl 37 rfl ?_
      refine z_aload_n S d_Store_takeView_37 rfl 1 rfl 38 rfl ?_
      refine z_aload_n S d_Store_takeView_38 rfl 2 rfl 39 rfl ?_
      refine z_get S hK hin_Letter mL kC_5 rfl 0 (Nat.le_of_ble_eq_true rfl) (ht _ w_224) (fun _ h => h) d_Store_takeView_39 42 rfl (.ref (ad 6 (8 + L))) rfl ?_
      refine z_callV S hK (As := [.ref (ad 1 i), .ref (ad 6 (8 + L))]) (rest := []) (c_Store_enterView (i := i) (v := 8 + L) hJ mi (rl_lv mL) hw hπ) (cw_Store_enterView hts w_431 rfl rfl ⟨(Nat.le_of_ble_eq_true rfl), (Nat.le_of_ble_eq_true rfl)⟩) rl_0 kC_0 rfl rfl rfl (Nat.le_of_ble_eq_true rfl) d_Store_takeView_42 45 rfl [] rfl ?_
      refine z_aload_n S d_Store_takeView_45 rfl 1 rfl 46 rfl ?_
      refine z_callV S hK (As := []) (rest := []) (c_Server_isPrimary (i := i) hJ mi) (cw_Server_isPrimary hts w_354 rfl rfl ⟨(Nat.le_of_ble_eq_true rfl), (Nat.le_of_ble_eq_true rfl)⟩) mi kC_1 rfl rfl rfl (Nat.le_of_ble_eq_true rfl) d_Store_takeView_46 49 rfl [.int (v_Server_isPrimary ((S_Store_enterView n π s i (8 + L)) 6 1 i) ((S_Store_enterView n π s i (8 + L)) 1 0 i))] rfl ?_
      refine z_if_eq S d_Store_takeView_49 70 (by decide) 52 rfl (fun h4 => ?_) (fun h4 => ?_)
      · refine z_iconst S d_Store_takeView_70 1 (by decide) 71 rfl ?_
        exact z_zret S hr (zb_n zb_1) hlk d_Store_takeView_71 (by unfold v_Store_takeView; simp only [if_pos h1, if_neg h2, if_pos h4]) (kC_eq (by unfold S_Store_takeView; simp only [if_pos h1, if_neg h2, if_pos h4]))
      · refine z_aload_n S d_Store_takeView_52 rfl 1 rfl 53 rfl ?_
        refine z_aload_n S d_Store_takeView_53 rfl 1 rfl 54 rfl ?_
        refine z_get S hK hin_Server mi kC_1 rfl 5 (Nat.le_of_ble_eq_true rfl) (ht _ w_128) (fun _ h => h) d_Store_takeView_54 57 rfl (.int ((S_Store_enterView n π s i (8 + L)) 1 5 i)) rfl ?_
        refine z_aload_n S d_Store_takeView_57 rfl 2 rfl 58 rfl ?_
        refine z_get S hK hin_Letter mL kC_5 rfl 6 (Nat.le_of_ble_eq_true rfl) (ht _ w_241) (fun _ h => h) d_Store_takeView_58 61 rfl (.int ((S_Store_enterView n π s i (8 + L)) 5 6 L)) rfl ?_
        refine z_bipush S d_Store_takeView_61 100 (by decide) 63 rfl ?_
        refine z_iadd S d_Store_takeView_63 64 rfl ?_
        refine z_mmax S (ht _ w_24) (ht _ w_25) (ht _ w_2) (ht _ w_26) (Nat.le_of_ble_eq_true rfl) (Nat.le_of_ble_eq_true rfl) d_Store_takeView_64 67 rfl ?_
        refine z_put S hJ hK hin_Server t_Server ok_Server nm_Server mi kC_1 rfl 5 (Nat.le_of_ble_eq_true rfl) (ht _ w_128) (fun _ h => h) rfl rfl rfl (Nat.le_of_ble_eq_true rfl) up_1_5 d_Store_takeView_67 70 rfl ?_
        refine z_iconst S d_Store_takeView_70 1 (by decide) 71 rfl ?_
        exact z_zret S hr (zb_n zb_1) hlk d_Store_takeView_71 (by unfold v_Store_takeView; simp only [if_pos h1, if_neg h2, if_neg h4]) (kC_eq (by unfold S_Store_takeView; simp only [if_pos h1, if_neg h2, if_neg h4]))
  · refine z_iconst S d_Store_takeView_17 0 (by decide) 18 rfl ?_
    exact z_zret S hr (zb_n zb_0) hlk d_Store_takeView_18 (by unfold v_Store_takeView; simp only [if_neg h1]) (kC_eq (by unfold S_Store_takeView; simp only [if_neg h1]))
theorem d_Store_takePing_0 : decode prog_1_method_25_code 0 = .ok (.aload_n 0, 1) := by decide +kernel
theorem d_Store_takePing_1 : decode prog_1_method_25_code 1 = .ok (.getfield 37, 3) := by decide +kernel
theorem d_Store_takePing_4 : decode prog_1_method_25_code 4 = .ok (.aload_n 1, 1) := by decide +kernel
theorem d_Store_takePing_5 : decode prog_1_method_25_code 5 = .ok (.aload_n 0, 1) := by decide +kernel
theorem d_Store_takePing_6 : decode prog_1_method_25_code 6 = .ok (.getfield 48, 3) := by decide +kernel
theorem d_Store_takePing_9 : decode prog_1_method_25_code 9 = .ok (.invokevirtual 219, 3) := by decide +kernel
theorem d_Store_takePing_12 : decode prog_1_method_25_code 12 = .ok (.aload_n 0, 1) := by decide +kernel
theorem d_Store_takePing_13 : decode prog_1_method_25_code 13 = .ok (.getfield 44, 3) := by decide +kernel
theorem d_Store_takePing_16 : decode prog_1_method_25_code 16 = .ok (.iconst 2, 1) := by decide +kernel
theorem d_Store_takePing_17 : decode prog_1_method_25_code 17 = .ok (.aload_n 1, 1) := by decide +kernel
theorem d_Store_takePing_18 : decode prog_1_method_25_code 18 = .ok (.getfield 166, 3) := by decide +kernel
theorem d_Store_takePing_21 : decode prog_1_method_25_code 21 = .ok (.invokevirtual 63, 3) := by decide +kernel
theorem d_Store_takePing_24 : decode prog_1_method_25_code 24 = .ok (.astore_n 2, 1) := by decide +kernel
theorem d_Store_takePing_25 : decode prog_1_method_25_code 25 = .ok (.aload_n 2, 1) := by decide +kernel
theorem d_Store_takePing_26 : decode prog_1_method_25_code 26 = .ok (.getfield 223, 3) := by decide +kernel
theorem d_Store_takePing_29 : decode prog_1_method_25_code 29 = .ok (.aload_n 0, 1) := by decide +kernel
theorem d_Store_takePing_30 : decode prog_1_method_25_code 30 = .ok (.getfield 37, 3) := by decide +kernel
theorem d_Store_takePing_33 : decode prog_1_method_25_code 33 = .ok (.getfield 88, 3) := by decide +kernel
theorem d_Store_takePing_36 : decode prog_1_method_25_code 36 = .ok (.invokevirtual 224, 3) := by decide +kernel
theorem d_Store_takePing_39 : decode prog_1_method_25_code 39 = .ok (.aload_n 2, 1) := by decide +kernel
theorem d_Store_takePing_40 : decode prog_1_method_25_code 40 = .ok (.aload_n 1, 1) := by decide +kernel
theorem d_Store_takePing_41 : decode prog_1_method_25_code 41 = .ok (.getfield 80, 3) := by decide +kernel
theorem d_Store_takePing_44 : decode prog_1_method_25_code 44 = .ok (.putfield 80, 3) := by decide +kernel
theorem d_Store_takePing_47 : decode prog_1_method_25_code 47 = .ok (.iconst 1, 1) := by decide +kernel
theorem d_Store_takePing_48 : decode prog_1_method_25_code 48 = .ok (.ireturn, 1) := by decide +kernel
def S_Store_takePing (n : Nat) (π : Nat → Nat) (s : S3) (L : Nat) : S3 := u3 (S_View_become π (S_Post_next π (S_Service_notePing n π s L (s 0 4 0)) 2 ((S_Service_notePing n π s L (s 0 4 0)) 5 4 L)) (8 + (nxL ((S_Service_notePing n π s L (s 0 4 0)) 4 2 0) π)) 7) 5 6 (nxL ((S_Service_notePing n π s L (s 0 4 0)) 4 2 0) π) ((S_Service_notePing n π s L (s 0 4 0)) 5 6 L)
def v_Store_takePing (n : Nat) (π : Nat → Nat) (s : S3) (L : Nat) : Int32 := 1
theorem zbv_Store_takePing {n : Nat} {π : Nat → Nat} {s : S3} {L : Nat} : zb (v_Store_takePing n π s L) := by
  unfold v_Store_takePing
  repeat' split
  all_goals first | with_reducible exact zb_0 | with_reducible exact zb_1 | with_reducible exact zbv_View_hasBackup | with_reducible exact zbv_Server_isPrimary | with_reducible exact zbv_Server_isPrimaryOf | with_reducible exact zbv_Server_isBackupOf | with_reducible exact zbv_Client_takeAnswer | with_reducible exact zbv_Service_isFresh | with_reducible exact zbv_Post_has | with_reducible exact zbv_Store_isServer | with_reducible exact zbv_Store_isClient | with_reducible exact zbv_Store_isCell | with_reducible exact zbv_Store_takeRead | with_reducible exact zbv_Store_takeWrite | with_reducible exact zbv_Store_takeAsk | with_reducible exact zbv_Store_takePassed | with_reducible exact zbv_Store_takePass | with_reducible exact zbv_Store_takeFilled | with_reducible exact zbv_Store_takeFill | with_reducible exact zbv_Store_takeView
set_option maxHeartbeats 4000000 in
set_option maxRecDepth 100000 in
theorem c_Store_takePing {l : Launch} {D : va_G} {K : Nat → ClassId} {ad : Nat → Nat → Nat} {n : Nat} {π : Nat → Nat} {s : S3} {L : Nat} (hJ : zw_J (cRL n) ad) (mL : (5, L) ∈ cRL n) (hw : vp_in (s 4 2 0) 33) (hπ : ∀ j, π j < 34) (hp : vp_in (s 5 4 L) n) : zM l y_Store_takePing ws_Store_takePing ({ frames := 2, cells := 0, slots := 0, locals := 44 }) D zCl (zTys K) (cRL n) ad [.ref (ad 0 0), .ref (ad 5 L)] (kC K ad n s π) (some (.int (v_Store_takePing n π s L))) (kC K ad n (S_Store_takePing n π s L) π) := by
  refine zM.of (cc := prog_1_method_25_code) (maxL := 3) (ret := (Option.some Jvm.ClassFile.FieldType.boolean)) (by decide) rfl (Nat.le_of_ble_eq_true rfl) ?_
  intro pP eE U mM bL mT cO S hr hlk hK
  have hts := S.2.2.2.2
  have ht := fun w h => hts w (List.mem_cons_of_mem _ h)
  refine z_aload_n S d_Store_takePing_0 rfl 0 rfl 1 rfl ?_
  refine z_get S hK hin_Store rl_0 kC_0 rfl 2 (Nat.le_of_ble_eq_true rfl) (ht _ w_280) (fun _ h => h) d_Store_takePing_1 4 rfl (.ref (ad 3 0)) rfl ?_
  refine z_aload_n S d_Store_takePing_4 rfl 1 rfl 5 rfl ?_
  refine z_aload_n S d_Store_takePing_5 rfl 0 rfl 6 rfl ?_
  refine z_get S hK hin_Store rl_0 kC_0 rfl 4 (Nat.le_of_ble_eq_true rfl) (ht _ w_282) (fun _ h => h) d_Store_takePing_6 9 rfl (.int (s 0 4 0)) rfl ?_
  refine z_callV S hK (As := [.ref (ad 5 L), .int (s 0 4 0)]) (rest := []) (c_Service_notePing (L := L) (t := s 0 4 0) hJ mL hp) (cw_Service_notePing hts w_419 rfl rfl ⟨(Nat.le_of_ble_eq_true rfl), (Nat.le_of_ble_eq_true rfl)⟩) rl_3 kC_3 rfl rfl rfl (Nat.le_of_ble_eq_true rfl) d_Store_takePing_9 12 rfl [] rfl ?_
  refine z_aload_n S d_Store_takePing_12 rfl 0 rfl 13 rfl ?_
  refine z_get S hK hin_Store rl_0 kC_0 rfl 3 (Nat.le_of_ble_eq_true rfl) (ht _ w_281) (fun _ h => h) d_Store_takePing_13 16 rfl (.ref (ad 4 0)) rfl ?_
  refine z_iconst S d_Store_takePing_16 2 (by decide) 17 rfl ?_
  refine z_aload_n S d_Store_takePing_17 rfl 1 rfl 18 rfl ?_
  refine z_get S hK hin_Letter mL kC_5 rfl 4 (Nat.le_of_ble_eq_true rfl) (ht _ w_236) (fun _ h => h) d_Store_takePing_18 21 rfl (.int ((S_Service_notePing n π s L (s 0 4 0)) 5 4 L)) rfl ?_
  refine z_callV S hK (As := [.int 2, .int ((S_Service_notePing n π s L (s 0 4 0)) 5 4 L)]) (rest := []) (c_Post_next (k := 2) (p := (S_Service_notePing n π s L (s 0 4 0)) 5 4 L) hJ (hw_note (n := n) hw) hπ) (cw_Post_next hts w_310 rfl rfl ⟨(Nat.le_of_ble_eq_true rfl), (Nat.le_of_ble_eq_true rfl)⟩) rl_4 kC_4 rfl rfl rfl (Nat.le_of_ble_eq_true rfl) d_Store_takePing_21 24 rfl [.ref (ad 5 (nxL ((S_Service_notePing n π s L (s 0 4 0)) 4 2 0) π))] rfl ?_
  refine z_astore_n S d_Store_takePing_24 rfl (Nat.le_of_ble_eq_true rfl) [(2, .ref (ad 5 (nxL ((S_Service_notePing n π s L (s 0 4 0)) 4 2 0) π))), (0, .ref (ad 0 0)), (1, .ref (ad 5 L))] rfl 25 rfl ?_
  refine z_aload_n S d_Store_takePing_25 rfl 0 rfl 26 rfl ?_
  refine z_get S hK hin_Letter (rl_nx hπ) kC_5 rfl 0 (Nat.le_of_ble_eq_true rfl) (ht _ w_224) (fun _ h => h) d_Store_takePing_26 29 rfl (.ref (ad 6 (8 + (nxL ((S_Service_notePing n π s L (s 0 4 0)) 4 2 0) π)))) rfl ?_
  refine z_aload_n S d_Store_takePing_29 rfl 1 rfl 30 rfl ?_
  refine z_get S hK hin_Store rl_0 kC_0 rfl 2 (Nat.le_of_ble_eq_true rfl) (ht _ w_280) (fun _ h => h) d_Store_takePing_30 33 rfl (.ref (ad 3 0)) rfl ?_
  refine z_get S hK hin_Service rl_3 kC_3 rfl 0 (Nat.le_of_ble_eq_true rfl) (ht _ w_193) (fun _ h => h) d_Store_takePing_33 36 rfl (.ref (ad 6 7)) rfl ?_
  refine z_callV S hK (As := [.ref (ad 6 7)]) (rest := []) (c_View_become (a := 8 + (nxL ((S_Service_notePing n π s L (s 0 4 0)) 4 2 0) π)) (b := 7) hJ (rl_lv (rl_nx hπ)) rl_67) (cw_View_become hts w_360 rfl rfl ⟨(Nat.le_of_ble_eq_true rfl), (Nat.le_of_ble_eq_true rfl)⟩) (rl_lv (rl_nx hπ)) kC_6 rfl rfl rfl (Nat.le_of_ble_eq_true rfl) d_Store_takePing_36 39 rfl [] rfl ?_
  refine z_aload_n S d_Store_takePing_39 rfl 0 rfl 40 rfl ?_
  refine z_aload_n S d_Store_takePing_40 rfl 2 rfl 41 rfl ?_
  refine z_get S hK hin_Letter mL kC_5 rfl 6 (Nat.le_of_ble_eq_true rfl) (ht _ w_241) (fun _ h => h) d_Store_takePing_41 44 rfl (.int ((S_Service_notePing n π s L (s 0 4 0)) 5 6 L)) rfl ?_
  refine z_put S hJ hK hin_Letter t_Letter ok_Letter nm_Letter (rl_nx hπ) kC_5 rfl 6 (Nat.le_of_ble_eq_true rfl) (ht _ w_241) (fun _ h => h) rfl rfl rfl (Nat.le_of_ble_eq_true rfl) up_5_6 d_Store_takePing_44 47 rfl ?_
  refine z_iconst S d_Store_takePing_47 1 (by decide) 48 rfl ?_
  exact z_zret S hr (zb_n zb_1) hlk d_Store_takePing_48 rfl (kC_eq rfl)
theorem z_sw2_7 {x : Int32} (h2 : ¬ x = 2) (h3 : ¬ x = 3) (h4 : ¬ x = 4) (h5 : ¬ x = 5) (h6 : ¬ x = 6) (h7 : ¬ x = 7) : x.toInt < 2 ∨ 7 < x.toInt := by
  have f : ∀ k : Int32, ¬ x = k → x.toInt ≠ k.toInt := fun k h e => h (Int32.toInt_inj.mp e)
  have a2 := f 2 h2; have a3 := f 3 h3; have a4 := f 4 h4; have a5 := f 5 h5; have a6 := f 6 h6; have a7 := f 7 h7
  simp at a2 a3 a4 a5 a6 a7
  omega
theorem d_Store_takesEffect_0 : decode prog_1_method_24_code 0 = .ok (.aload_n 1, 1) := by decide +kernel
theorem d_Store_takesEffect_1 : decode prog_1_method_24_code 1 = .ok (.getfield 156, 3) := by decide +kernel
theorem d_Store_takesEffect_4 : decode prog_1_method_24_code 4 = .ok (.iconst 1, 1) := by decide +kernel
theorem d_Store_takesEffect_5 : decode prog_1_method_24_code 5 = .ok (.if_icmp .ne 9, 3) := by decide +kernel
theorem d_Store_takesEffect_8 : decode prog_1_method_24_code 8 = .ok (.aload_n 0, 1) := by decide +kernel
theorem d_Store_takesEffect_9 : decode prog_1_method_24_code 9 = .ok (.aload_n 1, 1) := by decide +kernel
theorem d_Store_takesEffect_10 : decode prog_1_method_24_code 10 = .ok (.invokevirtual 194, 3) := by decide +kernel
theorem d_Store_takesEffect_13 : decode prog_1_method_24_code 13 = .ok (.ireturn, 1) := by decide +kernel
theorem d_Store_takesEffect_14 : decode prog_1_method_24_code 14 = .ok (.aload_n 1, 1) := by decide +kernel
theorem d_Store_takesEffect_15 : decode prog_1_method_24_code 15 = .ok (.getfield 156, 3) := by decide +kernel
theorem d_Store_takesEffect_18 : decode prog_1_method_24_code 18 = .ok (.bipush 8, 2) := by decide +kernel
theorem d_Store_takesEffect_20 : decode prog_1_method_24_code 20 = .ok (.if_icmp .ne 17, 3) := by decide +kernel
theorem d_Store_takesEffect_23 : decode prog_1_method_24_code 23 = .ok (.aload_n 0, 1) := by decide +kernel
theorem d_Store_takesEffect_24 : decode prog_1_method_24_code 24 = .ok (.getfield 29, 3) := by decide +kernel
theorem d_Store_takesEffect_27 : decode prog_1_method_24_code 27 = .ok (.aload_n 1, 1) := by decide +kernel
theorem d_Store_takesEffect_28 : decode prog_1_method_24_code 28 = .ok (.getfield 166, 3) := by decide +kernel
theorem d_Store_takesEffect_31 : decode prog_1_method_24_code 31 = .ok (.aaload, 1) := by decide +kernel
theorem d_Store_takesEffect_32 : decode prog_1_method_24_code 32 = .ok (.aload_n 1, 1) := by decide +kernel
theorem d_Store_takesEffect_33 : decode prog_1_method_24_code 33 = .ok (.invokevirtual 197, 3) := by decide +kernel
theorem d_Store_takesEffect_36 : decode prog_1_method_24_code 36 = .ok (.ireturn, 1) := by decide +kernel
theorem d_Store_takesEffect_37 : decode prog_1_method_24_code 37 = .ok (.aload_n 0, 1) := by decide +kernel
theorem d_Store_takesEffect_38 : decode prog_1_method_24_code 38 = .ok (.getfield 20, 3) := by decide +kernel
theorem d_Store_takesEffect_41 : decode prog_1_method_24_code 41 = .ok (.aload_n 1, 1) := by decide +kernel
theorem d_Store_takesEffect_42 : decode prog_1_method_24_code 42 = .ok (.getfield 166, 3) := by decide +kernel
theorem d_Store_takesEffect_45 : decode prog_1_method_24_code 45 = .ok (.aaload, 1) := by decide +kernel
theorem d_Store_takesEffect_46 : decode prog_1_method_24_code 46 = .ok (.astore_n 2, 1) := by decide +kernel
theorem d_Store_takesEffect_47 : decode prog_1_method_24_code 47 = .ok (.aload_n 2, 1) := by decide +kernel
theorem d_Store_takesEffect_48 : decode prog_1_method_24_code 48 = .ok (.getfield 59, 3) := by decide +kernel
theorem d_Store_takesEffect_51 : decode prog_1_method_24_code 51 = .ok (.ifCond .eq 5, 3) := by decide +kernel
theorem d_Store_takesEffect_54 : decode prog_1_method_24_code 54 = .ok (.iconst 0, 1) := by decide +kernel
theorem d_Store_takesEffect_55 : decode prog_1_method_24_code 55 = .ok (.ireturn, 1) := by decide +kernel
theorem d_Store_takesEffect_56 : decode prog_1_method_24_code 56 = .ok (.aload_n 1, 1) := by decide +kernel
theorem d_Store_takesEffect_57 : decode prog_1_method_24_code 57 = .ok (.getfield 156, 3) := by decide +kernel
theorem d_Store_takesEffect_60 : decode prog_1_method_24_code 60 = .ok (.tableswitch 82 2 7 #[40, 47, 54, 61, 68, 75], 40) := by decide +kernel
theorem d_Store_takesEffect_100 : decode prog_1_method_24_code 100 = .ok (.aload_n 0, 1) := by decide +kernel
theorem d_Store_takesEffect_101 : decode prog_1_method_24_code 101 = .ok (.aload_n 2, 1) := by decide +kernel
theorem d_Store_takesEffect_102 : decode prog_1_method_24_code 102 = .ok (.aload_n 1, 1) := by decide +kernel
theorem d_Store_takesEffect_103 : decode prog_1_method_24_code 103 = .ok (.invokevirtual 200, 3) := by decide +kernel
theorem d_Store_takesEffect_106 : decode prog_1_method_24_code 106 = .ok (.ireturn, 1) := by decide +kernel
theorem d_Store_takesEffect_107 : decode prog_1_method_24_code 107 = .ok (.aload_n 0, 1) := by decide +kernel
theorem d_Store_takesEffect_108 : decode prog_1_method_24_code 108 = .ok (.aload_n 2, 1) := by decide +kernel
theorem d_Store_takesEffect_109 : decode prog_1_method_24_code 109 = .ok (.aload_n 1, 1) := by decide +kernel
theorem d_Store_takesEffect_110 : decode prog_1_method_24_code 110 = .ok (.invokevirtual 204, 3) := by decide +kernel
theorem d_Store_takesEffect_113 : decode prog_1_method_24_code 113 = .ok (.ireturn, 1) := by decide +kernel
theorem d_Store_takesEffect_114 : decode prog_1_method_24_code 114 = .ok (.aload_n 0, 1) := by decide +kernel
theorem d_Store_takesEffect_115 : decode prog_1_method_24_code 115 = .ok (.aload_n 2, 1) := by decide +kernel
theorem d_Store_takesEffect_116 : decode prog_1_method_24_code 116 = .ok (.aload_n 1, 1) := by decide +kernel
theorem d_Store_takesEffect_117 : decode prog_1_method_24_code 117 = .ok (.invokevirtual 207, 3) := by decide +kernel
theorem d_Store_takesEffect_120 : decode prog_1_method_24_code 120 = .ok (.ireturn, 1) := by decide +kernel
theorem d_Store_takesEffect_121 : decode prog_1_method_24_code 121 = .ok (.aload_n 0, 1) := by decide +kernel
theorem d_Store_takesEffect_122 : decode prog_1_method_24_code 122 = .ok (.aload_n 2, 1) := by decide +kernel
theorem d_Store_takesEffect_123 : decode prog_1_method_24_code 123 = .ok (.aload_n 1, 1) := by decide +kernel
theorem d_Store_takesEffect_124 : decode prog_1_method_24_code 124 = .ok (.invokevirtual 210, 3) := by decide +kernel
theorem d_Store_takesEffect_127 : decode prog_1_method_24_code 127 = .ok (.ireturn, 1) := by decide +kernel
theorem d_Store_takesEffect_128 : decode prog_1_method_24_code 128 = .ok (.aload_n 0, 1) := by decide +kernel
theorem d_Store_takesEffect_129 : decode prog_1_method_24_code 129 = .ok (.aload_n 2, 1) := by decide +kernel
theorem d_Store_takesEffect_130 : decode prog_1_method_24_code 130 = .ok (.aload_n 1, 1) := by decide +kernel
theorem d_Store_takesEffect_131 : decode prog_1_method_24_code 131 = .ok (.invokevirtual 213, 3) := by decide +kernel
theorem d_Store_takesEffect_134 : decode prog_1_method_24_code 134 = .ok (.ireturn, 1) := by decide +kernel
theorem d_Store_takesEffect_135 : decode prog_1_method_24_code 135 = .ok (.aload_n 0, 1) := by decide +kernel
theorem d_Store_takesEffect_136 : decode prog_1_method_24_code 136 = .ok (.aload_n 2, 1) := by decide +kernel
theorem d_Store_takesEffect_137 : decode prog_1_method_24_code 137 = .ok (.aload_n 1, 1) := by decide +kernel
theorem d_Store_takesEffect_138 : decode prog_1_method_24_code 138 = .ok (.invokevirtual 216, 3) := by decide +kernel
theorem d_Store_takesEffect_141 : decode prog_1_method_24_code 141 = .ok (.ireturn, 1) := by decide +kernel
theorem d_Store_takesEffect_142 : decode prog_1_method_24_code 142 = .ok (.iconst 0, 1) := by decide +kernel
theorem d_Store_takesEffect_143 : decode prog_1_method_24_code 143 = .ok (.ireturn, 1) := by decide +kernel
def S_Store_takesEffect (n : Nat) (π : Nat → Nat) (s : S3) (L : Nat) : S3 := if (s 5 3 L) = 1 then (S_Store_takePing n π s L) else if (s 5 3 L) = 8 then (S_Client_takeAnswer n π s ((s 5 4 L).toNatClampNeg) L) else if (s 1 6 ((s 5 4 L).toNatClampNeg)) = 0 then (if (s 5 3 L) = 2 then (S_Store_takeView n π s ((s 5 4 L).toNatClampNeg) L) else if (s 5 3 L) = 3 then (S_Store_takeFill n π s ((s 5 4 L).toNatClampNeg) L) else if (s 5 3 L) = 4 then (S_Store_takeFilled n π s ((s 5 4 L).toNatClampNeg) L) else if (s 5 3 L) = 5 then (S_Store_takePass n π s ((s 5 4 L).toNatClampNeg) L) else if (s 5 3 L) = 6 then (S_Store_takePassed n π s ((s 5 4 L).toNatClampNeg) L) else if (s 5 3 L) = 7 then (S_Store_takeAsk n π s ((s 5 4 L).toNatClampNeg) L) else s) else s
def v_Store_takesEffect (n : Nat) (π : Nat → Nat) (s : S3) (L : Nat) : Int32 := if (s 5 3 L) = 1 then (v_Store_takePing n π s L) else if (s 5 3 L) = 8 then (v_Client_takeAnswer n π s ((s 5 4 L).toNatClampNeg) L) else if (s 1 6 ((s 5 4 L).toNatClampNeg)) = 0 then (if (s 5 3 L) = 2 then (v_Store_takeView n π s ((s 5 4 L).toNatClampNeg) L) else if (s 5 3 L) = 3 then (v_Store_takeFill n π s ((s 5 4 L).toNatClampNeg) L) else if (s 5 3 L) = 4 then (v_Store_takeFilled n π s ((s 5 4 L).toNatClampNeg) L) else if (s 5 3 L) = 5 then (v_Store_takePass n π s ((s 5 4 L).toNatClampNeg) L) else if (s 5 3 L) = 6 then (v_Store_takePassed n π s ((s 5 4 L).toNatClampNeg) L) else if (s 5 3 L) = 7 then (v_Store_takeAsk n π s ((s 5 4 L).toNatClampNeg) L) else 0) else 0
theorem zbv_Store_takesEffect {n : Nat} {π : Nat → Nat} {s : S3} {L : Nat} : zb (v_Store_takesEffect n π s L) := by
  unfold v_Store_takesEffect
  repeat' split
  all_goals first | with_reducible exact zb_0 | with_reducible exact zb_1 | with_reducible exact zbv_View_hasBackup | with_reducible exact zbv_Server_isPrimary | with_reducible exact zbv_Server_isPrimaryOf | with_reducible exact zbv_Server_isBackupOf | with_reducible exact zbv_Client_takeAnswer | with_reducible exact zbv_Service_isFresh | with_reducible exact zbv_Post_has | with_reducible exact zbv_Store_isServer | with_reducible exact zbv_Store_isClient | with_reducible exact zbv_Store_isCell | with_reducible exact zbv_Store_takeRead | with_reducible exact zbv_Store_takeWrite | with_reducible exact zbv_Store_takeAsk | with_reducible exact zbv_Store_takePassed | with_reducible exact zbv_Store_takePass | with_reducible exact zbv_Store_takeFilled | with_reducible exact zbv_Store_takeFill | with_reducible exact zbv_Store_takeView | with_reducible exact zbv_Store_takePing
set_option maxHeartbeats 4000000 in
set_option maxRecDepth 100000 in
theorem c_Store_takesEffect {l : Launch} {D : va_G} {K : Nat → ClassId} {ad : Nat → Nat → Nat} {n : Nat} {π : Nat → Nat} {s : S3} {L : Nat} (hJ : zw_J (cRL n) ad) (mL : (5, L) ∈ cRL n) (hw : vp_in (s 4 2 0) 33) (hπ : ∀ j, π j < 34) (hop : opOK s) (hpa : (¬ s 5 3 L = 8 → vp_in (s 5 4 L) n) ∧ (s 5 3 L = 8 → vp_in (s 5 4 L) 3)) : zM l y_Store_takesEffect ws_Store_takesEffect ({ frames := 5, cells := 0, slots := 0, locals := 167 }) D zCl (zTys K) (cRL n) ad [.ref (ad 0 0), .ref (ad 5 L)] (kC K ad n s π) (some (.int (v_Store_takesEffect n π s L))) (kC K ad n (S_Store_takesEffect n π s L) π) := by
  refine zM.of (cc := prog_1_method_24_code) (maxL := 3) (ret := (Option.some Jvm.ClassFile.FieldType.boolean)) (by decide) rfl (Nat.le_of_ble_eq_true rfl) ?_
  intro pP eE U mM bL mT cO S hr hlk hK
  have hts := S.2.2.2.2
  have ht := fun w h => hts w (List.mem_cons_of_mem _ h)
  refine z_aload_n S d_Store_takesEffect_0 rfl 1 rfl 1 rfl ?_
  refine z_get S hK hin_Letter mL kC_5 rfl 3 (Nat.le_of_ble_eq_true rfl) (ht _ w_232) (fun _ h => h) d_Store_takesEffect_1 4 rfl (.int (s 5 3 L)) rfl ?_
  refine z_iconst S d_Store_takesEffect_4 1 (by decide) 5 rfl ?_
  refine z_icmp_ne S d_Store_takesEffect_5 14 (by decide) 8 rfl (fun h1 => ?_) (fun h1 => ?_)
  · refine z_aload_n S d_Store_takesEffect_14 rfl 1 rfl 15 rfl ?_
    refine z_get S hK hin_Letter mL kC_5 rfl 3 (Nat.le_of_ble_eq_true rfl) (ht _ w_232) (fun _ h => h) d_Store_takesEffect_15 18 rfl (.int (s 5 3 L)) rfl ?_
    refine z_bipush S d_Store_takesEffect_18 8 (by decide) 20 rfl ?_
    refine z_icmp_ne S d_Store_takesEffect_20 37 (by decide) 23 rfl (fun h2 => ?_) (fun h2 => ?_)
    · refine z_aload_n S d_Store_takesEffect_37 rfl 0 rfl 38 rfl ?_
      refine z_get S hK hin_Store rl_0 kC_0 rfl 0 (Nat.le_of_ble_eq_true rfl) (ht _ w_278) (fun _ h => h) d_Store_takesEffect_38 41 rfl (.ref (ad 10 0)) rfl ?_
      refine z_aload_n S d_Store_takesEffect_41 rfl 1 rfl 42 rfl ?_
      refine z_get S hK hin_Letter mL kC_5 rfl 4 (Nat.le_of_ble_eq_true rfl) (ht _ w_236) (fun _ h => h) d_Store_takesEffect_42 45 rfl (.int (s 5 4 L)) rfl ?_
      refine z_aald S hK rl_10 3 kC_10 rfl (hpa.1 h2) rfl d_Store_takesEffect_45 46 rfl ?_
      refine z_astore_n S d_Store_takesEffect_46 rfl (Nat.le_of_ble_eq_true rfl) [(2, .ref (ad 1 ((s 5 4 L).toNatClampNeg))), (0, .ref (ad 0 0)), (1, .ref (ad 5 L))] rfl 47 rfl ?_
      refine z_aload_n S d_Store_takesEffect_47 rfl 0 rfl 48 rfl ?_
      refine z_get S hK hin_Server (rl_srv (vp_lt (hpa.1 h2))) kC_1 rfl 6 (Nat.le_of_ble_eq_true rfl) (ht _ w_130) (fun _ h => h) d_Store_takesEffect_48 51 rfl (.int (s 1 6 ((s 5 4 L).toNatClampNeg))) rfl ?_
      refine z_if_eq S d_Store_takesEffect_51 56 (by decide) 54 rfl (fun h3 => ?_) (fun h3 => ?_)
      · refine z_aload_n S d_Store_takesEffect_56 rfl 2 rfl 57 rfl ?_
        refine z_get S hK hin_Letter mL kC_5 rfl 3 (Nat.le_of_ble_eq_true rfl) (ht _ w_232) (fun _ h => h) d_Store_takesEffect_57 60 rfl (.int (s 5 3 L)) rfl ?_
        by_cases h4 : (s 5 3 L) = 2
        · refine z_tableIn S d_Store_takesEffect_60 (by rw [h4]; decide) (by rw [h4]; decide) (by rw [h4]; rfl) 100 (by decide) ?_
          refine z_aload_n S d_Store_takesEffect_100 rfl 1 rfl 101 rfl ?_
          refine z_aload_n S d_Store_takesEffect_101 rfl 0 rfl 102 rfl ?_
          refine z_aload_n S d_Store_takesEffect_102 rfl 2 rfl 103 rfl ?_
          refine z_callV S hK (As := [.ref (ad 1 ((s 5 4 L).toNatClampNeg)), .ref (ad 5 L)]) (rest := []) (c_Store_takeView (i := (s 5 4 L).toNatClampNeg) (L := L) hJ (rl_srv (vp_lt (hpa.1 h2))) mL hw hπ) (cw_Store_takeView hts w_427 rfl rfl ⟨(Nat.le_of_ble_eq_true rfl), (Nat.le_of_ble_eq_true rfl)⟩) rl_0 kC_0 rfl rfl rfl (Nat.le_of_ble_eq_true rfl) d_Store_takesEffect_103 106 rfl [.int (v_Store_takeView n π s ((s 5 4 L).toNatClampNeg) L)] rfl ?_
          exact z_zret S hr (zb_n zbv_Store_takeView) hlk d_Store_takesEffect_106 (by unfold v_Store_takesEffect; simp only [if_neg h1, if_neg h2, if_pos h3, if_pos h4]) (kC_eq (by unfold S_Store_takesEffect; simp only [if_neg h1, if_neg h2, if_pos h3, if_pos h4]))
        by_cases h5 : (s 5 3 L) = 3
        · refine z_tableIn S d_Store_takesEffect_60 (by rw [h5]; decide) (by rw [h5]; decide) (by rw [h5]; rfl) 107 (by decide) ?_
          refine z_aload_n S d_Store_takesEffect_107 rfl 1 rfl 108 rfl ?_
          refine z_aload_n S d_Store_takesEffect_108 rfl 0 rfl 109 rfl ?_
          refine z_aload_n S d_Store_takesEffect_109 rfl 2 rfl 110 rfl ?_
          refine z_callV S hK (As := [.ref (ad 1 ((s 5 4 L).toNatClampNeg)), .ref (ad 5 L)]) (rest := []) (c_Store_takeFill (i := (s 5 4 L).toNatClampNeg) (L := L) hJ (rl_srv (vp_lt (hpa.1 h2))) mL hw hπ) (cw_Store_takeFill hts w_435 rfl rfl ⟨(Nat.le_of_ble_eq_true rfl), (Nat.le_of_ble_eq_true rfl)⟩) rl_0 kC_0 rfl rfl rfl (Nat.le_of_ble_eq_true rfl) d_Store_takesEffect_110 113 rfl [.int (v_Store_takeFill n π s ((s 5 4 L).toNatClampNeg) L)] rfl ?_
          exact z_zret S hr (zb_n zbv_Store_takeFill) hlk d_Store_takesEffect_113 (by unfold v_Store_takesEffect; simp only [if_neg h1, if_neg h2, if_pos h3, if_neg h4, if_pos h5]) (kC_eq (by unfold S_Store_takesEffect; simp only [if_neg h1, if_neg h2, if_pos h3, if_neg h4, if_pos h5]))
        by_cases h6 : (s 5 3 L) = 4
        · refine z_tableIn S d_Store_takesEffect_60 (by rw [h6]; decide) (by rw [h6]; decide) (by rw [h6]; rfl) 114 (by decide) ?_
          refine z_aload_n S d_Store_takesEffect_114 rfl 1 rfl 115 rfl ?_
          refine z_aload_n S d_Store_takesEffect_115 rfl 0 rfl 116 rfl ?_
          refine z_aload_n S d_Store_takesEffect_116 rfl 2 rfl 117 rfl ?_
          refine z_callV S hK (As := [.ref (ad 1 ((s 5 4 L).toNatClampNeg)), .ref (ad 5 L)]) (rest := []) (c_Store_takeFilled (i := (s 5 4 L).toNatClampNeg) (L := L) hJ (rl_srv (vp_lt (hpa.1 h2))) mL) (cw_Store_takeFilled hts w_439 rfl rfl ⟨(Nat.le_of_ble_eq_true rfl), (Nat.le_of_ble_eq_true rfl)⟩) rl_0 kC_0 rfl rfl rfl (Nat.le_of_ble_eq_true rfl) d_Store_takesEffect_117 120 rfl [.int (v_Store_takeFilled n π s ((s 5 4 L).toNatClampNeg) L)] rfl ?_
          exact z_zret S hr (zb_n zbv_Store_takeFilled) hlk d_Store_takesEffect_120 (by unfold v_Store_takesEffect; simp only [if_neg h1, if_neg h2, if_pos h3, if_neg h4, if_neg h5, if_pos h6]) (kC_eq (by unfold S_Store_takesEffect; simp only [if_neg h1, if_neg h2, if_pos h3, if_neg h4, if_neg h5, if_pos h6]))
        by_cases h7 : (s 5 3 L) = 5
        · refine z_tableIn S d_Store_takesEffect_60 (by rw [h7]; decide) (by rw [h7]; decide) (by rw [h7]; rfl) 121 (by decide) ?_
          refine z_aload_n S d_Store_takesEffect_121 rfl 1 rfl 122 rfl ?_
          refine z_aload_n S d_Store_takesEffect_122 rfl 0 rfl 123 rfl ?_
          refine z_aload_n S d_Store_takesEffect_123 rfl 2 rfl 124 rfl ?_
          refine z_callV S hK (As := [.ref (ad 1 ((s 5 4 L).toNatClampNeg)), .ref (ad 5 L)]) (rest := []) (c_Store_takePass (i := (s 5 4 L).toNatClampNeg) (L := L) hJ (rl_srv (vp_lt (hpa.1 h2))) mL hw hπ hop) (cw_Store_takePass hts w_447 rfl rfl ⟨(Nat.le_of_ble_eq_true rfl), (Nat.le_of_ble_eq_true rfl)⟩) rl_0 kC_0 rfl rfl rfl (Nat.le_of_ble_eq_true rfl) d_Store_takesEffect_124 127 rfl [.int (v_Store_takePass n π s ((s 5 4 L).toNatClampNeg) L)] rfl ?_
          exact z_zret S hr (zb_n zbv_Store_takePass) hlk d_Store_takesEffect_127 (by unfold v_Store_takesEffect; simp only [if_neg h1, if_neg h2, if_pos h3, if_neg h4, if_neg h5, if_neg h6, if_pos h7]) (kC_eq (by unfold S_Store_takesEffect; simp only [if_neg h1, if_neg h2, if_pos h3, if_neg h4, if_neg h5, if_neg h6, if_pos h7]))
        by_cases h8 : (s 5 3 L) = 6
        · refine z_tableIn S d_Store_takesEffect_60 (by rw [h8]; decide) (by rw [h8]; decide) (by rw [h8]; rfl) 128 (by decide) ?_
          refine z_aload_n S d_Store_takesEffect_128 rfl 1 rfl 129 rfl ?_
          refine z_aload_n S d_Store_takesEffect_129 rfl 0 rfl 130 rfl ?_
          refine z_aload_n S d_Store_takesEffect_130 rfl 2 rfl 131 rfl ?_
          refine z_callV S hK (As := [.ref (ad 1 ((s 5 4 L).toNatClampNeg)), .ref (ad 5 L)]) (rest := []) (c_Store_takePassed (i := (s 5 4 L).toNatClampNeg) (L := L) hJ (rl_srv (vp_lt (hpa.1 h2))) mL hw hπ hop) (cw_Store_takePassed hts w_459 rfl rfl ⟨(Nat.le_of_ble_eq_true rfl), (Nat.le_of_ble_eq_true rfl)⟩) rl_0 kC_0 rfl rfl rfl (Nat.le_of_ble_eq_true rfl) d_Store_takesEffect_131 134 rfl [.int (v_Store_takePassed n π s ((s 5 4 L).toNatClampNeg) L)] rfl ?_
          exact z_zret S hr (zb_n zbv_Store_takePassed) hlk d_Store_takesEffect_134 (by unfold v_Store_takesEffect; simp only [if_neg h1, if_neg h2, if_pos h3, if_neg h4, if_neg h5, if_neg h6, if_neg h7, if_pos h8]) (kC_eq (by unfold S_Store_takesEffect; simp only [if_neg h1, if_neg h2, if_pos h3, if_neg h4, if_neg h5, if_neg h6, if_neg h7, if_pos h8]))
        by_cases h9 : (s 5 3 L) = 7
        · refine z_tableIn S d_Store_takesEffect_60 (by rw [h9]; decide) (by rw [h9]; decide) (by rw [h9]; rfl) 135 (by decide) ?_
          refine z_aload_n S d_Store_takesEffect_135 rfl 1 rfl 136 rfl ?_
          refine z_aload_n S d_Store_takesEffect_136 rfl 0 rfl 137 rfl ?_
          refine z_aload_n S d_Store_takesEffect_137 rfl 2 rfl 138 rfl ?_
          refine z_callV S hK (As := [.ref (ad 1 ((s 5 4 L).toNatClampNeg)), .ref (ad 5 L)]) (rest := []) (c_Store_takeAsk (i := (s 5 4 L).toNatClampNeg) (L := L) hJ (rl_srv (vp_lt (hpa.1 h2))) mL hw hπ hop) (cw_Store_takeAsk hts w_471 rfl rfl ⟨(Nat.le_of_ble_eq_true rfl), (Nat.le_of_ble_eq_true rfl)⟩) rl_0 kC_0 rfl rfl rfl (Nat.le_of_ble_eq_true rfl) d_Store_takesEffect_138 141 rfl [.int (v_Store_takeAsk n π s ((s 5 4 L).toNatClampNeg) L)] rfl ?_
          exact z_zret S hr (zb_n zbv_Store_takeAsk) hlk d_Store_takesEffect_141 (by unfold v_Store_takesEffect; simp only [if_neg h1, if_neg h2, if_pos h3, if_neg h4, if_neg h5, if_neg h6, if_neg h7, if_neg h8, if_pos h9]) (kC_eq (by unfold S_Store_takesEffect; simp only [if_neg h1, if_neg h2, if_pos h3, if_neg h4, if_neg h5, if_neg h6, if_neg h7, if_neg h8, if_pos h9]))
        refine z_tableOut S d_Store_takesEffect_60 (z_sw2_7 h4 h5 h6 h7 h8 h9) 142 (by decide) ?_
        refine z_iconst S d_Store_takesEffect_142 0 (by decide) 143 rfl ?_
        exact z_zret S hr (zb_n zb_0) hlk d_Store_takesEffect_143 (by unfold v_Store_takesEffect; simp only [if_neg h1, if_neg h2, if_pos h3, if_neg h4, if_neg h5, if_neg h6, if_neg h7, if_neg h8, if_neg h9]) (kC_eq (by unfold S_Store_takesEffect; simp only [if_neg h1, if_neg h2, if_pos h3, if_neg h4, if_neg h5, if_neg h6, if_neg h7, if_neg h8, if_neg h9]))
      · refine z_iconst S d_Store_takesEffect_54 0 (by decide) 55 rfl ?_
        exact z_zret S hr (zb_n zb_0) hlk d_Store_takesEffect_55 (by unfold v_Store_takesEffect; simp only [if_neg h1, if_neg h2, if_neg h3]) (kC_eq (by unfold S_Store_takesEffect; simp only [if_neg h1, if_neg h2, if_neg h3]))
    · refine z_aload_n S d_Store_takesEffect_23 rfl 0 rfl 24 rfl ?_
      refine z_get S hK hin_Store rl_0 kC_0 rfl 1 (Nat.le_of_ble_eq_true rfl) (ht _ w_279) (fun _ h => h) d_Store_takesEffect_24 27 rfl (.ref (ad 11 0)) rfl ?_
      refine z_aload_n S d_Store_takesEffect_27 rfl 1 rfl 28 rfl ?_
      refine z_get S hK hin_Letter mL kC_5 rfl 4 (Nat.le_of_ble_eq_true rfl) (ht _ w_236) (fun _ h => h) d_Store_takesEffect_28 31 rfl (.int (s 5 4 L)) rfl ?_
      refine z_aald S hK rl_11 4 kC_11 rfl (hpa.2 h2) rfl d_Store_takesEffect_31 32 rfl ?_
      refine z_aload_n S d_Store_takesEffect_32 rfl 1 rfl 33 rfl ?_
      refine z_callV S hK (As := [.ref (ad 5 L)]) (rest := []) (c_Client_takeAnswer (c := (s 5 4 L).toNatClampNeg) (L := L) hJ (rl_cli (vp_lt (hpa.2 h2))) mL) (cw_Client_takeAnswer hts w_423 rfl rfl ⟨(Nat.le_of_ble_eq_true rfl), (Nat.le_of_ble_eq_true rfl)⟩) (rl_cli (vp_lt (hpa.2 h2))) kC_2 rfl rfl rfl (Nat.le_of_ble_eq_true rfl) d_Store_takesEffect_33 36 rfl [.int (v_Client_takeAnswer n π s ((s 5 4 L).toNatClampNeg) L)] rfl ?_
      exact z_zret S hr (zb_n zbv_Client_takeAnswer) hlk d_Store_takesEffect_36 (by unfold v_Store_takesEffect; simp only [if_neg h1, if_pos h2]) (kC_eq (by unfold S_Store_takesEffect; simp only [if_neg h1, if_pos h2]))
  · refine z_aload_n S d_Store_takesEffect_8 rfl 0 rfl 9 rfl ?_
    refine z_aload_n S d_Store_takesEffect_9 rfl 1 rfl 10 rfl ?_
    refine z_callV S hK (As := [.ref (ad 5 L)]) (rest := []) (c_Store_takePing (L := L) hJ mL hw hπ (hpa.1 (by rw [h1]; decide))) (cw_Store_takePing hts w_415 rfl rfl ⟨(Nat.le_of_ble_eq_true rfl), (Nat.le_of_ble_eq_true rfl)⟩) rl_0 kC_0 rfl rfl rfl (Nat.le_of_ble_eq_true rfl) d_Store_takesEffect_10 13 rfl [.int (v_Store_takePing n π s L)] rfl ?_
    exact z_zret S hr (zb_n zbv_Store_takePing) hlk d_Store_takesEffect_13 (by unfold v_Store_takesEffect; simp only [if_pos h1]) (kC_eq (by unfold S_Store_takesEffect; simp only [if_pos h1]))
end
section
theorem d_Store_advance_0 : decode prog_1_method_2_code 0 = .ok (.iload_n 1, 1) := by decide +kernel
theorem d_Store_advance_1 : decode prog_1_method_2_code 1 = .ok (.ifCond .lt 10, 3) := by decide +kernel
theorem d_Store_advance_4 : decode prog_1_method_2_code 4 = .ok (.iload_n 1, 1) := by decide +kernel
theorem d_Store_advance_5 : decode prog_1_method_2_code 5 = .ok (.sipush 1000, 3) := by decide +kernel
theorem d_Store_advance_8 : decode prog_1_method_2_code 8 = .ok (.if_icmp .le 5, 3) := by decide +kernel
theorem d_Store_advance_11 : decode prog_1_method_2_code 11 = .ok (.iconst (-1), 1) := by decide +kernel
theorem d_Store_advance_12 : decode prog_1_method_2_code 12 = .ok (.ireturn, 1) := by decide +kernel
theorem d_Store_advance_13 : decode prog_1_method_2_code 13 = .ok (.aload_n 0, 1) := by decide +kernel
theorem d_Store_advance_14 : decode prog_1_method_2_code 14 = .ok (.dup, 1) := by decide +kernel
theorem d_Store_advance_15 : decode prog_1_method_2_code 15 = .ok (.getfield 48, 3) := by decide +kernel
theorem d_Store_advance_18 : decode prog_1_method_2_code 18 = .ok (.iload_n 1, 1) := by decide +kernel
theorem d_Store_advance_19 : decode prog_1_method_2_code 19 = .ok (.iadd, 1) := by decide +kernel
theorem d_Store_advance_20 : decode prog_1_method_2_code 20 = .ok (.putfield 48, 3) := by decide +kernel
theorem d_Store_advance_23 : decode prog_1_method_2_code 23 = .ok (.aload_n 0, 1) := by decide +kernel
theorem d_Store_advance_24 : decode prog_1_method_2_code 24 = .ok (.getfield 48, 3) := by decide +kernel
theorem d_Store_advance_27 : decode prog_1_method_2_code 27 = .ok (.ireturn, 1) := by decide +kernel
def S_Store_advance (n : Nat) (π : Nat → Nat) (s : S3) (d : Int32) : S3 := if d < 0 then s else if d ≤ 1000 then (u3 s 0 4 0 ((s 0 4 0) + d)) else s
def v_Store_advance (n : Nat) (π : Nat → Nat) (s : S3) (d : Int32) : Int32 := if d < 0 then (-1) else if d ≤ 1000 then ((s 0 4 0) + d) else (-1)
set_option maxHeartbeats 4000000 in
set_option maxRecDepth 100000 in
theorem c_Store_advance {l : Launch} {D : va_G} {K : Nat → ClassId} {ad : Nat → Nat → Nat} {n : Nat} {π : Nat → Nat} {s : S3} {d : Int32} (hJ : zw_J (cRL n) ad) : zM l y_Store_advance ws_Store_advance ({ frames := 0, cells := 0, slots := 0, locals := 0 }) D zCl (zTys K) (cRL n) ad [.ref (ad 0 0), .int d] (kC K ad n s π) (some (.int (v_Store_advance n π s d))) (kC K ad n (S_Store_advance n π s d) π) := by
  refine zM.of (cc := prog_1_method_2_code) (maxL := 2) (ret := (Option.some Jvm.ClassFile.FieldType.int)) (by decide) rfl (Nat.le_of_ble_eq_true rfl) ?_
  intro pP eE U mM bL mT cO S hr hlk hK
  have hts := S.2.2.2.2
  have ht := fun w h => hts w (List.mem_cons_of_mem _ h)
  refine z_iload_n S d_Store_advance_0 rfl 1 rfl 1 rfl ?_
  refine z_if_lt S d_Store_advance_1 11 (by decide) 4 rfl (fun h1 => ?_) (fun h1 => ?_)
  · refine z_iconst S d_Store_advance_11 (-1) (by decide) 12 rfl ?_
    exact z_iret S hr hlk d_Store_advance_12 (by unfold v_Store_advance; simp only [if_pos h1]) (kC_eq (by unfold S_Store_advance; simp only [if_pos h1]))
  · refine z_iload_n S d_Store_advance_4 rfl 1 rfl 5 rfl ?_
    refine z_sipush S d_Store_advance_5 1000 (by decide) 8 rfl ?_
    refine z_icmp_le S d_Store_advance_8 13 (by decide) 11 rfl (fun h2 => ?_) (fun h2 => ?_)
    · refine z_aload_n S d_Store_advance_13 rfl 0 rfl 14 rfl ?_
      refine z_dup S d_Store_advance_14 rfl 15 rfl ?_
      refine z_get S hK hin_Store rl_0 kC_0 rfl 4 (Nat.le_of_ble_eq_true rfl) (ht _ w_282) (fun _ h => h) d_Store_advance_15 18 rfl (.int (s 0 4 0)) rfl ?_
      refine z_iload_n S d_Store_advance_18 rfl 1 rfl 19 rfl ?_
      refine z_iadd S d_Store_advance_19 20 rfl ?_
      refine z_put S hJ hK hin_Store t_Store ok_Store nm_Store rl_0 kC_0 rfl 4 (Nat.le_of_ble_eq_true rfl) (ht _ w_282) (fun _ h => h) rfl rfl rfl (Nat.le_of_ble_eq_true rfl) up_0_4 d_Store_advance_20 23 rfl ?_
      refine z_aload_n S d_Store_advance_23 rfl 0 rfl 24 rfl ?_
      refine z_get S hK hin_Store rl_0 kC_0 rfl 4 (Nat.le_of_ble_eq_true rfl) (ht _ w_282) (fun _ h => h) d_Store_advance_24 27 rfl (.int ((s 0 4 0) + d)) rfl ?_
      exact z_iret S hr hlk d_Store_advance_27 (by unfold v_Store_advance; simp only [if_neg h1, if_pos h2]) (kC_eq (by unfold S_Store_advance; simp only [if_neg h1, if_pos h2]))
    · refine z_iconst S d_Store_advance_11 (-1) (by decide) 12 rfl ?_
      exact z_iret S hr hlk d_Store_advance_12 (by unfold v_Store_advance; simp only [if_neg h1, if_neg h2]) (kC_eq (by unfold S_Store_advance; simp only [if_neg h1, if_neg h2]))
theorem d_Store_skew_0 : decode prog_1_method_3_code 0 = .ok (.aload_n 0, 1) := by decide +kernel
theorem d_Store_skew_1 : decode prog_1_method_3_code 1 = .ok (.iload_n 1, 1) := by decide +kernel
theorem d_Store_skew_2 : decode prog_1_method_3_code 2 = .ok (.invokevirtual 52, 3) := by decide +kernel
theorem d_Store_skew_5 : decode prog_1_method_3_code 5 = .ok (.ifCond .eq 15, 3) := by decide +kernel
theorem d_Store_skew_8 : decode prog_1_method_3_code 8 = .ok (.iload_n 2, 1) := by decide +kernel
theorem d_Store_skew_9 : decode prog_1_method_3_code 9 = .ok (.bipush (-10), 2) := by decide +kernel
theorem d_Store_skew_11 : decode prog_1_method_3_code 11 = .ok (.if_icmp .lt 9, 3) := by decide +kernel
theorem d_Store_skew_14 : decode prog_1_method_3_code 14 = .ok (.iload_n 2, 1) := by decide +kernel
theorem d_Store_skew_15 : decode prog_1_method_3_code 15 = .ok (.bipush 10, 2) := by decide +kernel
theorem d_Store_skew_17 : decode prog_1_method_3_code 17 = .ok (.if_icmp .le 5, 3) := by decide +kernel
theorem d_Store_skew_20 : decode prog_1_method_3_code 20 = .ok (.iconst 0, 1) := by decide +kernel
theorem d_Store_skew_21 : decode prog_1_method_3_code 21 = .ok (.ireturn, 1) := by decide +kernel
theorem d_Store_skew_22 : decode prog_1_method_3_code 22 = .ok (.aload_n 0, 1) := by decide +kernel
theorem d_Store_skew_23 : decode prog_1_method_3_code 23 = .ok (.getfield 20, 3) := by decide +kernel
theorem d_Store_skew_26 : decode prog_1_method_3_code 26 = .ok (.iload_n 1, 1) := by decide +kernel
theorem d_Store_skew_27 : decode prog_1_method_3_code 27 = .ok (.aaload, 1) := by decide +kernel
theorem d_Store_skew_28 : decode prog_1_method_3_code 28 = .ok (.iload_n 2, 1) := by decide +kernel
theorem d_Store_skew_29 : decode prog_1_method_3_code 29 = .ok (.putfield 56, 3) := by decide +kernel
theorem d_Store_skew_32 : decode prog_1_method_3_code 32 = .ok (.iconst 1, 1) := by decide +kernel
theorem d_Store_skew_33 : decode prog_1_method_3_code 33 = .ok (.ireturn, 1) := by decide +kernel
def S_Store_skew (n : Nat) (π : Nat → Nat) (s : S3) (x : Int32) (o : Int32) : S3 := if (v_Store_isServer n x) = 0 then s else if o < (-10) then s else if o ≤ 10 then (u3 s 1 4 x.toNatClampNeg o) else s
def v_Store_skew (n : Nat) (π : Nat → Nat) (s : S3) (x : Int32) (o : Int32) : Int32 := if (v_Store_isServer n x) = 0 then 0 else if o < (-10) then 0 else if o ≤ 10 then 1 else 0
theorem zbv_Store_skew {n : Nat} {π : Nat → Nat} {s : S3} {x : Int32} {o : Int32} : zb (v_Store_skew n π s x o) := by
  unfold v_Store_skew
  repeat' split
  all_goals first | with_reducible exact zb_0 | with_reducible exact zb_1 | with_reducible exact zbv_View_hasBackup | with_reducible exact zbv_Server_isPrimary | with_reducible exact zbv_Server_isPrimaryOf | with_reducible exact zbv_Server_isBackupOf | with_reducible exact zbv_Client_takeAnswer | with_reducible exact zbv_Service_isFresh | with_reducible exact zbv_Post_has | with_reducible exact zbv_Store_isServer | with_reducible exact zbv_Store_isClient | with_reducible exact zbv_Store_isCell | with_reducible exact zbv_Store_takeRead | with_reducible exact zbv_Store_takeWrite | with_reducible exact zbv_Store_takeAsk | with_reducible exact zbv_Store_takePassed | with_reducible exact zbv_Store_takePass | with_reducible exact zbv_Store_takeFilled | with_reducible exact zbv_Store_takeFill | with_reducible exact zbv_Store_takeView | with_reducible exact zbv_Store_takePing | with_reducible exact zbv_Store_takesEffect
set_option maxHeartbeats 4000000 in
set_option maxRecDepth 100000 in
theorem c_Store_skew {l : Launch} {D : va_G} {K : Nat → ClassId} {ad : Nat → Nat → Nat} {n : Nat} {π : Nat → Nat} {s : S3} {x o : Int32} (hJ : zw_J (cRL n) ad) (hn5 : n ≤ 5) : zM l y_Store_skew ws_Store_skew ({ frames := 1, cells := 0, slots := 0, locals := 21 }) D zCl (zTys K) (cRL n) ad [.ref (ad 0 0), .int x, .int o] (kC K ad n s π) (some (.int (v_Store_skew n π s x o))) (kC K ad n (S_Store_skew n π s x o) π) := by
  refine zM.of (cc := prog_1_method_3_code) (maxL := 3) (ret := (Option.some Jvm.ClassFile.FieldType.boolean)) (by decide) rfl (Nat.le_of_ble_eq_true rfl) ?_
  intro pP eE U mM bL mT cO S hr hlk hK
  have hts := S.2.2.2.2
  have ht := fun w h => hts w (List.mem_cons_of_mem _ h)
  refine z_aload_n S d_Store_skew_0 rfl 0 rfl 1 rfl ?_
  refine z_iload_n S d_Store_skew_1 rfl 1 rfl 2 rfl ?_
  refine z_callV S hK (As := [.int x]) (rest := []) (c_Store_isServer (x := x) hJ) (cw_Store_isServer hts w_302 rfl rfl ⟨(Nat.le_of_ble_eq_true rfl), (Nat.le_of_ble_eq_true rfl)⟩) rl_0 kC_0 rfl rfl rfl (Nat.le_of_ble_eq_true rfl) d_Store_skew_2 5 rfl [.int (v_Store_isServer n x)] rfl ?_
  refine z_if_eq S d_Store_skew_5 20 (by decide) 8 rfl (fun h1 => ?_) (fun h1 => ?_)
  · refine z_iconst S d_Store_skew_20 0 (by decide) 21 rfl ?_
    exact z_zret S hr (zb_n zb_0) hlk d_Store_skew_21 (by unfold v_Store_skew; simp only [if_pos h1]) (kC_eq (by unfold S_Store_skew; simp only [if_pos h1]))
  · refine z_iload_n S d_Store_skew_8 rfl 2 rfl 9 rfl ?_
    refine z_bipush S d_Store_skew_9 (-10) (by decide) 11 rfl ?_
    refine z_icmp_lt S d_Store_skew_11 20 (by decide) 14 rfl (fun h2 => ?_) (fun h2 => ?_)
    · refine z_iconst S d_Store_skew_20 0 (by decide) 21 rfl ?_
      exact z_zret S hr (zb_n zb_0) hlk d_Store_skew_21 (by unfold v_Store_skew; simp only [if_neg h1, if_pos h2]) (kC_eq (by unfold S_Store_skew; simp only [if_neg h1, if_pos h2]))
    · refine z_iload_n S d_Store_skew_14 rfl 2 rfl 15 rfl ?_
      refine z_bipush S d_Store_skew_15 10 (by decide) 17 rfl ?_
      refine z_icmp_le S d_Store_skew_17 22 (by decide) 20 rfl (fun h3 => ?_) (fun h3 => ?_)
      · refine z_aload_n S d_Store_skew_22 rfl 0 rfl 23 rfl ?_
        refine z_get S hK hin_Store rl_0 kC_0 rfl 0 (Nat.le_of_ble_eq_true rfl) (ht _ w_278) (fun _ h => h) d_Store_skew_23 26 rfl (.ref (ad 10 0)) rfl ?_
        refine z_iload_n S d_Store_skew_26 rfl 1 rfl 27 rfl ?_
        refine z_aald S hK rl_10 3 kC_10 rfl (in_srv hn5 h1) rfl d_Store_skew_27 28 rfl ?_
        refine z_iload_n S d_Store_skew_28 rfl 2 rfl 29 rfl ?_
        refine z_put S hJ hK hin_Server t_Server ok_Server nm_Server (rl_srv (vp_lt (in_srv hn5 h1))) kC_1 rfl 4 (Nat.le_of_ble_eq_true rfl) (ht _ w_126) (fun _ h => h) rfl rfl rfl (Nat.le_of_ble_eq_true rfl) up_1_4 d_Store_skew_29 32 rfl ?_
        refine z_iconst S d_Store_skew_32 1 (by decide) 33 rfl ?_
        exact z_zret S hr (zb_n zb_1) hlk d_Store_skew_33 (by unfold v_Store_skew; simp only [if_neg h1, if_neg h2, if_pos h3]) (kC_eq (by unfold S_Store_skew; simp only [if_neg h1, if_neg h2, if_pos h3]))
      · refine z_iconst S d_Store_skew_20 0 (by decide) 21 rfl ?_
        exact z_zret S hr (zb_n zb_0) hlk d_Store_skew_21 (by unfold v_Store_skew; simp only [if_neg h1, if_neg h2, if_neg h3]) (kC_eq (by unfold S_Store_skew; simp only [if_neg h1, if_neg h2, if_neg h3]))
theorem d_Store_ping_0 : decode prog_1_method_4_code 0 = .ok (.aload_n 0, 1) := by decide +kernel
theorem d_Store_ping_1 : decode prog_1_method_4_code 1 = .ok (.iload_n 1, 1) := by decide +kernel
theorem d_Store_ping_2 : decode prog_1_method_4_code 2 = .ok (.invokevirtual 52, 3) := by decide +kernel
theorem d_Store_ping_5 : decode prog_1_method_4_code 5 = .ok (.ifCond .eq 15, 3) := by decide +kernel
theorem d_Store_ping_8 : decode prog_1_method_4_code 8 = .ok (.aload_n 0, 1) := by decide +kernel
theorem d_Store_ping_9 : decode prog_1_method_4_code 9 = .ok (.getfield 20, 3) := by decide +kernel
theorem d_Store_ping_12 : decode prog_1_method_4_code 12 = .ok (.iload_n 1, 1) := by decide +kernel
theorem d_Store_ping_13 : decode prog_1_method_4_code 13 = .ok (.aaload, 1) := by decide +kernel
theorem d_Store_ping_14 : decode prog_1_method_4_code 14 = .ok (.getfield 59, 3) := by decide +kernel
theorem d_Store_ping_17 : decode prog_1_method_4_code 17 = .ok (.ifCond .eq 5, 3) := by decide +kernel
theorem d_Store_ping_20 : decode prog_1_method_4_code 20 = .ok (.iconst 0, 1) := by decide +kernel
theorem d_Store_ping_21 : decode prog_1_method_4_code 21 = .ok (.ireturn, 1) := by decide +kernel
theorem d_Store_ping_22 : decode prog_1_method_4_code 22 = .ok (.aload_n 0, 1) := by decide +kernel
theorem d_Store_ping_23 : decode prog_1_method_4_code 23 = .ok (.getfield 20, 3) := by decide +kernel
theorem d_Store_ping_26 : decode prog_1_method_4_code 26 = .ok (.iload_n 1, 1) := by decide +kernel
theorem d_Store_ping_27 : decode prog_1_method_4_code 27 = .ok (.aaload, 1) := by decide +kernel
theorem d_Store_ping_28 : decode prog_1_method_4_code 28 = .ok (.astore_n 2, 1) := by decide +kernel
theorem d_Store_ping_29 : decode prog_1_method_4_code 29 = .ok (.aload_n 0, 1) := by decide +kernel
theorem d_Store_ping_30 : decode prog_1_method_4_code 30 = .ok (.getfield 44, 3) := by decide +kernel
theorem d_Store_ping_33 : decode prog_1_method_4_code 33 = .ok (.iconst 1, 1) := by decide +kernel
theorem d_Store_ping_34 : decode prog_1_method_4_code 34 = .ok (.iload_n 1, 1) := by decide +kernel
theorem d_Store_ping_35 : decode prog_1_method_4_code 35 = .ok (.invokevirtual 63, 3) := by decide +kernel
theorem d_Store_ping_38 : decode prog_1_method_4_code 38 = .ok (.astore_n 3, 1) := by decide +kernel
theorem d_Store_ping_39 : decode prog_1_method_4_code 39 = .ok (.aload_n 3, 1) := by decide +kernel
theorem d_Store_ping_40 : decode prog_1_method_4_code 40 = .ok (.aload_n 2, 1) := by decide +kernel
theorem d_Store_ping_41 : decode prog_1_method_4_code 41 = .ok (.invokevirtual 67, 3) := by decide +kernel
theorem d_Store_ping_44 : decode prog_1_method_4_code 44 = .ok (.putfield 71, 3) := by decide +kernel
theorem d_Store_ping_47 : decode prog_1_method_4_code 47 = .ok (.aload_n 3, 1) := by decide +kernel
theorem d_Store_ping_48 : decode prog_1_method_4_code 48 = .ok (.aload_n 0, 1) := by decide +kernel
theorem d_Store_ping_49 : decode prog_1_method_4_code 49 = .ok (.aload_n 2, 1) := by decide +kernel
theorem d_Store_ping_50 : decode prog_1_method_4_code 50 = .ok (.invokevirtual 76, 3) := by decide +kernel
theorem d_Store_ping_53 : decode prog_1_method_4_code 53 = .ok (.putfield 80, 3) := by decide +kernel
theorem d_Store_ping_56 : decode prog_1_method_4_code 56 = .ok (.iconst 1, 1) := by decide +kernel
theorem d_Store_ping_57 : decode prog_1_method_4_code 57 = .ok (.ireturn, 1) := by decide +kernel
def S_Store_ping (n : Nat) (π : Nat → Nat) (s : S3) (x : Int32) : S3 := if (v_Store_isServer n x) = 0 then s else if (s 1 6 x.toNatClampNeg) = 0 then (u3 (u3 (S_Post_next π s 1 x) 5 5 (nxL (s 4 2 0) π) (v_Server_confirmedNumber (s 6 1 x.toNatClampNeg) (s 1 0 x.toNatClampNeg) (s 6 0 x.toNatClampNeg) (s 1 7 x.toNatClampNeg))) 5 6 (nxL (s 4 2 0) π) ((s 0 4 0) + (s 1 4 x.toNatClampNeg))) else s
def v_Store_ping (n : Nat) (π : Nat → Nat) (s : S3) (x : Int32) : Int32 := if (v_Store_isServer n x) = 0 then 0 else if (s 1 6 x.toNatClampNeg) = 0 then 1 else 0
theorem zbv_Store_ping {n : Nat} {π : Nat → Nat} {s : S3} {x : Int32} : zb (v_Store_ping n π s x) := by
  unfold v_Store_ping
  repeat' split
  all_goals first | with_reducible exact zb_0 | with_reducible exact zb_1 | with_reducible exact zbv_View_hasBackup | with_reducible exact zbv_Server_isPrimary | with_reducible exact zbv_Server_isPrimaryOf | with_reducible exact zbv_Server_isBackupOf | with_reducible exact zbv_Client_takeAnswer | with_reducible exact zbv_Service_isFresh | with_reducible exact zbv_Post_has | with_reducible exact zbv_Store_isServer | with_reducible exact zbv_Store_isClient | with_reducible exact zbv_Store_isCell | with_reducible exact zbv_Store_takeRead | with_reducible exact zbv_Store_takeWrite | with_reducible exact zbv_Store_takeAsk | with_reducible exact zbv_Store_takePassed | with_reducible exact zbv_Store_takePass | with_reducible exact zbv_Store_takeFilled | with_reducible exact zbv_Store_takeFill | with_reducible exact zbv_Store_takeView | with_reducible exact zbv_Store_takePing | with_reducible exact zbv_Store_takesEffect | with_reducible exact zbv_Store_skew
set_option maxHeartbeats 4000000 in
set_option maxRecDepth 100000 in
theorem c_Store_ping {l : Launch} {D : va_G} {K : Nat → ClassId} {ad : Nat → Nat → Nat} {n : Nat} {π : Nat → Nat} {s : S3} {x : Int32} (hJ : zw_J (cRL n) ad) (hn5 : n ≤ 5) (hw : vp_in (s 4 2 0) 33) (hπ : ∀ j, π j < 34) : zM l y_Store_ping ws_Store_ping ({ frames := 2, cells := 0, slots := 0, locals := 40 }) D zCl (zTys K) (cRL n) ad [.ref (ad 0 0), .int x] (kC K ad n s π) (some (.int (v_Store_ping n π s x))) (kC K ad n (S_Store_ping n π s x) π) := by
  refine zM.of (cc := prog_1_method_4_code) (maxL := 4) (ret := (Option.some Jvm.ClassFile.FieldType.boolean)) (by decide) rfl (Nat.le_of_ble_eq_true rfl) ?_
  intro pP eE U mM bL mT cO S hr hlk hK
  have hts := S.2.2.2.2
  have ht := fun w h => hts w (List.mem_cons_of_mem _ h)
  refine z_aload_n S d_Store_ping_0 rfl 0 rfl 1 rfl ?_
  refine z_iload_n S d_Store_ping_1 rfl 1 rfl 2 rfl ?_
  refine z_callV S hK (As := [.int x]) (rest := []) (c_Store_isServer (x := x) hJ) (cw_Store_isServer hts w_302 rfl rfl ⟨(Nat.le_of_ble_eq_true rfl), (Nat.le_of_ble_eq_true rfl)⟩) rl_0 kC_0 rfl rfl rfl (Nat.le_of_ble_eq_true rfl) d_Store_ping_2 5 rfl [.int (v_Store_isServer n x)] rfl ?_
  refine z_if_eq S d_Store_ping_5 20 (by decide) 8 rfl (fun h1 => ?_) (fun h1 => ?_)
  · refine z_iconst S d_Store_ping_20 0 (by decide) 21 rfl ?_
    exact z_zret S hr (zb_n zb_0) hlk d_Store_ping_21 (by unfold v_Store_ping; simp only [if_pos h1]) (kC_eq (by unfold S_Store_ping; simp only [if_pos h1]))
  · refine z_aload_n S d_Store_ping_8 rfl 0 rfl 9 rfl ?_
    refine z_get S hK hin_Store rl_0 kC_0 rfl 0 (Nat.le_of_ble_eq_true rfl) (ht _ w_278) (fun _ h => h) d_Store_ping_9 12 rfl (.ref (ad 10 0)) rfl ?_
    refine z_iload_n S d_Store_ping_12 rfl 1 rfl 13 rfl ?_
    refine z_aald S hK rl_10 3 kC_10 rfl (in_srv hn5 h1) rfl d_Store_ping_13 14 rfl ?_
    refine z_get S hK hin_Server (rl_srv (vp_lt (in_srv hn5 h1))) kC_1 rfl 6 (Nat.le_of_ble_eq_true rfl) (ht _ w_130) (fun _ h => h) d_Store_ping_14 17 rfl (.int (s 1 6 x.toNatClampNeg)) rfl ?_
    refine z_if_eq S d_Store_ping_17 22 (by decide) 20 rfl (fun h2 => ?_) (fun h2 => ?_)
    · refine z_aload_n S d_Store_ping_22 rfl 0 rfl 23 rfl ?_
      refine z_get S hK hin_Store rl_0 kC_0 rfl 0 (Nat.le_of_ble_eq_true rfl) (ht _ w_278) (fun _ h => h) d_Store_ping_23 26 rfl (.ref (ad 10 0)) rfl ?_
      refine z_iload_n S d_Store_ping_26 rfl 1 rfl 27 rfl ?_
      refine z_aald S hK rl_10 3 kC_10 rfl (in_srv hn5 h1) rfl d_Store_ping_27 28 rfl ?_
      refine z_astore_n S d_Store_ping_28 rfl (Nat.le_of_ble_eq_true rfl) [(2, .ref (ad 1 x.toNatClampNeg)), (0, .ref (ad 0 0)), (1, .int x)] rfl 29 rfl ?_
      refine z_aload_n S d_Store_ping_29 rfl 1 rfl 30 rfl ?_
      refine z_get S hK hin_Store rl_0 kC_0 rfl 3 (Nat.le_of_ble_eq_true rfl) (ht _ w_281) (fun _ h => h) d_Store_ping_30 33 rfl (.ref (ad 4 0)) rfl ?_
      refine z_iconst S d_Store_ping_33 1 (by decide) 34 rfl ?_
      refine z_iload_n S d_Store_ping_34 rfl 2 rfl 35 rfl ?_
      refine z_callV S hK (As := [.int 1, .int x]) (rest := []) (c_Post_next (k := 1) (p := x) hJ hw hπ) (cw_Post_next hts w_310 rfl rfl ⟨(Nat.le_of_ble_eq_true rfl), (Nat.le_of_ble_eq_true rfl)⟩) rl_4 kC_4 rfl rfl rfl (Nat.le_of_ble_eq_true rfl) d_Store_ping_35 38 rfl [.ref (ad 5 (nxL (s 4 2 0) π))] rfl ?_
      refine z_astore_n S d_Store_ping_38 rfl (Nat.le_of_ble_eq_true rfl) [(3, .ref (ad 5 (nxL (s 4 2 0) π))), (2, .ref (ad 1 x.toNatClampNeg)), (0, .ref (ad 0 0)), (1, .int x)] rfl 39 rfl ?_
      refine z_aload_n S d_Store_ping_39 rfl 0 rfl 40 rfl ?_
      refine z_aload_n S d_Store_ping_40 rfl 1 rfl 41 rfl ?_
      refine z_callV S hK (As := []) (rest := [.ref (ad 5 (nxL (s 4 2 0) π))]) (c_Server_confirmedNumber (i := x.toNatClampNeg) hJ (rl_srv (vp_lt (in_srv hn5 h1)))) (cw_Server_confirmedNumber hts w_314 rfl rfl ⟨(Nat.le_of_ble_eq_true rfl), (Nat.le_of_ble_eq_true rfl)⟩) (rl_srv (vp_lt (in_srv hn5 h1))) kC_1 rfl rfl rfl (Nat.le_of_ble_eq_true rfl) d_Store_ping_41 44 rfl [.int (v_Server_confirmedNumber (s 6 1 x.toNatClampNeg) (s 1 0 x.toNatClampNeg) (s 6 0 x.toNatClampNeg) (s 1 7 x.toNatClampNeg)), .ref (ad 5 (nxL (s 4 2 0) π))] rfl ?_
      refine z_put S hJ hK hin_Letter t_Letter ok_Letter nm_Letter (rl_nx hπ) kC_5 rfl 5 (Nat.le_of_ble_eq_true rfl) (ht _ w_239) (fun _ h => h) rfl rfl rfl (Nat.le_of_ble_eq_true rfl) up_5_5 d_Store_ping_44 47 rfl ?_
      refine z_aload_n S d_Store_ping_47 rfl 0 rfl 48 rfl ?_
      refine z_aload_n S d_Store_ping_48 rfl 2 rfl 49 rfl ?_
      refine z_aload_n S d_Store_ping_49 rfl 1 rfl 50 rfl ?_
      refine z_callV S hK (As := [.ref (ad 1 x.toNatClampNeg)]) (rest := [.ref (ad 5 (nxL (s 4 2 0) π))]) (c_Store_clockOf (i := x.toNatClampNeg) hJ (rl_srv (vp_lt (in_srv hn5 h1)))) (cw_Store_clockOf hts w_322 rfl rfl ⟨(Nat.le_of_ble_eq_true rfl), (Nat.le_of_ble_eq_true rfl)⟩) rl_0 kC_0 rfl rfl rfl (Nat.le_of_ble_eq_true rfl) d_Store_ping_50 53 rfl [.int ((s 0 4 0) + (s 1 4 x.toNatClampNeg)), .ref (ad 5 (nxL (s 4 2 0) π))] rfl ?_
      refine z_put S hJ hK hin_Letter t_Letter ok_Letter nm_Letter (rl_nx hπ) kC_5 rfl 6 (Nat.le_of_ble_eq_true rfl) (ht _ w_241) (fun _ h => h) rfl rfl rfl (Nat.le_of_ble_eq_true rfl) up_5_6 d_Store_ping_53 56 rfl ?_
      refine z_iconst S d_Store_ping_56 1 (by decide) 57 rfl ?_
      exact z_zret S hr (zb_n zb_1) hlk d_Store_ping_57 (by unfold v_Store_ping; simp only [if_neg h1, if_pos h2]) (kC_eq (by unfold S_Store_ping; simp only [if_neg h1, if_pos h2]))
    · refine z_iconst S d_Store_ping_20 0 (by decide) 21 rfl ?_
      exact z_zret S hr (zb_n zb_0) hlk d_Store_ping_21 (by unfold v_Store_ping; simp only [if_neg h1, if_neg h2]) (kC_eq (by unfold S_Store_ping; simp only [if_neg h1, if_neg h2]))
theorem d_Store_push_0 : decode prog_1_method_6_code 0 = .ok (.aload_n 0, 1) := by decide +kernel
theorem d_Store_push_1 : decode prog_1_method_6_code 1 = .ok (.iload_n 1, 1) := by decide +kernel
theorem d_Store_push_2 : decode prog_1_method_6_code 2 = .ok (.invokevirtual 52, 3) := by decide +kernel
theorem d_Store_push_5 : decode prog_1_method_6_code 5 = .ok (.ifCond .eq 15, 3) := by decide +kernel
theorem d_Store_push_8 : decode prog_1_method_6_code 8 = .ok (.aload_n 0, 1) := by decide +kernel
theorem d_Store_push_9 : decode prog_1_method_6_code 9 = .ok (.getfield 20, 3) := by decide +kernel
theorem d_Store_push_12 : decode prog_1_method_6_code 12 = .ok (.iload_n 1, 1) := by decide +kernel
theorem d_Store_push_13 : decode prog_1_method_6_code 13 = .ok (.aaload, 1) := by decide +kernel
theorem d_Store_push_14 : decode prog_1_method_6_code 14 = .ok (.getfield 59, 3) := by decide +kernel
theorem d_Store_push_17 : decode prog_1_method_6_code 17 = .ok (.ifCond .eq 5, 3) := by decide +kernel
theorem d_Store_push_20 : decode prog_1_method_6_code 20 = .ok (.iconst 0, 1) := by decide +kernel
theorem d_Store_push_21 : decode prog_1_method_6_code 21 = .ok (.ireturn, 1) := by decide +kernel
theorem d_Store_push_22 : decode prog_1_method_6_code 22 = .ok (.aload_n 0, 1) := by decide +kernel
theorem d_Store_push_23 : decode prog_1_method_6_code 23 = .ok (.getfield 20, 3) := by decide +kernel
theorem d_Store_push_26 : decode prog_1_method_6_code 26 = .ok (.iload_n 1, 1) := by decide +kernel
theorem d_Store_push_27 : decode prog_1_method_6_code 27 = .ok (.aaload, 1) := by decide +kernel
theorem d_Store_push_28 : decode prog_1_method_6_code 28 = .ok (.astore_n 2, 1) := by decide +kernel
theorem d_Store_push_29 : decode prog_1_method_6_code 29 = .ok (.aload_n 2, 1) := by decide +kernel
theorem d_Store_push_30 : decode prog_1_method_6_code 30 = .ok (.invokevirtual 97, 3) := by decide +kernel
theorem d_Store_push_33 : decode prog_1_method_6_code 33 = .ok (.ifCond .eq 13, 3) := by decide +kernel
theorem d_Store_push_36 : decode prog_1_method_6_code 36 = .ok (.aload_n 2, 1) := by decide +kernel
theorem d_Store_push_37 : decode prog_1_method_6_code 37 = .ok (.getfield 101, 3) := by decide +kernel
theorem d_Store_push_40 : decode prog_1_method_6_code 40 = .ok (.invokevirtual 104, 3) := by decide +kernel
theorem d_Store_push_43 : decode prog_1_method_6_code 43 = .ok (.ifCond .ne 5, 3) := by decide +kernel
theorem d_Store_push_46 : decode prog_1_method_6_code 46 = .ok (.iconst 0, 1) := by decide +kernel
theorem d_Store_push_47 : decode prog_1_method_6_code 47 = .ok (.ireturn, 1) := by decide +kernel
theorem d_Store_push_48 : decode prog_1_method_6_code 48 = .ok (.aload_n 2, 1) := by decide +kernel
theorem d_Store_push_49 : decode prog_1_method_6_code 49 = .ok (.getfield 107, 3) := by decide +kernel
theorem d_Store_push_52 : decode prog_1_method_6_code 52 = .ok (.ifCond .ne 10, 3) := by decide +kernel
theorem d_Store_push_55 : decode prog_1_method_6_code 55 = .ok (.aload_n 0, 1) := by decide +kernel
theorem d_Store_push_56 : decode prog_1_method_6_code 56 = .ok (.aload_n 2, 1) := by decide +kernel
theorem d_Store_push_57 : decode prog_1_method_6_code 57 = .ok (.invokevirtual 110, 3) := by decide +kernel
theorem d_Store_push_60 : decode prog_1_method_6_code 60 = .ok (.iconst 1, 1) := by decide +kernel
theorem d_Store_push_61 : decode prog_1_method_6_code 61 = .ok (.ireturn, 1) := by decide +kernel
theorem d_Store_push_62 : decode prog_1_method_6_code 62 = .ok (.aload_n 2, 1) := by decide +kernel
theorem d_Store_push_63 : decode prog_1_method_6_code 63 = .ok (.getfield 114, 3) := by decide +kernel
theorem d_Store_push_66 : decode prog_1_method_6_code 66 = .ok (.ifCond .eq 10, 3) := by decide +kernel
theorem d_Store_push_69 : decode prog_1_method_6_code 69 = .ok (.aload_n 0, 1) := by decide +kernel
theorem d_Store_push_70 : decode prog_1_method_6_code 70 = .ok (.aload_n 2, 1) := by decide +kernel
theorem d_Store_push_71 : decode prog_1_method_6_code 71 = .ok (.invokevirtual 117, 3) := by decide +kernel
theorem d_Store_push_74 : decode prog_1_method_6_code 74 = .ok (.iconst 1, 1) := by decide +kernel
theorem d_Store_push_75 : decode prog_1_method_6_code 75 = .ok (.ireturn, 1) := by decide +kernel
theorem d_Store_push_76 : decode prog_1_method_6_code 76 = .ok (.iconst 0, 1) := by decide +kernel
theorem d_Store_push_77 : decode prog_1_method_6_code 77 = .ok (.ireturn, 1) := by decide +kernel
def S_Store_push (n : Nat) (π : Nat → Nat) (s : S3) (x : Int32) : S3 := if (v_Store_isServer n x) = 0 then s else if (s 1 6 x.toNatClampNeg) = 0 then (if (v_Server_isPrimary (s 6 1 x.toNatClampNeg) (s 1 0 x.toNatClampNeg)) = 0 then s else if (v_View_hasBackup (s 6 2 x.toNatClampNeg)) = 0 then s else if (s 1 7 x.toNatClampNeg) = 0 then (S_Store_sendFill π s x.toNatClampNeg) else if (s 1 8 x.toNatClampNeg) = 0 then s else S_Store_sendPass π s x.toNatClampNeg) else s
def v_Store_push (n : Nat) (π : Nat → Nat) (s : S3) (x : Int32) : Int32 := if (v_Store_isServer n x) = 0 then 0 else if (s 1 6 x.toNatClampNeg) = 0 then (if (v_Server_isPrimary (s 6 1 x.toNatClampNeg) (s 1 0 x.toNatClampNeg)) = 0 then 0 else if (v_View_hasBackup (s 6 2 x.toNatClampNeg)) = 0 then 0 else if (s 1 7 x.toNatClampNeg) = 0 then 1 else if (s 1 8 x.toNatClampNeg) = 0 then 0 else 1) else 0
theorem zbv_Store_push {n : Nat} {π : Nat → Nat} {s : S3} {x : Int32} : zb (v_Store_push n π s x) := by
  unfold v_Store_push
  repeat' split
  all_goals first | with_reducible exact zb_0 | with_reducible exact zb_1 | with_reducible exact zbv_View_hasBackup | with_reducible exact zbv_Server_isPrimary | with_reducible exact zbv_Server_isPrimaryOf | with_reducible exact zbv_Server_isBackupOf | with_reducible exact zbv_Client_takeAnswer | with_reducible exact zbv_Service_isFresh | with_reducible exact zbv_Post_has | with_reducible exact zbv_Store_isServer | with_reducible exact zbv_Store_isClient | with_reducible exact zbv_Store_isCell | with_reducible exact zbv_Store_takeRead | with_reducible exact zbv_Store_takeWrite | with_reducible exact zbv_Store_takeAsk | with_reducible exact zbv_Store_takePassed | with_reducible exact zbv_Store_takePass | with_reducible exact zbv_Store_takeFilled | with_reducible exact zbv_Store_takeFill | with_reducible exact zbv_Store_takeView | with_reducible exact zbv_Store_takePing | with_reducible exact zbv_Store_takesEffect | with_reducible exact zbv_Store_skew | with_reducible exact zbv_Store_ping
set_option maxHeartbeats 4000000 in
set_option maxRecDepth 100000 in
theorem c_Store_push {l : Launch} {D : va_G} {K : Nat → ClassId} {ad : Nat → Nat → Nat} {n : Nat} {π : Nat → Nat} {s : S3} {x : Int32} (hJ : zw_J (cRL n) ad) (hn5 : n ≤ 5) (hw : vp_in (s 4 2 0) 33) (hπ : ∀ j, π j < 34) (hop : opOK s) : zM l y_Store_push ws_Store_push ({ frames := 3, cells := 0, slots := 0, locals := 123 }) D zCl (zTys K) (cRL n) ad [.ref (ad 0 0), .int x] (kC K ad n s π) (some (.int (v_Store_push n π s x))) (kC K ad n (S_Store_push n π s x) π) := by
  refine zM.of (cc := prog_1_method_6_code) (maxL := 3) (ret := (Option.some Jvm.ClassFile.FieldType.boolean)) (by decide) rfl (Nat.le_of_ble_eq_true rfl) ?_
  intro pP eE U mM bL mT cO S hr hlk hK
  have hts := S.2.2.2.2
  have ht := fun w h => hts w (List.mem_cons_of_mem _ h)
  refine z_aload_n S d_Store_push_0 rfl 0 rfl 1 rfl ?_
  refine z_iload_n S d_Store_push_1 rfl 1 rfl 2 rfl ?_
  refine z_callV S hK (As := [.int x]) (rest := []) (c_Store_isServer (x := x) hJ) (cw_Store_isServer hts w_302 rfl rfl ⟨(Nat.le_of_ble_eq_true rfl), (Nat.le_of_ble_eq_true rfl)⟩) rl_0 kC_0 rfl rfl rfl (Nat.le_of_ble_eq_true rfl) d_Store_push_2 5 rfl [.int (v_Store_isServer n x)] rfl ?_
  refine z_if_eq S d_Store_push_5 20 (by decide) 8 rfl (fun h1 => ?_) (fun h1 => ?_)
  · refine z_iconst S d_Store_push_20 0 (by decide) 21 rfl ?_
    exact z_zret S hr (zb_n zb_0) hlk d_Store_push_21 (by unfold v_Store_push; simp only [if_pos h1]) (kC_eq (by unfold S_Store_push; simp only [if_pos h1]))
  · refine z_aload_n S d_Store_push_8 rfl 0 rfl 9 rfl ?_
    refine z_get S hK hin_Store rl_0 kC_0 rfl 0 (Nat.le_of_ble_eq_true rfl) (ht _ w_278) (fun _ h => h) d_Store_push_9 12 rfl (.ref (ad 10 0)) rfl ?_
    refine z_iload_n S d_Store_push_12 rfl 1 rfl 13 rfl ?_
    refine z_aald S hK rl_10 3 kC_10 rfl (in_srv hn5 h1) rfl d_Store_push_13 14 rfl ?_
    refine z_get S hK hin_Server (rl_srv (vp_lt (in_srv hn5 h1))) kC_1 rfl 6 (Nat.le_of_ble_eq_true rfl) (ht _ w_130) (fun _ h => h) d_Store_push_14 17 rfl (.int (s 1 6 x.toNatClampNeg)) rfl ?_
    refine z_if_eq S d_Store_push_17 22 (by decide) 20 rfl (fun h2 => ?_) (fun h2 => ?_)
    · refine z_aload_n S d_Store_push_22 rfl 0 rfl 23 rfl ?_
      refine z_get S hK hin_Store rl_0 kC_0 rfl 0 (Nat.le_of_ble_eq_true rfl) (ht _ w_278) (fun _ h => h) d_Store_push_23 26 rfl (.ref (ad 10 0)) rfl ?_
      refine z_iload_n S d_Store_push_26 rfl 1 rfl 27 rfl ?_
      refine z_aald S hK rl_10 3 kC_10 rfl (in_srv hn5 h1) rfl d_Store_push_27 28 rfl ?_
      refine z_astore_n S d_Store_push_28 rfl (Nat.le_of_ble_eq_true rfl) [(2, .ref (ad 1 x.toNatClampNeg)), (0, .ref (ad 0 0)), (1, .int x)] rfl 29 rfl ?_
      refine z_aload_n S d_Store_push_29 rfl 0 rfl 30 rfl ?_
      refine z_callV S hK (As := []) (rest := []) (c_Server_isPrimary (i := x.toNatClampNeg) hJ (rl_srv (vp_lt (in_srv hn5 h1)))) (cw_Server_isPrimary hts w_354 rfl rfl ⟨(Nat.le_of_ble_eq_true rfl), (Nat.le_of_ble_eq_true rfl)⟩) (rl_srv (vp_lt (in_srv hn5 h1))) kC_1 rfl rfl rfl (Nat.le_of_ble_eq_true rfl) d_Store_push_30 33 rfl [.int (v_Server_isPrimary (s 6 1 x.toNatClampNeg) (s 1 0 x.toNatClampNeg))] rfl ?_
      refine z_if_eq S d_Store_push_33 46 (by decide) 36 rfl (fun h3 => ?_) (fun h3 => ?_)
      · refine z_iconst S d_Store_push_46 0 (by decide) 47 rfl ?_
        exact z_zret S hr (zb_n zb_0) hlk d_Store_push_47 (by unfold v_Store_push; simp only [if_neg h1, if_pos h2, if_pos h3]) (kC_eq (by unfold S_Store_push; simp only [if_neg h1, if_pos h2, if_pos h3]))
      · refine z_aload_n S d_Store_push_36 rfl 0 rfl 37 rfl ?_
        refine z_get S hK hin_Server (rl_srv (vp_lt (in_srv hn5 h1))) kC_1 rfl 1 (Nat.le_of_ble_eq_true rfl) (ht _ w_120) (fun _ h => h) d_Store_push_37 40 rfl (.ref (ad 6 x.toNatClampNeg)) rfl ?_
        refine z_callV S hK (As := []) (rest := []) (c_View_hasBackup (a := x.toNatClampNeg) hJ (rl_sv (rl_srv (vp_lt (in_srv hn5 h1))))) (cw_View_hasBackup hts w_355 rfl rfl ⟨(Nat.le_of_ble_eq_true rfl), (Nat.le_of_ble_eq_true rfl)⟩) (rl_sv (rl_srv (vp_lt (in_srv hn5 h1)))) kC_6 rfl rfl rfl (Nat.le_of_ble_eq_true rfl) d_Store_push_40 43 rfl [.int (v_View_hasBackup (s 6 2 x.toNatClampNeg))] rfl ?_
        refine z_if_ne S d_Store_push_43 48 (by decide) 46 rfl (fun h4 => ?_) (fun h4 => ?_)
        · refine z_aload_n S d_Store_push_48 rfl 0 rfl 49 rfl ?_
          refine z_get S hK hin_Server (rl_srv (vp_lt (in_srv hn5 h1))) kC_1 rfl 7 (Nat.le_of_ble_eq_true rfl) (ht _ w_132) (fun _ h => h) d_Store_push_49 52 rfl (.int (s 1 7 x.toNatClampNeg)) rfl ?_
          refine z_if_ne S d_Store_push_52 62 (by decide) 55 rfl (fun h5 => ?_) (fun h5 => ?_)
          · refine z_aload_n S d_Store_push_62 rfl 0 rfl 63 rfl ?_
            refine z_get S hK hin_Server (rl_srv (vp_lt (in_srv hn5 h1))) kC_1 rfl 8 (Nat.le_of_ble_eq_true rfl) (ht _ w_134) (fun _ h => h) d_Store_push_63 66 rfl (.int (s 1 8 x.toNatClampNeg)) rfl ?_
            refine z_if_eq S d_Store_push_66 76 (by decide) 69 rfl (fun h6 => ?_) (fun h6 => ?_)
            · refine z_iconst S d_Store_push_76 0 (by decide) 77 rfl ?_
              exact z_zret S hr (zb_n zb_0) hlk d_Store_push_77 (by unfold v_Store_push; simp only [if_neg h1, if_pos h2, if_neg h3, if_neg h4, if_neg h5, if_pos h6]) (kC_eq (by unfold S_Store_push; simp only [if_neg h1, if_pos h2, if_neg h3, if_neg h4, if_neg h5, if_pos h6]))
            · refine z_aload_n S d_Store_push_69 rfl 1 rfl 70 rfl ?_
              refine z_aload_n S d_Store_push_70 rfl 0 rfl 71 rfl ?_
              refine z_callV S hK (As := [.ref (ad 1 x.toNatClampNeg)]) (rest := []) (c_Store_sendPass (i := x.toNatClampNeg) hJ (rl_srv (vp_lt (in_srv hn5 h1))) hw hπ hop) (cw_Store_sendPass hts w_371 rfl rfl ⟨(Nat.le_of_ble_eq_true rfl), (Nat.le_of_ble_eq_true rfl)⟩) rl_0 kC_0 rfl rfl rfl (Nat.le_of_ble_eq_true rfl) d_Store_push_71 74 rfl [] rfl ?_
              refine z_iconst S d_Store_push_74 1 (by decide) 75 rfl ?_
              exact z_zret S hr (zb_n zb_1) hlk d_Store_push_75 (by unfold v_Store_push; simp only [if_neg h1, if_pos h2, if_neg h3, if_neg h4, if_neg h5, if_neg h6]) (kC_eq (by unfold S_Store_push; simp only [if_neg h1, if_pos h2, if_neg h3, if_neg h4, if_neg h5, if_neg h6]))
          · refine z_aload_n S d_Store_push_55 rfl 1 rfl 56 rfl ?_
            refine z_aload_n S d_Store_push_56 rfl 0 rfl 57 rfl ?_
            refine z_callV S hK (As := [.ref (ad 1 x.toNatClampNeg)]) (rest := []) (c_Store_sendFill (i := x.toNatClampNeg) hJ (rl_srv (vp_lt (in_srv hn5 h1))) hw hπ) (cw_Store_sendFill hts w_356 rfl rfl ⟨(Nat.le_of_ble_eq_true rfl), (Nat.le_of_ble_eq_true rfl)⟩) rl_0 kC_0 rfl rfl rfl (Nat.le_of_ble_eq_true rfl) d_Store_push_57 60 rfl [] rfl ?_
            refine z_iconst S d_Store_push_60 1 (by decide) 61 rfl ?_
            exact z_zret S hr (zb_n zb_1) hlk d_Store_push_61 (by unfold v_Store_push; simp only [if_neg h1, if_pos h2, if_neg h3, if_neg h4, if_pos h5]) (kC_eq (by unfold S_Store_push; simp only [if_neg h1, if_pos h2, if_neg h3, if_neg h4, if_pos h5]))
        · refine z_iconst S d_Store_push_46 0 (by decide) 47 rfl ?_
          exact z_zret S hr (zb_n zb_0) hlk d_Store_push_47 (by unfold v_Store_push; simp only [if_neg h1, if_pos h2, if_neg h3, if_pos h4]) (kC_eq (by unfold S_Store_push; simp only [if_neg h1, if_pos h2, if_neg h3, if_pos h4]))
    · refine z_iconst S d_Store_push_20 0 (by decide) 21 rfl ?_
      exact z_zret S hr (zb_n zb_0) hlk d_Store_push_21 (by unfold v_Store_push; simp only [if_neg h1, if_neg h2]) (kC_eq (by unfold S_Store_push; simp only [if_neg h1, if_neg h2]))
theorem d_Store_crash_0 : decode prog_1_method_11_code 0 = .ok (.aload_n 0, 1) := by decide +kernel
theorem d_Store_crash_1 : decode prog_1_method_11_code 1 = .ok (.iload_n 1, 1) := by decide +kernel
theorem d_Store_crash_2 : decode prog_1_method_11_code 2 = .ok (.invokevirtual 52, 3) := by decide +kernel
theorem d_Store_crash_5 : decode prog_1_method_11_code 5 = .ok (.ifCond .eq 15, 3) := by decide +kernel
theorem d_Store_crash_8 : decode prog_1_method_11_code 8 = .ok (.aload_n 0, 1) := by decide +kernel
theorem d_Store_crash_9 : decode prog_1_method_11_code 9 = .ok (.getfield 20, 3) := by decide +kernel
theorem d_Store_crash_12 : decode prog_1_method_11_code 12 = .ok (.iload_n 1, 1) := by decide +kernel
theorem d_Store_crash_13 : decode prog_1_method_11_code 13 = .ok (.aaload, 1) := by decide +kernel
theorem d_Store_crash_14 : decode prog_1_method_11_code 14 = .ok (.getfield 59, 3) := by decide +kernel
theorem d_Store_crash_17 : decode prog_1_method_11_code 17 = .ok (.ifCond .eq 5, 3) := by decide +kernel
theorem d_Store_crash_20 : decode prog_1_method_11_code 20 = .ok (.iconst 0, 1) := by decide +kernel
theorem d_Store_crash_21 : decode prog_1_method_11_code 21 = .ok (.ireturn, 1) := by decide +kernel
theorem d_Store_crash_22 : decode prog_1_method_11_code 22 = .ok (.aload_n 0, 1) := by decide +kernel
theorem d_Store_crash_23 : decode prog_1_method_11_code 23 = .ok (.getfield 20, 3) := by decide +kernel
theorem d_Store_crash_26 : decode prog_1_method_11_code 26 = .ok (.iload_n 1, 1) := by decide +kernel
theorem d_Store_crash_27 : decode prog_1_method_11_code 27 = .ok (.aaload, 1) := by decide +kernel
theorem d_Store_crash_28 : decode prog_1_method_11_code 28 = .ok (.iconst 1, 1) := by decide +kernel
theorem d_Store_crash_29 : decode prog_1_method_11_code 29 = .ok (.putfield 59, 3) := by decide +kernel
theorem d_Store_crash_32 : decode prog_1_method_11_code 32 = .ok (.iconst 1, 1) := by decide +kernel
theorem d_Store_crash_33 : decode prog_1_method_11_code 33 = .ok (.ireturn, 1) := by decide +kernel
def S_Store_crash (n : Nat) (π : Nat → Nat) (s : S3) (x : Int32) : S3 := if (v_Store_isServer n x) = 0 then s else if (s 1 6 x.toNatClampNeg) = 0 then (u3 s 1 6 x.toNatClampNeg 1) else s
def v_Store_crash (n : Nat) (π : Nat → Nat) (s : S3) (x : Int32) : Int32 := if (v_Store_isServer n x) = 0 then 0 else if (s 1 6 x.toNatClampNeg) = 0 then 1 else 0
theorem zbv_Store_crash {n : Nat} {π : Nat → Nat} {s : S3} {x : Int32} : zb (v_Store_crash n π s x) := by
  unfold v_Store_crash
  repeat' split
  all_goals first | with_reducible exact zb_0 | with_reducible exact zb_1 | with_reducible exact zbv_View_hasBackup | with_reducible exact zbv_Server_isPrimary | with_reducible exact zbv_Server_isPrimaryOf | with_reducible exact zbv_Server_isBackupOf | with_reducible exact zbv_Client_takeAnswer | with_reducible exact zbv_Service_isFresh | with_reducible exact zbv_Post_has | with_reducible exact zbv_Store_isServer | with_reducible exact zbv_Store_isClient | with_reducible exact zbv_Store_isCell | with_reducible exact zbv_Store_takeRead | with_reducible exact zbv_Store_takeWrite | with_reducible exact zbv_Store_takeAsk | with_reducible exact zbv_Store_takePassed | with_reducible exact zbv_Store_takePass | with_reducible exact zbv_Store_takeFilled | with_reducible exact zbv_Store_takeFill | with_reducible exact zbv_Store_takeView | with_reducible exact zbv_Store_takePing | with_reducible exact zbv_Store_takesEffect | with_reducible exact zbv_Store_skew | with_reducible exact zbv_Store_ping | with_reducible exact zbv_Store_push
set_option maxHeartbeats 4000000 in
set_option maxRecDepth 100000 in
theorem c_Store_crash {l : Launch} {D : va_G} {K : Nat → ClassId} {ad : Nat → Nat → Nat} {n : Nat} {π : Nat → Nat} {s : S3} {x : Int32} (hJ : zw_J (cRL n) ad) (hn5 : n ≤ 5) : zM l y_Store_crash ws_Store_crash ({ frames := 1, cells := 0, slots := 0, locals := 21 }) D zCl (zTys K) (cRL n) ad [.ref (ad 0 0), .int x] (kC K ad n s π) (some (.int (v_Store_crash n π s x))) (kC K ad n (S_Store_crash n π s x) π) := by
  refine zM.of (cc := prog_1_method_11_code) (maxL := 2) (ret := (Option.some Jvm.ClassFile.FieldType.boolean)) (by decide) rfl (Nat.le_of_ble_eq_true rfl) ?_
  intro pP eE U mM bL mT cO S hr hlk hK
  have hts := S.2.2.2.2
  have ht := fun w h => hts w (List.mem_cons_of_mem _ h)
  refine z_aload_n S d_Store_crash_0 rfl 0 rfl 1 rfl ?_
  refine z_iload_n S d_Store_crash_1 rfl 1 rfl 2 rfl ?_
  refine z_callV S hK (As := [.int x]) (rest := []) (c_Store_isServer (x := x) hJ) (cw_Store_isServer hts w_302 rfl rfl ⟨(Nat.le_of_ble_eq_true rfl), (Nat.le_of_ble_eq_true rfl)⟩) rl_0 kC_0 rfl rfl rfl (Nat.le_of_ble_eq_true rfl) d_Store_crash_2 5 rfl [.int (v_Store_isServer n x)] rfl ?_
  refine z_if_eq S d_Store_crash_5 20 (by decide) 8 rfl (fun h1 => ?_) (fun h1 => ?_)
  · refine z_iconst S d_Store_crash_20 0 (by decide) 21 rfl ?_
    exact z_zret S hr (zb_n zb_0) hlk d_Store_crash_21 (by unfold v_Store_crash; simp only [if_pos h1]) (kC_eq (by unfold S_Store_crash; simp only [if_pos h1]))
  · refine z_aload_n S d_Store_crash_8 rfl 0 rfl 9 rfl ?_
    refine z_get S hK hin_Store rl_0 kC_0 rfl 0 (Nat.le_of_ble_eq_true rfl) (ht _ w_278) (fun _ h => h) d_Store_crash_9 12 rfl (.ref (ad 10 0)) rfl ?_
    refine z_iload_n S d_Store_crash_12 rfl 1 rfl 13 rfl ?_
    refine z_aald S hK rl_10 3 kC_10 rfl (in_srv hn5 h1) rfl d_Store_crash_13 14 rfl ?_
    refine z_get S hK hin_Server (rl_srv (vp_lt (in_srv hn5 h1))) kC_1 rfl 6 (Nat.le_of_ble_eq_true rfl) (ht _ w_130) (fun _ h => h) d_Store_crash_14 17 rfl (.int (s 1 6 x.toNatClampNeg)) rfl ?_
    refine z_if_eq S d_Store_crash_17 22 (by decide) 20 rfl (fun h2 => ?_) (fun h2 => ?_)
    · refine z_aload_n S d_Store_crash_22 rfl 0 rfl 23 rfl ?_
      refine z_get S hK hin_Store rl_0 kC_0 rfl 0 (Nat.le_of_ble_eq_true rfl) (ht _ w_278) (fun _ h => h) d_Store_crash_23 26 rfl (.ref (ad 10 0)) rfl ?_
      refine z_iload_n S d_Store_crash_26 rfl 1 rfl 27 rfl ?_
      refine z_aald S hK rl_10 3 kC_10 rfl (in_srv hn5 h1) rfl d_Store_crash_27 28 rfl ?_
      refine z_iconst S d_Store_crash_28 1 (by decide) 29 rfl ?_
      refine z_put S hJ hK hin_Server t_Server ok_Server nm_Server (rl_srv (vp_lt (in_srv hn5 h1))) kC_1 rfl 6 (Nat.le_of_ble_eq_true rfl) (ht _ w_130) (fun _ h => h) rfl (zb_n zb_1) (zb_f zb_1) (Nat.le_of_ble_eq_true rfl) up_1_6 d_Store_crash_29 32 rfl ?_
      refine z_iconst S d_Store_crash_32 1 (by decide) 33 rfl ?_
      exact z_zret S hr (zb_n zb_1) hlk d_Store_crash_33 (by unfold v_Store_crash; simp only [if_neg h1, if_pos h2]) (kC_eq (by unfold S_Store_crash; simp only [if_neg h1, if_pos h2]))
    · refine z_iconst S d_Store_crash_20 0 (by decide) 21 rfl ?_
      exact z_zret S hr (zb_n zb_0) hlk d_Store_crash_21 (by unfold v_Store_crash; simp only [if_neg h1, if_neg h2]) (kC_eq (by unfold S_Store_crash; simp only [if_neg h1, if_neg h2]))
theorem d_Store_letters_0 : decode prog_1_method_12_code 0 = .ok (.aload_n 0, 1) := by decide +kernel
theorem d_Store_letters_1 : decode prog_1_method_12_code 1 = .ok (.getfield 44, 3) := by decide +kernel
theorem d_Store_letters_4 : decode prog_1_method_12_code 4 = .ok (.getfield 159, 3) := by decide +kernel
theorem d_Store_letters_7 : decode prog_1_method_12_code 7 = .ok (.ireturn, 1) := by decide +kernel
set_option maxHeartbeats 4000000 in
set_option maxRecDepth 100000 in
theorem c_Store_letters {l : Launch} {D : va_G} {K : Nat → ClassId} {ad : Nat → Nat → Nat} {n : Nat} {π : Nat → Nat} {s : S3} (hJ : zw_J (cRL n) ad) : zM l y_Store_letters ws_Store_letters ({ frames := 0, cells := 0, slots := 0, locals := 0 }) D zCl (zTys K) (cRL n) ad [.ref (ad 0 0)] (kC K ad n s π) (some (.int (s 4 2 0))) (kC K ad n (s) π) := by
  refine zM.of (cc := prog_1_method_12_code) (maxL := 1) (ret := (Option.some Jvm.ClassFile.FieldType.int)) (by decide) rfl (Nat.le_of_ble_eq_true rfl) ?_
  intro pP eE U mM bL mT cO S hr hlk hK
  have hts := S.2.2.2.2
  have ht := fun w h => hts w (List.mem_cons_of_mem _ h)
  refine z_aload_n S d_Store_letters_0 rfl 0 rfl 1 rfl ?_
  refine z_get S hK hin_Store rl_0 kC_0 rfl 3 (Nat.le_of_ble_eq_true rfl) (ht _ w_281) (fun _ h => h) d_Store_letters_1 4 rfl (.ref (ad 4 0)) rfl ?_
  refine z_get S hK hin_Post rl_4 kC_4 rfl 2 (Nat.le_of_ble_eq_true rfl) (ht _ w_270) (fun _ h => h) d_Store_letters_4 7 rfl (.int (s 4 2 0)) rfl ?_
  exact z_iret S hr hlk d_Store_letters_7 rfl rfl
theorem d_Store_letter_0 : decode prog_1_method_13_code 0 = .ok (.aload_n 0, 1) := by decide +kernel
theorem d_Store_letter_1 : decode prog_1_method_13_code 1 = .ok (.getfield 44, 3) := by decide +kernel
theorem d_Store_letter_4 : decode prog_1_method_13_code 4 = .ok (.iload_n 1, 1) := by decide +kernel
theorem d_Store_letter_5 : decode prog_1_method_13_code 5 = .ok (.invokevirtual 145, 3) := by decide +kernel
theorem d_Store_letter_8 : decode prog_1_method_13_code 8 = .ok (.ifCond .ne 5, 3) := by decide +kernel
theorem d_Store_letter_11 : decode prog_1_method_13_code 11 = .ok (.iconst (-1), 1) := by decide +kernel
theorem d_Store_letter_12 : decode prog_1_method_13_code 12 = .ok (.ireturn, 1) := by decide +kernel
theorem d_Store_letter_13 : decode prog_1_method_13_code 13 = .ok (.aload_n 0, 1) := by decide +kernel
theorem d_Store_letter_14 : decode prog_1_method_13_code 14 = .ok (.getfield 44, 3) := by decide +kernel
theorem d_Store_letter_17 : decode prog_1_method_13_code 17 = .ok (.getfield 162, 3) := by decide +kernel
theorem d_Store_letter_20 : decode prog_1_method_13_code 20 = .ok (.iload_n 1, 1) := by decide +kernel
theorem d_Store_letter_21 : decode prog_1_method_13_code 21 = .ok (.aaload, 1) := by decide +kernel
theorem d_Store_letter_22 : decode prog_1_method_13_code 22 = .ok (.astore_n 2, 1) := by decide +kernel
theorem d_Store_letter_23 : decode prog_1_method_13_code 23 = .ok (.aload_n 2, 1) := by decide +kernel
theorem d_Store_letter_24 : decode prog_1_method_13_code 24 = .ok (.getfield 156, 3) := by decide +kernel
theorem d_Store_letter_27 : decode prog_1_method_13_code 27 = .ok (.bipush 16, 2) := by decide +kernel
theorem d_Store_letter_29 : decode prog_1_method_13_code 29 = .ok (.aload_n 2, 1) := by decide +kernel
theorem d_Store_letter_30 : decode prog_1_method_13_code 30 = .ok (.getfield 166, 3) := by decide +kernel
theorem d_Store_letter_33 : decode prog_1_method_13_code 33 = .ok (.imul, 1) := by decide +kernel
theorem d_Store_letter_34 : decode prog_1_method_13_code 34 = .ok (.iadd, 1) := by decide +kernel
theorem d_Store_letter_35 : decode prog_1_method_13_code 35 = .ok (.ireturn, 1) := by decide +kernel
def v_Store_letter (x0 : Int32) (x1 : Int32) (x2 : Int32) (x : Int32) : Int32 := if (v_Post_has (x0) x) = 0 then (-1) else (x1) + (16 * (x2))
set_option maxHeartbeats 4000000 in
set_option maxRecDepth 100000 in
theorem c_Store_letter {l : Launch} {D : va_G} {K : Nat → ClassId} {ad : Nat → Nat → Nat} {n : Nat} {π : Nat → Nat} {s : S3} {x : Int32} (hJ : zw_J (cRL n) ad) (hw : vp_in (s 4 2 0) 33) (hπ : ∀ j, π j < 34) : zM l y_Store_letter ws_Store_letter ({ frames := 1, cells := 0, slots := 0, locals := 21 }) D zCl (zTys K) (cRL n) ad [.ref (ad 0 0), .int x] (kC K ad n s π) (some (.int (v_Store_letter (s 4 2 0) (s 5 3 (π x.toNatClampNeg)) (s 5 4 (π x.toNatClampNeg)) x))) (kC K ad n (s) π) := by
  refine zM.of (cc := prog_1_method_13_code) (maxL := 3) (ret := (Option.some Jvm.ClassFile.FieldType.int)) (by decide) rfl (Nat.le_of_ble_eq_true rfl) ?_
  intro pP eE U mM bL mT cO S hr hlk hK
  have hts := S.2.2.2.2
  have ht := fun w h => hts w (List.mem_cons_of_mem _ h)
  refine z_aload_n S d_Store_letter_0 rfl 0 rfl 1 rfl ?_
  refine z_get S hK hin_Store rl_0 kC_0 rfl 3 (Nat.le_of_ble_eq_true rfl) (ht _ w_281) (fun _ h => h) d_Store_letter_1 4 rfl (.ref (ad 4 0)) rfl ?_
  refine z_iload_n S d_Store_letter_4 rfl 1 rfl 5 rfl ?_
  refine z_callV S hK (As := [.int x]) (rest := []) (c_Post_has (x := x) hJ) (cw_Post_has hts w_403 rfl rfl ⟨(Nat.le_of_ble_eq_true rfl), (Nat.le_of_ble_eq_true rfl)⟩) rl_4 kC_4 rfl rfl rfl (Nat.le_of_ble_eq_true rfl) d_Store_letter_5 8 rfl [.int (v_Post_has (s 4 2 0) x)] rfl ?_
  refine z_if_ne S d_Store_letter_8 13 (by decide) 11 rfl (fun h1 => ?_) (fun h1 => ?_)
  · refine z_aload_n S d_Store_letter_13 rfl 0 rfl 14 rfl ?_
    refine z_get S hK hin_Store rl_0 kC_0 rfl 3 (Nat.le_of_ble_eq_true rfl) (ht _ w_281) (fun _ h => h) d_Store_letter_14 17 rfl (.ref (ad 4 0)) rfl ?_
    refine z_get S hK hin_Post rl_4 kC_4 rfl 0 (Nat.le_of_ble_eq_true rfl) (ht _ w_267) (fun _ h => h) d_Store_letter_17 20 rfl (.ref (ad 12 0)) rfl ?_
    refine z_iload_n S d_Store_letter_20 rfl 1 rfl 21 rfl ?_
    refine z_aald S hK rl_12 5 kC_12 rfl (in_has hw h1) rfl d_Store_letter_21 22 rfl ?_
    refine z_astore_n S d_Store_letter_22 rfl (Nat.le_of_ble_eq_true rfl) [(2, .ref (ad 5 (π x.toNatClampNeg))), (0, .ref (ad 0 0)), (1, .int x)] rfl 23 rfl ?_
    refine z_aload_n S d_Store_letter_23 rfl 0 rfl 24 rfl ?_
    refine z_get S hK hin_Letter (rl_let (hπ _)) kC_5 rfl 3 (Nat.le_of_ble_eq_true rfl) (ht _ w_232) (fun _ h => h) d_Store_letter_24 27 rfl (.int (s 5 3 (π x.toNatClampNeg))) rfl ?_
    refine z_bipush S d_Store_letter_27 16 (by decide) 29 rfl ?_
    refine z_aload_n S d_Store_letter_29 rfl 0 rfl 30 rfl ?_
    refine z_get S hK hin_Letter (rl_let (hπ _)) kC_5 rfl 4 (Nat.le_of_ble_eq_true rfl) (ht _ w_236) (fun _ h => h) d_Store_letter_30 33 rfl (.int (s 5 4 (π x.toNatClampNeg))) rfl ?_
    refine z_imul S d_Store_letter_33 34 rfl ?_
    refine z_iadd S d_Store_letter_34 35 rfl ?_
    exact z_iret S hr hlk d_Store_letter_35 (by unfold v_Store_letter; simp only [if_neg h1]) rfl
  · refine z_iconst S d_Store_letter_11 (-1) (by decide) 12 rfl ?_
    exact z_iret S hr hlk d_Store_letter_12 (by unfold v_Store_letter; simp only [if_pos h1]) rfl
theorem d_Store_view_0 : decode prog_1_method_14_code 0 = .ok (.iload_n 1, 1) := by decide +kernel
theorem d_Store_view_1 : decode prog_1_method_14_code 1 = .ok (.iconst (-1), 1) := by decide +kernel
theorem d_Store_view_2 : decode prog_1_method_14_code 2 = .ok (.if_icmp .ne 14, 3) := by decide +kernel
theorem d_Store_view_5 : decode prog_1_method_14_code 5 = .ok (.aload_n 0, 1) := by decide +kernel
theorem d_Store_view_6 : decode prog_1_method_14_code 6 = .ok (.getfield 37, 3) := by decide +kernel
theorem d_Store_view_9 : decode prog_1_method_14_code 9 = .ok (.getfield 88, 3) := by decide +kernel
theorem d_Store_view_12 : decode prog_1_method_14_code 12 = .ok (.invokevirtual 169, 3) := by decide +kernel
theorem d_Store_view_15 : decode prog_1_method_14_code 15 = .ok (.ireturn, 1) := by decide +kernel
theorem d_Store_view_16 : decode prog_1_method_14_code 16 = .ok (.aload_n 0, 1) := by decide +kernel
theorem d_Store_view_17 : decode prog_1_method_14_code 17 = .ok (.iload_n 1, 1) := by decide +kernel
theorem d_Store_view_18 : decode prog_1_method_14_code 18 = .ok (.invokevirtual 52, 3) := by decide +kernel
theorem d_Store_view_21 : decode prog_1_method_14_code 21 = .ok (.ifCond .eq 18, 3) := by decide +kernel
theorem d_Store_view_24 : decode prog_1_method_14_code 24 = .ok (.aload_n 0, 1) := by decide +kernel
theorem d_Store_view_25 : decode prog_1_method_14_code 25 = .ok (.getfield 20, 3) := by decide +kernel
theorem d_Store_view_28 : decode prog_1_method_14_code 28 = .ok (.iload_n 1, 1) := by decide +kernel
theorem d_Store_view_29 : decode prog_1_method_14_code 29 = .ok (.aaload, 1) := by decide +kernel
theorem d_Store_view_30 : decode prog_1_method_14_code 30 = .ok (.getfield 101, 3) := by decide +kernel
theorem d_Store_view_33 : decode prog_1_method_14_code 33 = .ok (.invokevirtual 169, 3) := by decide +kernel
theorem d_Store_view_36 : decode prog_1_method_14_code 36 = .ok (.goto 4, 3) := by decide +kernel
theorem d_Store_view_39 : decode prog_1_method_14_code 39 = .ok (.iconst (-1), 1) := by decide +kernel
theorem d_Store_view_40 : decode prog_1_method_14_code 40 = .ok (.ireturn, 1) := by decide +kernel
def v_Store_view (n : Nat) (x0 : Int32) (x1 : Int32) (x2 : Int32) (x3 : Int32) (x4 : Int32) (x5 : Int32) (x : Int32) : Int32 := if x = (-1) then (v_View_shown (x0) (x1) (x2)) else if (v_Store_isServer n x) = 0 then (-1) else v_View_shown (x3) (x4) (x5)
set_option maxHeartbeats 4000000 in
set_option maxRecDepth 100000 in
theorem c_Store_view {l : Launch} {D : va_G} {K : Nat → ClassId} {ad : Nat → Nat → Nat} {n : Nat} {π : Nat → Nat} {s : S3} {x : Int32} (hJ : zw_J (cRL n) ad) (hn5 : n ≤ 5) : zM l y_Store_view ws_Store_view ({ frames := 1, cells := 0, slots := 0, locals := 21 }) D zCl (zTys K) (cRL n) ad [.ref (ad 0 0), .int x] (kC K ad n s π) (some (.int (v_Store_view n (s 6 0 7) (s 6 1 7) (s 6 2 7) (s 6 0 x.toNatClampNeg) (s 6 1 x.toNatClampNeg) (s 6 2 x.toNatClampNeg) x))) (kC K ad n (s) π) := by
  refine zM.of (cc := prog_1_method_14_code) (maxL := 2) (ret := (Option.some Jvm.ClassFile.FieldType.int)) (by decide) rfl (Nat.le_of_ble_eq_true rfl) ?_
  intro pP eE U mM bL mT cO S hr hlk hK
  have hts := S.2.2.2.2
  have ht := fun w h => hts w (List.mem_cons_of_mem _ h)
  refine z_iload_n S d_Store_view_0 rfl 1 rfl 1 rfl ?_
  refine z_iconst S d_Store_view_1 (-1) (by decide) 2 rfl ?_
  refine z_icmp_ne S d_Store_view_2 16 (by decide) 5 rfl (fun h1 => ?_) (fun h1 => ?_)
  · refine z_aload_n S d_Store_view_16 rfl 0 rfl 17 rfl ?_
    refine z_iload_n S d_Store_view_17 rfl 1 rfl 18 rfl ?_
    refine z_callV S hK (As := [.int x]) (rest := []) (c_Store_isServer (x := x) hJ) (cw_Store_isServer hts w_302 rfl rfl ⟨(Nat.le_of_ble_eq_true rfl), (Nat.le_of_ble_eq_true rfl)⟩) rl_0 kC_0 rfl rfl rfl (Nat.le_of_ble_eq_true rfl) d_Store_view_18 21 rfl [.int (v_Store_isServer n x)] rfl ?_
    refine z_if_eq S d_Store_view_21 39 (by decide) 24 rfl (fun h2 => ?_) (fun h2 => ?_)
    · refine z_iconst S d_Store_view_39 (-1) (by decide) 40 rfl ?_
      exact z_iret S hr hlk d_Store_view_40 (by unfold v_Store_view; simp only [if_neg h1, if_pos h2]) rfl
    · refine z_aload_n S d_Store_view_24 rfl 0 rfl 25 rfl ?_
      refine z_get S hK hin_Store rl_0 kC_0 rfl 0 (Nat.le_of_ble_eq_true rfl) (ht _ w_278) (fun _ h => h) d_Store_view_25 28 rfl (.ref (ad 10 0)) rfl ?_
      refine z_iload_n S d_Store_view_28 rfl 1 rfl 29 rfl ?_
      refine z_aald S hK rl_10 3 kC_10 rfl (in_srv hn5 h2) rfl d_Store_view_29 30 rfl ?_
      refine z_get S hK hin_Server (rl_srv (vp_lt (in_srv hn5 h2))) kC_1 rfl 1 (Nat.le_of_ble_eq_true rfl) (ht _ w_120) (fun _ h => h) d_Store_view_30 33 rfl (.ref (ad 6 x.toNatClampNeg)) rfl ?_
      refine z_callV S hK (As := []) (rest := []) (c_View_shown (a := x.toNatClampNeg) hJ (rl_sv (rl_srv (vp_lt (in_srv hn5 h2))))) (cw_View_shown hts w_503 rfl rfl ⟨(Nat.le_of_ble_eq_true rfl), (Nat.le_of_ble_eq_true rfl)⟩) (rl_sv (rl_srv (vp_lt (in_srv hn5 h2)))) kC_6 rfl rfl rfl (Nat.le_of_ble_eq_true rfl) d_Store_view_33 36 rfl [.int (v_View_shown (s 6 0 x.toNatClampNeg) (s 6 1 x.toNatClampNeg) (s 6 2 x.toNatClampNeg))] rfl ?_
      refine z_goto S d_Store_view_36 40 (by decide) ?_
      exact z_iret S hr hlk d_Store_view_40 (by unfold v_Store_view; simp only [if_neg h1, if_neg h2]) rfl
  · refine z_aload_n S d_Store_view_5 rfl 0 rfl 6 rfl ?_
    refine z_get S hK hin_Store rl_0 kC_0 rfl 2 (Nat.le_of_ble_eq_true rfl) (ht _ w_280) (fun _ h => h) d_Store_view_6 9 rfl (.ref (ad 3 0)) rfl ?_
    refine z_get S hK hin_Service rl_3 kC_3 rfl 0 (Nat.le_of_ble_eq_true rfl) (ht _ w_193) (fun _ h => h) d_Store_view_9 12 rfl (.ref (ad 6 7)) rfl ?_
    refine z_callV S hK (As := []) (rest := []) (c_View_shown (a := 7) hJ rl_67) (cw_View_shown hts w_503 rfl rfl ⟨(Nat.le_of_ble_eq_true rfl), (Nat.le_of_ble_eq_true rfl)⟩) rl_67 kC_6 rfl rfl rfl (Nat.le_of_ble_eq_true rfl) d_Store_view_12 15 rfl [.int (v_View_shown (s 6 0 7) (s 6 1 7) (s 6 2 7))] rfl ?_
    exact z_iret S hr hlk d_Store_view_15 (by unfold v_Store_view; simp only [if_pos h1]) rfl
theorem d_Store_role_0 : decode prog_1_method_15_code 0 = .ok (.aload_n 0, 1) := by decide +kernel
theorem d_Store_role_1 : decode prog_1_method_15_code 1 = .ok (.iload_n 1, 1) := by decide +kernel
theorem d_Store_role_2 : decode prog_1_method_15_code 2 = .ok (.invokevirtual 52, 3) := by decide +kernel
theorem d_Store_role_5 : decode prog_1_method_15_code 5 = .ok (.ifCond .ne 5, 3) := by decide +kernel
theorem d_Store_role_8 : decode prog_1_method_15_code 8 = .ok (.iconst (-1), 1) := by decide +kernel
theorem d_Store_role_9 : decode prog_1_method_15_code 9 = .ok (.ireturn, 1) := by decide +kernel
theorem d_Store_role_10 : decode prog_1_method_15_code 10 = .ok (.aload_n 0, 1) := by decide +kernel
theorem d_Store_role_11 : decode prog_1_method_15_code 11 = .ok (.getfield 20, 3) := by decide +kernel
theorem d_Store_role_14 : decode prog_1_method_15_code 14 = .ok (.iload_n 1, 1) := by decide +kernel
theorem d_Store_role_15 : decode prog_1_method_15_code 15 = .ok (.aaload, 1) := by decide +kernel
theorem d_Store_role_16 : decode prog_1_method_15_code 16 = .ok (.invokevirtual 172, 3) := by decide +kernel
theorem d_Store_role_19 : decode prog_1_method_15_code 19 = .ok (.istore_n 2, 1) := by decide +kernel
theorem d_Store_role_20 : decode prog_1_method_15_code 20 = .ok (.aload_n 0, 1) := by decide +kernel
theorem d_Store_role_21 : decode prog_1_method_15_code 21 = .ok (.getfield 20, 3) := by decide +kernel
theorem d_Store_role_24 : decode prog_1_method_15_code 24 = .ok (.iload_n 1, 1) := by decide +kernel
theorem d_Store_role_25 : decode prog_1_method_15_code 25 = .ok (.aaload, 1) := by decide +kernel
theorem d_Store_role_26 : decode prog_1_method_15_code 26 = .ok (.getfield 59, 3) := by decide +kernel
theorem d_Store_role_29 : decode prog_1_method_15_code 29 = .ok (.ifCond .eq 10, 3) := by decide +kernel
theorem d_Store_role_32 : decode prog_1_method_15_code 32 = .ok (.iload_n 2, 1) := by decide +kernel
theorem d_Store_role_33 : decode prog_1_method_15_code 33 = .ok (.bipush 8, 2) := by decide +kernel
theorem d_Store_role_35 : decode prog_1_method_15_code 35 = .ok (.iadd, 1) := by decide +kernel
theorem d_Store_role_36 : decode prog_1_method_15_code 36 = .ok (.goto 4, 3) := by decide +kernel
theorem d_Store_role_39 : decode prog_1_method_15_code 39 = .ok (.iload_n 2, 1) := by decide +kernel
theorem d_Store_role_40 : decode prog_1_method_15_code 40 = .ok (.ireturn, 1) := by decide +kernel
def v_Store_role (n : Nat) (x0 : Int32) (x1 : Int32) (x2 : Int32) (x3 : Int32) (x4 : Int32) (x5 : Int32) (x6 : Int32) (x7 : Int32) (x : Int32) : Int32 := if (v_Store_isServer n x) = 0 then (-1) else if (x0) = 0 then (v_Server_liveRole (x1) (x2) (x3) (x4) (x5) (x6) (x7)) else (v_Server_liveRole (x1) (x2) (x3) (x4) (x5) (x6) (x7)) + 8
set_option maxHeartbeats 4000000 in
set_option maxRecDepth 100000 in
theorem c_Store_role {l : Launch} {D : va_G} {K : Nat → ClassId} {ad : Nat → Nat → Nat} {n : Nat} {π : Nat → Nat} {s : S3} {x : Int32} (hJ : zw_J (cRL n) ad) (hn5 : n ≤ 5) : zM l y_Store_role ws_Store_role ({ frames := 1, cells := 0, slots := 0, locals := 21 }) D zCl (zTys K) (cRL n) ad [.ref (ad 0 0), .int x] (kC K ad n s π) (some (.int (v_Store_role n (s 1 6 x.toNatClampNeg) (s 6 0 x.toNatClampNeg) (s 6 1 x.toNatClampNeg) (s 1 0 x.toNatClampNeg) (s 1 7 x.toNatClampNeg) (s 1 8 x.toNatClampNeg) (s 6 2 x.toNatClampNeg) (s 1 9 x.toNatClampNeg) x))) (kC K ad n (s) π) := by
  refine zM.of (cc := prog_1_method_15_code) (maxL := 3) (ret := (Option.some Jvm.ClassFile.FieldType.int)) (by decide) rfl (Nat.le_of_ble_eq_true rfl) ?_
  intro pP eE U mM bL mT cO S hr hlk hK
  have hts := S.2.2.2.2
  have ht := fun w h => hts w (List.mem_cons_of_mem _ h)
  refine z_aload_n S d_Store_role_0 rfl 0 rfl 1 rfl ?_
  refine z_iload_n S d_Store_role_1 rfl 1 rfl 2 rfl ?_
  refine z_callV S hK (As := [.int x]) (rest := []) (c_Store_isServer (x := x) hJ) (cw_Store_isServer hts w_302 rfl rfl ⟨(Nat.le_of_ble_eq_true rfl), (Nat.le_of_ble_eq_true rfl)⟩) rl_0 kC_0 rfl rfl rfl (Nat.le_of_ble_eq_true rfl) d_Store_role_2 5 rfl [.int (v_Store_isServer n x)] rfl ?_
  refine z_if_ne S d_Store_role_5 10 (by decide) 8 rfl (fun h1 => ?_) (fun h1 => ?_)
  · refine z_aload_n S d_Store_role_10 rfl 0 rfl 11 rfl ?_
    refine z_get S hK hin_Store rl_0 kC_0 rfl 0 (Nat.le_of_ble_eq_true rfl) (ht _ w_278) (fun _ h => h) d_Store_role_11 14 rfl (.ref (ad 10 0)) rfl ?_
    refine z_iload_n S d_Store_role_14 rfl 1 rfl 15 rfl ?_
    refine z_aald S hK rl_10 3 kC_10 rfl (in_srv hn5 h1) rfl d_Store_role_15 16 rfl ?_
    refine z_callV S hK (As := []) (rest := []) (c_Server_liveRole (i := x.toNatClampNeg) hJ (rl_srv (vp_lt (in_srv hn5 h1)))) (cw_Server_liveRole hts w_511 rfl rfl ⟨(Nat.le_of_ble_eq_true rfl), (Nat.le_of_ble_eq_true rfl)⟩) (rl_srv (vp_lt (in_srv hn5 h1))) kC_1 rfl rfl rfl (Nat.le_of_ble_eq_true rfl) d_Store_role_16 19 rfl [.int (v_Server_liveRole (s 6 0 x.toNatClampNeg) (s 6 1 x.toNatClampNeg) (s 1 0 x.toNatClampNeg) (s 1 7 x.toNatClampNeg) (s 1 8 x.toNatClampNeg) (s 6 2 x.toNatClampNeg) (s 1 9 x.toNatClampNeg))] rfl ?_
    refine z_istore_n S d_Store_role_19 rfl (Nat.le_of_ble_eq_true rfl) [(2, .int (v_Server_liveRole (s 6 0 x.toNatClampNeg) (s 6 1 x.toNatClampNeg) (s 1 0 x.toNatClampNeg) (s 1 7 x.toNatClampNeg) (s 1 8 x.toNatClampNeg) (s 6 2 x.toNatClampNeg) (s 1 9 x.toNatClampNeg))), (0, .ref (ad 0 0)), (1, .int x)] rfl 20 rfl ?_
    refine z_aload_n S d_Store_role_20 rfl 1 rfl 21 rfl ?_
    refine z_get S hK hin_Store rl_0 kC_0 rfl 0 (Nat.le_of_ble_eq_true rfl) (ht _ w_278) (fun _ h => h) d_Store_role_21 24 rfl (.ref (ad 10 0)) rfl ?_
    refine z_iload_n S d_Store_role_24 rfl 2 rfl 25 rfl ?_
    refine z_aald S hK rl_10 3 kC_10 rfl (in_srv hn5 h1) rfl d_Store_role_25 26 rfl ?_
    refine z_get S hK hin_Server (rl_srv (vp_lt (in_srv hn5 h1))) kC_1 rfl 6 (Nat.le_of_ble_eq_true rfl) (ht _ w_130) (fun _ h => h) d_Store_role_26 29 rfl (.int (s 1 6 x.toNatClampNeg)) rfl ?_
    refine z_if_eq S d_Store_role_29 39 (by decide) 32 rfl (fun h2 => ?_) (fun h2 => ?_)
    · refine z_iload_n S d_Store_role_39 rfl 0 rfl 40 rfl ?_
      exact z_iret S hr hlk d_Store_role_40 (by unfold v_Store_role; simp only [if_neg h1, if_pos h2]) rfl
    · refine z_iload_n S d_Store_role_32 rfl 0 rfl 33 rfl ?_
      refine z_bipush S d_Store_role_33 8 (by decide) 35 rfl ?_
      refine z_iadd S d_Store_role_35 36 rfl ?_
      refine z_goto S d_Store_role_36 40 (by decide) ?_
      exact z_iret S hr hlk d_Store_role_40 (by unfold v_Store_role; simp only [if_neg h1, if_neg h2]) rfl
  · refine z_iconst S d_Store_role_8 (-1) (by decide) 9 rfl ?_
    exact z_iret S hr hlk d_Store_role_9 (by unfold v_Store_role; simp only [if_pos h1]) rfl
theorem d_Store_cell_0 : decode prog_1_method_16_code 0 = .ok (.aload_n 0, 1) := by decide +kernel
theorem d_Store_cell_1 : decode prog_1_method_16_code 1 = .ok (.iload_n 1, 1) := by decide +kernel
theorem d_Store_cell_2 : decode prog_1_method_16_code 2 = .ok (.invokevirtual 52, 3) := by decide +kernel
theorem d_Store_cell_5 : decode prog_1_method_16_code 5 = .ok (.ifCond .eq 28, 3) := by decide +kernel
theorem d_Store_cell_8 : decode prog_1_method_16_code 8 = .ok (.aload_n 0, 1) := by decide +kernel
theorem d_Store_cell_9 : decode prog_1_method_16_code 9 = .ok (.iload_n 2, 1) := by decide +kernel
theorem d_Store_cell_10 : decode prog_1_method_16_code 10 = .ok (.invokevirtual 123, 3) := by decide +kernel
theorem d_Store_cell_13 : decode prog_1_method_16_code 13 = .ok (.ifCond .eq 20, 3) := by decide +kernel
theorem d_Store_cell_16 : decode prog_1_method_16_code 16 = .ok (.aload_n 0, 1) := by decide +kernel
theorem d_Store_cell_17 : decode prog_1_method_16_code 17 = .ok (.getfield 20, 3) := by decide +kernel
theorem d_Store_cell_20 : decode prog_1_method_16_code 20 = .ok (.iload_n 1, 1) := by decide +kernel
theorem d_Store_cell_21 : decode prog_1_method_16_code 21 = .ok (.aaload, 1) := by decide +kernel
theorem d_Store_cell_22 : decode prog_1_method_16_code 22 = .ok (.getfield 175, 3) := by decide +kernel
theorem d_Store_cell_25 : decode prog_1_method_16_code 25 = .ok (.getfield 179, 3) := by decide +kernel
theorem d_Store_cell_28 : decode prog_1_method_16_code 28 = .ok (.iload_n 2, 1) := by decide +kernel
theorem d_Store_cell_29 : decode prog_1_method_16_code 29 = .ok (.iaload, 1) := by decide +kernel
theorem d_Store_cell_30 : decode prog_1_method_16_code 30 = .ok (.goto 4, 3) := by decide +kernel
theorem d_Store_cell_33 : decode prog_1_method_16_code 33 = .ok (.iconst 0, 1) := by decide +kernel
theorem d_Store_cell_34 : decode prog_1_method_16_code 34 = .ok (.ireturn, 1) := by decide +kernel
def v_Store_cell (n : Nat) (x0 : Int32) (x : Int32) (k : Int32) : Int32 := if (v_Store_isServer n x) = 0 then 0 else if (v_Store_isCell k) = 0 then 0 else (x0)
set_option maxHeartbeats 4000000 in
set_option maxRecDepth 100000 in
theorem c_Store_cell {l : Launch} {D : va_G} {K : Nat → ClassId} {ad : Nat → Nat → Nat} {n : Nat} {π : Nat → Nat} {s : S3} {x k : Int32} (hJ : zw_J (cRL n) ad) (hn5 : n ≤ 5) : zM l y_Store_cell ws_Store_cell ({ frames := 1, cells := 0, slots := 0, locals := 21 }) D zCl (zTys K) (cRL n) ad [.ref (ad 0 0), .int x, .int k] (kC K ad n s π) (some (.int (v_Store_cell n (s 9 x.toNatClampNeg k.toNatClampNeg) x k))) (kC K ad n (s) π) := by
  refine zM.of (cc := prog_1_method_16_code) (maxL := 3) (ret := (Option.some Jvm.ClassFile.FieldType.int)) (by decide) rfl (Nat.le_of_ble_eq_true rfl) ?_
  intro pP eE U mM bL mT cO S hr hlk hK
  have hts := S.2.2.2.2
  have ht := fun w h => hts w (List.mem_cons_of_mem _ h)
  refine z_aload_n S d_Store_cell_0 rfl 0 rfl 1 rfl ?_
  refine z_iload_n S d_Store_cell_1 rfl 1 rfl 2 rfl ?_
  refine z_callV S hK (As := [.int x]) (rest := []) (c_Store_isServer (x := x) hJ) (cw_Store_isServer hts w_302 rfl rfl ⟨(Nat.le_of_ble_eq_true rfl), (Nat.le_of_ble_eq_true rfl)⟩) rl_0 kC_0 rfl rfl rfl (Nat.le_of_ble_eq_true rfl) d_Store_cell_2 5 rfl [.int (v_Store_isServer n x)] rfl ?_
  refine z_if_eq S d_Store_cell_5 33 (by decide) 8 rfl (fun h1 => ?_) (fun h1 => ?_)
  · refine z_iconst S d_Store_cell_33 0 (by decide) 34 rfl ?_
    exact z_iret S hr hlk d_Store_cell_34 (by unfold v_Store_cell; simp only [if_pos h1]) rfl
  · refine z_aload_n S d_Store_cell_8 rfl 0 rfl 9 rfl ?_
    refine z_iload_n S d_Store_cell_9 rfl 2 rfl 10 rfl ?_
    refine z_callV S hK (As := [.int k]) (rest := []) (c_Store_isCell (x := k) hJ) (cw_Store_isCell hts w_387 rfl rfl ⟨(Nat.le_of_ble_eq_true rfl), (Nat.le_of_ble_eq_true rfl)⟩) rl_0 kC_0 rfl rfl rfl (Nat.le_of_ble_eq_true rfl) d_Store_cell_10 13 rfl [.int (v_Store_isCell k)] rfl ?_
    refine z_if_eq S d_Store_cell_13 33 (by decide) 16 rfl (fun h2 => ?_) (fun h2 => ?_)
    · refine z_iconst S d_Store_cell_33 0 (by decide) 34 rfl ?_
      exact z_iret S hr hlk d_Store_cell_34 (by unfold v_Store_cell; simp only [if_neg h1, if_pos h2]) rfl
    · refine z_aload_n S d_Store_cell_16 rfl 0 rfl 17 rfl ?_
      refine z_get S hK hin_Store rl_0 kC_0 rfl 0 (Nat.le_of_ble_eq_true rfl) (ht _ w_278) (fun _ h => h) d_Store_cell_17 20 rfl (.ref (ad 10 0)) rfl ?_
      refine z_iload_n S d_Store_cell_20 rfl 1 rfl 21 rfl ?_
      refine z_aald S hK rl_10 3 kC_10 rfl (in_srv hn5 h1) rfl d_Store_cell_21 22 rfl ?_
      refine z_get S hK hin_Server (rl_srv (vp_lt (in_srv hn5 h1))) kC_1 rfl 2 (Nat.le_of_ble_eq_true rfl) (ht _ w_122) (fun _ h => h) d_Store_cell_22 25 rfl (.ref (ad 8 x.toNatClampNeg)) rfl ?_
      refine z_get S hK hin_State (rl_ss (rl_srv (vp_lt (in_srv hn5 h1)))) kC_8 rfl 0 (Nat.le_of_ble_eq_true rfl) (ht _ w_66) (fun _ h => h) d_Store_cell_25 28 rfl (.ref (ad 9 x.toNatClampNeg)) rfl ?_
      refine z_iload_n S d_Store_cell_28 rfl 2 rfl 29 rfl ?_
      refine z_iald S hK (rl_s9 (rl_ss (rl_srv (vp_lt (in_srv hn5 h1))))) 0 kC_9 rfl (in_cel h2) d_Store_cell_29 30 rfl (s 9 x.toNatClampNeg k.toNatClampNeg) rfl ?_
      refine z_goto S d_Store_cell_30 34 (by decide) ?_
      exact z_iret S hr hlk d_Store_cell_34 (by unfold v_Store_cell; simp only [if_neg h1, if_neg h2]) rfl
theorem d_Store_count_0 : decode prog_1_method_17_code 0 = .ok (.aload_n 0, 1) := by decide +kernel
theorem d_Store_count_1 : decode prog_1_method_17_code 1 = .ok (.iload_n 1, 1) := by decide +kernel
theorem d_Store_count_2 : decode prog_1_method_17_code 2 = .ok (.invokevirtual 52, 3) := by decide +kernel
theorem d_Store_count_5 : decode prog_1_method_17_code 5 = .ok (.ifCond .eq 18, 3) := by decide +kernel
theorem d_Store_count_8 : decode prog_1_method_17_code 8 = .ok (.aload_n 0, 1) := by decide +kernel
theorem d_Store_count_9 : decode prog_1_method_17_code 9 = .ok (.getfield 20, 3) := by decide +kernel
theorem d_Store_count_12 : decode prog_1_method_17_code 12 = .ok (.iload_n 1, 1) := by decide +kernel
theorem d_Store_count_13 : decode prog_1_method_17_code 13 = .ok (.aaload, 1) := by decide +kernel
theorem d_Store_count_14 : decode prog_1_method_17_code 14 = .ok (.getfield 175, 3) := by decide +kernel
theorem d_Store_count_17 : decode prog_1_method_17_code 17 = .ok (.getfield 185, 3) := by decide +kernel
theorem d_Store_count_20 : decode prog_1_method_17_code 20 = .ok (.goto 4, 3) := by decide +kernel
theorem d_Store_count_23 : decode prog_1_method_17_code 23 = .ok (.iconst (-1), 1) := by decide +kernel
theorem d_Store_count_24 : decode prog_1_method_17_code 24 = .ok (.ireturn, 1) := by decide +kernel
def v_Store_count (n : Nat) (x0 : Int32) (x : Int32) : Int32 := if (v_Store_isServer n x) = 0 then (-1) else (x0)
set_option maxHeartbeats 4000000 in
set_option maxRecDepth 100000 in
theorem c_Store_count {l : Launch} {D : va_G} {K : Nat → ClassId} {ad : Nat → Nat → Nat} {n : Nat} {π : Nat → Nat} {s : S3} {x : Int32} (hJ : zw_J (cRL n) ad) (hn5 : n ≤ 5) : zM l y_Store_count ws_Store_count ({ frames := 1, cells := 0, slots := 0, locals := 21 }) D zCl (zTys K) (cRL n) ad [.ref (ad 0 0), .int x] (kC K ad n s π) (some (.int (v_Store_count n (s 8 3 x.toNatClampNeg) x))) (kC K ad n (s) π) := by
  refine zM.of (cc := prog_1_method_17_code) (maxL := 2) (ret := (Option.some Jvm.ClassFile.FieldType.int)) (by decide) rfl (Nat.le_of_ble_eq_true rfl) ?_
  intro pP eE U mM bL mT cO S hr hlk hK
  have hts := S.2.2.2.2
  have ht := fun w h => hts w (List.mem_cons_of_mem _ h)
  refine z_aload_n S d_Store_count_0 rfl 0 rfl 1 rfl ?_
  refine z_iload_n S d_Store_count_1 rfl 1 rfl 2 rfl ?_
  refine z_callV S hK (As := [.int x]) (rest := []) (c_Store_isServer (x := x) hJ) (cw_Store_isServer hts w_302 rfl rfl ⟨(Nat.le_of_ble_eq_true rfl), (Nat.le_of_ble_eq_true rfl)⟩) rl_0 kC_0 rfl rfl rfl (Nat.le_of_ble_eq_true rfl) d_Store_count_2 5 rfl [.int (v_Store_isServer n x)] rfl ?_
  refine z_if_eq S d_Store_count_5 23 (by decide) 8 rfl (fun h1 => ?_) (fun h1 => ?_)
  · refine z_iconst S d_Store_count_23 (-1) (by decide) 24 rfl ?_
    exact z_iret S hr hlk d_Store_count_24 (by unfold v_Store_count; simp only [if_pos h1]) rfl
  · refine z_aload_n S d_Store_count_8 rfl 0 rfl 9 rfl ?_
    refine z_get S hK hin_Store rl_0 kC_0 rfl 0 (Nat.le_of_ble_eq_true rfl) (ht _ w_278) (fun _ h => h) d_Store_count_9 12 rfl (.ref (ad 10 0)) rfl ?_
    refine z_iload_n S d_Store_count_12 rfl 1 rfl 13 rfl ?_
    refine z_aald S hK rl_10 3 kC_10 rfl (in_srv hn5 h1) rfl d_Store_count_13 14 rfl ?_
    refine z_get S hK hin_Server (rl_srv (vp_lt (in_srv hn5 h1))) kC_1 rfl 2 (Nat.le_of_ble_eq_true rfl) (ht _ w_122) (fun _ h => h) d_Store_count_14 17 rfl (.ref (ad 8 x.toNatClampNeg)) rfl ?_
    refine z_get S hK hin_State (rl_ss (rl_srv (vp_lt (in_srv hn5 h1)))) kC_8 rfl 3 (Nat.le_of_ble_eq_true rfl) (ht _ w_72) (fun _ h => h) d_Store_count_17 20 rfl (.int (s 8 3 x.toNatClampNeg)) rfl ?_
    refine z_goto S d_Store_count_20 24 (by decide) ?_
    exact z_iret S hr hlk d_Store_count_24 (by unfold v_Store_count; simp only [if_neg h1]) rfl
theorem d_Store_finished_0 : decode prog_1_method_18_code 0 = .ok (.aload_n 0, 1) := by decide +kernel
theorem d_Store_finished_1 : decode prog_1_method_18_code 1 = .ok (.iload_n 1, 1) := by decide +kernel
theorem d_Store_finished_2 : decode prog_1_method_18_code 2 = .ok (.invokevirtual 120, 3) := by decide +kernel
theorem d_Store_finished_5 : decode prog_1_method_18_code 5 = .ok (.ifCond .eq 15, 3) := by decide +kernel
theorem d_Store_finished_8 : decode prog_1_method_18_code 8 = .ok (.aload_n 0, 1) := by decide +kernel
theorem d_Store_finished_9 : decode prog_1_method_18_code 9 = .ok (.getfield 29, 3) := by decide +kernel
theorem d_Store_finished_12 : decode prog_1_method_18_code 12 = .ok (.iload_n 1, 1) := by decide +kernel
theorem d_Store_finished_13 : decode prog_1_method_18_code 13 = .ok (.aaload, 1) := by decide +kernel
theorem d_Store_finished_14 : decode prog_1_method_18_code 14 = .ok (.getfield 188, 3) := by decide +kernel
theorem d_Store_finished_17 : decode prog_1_method_18_code 17 = .ok (.goto 4, 3) := by decide +kernel
theorem d_Store_finished_20 : decode prog_1_method_18_code 20 = .ok (.iconst (-1), 1) := by decide +kernel
theorem d_Store_finished_21 : decode prog_1_method_18_code 21 = .ok (.ireturn, 1) := by decide +kernel
def v_Store_finished (x0 : Int32) (x : Int32) : Int32 := if (v_Store_isClient x) = 0 then (-1) else (x0)
set_option maxHeartbeats 4000000 in
set_option maxRecDepth 100000 in
theorem c_Store_finished {l : Launch} {D : va_G} {K : Nat → ClassId} {ad : Nat → Nat → Nat} {n : Nat} {π : Nat → Nat} {s : S3} {x : Int32} (hJ : zw_J (cRL n) ad) : zM l y_Store_finished ws_Store_finished ({ frames := 1, cells := 0, slots := 0, locals := 21 }) D zCl (zTys K) (cRL n) ad [.ref (ad 0 0), .int x] (kC K ad n s π) (some (.int (v_Store_finished (s 2 2 x.toNatClampNeg) x))) (kC K ad n (s) π) := by
  refine zM.of (cc := prog_1_method_18_code) (maxL := 2) (ret := (Option.some Jvm.ClassFile.FieldType.int)) (by decide) rfl (Nat.le_of_ble_eq_true rfl) ?_
  intro pP eE U mM bL mT cO S hr hlk hK
  have hts := S.2.2.2.2
  have ht := fun w h => hts w (List.mem_cons_of_mem _ h)
  refine z_aload_n S d_Store_finished_0 rfl 0 rfl 1 rfl ?_
  refine z_iload_n S d_Store_finished_1 rfl 1 rfl 2 rfl ?_
  refine z_callV S hK (As := [.int x]) (rest := []) (c_Store_isClient (x := x) hJ) (cw_Store_isClient hts w_383 rfl rfl ⟨(Nat.le_of_ble_eq_true rfl), (Nat.le_of_ble_eq_true rfl)⟩) rl_0 kC_0 rfl rfl rfl (Nat.le_of_ble_eq_true rfl) d_Store_finished_2 5 rfl [.int (v_Store_isClient x)] rfl ?_
  refine z_if_eq S d_Store_finished_5 20 (by decide) 8 rfl (fun h1 => ?_) (fun h1 => ?_)
  · refine z_iconst S d_Store_finished_20 (-1) (by decide) 21 rfl ?_
    exact z_iret S hr hlk d_Store_finished_21 (by unfold v_Store_finished; simp only [if_pos h1]) rfl
  · refine z_aload_n S d_Store_finished_8 rfl 0 rfl 9 rfl ?_
    refine z_get S hK hin_Store rl_0 kC_0 rfl 1 (Nat.le_of_ble_eq_true rfl) (ht _ w_279) (fun _ h => h) d_Store_finished_9 12 rfl (.ref (ad 11 0)) rfl ?_
    refine z_iload_n S d_Store_finished_12 rfl 1 rfl 13 rfl ?_
    refine z_aald S hK rl_11 4 kC_11 rfl (in_cli h1) rfl d_Store_finished_13 14 rfl ?_
    refine z_get S hK hin_Client (rl_cli (vp_lt (in_cli h1))) kC_2 rfl 2 (Nat.le_of_ble_eq_true rfl) (ht _ w_172) (fun _ h => h) d_Store_finished_14 17 rfl (.int (s 2 2 x.toNatClampNeg)) rfl ?_
    refine z_goto S d_Store_finished_17 21 (by decide) ?_
    exact z_iret S hr hlk d_Store_finished_21 (by unfold v_Store_finished; simp only [if_neg h1]) rfl
theorem d_Store_result_0 : decode prog_1_method_19_code 0 = .ok (.aload_n 0, 1) := by decide +kernel
theorem d_Store_result_1 : decode prog_1_method_19_code 1 = .ok (.iload_n 1, 1) := by decide +kernel
theorem d_Store_result_2 : decode prog_1_method_19_code 2 = .ok (.invokevirtual 120, 3) := by decide +kernel
theorem d_Store_result_5 : decode prog_1_method_19_code 5 = .ok (.ifCond .eq 15, 3) := by decide +kernel
theorem d_Store_result_8 : decode prog_1_method_19_code 8 = .ok (.aload_n 0, 1) := by decide +kernel
theorem d_Store_result_9 : decode prog_1_method_19_code 9 = .ok (.getfield 29, 3) := by decide +kernel
theorem d_Store_result_12 : decode prog_1_method_19_code 12 = .ok (.iload_n 1, 1) := by decide +kernel
theorem d_Store_result_13 : decode prog_1_method_19_code 13 = .ok (.aaload, 1) := by decide +kernel
theorem d_Store_result_14 : decode prog_1_method_19_code 14 = .ok (.getfield 191, 3) := by decide +kernel
theorem d_Store_result_17 : decode prog_1_method_19_code 17 = .ok (.goto 4, 3) := by decide +kernel
theorem d_Store_result_20 : decode prog_1_method_19_code 20 = .ok (.iconst 0, 1) := by decide +kernel
theorem d_Store_result_21 : decode prog_1_method_19_code 21 = .ok (.ireturn, 1) := by decide +kernel
def v_Store_result (x0 : Int32) (x : Int32) : Int32 := if (v_Store_isClient x) = 0 then 0 else (x0)
set_option maxHeartbeats 4000000 in
set_option maxRecDepth 100000 in
theorem c_Store_result {l : Launch} {D : va_G} {K : Nat → ClassId} {ad : Nat → Nat → Nat} {n : Nat} {π : Nat → Nat} {s : S3} {x : Int32} (hJ : zw_J (cRL n) ad) : zM l y_Store_result ws_Store_result ({ frames := 1, cells := 0, slots := 0, locals := 21 }) D zCl (zTys K) (cRL n) ad [.ref (ad 0 0), .int x] (kC K ad n s π) (some (.int (v_Store_result (s 2 3 x.toNatClampNeg) x))) (kC K ad n (s) π) := by
  refine zM.of (cc := prog_1_method_19_code) (maxL := 2) (ret := (Option.some Jvm.ClassFile.FieldType.int)) (by decide) rfl (Nat.le_of_ble_eq_true rfl) ?_
  intro pP eE U mM bL mT cO S hr hlk hK
  have hts := S.2.2.2.2
  have ht := fun w h => hts w (List.mem_cons_of_mem _ h)
  refine z_aload_n S d_Store_result_0 rfl 0 rfl 1 rfl ?_
  refine z_iload_n S d_Store_result_1 rfl 1 rfl 2 rfl ?_
  refine z_callV S hK (As := [.int x]) (rest := []) (c_Store_isClient (x := x) hJ) (cw_Store_isClient hts w_383 rfl rfl ⟨(Nat.le_of_ble_eq_true rfl), (Nat.le_of_ble_eq_true rfl)⟩) rl_0 kC_0 rfl rfl rfl (Nat.le_of_ble_eq_true rfl) d_Store_result_2 5 rfl [.int (v_Store_isClient x)] rfl ?_
  refine z_if_eq S d_Store_result_5 20 (by decide) 8 rfl (fun h1 => ?_) (fun h1 => ?_)
  · refine z_iconst S d_Store_result_20 0 (by decide) 21 rfl ?_
    exact z_iret S hr hlk d_Store_result_21 (by unfold v_Store_result; simp only [if_pos h1]) rfl
  · refine z_aload_n S d_Store_result_8 rfl 0 rfl 9 rfl ?_
    refine z_get S hK hin_Store rl_0 kC_0 rfl 1 (Nat.le_of_ble_eq_true rfl) (ht _ w_279) (fun _ h => h) d_Store_result_9 12 rfl (.ref (ad 11 0)) rfl ?_
    refine z_iload_n S d_Store_result_12 rfl 1 rfl 13 rfl ?_
    refine z_aald S hK rl_11 4 kC_11 rfl (in_cli h1) rfl d_Store_result_13 14 rfl ?_
    refine z_get S hK hin_Client (rl_cli (vp_lt (in_cli h1))) kC_2 rfl 3 (Nat.le_of_ble_eq_true rfl) (ht _ w_174) (fun _ h => h) d_Store_result_14 17 rfl (.int (s 2 3 x.toNatClampNeg)) rfl ?_
    refine z_goto S d_Store_result_17 21 (by decide) ?_
    exact z_iret S hr hlk d_Store_result_21 (by unfold v_Store_result; simp only [if_neg h1]) rfl
theorem d_Store_begin_0 : decode prog_1_method_7_code 0 = .ok (.aload_n 0, 1) := by decide +kernel
theorem d_Store_begin_1 : decode prog_1_method_7_code 1 = .ok (.iload_n 1, 1) := by decide +kernel
theorem d_Store_begin_2 : decode prog_1_method_7_code 2 = .ok (.invokevirtual 120, 3) := by decide +kernel
theorem d_Store_begin_5 : decode prog_1_method_7_code 5 = .ok (.ifCond .eq 11, 3) := by decide +kernel
theorem d_Store_begin_8 : decode prog_1_method_7_code 8 = .ok (.aload_n 0, 1) := by decide +kernel
theorem d_Store_begin_9 : decode prog_1_method_7_code 9 = .ok (.iload_n 3, 1) := by decide +kernel
theorem d_Store_begin_10 : decode prog_1_method_7_code 10 = .ok (.invokevirtual 123, 3) := by decide +kernel
theorem d_Store_begin_13 : decode prog_1_method_7_code 13 = .ok (.ifCond .ne 5, 3) := by decide +kernel
theorem d_Store_begin_16 : decode prog_1_method_7_code 16 = .ok (.iconst (-1), 1) := by decide +kernel
theorem d_Store_begin_17 : decode prog_1_method_7_code 17 = .ok (.ireturn, 1) := by decide +kernel
theorem d_Store_begin_18 : decode prog_1_method_7_code 18 = .ok (.aload_n 0, 1) := by decide +kernel
theorem d_Store_begin_19 : decode prog_1_method_7_code 19 = .ok (.getfield 29, 3) := by decide +kernel
theorem d_Store_begin_22 : decode prog_1_method_7_code 22 = .ok (.iload_n 1, 1) := by decide +kernel
theorem d_Store_begin_23 : decode prog_1_method_7_code 23 = .ok (.aaload, 1) := by decide +kernel
theorem d_Store_begin_24 : decode prog_1_method_7_code 24 = .ok (.astore 5, 2) := by decide +kernel
theorem d_Store_begin_26 : decode prog_1_method_7_code 26 = .ok (.aload 5, 2) := by decide +kernel
theorem d_Store_begin_28 : decode prog_1_method_7_code 28 = .ok (.getfield 126, 3) := by decide +kernel
theorem d_Store_begin_31 : decode prog_1_method_7_code 31 = .ok (.ifCond .eq 6, 3) := by decide +kernel
theorem d_Store_begin_34 : decode prog_1_method_7_code 34 = .ok (.bipush (-2), 2) := by decide +kernel
theorem d_Store_begin_36 : decode prog_1_method_7_code 36 = .ok (.ireturn, 1) := by decide +kernel
theorem d_Store_begin_37 : decode prog_1_method_7_code 37 = .ok (.aload 5, 2) := by decide +kernel
theorem d_Store_begin_39 : decode prog_1_method_7_code 39 = .ok (.iload_n 2, 1) := by decide +kernel
theorem d_Store_begin_40 : decode prog_1_method_7_code 40 = .ok (.iload_n 3, 1) := by decide +kernel
theorem d_Store_begin_41 : decode prog_1_method_7_code 41 = .ok (.iload 4, 2) := by decide +kernel
theorem d_Store_begin_43 : decode prog_1_method_7_code 43 = .ok (.invokevirtual 129, 3) := by decide +kernel
theorem d_Store_begin_46 : decode prog_1_method_7_code 46 = .ok (.aload 5, 2) := by decide +kernel
theorem d_Store_begin_48 : decode prog_1_method_7_code 48 = .ok (.getfield 133, 3) := by decide +kernel
theorem d_Store_begin_51 : decode prog_1_method_7_code 51 = .ok (.getfield 137, 3) := by decide +kernel
theorem d_Store_begin_54 : decode prog_1_method_7_code 54 = .ok (.ireturn, 1) := by decide +kernel
def S_Store_begin (n : Nat) (π : Nat → Nat) (s : S3) (x : Int32) (w : Int32) (k : Int32) (v : Int32) : S3 := if (v_Store_isClient x) = 0 then s else if (v_Store_isCell k) = 0 then s else if (s 2 1 x.toNatClampNeg) = 0 then (S_Client_start π s x.toNatClampNeg w k v) else s
def v_Store_begin (n : Nat) (π : Nat → Nat) (s : S3) (x : Int32) (w : Int32) (k : Int32) (v : Int32) : Int32 := if (v_Store_isClient x) = 0 then (-1) else if (v_Store_isCell k) = 0 then (-1) else if (s 2 1 x.toNatClampNeg) = 0 then ((u3 s 7 1 (5 + x.toNatClampNeg) ((s 7 1 (5 + x.toNatClampNeg)) + 1)) 7 1 (5 + (x.toNatClampNeg))) else (-2)
set_option maxHeartbeats 4000000 in
set_option maxRecDepth 100000 in
theorem c_Store_begin {l : Launch} {D : va_G} {K : Nat → ClassId} {ad : Nat → Nat → Nat} {n : Nat} {π : Nat → Nat} {s : S3} {x w k v : Int32} (hJ : zw_J (cRL n) ad) (hz : zb w) : zM l y_Store_begin ws_Store_begin ({ frames := 1, cells := 0, slots := 0, locals := 23 }) D zCl (zTys K) (cRL n) ad [.ref (ad 0 0), .int x, .int w, .int k, .int v] (kC K ad n s π) (some (.int (v_Store_begin n π s x w k v))) (kC K ad n (S_Store_begin n π s x w k v) π) := by
  refine zM.of (cc := prog_1_method_7_code) (maxL := 6) (ret := (Option.some Jvm.ClassFile.FieldType.int)) (by decide) rfl (Nat.le_of_ble_eq_true rfl) ?_
  intro pP eE U mM bL mT cO S hr hlk hK
  have hts := S.2.2.2.2
  have ht := fun w h => hts w (List.mem_cons_of_mem _ h)
  refine z_aload_n S d_Store_begin_0 rfl 0 rfl 1 rfl ?_
  refine z_iload_n S d_Store_begin_1 rfl 1 rfl 2 rfl ?_
  refine z_callV S hK (As := [.int x]) (rest := []) (c_Store_isClient (x := x) hJ) (cw_Store_isClient hts w_383 rfl rfl ⟨(Nat.le_of_ble_eq_true rfl), (Nat.le_of_ble_eq_true rfl)⟩) rl_0 kC_0 rfl rfl rfl (Nat.le_of_ble_eq_true rfl) d_Store_begin_2 5 rfl [.int (v_Store_isClient x)] rfl ?_
  refine z_if_eq S d_Store_begin_5 16 (by decide) 8 rfl (fun h1 => ?_) (fun h1 => ?_)
  · refine z_iconst S d_Store_begin_16 (-1) (by decide) 17 rfl ?_
    exact z_iret S hr hlk d_Store_begin_17 (by unfold v_Store_begin; simp only [if_pos h1]) (kC_eq (by unfold S_Store_begin; simp only [if_pos h1]))
  · refine z_aload_n S d_Store_begin_8 rfl 0 rfl 9 rfl ?_
    refine z_iload_n S d_Store_begin_9 rfl 3 rfl 10 rfl ?_
    refine z_callV S hK (As := [.int k]) (rest := []) (c_Store_isCell (x := k) hJ) (cw_Store_isCell hts w_387 rfl rfl ⟨(Nat.le_of_ble_eq_true rfl), (Nat.le_of_ble_eq_true rfl)⟩) rl_0 kC_0 rfl rfl rfl (Nat.le_of_ble_eq_true rfl) d_Store_begin_10 13 rfl [.int (v_Store_isCell k)] rfl ?_
    refine z_if_ne S d_Store_begin_13 18 (by decide) 16 rfl (fun h2 => ?_) (fun h2 => ?_)
    · refine z_aload_n S d_Store_begin_18 rfl 0 rfl 19 rfl ?_
      refine z_get S hK hin_Store rl_0 kC_0 rfl 1 (Nat.le_of_ble_eq_true rfl) (ht _ w_279) (fun _ h => h) d_Store_begin_19 22 rfl (.ref (ad 11 0)) rfl ?_
      refine z_iload_n S d_Store_begin_22 rfl 1 rfl 23 rfl ?_
      refine z_aald S hK rl_11 4 kC_11 rfl (in_cli h1) rfl d_Store_begin_23 24 rfl ?_
      refine z_astore S d_Store_begin_24 (Nat.le_of_ble_eq_true rfl) [(5, .ref (ad 2 x.toNatClampNeg)), (0, .ref (ad 0 0)), (1, .int x), (2, .int w), (3, .int k), (4, .int v)] rfl 26 rfl ?_
      refine z_aload S d_Store_begin_26 0 rfl 28 rfl ?_
      refine z_get S hK hin_Client (rl_cli (vp_lt (in_cli h1))) kC_2 rfl 1 (Nat.le_of_ble_eq_true rfl) (ht _ w_170) (fun _ h => h) d_Store_begin_28 31 rfl (.int (s 2 1 x.toNatClampNeg)) rfl ?_
      refine z_if_eq S d_Store_begin_31 37 (by decide) 34 rfl (fun h3 => ?_) (fun h3 => ?_)
      · refine z_aload S d_Store_begin_37 0 rfl 39 rfl ?_
        refine z_iload_n S d_Store_begin_39 rfl 3 rfl 40 rfl ?_
        refine z_iload_n S d_Store_begin_40 rfl 4 rfl 41 rfl ?_
        refine z_iload S d_Store_begin_41 5 rfl 43 rfl ?_
        refine z_callV S hK (As := [.int w, .int k, .int v]) (rest := []) (c_Client_start (c := x.toNatClampNeg) (w := w) (k := k) (v := v) hJ (rl_cli (vp_lt (in_cli h1))) hz) (cw_Client_start hts w_391 rfl rfl ⟨(Nat.le_of_ble_eq_true rfl), (Nat.le_of_ble_eq_true rfl)⟩) (rl_cli (vp_lt (in_cli h1))) kC_2 rfl rfl rfl (Nat.le_of_ble_eq_true rfl) d_Store_begin_43 46 rfl [] rfl ?_
        refine z_aload S d_Store_begin_46 0 rfl 48 rfl ?_
        refine z_get S hK hin_Client (rl_cli (vp_lt (in_cli h1))) kC_2 rfl 0 (Nat.le_of_ble_eq_true rfl) (ht _ w_168) (fun _ h => h) d_Store_begin_48 51 rfl (.ref (ad 7 (5 + (x.toNatClampNeg)))) rfl ?_
        refine z_get S hK hin_Operation (rl_co (rl_cli (vp_lt (in_cli h1)))) kC_7 rfl 1 (Nat.le_of_ble_eq_true rfl) (ht _ w_96) (fun _ h => h) d_Store_begin_51 54 rfl (.int ((u3 s 7 1 (5 + x.toNatClampNeg) ((s 7 1 (5 + x.toNatClampNeg)) + 1)) 7 1 (5 + (x.toNatClampNeg)))) rfl ?_
        exact z_iret S hr hlk d_Store_begin_54 (by unfold v_Store_begin; simp only [if_neg h1, if_neg h2, if_pos h3]) (kC_eq (by unfold S_Store_begin; simp only [if_neg h1, if_neg h2, if_pos h3]))
      · refine z_bipush S d_Store_begin_34 (-2) (by decide) 36 rfl ?_
        exact z_iret S hr hlk d_Store_begin_36 (by unfold v_Store_begin; simp only [if_neg h1, if_neg h2, if_neg h3]) (kC_eq (by unfold S_Store_begin; simp only [if_neg h1, if_neg h2, if_neg h3]))
    · refine z_iconst S d_Store_begin_16 (-1) (by decide) 17 rfl ?_
      exact z_iret S hr hlk d_Store_begin_17 (by unfold v_Store_begin; simp only [if_neg h1, if_pos h2]) (kC_eq (by unfold S_Store_begin; simp only [if_neg h1, if_pos h2]))
theorem d_Store_send_0 : decode prog_1_method_8_code 0 = .ok (.aload_n 0, 1) := by decide +kernel
theorem d_Store_send_1 : decode prog_1_method_8_code 1 = .ok (.iload_n 1, 1) := by decide +kernel
theorem d_Store_send_2 : decode prog_1_method_8_code 2 = .ok (.invokevirtual 120, 3) := by decide +kernel
theorem d_Store_send_5 : decode prog_1_method_8_code 5 = .ok (.ifCond .eq 23, 3) := by decide +kernel
theorem d_Store_send_8 : decode prog_1_method_8_code 8 = .ok (.aload_n 0, 1) := by decide +kernel
theorem d_Store_send_9 : decode prog_1_method_8_code 9 = .ok (.iload_n 2, 1) := by decide +kernel
theorem d_Store_send_10 : decode prog_1_method_8_code 10 = .ok (.invokevirtual 52, 3) := by decide +kernel
theorem d_Store_send_13 : decode prog_1_method_8_code 13 = .ok (.ifCond .eq 15, 3) := by decide +kernel
theorem d_Store_send_16 : decode prog_1_method_8_code 16 = .ok (.aload_n 0, 1) := by decide +kernel
theorem d_Store_send_17 : decode prog_1_method_8_code 17 = .ok (.getfield 29, 3) := by decide +kernel
theorem d_Store_send_20 : decode prog_1_method_8_code 20 = .ok (.iload_n 1, 1) := by decide +kernel
theorem d_Store_send_21 : decode prog_1_method_8_code 21 = .ok (.aaload, 1) := by decide +kernel
theorem d_Store_send_22 : decode prog_1_method_8_code 22 = .ok (.getfield 126, 3) := by decide +kernel
theorem d_Store_send_25 : decode prog_1_method_8_code 25 = .ok (.ifCond .ne 5, 3) := by decide +kernel
theorem d_Store_send_28 : decode prog_1_method_8_code 28 = .ok (.iconst 0, 1) := by decide +kernel
theorem d_Store_send_29 : decode prog_1_method_8_code 29 = .ok (.ireturn, 1) := by decide +kernel
theorem d_Store_send_30 : decode prog_1_method_8_code 30 = .ok (.aload_n 0, 1) := by decide +kernel
theorem d_Store_send_31 : decode prog_1_method_8_code 31 = .ok (.getfield 44, 3) := by decide +kernel
theorem d_Store_send_34 : decode prog_1_method_8_code 34 = .ok (.bipush 7, 2) := by decide +kernel
theorem d_Store_send_36 : decode prog_1_method_8_code 36 = .ok (.iload_n 2, 1) := by decide +kernel
theorem d_Store_send_37 : decode prog_1_method_8_code 37 = .ok (.invokevirtual 63, 3) := by decide +kernel
theorem d_Store_send_40 : decode prog_1_method_8_code 40 = .ok (.getfield 140, 3) := by decide +kernel
theorem d_Store_send_43 : decode prog_1_method_8_code 43 = .ok (.aload_n 0, 1) := by decide +kernel
theorem d_Store_send_44 : decode prog_1_method_8_code 44 = .ok (.getfield 29, 3) := by decide +kernel
theorem d_Store_send_47 : decode prog_1_method_8_code 47 = .ok (.iload_n 1, 1) := by decide +kernel
theorem d_Store_send_48 : decode prog_1_method_8_code 48 = .ok (.aaload, 1) := by decide +kernel
theorem d_Store_send_49 : decode prog_1_method_8_code 49 = .ok (.getfield 133, 3) := by decide +kernel
theorem d_Store_send_52 : decode prog_1_method_8_code 52 = .ok (.invokevirtual 141, 3) := by decide +kernel
theorem d_Store_send_55 : decode prog_1_method_8_code 55 = .ok (.iconst 1, 1) := by decide +kernel
theorem d_Store_send_56 : decode prog_1_method_8_code 56 = .ok (.ireturn, 1) := by decide +kernel
def S_Store_send (n : Nat) (π : Nat → Nat) (s : S3) (x : Int32) (y : Int32) : S3 := if (v_Store_isClient x) = 0 then s else if (v_Store_isServer n y) = 0 then s else if (s 2 1 x.toNatClampNeg) = 0 then s else S_Operation_become π (S_Post_next π s 7 y) (8 + (nxL (s 4 2 0) π)) (5 + (x.toNatClampNeg))
def v_Store_send (n : Nat) (π : Nat → Nat) (s : S3) (x : Int32) (y : Int32) : Int32 := if (v_Store_isClient x) = 0 then 0 else if (v_Store_isServer n y) = 0 then 0 else if (s 2 1 x.toNatClampNeg) = 0 then 0 else 1
theorem zbv_Store_send {n : Nat} {π : Nat → Nat} {s : S3} {x : Int32} {y : Int32} : zb (v_Store_send n π s x y) := by
  unfold v_Store_send
  repeat' split
  all_goals first | with_reducible exact zb_0 | with_reducible exact zb_1 | with_reducible exact zbv_View_hasBackup | with_reducible exact zbv_Server_isPrimary | with_reducible exact zbv_Server_isPrimaryOf | with_reducible exact zbv_Server_isBackupOf | with_reducible exact zbv_Client_takeAnswer | with_reducible exact zbv_Service_isFresh | with_reducible exact zbv_Post_has | with_reducible exact zbv_Store_isServer | with_reducible exact zbv_Store_isClient | with_reducible exact zbv_Store_isCell | with_reducible exact zbv_Store_takeRead | with_reducible exact zbv_Store_takeWrite | with_reducible exact zbv_Store_takeAsk | with_reducible exact zbv_Store_takePassed | with_reducible exact zbv_Store_takePass | with_reducible exact zbv_Store_takeFilled | with_reducible exact zbv_Store_takeFill | with_reducible exact zbv_Store_takeView | with_reducible exact zbv_Store_takePing | with_reducible exact zbv_Store_takesEffect | with_reducible exact zbv_Store_skew | with_reducible exact zbv_Store_ping | with_reducible exact zbv_Store_push | with_reducible exact zbv_Store_crash
set_option maxHeartbeats 4000000 in
set_option maxRecDepth 100000 in
theorem c_Store_send {l : Launch} {D : va_G} {K : Nat → ClassId} {ad : Nat → Nat → Nat} {n : Nat} {π : Nat → Nat} {s : S3} {x y : Int32} (hJ : zw_J (cRL n) ad) (hn5 : n ≤ 5) (hw : vp_in (s 4 2 0) 33) (hπ : ∀ j, π j < 34) (hop : opOK s) : zM l y_Store_send ws_Store_send ({ frames := 1, cells := 0, slots := 0, locals := 23 }) D zCl (zTys K) (cRL n) ad [.ref (ad 0 0), .int x, .int y] (kC K ad n s π) (some (.int (v_Store_send n π s x y))) (kC K ad n (S_Store_send n π s x y) π) := by
  refine zM.of (cc := prog_1_method_8_code) (maxL := 3) (ret := (Option.some Jvm.ClassFile.FieldType.boolean)) (by decide) rfl (Nat.le_of_ble_eq_true rfl) ?_
  intro pP eE U mM bL mT cO S hr hlk hK
  have hts := S.2.2.2.2
  have ht := fun w h => hts w (List.mem_cons_of_mem _ h)
  refine z_aload_n S d_Store_send_0 rfl 0 rfl 1 rfl ?_
  refine z_iload_n S d_Store_send_1 rfl 1 rfl 2 rfl ?_
  refine z_callV S hK (As := [.int x]) (rest := []) (c_Store_isClient (x := x) hJ) (cw_Store_isClient hts w_383 rfl rfl ⟨(Nat.le_of_ble_eq_true rfl), (Nat.le_of_ble_eq_true rfl)⟩) rl_0 kC_0 rfl rfl rfl (Nat.le_of_ble_eq_true rfl) d_Store_send_2 5 rfl [.int (v_Store_isClient x)] rfl ?_
  refine z_if_eq S d_Store_send_5 28 (by decide) 8 rfl (fun h1 => ?_) (fun h1 => ?_)
  · refine z_iconst S d_Store_send_28 0 (by decide) 29 rfl ?_
    exact z_zret S hr (zb_n zb_0) hlk d_Store_send_29 (by unfold v_Store_send; simp only [if_pos h1]) (kC_eq (by unfold S_Store_send; simp only [if_pos h1]))
  · refine z_aload_n S d_Store_send_8 rfl 0 rfl 9 rfl ?_
    refine z_iload_n S d_Store_send_9 rfl 2 rfl 10 rfl ?_
    refine z_callV S hK (As := [.int y]) (rest := []) (c_Store_isServer (x := y) hJ) (cw_Store_isServer hts w_302 rfl rfl ⟨(Nat.le_of_ble_eq_true rfl), (Nat.le_of_ble_eq_true rfl)⟩) rl_0 kC_0 rfl rfl rfl (Nat.le_of_ble_eq_true rfl) d_Store_send_10 13 rfl [.int (v_Store_isServer n y)] rfl ?_
    refine z_if_eq S d_Store_send_13 28 (by decide) 16 rfl (fun h2 => ?_) (fun h2 => ?_)
    · refine z_iconst S d_Store_send_28 0 (by decide) 29 rfl ?_
      exact z_zret S hr (zb_n zb_0) hlk d_Store_send_29 (by unfold v_Store_send; simp only [if_neg h1, if_pos h2]) (kC_eq (by unfold S_Store_send; simp only [if_neg h1, if_pos h2]))
    · refine z_aload_n S d_Store_send_16 rfl 0 rfl 17 rfl ?_
      refine z_get S hK hin_Store rl_0 kC_0 rfl 1 (Nat.le_of_ble_eq_true rfl) (ht _ w_279) (fun _ h => h) d_Store_send_17 20 rfl (.ref (ad 11 0)) rfl ?_
      refine z_iload_n S d_Store_send_20 rfl 1 rfl 21 rfl ?_
      refine z_aald S hK rl_11 4 kC_11 rfl (in_cli h1) rfl d_Store_send_21 22 rfl ?_
      refine z_get S hK hin_Client (rl_cli (vp_lt (in_cli h1))) kC_2 rfl 1 (Nat.le_of_ble_eq_true rfl) (ht _ w_170) (fun _ h => h) d_Store_send_22 25 rfl (.int (s 2 1 x.toNatClampNeg)) rfl ?_
      refine z_if_ne S d_Store_send_25 30 (by decide) 28 rfl (fun h3 => ?_) (fun h3 => ?_)
      · refine z_aload_n S d_Store_send_30 rfl 0 rfl 31 rfl ?_
        refine z_get S hK hin_Store rl_0 kC_0 rfl 3 (Nat.le_of_ble_eq_true rfl) (ht _ w_281) (fun _ h => h) d_Store_send_31 34 rfl (.ref (ad 4 0)) rfl ?_
        refine z_bipush S d_Store_send_34 7 (by decide) 36 rfl ?_
        refine z_iload_n S d_Store_send_36 rfl 2 rfl 37 rfl ?_
        refine z_callV S hK (As := [.int 7, .int y]) (rest := []) (c_Post_next (k := 7) (p := y) hJ hw hπ) (cw_Post_next hts w_310 rfl rfl ⟨(Nat.le_of_ble_eq_true rfl), (Nat.le_of_ble_eq_true rfl)⟩) rl_4 kC_4 rfl rfl rfl (Nat.le_of_ble_eq_true rfl) d_Store_send_37 40 rfl [.ref (ad 5 (nxL (s 4 2 0) π))] rfl ?_
        refine z_get S hK hin_Letter (rl_nx hπ) kC_5 rfl 1 (Nat.le_of_ble_eq_true rfl) (ht _ w_227) (fun _ h => h) d_Store_send_40 43 rfl (.ref (ad 7 (8 + (nxL (s 4 2 0) π)))) rfl ?_
        refine z_aload_n S d_Store_send_43 rfl 0 rfl 44 rfl ?_
        refine z_get S hK hin_Store rl_0 kC_0 rfl 1 (Nat.le_of_ble_eq_true rfl) (ht _ w_279) (fun _ h => h) d_Store_send_44 47 rfl (.ref (ad 11 0)) rfl ?_
        refine z_iload_n S d_Store_send_47 rfl 1 rfl 48 rfl ?_
        refine z_aald S hK rl_11 4 kC_11 rfl (in_cli h1) rfl d_Store_send_48 49 rfl ?_
        refine z_get S hK hin_Client (rl_cli (vp_lt (in_cli h1))) kC_2 rfl 0 (Nat.le_of_ble_eq_true rfl) (ht _ w_168) (fun _ h => h) d_Store_send_49 52 rfl (.ref (ad 7 (5 + (x.toNatClampNeg)))) rfl ?_
        refine z_callV S hK (As := [.ref (ad 7 (5 + (x.toNatClampNeg)))]) (rest := []) (c_Operation_become (a := 8 + (nxL (s 4 2 0) π)) (b := 5 + (x.toNatClampNeg)) hJ (rl_lo (rl_nx hπ)) (rl_co (rl_cli (vp_lt (in_cli h1)))) (opOK.w hop (5 + (x.toNatClampNeg)))) (cw_Operation_become hts w_375 rfl rfl ⟨(Nat.le_of_ble_eq_true rfl), (Nat.le_of_ble_eq_true rfl)⟩) (rl_lo (rl_nx hπ)) kC_7 rfl rfl rfl (Nat.le_of_ble_eq_true rfl) d_Store_send_52 55 rfl [] rfl ?_
        refine z_iconst S d_Store_send_55 1 (by decide) 56 rfl ?_
        exact z_zret S hr (zb_n zb_1) hlk d_Store_send_56 (by unfold v_Store_send; simp only [if_neg h1, if_neg h2, if_neg h3]) (kC_eq (by unfold S_Store_send; simp only [if_neg h1, if_neg h2, if_neg h3]))
      · refine z_iconst S d_Store_send_28 0 (by decide) 29 rfl ?_
        exact z_zret S hr (zb_n zb_0) hlk d_Store_send_29 (by unfold v_Store_send; simp only [if_neg h1, if_neg h2, if_pos h3]) (kC_eq (by unfold S_Store_send; simp only [if_neg h1, if_neg h2, if_pos h3]))
end
section
theorem nI_i1 (a : Nat) : nI a + Int32.ofInt 1 = nI (a + 1) := nI_1 a
theorem nI_im1 (a : Nat) : nI (a + 1) + Int32.ofInt (-1) = nI a := by
  rw [← nI_1, Int32.add_assoc]
  exact Int32.add_zero _
theorem kC_eq2 {K : Nat → ClassId} {ad : Nat → Nat → Nat} {n : Nat} {s s' : S3} {π π' : Nat → Nat} (h : s = s') (h2 : π = π') : kC K ad n s π = kC K ad n s' π' := by rw [h, h2]
theorem vp_eq {x : Int32} {n : Nat} (h : vp_in x n) : x = nI x.toNatClampNeg := by
  obtain ⟨j, -, hj, rfl⟩ := vp_nI h
  rw [nI_clamp hj]
/-- the first fresh server that is neither primary nor backup -/
def ncF (pr bk : Int32) (g : Nat → Int32) (t : Int32) : Nat → Nat → Int32
  | 0, _ => 7
  | k + 1, j => if nI j = pr then ncF pr bk g t k (j + 1) else if nI j = bk then ncF pr bk g t k (j + 1) else if v_Service_isFresh (g (nI j).toNatClampNeg) t = 0 then ncF pr bk g t k (j + 1) else nI j
/-- the row from place j on moves up by one, k places -/
def tkR : Nat → Nat → (Nat → Nat) → Nat → Nat
  | 0, _, p => p
  | k + 1, j, p => tkR k (j + 1) (va_up p j (p (j + 1)))
def tkP (π : Nat → Nat) (x : Nat) : Nat → Nat := va_up (tkR (32 - x) x π) 32 (π x)
theorem tkR_lt {k j : Nat} {p : Nat → Nat} (h : ∀ i, p i < 34) : ∀ i, tkR k j p i < 34 := by
  induction k generalizing j p with
  | zero => exact h
  | succ k ih =>
    refine ih (fun i => ?_)
    unfold va_up
    split
    · exact h _
    · exact h _
theorem tkP_lt {π : Nat → Nat} {x : Nat} (h : ∀ i, π i < 34) : ∀ i, tkP π x i < 34 := by
  intro i
  unfold tkP va_up
  split
  · exact h _
  · exact tkR_lt h i
theorem d_Service_freshNewcomer_0 : decode prog_7_method_6_code 0 = .ok (.iconst 0, 1) := by decide +kernel
theorem d_Service_freshNewcomer_1 : decode prog_7_method_6_code 1 = .ok (.istore_n 2, 1) := by decide +kernel
theorem d_Service_freshNewcomer_2 : decode prog_7_method_6_code 2 = .ok (.iload_n 2, 1) := by decide +kernel
theorem d_Service_freshNewcomer_3 : decode prog_7_method_6_code 3 = .ok (.aload_n 0, 1) := by decide +kernel
theorem d_Service_freshNewcomer_4 : decode prog_7_method_6_code 4 = .ok (.getfield 22, 3) := by decide +kernel
theorem d_Service_freshNewcomer_7 : decode prog_7_method_6_code 7 = .ok (.arraylength, 1) := by decide +kernel
theorem d_Service_freshNewcomer_8 : decode prog_7_method_6_code 8 = .ok (.if_icmp .ge 42, 3) := by decide +kernel
theorem d_Service_freshNewcomer_11 : decode prog_7_method_6_code 11 = .ok (.iload_n 2, 1) := by decide +kernel
theorem d_Service_freshNewcomer_12 : decode prog_7_method_6_code 12 = .ok (.aload_n 0, 1) := by decide +kernel
theorem d_Service_freshNewcomer_13 : decode prog_7_method_6_code 13 = .ok (.getfield 12, 3) := by decide +kernel
theorem d_Service_freshNewcomer_16 : decode prog_7_method_6_code 16 = .ok (.getfield 39, 3) := by decide +kernel
theorem d_Service_freshNewcomer_19 : decode prog_7_method_6_code 19 = .ok (.if_icmp .eq 25, 3) := by decide +kernel
theorem d_Service_freshNewcomer_22 : decode prog_7_method_6_code 22 = .ok (.iload_n 2, 1) := by decide +kernel
theorem d_Service_freshNewcomer_23 : decode prog_7_method_6_code 23 = .ok (.aload_n 0, 1) := by decide +kernel
theorem d_Service_freshNewcomer_24 : decode prog_7_method_6_code 24 = .ok (.getfield 12, 3) := by decide +kernel
theorem d_Service_freshNewcomer_27 : decode prog_7_method_6_code 27 = .ok (.getfield 52, 3) := by decide +kernel
theorem d_Service_freshNewcomer_30 : decode prog_7_method_6_code 30 = .ok (.if_icmp .eq 14, 3) := by decide +kernel
theorem d_Service_freshNewcomer_33 : decode prog_7_method_6_code 33 = .ok (.aload_n 0, 1) := by decide +kernel
theorem d_Service_freshNewcomer_34 : decode prog_7_method_6_code 34 = .ok (.iload_n 2, 1) := by decide +kernel
theorem d_Service_freshNewcomer_35 : decode prog_7_method_6_code 35 = .ok (.iload_n 1, 1) := by decide +kernel
theorem d_Service_freshNewcomer_36 : decode prog_7_method_6_code 36 = .ok (.invokevirtual 44, 3) := by decide +kernel
theorem d_Service_freshNewcomer_39 : decode prog_7_method_6_code 39 = .ok (.ifCond .eq 5, 3) := by decide +kernel
theorem d_Service_freshNewcomer_42 : decode prog_7_method_6_code 42 = .ok (.iload_n 2, 1) := by decide +kernel
theorem d_Service_freshNewcomer_43 : decode prog_7_method_6_code 43 = .ok (.ireturn, 1) := by decide +kernel
theorem d_Service_freshNewcomer_44 : decode prog_7_method_6_code 44 = .ok (.iinc 2 1, 3) := by decide +kernel
theorem d_Service_freshNewcomer_47 : decode prog_7_method_6_code 47 = .ok (.goto (-45), 3) := by decide +kernel
theorem d_Service_freshNewcomer_50 : decode prog_7_method_6_code 50 = .ok (.bipush 7, 2) := by decide +kernel
theorem d_Service_freshNewcomer_52 : decode prog_7_method_6_code 52 = .ok (.ireturn, 1) := by decide +kernel
set_option maxHeartbeats 4000000 in
set_option maxRecDepth 100000 in
theorem c_Service_freshNewcomer_V {l : Launch} {D : va_G} {K : Nat → ClassId} {ad : Nat → Nat → Nat} {n : Nat} {π : Nat → Nat} {s : S3} {t : Int32} {V : Int32} (hV : ncF (s 6 1 7) (s 6 2 7) (s 15 0) t n 0 = V) (hJ : zw_J (cRL n) ad) (hn5 : n ≤ 5) : zM l y_Service_freshNewcomer ws_Service_freshNewcomer ({ frames := 1, cells := 0, slots := 0, locals := 22 }) D zCl (zTys K) (cRL n) ad [.ref (ad 3 0), .int t] (kC K ad n s π) (some (.int V)) (kC K ad n (s) π) := by
  refine zM.of (cc := prog_7_method_6_code) (maxL := 3) (ret := (Option.some Jvm.ClassFile.FieldType.int)) (by decide) rfl (Nat.le_of_ble_eq_true rfl) ?_
  intro pP eE U mM bL mT cO S hr hlk hK
  have hts := S.2.2.2.2
  have ht := fun w h => hts w (List.mem_cons_of_mem _ h)
  refine z_iconst S d_Service_freshNewcomer_0 0 (by decide) 1 rfl ?_
  refine z_istore_n S d_Service_freshNewcomer_1 rfl (Nat.le_of_ble_eq_true rfl) [(2, .int 0), (0, .ref (ad 3 0)), (1, .int t)] rfl 2 rfl ?_
  have loop : ∀ (k j : Nat), j + k = n → ncF (s 6 1 7) (s 6 2 7) (s 15 0) t k j = V → zG pP l eE (headSpec ws_Service_freshNewcomer ({ frames := 1, cells := 0, slots := 0, locals := 22 })).room U mM ([.ref (ad 3 0), .int t] : List Value).toArray bL mT cO 3 (MQ bL (zQ D zCl (cRL n) ad (some (.int V)) (kC K ad n (s) π)) ([.ref (ad 3 0), .int t] : List Value).toArray U 0 0 (zw_A (cRL n) ad)) (zI D zCl (cRL n) ad U.heap (kC K ad n (s) (π))) 0 0 2 [(2, .int (nI j)), (0, .ref (ad 3 0)), (1, .int t)] [] := by
    intro k
    induction k with
    | zero =>
      intro j hj hv
      refine z_iload_n S d_Service_freshNewcomer_2 rfl 0 rfl 3 rfl ?_
      refine z_aload_n S d_Service_freshNewcomer_3 rfl 1 rfl 4 rfl ?_
      refine z_get S hK hin_Service rl_3 kC_3 rfl 1 (Nat.le_of_ble_eq_true rfl) (ht _ w_194) (fun _ h => h) d_Service_freshNewcomer_4 7 rfl (.ref (ad 15 0)) rfl ?_
      refine z_alen S hK rl_15 0 kC_15 rfl (v := nI n) rfl d_Service_freshNewcomer_7 8 rfl ?_
      refine z_icmp_ge S d_Service_freshNewcomer_8 50 (by decide) 11 rfl (fun h1 => ?_) (fun h1 => ?_)
      · refine z_bipush S d_Service_freshNewcomer_50 7 (by decide) 52 rfl ?_
        exact z_iret S hr hlk d_Service_freshNewcomer_52 (by rw [← hv]; simp only [ncF, if_pos h1]) rfl
      · exact absurd (nI_le (by omega) (by omega)) h1
    | succ k ih =>
      intro j hj hv
      refine z_iload_n S d_Service_freshNewcomer_2 rfl 0 rfl 3 rfl ?_
      refine z_aload_n S d_Service_freshNewcomer_3 rfl 1 rfl 4 rfl ?_
      refine z_get S hK hin_Service rl_3 kC_3 rfl 1 (Nat.le_of_ble_eq_true rfl) (ht _ w_194) (fun _ h => h) d_Service_freshNewcomer_4 7 rfl (.ref (ad 15 0)) rfl ?_
      refine z_alen S hK rl_15 0 kC_15 rfl (v := nI n) rfl d_Service_freshNewcomer_7 8 rfl ?_
      refine z_icmp_ge S d_Service_freshNewcomer_8 50 (by decide) 11 rfl (fun h2 => ?_) (fun h2 => ?_)
      · exact absurd h2 (nI_ge (by omega) (by omega))
      · refine z_iload_n S d_Service_freshNewcomer_11 rfl 0 rfl 12 rfl ?_
        refine z_aload_n S d_Service_freshNewcomer_12 rfl 1 rfl 13 rfl ?_
        refine z_get S hK hin_Service rl_3 kC_3 rfl 0 (Nat.le_of_ble_eq_true rfl) (ht _ w_192) (fun _ h => h) d_Service_freshNewcomer_13 16 rfl (.ref (ad 6 7)) rfl ?_
        refine z_get S hK hin_View rl_67 kC_6 rfl 1 (Nat.le_of_ble_eq_true rfl) (ht _ w_46) (fun _ h => h) d_Service_freshNewcomer_16 19 rfl (.int (s 6 1 7)) rfl ?_
        refine z_icmp_eq S d_Service_freshNewcomer_19 44 (by decide) 22 rfl (fun h3 => ?_) (fun h3 => ?_)
        · refine z_iinc S d_Service_freshNewcomer_44 0 rfl (nI_i1 _) (Nat.le_of_ble_eq_true rfl) [(2, .int (nI (j + 1))), (0, .ref (ad 3 0)), (1, .int t)] rfl 47 rfl ?_
          refine z_goto S d_Service_freshNewcomer_47 2 (by decide) ?_
          exact ih (j + 1) (by omega) (by rw [← hv]; simp only [ncF, if_neg h2, if_pos h3])
        · refine z_iload_n S d_Service_freshNewcomer_22 rfl 0 rfl 23 rfl ?_
          refine z_aload_n S d_Service_freshNewcomer_23 rfl 1 rfl 24 rfl ?_
          refine z_get S hK hin_Service rl_3 kC_3 rfl 0 (Nat.le_of_ble_eq_true rfl) (ht _ w_192) (fun _ h => h) d_Service_freshNewcomer_24 27 rfl (.ref (ad 6 7)) rfl ?_
          refine z_get S hK hin_View rl_67 kC_6 rfl 2 (Nat.le_of_ble_eq_true rfl) (ht _ w_49) (fun _ h => h) d_Service_freshNewcomer_27 30 rfl (.int (s 6 2 7)) rfl ?_
          refine z_icmp_eq S d_Service_freshNewcomer_30 44 (by decide) 33 rfl (fun h4 => ?_) (fun h4 => ?_)
          · refine z_iinc S d_Service_freshNewcomer_44 0 rfl (nI_i1 _) (Nat.le_of_ble_eq_true rfl) [(2, .int (nI (j + 1))), (0, .ref (ad 3 0)), (1, .int t)] rfl 47 rfl ?_
            refine z_goto S d_Service_freshNewcomer_47 2 (by decide) ?_
            exact ih (j + 1) (by omega) (by rw [← hv]; simp only [ncF, if_neg h2, if_neg h3, if_pos h4])
          · refine z_aload_n S d_Service_freshNewcomer_33 rfl 1 rfl 34 rfl ?_
            refine z_iload_n S d_Service_freshNewcomer_34 rfl 0 rfl 35 rfl ?_
            refine z_iload_n S d_Service_freshNewcomer_35 rfl 2 rfl 36 rfl ?_
            refine z_callV S hK (As := [.int (nI j), .int t]) (rest := []) (c_Service_isFresh (x := nI j) (t := t) hJ (nI_in (by omega) (by omega))) (cw_Service_isFresh hts w_334 rfl rfl ⟨(Nat.le_of_ble_eq_true rfl), (Nat.le_of_ble_eq_true rfl)⟩) rl_3 kC_3 rfl rfl rfl (Nat.le_of_ble_eq_true rfl) d_Service_freshNewcomer_36 39 rfl [.int (v_Service_isFresh (s 15 0 ((nI j).toNatClampNeg)) t)] rfl ?_
            refine z_if_eq S d_Service_freshNewcomer_39 44 (by decide) 42 rfl (fun h5 => ?_) (fun h5 => ?_)
            · refine z_iinc S d_Service_freshNewcomer_44 0 rfl (nI_i1 _) (Nat.le_of_ble_eq_true rfl) [(2, .int (nI (j + 1))), (0, .ref (ad 3 0)), (1, .int t)] rfl 47 rfl ?_
              refine z_goto S d_Service_freshNewcomer_47 2 (by decide) ?_
              exact ih (j + 1) (by omega) (by rw [← hv]; simp only [ncF, if_neg h2, if_neg h3, if_neg h4, if_pos h5])
            · refine z_iload_n S d_Service_freshNewcomer_42 rfl 0 rfl 43 rfl ?_
              exact z_iret S hr hlk d_Service_freshNewcomer_43 (by rw [← hv]; simp only [ncF, if_neg h2, if_neg h3, if_neg h4, if_neg h5]) rfl
  exact loop n 0 (by omega) hV
theorem c_Service_freshNewcomer {l : Launch} {D : va_G} {K : Nat → ClassId} {ad : Nat → Nat → Nat} {n : Nat} {π : Nat → Nat} {s : S3} {t : Int32} (hJ : zw_J (cRL n) ad) (hn5 : n ≤ 5) : zM l y_Service_freshNewcomer ws_Service_freshNewcomer ({ frames := 1, cells := 0, slots := 0, locals := 22 }) D zCl (zTys K) (cRL n) ad [.ref (ad 3 0), .int t] (kC K ad n s π) (some (.int (ncF (s 6 1 7) (s 6 2 7) (s 15 0) t n 0))) (kC K ad n s π) := c_Service_freshNewcomer_V rfl hJ hn5
theorem d_Post_take_0 : decode prog_5_method_4_code 0 = .ok (.aload_n 0, 1) := by decide +kernel
theorem d_Post_take_1 : decode prog_5_method_4_code 1 = .ok (.getfield 11, 3) := by decide +kernel
theorem d_Post_take_4 : decode prog_5_method_4_code 4 = .ok (.iload_n 1, 1) := by decide +kernel
theorem d_Post_take_5 : decode prog_5_method_4_code 5 = .ok (.aaload, 1) := by decide +kernel
theorem d_Post_take_6 : decode prog_5_method_4_code 6 = .ok (.astore_n 2, 1) := by decide +kernel
theorem d_Post_take_7 : decode prog_5_method_4_code 7 = .ok (.iload_n 1, 1) := by decide +kernel
theorem d_Post_take_8 : decode prog_5_method_4_code 8 = .ok (.istore_n 3, 1) := by decide +kernel
theorem d_Post_take_9 : decode prog_5_method_4_code 9 = .ok (.iload_n 3, 1) := by decide +kernel
theorem d_Post_take_10 : decode prog_5_method_4_code 10 = .ok (.bipush 32, 2) := by decide +kernel
theorem d_Post_take_12 : decode prog_5_method_4_code 12 = .ok (.if_icmp .ge 23, 3) := by decide +kernel
theorem d_Post_take_15 : decode prog_5_method_4_code 15 = .ok (.aload_n 0, 1) := by decide +kernel
theorem d_Post_take_16 : decode prog_5_method_4_code 16 = .ok (.getfield 11, 3) := by decide +kernel
theorem d_Post_take_19 : decode prog_5_method_4_code 19 = .ok (.iload_n 3, 1) := by decide +kernel
theorem d_Post_take_20 : decode prog_5_method_4_code 20 = .ok (.aload_n 0, 1) := by decide +kernel
theorem d_Post_take_21 : decode prog_5_method_4_code 21 = .ok (.getfield 11, 3) := by decide +kernel
theorem d_Post_take_24 : decode prog_5_method_4_code 24 = .ok (.iload_n 3, 1) := by decide +kernel
theorem d_Post_take_25 : decode prog_5_method_4_code 25 = .ok (.iconst 1, 1) := by decide +kernel
theorem d_Post_take_26 : decode prog_5_method_4_code 26 = .ok (.iadd, 1) := by decide +kernel
theorem d_Post_take_27 : decode prog_5_method_4_code 27 = .ok (.aaload, 1) := by decide +kernel
theorem d_Post_take_28 : decode prog_5_method_4_code 28 = .ok (.aastore, 1) := by decide +kernel
theorem d_Post_take_29 : decode prog_5_method_4_code 29 = .ok (.iinc 3 1, 3) := by decide +kernel
theorem d_Post_take_32 : decode prog_5_method_4_code 32 = .ok (.goto (-23), 3) := by decide +kernel
theorem d_Post_take_35 : decode prog_5_method_4_code 35 = .ok (.aload_n 0, 1) := by decide +kernel
theorem d_Post_take_36 : decode prog_5_method_4_code 36 = .ok (.getfield 11, 3) := by decide +kernel
theorem d_Post_take_39 : decode prog_5_method_4_code 39 = .ok (.bipush 32, 2) := by decide +kernel
theorem d_Post_take_41 : decode prog_5_method_4_code 41 = .ok (.aload_n 2, 1) := by decide +kernel
theorem d_Post_take_42 : decode prog_5_method_4_code 42 = .ok (.aastore, 1) := by decide +kernel
theorem d_Post_take_43 : decode prog_5_method_4_code 43 = .ok (.aload_n 0, 1) := by decide +kernel
theorem d_Post_take_44 : decode prog_5_method_4_code 44 = .ok (.dup, 1) := by decide +kernel
theorem d_Post_take_45 : decode prog_5_method_4_code 45 = .ok (.getfield 22, 3) := by decide +kernel
theorem d_Post_take_48 : decode prog_5_method_4_code 48 = .ok (.iconst 1, 1) := by decide +kernel
theorem d_Post_take_49 : decode prog_5_method_4_code 49 = .ok (.isub, 1) := by decide +kernel
theorem d_Post_take_50 : decode prog_5_method_4_code 50 = .ok (.putfield 22, 3) := by decide +kernel
theorem d_Post_take_53 : decode prog_5_method_4_code 53 = .ok (.aload_n 2, 1) := by decide +kernel
theorem d_Post_take_54 : decode prog_5_method_4_code 54 = .ok (.areturn, 1) := by decide +kernel
set_option maxHeartbeats 4000000 in
set_option maxRecDepth 100000 in
theorem c_Post_take {l : Launch} {D : va_G} {K : Nat → ClassId} {ad : Nat → Nat → Nat} {n : Nat} {π : Nat → Nat} {s : S3} {x : Int32}  (hJ : zw_J (cRL n) ad) (hπ : ∀ j, π j < 34) (hx : vp_in x 33) : zM l y_Post_take ws_Post_take ({ frames := 0, cells := 0, slots := 0, locals := 0 }) D zCl (zTys K) (cRL n) ad [.ref (ad 4 0), .int x] (kC K ad n s π) (some (.ref (ad 5 (π x.toNatClampNeg)))) (kC K ad n (u3 s 4 2 0 ((s 4 2 0) - 1)) (tkP π x.toNatClampNeg)) := by
  refine zM.of (cc := prog_5_method_4_code) (maxL := 4) (ret := (Option.some (Jvm.ClassFile.FieldType.object "LeasedViewStore$Letter"))) (by decide) rfl (Nat.le_of_ble_eq_true rfl) ?_
  intro pP eE U mM bL mT cO S hr hlk hK
  have hts := S.2.2.2.2
  have ht := fun w h => hts w (List.mem_cons_of_mem _ h)
  refine z_aload_n S d_Post_take_0 rfl 0 rfl 1 rfl ?_
  refine z_get S hK hin_Post rl_4 kC_4 rfl 0 (Nat.le_of_ble_eq_true rfl) (ht _ w_266) (fun _ h => h) d_Post_take_1 4 rfl (.ref (ad 12 0)) rfl ?_
  refine z_iload_n S d_Post_take_4 rfl 1 rfl 5 rfl ?_
  refine z_aald S hK rl_12 5 kC_12 rfl hx rfl d_Post_take_5 6 rfl ?_
  refine z_astore_n S d_Post_take_6 rfl (Nat.le_of_ble_eq_true rfl) [(2, .ref (ad 5 (π x.toNatClampNeg))), (0, .ref (ad 4 0)), (1, .int x)] rfl 7 rfl ?_
  refine z_iload_n S d_Post_take_7 rfl 2 rfl 8 rfl ?_
  refine z_istore_n S d_Post_take_8 rfl (Nat.le_of_ble_eq_true rfl) [(3, .int x), (2, .ref (ad 5 (π x.toNatClampNeg))), (0, .ref (ad 4 0)), (1, .int x)] rfl 9 rfl ?_
  have loop : ∀ (k j : Nat) (z : Int32) (π1 : Nat → Nat), z = nI j → j + k = 32 → (∀ i, π1 i < 34) → tkR k j π1 = tkR (32 - x.toNatClampNeg) x.toNatClampNeg π → zG pP l eE (headSpec ws_Post_take ({ frames := 0, cells := 0, slots := 0, locals := 0 })).room U mM ([.ref (ad 4 0), .int x] : List Value).toArray bL mT cO 4 (MQ bL (zQ D zCl (cRL n) ad (some (.ref (ad 5 (π x.toNatClampNeg)))) (kC K ad n (u3 s 4 2 0 ((s 4 2 0) - 1)) (tkP π x.toNatClampNeg))) ([.ref (ad 4 0), .int x] : List Value).toArray U 0 0 (zw_A (cRL n) ad)) (zI D zCl (cRL n) ad U.heap (kC K ad n (s) (π1))) 0 0 9 [(3, .int z), (2, .ref (ad 5 (π x.toNatClampNeg))), (0, .ref (ad 4 0)), (1, .int x)] [] := by
    intro k
    induction k with
    | zero =>
      intro j z π1 hz hj hπ1 hT
      subst hz
      refine z_iload_n S d_Post_take_9 rfl 0 rfl 10 rfl ?_
      refine z_bipush S d_Post_take_10 32 (by decide) 12 rfl ?_
      refine z_icmp_ge S d_Post_take_12 35 (by decide) 15 rfl (fun h1 => ?_) (fun h1 => ?_)
      · refine z_aload_n S d_Post_take_35 rfl 2 rfl 36 rfl ?_
        refine z_get S hK hin_Post rl_4 kC_4 rfl 0 (Nat.le_of_ble_eq_true rfl) (ht _ w_266) (fun _ h => h) d_Post_take_36 39 rfl (.ref (ad 12 0)) rfl ?_
        refine z_bipush S d_Post_take_39 32 (by decide) 41 rfl ?_
        refine z_aload_n S d_Post_take_41 rfl 1 rfl 42 rfl ?_
        refine z_aast S hJ hK rl_12 5 5 kC_12 rfl (rl_let (hπ _)) kC_5 rfl (nI_in (c := 32) (N := 33) (by omega) (by omega)) upP d_Post_take_42 43 rfl ?_
        refine z_aload_n S d_Post_take_43 rfl 2 rfl 44 rfl ?_
        refine z_dup S d_Post_take_44 rfl 45 rfl ?_
        refine z_get S hK hin_Post rl_4 kC_4 rfl 2 (Nat.le_of_ble_eq_true rfl) (ht _ w_269) (fun _ h => h) d_Post_take_45 48 rfl (.int (s 4 2 0)) rfl ?_
        refine z_iconst S d_Post_take_48 1 (by decide) 49 rfl ?_
        refine z_isub S d_Post_take_49 50 rfl ?_
        refine z_put S hJ hK hin_Post t_Post ok_Post nm_Post rl_4 kC_4 rfl 2 (Nat.le_of_ble_eq_true rfl) (ht _ w_269) (fun _ h => h) rfl rfl rfl (Nat.le_of_ble_eq_true rfl) up_4_2 d_Post_take_50 53 rfl ?_
        refine z_aload_n S d_Post_take_53 rfl 1 rfl 54 rfl ?_
        exact z_aret S hr (Or.inl ⟨_, rfl⟩) hlk d_Post_take_54 rfl (kC_eq2 rfl (by rw [tkP, ← hT]; rfl))
      · exact absurd (nI_le (a := 32) (by omega) (by omega)) h1
    | succ k ih =>
      intro j z π1 hz hj hπ1 hT
      subst hz
      refine z_iload_n S d_Post_take_9 rfl 0 rfl 10 rfl ?_
      refine z_bipush S d_Post_take_10 32 (by decide) 12 rfl ?_
      refine z_icmp_ge S d_Post_take_12 35 (by decide) 15 rfl (fun h2 => ?_) (fun h2 => ?_)
      · exact absurd h2 (nI_ge (b := 32) (by omega) (by omega))
      · refine z_aload_n S d_Post_take_15 rfl 2 rfl 16 rfl ?_
        refine z_get S hK hin_Post rl_4 kC_4 rfl 0 (Nat.le_of_ble_eq_true rfl) (ht _ w_266) (fun _ h => h) d_Post_take_16 19 rfl (.ref (ad 12 0)) rfl ?_
        refine z_iload_n S d_Post_take_19 rfl 0 rfl 20 rfl ?_
        refine z_aload_n S d_Post_take_20 rfl 2 rfl 21 rfl ?_
        refine z_get S hK hin_Post rl_4 kC_4 rfl 0 (Nat.le_of_ble_eq_true rfl) (ht _ w_266) (fun _ h => h) d_Post_take_21 24 rfl (.ref (ad 12 0)) rfl ?_
        refine z_iload_n S d_Post_take_24 rfl 0 rfl 25 rfl ?_
        refine z_iconst S d_Post_take_25 1 (by decide) 26 rfl ?_
        refine z_iadd S d_Post_take_26 27 rfl ?_
        refine z_aald S hK rl_12 5 kC_12 rfl (by rw [nI_1]; exact nI_in (by omega) (by omega)) rfl d_Post_take_27 28 rfl ?_
        refine z_aast S hJ hK rl_12 5 5 kC_12 rfl (rl_let (hπ1 _)) kC_5 rfl (nI_in (by omega) (by omega)) upP d_Post_take_28 29 rfl ?_
        refine z_iinc S d_Post_take_29 0 rfl (nI_i1 _) (Nat.le_of_ble_eq_true rfl) [(3, .int (nI (j + 1))), (2, .ref (ad 5 (π x.toNatClampNeg))), (0, .ref (ad 4 0)), (1, .int x)] rfl 32 rfl ?_
        refine z_goto S d_Post_take_32 9 (by decide) ?_
        rw [show (nI j).toNatClampNeg = j from nI_clamp (by omega), show (nI j + 1).toNatClampNeg = j + 1 from by rw [nI_1]; exact nI_clamp (by omega)]
        exact ih (j + 1) _ _ rfl (by omega) (fun i => by unfold va_up; split <;> exact hπ1 _) hT
  exact loop _ _ x π (vp_eq hx) (by have := vp_lt hx; omega) hπ rfl
theorem hasB {x : Int32} (h : ¬ v_View_hasBackup x = 0) : ¬ x = 7 := fun e => h (by rw [e]; rfl)
theorem d_Service_reviseView_0 : decode prog_7_method_3_code 0 = .ok (.aload_n 0, 1) := by decide +kernel
theorem d_Service_reviseView_1 : decode prog_7_method_3_code 1 = .ok (.aload_n 0, 1) := by decide +kernel
theorem d_Service_reviseView_2 : decode prog_7_method_3_code 2 = .ok (.getfield 12, 3) := by decide +kernel
theorem d_Service_reviseView_5 : decode prog_7_method_3_code 5 = .ok (.getfield 39, 3) := by decide +kernel
theorem d_Service_reviseView_8 : decode prog_7_method_3_code 8 = .ok (.iload_n 1, 1) := by decide +kernel
theorem d_Service_reviseView_9 : decode prog_7_method_3_code 9 = .ok (.invokevirtual 44, 3) := by decide +kernel
theorem d_Service_reviseView_12 : decode prog_7_method_3_code 12 = .ok (.istore_n 2, 1) := by decide +kernel
theorem d_Service_reviseView_13 : decode prog_7_method_3_code 13 = .ok (.aload_n 0, 1) := by decide +kernel
theorem d_Service_reviseView_14 : decode prog_7_method_3_code 14 = .ok (.getfield 12, 3) := by decide +kernel
theorem d_Service_reviseView_17 : decode prog_7_method_3_code 17 = .ok (.invokevirtual 48, 3) := by decide +kernel
theorem d_Service_reviseView_20 : decode prog_7_method_3_code 20 = .ok (.ifCond .eq 22, 3) := by decide +kernel
theorem d_Service_reviseView_23 : decode prog_7_method_3_code 23 = .ok (.aload_n 0, 1) := by decide +kernel
theorem d_Service_reviseView_24 : decode prog_7_method_3_code 24 = .ok (.aload_n 0, 1) := by decide +kernel
theorem d_Service_reviseView_25 : decode prog_7_method_3_code 25 = .ok (.getfield 12, 3) := by decide +kernel
theorem d_Service_reviseView_28 : decode prog_7_method_3_code 28 = .ok (.getfield 52, 3) := by decide +kernel
theorem d_Service_reviseView_31 : decode prog_7_method_3_code 31 = .ok (.iload_n 1, 1) := by decide +kernel
theorem d_Service_reviseView_32 : decode prog_7_method_3_code 32 = .ok (.invokevirtual 44, 3) := by decide +kernel
theorem d_Service_reviseView_35 : decode prog_7_method_3_code 35 = .ok (.ifCond .eq 7, 3) := by decide +kernel
theorem d_Service_reviseView_38 : decode prog_7_method_3_code 38 = .ok (.iconst 1, 1) := by decide +kernel
theorem d_Service_reviseView_39 : decode prog_7_method_3_code 39 = .ok (.goto 4, 3) := by decide +kernel
theorem d_Service_reviseView_42 : decode prog_7_method_3_code 42 = .ok (.iconst 0, 1) := by decide +kernel
theorem d_Service_reviseView_43 : decode prog_7_method_3_code 43 = .ok (.istore_n 3, 1) := by decide +kernel
theorem d_Service_reviseView_44 : decode prog_7_method_3_code 44 = .ok (.aload_n 0, 1) := by decide +kernel
theorem d_Service_reviseView_45 : decode prog_7_method_3_code 45 = .ok (.iload_n 1, 1) := by decide +kernel
theorem d_Service_reviseView_46 : decode prog_7_method_3_code 46 = .ok (.invokevirtual 55, 3) := by decide +kernel
theorem d_Service_reviseView_49 : decode prog_7_method_3_code 49 = .ok (.istore 4, 2) := by decide +kernel
theorem d_Service_reviseView_51 : decode prog_7_method_3_code 51 = .ok (.iload_n 2, 1) := by decide +kernel
theorem d_Service_reviseView_52 : decode prog_7_method_3_code 52 = .ok (.ifCond .ne 23, 3) := by decide +kernel
theorem d_Service_reviseView_55 : decode prog_7_method_3_code 55 = .ok (.iload_n 3, 1) := by decide +kernel
theorem d_Service_reviseView_56 : decode prog_7_method_3_code 56 = .ok (.ifCond .eq 19, 3) := by decide +kernel
theorem d_Service_reviseView_59 : decode prog_7_method_3_code 59 = .ok (.aload_n 0, 1) := by decide +kernel
theorem d_Service_reviseView_60 : decode prog_7_method_3_code 60 = .ok (.aload_n 0, 1) := by decide +kernel
theorem d_Service_reviseView_61 : decode prog_7_method_3_code 61 = .ok (.getfield 12, 3) := by decide +kernel
theorem d_Service_reviseView_64 : decode prog_7_method_3_code 64 = .ok (.getfield 52, 3) := by decide +kernel
theorem d_Service_reviseView_67 : decode prog_7_method_3_code 67 = .ok (.iload 4, 2) := by decide +kernel
theorem d_Service_reviseView_69 : decode prog_7_method_3_code 69 = .ok (.invokevirtual 35, 3) := by decide +kernel
theorem d_Service_reviseView_72 : decode prog_7_method_3_code 72 = .ok (.goto 41, 3) := by decide +kernel
theorem d_Service_reviseView_75 : decode prog_7_method_3_code 75 = .ok (.iload_n 2, 1) := by decide +kernel
theorem d_Service_reviseView_76 : decode prog_7_method_3_code 76 = .ok (.ifCond .eq 37, 3) := by decide +kernel
theorem d_Service_reviseView_79 : decode prog_7_method_3_code 79 = .ok (.iload_n 3, 1) := by decide +kernel
theorem d_Service_reviseView_80 : decode prog_7_method_3_code 80 = .ok (.ifCond .ne 33, 3) := by decide +kernel
theorem d_Service_reviseView_83 : decode prog_7_method_3_code 83 = .ok (.aload_n 0, 1) := by decide +kernel
theorem d_Service_reviseView_84 : decode prog_7_method_3_code 84 = .ok (.getfield 12, 3) := by decide +kernel
theorem d_Service_reviseView_87 : decode prog_7_method_3_code 87 = .ok (.invokevirtual 48, 3) := by decide +kernel
theorem d_Service_reviseView_90 : decode prog_7_method_3_code 90 = .ok (.ifCond .ne 10, 3) := by decide +kernel
theorem d_Service_reviseView_93 : decode prog_7_method_3_code 93 = .ok (.iload 4, 2) := by decide +kernel
theorem d_Service_reviseView_95 : decode prog_7_method_3_code 95 = .ok (.bipush 7, 2) := by decide +kernel
theorem d_Service_reviseView_97 : decode prog_7_method_3_code 97 = .ok (.if_icmp .eq 16, 3) := by decide +kernel
theorem d_Service_reviseView_100 : decode prog_7_method_3_code 100 = .ok (.aload_n 0, 1) := by decide +kernel
theorem d_Service_reviseView_101 : decode prog_7_method_3_code 101 = .ok (.aload_n 0, 1) := by decide +kernel
theorem d_Service_reviseView_102 : decode prog_7_method_3_code 102 = .ok (.getfield 12, 3) := by decide +kernel
theorem d_Service_reviseView_105 : decode prog_7_method_3_code 105 = .ok (.getfield 39, 3) := by decide +kernel
theorem d_Service_reviseView_108 : decode prog_7_method_3_code 108 = .ok (.iload 4, 2) := by decide +kernel
theorem d_Service_reviseView_110 : decode prog_7_method_3_code 110 = .ok (.invokevirtual 35, 3) := by decide +kernel
theorem d_Service_reviseView_113 : decode prog_7_method_3_code 113 = .ok (.return_, 1) := by decide +kernel
def S_Service_reviseView (n : Nat) (π : Nat → Nat) (s : S3) (t : Int32) : S3 := if (v_View_hasBackup (s 6 2 7)) = 0 then (if (v_Service_isFresh (s 15 0 ((s 6 1 7).toNatClampNeg)) t) = 0 then s else if (ncF (s 6 1 7) (s 6 2 7) (s 15 0) t n 0) = 7 then s else S_Service_changeView π s (s 6 1 7) (ncF (s 6 1 7) (s 6 2 7) (s 15 0) t n 0)) else if (v_Service_isFresh (s 15 0 ((s 6 2 7).toNatClampNeg)) t) = 0 then (if (v_Service_isFresh (s 15 0 ((s 6 1 7).toNatClampNeg)) t) = 0 then s else S_Service_changeView π s (s 6 1 7) (ncF (s 6 1 7) (s 6 2 7) (s 15 0) t n 0)) else if (v_Service_isFresh (s 15 0 ((s 6 1 7).toNatClampNeg)) t) = 0 then (S_Service_changeView π s (s 6 2 7) (ncF (s 6 1 7) (s 6 2 7) (s 15 0) t n 0)) else s
set_option maxHeartbeats 4000000 in
set_option maxRecDepth 100000 in
theorem c_Service_reviseView {l : Launch} {D : va_G} {K : Nat → ClassId} {ad : Nat → Nat → Nat} {n : Nat} {π : Nat → Nat} {s : S3} {t : Int32} (hJ : zw_J (cRL n) ad) (hn5 : n ≤ 5) (hp : vp_in (s 6 1 7) n) (hb : ¬ s 6 2 7 = 7 → vp_in (s 6 2 7) n) : zM l y_Service_reviseView ws_Service_reviseView ({ frames := 2, cells := 0, slots := 0, locals := 44 }) D zCl (zTys K) (cRL n) ad [.ref (ad 3 0), .int t] (kC K ad n s π) (none) (kC K ad n (S_Service_reviseView n π s t) π) := by
  refine zM.of (cc := prog_7_method_3_code) (maxL := 5) (ret := (Option.none : Option Jvm.ClassFile.FieldType)) (by decide) rfl (Nat.le_of_ble_eq_true rfl) ?_
  intro pP eE U mM bL mT cO S hr hlk hK
  have hts := S.2.2.2.2
  have ht := fun w h => hts w (List.mem_cons_of_mem _ h)
  refine z_aload_n S d_Service_reviseView_0 rfl 0 rfl 1 rfl ?_
  refine z_aload_n S d_Service_reviseView_1 rfl 0 rfl 2 rfl ?_
  refine z_get S hK hin_Service rl_3 kC_3 rfl 0 (Nat.le_of_ble_eq_true rfl) (ht _ w_192) (fun _ h => h) d_Service_reviseView_2 5 rfl (.ref (ad 6 7)) rfl ?_
  refine z_get S hK hin_View rl_67 kC_6 rfl 1 (Nat.le_of_ble_eq_true rfl) (ht _ w_46) (fun _ h => h) d_Service_reviseView_5 8 rfl (.int (s 6 1 7)) rfl ?_
  refine z_iload_n S d_Service_reviseView_8 rfl 1 rfl 9 rfl ?_
  refine z_callV S hK (As := [.int (s 6 1 7), .int t]) (rest := []) (c_Service_isFresh (x := s 6 1 7) (t := t) hJ hp) (cw_Service_isFresh hts w_334 rfl rfl ⟨(Nat.le_of_ble_eq_true rfl), (Nat.le_of_ble_eq_true rfl)⟩) rl_3 kC_3 rfl rfl rfl (Nat.le_of_ble_eq_true rfl) d_Service_reviseView_9 12 rfl [.int (v_Service_isFresh (s 15 0 ((s 6 1 7).toNatClampNeg)) t)] rfl ?_
  refine z_istore_n S d_Service_reviseView_12 rfl (Nat.le_of_ble_eq_true rfl) [(2, .int (v_Service_isFresh (s 15 0 ((s 6 1 7).toNatClampNeg)) t)), (0, .ref (ad 3 0)), (1, .int t)] rfl 13 rfl ?_
  refine z_aload_n S d_Service_reviseView_13 rfl 1 rfl 14 rfl ?_
  refine z_get S hK hin_Service rl_3 kC_3 rfl 0 (Nat.le_of_ble_eq_true rfl) (ht _ w_192) (fun _ h => h) d_Service_reviseView_14 17 rfl (.ref (ad 6 7)) rfl ?_
  refine z_callV S hK (As := []) (rest := []) (c_View_hasBackup (a := 7) hJ rl_67) (cw_View_hasBackup hts w_338 rfl rfl ⟨(Nat.le_of_ble_eq_true rfl), (Nat.le_of_ble_eq_true rfl)⟩) rl_67 kC_6 rfl rfl rfl (Nat.le_of_ble_eq_true rfl) d_Service_reviseView_17 20 rfl [.int (v_View_hasBackup (s 6 2 7))] rfl ?_
  refine z_if_eq S d_Service_reviseView_20 42 (by decide) 23 rfl (fun h1 => ?_) (fun h1 => ?_)
  · refine z_iconst S d_Service_reviseView_42 0 (by decide) 43 rfl ?_
    refine z_istore_n S d_Service_reviseView_43 rfl (Nat.le_of_ble_eq_true rfl) [(3, .int 0), (2, .int (v_Service_isFresh (s 15 0 ((s 6 1 7).toNatClampNeg)) t)), (0, .ref (ad 3 0)), (1, .int t)] rfl 44 rfl ?_
    refine z_aload_n S d_Service_reviseView_44 rfl 2 rfl 45 rfl ?_
    refine z_iload_n S d_Service_reviseView_45 rfl 3 rfl 46 rfl ?_
    refine z_callV S hK (As := [.int t]) (rest := []) (c_Service_freshNewcomer (t := t) hJ hn5) (cw_Service_freshNewcomer hts w_342 rfl rfl ⟨(Nat.le_of_ble_eq_true rfl), (Nat.le_of_ble_eq_true rfl)⟩) rl_3 kC_3 rfl rfl rfl (Nat.le_of_ble_eq_true rfl) d_Service_reviseView_46 49 rfl [.int (ncF (s 6 1 7) (s 6 2 7) (s 15 0) t n 0)] rfl ?_
    refine z_istore S d_Service_reviseView_49 (Nat.le_of_ble_eq_true rfl) [(4, .int (ncF (s 6 1 7) (s 6 2 7) (s 15 0) t n 0)), (3, .int 0), (2, .int (v_Service_isFresh (s 15 0 ((s 6 1 7).toNatClampNeg)) t)), (0, .ref (ad 3 0)), (1, .int t)] rfl 51 rfl ?_
    refine z_iload_n S d_Service_reviseView_51 rfl 2 rfl 52 rfl ?_
    refine z_if_ne S d_Service_reviseView_52 75 (by decide) 55 rfl (fun h2 => ?_) (fun h2 => ?_)
    · refine z_iload_n S d_Service_reviseView_75 rfl 2 rfl 76 rfl ?_
      refine z_if_eq S d_Service_reviseView_76 113 (by decide) 79 rfl (fun h3 => ?_) (fun h3 => ?_)
      · exact absurd h3 h2
      · refine z_iload_n S d_Service_reviseView_79 rfl 1 rfl 80 rfl ?_
        refine z_if_ne S d_Service_reviseView_80 113 (by decide) 83 rfl (fun h4 => ?_) (fun h4 => ?_)
        · exact absurd (by decide) h4
        · refine z_aload_n S d_Service_reviseView_83 rfl 3 rfl 84 rfl ?_
          refine z_get S hK hin_Service rl_3 kC_3 rfl 0 (Nat.le_of_ble_eq_true rfl) (ht _ w_192) (fun _ h => h) d_Service_reviseView_84 87 rfl (.ref (ad 6 7)) rfl ?_
          refine z_callV S hK (As := []) (rest := []) (c_View_hasBackup (a := 7) hJ rl_67) (cw_View_hasBackup hts w_338 rfl rfl ⟨(Nat.le_of_ble_eq_true rfl), (Nat.le_of_ble_eq_true rfl)⟩) rl_67 kC_6 rfl rfl rfl (Nat.le_of_ble_eq_true rfl) d_Service_reviseView_87 90 rfl [.int (v_View_hasBackup (s 6 2 7))] rfl ?_
          refine z_if_ne S d_Service_reviseView_90 100 (by decide) 93 rfl (fun h5 => ?_) (fun h5 => ?_)
          · exact absurd h1 h5
          · refine z_iload S d_Service_reviseView_93 0 rfl 95 rfl ?_
            refine z_bipush S d_Service_reviseView_95 7 (by decide) 97 rfl ?_
            refine z_icmp_eq S d_Service_reviseView_97 113 (by decide) 100 rfl (fun h6 => ?_) (fun h6 => ?_)
            · exact z_vret S hr hlk d_Service_reviseView_113 (kC_eq (by unfold S_Service_reviseView; simp only [if_pos h1, if_neg h2, if_pos h6]))
            · refine z_aload_n S d_Service_reviseView_100 rfl 3 rfl 101 rfl ?_
              refine z_aload_n S d_Service_reviseView_101 rfl 3 rfl 102 rfl ?_
              refine z_get S hK hin_Service rl_3 kC_3 rfl 0 (Nat.le_of_ble_eq_true rfl) (ht _ w_192) (fun _ h => h) d_Service_reviseView_102 105 rfl (.ref (ad 6 7)) rfl ?_
              refine z_get S hK hin_View rl_67 kC_6 rfl 1 (Nat.le_of_ble_eq_true rfl) (ht _ w_46) (fun _ h => h) d_Service_reviseView_105 108 rfl (.int (s 6 1 7)) rfl ?_
              refine z_iload S d_Service_reviseView_108 0 rfl 110 rfl ?_
              refine z_callV S hK (As := [.int (s 6 1 7), .int (ncF (s 6 1 7) (s 6 2 7) (s 15 0) t n 0)]) (rest := []) (c_Service_changeView (x := s 6 1 7) (y := ncF (s 6 1 7) (s 6 2 7) (s 15 0) t n 0) hJ) (cw_Service_changeView hts w_346 rfl rfl ⟨(Nat.le_of_ble_eq_true rfl), (Nat.le_of_ble_eq_true rfl)⟩) rl_3 kC_3 rfl rfl rfl (Nat.le_of_ble_eq_true rfl) d_Service_reviseView_110 113 rfl [] rfl ?_
              exact z_vret S hr hlk d_Service_reviseView_113 (kC_eq (by unfold S_Service_reviseView; simp only [if_pos h1, if_neg h2, if_neg h6]))
    · refine z_iload_n S d_Service_reviseView_55 rfl 1 rfl 56 rfl ?_
      refine z_if_eq S d_Service_reviseView_56 75 (by decide) 59 rfl (fun h7 => ?_) (fun h7 => ?_)
      · refine z_iload_n S d_Service_reviseView_75 rfl 2 rfl 76 rfl ?_
        refine z_if_eq S d_Service_reviseView_76 113 (by decide) 79 rfl (fun h8 => ?_) (fun h8 => ?_)
        · exact z_vret S hr hlk d_Service_reviseView_113 (kC_eq (by unfold S_Service_reviseView; simp only [if_pos h1, if_pos h2]))
        · exact absurd h2 h8
      · exact absurd (by decide) h7
  · refine z_aload_n S d_Service_reviseView_23 rfl 1 rfl 24 rfl ?_
    refine z_aload_n S d_Service_reviseView_24 rfl 1 rfl 25 rfl ?_
    refine z_get S hK hin_Service rl_3 kC_3 rfl 0 (Nat.le_of_ble_eq_true rfl) (ht _ w_192) (fun _ h => h) d_Service_reviseView_25 28 rfl (.ref (ad 6 7)) rfl ?_
    refine z_get S hK hin_View rl_67 kC_6 rfl 2 (Nat.le_of_ble_eq_true rfl) (ht _ w_49) (fun _ h => h) d_Service_reviseView_28 31 rfl (.int (s 6 2 7)) rfl ?_
    refine z_iload_n S d_Service_reviseView_31 rfl 2 rfl 32 rfl ?_
    refine z_callV S hK (As := [.int (s 6 2 7), .int t]) (rest := []) (c_Service_isFresh (x := s 6 2 7) (t := t) hJ (hb (hasB h1))) (cw_Service_isFresh hts w_334 rfl rfl ⟨(Nat.le_of_ble_eq_true rfl), (Nat.le_of_ble_eq_true rfl)⟩) rl_3 kC_3 rfl rfl rfl (Nat.le_of_ble_eq_true rfl) d_Service_reviseView_32 35 rfl [.int (v_Service_isFresh (s 15 0 ((s 6 2 7).toNatClampNeg)) t)] rfl ?_
    refine z_if_eq S d_Service_reviseView_35 42 (by decide) 38 rfl (fun h9 => ?_) (fun h9 => ?_)
    · refine z_iconst S d_Service_reviseView_42 0 (by decide) 43 rfl ?_
      refine z_istore_n S d_Service_reviseView_43 rfl (Nat.le_of_ble_eq_true rfl) [(3, .int 0), (2, .int (v_Service_isFresh (s 15 0 ((s 6 1 7).toNatClampNeg)) t)), (0, .ref (ad 3 0)), (1, .int t)] rfl 44 rfl ?_
      refine z_aload_n S d_Service_reviseView_44 rfl 2 rfl 45 rfl ?_
      refine z_iload_n S d_Service_reviseView_45 rfl 3 rfl 46 rfl ?_
      refine z_callV S hK (As := [.int t]) (rest := []) (c_Service_freshNewcomer (t := t) hJ hn5) (cw_Service_freshNewcomer hts w_342 rfl rfl ⟨(Nat.le_of_ble_eq_true rfl), (Nat.le_of_ble_eq_true rfl)⟩) rl_3 kC_3 rfl rfl rfl (Nat.le_of_ble_eq_true rfl) d_Service_reviseView_46 49 rfl [.int (ncF (s 6 1 7) (s 6 2 7) (s 15 0) t n 0)] rfl ?_
      refine z_istore S d_Service_reviseView_49 (Nat.le_of_ble_eq_true rfl) [(4, .int (ncF (s 6 1 7) (s 6 2 7) (s 15 0) t n 0)), (3, .int 0), (2, .int (v_Service_isFresh (s 15 0 ((s 6 1 7).toNatClampNeg)) t)), (0, .ref (ad 3 0)), (1, .int t)] rfl 51 rfl ?_
      refine z_iload_n S d_Service_reviseView_51 rfl 2 rfl 52 rfl ?_
      refine z_if_ne S d_Service_reviseView_52 75 (by decide) 55 rfl (fun h10 => ?_) (fun h10 => ?_)
      · refine z_iload_n S d_Service_reviseView_75 rfl 2 rfl 76 rfl ?_
        refine z_if_eq S d_Service_reviseView_76 113 (by decide) 79 rfl (fun h11 => ?_) (fun h11 => ?_)
        · exact absurd h11 h10
        · refine z_iload_n S d_Service_reviseView_79 rfl 1 rfl 80 rfl ?_
          refine z_if_ne S d_Service_reviseView_80 113 (by decide) 83 rfl (fun h12 => ?_) (fun h12 => ?_)
          · exact absurd (by decide) h12
          · refine z_aload_n S d_Service_reviseView_83 rfl 3 rfl 84 rfl ?_
            refine z_get S hK hin_Service rl_3 kC_3 rfl 0 (Nat.le_of_ble_eq_true rfl) (ht _ w_192) (fun _ h => h) d_Service_reviseView_84 87 rfl (.ref (ad 6 7)) rfl ?_
            refine z_callV S hK (As := []) (rest := []) (c_View_hasBackup (a := 7) hJ rl_67) (cw_View_hasBackup hts w_338 rfl rfl ⟨(Nat.le_of_ble_eq_true rfl), (Nat.le_of_ble_eq_true rfl)⟩) rl_67 kC_6 rfl rfl rfl (Nat.le_of_ble_eq_true rfl) d_Service_reviseView_87 90 rfl [.int (v_View_hasBackup (s 6 2 7))] rfl ?_
            refine z_if_ne S d_Service_reviseView_90 100 (by decide) 93 rfl (fun h13 => ?_) (fun h13 => ?_)
            · refine z_aload_n S d_Service_reviseView_100 rfl 3 rfl 101 rfl ?_
              refine z_aload_n S d_Service_reviseView_101 rfl 3 rfl 102 rfl ?_
              refine z_get S hK hin_Service rl_3 kC_3 rfl 0 (Nat.le_of_ble_eq_true rfl) (ht _ w_192) (fun _ h => h) d_Service_reviseView_102 105 rfl (.ref (ad 6 7)) rfl ?_
              refine z_get S hK hin_View rl_67 kC_6 rfl 1 (Nat.le_of_ble_eq_true rfl) (ht _ w_46) (fun _ h => h) d_Service_reviseView_105 108 rfl (.int (s 6 1 7)) rfl ?_
              refine z_iload S d_Service_reviseView_108 0 rfl 110 rfl ?_
              refine z_callV S hK (As := [.int (s 6 1 7), .int (ncF (s 6 1 7) (s 6 2 7) (s 15 0) t n 0)]) (rest := []) (c_Service_changeView (x := s 6 1 7) (y := ncF (s 6 1 7) (s 6 2 7) (s 15 0) t n 0) hJ) (cw_Service_changeView hts w_346 rfl rfl ⟨(Nat.le_of_ble_eq_true rfl), (Nat.le_of_ble_eq_true rfl)⟩) rl_3 kC_3 rfl rfl rfl (Nat.le_of_ble_eq_true rfl) d_Service_reviseView_110 113 rfl [] rfl ?_
              exact z_vret S hr hlk d_Service_reviseView_113 (kC_eq (by unfold S_Service_reviseView; simp only [if_neg h1, if_pos h9, if_neg h10]))
            · exact absurd h13 h1
      · refine z_iload_n S d_Service_reviseView_55 rfl 1 rfl 56 rfl ?_
        refine z_if_eq S d_Service_reviseView_56 75 (by decide) 59 rfl (fun h14 => ?_) (fun h14 => ?_)
        · refine z_iload_n S d_Service_reviseView_75 rfl 2 rfl 76 rfl ?_
          refine z_if_eq S d_Service_reviseView_76 113 (by decide) 79 rfl (fun h15 => ?_) (fun h15 => ?_)
          · exact z_vret S hr hlk d_Service_reviseView_113 (kC_eq (by unfold S_Service_reviseView; simp only [if_neg h1, if_pos h9, if_pos h10]))
          · exact absurd h10 h15
        · exact absurd (by decide) h14
    · refine z_iconst S d_Service_reviseView_38 1 (by decide) 39 rfl ?_
      refine z_goto S d_Service_reviseView_39 43 (by decide) ?_
      refine z_istore_n S d_Service_reviseView_43 rfl (Nat.le_of_ble_eq_true rfl) [(3, .int 1), (2, .int (v_Service_isFresh (s 15 0 ((s 6 1 7).toNatClampNeg)) t)), (0, .ref (ad 3 0)), (1, .int t)] rfl 44 rfl ?_
      refine z_aload_n S d_Service_reviseView_44 rfl 2 rfl 45 rfl ?_
      refine z_iload_n S d_Service_reviseView_45 rfl 3 rfl 46 rfl ?_
      refine z_callV S hK (As := [.int t]) (rest := []) (c_Service_freshNewcomer (t := t) hJ hn5) (cw_Service_freshNewcomer hts w_342 rfl rfl ⟨(Nat.le_of_ble_eq_true rfl), (Nat.le_of_ble_eq_true rfl)⟩) rl_3 kC_3 rfl rfl rfl (Nat.le_of_ble_eq_true rfl) d_Service_reviseView_46 49 rfl [.int (ncF (s 6 1 7) (s 6 2 7) (s 15 0) t n 0)] rfl ?_
      refine z_istore S d_Service_reviseView_49 (Nat.le_of_ble_eq_true rfl) [(4, .int (ncF (s 6 1 7) (s 6 2 7) (s 15 0) t n 0)), (3, .int 1), (2, .int (v_Service_isFresh (s 15 0 ((s 6 1 7).toNatClampNeg)) t)), (0, .ref (ad 3 0)), (1, .int t)] rfl 51 rfl ?_
      refine z_iload_n S d_Service_reviseView_51 rfl 2 rfl 52 rfl ?_
      refine z_if_ne S d_Service_reviseView_52 75 (by decide) 55 rfl (fun h16 => ?_) (fun h16 => ?_)
      · refine z_iload_n S d_Service_reviseView_75 rfl 2 rfl 76 rfl ?_
        refine z_if_eq S d_Service_reviseView_76 113 (by decide) 79 rfl (fun h17 => ?_) (fun h17 => ?_)
        · exact absurd h17 h16
        · refine z_iload_n S d_Service_reviseView_79 rfl 1 rfl 80 rfl ?_
          refine z_if_ne S d_Service_reviseView_80 113 (by decide) 83 rfl (fun h18 => ?_) (fun h18 => ?_)
          · exact z_vret S hr hlk d_Service_reviseView_113 (kC_eq (by unfold S_Service_reviseView; simp only [if_neg h1, if_neg h9, if_neg h16]))
          · exact absurd h18 (by decide)
      · refine z_iload_n S d_Service_reviseView_55 rfl 1 rfl 56 rfl ?_
        refine z_if_eq S d_Service_reviseView_56 75 (by decide) 59 rfl (fun h19 => ?_) (fun h19 => ?_)
        · exact absurd h19 (by decide)
        · refine z_aload_n S d_Service_reviseView_59 rfl 3 rfl 60 rfl ?_
          refine z_aload_n S d_Service_reviseView_60 rfl 3 rfl 61 rfl ?_
          refine z_get S hK hin_Service rl_3 kC_3 rfl 0 (Nat.le_of_ble_eq_true rfl) (ht _ w_192) (fun _ h => h) d_Service_reviseView_61 64 rfl (.ref (ad 6 7)) rfl ?_
          refine z_get S hK hin_View rl_67 kC_6 rfl 2 (Nat.le_of_ble_eq_true rfl) (ht _ w_49) (fun _ h => h) d_Service_reviseView_64 67 rfl (.int (s 6 2 7)) rfl ?_
          refine z_iload S d_Service_reviseView_67 0 rfl 69 rfl ?_
          refine z_callV S hK (As := [.int (s 6 2 7), .int (ncF (s 6 1 7) (s 6 2 7) (s 15 0) t n 0)]) (rest := []) (c_Service_changeView (x := s 6 2 7) (y := ncF (s 6 1 7) (s 6 2 7) (s 15 0) t n 0) hJ) (cw_Service_changeView hts w_346 rfl rfl ⟨(Nat.le_of_ble_eq_true rfl), (Nat.le_of_ble_eq_true rfl)⟩) rl_3 kC_3 rfl rfl rfl (Nat.le_of_ble_eq_true rfl) d_Service_reviseView_69 72 rfl [] rfl ?_
          refine z_goto S d_Service_reviseView_72 113 (by decide) ?_
          exact z_vret S hr hlk d_Service_reviseView_113 (kC_eq (by unfold S_Service_reviseView; simp only [if_neg h1, if_neg h9, if_pos h16]))
theorem d_Store_check_0 : decode prog_1_method_5_code 0 = .ok (.aload_n 0, 1) := by decide +kernel
theorem d_Store_check_1 : decode prog_1_method_5_code 1 = .ok (.getfield 37, 3) := by decide +kernel
theorem d_Store_check_4 : decode prog_1_method_5_code 4 = .ok (.getfield 83, 3) := by decide +kernel
theorem d_Store_check_7 : decode prog_1_method_5_code 7 = .ok (.ifCond .eq 14, 3) := by decide +kernel
theorem d_Store_check_10 : decode prog_1_method_5_code 10 = .ok (.aload_n 0, 1) := by decide +kernel
theorem d_Store_check_11 : decode prog_1_method_5_code 11 = .ok (.getfield 37, 3) := by decide +kernel
theorem d_Store_check_14 : decode prog_1_method_5_code 14 = .ok (.aload_n 0, 1) := by decide +kernel
theorem d_Store_check_15 : decode prog_1_method_5_code 15 = .ok (.getfield 48, 3) := by decide +kernel
theorem d_Store_check_18 : decode prog_1_method_5_code 18 = .ok (.invokevirtual 85, 3) := by decide +kernel
theorem d_Store_check_21 : decode prog_1_method_5_code 21 = .ok (.aload_n 0, 1) := by decide +kernel
theorem d_Store_check_22 : decode prog_1_method_5_code 22 = .ok (.getfield 37, 3) := by decide +kernel
theorem d_Store_check_25 : decode prog_1_method_5_code 25 = .ok (.getfield 88, 3) := by decide +kernel
theorem d_Store_check_28 : decode prog_1_method_5_code 28 = .ok (.getfield 92, 3) := by decide +kernel
theorem d_Store_check_31 : decode prog_1_method_5_code 31 = .ok (.ireturn, 1) := by decide +kernel
def S_Store_check (n : Nat) (π : Nat → Nat) (s : S3)  : S3 := if (s 3 2 0) = 0 then s else S_Service_reviseView n π s (s 0 4 0)
def v_Store_check (n : Nat) (π : Nat → Nat) (s : S3)  : Int32 := if (s 3 2 0) = 0 then (s 6 0 7) else (S_Service_reviseView n π s (s 0 4 0)) 6 0 7
set_option maxHeartbeats 4000000 in
set_option maxRecDepth 100000 in
theorem c_Store_check {l : Launch} {D : va_G} {K : Nat → ClassId} {ad : Nat → Nat → Nat} {n : Nat} {π : Nat → Nat} {s : S3} (hJ : zw_J (cRL n) ad) (hn5 : n ≤ 5) (hc : ¬ s 3 2 0 = 0 → vp_in (s 6 1 7) n ∧ (¬ s 6 2 7 = 7 → vp_in (s 6 2 7) n)) : zM l y_Store_check ws_Store_check ({ frames := 3, cells := 0, slots := 0, locals := 68 }) D zCl (zTys K) (cRL n) ad [.ref (ad 0 0)] (kC K ad n s π) (some (.int (v_Store_check n π s ))) (kC K ad n (S_Store_check n π s ) π) := by
  refine zM.of (cc := prog_1_method_5_code) (maxL := 1) (ret := (Option.some Jvm.ClassFile.FieldType.int)) (by decide) rfl (Nat.le_of_ble_eq_true rfl) ?_
  intro pP eE U mM bL mT cO S hr hlk hK
  have hts := S.2.2.2.2
  have ht := fun w h => hts w (List.mem_cons_of_mem _ h)
  refine z_aload_n S d_Store_check_0 rfl 0 rfl 1 rfl ?_
  refine z_get S hK hin_Store rl_0 kC_0 rfl 2 (Nat.le_of_ble_eq_true rfl) (ht _ w_280) (fun _ h => h) d_Store_check_1 4 rfl (.ref (ad 3 0)) rfl ?_
  refine z_get S hK hin_Service rl_3 kC_3 rfl 2 (Nat.le_of_ble_eq_true rfl) (ht _ w_196) (fun _ h => h) d_Store_check_4 7 rfl (.int (s 3 2 0)) rfl ?_
  refine z_if_eq S d_Store_check_7 21 (by decide) 10 rfl (fun h1 => ?_) (fun h1 => ?_)
  · refine z_aload_n S d_Store_check_21 rfl 0 rfl 22 rfl ?_
    refine z_get S hK hin_Store rl_0 kC_0 rfl 2 (Nat.le_of_ble_eq_true rfl) (ht _ w_280) (fun _ h => h) d_Store_check_22 25 rfl (.ref (ad 3 0)) rfl ?_
    refine z_get S hK hin_Service rl_3 kC_3 rfl 0 (Nat.le_of_ble_eq_true rfl) (ht _ w_193) (fun _ h => h) d_Store_check_25 28 rfl (.ref (ad 6 7)) rfl ?_
    refine z_get S hK hin_View rl_67 kC_6 rfl 0 (Nat.le_of_ble_eq_true rfl) (ht _ w_43) (fun _ h => h) d_Store_check_28 31 rfl (.int (s 6 0 7)) rfl ?_
    exact z_iret S hr hlk d_Store_check_31 (by unfold v_Store_check; simp only [if_pos h1]) (kC_eq (by unfold S_Store_check; simp only [if_pos h1]))
  · refine z_aload_n S d_Store_check_10 rfl 0 rfl 11 rfl ?_
    refine z_get S hK hin_Store rl_0 kC_0 rfl 2 (Nat.le_of_ble_eq_true rfl) (ht _ w_280) (fun _ h => h) d_Store_check_11 14 rfl (.ref (ad 3 0)) rfl ?_
    refine z_aload_n S d_Store_check_14 rfl 0 rfl 15 rfl ?_
    refine z_get S hK hin_Store rl_0 kC_0 rfl 4 (Nat.le_of_ble_eq_true rfl) (ht _ w_282) (fun _ h => h) d_Store_check_15 18 rfl (.int (s 0 4 0)) rfl ?_
    refine z_callV S hK (As := [.int (s 0 4 0)]) (rest := []) (c_Service_reviseView (t := s 0 4 0) hJ hn5 ((hc h1).1) ((hc h1).2)) (cw_Service_reviseView hts w_330 rfl rfl ⟨(Nat.le_of_ble_eq_true rfl), (Nat.le_of_ble_eq_true rfl)⟩) rl_3 kC_3 rfl rfl rfl (Nat.le_of_ble_eq_true rfl) d_Store_check_18 21 rfl [] rfl ?_
    refine z_aload_n S d_Store_check_21 rfl 0 rfl 22 rfl ?_
    refine z_get S hK hin_Store rl_0 kC_0 rfl 2 (Nat.le_of_ble_eq_true rfl) (ht _ w_280) (fun _ h => h) d_Store_check_22 25 rfl (.ref (ad 3 0)) rfl ?_
    refine z_get S hK hin_Service rl_3 kC_3 rfl 0 (Nat.le_of_ble_eq_true rfl) (ht _ w_193) (fun _ h => h) d_Store_check_25 28 rfl (.ref (ad 6 7)) rfl ?_
    refine z_get S hK hin_View rl_67 kC_6 rfl 0 (Nat.le_of_ble_eq_true rfl) (ht _ w_43) (fun _ h => h) d_Store_check_28 31 rfl (.int ((S_Service_reviseView n π s (s 0 4 0)) 6 0 7)) rfl ?_
    exact z_iret S hr hlk d_Store_check_31 (by unfold v_Store_check; simp only [if_neg h1]) (kC_eq (by unfold S_Store_check; simp only [if_neg h1]))
theorem hw_take {w x : Int32} (hw : vp_in w 33) (h : ¬ v_Post_has w x = 0) : vp_in (w - 1) 33 := by
  unfold v_Post_has at h
  by_cases h1 : x < 0
  · simp [h1] at h
  · by_cases h2 : w ≤ x
    · simp [h2] at h
    · obtain ⟨j, hj, rfl⟩ := nI_of h1
      obtain ⟨k, hk, hk2, rfl⟩ := vp_nI hw
      rw [nI_leI hk2 hj] at h2
      obtain ⟨k, rfl⟩ : ∃ k', k = k' + 1 := ⟨k - 1, by omega⟩
      rw [nI_pred]
      exact nI_in (by omega) (by omega)
theorem d_Store_deliver_0 : decode prog_1_method_9_code 0 = .ok (.aload_n 0, 1) := by decide +kernel
theorem d_Store_deliver_1 : decode prog_1_method_9_code 1 = .ok (.getfield 44, 3) := by decide +kernel
theorem d_Store_deliver_4 : decode prog_1_method_9_code 4 = .ok (.iload_n 1, 1) := by decide +kernel
theorem d_Store_deliver_5 : decode prog_1_method_9_code 5 = .ok (.invokevirtual 145, 3) := by decide +kernel
theorem d_Store_deliver_8 : decode prog_1_method_9_code 8 = .ok (.ifCond .ne 5, 3) := by decide +kernel
theorem d_Store_deliver_11 : decode prog_1_method_9_code 11 = .ok (.iconst (-1), 1) := by decide +kernel
theorem d_Store_deliver_12 : decode prog_1_method_9_code 12 = .ok (.ireturn, 1) := by decide +kernel
theorem d_Store_deliver_13 : decode prog_1_method_9_code 13 = .ok (.aload_n 0, 1) := by decide +kernel
theorem d_Store_deliver_14 : decode prog_1_method_9_code 14 = .ok (.getfield 44, 3) := by decide +kernel
theorem d_Store_deliver_17 : decode prog_1_method_9_code 17 = .ok (.iload_n 1, 1) := by decide +kernel
theorem d_Store_deliver_18 : decode prog_1_method_9_code 18 = .ok (.invokevirtual 148, 3) := by decide +kernel
theorem d_Store_deliver_21 : decode prog_1_method_9_code 21 = .ok (.astore_n 2, 1) := by decide +kernel
theorem d_Store_deliver_22 : decode prog_1_method_9_code 22 = .ok (.aload_n 0, 1) := by decide +kernel
theorem d_Store_deliver_23 : decode prog_1_method_9_code 23 = .ok (.aload_n 2, 1) := by decide +kernel
theorem d_Store_deliver_24 : decode prog_1_method_9_code 24 = .ok (.invokevirtual 152, 3) := by decide +kernel
theorem d_Store_deliver_27 : decode prog_1_method_9_code 27 = .ok (.ifCond .eq 10, 3) := by decide +kernel
theorem d_Store_deliver_30 : decode prog_1_method_9_code 30 = .ok (.aload_n 2, 1) := by decide +kernel
theorem d_Store_deliver_31 : decode prog_1_method_9_code 31 = .ok (.getfield 156, 3) := by decide +kernel
theorem d_Store_deliver_34 : decode prog_1_method_9_code 34 = .ok (.goto 10, 3) := by decide +kernel
theorem d_Store_deliver_37 : decode prog_1_method_9_code 37 = .ok (.aload_n 2, 1) := by decide +kernel
theorem d_Store_deliver_38 : decode prog_1_method_9_code 38 = .ok (.getfield 156, 3) := by decide +kernel
theorem d_Store_deliver_41 : decode prog_1_method_9_code 41 = .ok (.bipush 8, 2) := by decide +kernel
theorem d_Store_deliver_43 : decode prog_1_method_9_code 43 = .ok (.iadd, 1) := by decide +kernel
theorem d_Store_deliver_44 : decode prog_1_method_9_code 44 = .ok (.ireturn, 1) := by decide +kernel
def S_Store_deliver (n : Nat) (π : Nat → Nat) (s : S3) (x : Int32) : S3 := if (v_Post_has (s 4 2 0) x) = 0 then s else if (v_Store_takesEffect n (tkP π x.toNatClampNeg) (u3 s 4 2 0 ((s 4 2 0) - 1)) (π x.toNatClampNeg)) = 0 then (S_Store_takesEffect n (tkP π x.toNatClampNeg) (u3 s 4 2 0 ((s 4 2 0) - 1)) (π x.toNatClampNeg)) else S_Store_takesEffect n (tkP π x.toNatClampNeg) (u3 s 4 2 0 ((s 4 2 0) - 1)) (π x.toNatClampNeg)
def v_Store_deliver (n : Nat) (π : Nat → Nat) (s : S3) (x : Int32) : Int32 := if (v_Post_has (s 4 2 0) x) = 0 then (-1) else if (v_Store_takesEffect n (tkP π x.toNatClampNeg) (u3 s 4 2 0 ((s 4 2 0) - 1)) (π x.toNatClampNeg)) = 0 then (((S_Store_takesEffect n (tkP π x.toNatClampNeg) (u3 s 4 2 0 ((s 4 2 0) - 1)) (π x.toNatClampNeg)) 5 3 (π x.toNatClampNeg)) + 8) else (S_Store_takesEffect n (tkP π x.toNatClampNeg) (u3 s 4 2 0 ((s 4 2 0) - 1)) (π x.toNatClampNeg)) 5 3 (π x.toNatClampNeg)
def P_Store_deliver (n : Nat) (π : Nat → Nat) (s : S3) (x : Int32) : Nat → Nat := if (v_Post_has (s 4 2 0) x) = 0 then π else if (v_Store_takesEffect n (tkP π x.toNatClampNeg) (u3 s 4 2 0 ((s 4 2 0) - 1)) (π x.toNatClampNeg)) = 0 then (tkP π x.toNatClampNeg) else tkP π x.toNatClampNeg
set_option maxHeartbeats 4000000 in
set_option maxRecDepth 100000 in
theorem c_Store_deliver {l : Launch} {D : va_G} {K : Nat → ClassId} {ad : Nat → Nat → Nat} {n : Nat} {π : Nat → Nat} {s : S3} {x : Int32} (hJ : zw_J (cRL n) ad) (hw : vp_in (s 4 2 0) 33) (hπ : ∀ j, π j < 34) (hop : opOK s) (hpd : ¬ v_Post_has (s 4 2 0) x = 0 → (¬ s 5 3 (π x.toNatClampNeg) = 8 → vp_in (s 5 4 (π x.toNatClampNeg)) n) ∧ (s 5 3 (π x.toNatClampNeg) = 8 → vp_in (s 5 4 (π x.toNatClampNeg)) 3)) : zM l y_Store_deliver ws_Store_deliver ({ frames := 6, cells := 0, slots := 0, locals := 189 }) D zCl (zTys K) (cRL n) ad [.ref (ad 0 0), .int x] (kC K ad n s π) (some (.int (v_Store_deliver n π s x))) (kC K ad n (S_Store_deliver n π s x) (P_Store_deliver n π s x)) := by
  refine zM.of (cc := prog_1_method_9_code) (maxL := 3) (ret := (Option.some Jvm.ClassFile.FieldType.int)) (by decide) rfl (Nat.le_of_ble_eq_true rfl) ?_
  intro pP eE U mM bL mT cO S hr hlk hK
  have hts := S.2.2.2.2
  have ht := fun w h => hts w (List.mem_cons_of_mem _ h)
  refine z_aload_n S d_Store_deliver_0 rfl 0 rfl 1 rfl ?_
  refine z_get S hK hin_Store rl_0 kC_0 rfl 3 (Nat.le_of_ble_eq_true rfl) (ht _ w_281) (fun _ h => h) d_Store_deliver_1 4 rfl (.ref (ad 4 0)) rfl ?_
  refine z_iload_n S d_Store_deliver_4 rfl 1 rfl 5 rfl ?_
  refine z_callV S hK (As := [.int x]) (rest := []) (c_Post_has (x := x) hJ) (cw_Post_has hts w_403 rfl rfl ⟨(Nat.le_of_ble_eq_true rfl), (Nat.le_of_ble_eq_true rfl)⟩) rl_4 kC_4 rfl rfl rfl (Nat.le_of_ble_eq_true rfl) d_Store_deliver_5 8 rfl [.int (v_Post_has (s 4 2 0) x)] rfl ?_
  refine z_if_ne S d_Store_deliver_8 13 (by decide) 11 rfl (fun h1 => ?_) (fun h1 => ?_)
  · refine z_aload_n S d_Store_deliver_13 rfl 0 rfl 14 rfl ?_
    refine z_get S hK hin_Store rl_0 kC_0 rfl 3 (Nat.le_of_ble_eq_true rfl) (ht _ w_281) (fun _ h => h) d_Store_deliver_14 17 rfl (.ref (ad 4 0)) rfl ?_
    refine z_iload_n S d_Store_deliver_17 rfl 1 rfl 18 rfl ?_
    refine z_callV S hK (As := [.int x]) (rest := []) (c_Post_take (x := x) hJ hπ (in_has hw h1)) (cw_Post_take hts w_407 rfl rfl ⟨(Nat.le_of_ble_eq_true rfl), (Nat.le_of_ble_eq_true rfl)⟩) rl_4 kC_4 rfl rfl rfl (Nat.le_of_ble_eq_true rfl) d_Store_deliver_18 21 rfl [.ref (ad 5 (π x.toNatClampNeg))] rfl ?_
    refine z_astore_n S d_Store_deliver_21 rfl (Nat.le_of_ble_eq_true rfl) [(2, .ref (ad 5 (π x.toNatClampNeg))), (0, .ref (ad 0 0)), (1, .int x)] rfl 22 rfl ?_
    refine z_aload_n S d_Store_deliver_22 rfl 1 rfl 23 rfl ?_
    refine z_aload_n S d_Store_deliver_23 rfl 0 rfl 24 rfl ?_
    refine z_callV S hK (As := [.ref (ad 5 (π x.toNatClampNeg))]) (rest := []) (c_Store_takesEffect (L := π x.toNatClampNeg) hJ (rl_let (hπ _)) (hw_take hw h1) (tkP_lt hπ) hop (hpd h1)) (cw_Store_takesEffect hts w_411 rfl rfl ⟨(Nat.le_of_ble_eq_true rfl), (Nat.le_of_ble_eq_true rfl)⟩) rl_0 kC_0 rfl rfl rfl (Nat.le_of_ble_eq_true rfl) d_Store_deliver_24 27 rfl [.int (v_Store_takesEffect n (tkP π x.toNatClampNeg) (u3 s 4 2 0 ((s 4 2 0) - 1)) (π x.toNatClampNeg))] rfl ?_
    refine z_if_eq S d_Store_deliver_27 37 (by decide) 30 rfl (fun h2 => ?_) (fun h2 => ?_)
    · refine z_aload_n S d_Store_deliver_37 rfl 0 rfl 38 rfl ?_
      refine z_get S hK hin_Letter (rl_let (hπ _)) kC_5 rfl 3 (Nat.le_of_ble_eq_true rfl) (ht _ w_232) (fun _ h => h) d_Store_deliver_38 41 rfl (.int ((S_Store_takesEffect n (tkP π x.toNatClampNeg) (u3 s 4 2 0 ((s 4 2 0) - 1)) (π x.toNatClampNeg)) 5 3 (π x.toNatClampNeg))) rfl ?_
      refine z_bipush S d_Store_deliver_41 8 (by decide) 43 rfl ?_
      refine z_iadd S d_Store_deliver_43 44 rfl ?_
      exact z_iret S hr hlk d_Store_deliver_44 (by unfold v_Store_deliver; simp only [if_neg h1, if_pos h2]) (kC_eq2 (by unfold S_Store_deliver; simp only [if_neg h1, if_pos h2]) (by unfold P_Store_deliver; simp only [if_neg h1, if_pos h2]))
    · refine z_aload_n S d_Store_deliver_30 rfl 0 rfl 31 rfl ?_
      refine z_get S hK hin_Letter (rl_let (hπ _)) kC_5 rfl 3 (Nat.le_of_ble_eq_true rfl) (ht _ w_232) (fun _ h => h) d_Store_deliver_31 34 rfl (.int ((S_Store_takesEffect n (tkP π x.toNatClampNeg) (u3 s 4 2 0 ((s 4 2 0) - 1)) (π x.toNatClampNeg)) 5 3 (π x.toNatClampNeg))) rfl ?_
      refine z_goto S d_Store_deliver_34 44 (by decide) ?_
      exact z_iret S hr hlk d_Store_deliver_44 (by unfold v_Store_deliver; simp only [if_neg h1, if_neg h2]) (kC_eq2 (by unfold S_Store_deliver; simp only [if_neg h1, if_neg h2]) (by unfold P_Store_deliver; simp only [if_neg h1, if_neg h2]))
  · refine z_iconst S d_Store_deliver_11 (-1) (by decide) 12 rfl ?_
    exact z_iret S hr hlk d_Store_deliver_12 (by unfold v_Store_deliver; simp only [if_pos h1]) (kC_eq2 (by unfold S_Store_deliver; simp only [if_pos h1]) (by unfold P_Store_deliver; simp only [if_pos h1]))
theorem d_Store_lose_0 : decode prog_1_method_10_code 0 = .ok (.aload_n 0, 1) := by decide +kernel
theorem d_Store_lose_1 : decode prog_1_method_10_code 1 = .ok (.getfield 44, 3) := by decide +kernel
theorem d_Store_lose_4 : decode prog_1_method_10_code 4 = .ok (.iload_n 1, 1) := by decide +kernel
theorem d_Store_lose_5 : decode prog_1_method_10_code 5 = .ok (.invokevirtual 145, 3) := by decide +kernel
theorem d_Store_lose_8 : decode prog_1_method_10_code 8 = .ok (.ifCond .ne 5, 3) := by decide +kernel
theorem d_Store_lose_11 : decode prog_1_method_10_code 11 = .ok (.iconst 0, 1) := by decide +kernel
theorem d_Store_lose_12 : decode prog_1_method_10_code 12 = .ok (.ireturn, 1) := by decide +kernel
theorem d_Store_lose_13 : decode prog_1_method_10_code 13 = .ok (.aload_n 0, 1) := by decide +kernel
theorem d_Store_lose_14 : decode prog_1_method_10_code 14 = .ok (.getfield 44, 3) := by decide +kernel
theorem d_Store_lose_17 : decode prog_1_method_10_code 17 = .ok (.iload_n 1, 1) := by decide +kernel
theorem d_Store_lose_18 : decode prog_1_method_10_code 18 = .ok (.invokevirtual 148, 3) := by decide +kernel
theorem d_Store_lose_21 : decode prog_1_method_10_code 21 = .ok (.pop, 1) := by decide +kernel
theorem d_Store_lose_22 : decode prog_1_method_10_code 22 = .ok (.iconst 1, 1) := by decide +kernel
theorem d_Store_lose_23 : decode prog_1_method_10_code 23 = .ok (.ireturn, 1) := by decide +kernel
def S_Store_lose (n : Nat) (π : Nat → Nat) (s : S3) (x : Int32) : S3 := if (v_Post_has (s 4 2 0) x) = 0 then s else u3 s 4 2 0 ((s 4 2 0) - 1)
def v_Store_lose (n : Nat) (π : Nat → Nat) (s : S3) (x : Int32) : Int32 := if (v_Post_has (s 4 2 0) x) = 0 then 0 else 1
theorem zbv_Store_lose {n : Nat} {π : Nat → Nat} {s : S3} {x : Int32} : zb (v_Store_lose n π s x) := by
  unfold v_Store_lose
  repeat' split
  all_goals first | with_reducible exact zb_0 | with_reducible exact zb_1 | with_reducible exact zbv_View_hasBackup | with_reducible exact zbv_Server_isPrimary | with_reducible exact zbv_Server_isPrimaryOf | with_reducible exact zbv_Server_isBackupOf | with_reducible exact zbv_Client_takeAnswer | with_reducible exact zbv_Service_isFresh | with_reducible exact zbv_Post_has | with_reducible exact zbv_Store_isServer | with_reducible exact zbv_Store_isClient | with_reducible exact zbv_Store_isCell | with_reducible exact zbv_Store_takeRead | with_reducible exact zbv_Store_takeWrite | with_reducible exact zbv_Store_takeAsk | with_reducible exact zbv_Store_takePassed | with_reducible exact zbv_Store_takePass | with_reducible exact zbv_Store_takeFilled | with_reducible exact zbv_Store_takeFill | with_reducible exact zbv_Store_takeView | with_reducible exact zbv_Store_takePing | with_reducible exact zbv_Store_takesEffect | with_reducible exact zbv_Store_skew | with_reducible exact zbv_Store_ping | with_reducible exact zbv_Store_push | with_reducible exact zbv_Store_crash | with_reducible exact zbv_Store_send
def P_Store_lose (n : Nat) (π : Nat → Nat) (s : S3) (x : Int32) : Nat → Nat := if (v_Post_has (s 4 2 0) x) = 0 then π else tkP π x.toNatClampNeg
set_option maxHeartbeats 4000000 in
set_option maxRecDepth 100000 in
theorem c_Store_lose {l : Launch} {D : va_G} {K : Nat → ClassId} {ad : Nat → Nat → Nat} {n : Nat} {π : Nat → Nat} {s : S3} {x : Int32} (hJ : zw_J (cRL n) ad) (hw : vp_in (s 4 2 0) 33) (hπ : ∀ j, π j < 34) : zM l y_Store_lose ws_Store_lose ({ frames := 1, cells := 0, slots := 0, locals := 23 }) D zCl (zTys K) (cRL n) ad [.ref (ad 0 0), .int x] (kC K ad n s π) (some (.int (v_Store_lose n π s x))) (kC K ad n (S_Store_lose n π s x) (P_Store_lose n π s x)) := by
  refine zM.of (cc := prog_1_method_10_code) (maxL := 2) (ret := (Option.some Jvm.ClassFile.FieldType.boolean)) (by decide) rfl (Nat.le_of_ble_eq_true rfl) ?_
  intro pP eE U mM bL mT cO S hr hlk hK
  have hts := S.2.2.2.2
  have ht := fun w h => hts w (List.mem_cons_of_mem _ h)
  refine z_aload_n S d_Store_lose_0 rfl 0 rfl 1 rfl ?_
  refine z_get S hK hin_Store rl_0 kC_0 rfl 3 (Nat.le_of_ble_eq_true rfl) (ht _ w_281) (fun _ h => h) d_Store_lose_1 4 rfl (.ref (ad 4 0)) rfl ?_
  refine z_iload_n S d_Store_lose_4 rfl 1 rfl 5 rfl ?_
  refine z_callV S hK (As := [.int x]) (rest := []) (c_Post_has (x := x) hJ) (cw_Post_has hts w_403 rfl rfl ⟨(Nat.le_of_ble_eq_true rfl), (Nat.le_of_ble_eq_true rfl)⟩) rl_4 kC_4 rfl rfl rfl (Nat.le_of_ble_eq_true rfl) d_Store_lose_5 8 rfl [.int (v_Post_has (s 4 2 0) x)] rfl ?_
  refine z_if_ne S d_Store_lose_8 13 (by decide) 11 rfl (fun h1 => ?_) (fun h1 => ?_)
  · refine z_aload_n S d_Store_lose_13 rfl 0 rfl 14 rfl ?_
    refine z_get S hK hin_Store rl_0 kC_0 rfl 3 (Nat.le_of_ble_eq_true rfl) (ht _ w_281) (fun _ h => h) d_Store_lose_14 17 rfl (.ref (ad 4 0)) rfl ?_
    refine z_iload_n S d_Store_lose_17 rfl 1 rfl 18 rfl ?_
    refine z_callV S hK (As := [.int x]) (rest := []) (c_Post_take (x := x) hJ hπ (in_has hw h1)) (cw_Post_take hts w_407 rfl rfl ⟨(Nat.le_of_ble_eq_true rfl), (Nat.le_of_ble_eq_true rfl)⟩) rl_4 kC_4 rfl rfl rfl (Nat.le_of_ble_eq_true rfl) d_Store_lose_18 21 rfl [.ref (ad 5 (π x.toNatClampNeg))] rfl ?_
    refine z_pop S d_Store_lose_21 rfl 22 rfl ?_
    refine z_iconst S d_Store_lose_22 1 (by decide) 23 rfl ?_
    exact z_zret S hr (zb_n zb_1) hlk d_Store_lose_23 (by unfold v_Store_lose; simp only [if_neg h1]) (kC_eq2 (by unfold S_Store_lose; simp only [if_neg h1]) (by unfold P_Store_lose; simp only [if_neg h1]))
  · refine z_iconst S d_Store_lose_11 0 (by decide) 12 rfl ?_
    exact z_zret S hr (zb_n zb_0) hlk d_Store_lose_12 (by unfold v_Store_lose; simp only [if_pos h1]) (kC_eq2 (by unfold S_Store_lose; simp only [if_pos h1]) (by unfold P_Store_lose; simp only [if_pos h1]))
end
section
/-! the reference's world: its object is kind 0, each array's kind is the slot of its field -/
def rRL : List (Nat × Nat) := [(0, 0), (3, 0), (4, 0), (5, 0), (6, 0), (7, 0), (8, 0), (9, 0), (10, 0), (12, 0), (13, 0), (14, 0), (15, 0), (16, 0), (17, 0), (18, 0), (19, 0), (20, 0), (21, 0), (22, 0), (23, 0), (24, 0), (26, 0), (27, 0), (28, 0), (29, 0), (30, 0), (31, 0), (32, 0), (33, 0), (34, 0), (35, 0), (36, 0)]
def rE (K : Nat → ClassId) (ad : Nat → Nat → Nat) (k i : Nat) (r : Nat → Nat → Int32) : va_E := match k with
  | 0 => .inr (9, [.int (r 0 i), .int (r 1 i), .int (r 2 i), .ref (ad 3 0), .ref (ad 4 0), .ref (ad 5 0), .ref (ad 6 0), .ref (ad 7 0), .ref (ad 8 0), .ref (ad 9 0), .ref (ad 10 0), .int (r 11 i), .ref (ad 12 0), .ref (ad 13 0), .ref (ad 14 0), .ref (ad 15 0), .ref (ad 16 0), .ref (ad 17 0), .ref (ad 18 0), .ref (ad 19 0), .ref (ad 20 0), .ref (ad 21 0), .ref (ad 22 0), .ref (ad 23 0), .ref (ad 24 0), .int (r 25 i), .ref (ad 26 0), .ref (ad 27 0), .ref (ad 28 0), .ref (ad 29 0), .ref (ad 30 0), .ref (ad 31 0), .ref (ad 32 0), .ref (ad 33 0), .ref (ad 34 0), .ref (ad 35 0), .ref (ad 36 0)])
  | 3 => .inl (K 0, 512, .inl (r i))
  | 4 => .inl (K 0, 512, .inl (r i))
  | 5 => .inl (K 0, 512, .inl (r i))
  | 6 => .inl (K 0, 512, .inl (r i))
  | 7 => .inl (K 1, 512, .inl (r i))
  | 8 => .inl (K 0, 6, .inl (r i))
  | 9 => .inl (K 0, 6, .inl (r i))
  | 10 => .inl (K 0, 6, .inl (r i))
  | 12 => .inl (K 0, 5, .inl (r i))
  | 13 => .inl (K 0, 5, .inl (r i))
  | 14 => .inl (K 0, 5, .inl (r i))
  | 15 => .inl (K 1, 5, .inl (r i))
  | 16 => .inl (K 1, 5, .inl (r i))
  | 17 => .inl (K 1, 5, .inl (r i))
  | 18 => .inl (K 0, 5, .inl (r i))
  | 19 => .inl (K 0, 5, .inl (r i))
  | 20 => .inl (K 2, 900, .inl (r i))
  | 21 => .inl (K 0, 3, .inl (r i))
  | 22 => .inl (K 0, 3, .inl (r i))
  | 23 => .inl (K 0, 3, .inl (r i))
  | 24 => .inl (K 0, 3, .inl (r i))
  | 26 => .inl (K 0, 32, .inl (r i))
  | 27 => .inl (K 1, 34, .inl (r i))
  | 28 => .inl (K 0, 34, .inl (r i))
  | 29 => .inl (K 0, 34, .inl (r i))
  | 30 => .inl (K 0, 34, .inl (r i))
  | 31 => .inl (K 0, 34, .inl (r i))
  | 32 => .inl (K 0, 34, .inl (r i))
  | 33 => .inl (K 0, 34, .inl (r i))
  | 34 => .inl (K 0, 34, .inl (r i))
  | 35 => .inl (K 0, 34, .inl (r i))
  | _ => .inl (K 2, 6120, .inl (r i))
def rC (K : Nat → ClassId) (ad : Nat → Nat → Nat) (s : S3) : Nat → Nat → va_E := fun k i => rE K ad k i (s k)
section RC
variable {K : Nat → ClassId} {ad : Nat → Nat → Nat} {s s' : S3} {i : Nat}
theorem rC_eq (h : s = s') : rC K ad s = rC K ad s' := by rw [h]
theorem rC_0 : rC K ad s 0 i = .inr (9, [.int (s 0 0 i), .int (s 0 1 i), .int (s 0 2 i), .ref (ad 3 0), .ref (ad 4 0), .ref (ad 5 0), .ref (ad 6 0), .ref (ad 7 0), .ref (ad 8 0), .ref (ad 9 0), .ref (ad 10 0), .int (s 0 11 i), .ref (ad 12 0), .ref (ad 13 0), .ref (ad 14 0), .ref (ad 15 0), .ref (ad 16 0), .ref (ad 17 0), .ref (ad 18 0), .ref (ad 19 0), .ref (ad 20 0), .ref (ad 21 0), .ref (ad 22 0), .ref (ad 23 0), .ref (ad 24 0), .int (s 0 25 i), .ref (ad 26 0), .ref (ad 27 0), .ref (ad 28 0), .ref (ad 29 0), .ref (ad 30 0), .ref (ad 31 0), .ref (ad 32 0), .ref (ad 33 0), .ref (ad 34 0), .ref (ad 35 0), .ref (ad 36 0)]) := rfl
theorem rC_3 : rC K ad s 3 i = .inl (K 0, 512, .inl (s 3 i)) := rfl
theorem rm_3 : (3, 0) ∈ rRL := by decide
theorem rC_4 : rC K ad s 4 i = .inl (K 0, 512, .inl (s 4 i)) := rfl
theorem rm_4 : (4, 0) ∈ rRL := by decide
theorem rC_5 : rC K ad s 5 i = .inl (K 0, 512, .inl (s 5 i)) := rfl
theorem rm_5 : (5, 0) ∈ rRL := by decide
theorem rC_6 : rC K ad s 6 i = .inl (K 0, 512, .inl (s 6 i)) := rfl
theorem rm_6 : (6, 0) ∈ rRL := by decide
theorem rC_7 : rC K ad s 7 i = .inl (K 1, 512, .inl (s 7 i)) := rfl
theorem rm_7 : (7, 0) ∈ rRL := by decide
theorem rC_8 : rC K ad s 8 i = .inl (K 0, 6, .inl (s 8 i)) := rfl
theorem rm_8 : (8, 0) ∈ rRL := by decide
theorem rC_9 : rC K ad s 9 i = .inl (K 0, 6, .inl (s 9 i)) := rfl
theorem rm_9 : (9, 0) ∈ rRL := by decide
theorem rC_10 : rC K ad s 10 i = .inl (K 0, 6, .inl (s 10 i)) := rfl
theorem rm_10 : (10, 0) ∈ rRL := by decide
theorem rC_12 : rC K ad s 12 i = .inl (K 0, 5, .inl (s 12 i)) := rfl
theorem rm_12 : (12, 0) ∈ rRL := by decide
theorem rC_13 : rC K ad s 13 i = .inl (K 0, 5, .inl (s 13 i)) := rfl
theorem rm_13 : (13, 0) ∈ rRL := by decide
theorem rC_14 : rC K ad s 14 i = .inl (K 0, 5, .inl (s 14 i)) := rfl
theorem rm_14 : (14, 0) ∈ rRL := by decide
theorem rC_15 : rC K ad s 15 i = .inl (K 1, 5, .inl (s 15 i)) := rfl
theorem rm_15 : (15, 0) ∈ rRL := by decide
theorem rC_16 : rC K ad s 16 i = .inl (K 1, 5, .inl (s 16 i)) := rfl
theorem rm_16 : (16, 0) ∈ rRL := by decide
theorem rC_17 : rC K ad s 17 i = .inl (K 1, 5, .inl (s 17 i)) := rfl
theorem rm_17 : (17, 0) ∈ rRL := by decide
theorem rC_18 : rC K ad s 18 i = .inl (K 0, 5, .inl (s 18 i)) := rfl
theorem rm_18 : (18, 0) ∈ rRL := by decide
theorem rC_19 : rC K ad s 19 i = .inl (K 0, 5, .inl (s 19 i)) := rfl
theorem rm_19 : (19, 0) ∈ rRL := by decide
theorem rC_20 : rC K ad s 20 i = .inl (K 2, 900, .inl (s 20 i)) := rfl
theorem rm_20 : (20, 0) ∈ rRL := by decide
theorem rC_21 : rC K ad s 21 i = .inl (K 0, 3, .inl (s 21 i)) := rfl
theorem rm_21 : (21, 0) ∈ rRL := by decide
theorem rC_22 : rC K ad s 22 i = .inl (K 0, 3, .inl (s 22 i)) := rfl
theorem rm_22 : (22, 0) ∈ rRL := by decide
theorem rC_23 : rC K ad s 23 i = .inl (K 0, 3, .inl (s 23 i)) := rfl
theorem rm_23 : (23, 0) ∈ rRL := by decide
theorem rC_24 : rC K ad s 24 i = .inl (K 0, 3, .inl (s 24 i)) := rfl
theorem rm_24 : (24, 0) ∈ rRL := by decide
theorem rC_26 : rC K ad s 26 i = .inl (K 0, 32, .inl (s 26 i)) := rfl
theorem rm_26 : (26, 0) ∈ rRL := by decide
theorem rC_27 : rC K ad s 27 i = .inl (K 1, 34, .inl (s 27 i)) := rfl
theorem rm_27 : (27, 0) ∈ rRL := by decide
theorem rC_28 : rC K ad s 28 i = .inl (K 0, 34, .inl (s 28 i)) := rfl
theorem rm_28 : (28, 0) ∈ rRL := by decide
theorem rC_29 : rC K ad s 29 i = .inl (K 0, 34, .inl (s 29 i)) := rfl
theorem rm_29 : (29, 0) ∈ rRL := by decide
theorem rC_30 : rC K ad s 30 i = .inl (K 0, 34, .inl (s 30 i)) := rfl
theorem rm_30 : (30, 0) ∈ rRL := by decide
theorem rC_31 : rC K ad s 31 i = .inl (K 0, 34, .inl (s 31 i)) := rfl
theorem rm_31 : (31, 0) ∈ rRL := by decide
theorem rC_32 : rC K ad s 32 i = .inl (K 0, 34, .inl (s 32 i)) := rfl
theorem rm_32 : (32, 0) ∈ rRL := by decide
theorem rC_33 : rC K ad s 33 i = .inl (K 0, 34, .inl (s 33 i)) := rfl
theorem rm_33 : (33, 0) ∈ rRL := by decide
theorem rC_34 : rC K ad s 34 i = .inl (K 0, 34, .inl (s 34 i)) := rfl
theorem rm_34 : (34, 0) ∈ rRL := by decide
theorem rC_35 : rC K ad s 35 i = .inl (K 0, 34, .inl (s 35 i)) := rfl
theorem rm_35 : (35, 0) ∈ rRL := by decide
theorem rC_36 : rC K ad s 36 i = .inl (K 2, 6120, .inl (s 36 i)) := rfl
theorem rm_36 : (36, 0) ∈ rRL := by decide
theorem rm_0 : (0, 0) ∈ rRL := by decide
theorem rup_0 {x : Int32} : zw_up (rC K ad s) 0 i (.inr (9, [.int (s 0 0 i), .int (s 0 1 i), .int (s 0 2 i), .ref (ad 3 0), .ref (ad 4 0), .ref (ad 5 0), .ref (ad 6 0), .ref (ad 7 0), .ref (ad 8 0), .ref (ad 9 0), .ref (ad 10 0), .int (s 0 11 i), .ref (ad 12 0), .ref (ad 13 0), .ref (ad 14 0), .ref (ad 15 0), .ref (ad 16 0), .ref (ad 17 0), .ref (ad 18 0), .ref (ad 19 0), .ref (ad 20 0), .ref (ad 21 0), .ref (ad 22 0), .ref (ad 23 0), .ref (ad 24 0), .int (s 0 25 i), .ref (ad 26 0), .ref (ad 27 0), .ref (ad 28 0), .ref (ad 29 0), .ref (ad 30 0), .ref (ad 31 0), .ref (ad 32 0), .ref (ad 33 0), .ref (ad 34 0), .ref (ad 35 0), .ref (ad 36 0)].set 0 (.int x))) = rC K ad (u3 s 0 0 i x) := by
  funext a b
  unfold zw_up
  by_cases ha : a = 0
  · subst ha
    by_cases hb : b = i
    · subst hb; simp [rC, rE, u3, uA, upd]
    · simp [rC, rE, u3, uA, upd, hb]
  · simp [rC, u3, uA, ha]
theorem rup_1 {x : Int32} : zw_up (rC K ad s) 0 i (.inr (9, [.int (s 0 0 i), .int (s 0 1 i), .int (s 0 2 i), .ref (ad 3 0), .ref (ad 4 0), .ref (ad 5 0), .ref (ad 6 0), .ref (ad 7 0), .ref (ad 8 0), .ref (ad 9 0), .ref (ad 10 0), .int (s 0 11 i), .ref (ad 12 0), .ref (ad 13 0), .ref (ad 14 0), .ref (ad 15 0), .ref (ad 16 0), .ref (ad 17 0), .ref (ad 18 0), .ref (ad 19 0), .ref (ad 20 0), .ref (ad 21 0), .ref (ad 22 0), .ref (ad 23 0), .ref (ad 24 0), .int (s 0 25 i), .ref (ad 26 0), .ref (ad 27 0), .ref (ad 28 0), .ref (ad 29 0), .ref (ad 30 0), .ref (ad 31 0), .ref (ad 32 0), .ref (ad 33 0), .ref (ad 34 0), .ref (ad 35 0), .ref (ad 36 0)].set 1 (.int x))) = rC K ad (u3 s 0 1 i x) := by
  funext a b
  unfold zw_up
  by_cases ha : a = 0
  · subst ha
    by_cases hb : b = i
    · subst hb; simp [rC, rE, u3, uA, upd]
    · simp [rC, rE, u3, uA, upd, hb]
  · simp [rC, u3, uA, ha]
theorem rup_2 {x : Int32} : zw_up (rC K ad s) 0 i (.inr (9, [.int (s 0 0 i), .int (s 0 1 i), .int (s 0 2 i), .ref (ad 3 0), .ref (ad 4 0), .ref (ad 5 0), .ref (ad 6 0), .ref (ad 7 0), .ref (ad 8 0), .ref (ad 9 0), .ref (ad 10 0), .int (s 0 11 i), .ref (ad 12 0), .ref (ad 13 0), .ref (ad 14 0), .ref (ad 15 0), .ref (ad 16 0), .ref (ad 17 0), .ref (ad 18 0), .ref (ad 19 0), .ref (ad 20 0), .ref (ad 21 0), .ref (ad 22 0), .ref (ad 23 0), .ref (ad 24 0), .int (s 0 25 i), .ref (ad 26 0), .ref (ad 27 0), .ref (ad 28 0), .ref (ad 29 0), .ref (ad 30 0), .ref (ad 31 0), .ref (ad 32 0), .ref (ad 33 0), .ref (ad 34 0), .ref (ad 35 0), .ref (ad 36 0)].set 2 (.int x))) = rC K ad (u3 s 0 2 i x) := by
  funext a b
  unfold zw_up
  by_cases ha : a = 0
  · subst ha
    by_cases hb : b = i
    · subst hb; simp [rC, rE, u3, uA, upd]
    · simp [rC, rE, u3, uA, upd, hb]
  · simp [rC, u3, uA, ha]
theorem rup_11 {x : Int32} : zw_up (rC K ad s) 0 i (.inr (9, [.int (s 0 0 i), .int (s 0 1 i), .int (s 0 2 i), .ref (ad 3 0), .ref (ad 4 0), .ref (ad 5 0), .ref (ad 6 0), .ref (ad 7 0), .ref (ad 8 0), .ref (ad 9 0), .ref (ad 10 0), .int (s 0 11 i), .ref (ad 12 0), .ref (ad 13 0), .ref (ad 14 0), .ref (ad 15 0), .ref (ad 16 0), .ref (ad 17 0), .ref (ad 18 0), .ref (ad 19 0), .ref (ad 20 0), .ref (ad 21 0), .ref (ad 22 0), .ref (ad 23 0), .ref (ad 24 0), .int (s 0 25 i), .ref (ad 26 0), .ref (ad 27 0), .ref (ad 28 0), .ref (ad 29 0), .ref (ad 30 0), .ref (ad 31 0), .ref (ad 32 0), .ref (ad 33 0), .ref (ad 34 0), .ref (ad 35 0), .ref (ad 36 0)].set 11 (.int x))) = rC K ad (u3 s 0 11 i x) := by
  funext a b
  unfold zw_up
  by_cases ha : a = 0
  · subst ha
    by_cases hb : b = i
    · subst hb; simp [rC, rE, u3, uA, upd]
    · simp [rC, rE, u3, uA, upd, hb]
  · simp [rC, u3, uA, ha]
theorem rup_25 {x : Int32} : zw_up (rC K ad s) 0 i (.inr (9, [.int (s 0 0 i), .int (s 0 1 i), .int (s 0 2 i), .ref (ad 3 0), .ref (ad 4 0), .ref (ad 5 0), .ref (ad 6 0), .ref (ad 7 0), .ref (ad 8 0), .ref (ad 9 0), .ref (ad 10 0), .int (s 0 11 i), .ref (ad 12 0), .ref (ad 13 0), .ref (ad 14 0), .ref (ad 15 0), .ref (ad 16 0), .ref (ad 17 0), .ref (ad 18 0), .ref (ad 19 0), .ref (ad 20 0), .ref (ad 21 0), .ref (ad 22 0), .ref (ad 23 0), .ref (ad 24 0), .int (s 0 25 i), .ref (ad 26 0), .ref (ad 27 0), .ref (ad 28 0), .ref (ad 29 0), .ref (ad 30 0), .ref (ad 31 0), .ref (ad 32 0), .ref (ad 33 0), .ref (ad 34 0), .ref (ad 35 0), .ref (ad 36 0)].set 25 (.int x))) = rC K ad (u3 s 0 25 i x) := by
  funext a b
  unfold zw_up
  by_cases ha : a = 0
  · subst ha
    by_cases hb : b = i
    · subst hb; simp [rC, rE, u3, uA, upd]
    · simp [rC, rE, u3, uA, upd, hb]
  · simp [rC, u3, uA, ha]
theorem rupA_3 {f : Nat → Int32} : zw_up (rC K ad s) 3 i (.inl (K 0, 512, .inl f)) = rC K ad (uA s 3 i f) := by
  funext a b
  unfold zw_up
  by_cases ha : a = 3
  · subst ha
    by_cases hb : b = i
    · subst hb; simp [rC, rE, uA]
    · simp [rC, rE, uA, hb]
  · simp [rC, uA, ha]
theorem rupI_3 {j : Nat} {x : Int32} : zw_up (rC K ad s) 3 i (.inl (K 0, 512, .inl (upd (s 3 i) j x))) = rC K ad (u3 s 3 i j x) := rupA_3
theorem rupA_4 {f : Nat → Int32} : zw_up (rC K ad s) 4 i (.inl (K 0, 512, .inl f)) = rC K ad (uA s 4 i f) := by
  funext a b
  unfold zw_up
  by_cases ha : a = 4
  · subst ha
    by_cases hb : b = i
    · subst hb; simp [rC, rE, uA]
    · simp [rC, rE, uA, hb]
  · simp [rC, uA, ha]
theorem rupI_4 {j : Nat} {x : Int32} : zw_up (rC K ad s) 4 i (.inl (K 0, 512, .inl (upd (s 4 i) j x))) = rC K ad (u3 s 4 i j x) := rupA_4
theorem rupA_5 {f : Nat → Int32} : zw_up (rC K ad s) 5 i (.inl (K 0, 512, .inl f)) = rC K ad (uA s 5 i f) := by
  funext a b
  unfold zw_up
  by_cases ha : a = 5
  · subst ha
    by_cases hb : b = i
    · subst hb; simp [rC, rE, uA]
    · simp [rC, rE, uA, hb]
  · simp [rC, uA, ha]
theorem rupI_5 {j : Nat} {x : Int32} : zw_up (rC K ad s) 5 i (.inl (K 0, 512, .inl (upd (s 5 i) j x))) = rC K ad (u3 s 5 i j x) := rupA_5
theorem rupA_6 {f : Nat → Int32} : zw_up (rC K ad s) 6 i (.inl (K 0, 512, .inl f)) = rC K ad (uA s 6 i f) := by
  funext a b
  unfold zw_up
  by_cases ha : a = 6
  · subst ha
    by_cases hb : b = i
    · subst hb; simp [rC, rE, uA]
    · simp [rC, rE, uA, hb]
  · simp [rC, uA, ha]
theorem rupI_6 {j : Nat} {x : Int32} : zw_up (rC K ad s) 6 i (.inl (K 0, 512, .inl (upd (s 6 i) j x))) = rC K ad (u3 s 6 i j x) := rupA_6
theorem rupA_7 {f : Nat → Int32} : zw_up (rC K ad s) 7 i (.inl (K 1, 512, .inl f)) = rC K ad (uA s 7 i f) := by
  funext a b
  unfold zw_up
  by_cases ha : a = 7
  · subst ha
    by_cases hb : b = i
    · subst hb; simp [rC, rE, uA]
    · simp [rC, rE, uA, hb]
  · simp [rC, uA, ha]
theorem rupI_7 {j : Nat} {x : Int32} : zw_up (rC K ad s) 7 i (.inl (K 1, 512, .inl (upd (s 7 i) j x))) = rC K ad (u3 s 7 i j x) := rupA_7
theorem rupA_8 {f : Nat → Int32} : zw_up (rC K ad s) 8 i (.inl (K 0, 6, .inl f)) = rC K ad (uA s 8 i f) := by
  funext a b
  unfold zw_up
  by_cases ha : a = 8
  · subst ha
    by_cases hb : b = i
    · subst hb; simp [rC, rE, uA]
    · simp [rC, rE, uA, hb]
  · simp [rC, uA, ha]
theorem rupI_8 {j : Nat} {x : Int32} : zw_up (rC K ad s) 8 i (.inl (K 0, 6, .inl (upd (s 8 i) j x))) = rC K ad (u3 s 8 i j x) := rupA_8
theorem rupA_9 {f : Nat → Int32} : zw_up (rC K ad s) 9 i (.inl (K 0, 6, .inl f)) = rC K ad (uA s 9 i f) := by
  funext a b
  unfold zw_up
  by_cases ha : a = 9
  · subst ha
    by_cases hb : b = i
    · subst hb; simp [rC, rE, uA]
    · simp [rC, rE, uA, hb]
  · simp [rC, uA, ha]
theorem rupI_9 {j : Nat} {x : Int32} : zw_up (rC K ad s) 9 i (.inl (K 0, 6, .inl (upd (s 9 i) j x))) = rC K ad (u3 s 9 i j x) := rupA_9
theorem rupA_10 {f : Nat → Int32} : zw_up (rC K ad s) 10 i (.inl (K 0, 6, .inl f)) = rC K ad (uA s 10 i f) := by
  funext a b
  unfold zw_up
  by_cases ha : a = 10
  · subst ha
    by_cases hb : b = i
    · subst hb; simp [rC, rE, uA]
    · simp [rC, rE, uA, hb]
  · simp [rC, uA, ha]
theorem rupI_10 {j : Nat} {x : Int32} : zw_up (rC K ad s) 10 i (.inl (K 0, 6, .inl (upd (s 10 i) j x))) = rC K ad (u3 s 10 i j x) := rupA_10
theorem rupA_12 {f : Nat → Int32} : zw_up (rC K ad s) 12 i (.inl (K 0, 5, .inl f)) = rC K ad (uA s 12 i f) := by
  funext a b
  unfold zw_up
  by_cases ha : a = 12
  · subst ha
    by_cases hb : b = i
    · subst hb; simp [rC, rE, uA]
    · simp [rC, rE, uA, hb]
  · simp [rC, uA, ha]
theorem rupI_12 {j : Nat} {x : Int32} : zw_up (rC K ad s) 12 i (.inl (K 0, 5, .inl (upd (s 12 i) j x))) = rC K ad (u3 s 12 i j x) := rupA_12
theorem rupA_13 {f : Nat → Int32} : zw_up (rC K ad s) 13 i (.inl (K 0, 5, .inl f)) = rC K ad (uA s 13 i f) := by
  funext a b
  unfold zw_up
  by_cases ha : a = 13
  · subst ha
    by_cases hb : b = i
    · subst hb; simp [rC, rE, uA]
    · simp [rC, rE, uA, hb]
  · simp [rC, uA, ha]
theorem rupI_13 {j : Nat} {x : Int32} : zw_up (rC K ad s) 13 i (.inl (K 0, 5, .inl (upd (s 13 i) j x))) = rC K ad (u3 s 13 i j x) := rupA_13
theorem rupA_14 {f : Nat → Int32} : zw_up (rC K ad s) 14 i (.inl (K 0, 5, .inl f)) = rC K ad (uA s 14 i f) := by
  funext a b
  unfold zw_up
  by_cases ha : a = 14
  · subst ha
    by_cases hb : b = i
    · subst hb; simp [rC, rE, uA]
    · simp [rC, rE, uA, hb]
  · simp [rC, uA, ha]
theorem rupI_14 {j : Nat} {x : Int32} : zw_up (rC K ad s) 14 i (.inl (K 0, 5, .inl (upd (s 14 i) j x))) = rC K ad (u3 s 14 i j x) := rupA_14
theorem rupA_15 {f : Nat → Int32} : zw_up (rC K ad s) 15 i (.inl (K 1, 5, .inl f)) = rC K ad (uA s 15 i f) := by
  funext a b
  unfold zw_up
  by_cases ha : a = 15
  · subst ha
    by_cases hb : b = i
    · subst hb; simp [rC, rE, uA]
    · simp [rC, rE, uA, hb]
  · simp [rC, uA, ha]
theorem rupI_15 {j : Nat} {x : Int32} : zw_up (rC K ad s) 15 i (.inl (K 1, 5, .inl (upd (s 15 i) j x))) = rC K ad (u3 s 15 i j x) := rupA_15
theorem rupA_16 {f : Nat → Int32} : zw_up (rC K ad s) 16 i (.inl (K 1, 5, .inl f)) = rC K ad (uA s 16 i f) := by
  funext a b
  unfold zw_up
  by_cases ha : a = 16
  · subst ha
    by_cases hb : b = i
    · subst hb; simp [rC, rE, uA]
    · simp [rC, rE, uA, hb]
  · simp [rC, uA, ha]
theorem rupI_16 {j : Nat} {x : Int32} : zw_up (rC K ad s) 16 i (.inl (K 1, 5, .inl (upd (s 16 i) j x))) = rC K ad (u3 s 16 i j x) := rupA_16
theorem rupA_17 {f : Nat → Int32} : zw_up (rC K ad s) 17 i (.inl (K 1, 5, .inl f)) = rC K ad (uA s 17 i f) := by
  funext a b
  unfold zw_up
  by_cases ha : a = 17
  · subst ha
    by_cases hb : b = i
    · subst hb; simp [rC, rE, uA]
    · simp [rC, rE, uA, hb]
  · simp [rC, uA, ha]
theorem rupI_17 {j : Nat} {x : Int32} : zw_up (rC K ad s) 17 i (.inl (K 1, 5, .inl (upd (s 17 i) j x))) = rC K ad (u3 s 17 i j x) := rupA_17
theorem rupA_18 {f : Nat → Int32} : zw_up (rC K ad s) 18 i (.inl (K 0, 5, .inl f)) = rC K ad (uA s 18 i f) := by
  funext a b
  unfold zw_up
  by_cases ha : a = 18
  · subst ha
    by_cases hb : b = i
    · subst hb; simp [rC, rE, uA]
    · simp [rC, rE, uA, hb]
  · simp [rC, uA, ha]
theorem rupI_18 {j : Nat} {x : Int32} : zw_up (rC K ad s) 18 i (.inl (K 0, 5, .inl (upd (s 18 i) j x))) = rC K ad (u3 s 18 i j x) := rupA_18
theorem rupA_19 {f : Nat → Int32} : zw_up (rC K ad s) 19 i (.inl (K 0, 5, .inl f)) = rC K ad (uA s 19 i f) := by
  funext a b
  unfold zw_up
  by_cases ha : a = 19
  · subst ha
    by_cases hb : b = i
    · subst hb; simp [rC, rE, uA]
    · simp [rC, rE, uA, hb]
  · simp [rC, uA, ha]
theorem rupI_19 {j : Nat} {x : Int32} : zw_up (rC K ad s) 19 i (.inl (K 0, 5, .inl (upd (s 19 i) j x))) = rC K ad (u3 s 19 i j x) := rupA_19
theorem rupA_20 {f : Nat → Int32} : zw_up (rC K ad s) 20 i (.inl (K 2, 900, .inl f)) = rC K ad (uA s 20 i f) := by
  funext a b
  unfold zw_up
  by_cases ha : a = 20
  · subst ha
    by_cases hb : b = i
    · subst hb; simp [rC, rE, uA]
    · simp [rC, rE, uA, hb]
  · simp [rC, uA, ha]
theorem rupI_20 {j : Nat} {x : Int32} : zw_up (rC K ad s) 20 i (.inl (K 2, 900, .inl (upd (s 20 i) j x))) = rC K ad (u3 s 20 i j x) := rupA_20
theorem rupA_21 {f : Nat → Int32} : zw_up (rC K ad s) 21 i (.inl (K 0, 3, .inl f)) = rC K ad (uA s 21 i f) := by
  funext a b
  unfold zw_up
  by_cases ha : a = 21
  · subst ha
    by_cases hb : b = i
    · subst hb; simp [rC, rE, uA]
    · simp [rC, rE, uA, hb]
  · simp [rC, uA, ha]
theorem rupI_21 {j : Nat} {x : Int32} : zw_up (rC K ad s) 21 i (.inl (K 0, 3, .inl (upd (s 21 i) j x))) = rC K ad (u3 s 21 i j x) := rupA_21
theorem rupA_22 {f : Nat → Int32} : zw_up (rC K ad s) 22 i (.inl (K 0, 3, .inl f)) = rC K ad (uA s 22 i f) := by
  funext a b
  unfold zw_up
  by_cases ha : a = 22
  · subst ha
    by_cases hb : b = i
    · subst hb; simp [rC, rE, uA]
    · simp [rC, rE, uA, hb]
  · simp [rC, uA, ha]
theorem rupI_22 {j : Nat} {x : Int32} : zw_up (rC K ad s) 22 i (.inl (K 0, 3, .inl (upd (s 22 i) j x))) = rC K ad (u3 s 22 i j x) := rupA_22
theorem rupA_23 {f : Nat → Int32} : zw_up (rC K ad s) 23 i (.inl (K 0, 3, .inl f)) = rC K ad (uA s 23 i f) := by
  funext a b
  unfold zw_up
  by_cases ha : a = 23
  · subst ha
    by_cases hb : b = i
    · subst hb; simp [rC, rE, uA]
    · simp [rC, rE, uA, hb]
  · simp [rC, uA, ha]
theorem rupI_23 {j : Nat} {x : Int32} : zw_up (rC K ad s) 23 i (.inl (K 0, 3, .inl (upd (s 23 i) j x))) = rC K ad (u3 s 23 i j x) := rupA_23
theorem rupA_24 {f : Nat → Int32} : zw_up (rC K ad s) 24 i (.inl (K 0, 3, .inl f)) = rC K ad (uA s 24 i f) := by
  funext a b
  unfold zw_up
  by_cases ha : a = 24
  · subst ha
    by_cases hb : b = i
    · subst hb; simp [rC, rE, uA]
    · simp [rC, rE, uA, hb]
  · simp [rC, uA, ha]
theorem rupI_24 {j : Nat} {x : Int32} : zw_up (rC K ad s) 24 i (.inl (K 0, 3, .inl (upd (s 24 i) j x))) = rC K ad (u3 s 24 i j x) := rupA_24
theorem rupA_26 {f : Nat → Int32} : zw_up (rC K ad s) 26 i (.inl (K 0, 32, .inl f)) = rC K ad (uA s 26 i f) := by
  funext a b
  unfold zw_up
  by_cases ha : a = 26
  · subst ha
    by_cases hb : b = i
    · subst hb; simp [rC, rE, uA]
    · simp [rC, rE, uA, hb]
  · simp [rC, uA, ha]
theorem rupI_26 {j : Nat} {x : Int32} : zw_up (rC K ad s) 26 i (.inl (K 0, 32, .inl (upd (s 26 i) j x))) = rC K ad (u3 s 26 i j x) := rupA_26
theorem rupA_27 {f : Nat → Int32} : zw_up (rC K ad s) 27 i (.inl (K 1, 34, .inl f)) = rC K ad (uA s 27 i f) := by
  funext a b
  unfold zw_up
  by_cases ha : a = 27
  · subst ha
    by_cases hb : b = i
    · subst hb; simp [rC, rE, uA]
    · simp [rC, rE, uA, hb]
  · simp [rC, uA, ha]
theorem rupI_27 {j : Nat} {x : Int32} : zw_up (rC K ad s) 27 i (.inl (K 1, 34, .inl (upd (s 27 i) j x))) = rC K ad (u3 s 27 i j x) := rupA_27
theorem rupA_28 {f : Nat → Int32} : zw_up (rC K ad s) 28 i (.inl (K 0, 34, .inl f)) = rC K ad (uA s 28 i f) := by
  funext a b
  unfold zw_up
  by_cases ha : a = 28
  · subst ha
    by_cases hb : b = i
    · subst hb; simp [rC, rE, uA]
    · simp [rC, rE, uA, hb]
  · simp [rC, uA, ha]
theorem rupI_28 {j : Nat} {x : Int32} : zw_up (rC K ad s) 28 i (.inl (K 0, 34, .inl (upd (s 28 i) j x))) = rC K ad (u3 s 28 i j x) := rupA_28
theorem rupA_29 {f : Nat → Int32} : zw_up (rC K ad s) 29 i (.inl (K 0, 34, .inl f)) = rC K ad (uA s 29 i f) := by
  funext a b
  unfold zw_up
  by_cases ha : a = 29
  · subst ha
    by_cases hb : b = i
    · subst hb; simp [rC, rE, uA]
    · simp [rC, rE, uA, hb]
  · simp [rC, uA, ha]
theorem rupI_29 {j : Nat} {x : Int32} : zw_up (rC K ad s) 29 i (.inl (K 0, 34, .inl (upd (s 29 i) j x))) = rC K ad (u3 s 29 i j x) := rupA_29
theorem rupA_30 {f : Nat → Int32} : zw_up (rC K ad s) 30 i (.inl (K 0, 34, .inl f)) = rC K ad (uA s 30 i f) := by
  funext a b
  unfold zw_up
  by_cases ha : a = 30
  · subst ha
    by_cases hb : b = i
    · subst hb; simp [rC, rE, uA]
    · simp [rC, rE, uA, hb]
  · simp [rC, uA, ha]
theorem rupI_30 {j : Nat} {x : Int32} : zw_up (rC K ad s) 30 i (.inl (K 0, 34, .inl (upd (s 30 i) j x))) = rC K ad (u3 s 30 i j x) := rupA_30
theorem rupA_31 {f : Nat → Int32} : zw_up (rC K ad s) 31 i (.inl (K 0, 34, .inl f)) = rC K ad (uA s 31 i f) := by
  funext a b
  unfold zw_up
  by_cases ha : a = 31
  · subst ha
    by_cases hb : b = i
    · subst hb; simp [rC, rE, uA]
    · simp [rC, rE, uA, hb]
  · simp [rC, uA, ha]
theorem rupI_31 {j : Nat} {x : Int32} : zw_up (rC K ad s) 31 i (.inl (K 0, 34, .inl (upd (s 31 i) j x))) = rC K ad (u3 s 31 i j x) := rupA_31
theorem rupA_32 {f : Nat → Int32} : zw_up (rC K ad s) 32 i (.inl (K 0, 34, .inl f)) = rC K ad (uA s 32 i f) := by
  funext a b
  unfold zw_up
  by_cases ha : a = 32
  · subst ha
    by_cases hb : b = i
    · subst hb; simp [rC, rE, uA]
    · simp [rC, rE, uA, hb]
  · simp [rC, uA, ha]
theorem rupI_32 {j : Nat} {x : Int32} : zw_up (rC K ad s) 32 i (.inl (K 0, 34, .inl (upd (s 32 i) j x))) = rC K ad (u3 s 32 i j x) := rupA_32
theorem rupA_33 {f : Nat → Int32} : zw_up (rC K ad s) 33 i (.inl (K 0, 34, .inl f)) = rC K ad (uA s 33 i f) := by
  funext a b
  unfold zw_up
  by_cases ha : a = 33
  · subst ha
    by_cases hb : b = i
    · subst hb; simp [rC, rE, uA]
    · simp [rC, rE, uA, hb]
  · simp [rC, uA, ha]
theorem rupI_33 {j : Nat} {x : Int32} : zw_up (rC K ad s) 33 i (.inl (K 0, 34, .inl (upd (s 33 i) j x))) = rC K ad (u3 s 33 i j x) := rupA_33
theorem rupA_34 {f : Nat → Int32} : zw_up (rC K ad s) 34 i (.inl (K 0, 34, .inl f)) = rC K ad (uA s 34 i f) := by
  funext a b
  unfold zw_up
  by_cases ha : a = 34
  · subst ha
    by_cases hb : b = i
    · subst hb; simp [rC, rE, uA]
    · simp [rC, rE, uA, hb]
  · simp [rC, uA, ha]
theorem rupI_34 {j : Nat} {x : Int32} : zw_up (rC K ad s) 34 i (.inl (K 0, 34, .inl (upd (s 34 i) j x))) = rC K ad (u3 s 34 i j x) := rupA_34
theorem rupA_35 {f : Nat → Int32} : zw_up (rC K ad s) 35 i (.inl (K 0, 34, .inl f)) = rC K ad (uA s 35 i f) := by
  funext a b
  unfold zw_up
  by_cases ha : a = 35
  · subst ha
    by_cases hb : b = i
    · subst hb; simp [rC, rE, uA]
    · simp [rC, rE, uA, hb]
  · simp [rC, uA, ha]
theorem rupI_35 {j : Nat} {x : Int32} : zw_up (rC K ad s) 35 i (.inl (K 0, 34, .inl (upd (s 35 i) j x))) = rC K ad (u3 s 35 i j x) := rupA_35
theorem rupA_36 {f : Nat → Int32} : zw_up (rC K ad s) 36 i (.inl (K 2, 6120, .inl f)) = rC K ad (uA s 36 i f) := by
  funext a b
  unfold zw_up
  by_cases ha : a = 36
  · subst ha
    by_cases hb : b = i
    · subst hb; simp [rC, rE, uA]
    · simp [rC, rE, uA, hb]
  · simp [rC, uA, ha]
theorem rupI_36 {j : Nat} {x : Int32} : zw_up (rC K ad s) 36 i (.inl (K 2, 6120, .inl (upd (s 36 i) j x))) = rC K ad (u3 s 36 i j x) := rupA_36
end RC
theorem vp_mono {x : Int32} {a b : Nat} (h : vp_in x a) (hab : a ≤ b) : vp_in x b := fun e => h (e.imp id (fun e => Nat.le_trans hab e))
theorem nI_mul (a b : Nat) : nI a * nI b = nI (a * b) := (Int32.ofNat_mul a b).symm
theorem vp_180 {x y : Int32} {a : Nat} (h : vp_in x a) (h2 : vp_in y 180) (ha : a ≤ 34) : vp_in (180 * x + y) (180 * a) := by
  obtain ⟨i, hi, hi2, rfl⟩ := vp_nI h
  obtain ⟨j, hj, hj2, rfl⟩ := vp_nI h2
  rw [show (180 : Int32) = nI 180 from rfl, nI_mul, nI_add]
  exact nI_in (by omega) (by omega)
theorem vp_c {c N : Nat} (h : c < N) (hN : N < 2 ^ 31) : vp_in (nI c) N := nI_in h hN
end
section
theorem z_lv {p : Program} {l : Launch} {e : Env} {R : Room} {s : State} {m : MethodId} {args : Array Value} {below : List Frame} {meth : Method} {c : Code} {nL : Nat} {Q : State → Prop} {I : Heap → List Loc → Prop} {cells slots pc : Nat} {lv lv' : List (Nat × Value)} {st : List Value} (ks : List Nat) (h : ks.filterMap (fun k => lv[k]?) = lv') (k : zG p l e R s m args below meth c nL Q I cells slots pc lv' st) : zG p l e R s m args below meth c nL Q I cells slots pc lv st :=
  fun H locs ls hI hl => k H locs ls hI (lv_sub hl ks h)
theorem uA_id (s : S3) (a b : Nat) : uA s a b (s a b) = s := by
  funext x y
  by_cases hx : x = a
  · subst hx
    by_cases hy : y = b
    · subst hy; simp [uA]
    · simp [uA, hy]
  · simp [uA, hx]
theorem u3_uA {s : S3} {a b c : Nat} {g : Nat → Int32} {x : Int32} : u3 (uA s a b g) a b c x = uA s a b (upd g c x) := by
  funext q y
  by_cases hx : q = a
  · subst hx
    by_cases hy : y = b
    · subst hy; simp [u3, uA]
    · simp [u3, uA, hy]
  · simp [u3, uA, hx]
theorem i32_m1 (x : Int32) : x + Int32.ofInt (-1) = x - 1 := by
  rw [Int32.sub_eq_add_neg]
  rfl
/-- the first place from p on that isn't busy -/
def fbF (g : Nat → Int32) : Nat → Nat → Nat
  | 0, p => p
  | k + 1, p => if g (nI p).toNatClampNeg = 0 then p else fbF g k (p + 1)
def ppF (w : Int32) (g : Nat → Int32) : Int32 := if 32 ≤ w then 33 else nI (fbF g 34 0)
def fB (s : S3) : Prop := ¬ 32 ≤ s 0 25 0 → ∃ p, p < 34 ∧ s 27 0 p = 0
theorem fbF_lt {g : Nat → Int32} {k p : Nat} (h : ∃ q, p ≤ q ∧ q < 34 ∧ g q = 0) (hk : p + k = 34) : fbF g k p < 34 ∧ g (fbF g k p) = 0 := by
  induction k generalizing p with
  | zero =>
    obtain ⟨q, h1, h2, -⟩ := h
    omega
  | succ k ih =>
    unfold fbF
    rw [nI_clamp (by omega)]
    by_cases hg : g p = 0
    · rw [if_pos hg]; exact ⟨by omega, hg⟩
    · rw [if_neg hg]
      obtain ⟨q, h1, h2, h3⟩ := h
      exact ih ⟨q, by rcases Nat.eq_or_lt_of_le h1 with e | e; exact absurd (e ▸ h3) hg; exact e, h2, h3⟩ (by omega)
theorem pp_in {s : S3} (hB : fB s) : vp_in (ppF (s 0 25 0) (s 27 0)) 34 := by
  unfold ppF
  by_cases h : 32 ≤ s 0 25 0
  · rw [if_pos h]; exact vp_c (c := 33) (by omega) (by omega)
  · rw [if_neg h]
    obtain ⟨q, h1, h2⟩ := hB h
    exact vp_c (fbF_lt ⟨q, by omega, h1, h2⟩ (by omega)).1 (by omega)
theorem w_lt {w : Int32} (hW : vp_in w 33) (h : ¬ 32 ≤ w) : vp_in w 32 := by
  obtain ⟨j, hj, hj2, rfl⟩ := vp_nI hW
  rw [show (32 : Int32) = nI 32 from rfl, nI_leI (by omega) hj2] at h
  exact nI_in (by omega) (by omega)
/-- the row of order from place j on moves up by one, k places -/
def rowR : Nat → Nat → (Nat → Int32) → Nat → Int32
  | 0, _, g => g
  | k + 1, j, g => rowR k (j + 1) (upd g j (g (j + 1)))
/-- k entries from i on are copied from the rows of x to the rows of p -/
def cpR (d : Nat → Int32) (x p : Int32) : Nat → Nat → (Nat → Int32) → Nat → Int32
  | 0, _, g => g
  | k + 1, i, g => cpR d x p k (i + 1) (upd g ((180 * p) + (nI i)).toNatClampNeg (vp_nar .short (d ((180 * x) + (nI i)).toNatClampNeg)))
/-- what cell k holds behind the first m writes of x's row -/
def hdF (oc ov d : Nat → Int32) (x k : Int32) : Nat → Int32
  | 0 => 0
  | m + 1 => if oc (d ((180 * x) + (nI m)).toNatClampNeg).toNatClampNeg = k then ov (d ((180 * x) + (nI m)).toNatClampNeg).toNatClampNeg else hdF oc ov d x k m
/-- the place of the latest write of client c among the first m of x's row -/
def laF (oc d : Nat → Int32) (x c : Int32) : Nat → Int32
  | 0 => -1
  | m + 1 => if oc (d ((180 * x) + (nI m)).toNatClampNeg).toNatClampNeg = c then nI m else laF oc d x c m
theorem d_Model_noServer_0 : decode prog_11_method_2_code 0 = .ok (.iload_n 1, 1) := by decide +kernel
theorem d_Model_noServer_1 : decode prog_11_method_2_code 1 = .ok (.ifCond .lt 11, 3) := by decide +kernel
theorem d_Model_noServer_4 : decode prog_11_method_2_code 4 = .ok (.iload_n 1, 1) := by decide +kernel
theorem d_Model_noServer_5 : decode prog_11_method_2_code 5 = .ok (.aload_n 0, 1) := by decide +kernel
theorem d_Model_noServer_6 : decode prog_11_method_2_code 6 = .ok (.getfield 108, 3) := by decide +kernel
theorem d_Model_noServer_9 : decode prog_11_method_2_code 9 = .ok (.if_icmp .lt 7, 3) := by decide +kernel
theorem d_Model_noServer_12 : decode prog_11_method_2_code 12 = .ok (.iconst 1, 1) := by decide +kernel
theorem d_Model_noServer_13 : decode prog_11_method_2_code 13 = .ok (.goto 4, 3) := by decide +kernel
theorem d_Model_noServer_16 : decode prog_11_method_2_code 16 = .ok (.iconst 0, 1) := by decide +kernel
theorem d_Model_noServer_17 : decode prog_11_method_2_code 17 = .ok (.ireturn, 1) := by decide +kernel
def v_Model_noServer (x0 : Int32) (x : Int32) : Int32 := if x < 0 then 1 else if x < (x0) then 0 else 1
theorem zbv_Model_noServer {x0 : Int32} {x : Int32} : zb (v_Model_noServer x0 x) := by
  unfold v_Model_noServer zb
  repeat' split
  all_goals simp
set_option maxHeartbeats 4000000 in
set_option maxRecDepth 100000 in
theorem c_Model_noServer {l : Launch} {D : va_G} {K : Nat → ClassId} {ad : Nat → Nat → Nat} {s : S3} {x : Int32} (hJ : zw_J (rRL) ad) : zM l y_Model_noServer ws_Model_noServer ({ frames := 0, cells := 0, slots := 0, locals := 0 }) D zCl (zTys K) (rRL) ad [.ref (ad 0 0), .int x] (rC K ad s) (some (.int (v_Model_noServer (s 0 0 0) x))) (rC K ad s) := by
  refine zM.of (cc := prog_11_method_2_code) (maxL := 2) (ret := (Option.some Jvm.ClassFile.FieldType.boolean)) (by decide) rfl (Nat.le_of_ble_eq_true rfl) ?_
  intro pP eE U mM bL mT cO S hr hlk hK
  have hts := S.2.2.2.2
  have ht := fun w h => hts w (List.mem_cons_of_mem _ h)
  refine z_iload_n S d_Model_noServer_0 rfl 1 rfl 1 rfl ?_
  refine z_if_lt S d_Model_noServer_1 12 (by decide) 4 rfl (fun h1 => ?_) (fun h1 => ?_)
  · refine z_iconst S d_Model_noServer_12 1 (by decide) 13 rfl ?_
    refine z_goto S d_Model_noServer_13 17 (by decide) ?_
    exact z_zret S hr (zb_n zb_1) hlk d_Model_noServer_17 (by unfold v_Model_noServer; simp only [if_pos h1]) rfl
  · refine z_iload_n S d_Model_noServer_4 rfl 1 rfl 5 rfl ?_
    refine z_aload_n S d_Model_noServer_5 rfl 0 rfl 6 rfl ?_
    refine z_get S hK hin_Model rm_0 rC_0 rfl 0 (Nat.le_of_ble_eq_true rfl) (ht _ w_540) (fun _ h => h) d_Model_noServer_6 9 rfl (.int (s 0 0 0)) rfl ?_
    refine z_icmp_lt S d_Model_noServer_9 16 (by decide) 12 rfl (fun h2 => ?_) (fun h2 => ?_)
    · refine z_iconst S d_Model_noServer_16 0 (by decide) 17 rfl ?_
      exact z_zret S hr (zb_n zb_0) hlk d_Model_noServer_17 (by unfold v_Model_noServer; simp only [if_neg h1, if_pos h2]) rfl
    · refine z_iconst S d_Model_noServer_12 1 (by decide) 13 rfl ?_
      refine z_goto S d_Model_noServer_13 17 (by decide) ?_
      exact z_zret S hr (zb_n zb_1) hlk d_Model_noServer_17 (by unfold v_Model_noServer; simp only [if_neg h1, if_neg h2]) rfl
theorem d_Model_noClient_0 : decode prog_11_method_3_code 0 = .ok (.iload_n 1, 1) := by decide +kernel
theorem d_Model_noClient_1 : decode prog_11_method_3_code 1 = .ok (.ifCond .lt 8, 3) := by decide +kernel
theorem d_Model_noClient_4 : decode prog_11_method_3_code 4 = .ok (.iload_n 1, 1) := by decide +kernel
theorem d_Model_noClient_5 : decode prog_11_method_3_code 5 = .ok (.iconst 2, 1) := by decide +kernel
theorem d_Model_noClient_6 : decode prog_11_method_3_code 6 = .ok (.if_icmp .le 7, 3) := by decide +kernel
theorem d_Model_noClient_9 : decode prog_11_method_3_code 9 = .ok (.iconst 1, 1) := by decide +kernel
theorem d_Model_noClient_10 : decode prog_11_method_3_code 10 = .ok (.goto 4, 3) := by decide +kernel
theorem d_Model_noClient_13 : decode prog_11_method_3_code 13 = .ok (.iconst 0, 1) := by decide +kernel
theorem d_Model_noClient_14 : decode prog_11_method_3_code 14 = .ok (.ireturn, 1) := by decide +kernel
def v_Model_noClient (x : Int32) : Int32 := if x < 0 then 1 else if x ≤ 2 then 0 else 1
theorem zbv_Model_noClient {x : Int32} : zb (v_Model_noClient  x) := by
  unfold v_Model_noClient zb
  repeat' split
  all_goals simp
set_option maxHeartbeats 4000000 in
set_option maxRecDepth 100000 in
theorem c_Model_noClient {l : Launch} {D : va_G} {K : Nat → ClassId} {ad : Nat → Nat → Nat} {s : S3} {x : Int32} (hJ : zw_J (rRL) ad) : zM l y_Model_noClient ws_Model_noClient ({ frames := 0, cells := 0, slots := 0, locals := 0 }) D zCl (zTys K) (rRL) ad [.ref (ad 0 0), .int x] (rC K ad s) (some (.int (v_Model_noClient  x))) (rC K ad s) := by
  refine zM.of (cc := prog_11_method_3_code) (maxL := 2) (ret := (Option.some Jvm.ClassFile.FieldType.boolean)) (by decide) rfl (Nat.le_of_ble_eq_true rfl) ?_
  intro pP eE U mM bL mT cO S hr hlk hK
  have hts := S.2.2.2.2
  have ht := fun w h => hts w (List.mem_cons_of_mem _ h)
  refine z_iload_n S d_Model_noClient_0 rfl 1 rfl 1 rfl ?_
  refine z_if_lt S d_Model_noClient_1 9 (by decide) 4 rfl (fun h1 => ?_) (fun h1 => ?_)
  · refine z_iconst S d_Model_noClient_9 1 (by decide) 10 rfl ?_
    refine z_goto S d_Model_noClient_10 14 (by decide) ?_
    exact z_zret S hr (zb_n zb_1) hlk d_Model_noClient_14 (by unfold v_Model_noClient; simp only [if_pos h1]) rfl
  · refine z_iload_n S d_Model_noClient_4 rfl 1 rfl 5 rfl ?_
    refine z_iconst S d_Model_noClient_5 2 (by decide) 6 rfl ?_
    refine z_icmp_le S d_Model_noClient_6 13 (by decide) 9 rfl (fun h2 => ?_) (fun h2 => ?_)
    · refine z_iconst S d_Model_noClient_13 0 (by decide) 14 rfl ?_
      exact z_zret S hr (zb_n zb_0) hlk d_Model_noClient_14 (by unfold v_Model_noClient; simp only [if_neg h1, if_pos h2]) rfl
    · refine z_iconst S d_Model_noClient_9 1 (by decide) 10 rfl ?_
      refine z_goto S d_Model_noClient_10 14 (by decide) ?_
      exact z_zret S hr (zb_n zb_1) hlk d_Model_noClient_14 (by unfold v_Model_noClient; simp only [if_neg h1, if_neg h2]) rfl
theorem d_Model_leads_0 : decode prog_11_method_12_code 0 = .ok (.aload_n 0, 1) := by decide +kernel
theorem d_Model_leads_1 : decode prog_11_method_12_code 1 = .ok (.getfield 26, 3) := by decide +kernel
theorem d_Model_leads_4 : decode prog_11_method_12_code 4 = .ok (.iload_n 1, 1) := by decide +kernel
theorem d_Model_leads_5 : decode prog_11_method_12_code 5 = .ok (.iaload, 1) := by decide +kernel
theorem d_Model_leads_6 : decode prog_11_method_12_code 6 = .ok (.ifCond .le 17, 3) := by decide +kernel
theorem d_Model_leads_9 : decode prog_11_method_12_code 9 = .ok (.aload_n 0, 1) := by decide +kernel
theorem d_Model_leads_10 : decode prog_11_method_12_code 10 = .ok (.getfield 29, 3) := by decide +kernel
theorem d_Model_leads_13 : decode prog_11_method_12_code 13 = .ok (.iload_n 1, 1) := by decide +kernel
theorem d_Model_leads_14 : decode prog_11_method_12_code 14 = .ok (.iaload, 1) := by decide +kernel
theorem d_Model_leads_15 : decode prog_11_method_12_code 15 = .ok (.iload_n 1, 1) := by decide +kernel
theorem d_Model_leads_16 : decode prog_11_method_12_code 16 = .ok (.if_icmp .ne 7, 3) := by decide +kernel
theorem d_Model_leads_19 : decode prog_11_method_12_code 19 = .ok (.iconst 1, 1) := by decide +kernel
theorem d_Model_leads_20 : decode prog_11_method_12_code 20 = .ok (.goto 4, 3) := by decide +kernel
theorem d_Model_leads_23 : decode prog_11_method_12_code 23 = .ok (.iconst 0, 1) := by decide +kernel
theorem d_Model_leads_24 : decode prog_11_method_12_code 24 = .ok (.ireturn, 1) := by decide +kernel
def v_Model_leads (x0 : Int32) (x1 : Int32) (x : Int32) : Int32 := if (x0) ≤ 0 then 0 else if (x1) = x then 1 else 0
theorem zbv_Model_leads {x0 : Int32} {x1 : Int32} {x : Int32} : zb (v_Model_leads x0 x1 x) := by
  unfold v_Model_leads zb
  repeat' split
  all_goals simp
set_option maxHeartbeats 4000000 in
set_option maxRecDepth 100000 in
theorem c_Model_leads {l : Launch} {D : va_G} {K : Nat → ClassId} {ad : Nat → Nat → Nat} {s : S3} {x : Int32} (hJ : zw_J (rRL) ad) (hx : vp_in x 5) : zM l y_Model_leads ws_Model_leads ({ frames := 0, cells := 0, slots := 0, locals := 0 }) D zCl (zTys K) (rRL) ad [.ref (ad 0 0), .int x] (rC K ad s) (some (.int (v_Model_leads (s 8 0 x.toNatClampNeg) (s 9 0 x.toNatClampNeg) x))) (rC K ad s) := by
  refine zM.of (cc := prog_11_method_12_code) (maxL := 2) (ret := (Option.some Jvm.ClassFile.FieldType.boolean)) (by decide) rfl (Nat.le_of_ble_eq_true rfl) ?_
  intro pP eE U mM bL mT cO S hr hlk hK
  have hts := S.2.2.2.2
  have ht := fun w h => hts w (List.mem_cons_of_mem _ h)
  refine z_aload_n S d_Model_leads_0 rfl 0 rfl 1 rfl ?_
  refine z_get S hK hin_Model rm_0 rC_0 rfl 8 (Nat.le_of_ble_eq_true rfl) (ht _ w_548) (fun _ h => h) d_Model_leads_1 4 rfl (.ref (ad 8 0)) rfl ?_
  refine z_iload_n S d_Model_leads_4 rfl 1 rfl 5 rfl ?_
  refine z_iald S hK rm_8 0 rC_8 rfl (vp_mono hx (by omega)) d_Model_leads_5 6 rfl (s 8 0 x.toNatClampNeg) rfl ?_
  refine z_if_le S d_Model_leads_6 23 (by decide) 9 rfl (fun h1 => ?_) (fun h1 => ?_)
  · refine z_iconst S d_Model_leads_23 0 (by decide) 24 rfl ?_
    exact z_zret S hr (zb_n zb_0) hlk d_Model_leads_24 (by unfold v_Model_leads; simp only [if_pos h1]) rfl
  · refine z_aload_n S d_Model_leads_9 rfl 0 rfl 10 rfl ?_
    refine z_get S hK hin_Model rm_0 rC_0 rfl 9 (Nat.le_of_ble_eq_true rfl) (ht _ w_549) (fun _ h => h) d_Model_leads_10 13 rfl (.ref (ad 9 0)) rfl ?_
    refine z_iload_n S d_Model_leads_13 rfl 1 rfl 14 rfl ?_
    refine z_iald S hK rm_9 0 rC_9 rfl (vp_mono hx (by omega)) d_Model_leads_14 15 rfl (s 9 0 x.toNatClampNeg) rfl ?_
    refine z_iload_n S d_Model_leads_15 rfl 1 rfl 16 rfl ?_
    refine z_icmp_ne S d_Model_leads_16 23 (by decide) 19 rfl (fun h2 => ?_) (fun h2 => ?_)
    · refine z_iconst S d_Model_leads_23 0 (by decide) 24 rfl ?_
      exact z_zret S hr (zb_n zb_0) hlk d_Model_leads_24 (by unfold v_Model_leads; simp only [if_neg h1, if_neg h2]) rfl
    · refine z_iconst S d_Model_leads_19 1 (by decide) 20 rfl ?_
      refine z_goto S d_Model_leads_20 24 (by decide) ?_
      exact z_zret S hr (zb_n zb_1) hlk d_Model_leads_24 (by unfold v_Model_leads; simp only [if_neg h1, if_pos h2]) rfl
theorem d_Model_fresh_0 : decode prog_11_method_14_code 0 = .ok (.iload_n 1, 1) := by decide +kernel
theorem d_Model_fresh_1 : decode prog_11_method_14_code 1 = .ok (.ifCond .lt 33, 3) := by decide +kernel
theorem d_Model_fresh_4 : decode prog_11_method_14_code 4 = .ok (.aload_n 0, 1) := by decide +kernel
theorem d_Model_fresh_5 : decode prog_11_method_14_code 5 = .ok (.getfield 35, 3) := by decide +kernel
theorem d_Model_fresh_8 : decode prog_11_method_14_code 8 = .ok (.iload_n 1, 1) := by decide +kernel
theorem d_Model_fresh_9 : decode prog_11_method_14_code 9 = .ok (.iaload, 1) := by decide +kernel
theorem d_Model_fresh_10 : decode prog_11_method_14_code 10 = .ok (.ifCond .lt 24, 3) := by decide +kernel
theorem d_Model_fresh_13 : decode prog_11_method_14_code 13 = .ok (.aload_n 0, 1) := by decide +kernel
theorem d_Model_fresh_14 : decode prog_11_method_14_code 14 = .ok (.getfield 127, 3) := by decide +kernel
theorem d_Model_fresh_17 : decode prog_11_method_14_code 17 = .ok (.aload_n 0, 1) := by decide +kernel
theorem d_Model_fresh_18 : decode prog_11_method_14_code 18 = .ok (.getfield 35, 3) := by decide +kernel
theorem d_Model_fresh_21 : decode prog_11_method_14_code 21 = .ok (.iload_n 1, 1) := by decide +kernel
theorem d_Model_fresh_22 : decode prog_11_method_14_code 22 = .ok (.iaload, 1) := by decide +kernel
theorem d_Model_fresh_23 : decode prog_11_method_14_code 23 = .ok (.isub, 1) := by decide +kernel
theorem d_Model_fresh_24 : decode prog_11_method_14_code 24 = .ok (.sipush 130, 3) := by decide +kernel
theorem d_Model_fresh_27 : decode prog_11_method_14_code 27 = .ok (.if_icmp .ge 7, 3) := by decide +kernel
theorem d_Model_fresh_30 : decode prog_11_method_14_code 30 = .ok (.iconst 1, 1) := by decide +kernel
theorem d_Model_fresh_31 : decode prog_11_method_14_code 31 = .ok (.goto 4, 3) := by decide +kernel
theorem d_Model_fresh_34 : decode prog_11_method_14_code 34 = .ok (.iconst 0, 1) := by decide +kernel
theorem d_Model_fresh_35 : decode prog_11_method_14_code 35 = .ok (.ireturn, 1) := by decide +kernel
def v_Model_fresh (x0 : Int32) (x1 : Int32) (x : Int32) : Int32 := if x < 0 then 0 else if (x0) < 0 then 0 else if 130 ≤ ((x1) - (x0)) then 0 else 1
theorem zbv_Model_fresh {x0 : Int32} {x1 : Int32} {x : Int32} : zb (v_Model_fresh x0 x1 x) := by
  unfold v_Model_fresh zb
  repeat' split
  all_goals simp
set_option maxHeartbeats 4000000 in
set_option maxRecDepth 100000 in
theorem c_Model_fresh {l : Launch} {D : va_G} {K : Nat → ClassId} {ad : Nat → Nat → Nat} {s : S3} {x : Int32} (hJ : zw_J (rRL) ad) (hx : ¬ x < 0 → vp_in x 5) : zM l y_Model_fresh ws_Model_fresh ({ frames := 0, cells := 0, slots := 0, locals := 0 }) D zCl (zTys K) (rRL) ad [.ref (ad 0 0), .int x] (rC K ad s) (some (.int (v_Model_fresh (s 12 0 x.toNatClampNeg) (s 0 1 0) x))) (rC K ad s) := by
  refine zM.of (cc := prog_11_method_14_code) (maxL := 2) (ret := (Option.some Jvm.ClassFile.FieldType.boolean)) (by decide) rfl (Nat.le_of_ble_eq_true rfl) ?_
  intro pP eE U mM bL mT cO S hr hlk hK
  have hts := S.2.2.2.2
  have ht := fun w h => hts w (List.mem_cons_of_mem _ h)
  refine z_iload_n S d_Model_fresh_0 rfl 1 rfl 1 rfl ?_
  refine z_if_lt S d_Model_fresh_1 34 (by decide) 4 rfl (fun h1 => ?_) (fun h1 => ?_)
  · refine z_iconst S d_Model_fresh_34 0 (by decide) 35 rfl ?_
    exact z_zret S hr (zb_n zb_0) hlk d_Model_fresh_35 (by unfold v_Model_fresh; simp only [if_pos h1]) rfl
  · refine z_aload_n S d_Model_fresh_4 rfl 0 rfl 5 rfl ?_
    refine z_get S hK hin_Model rm_0 rC_0 rfl 12 (Nat.le_of_ble_eq_true rfl) (ht _ w_552) (fun _ h => h) d_Model_fresh_5 8 rfl (.ref (ad 12 0)) rfl ?_
    refine z_iload_n S d_Model_fresh_8 rfl 1 rfl 9 rfl ?_
    refine z_iald S hK rm_12 0 rC_12 rfl (hx h1) d_Model_fresh_9 10 rfl (s 12 0 x.toNatClampNeg) rfl ?_
    refine z_if_lt S d_Model_fresh_10 34 (by decide) 13 rfl (fun h2 => ?_) (fun h2 => ?_)
    · refine z_iconst S d_Model_fresh_34 0 (by decide) 35 rfl ?_
      exact z_zret S hr (zb_n zb_0) hlk d_Model_fresh_35 (by unfold v_Model_fresh; simp only [if_neg h1, if_pos h2]) rfl
    · refine z_aload_n S d_Model_fresh_13 rfl 0 rfl 14 rfl ?_
      refine z_get S hK hin_Model rm_0 rC_0 rfl 1 (Nat.le_of_ble_eq_true rfl) (ht _ w_541) (fun _ h => h) d_Model_fresh_14 17 rfl (.int (s 0 1 0)) rfl ?_
      refine z_aload_n S d_Model_fresh_17 rfl 0 rfl 18 rfl ?_
      refine z_get S hK hin_Model rm_0 rC_0 rfl 12 (Nat.le_of_ble_eq_true rfl) (ht _ w_552) (fun _ h => h) d_Model_fresh_18 21 rfl (.ref (ad 12 0)) rfl ?_
      refine z_iload_n S d_Model_fresh_21 rfl 1 rfl 22 rfl ?_
      refine z_iald S hK rm_12 0 rC_12 rfl (hx h1) d_Model_fresh_22 23 rfl (s 12 0 x.toNatClampNeg) rfl ?_
      refine z_isub S d_Model_fresh_23 24 rfl ?_
      refine z_sipush S d_Model_fresh_24 130 (by decide) 27 rfl ?_
      refine z_icmp_ge S d_Model_fresh_27 34 (by decide) 30 rfl (fun h3 => ?_) (fun h3 => ?_)
      · refine z_iconst S d_Model_fresh_34 0 (by decide) 35 rfl ?_
        exact z_zret S hr (zb_n zb_0) hlk d_Model_fresh_35 (by unfold v_Model_fresh; simp only [if_neg h1, if_neg h2, if_pos h3]) rfl
      · refine z_iconst S d_Model_fresh_30 1 (by decide) 31 rfl ?_
        refine z_goto S d_Model_fresh_31 35 (by decide) ?_
        exact z_zret S hr (zb_n zb_1) hlk d_Model_fresh_35 (by unfold v_Model_fresh; simp only [if_neg h1, if_neg h2, if_neg h3]) rfl
theorem d_Model_post_0 : decode prog_11_method_4_code 0 = .ok (.bipush 33, 2) := by decide +kernel
theorem d_Model_post_2 : decode prog_11_method_4_code 2 = .ok (.istore_n 3, 1) := by decide +kernel
theorem d_Model_post_3 : decode prog_11_method_4_code 3 = .ok (.aload_n 0, 1) := by decide +kernel
theorem d_Model_post_4 : decode prog_11_method_4_code 4 = .ok (.getfield 112, 3) := by decide +kernel
theorem d_Model_post_7 : decode prog_11_method_4_code 7 = .ok (.bipush 32, 2) := by decide +kernel
theorem d_Model_post_9 : decode prog_11_method_4_code 9 = .ok (.if_icmp .ge 47, 3) := by decide +kernel
theorem d_Model_post_12 : decode prog_11_method_4_code 12 = .ok (.iconst 0, 1) := by decide +kernel
theorem d_Model_post_13 : decode prog_11_method_4_code 13 = .ok (.istore_n 3, 1) := by decide +kernel
theorem d_Model_post_14 : decode prog_11_method_4_code 14 = .ok (.aload_n 0, 1) := by decide +kernel
theorem d_Model_post_15 : decode prog_11_method_4_code 15 = .ok (.getfield 78, 3) := by decide +kernel
theorem d_Model_post_18 : decode prog_11_method_4_code 18 = .ok (.iload_n 3, 1) := by decide +kernel
theorem d_Model_post_19 : decode prog_11_method_4_code 19 = .ok (.baload, 1) := by decide +kernel
theorem d_Model_post_20 : decode prog_11_method_4_code 20 = .ok (.ifCond .eq 9, 3) := by decide +kernel
theorem d_Model_post_23 : decode prog_11_method_4_code 23 = .ok (.iinc 3 1, 3) := by decide +kernel
theorem d_Model_post_26 : decode prog_11_method_4_code 26 = .ok (.goto (-12), 3) := by decide +kernel
theorem d_Model_post_29 : decode prog_11_method_4_code 29 = .ok (.aload_n 0, 1) := by decide +kernel
theorem d_Model_post_30 : decode prog_11_method_4_code 30 = .ok (.getfield 78, 3) := by decide +kernel
theorem d_Model_post_33 : decode prog_11_method_4_code 33 = .ok (.iload_n 3, 1) := by decide +kernel
theorem d_Model_post_34 : decode prog_11_method_4_code 34 = .ok (.iconst 1, 1) := by decide +kernel
theorem d_Model_post_35 : decode prog_11_method_4_code 35 = .ok (.bastore, 1) := by decide +kernel
theorem d_Model_post_36 : decode prog_11_method_4_code 36 = .ok (.aload_n 0, 1) := by decide +kernel
theorem d_Model_post_37 : decode prog_11_method_4_code 37 = .ok (.getfield 75, 3) := by decide +kernel
theorem d_Model_post_40 : decode prog_11_method_4_code 40 = .ok (.aload_n 0, 1) := by decide +kernel
theorem d_Model_post_41 : decode prog_11_method_4_code 41 = .ok (.getfield 112, 3) := by decide +kernel
theorem d_Model_post_44 : decode prog_11_method_4_code 44 = .ok (.iload_n 3, 1) := by decide +kernel
theorem d_Model_post_45 : decode prog_11_method_4_code 45 = .ok (.iastore, 1) := by decide +kernel
theorem d_Model_post_46 : decode prog_11_method_4_code 46 = .ok (.aload_n 0, 1) := by decide +kernel
theorem d_Model_post_47 : decode prog_11_method_4_code 47 = .ok (.dup, 1) := by decide +kernel
theorem d_Model_post_48 : decode prog_11_method_4_code 48 = .ok (.getfield 112, 3) := by decide +kernel
theorem d_Model_post_51 : decode prog_11_method_4_code 51 = .ok (.iconst 1, 1) := by decide +kernel
theorem d_Model_post_52 : decode prog_11_method_4_code 52 = .ok (.iadd, 1) := by decide +kernel
theorem d_Model_post_53 : decode prog_11_method_4_code 53 = .ok (.putfield 112, 3) := by decide +kernel
theorem d_Model_post_56 : decode prog_11_method_4_code 56 = .ok (.aload_n 0, 1) := by decide +kernel
theorem d_Model_post_57 : decode prog_11_method_4_code 57 = .ok (.getfield 81, 3) := by decide +kernel
theorem d_Model_post_60 : decode prog_11_method_4_code 60 = .ok (.iload_n 3, 1) := by decide +kernel
theorem d_Model_post_61 : decode prog_11_method_4_code 61 = .ok (.iload_n 1, 1) := by decide +kernel
theorem d_Model_post_62 : decode prog_11_method_4_code 62 = .ok (.iastore, 1) := by decide +kernel
theorem d_Model_post_63 : decode prog_11_method_4_code 63 = .ok (.aload_n 0, 1) := by decide +kernel
theorem d_Model_post_64 : decode prog_11_method_4_code 64 = .ok (.getfield 84, 3) := by decide +kernel
theorem d_Model_post_67 : decode prog_11_method_4_code 67 = .ok (.iload_n 3, 1) := by decide +kernel
theorem d_Model_post_68 : decode prog_11_method_4_code 68 = .ok (.iload_n 2, 1) := by decide +kernel
theorem d_Model_post_69 : decode prog_11_method_4_code 69 = .ok (.iastore, 1) := by decide +kernel
theorem d_Model_post_70 : decode prog_11_method_4_code 70 = .ok (.iload_n 3, 1) := by decide +kernel
theorem d_Model_post_71 : decode prog_11_method_4_code 71 = .ok (.ireturn, 1) := by decide +kernel
def S_Model_post (s : S3) (k a : Int32) : S3 := u3 (u3 (u3 (u3 (u3 s 27 0 (ppF (s 0 25 0) (s 27 0)).toNatClampNeg (if 32 ≤ s 0 25 0 then s 27 0 (ppF (s 0 25 0) (s 27 0)).toNatClampNeg else 1)) 26 0 (s 0 25 0).toNatClampNeg (if 32 ≤ s 0 25 0 then s 26 0 (s 0 25 0).toNatClampNeg else ppF (s 0 25 0) (s 27 0))) 0 25 0 (nxW (s 0 25 0))) 28 0 (ppF (s 0 25 0) (s 27 0)).toNatClampNeg k) 29 0 (ppF (s 0 25 0) (s 27 0)).toNatClampNeg a
set_option maxHeartbeats 4000000 in
set_option maxRecDepth 100000 in
theorem c_Model_post {l : Launch} {D : va_G} {K : Nat → ClassId} {ad : Nat → Nat → Nat} {s : S3} {k a : Int32}  (hJ : zw_J (rRL) ad) (hW : vp_in (s 0 25 0) 33) (hB : fB s) : zM l y_Model_post ws_Model_post ({ frames := 0, cells := 0, slots := 0, locals := 0 }) D zCl (zTys K) (rRL) ad [.ref (ad 0 0), .int k, .int a] (rC K ad s) (some (.int (ppF (s 0 25 0) (s 27 0)))) (rC K ad (S_Model_post s k a)) := by
  refine zM.of (cc := prog_11_method_4_code) (maxL := 4) (ret := (Option.some Jvm.ClassFile.FieldType.int)) (by decide) rfl (Nat.le_of_ble_eq_true rfl) ?_
  intro pP eE U mM bL mT cO S hr hlk hK
  have hts := S.2.2.2.2
  have ht := fun w h => hts w (List.mem_cons_of_mem _ h)
  refine z_bipush S d_Model_post_0 33 (by decide) 2 rfl ?_
  refine z_istore_n S d_Model_post_2 rfl (Nat.le_of_ble_eq_true rfl) [(3, .int 33), (0, .ref (ad 0 0)), (1, .int k), (2, .int a)] rfl 3 rfl ?_
  refine z_aload_n S d_Model_post_3 rfl 1 rfl 4 rfl ?_
  refine z_get S hK hin_Model rm_0 rC_0 rfl 25 (Nat.le_of_ble_eq_true rfl) (ht _ w_565) (fun _ h => h) d_Model_post_4 7 rfl (.int (s 0 25 0)) rfl ?_
  refine z_bipush S d_Model_post_7 32 (by decide) 9 rfl ?_
  refine z_icmp_ge S d_Model_post_9 56 (by decide) 12 rfl (fun h1 => ?_) (fun h1 => ?_)
  · refine z_aload_n S d_Model_post_56 rfl 1 rfl 57 rfl ?_
    refine z_get S hK hin_Model rm_0 rC_0 rfl 28 (Nat.le_of_ble_eq_true rfl) (ht _ w_568) (fun _ h => h) d_Model_post_57 60 rfl (.ref (ad 28 0)) rfl ?_
    refine z_iload_n S d_Model_post_60 rfl 0 rfl 61 rfl ?_
    refine z_iload_n S d_Model_post_61 rfl 2 rfl 62 rfl ?_
    refine z_iast S hJ hK rm_28 0 rC_28 rfl (vp_c (c := 33) (N := 34) (by omega) (by omega)) rfl rupI_28 d_Model_post_62 63 rfl ?_
    refine z_aload_n S d_Model_post_63 rfl 1 rfl 64 rfl ?_
    refine z_get S hK hin_Model rm_0 rC_0 rfl 29 (Nat.le_of_ble_eq_true rfl) (ht _ w_569) (fun _ h => h) d_Model_post_64 67 rfl (.ref (ad 29 0)) rfl ?_
    refine z_iload_n S d_Model_post_67 rfl 0 rfl 68 rfl ?_
    refine z_iload_n S d_Model_post_68 rfl 3 rfl 69 rfl ?_
    refine z_iast S hJ hK rm_29 0 rC_29 rfl (vp_c (c := 33) (N := 34) (by omega) (by omega)) rfl rupI_29 d_Model_post_69 70 rfl ?_
    refine z_iload_n S d_Model_post_70 rfl 0 rfl 71 rfl ?_
    exact z_iret S hr hlk d_Model_post_71 (by rw [ppF, if_pos h1]) (rC_eq (by simp only [S_Model_post, ppF, nxW, if_pos h1, u3_id]))
  · refine z_iconst S d_Model_post_12 0 (by decide) 13 rfl ?_
    refine z_istore_n S d_Model_post_13 rfl (Nat.le_of_ble_eq_true rfl) [(3, .int 0), (0, .ref (ad 0 0)), (1, .int k), (2, .int a)] rfl 14 rfl ?_
    obtain ⟨q0, hq0, hq1⟩ := hB h1
    have loop : ∀ (j q : Nat), q + j = 34 → q ≤ q0 → fbF (s 27 0) j q = fbF (s 27 0) 34 0 → zG pP l eE (headSpec ws_Model_post ({ frames := 0, cells := 0, slots := 0, locals := 0 })).room U mM ([.ref (ad 0 0), .int k, .int a] : List Value).toArray bL mT cO 4 (MQ bL (zQ D zCl (rRL) ad (some (.int (ppF (s 0 25 0) (s 27 0)))) (rC K ad (S_Model_post s k a))) ([.ref (ad 0 0), .int k, .int a] : List Value).toArray U 0 0 (zw_A (rRL) ad)) (zI D zCl (rRL) ad U.heap (rC K ad s)) 0 0 14 [(3, .int (nI q)), (0, .ref (ad 0 0)), (1, .int k), (2, .int a)] [] := by
      intro j
      induction j with
      | zero => intro q hj hq hv; exact absurd hq (by omega)
      | succ j ih =>
        intro q hj hq hv
        refine z_aload_n S d_Model_post_14 rfl 1 rfl 15 rfl ?_
        refine z_get S hK hin_Model rm_0 rC_0 rfl 27 (Nat.le_of_ble_eq_true rfl) (ht _ w_567) (fun _ h => h) d_Model_post_15 18 rfl (.ref (ad 27 0)) rfl ?_
        refine z_iload_n S d_Model_post_18 rfl 0 rfl 19 rfl ?_
        refine z_zald S hK rm_27 1 rC_27 rfl (nI_in (by omega) (by omega)) d_Model_post_19 20 rfl (s 27 0 ((nI q).toNatClampNeg)) rfl ?_
        refine z_if_eq S d_Model_post_20 29 (by decide) 23 rfl (fun h2 => ?_) (fun h2 => ?_)
        · have hP : q = fbF (s 27 0) 34 0 := by rw [← hv, fbF, if_pos h2]
          refine z_aload_n S d_Model_post_29 rfl 1 rfl 30 rfl ?_
          refine z_get S hK hin_Model rm_0 rC_0 rfl 27 (Nat.le_of_ble_eq_true rfl) (ht _ w_567) (fun _ h => h) d_Model_post_30 33 rfl (.ref (ad 27 0)) rfl ?_
          refine z_iload_n S d_Model_post_33 rfl 0 rfl 34 rfl ?_
          refine z_iconst S d_Model_post_34 1 (by decide) 35 rfl ?_
          refine z_zast S hJ hK rm_27 1 rC_27 rfl (nI_in (by omega) (by omega)) (zb_v zb_1) rupI_27 d_Model_post_35 36 rfl ?_
          refine z_aload_n S d_Model_post_36 rfl 1 rfl 37 rfl ?_
          refine z_get S hK hin_Model rm_0 rC_0 rfl 26 (Nat.le_of_ble_eq_true rfl) (ht _ w_566) (fun _ h => h) d_Model_post_37 40 rfl (.ref (ad 26 0)) rfl ?_
          refine z_aload_n S d_Model_post_40 rfl 1 rfl 41 rfl ?_
          refine z_get S hK hin_Model rm_0 rC_0 rfl 25 (Nat.le_of_ble_eq_true rfl) (ht _ w_565) (fun _ h => h) d_Model_post_41 44 rfl (.int (s 0 25 0)) rfl ?_
          refine z_iload_n S d_Model_post_44 rfl 0 rfl 45 rfl ?_
          refine z_iast S hJ hK rm_26 0 rC_26 rfl (w_lt hW h1) rfl rupI_26 d_Model_post_45 46 rfl ?_
          refine z_aload_n S d_Model_post_46 rfl 1 rfl 47 rfl ?_
          refine z_dup S d_Model_post_47 rfl 48 rfl ?_
          refine z_get S hK hin_Model rm_0 rC_0 rfl 25 (Nat.le_of_ble_eq_true rfl) (ht _ w_565) (fun _ h => h) d_Model_post_48 51 rfl (.int (s 0 25 0)) rfl ?_
          refine z_iconst S d_Model_post_51 1 (by decide) 52 rfl ?_
          refine z_iadd S d_Model_post_52 53 rfl ?_
          refine z_put S hJ hK hin_Model t_Model ok_Model nm_Model rm_0 rC_0 rfl 25 (Nat.le_of_ble_eq_true rfl) (ht _ w_565) (fun _ h => h) rfl rfl rfl (Nat.le_of_ble_eq_true rfl) rup_25 d_Model_post_53 56 rfl ?_
          refine z_aload_n S d_Model_post_56 rfl 1 rfl 57 rfl ?_
          refine z_get S hK hin_Model rm_0 rC_0 rfl 28 (Nat.le_of_ble_eq_true rfl) (ht _ w_568) (fun _ h => h) d_Model_post_57 60 rfl (.ref (ad 28 0)) rfl ?_
          refine z_iload_n S d_Model_post_60 rfl 0 rfl 61 rfl ?_
          refine z_iload_n S d_Model_post_61 rfl 2 rfl 62 rfl ?_
          refine z_iast S hJ hK rm_28 0 rC_28 rfl (nI_in (by omega) (by omega)) rfl rupI_28 d_Model_post_62 63 rfl ?_
          refine z_aload_n S d_Model_post_63 rfl 1 rfl 64 rfl ?_
          refine z_get S hK hin_Model rm_0 rC_0 rfl 29 (Nat.le_of_ble_eq_true rfl) (ht _ w_569) (fun _ h => h) d_Model_post_64 67 rfl (.ref (ad 29 0)) rfl ?_
          refine z_iload_n S d_Model_post_67 rfl 0 rfl 68 rfl ?_
          refine z_iload_n S d_Model_post_68 rfl 3 rfl 69 rfl ?_
          refine z_iast S hJ hK rm_29 0 rC_29 rfl (nI_in (by omega) (by omega)) rfl rupI_29 d_Model_post_69 70 rfl ?_
          refine z_iload_n S d_Model_post_70 rfl 0 rfl 71 rfl ?_
          exact z_iret S hr hlk d_Model_post_71 (by rw [ppF, if_neg h1, ← hP]) (rC_eq (by simp only [S_Model_post, ppF, nxW, if_neg h1, ← hP]))
        · refine z_iinc S d_Model_post_23 0 rfl (nI_i1 _) (Nat.le_of_ble_eq_true rfl) [(3, .int (nI (q + 1))), (0, .ref (ad 0 0)), (1, .int k), (2, .int a)] rfl 26 rfl ?_
          refine z_goto S d_Model_post_26 14 (by decide) ?_
          exact ih (q + 1) (by omega) (by rcases Nat.eq_or_lt_of_le hq with e | e; exact absurd (by rw [nI_clamp (by omega), e]; exact hq1) h2; exact e) (by rw [← hv, fbF, if_neg h2])
    exact loop 34 0 (by omega) (by omega) rfl
theorem d_Model_take_0 : decode prog_11_method_5_code 0 = .ok (.aload_n 0, 1) := by decide +kernel
theorem d_Model_take_1 : decode prog_11_method_5_code 1 = .ok (.getfield 75, 3) := by decide +kernel
theorem d_Model_take_4 : decode prog_11_method_5_code 4 = .ok (.iload_n 1, 1) := by decide +kernel
theorem d_Model_take_5 : decode prog_11_method_5_code 5 = .ok (.iaload, 1) := by decide +kernel
theorem d_Model_take_6 : decode prog_11_method_5_code 6 = .ok (.istore_n 2, 1) := by decide +kernel
theorem d_Model_take_7 : decode prog_11_method_5_code 7 = .ok (.aload_n 0, 1) := by decide +kernel
theorem d_Model_take_8 : decode prog_11_method_5_code 8 = .ok (.dup, 1) := by decide +kernel
theorem d_Model_take_9 : decode prog_11_method_5_code 9 = .ok (.getfield 112, 3) := by decide +kernel
theorem d_Model_take_12 : decode prog_11_method_5_code 12 = .ok (.iconst 1, 1) := by decide +kernel
theorem d_Model_take_13 : decode prog_11_method_5_code 13 = .ok (.isub, 1) := by decide +kernel
theorem d_Model_take_14 : decode prog_11_method_5_code 14 = .ok (.putfield 112, 3) := by decide +kernel
theorem d_Model_take_17 : decode prog_11_method_5_code 17 = .ok (.iload_n 1, 1) := by decide +kernel
theorem d_Model_take_18 : decode prog_11_method_5_code 18 = .ok (.istore_n 3, 1) := by decide +kernel
theorem d_Model_take_19 : decode prog_11_method_5_code 19 = .ok (.iload_n 3, 1) := by decide +kernel
theorem d_Model_take_20 : decode prog_11_method_5_code 20 = .ok (.aload_n 0, 1) := by decide +kernel
theorem d_Model_take_21 : decode prog_11_method_5_code 21 = .ok (.getfield 112, 3) := by decide +kernel
theorem d_Model_take_24 : decode prog_11_method_5_code 24 = .ok (.if_icmp .ge 23, 3) := by decide +kernel
theorem d_Model_take_27 : decode prog_11_method_5_code 27 = .ok (.aload_n 0, 1) := by decide +kernel
theorem d_Model_take_28 : decode prog_11_method_5_code 28 = .ok (.getfield 75, 3) := by decide +kernel
theorem d_Model_take_31 : decode prog_11_method_5_code 31 = .ok (.iload_n 3, 1) := by decide +kernel
theorem d_Model_take_32 : decode prog_11_method_5_code 32 = .ok (.aload_n 0, 1) := by decide +kernel
theorem d_Model_take_33 : decode prog_11_method_5_code 33 = .ok (.getfield 75, 3) := by decide +kernel
theorem d_Model_take_36 : decode prog_11_method_5_code 36 = .ok (.iload_n 3, 1) := by decide +kernel
theorem d_Model_take_37 : decode prog_11_method_5_code 37 = .ok (.iconst 1, 1) := by decide +kernel
theorem d_Model_take_38 : decode prog_11_method_5_code 38 = .ok (.iadd, 1) := by decide +kernel
theorem d_Model_take_39 : decode prog_11_method_5_code 39 = .ok (.iaload, 1) := by decide +kernel
theorem d_Model_take_40 : decode prog_11_method_5_code 40 = .ok (.iastore, 1) := by decide +kernel
theorem d_Model_take_41 : decode prog_11_method_5_code 41 = .ok (.iinc 3 1, 3) := by decide +kernel
theorem d_Model_take_44 : decode prog_11_method_5_code 44 = .ok (.goto (-25), 3) := by decide +kernel
theorem d_Model_take_47 : decode prog_11_method_5_code 47 = .ok (.iload_n 2, 1) := by decide +kernel
theorem d_Model_take_48 : decode prog_11_method_5_code 48 = .ok (.ireturn, 1) := by decide +kernel
set_option maxHeartbeats 4000000 in
set_option maxRecDepth 100000 in
theorem c_Model_take {l : Launch} {D : va_G} {K : Nat → ClassId} {ad : Nat → Nat → Nat} {s : S3} {x : Int32}  (hJ : zw_J (rRL) ad) (hW : vp_in (s 0 25 0) 33) (hx : vp_in x (s 0 25 0).toNatClampNeg) : zM l y_Model_take ws_Model_take ({ frames := 0, cells := 0, slots := 0, locals := 0 }) D zCl (zTys K) (rRL) ad [.ref (ad 0 0), .int x] (rC K ad s) (some (.int (s 26 0 x.toNatClampNeg))) (rC K ad (uA (u3 s 0 25 0 ((s 0 25 0) - 1)) 26 0 (rowR ((s 0 25 0).toNatClampNeg - 1 - x.toNatClampNeg) x.toNatClampNeg (s 26 0)))) := by
  refine zM.of (cc := prog_11_method_5_code) (maxL := 4) (ret := (Option.some Jvm.ClassFile.FieldType.int)) (by decide) rfl (Nat.le_of_ble_eq_true rfl) ?_
  intro pP eE U mM bL mT cO S hr hlk hK
  have hts := S.2.2.2.2
  have ht := fun w h => hts w (List.mem_cons_of_mem _ h)
  refine z_aload_n S d_Model_take_0 rfl 0 rfl 1 rfl ?_
  refine z_get S hK hin_Model rm_0 rC_0 rfl 26 (Nat.le_of_ble_eq_true rfl) (ht _ w_566) (fun _ h => h) d_Model_take_1 4 rfl (.ref (ad 26 0)) rfl ?_
  refine z_iload_n S d_Model_take_4 rfl 1 rfl 5 rfl ?_
  refine z_iald S hK rm_26 0 rC_26 rfl (vp_mono hx (by have := vp_lt hW; omega)) d_Model_take_5 6 rfl (s 26 0 x.toNatClampNeg) rfl ?_
  refine z_istore_n S d_Model_take_6 rfl (Nat.le_of_ble_eq_true rfl) [(2, .int (s 26 0 x.toNatClampNeg)), (0, .ref (ad 0 0)), (1, .int x)] rfl 7 rfl ?_
  refine z_aload_n S d_Model_take_7 rfl 1 rfl 8 rfl ?_
  refine z_dup S d_Model_take_8 rfl 9 rfl ?_
  refine z_get S hK hin_Model rm_0 rC_0 rfl 25 (Nat.le_of_ble_eq_true rfl) (ht _ w_565) (fun _ h => h) d_Model_take_9 12 rfl (.int (s 0 25 0)) rfl ?_
  refine z_iconst S d_Model_take_12 1 (by decide) 13 rfl ?_
  refine z_isub S d_Model_take_13 14 rfl ?_
  refine z_put S hJ hK hin_Model t_Model ok_Model nm_Model rm_0 rC_0 rfl 25 (Nat.le_of_ble_eq_true rfl) (ht _ w_565) (fun _ h => h) rfl rfl rfl (Nat.le_of_ble_eq_true rfl) rup_25 d_Model_take_14 17 rfl ?_
  refine z_iload_n S d_Model_take_17 rfl 2 rfl 18 rfl ?_
  refine z_istore_n S d_Model_take_18 rfl (Nat.le_of_ble_eq_true rfl) [(3, .int x), (2, .int (s 26 0 x.toNatClampNeg)), (0, .ref (ad 0 0)), (1, .int x)] rfl 19 rfl ?_
  have hw1 : (s 0 25 0) - 1 = nI ((s 0 25 0).toNatClampNeg - 1) := by
    have h1 := vp_lt hx
    have h2 := vp_eq hW
    obtain ⟨k, hk⟩ : ∃ k, (s 0 25 0).toNatClampNeg = k + 1 := ⟨_, (Nat.sub_add_cancel (by omega : 1 ≤ (s 0 25 0).toNatClampNeg)).symm⟩
    rw [h2, nI_clamp (by have := vp_lt hW; omega), hk, nI_pred]
    rfl
  have hw2 := vp_lt hW
  have loop : ∀ (k j : Nat) (z : Int32) (g : Nat → Int32), z = nI j → j + k = (s 0 25 0).toNatClampNeg - 1 → rowR k j g = rowR ((s 0 25 0).toNatClampNeg - 1 - x.toNatClampNeg) x.toNatClampNeg (s 26 0) → zG pP l eE (headSpec ws_Model_take ({ frames := 0, cells := 0, slots := 0, locals := 0 })).room U mM ([.ref (ad 0 0), .int x] : List Value).toArray bL mT cO 4 (MQ bL (zQ D zCl (rRL) ad (some (.int (s 26 0 x.toNatClampNeg))) (rC K ad (uA (u3 s 0 25 0 ((s 0 25 0) - 1)) 26 0 (rowR ((s 0 25 0).toNatClampNeg - 1 - x.toNatClampNeg) x.toNatClampNeg (s 26 0))))) ([.ref (ad 0 0), .int x] : List Value).toArray U 0 0 (zw_A (rRL) ad)) (zI D zCl (rRL) ad U.heap (rC K ad (uA (u3 s 0 25 0 ((s 0 25 0) - 1)) 26 0 g))) 0 0 19 [(3, .int z), (2, .int (s 26 0 x.toNatClampNeg)), (0, .ref (ad 0 0)), (1, .int x)] [] := by
    intro k
    induction k with
    | zero =>
      intro j z g hz hj hT
      subst hz
      refine z_iload_n S d_Model_take_19 rfl 0 rfl 20 rfl ?_
      refine z_aload_n S d_Model_take_20 rfl 2 rfl 21 rfl ?_
      refine z_get S hK hin_Model rm_0 rC_0 rfl 25 (Nat.le_of_ble_eq_true rfl) (ht _ w_565) (fun _ h => h) d_Model_take_21 24 rfl (.int ((s 0 25 0) - 1)) rfl ?_
      refine z_icmp_ge S d_Model_take_24 47 (by decide) 27 rfl (fun h1 => ?_) (fun h1 => ?_)
      · refine z_iload_n S d_Model_take_47 rfl 1 rfl 48 rfl ?_
        exact z_iret S hr hlk d_Model_take_48 rfl (rC_eq (by rw [← hT]; rfl))
      · exact absurd (by rw [hw1]; exact nI_le (by omega) (by omega)) h1
    | succ k ih =>
      intro j z g hz hj hT
      subst hz
      refine z_iload_n S d_Model_take_19 rfl 0 rfl 20 rfl ?_
      refine z_aload_n S d_Model_take_20 rfl 2 rfl 21 rfl ?_
      refine z_get S hK hin_Model rm_0 rC_0 rfl 25 (Nat.le_of_ble_eq_true rfl) (ht _ w_565) (fun _ h => h) d_Model_take_21 24 rfl (.int ((s 0 25 0) - 1)) rfl ?_
      refine z_icmp_ge S d_Model_take_24 47 (by decide) 27 rfl (fun h2 => ?_) (fun h2 => ?_)
      · exact absurd h2 (by rw [hw1]; exact nI_ge (by omega) (by omega))
      · refine z_aload_n S d_Model_take_27 rfl 2 rfl 28 rfl ?_
        refine z_get S hK hin_Model rm_0 rC_0 rfl 26 (Nat.le_of_ble_eq_true rfl) (ht _ w_566) (fun _ h => h) d_Model_take_28 31 rfl (.ref (ad 26 0)) rfl ?_
        refine z_iload_n S d_Model_take_31 rfl 0 rfl 32 rfl ?_
        refine z_aload_n S d_Model_take_32 rfl 2 rfl 33 rfl ?_
        refine z_get S hK hin_Model rm_0 rC_0 rfl 26 (Nat.le_of_ble_eq_true rfl) (ht _ w_566) (fun _ h => h) d_Model_take_33 36 rfl (.ref (ad 26 0)) rfl ?_
        refine z_iload_n S d_Model_take_36 rfl 0 rfl 37 rfl ?_
        refine z_iconst S d_Model_take_37 1 (by decide) 38 rfl ?_
        refine z_iadd S d_Model_take_38 39 rfl ?_
        refine z_iald S hK rm_26 0 rC_26 rfl (by rw [nI_1]; exact nI_in (by omega) (by omega)) d_Model_take_39 40 rfl ((uA (u3 s 0 25 0 ((s 0 25 0) - 1)) 26 0 g) 26 0 (((nI j) + 1).toNatClampNeg)) rfl ?_
        refine z_iast S hJ hK rm_26 0 rC_26 rfl (nI_in (by omega) (by omega)) rfl rupI_26 d_Model_take_40 41 rfl ?_
        refine z_iinc S d_Model_take_41 0 rfl (nI_i1 _) (Nat.le_of_ble_eq_true rfl) [(3, .int (nI (j + 1))), (2, .int (s 26 0 x.toNatClampNeg)), (0, .ref (ad 0 0)), (1, .int x)] rfl 44 rfl ?_
        refine z_goto S d_Model_take_44 19 (by decide) ?_
        have e1 : (nI j).toNatClampNeg = j := nI_clamp (by omega)
        have e2 : (nI j + 1).toNatClampNeg = j + 1 := by rw [nI_1]; exact nI_clamp (by omega)
        refine z_to (C2 := rC K ad (uA (u3 s 0 25 0 ((s 0 25 0) - 1)) 26 0 (upd g j (g (j + 1))))) (rC_eq (by rw [e1, e2]; exact u3_uA)) ?_
        exact ih (j + 1) _ _ rfl (by omega) hT
  refine z_to (C2 := rC K ad (uA (u3 s 0 25 0 ((s 0 25 0) - 1)) 26 0 (s 26 0))) (rC_eq (uA_id (u3 s 0 25 0 ((s 0 25 0) - 1)) 26 0).symm) ?_
  exact loop _ _ x _ (vp_eq hx) (by have := vp_lt hx; omega) rfl
theorem d_Model_answer_0 : decode prog_11_method_6_code 0 = .ok (.aload_n 0, 1) := by decide +kernel
theorem d_Model_answer_1 : decode prog_11_method_6_code 1 = .ok (.bipush 8, 2) := by decide +kernel
theorem d_Model_answer_3 : decode prog_11_method_6_code 3 = .ok (.aload_n 0, 1) := by decide +kernel
theorem d_Model_answer_4 : decode prog_11_method_6_code 4 = .ok (.getfield 7, 3) := by decide +kernel
theorem d_Model_answer_7 : decode prog_11_method_6_code 7 = .ok (.iload_n 1, 1) := by decide +kernel
theorem d_Model_answer_8 : decode prog_11_method_6_code 8 = .ok (.iaload, 1) := by decide +kernel
theorem d_Model_answer_9 : decode prog_11_method_6_code 9 = .ok (.invokevirtual 115, 3) := by decide +kernel
theorem d_Model_answer_12 : decode prog_11_method_6_code 12 = .ok (.istore_n 3, 1) := by decide +kernel
theorem d_Model_answer_13 : decode prog_11_method_6_code 13 = .ok (.aload_n 0, 1) := by decide +kernel
theorem d_Model_answer_14 : decode prog_11_method_6_code 14 = .ok (.getfield 87, 3) := by decide +kernel
theorem d_Model_answer_17 : decode prog_11_method_6_code 17 = .ok (.iload_n 3, 1) := by decide +kernel
theorem d_Model_answer_18 : decode prog_11_method_6_code 18 = .ok (.aload_n 0, 1) := by decide +kernel
theorem d_Model_answer_19 : decode prog_11_method_6_code 19 = .ok (.getfield 13, 3) := by decide +kernel
theorem d_Model_answer_22 : decode prog_11_method_6_code 22 = .ok (.iload_n 1, 1) := by decide +kernel
theorem d_Model_answer_23 : decode prog_11_method_6_code 23 = .ok (.iaload, 1) := by decide +kernel
theorem d_Model_answer_24 : decode prog_11_method_6_code 24 = .ok (.iastore, 1) := by decide +kernel
theorem d_Model_answer_25 : decode prog_11_method_6_code 25 = .ok (.aload_n 0, 1) := by decide +kernel
theorem d_Model_answer_26 : decode prog_11_method_6_code 26 = .ok (.getfield 102, 3) := by decide +kernel
theorem d_Model_answer_29 : decode prog_11_method_6_code 29 = .ok (.iload_n 3, 1) := by decide +kernel
theorem d_Model_answer_30 : decode prog_11_method_6_code 30 = .ok (.iload_n 2, 1) := by decide +kernel
theorem d_Model_answer_31 : decode prog_11_method_6_code 31 = .ok (.iastore, 1) := by decide +kernel
theorem d_Model_answer_32 : decode prog_11_method_6_code 32 = .ok (.return_, 1) := by decide +kernel
def S_Model_answer (s : S3) (o : Int32) (r : Int32) : S3 := u3 (u3 (S_Model_post s 8 (s 3 0 o.toNatClampNeg)) 30 0 ((ppF (s 0 25 0) (s 27 0)).toNatClampNeg) (s 4 0 o.toNatClampNeg)) 35 0 ((ppF (s 0 25 0) (s 27 0)).toNatClampNeg) r
set_option maxHeartbeats 4000000 in
set_option maxRecDepth 100000 in
theorem c_Model_answer {l : Launch} {D : va_G} {K : Nat → ClassId} {ad : Nat → Nat → Nat} {s : S3} {o r : Int32} (hJ : zw_J (rRL) ad) (hW : vp_in (s 0 25 0) 33) (hB : fB s) (ho : vp_in o 512) : zM l y_Model_answer ws_Model_answer ({ frames := 1, cells := 0, slots := 0, locals := 23 }) D zCl (zTys K) (rRL) ad [.ref (ad 0 0), .int o, .int r] (rC K ad s) (none) (rC K ad (S_Model_answer s o r)) := by
  refine zM.of (cc := prog_11_method_6_code) (maxL := 4) (ret := (Option.none : Option Jvm.ClassFile.FieldType)) (by decide) rfl (Nat.le_of_ble_eq_true rfl) ?_
  intro pP eE U mM bL mT cO S hr hlk hK
  have hts := S.2.2.2.2
  have ht := fun w h => hts w (List.mem_cons_of_mem _ h)
  refine z_aload_n S d_Model_answer_0 rfl 0 rfl 1 rfl ?_
  refine z_bipush S d_Model_answer_1 8 (by decide) 3 rfl ?_
  refine z_aload_n S d_Model_answer_3 rfl 0 rfl 4 rfl ?_
  refine z_get S hK hin_Model rm_0 rC_0 rfl 3 (Nat.le_of_ble_eq_true rfl) (ht _ w_543) (fun _ h => h) d_Model_answer_4 7 rfl (.ref (ad 3 0)) rfl ?_
  refine z_iload_n S d_Model_answer_7 rfl 1 rfl 8 rfl ?_
  refine z_iald S hK rm_3 0 rC_3 rfl ho d_Model_answer_8 9 rfl (s 3 0 o.toNatClampNeg) rfl ?_
  refine z_callV S hK (As := [.int 8, .int (s 3 0 o.toNatClampNeg)]) (rest := []) (c_Model_post (k := 8) (a := s 3 0 o.toNatClampNeg) hJ hW hB) (cw_Model_post hts w_678 rfl rfl ⟨(Nat.le_of_ble_eq_true rfl), (Nat.le_of_ble_eq_true rfl)⟩) rm_0 rC_0 rfl rfl rfl (Nat.le_of_ble_eq_true rfl) d_Model_answer_9 12 rfl [.int (ppF (s 0 25 0) (s 27 0))] rfl ?_
  refine z_istore_n S d_Model_answer_12 rfl (Nat.le_of_ble_eq_true rfl) [(3, .int (ppF (s 0 25 0) (s 27 0))), (0, .ref (ad 0 0)), (1, .int o), (2, .int r)] rfl 13 rfl ?_
  refine z_aload_n S d_Model_answer_13 rfl 1 rfl 14 rfl ?_
  refine z_get S hK hin_Model rm_0 rC_0 rfl 30 (Nat.le_of_ble_eq_true rfl) (ht _ w_570) (fun _ h => h) d_Model_answer_14 17 rfl (.ref (ad 30 0)) rfl ?_
  refine z_iload_n S d_Model_answer_17 rfl 0 rfl 18 rfl ?_
  refine z_aload_n S d_Model_answer_18 rfl 1 rfl 19 rfl ?_
  refine z_get S hK hin_Model rm_0 rC_0 rfl 4 (Nat.le_of_ble_eq_true rfl) (ht _ w_544) (fun _ h => h) d_Model_answer_19 22 rfl (.ref (ad 4 0)) rfl ?_
  refine z_iload_n S d_Model_answer_22 rfl 2 rfl 23 rfl ?_
  refine z_iald S hK rm_4 0 rC_4 rfl ho d_Model_answer_23 24 rfl (s 4 0 o.toNatClampNeg) rfl ?_
  refine z_iast S hJ hK rm_30 0 rC_30 rfl (pp_in hB) rfl rupI_30 d_Model_answer_24 25 rfl ?_
  refine z_aload_n S d_Model_answer_25 rfl 1 rfl 26 rfl ?_
  refine z_get S hK hin_Model rm_0 rC_0 rfl 35 (Nat.le_of_ble_eq_true rfl) (ht _ w_575) (fun _ h => h) d_Model_answer_26 29 rfl (.ref (ad 35 0)) rfl ?_
  refine z_iload_n S d_Model_answer_29 rfl 0 rfl 30 rfl ?_
  refine z_iload_n S d_Model_answer_30 rfl 3 rfl 31 rfl ?_
  refine z_iast S hJ hK rm_35 0 rC_35 rfl (pp_in hB) rfl rupI_35 d_Model_answer_31 32 rfl ?_
  exact z_vret S hr hlk d_Model_answer_32 (rC_eq rfl)
theorem d_Model_sendPass_0 : decode prog_11_method_8_code 0 = .ok (.aload_n 0, 1) := by decide +kernel
theorem d_Model_sendPass_1 : decode prog_11_method_8_code 1 = .ok (.iconst 5, 1) := by decide +kernel
theorem d_Model_sendPass_2 : decode prog_11_method_8_code 2 = .ok (.aload_n 0, 1) := by decide +kernel
theorem d_Model_sendPass_3 : decode prog_11_method_8_code 3 = .ok (.getfield 32, 3) := by decide +kernel
theorem d_Model_sendPass_6 : decode prog_11_method_8_code 6 = .ok (.iload_n 1, 1) := by decide +kernel
theorem d_Model_sendPass_7 : decode prog_11_method_8_code 7 = .ok (.iaload, 1) := by decide +kernel
theorem d_Model_sendPass_8 : decode prog_11_method_8_code 8 = .ok (.invokevirtual 115, 3) := by decide +kernel
theorem d_Model_sendPass_11 : decode prog_11_method_8_code 11 = .ok (.istore_n 2, 1) := by decide +kernel
theorem d_Model_sendPass_12 : decode prog_11_method_8_code 12 = .ok (.aload_n 0, 1) := by decide +kernel
theorem d_Model_sendPass_13 : decode prog_11_method_8_code 13 = .ok (.getfield 87, 3) := by decide +kernel
theorem d_Model_sendPass_16 : decode prog_11_method_8_code 16 = .ok (.iload_n 2, 1) := by decide +kernel
theorem d_Model_sendPass_17 : decode prog_11_method_8_code 17 = .ok (.aload_n 0, 1) := by decide +kernel
theorem d_Model_sendPass_18 : decode prog_11_method_8_code 18 = .ok (.getfield 26, 3) := by decide +kernel
theorem d_Model_sendPass_21 : decode prog_11_method_8_code 21 = .ok (.iload_n 1, 1) := by decide +kernel
theorem d_Model_sendPass_22 : decode prog_11_method_8_code 22 = .ok (.iaload, 1) := by decide +kernel
theorem d_Model_sendPass_23 : decode prog_11_method_8_code 23 = .ok (.iastore, 1) := by decide +kernel
theorem d_Model_sendPass_24 : decode prog_11_method_8_code 24 = .ok (.aload_n 0, 1) := by decide +kernel
theorem d_Model_sendPass_25 : decode prog_11_method_8_code 25 = .ok (.getfield 96, 3) := by decide +kernel
theorem d_Model_sendPass_28 : decode prog_11_method_8_code 28 = .ok (.iload_n 2, 1) := by decide +kernel
theorem d_Model_sendPass_29 : decode prog_11_method_8_code 29 = .ok (.aload_n 0, 1) := by decide +kernel
theorem d_Model_sendPass_30 : decode prog_11_method_8_code 30 = .ok (.getfield 56, 3) := by decide +kernel
theorem d_Model_sendPass_33 : decode prog_11_method_8_code 33 = .ok (.iload_n 1, 1) := by decide +kernel
theorem d_Model_sendPass_34 : decode prog_11_method_8_code 34 = .ok (.iaload, 1) := by decide +kernel
theorem d_Model_sendPass_35 : decode prog_11_method_8_code 35 = .ok (.iastore, 1) := by decide +kernel
theorem d_Model_sendPass_36 : decode prog_11_method_8_code 36 = .ok (.aload_n 0, 1) := by decide +kernel
theorem d_Model_sendPass_37 : decode prog_11_method_8_code 37 = .ok (.getfield 99, 3) := by decide +kernel
theorem d_Model_sendPass_40 : decode prog_11_method_8_code 40 = .ok (.iload_n 2, 1) := by decide +kernel
theorem d_Model_sendPass_41 : decode prog_11_method_8_code 41 = .ok (.aload_n 0, 1) := by decide +kernel
theorem d_Model_sendPass_42 : decode prog_11_method_8_code 42 = .ok (.getfield 53, 3) := by decide +kernel
theorem d_Model_sendPass_45 : decode prog_11_method_8_code 45 = .ok (.iload_n 1, 1) := by decide +kernel
theorem d_Model_sendPass_46 : decode prog_11_method_8_code 46 = .ok (.iaload, 1) := by decide +kernel
theorem d_Model_sendPass_47 : decode prog_11_method_8_code 47 = .ok (.iastore, 1) := by decide +kernel
theorem d_Model_sendPass_48 : decode prog_11_method_8_code 48 = .ok (.return_, 1) := by decide +kernel
def S_Model_sendPass (s : S3) (x : Int32) : S3 := u3 (u3 (u3 (S_Model_post s 5 (s 10 0 x.toNatClampNeg)) 30 0 ((ppF (s 0 25 0) (s 27 0)).toNatClampNeg) (s 8 0 x.toNatClampNeg)) 33 0 ((ppF (s 0 25 0) (s 27 0)).toNatClampNeg) (s 19 0 x.toNatClampNeg)) 34 0 ((ppF (s 0 25 0) (s 27 0)).toNatClampNeg) (s 18 0 x.toNatClampNeg)
set_option maxHeartbeats 4000000 in
set_option maxRecDepth 100000 in
theorem c_Model_sendPass {l : Launch} {D : va_G} {K : Nat → ClassId} {ad : Nat → Nat → Nat} {s : S3} {x : Int32} (hJ : zw_J (rRL) ad) (hW : vp_in (s 0 25 0) 33) (hB : fB s) (hx : vp_in x 5) : zM l y_Model_sendPass ws_Model_sendPass ({ frames := 1, cells := 0, slots := 0, locals := 23 }) D zCl (zTys K) (rRL) ad [.ref (ad 0 0), .int x] (rC K ad s) (none) (rC K ad (S_Model_sendPass s x)) := by
  refine zM.of (cc := prog_11_method_8_code) (maxL := 3) (ret := (Option.none : Option Jvm.ClassFile.FieldType)) (by decide) rfl (Nat.le_of_ble_eq_true rfl) ?_
  intro pP eE U mM bL mT cO S hr hlk hK
  have hts := S.2.2.2.2
  have ht := fun w h => hts w (List.mem_cons_of_mem _ h)
  refine z_aload_n S d_Model_sendPass_0 rfl 0 rfl 1 rfl ?_
  refine z_iconst S d_Model_sendPass_1 5 (by decide) 2 rfl ?_
  refine z_aload_n S d_Model_sendPass_2 rfl 0 rfl 3 rfl ?_
  refine z_get S hK hin_Model rm_0 rC_0 rfl 10 (Nat.le_of_ble_eq_true rfl) (ht _ w_550) (fun _ h => h) d_Model_sendPass_3 6 rfl (.ref (ad 10 0)) rfl ?_
  refine z_iload_n S d_Model_sendPass_6 rfl 1 rfl 7 rfl ?_
  refine z_iald S hK rm_10 0 rC_10 rfl (vp_mono hx (by omega)) d_Model_sendPass_7 8 rfl (s 10 0 x.toNatClampNeg) rfl ?_
  refine z_callV S hK (As := [.int 5, .int (s 10 0 x.toNatClampNeg)]) (rest := []) (c_Model_post (k := 5) (a := s 10 0 x.toNatClampNeg) hJ hW hB) (cw_Model_post hts w_678 rfl rfl ⟨(Nat.le_of_ble_eq_true rfl), (Nat.le_of_ble_eq_true rfl)⟩) rm_0 rC_0 rfl rfl rfl (Nat.le_of_ble_eq_true rfl) d_Model_sendPass_8 11 rfl [.int (ppF (s 0 25 0) (s 27 0))] rfl ?_
  refine z_istore_n S d_Model_sendPass_11 rfl (Nat.le_of_ble_eq_true rfl) [(2, .int (ppF (s 0 25 0) (s 27 0))), (0, .ref (ad 0 0)), (1, .int x)] rfl 12 rfl ?_
  refine z_aload_n S d_Model_sendPass_12 rfl 1 rfl 13 rfl ?_
  refine z_get S hK hin_Model rm_0 rC_0 rfl 30 (Nat.le_of_ble_eq_true rfl) (ht _ w_570) (fun _ h => h) d_Model_sendPass_13 16 rfl (.ref (ad 30 0)) rfl ?_
  refine z_iload_n S d_Model_sendPass_16 rfl 0 rfl 17 rfl ?_
  refine z_aload_n S d_Model_sendPass_17 rfl 1 rfl 18 rfl ?_
  refine z_get S hK hin_Model rm_0 rC_0 rfl 8 (Nat.le_of_ble_eq_true rfl) (ht _ w_548) (fun _ h => h) d_Model_sendPass_18 21 rfl (.ref (ad 8 0)) rfl ?_
  refine z_iload_n S d_Model_sendPass_21 rfl 2 rfl 22 rfl ?_
  refine z_iald S hK rm_8 0 rC_8 rfl (vp_mono hx (by omega)) d_Model_sendPass_22 23 rfl (s 8 0 x.toNatClampNeg) rfl ?_
  refine z_iast S hJ hK rm_30 0 rC_30 rfl (pp_in hB) rfl rupI_30 d_Model_sendPass_23 24 rfl ?_
  refine z_aload_n S d_Model_sendPass_24 rfl 1 rfl 25 rfl ?_
  refine z_get S hK hin_Model rm_0 rC_0 rfl 33 (Nat.le_of_ble_eq_true rfl) (ht _ w_573) (fun _ h => h) d_Model_sendPass_25 28 rfl (.ref (ad 33 0)) rfl ?_
  refine z_iload_n S d_Model_sendPass_28 rfl 0 rfl 29 rfl ?_
  refine z_aload_n S d_Model_sendPass_29 rfl 1 rfl 30 rfl ?_
  refine z_get S hK hin_Model rm_0 rC_0 rfl 19 (Nat.le_of_ble_eq_true rfl) (ht _ w_559) (fun _ h => h) d_Model_sendPass_30 33 rfl (.ref (ad 19 0)) rfl ?_
  refine z_iload_n S d_Model_sendPass_33 rfl 2 rfl 34 rfl ?_
  refine z_iald S hK rm_19 0 rC_19 rfl hx d_Model_sendPass_34 35 rfl (s 19 0 x.toNatClampNeg) rfl ?_
  refine z_iast S hJ hK rm_33 0 rC_33 rfl (pp_in hB) rfl rupI_33 d_Model_sendPass_35 36 rfl ?_
  refine z_aload_n S d_Model_sendPass_36 rfl 1 rfl 37 rfl ?_
  refine z_get S hK hin_Model rm_0 rC_0 rfl 34 (Nat.le_of_ble_eq_true rfl) (ht _ w_574) (fun _ h => h) d_Model_sendPass_37 40 rfl (.ref (ad 34 0)) rfl ?_
  refine z_iload_n S d_Model_sendPass_40 rfl 0 rfl 41 rfl ?_
  refine z_aload_n S d_Model_sendPass_41 rfl 1 rfl 42 rfl ?_
  refine z_get S hK hin_Model rm_0 rC_0 rfl 18 (Nat.le_of_ble_eq_true rfl) (ht _ w_558) (fun _ h => h) d_Model_sendPass_42 45 rfl (.ref (ad 18 0)) rfl ?_
  refine z_iload_n S d_Model_sendPass_45 rfl 2 rfl 46 rfl ?_
  refine z_iald S hK rm_18 0 rC_18 rfl hx d_Model_sendPass_46 47 rfl (s 18 0 x.toNatClampNeg) rfl ?_
  refine z_iast S hJ hK rm_34 0 rC_34 rfl (pp_in hB) rfl rupI_34 d_Model_sendPass_47 48 rfl ?_
  exact z_vret S hr hlk d_Model_sendPass_48 (rC_eq rfl)
end
