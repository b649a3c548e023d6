section
-- ===== PART A: goes FIRST, ahead of the names: the tables' words, and 'selects' of the private methods out of them =====
/-- a private method of a class that the tables say can be made, by its rows of tables_1 -/
def lw_okq (q : MethodName × Nat) : Prop := (q.1.cls ≠ "java/lang/invoke/MethodHandle" ∧ q.1.cls ≠ "java/lang/invoke/VarHandle") ∧ Cond.instantiable q.1.cls q.2 ∈ tables_1 ∧ Cond.privateMethod q.1 ∈ tables_1 ∧ Cond.instanceMethod q.1 ∈ tables_1
theorem lw_p0 : lw_okq (⟨"ChainKeeper$Node", "learn", "(LChainKeeper$Chain;)V"⟩, 18) := ⟨⟨by decide +kernel, by decide +kernel⟩, List.mem_of_getElem? (i := 129) (by decide +kernel), List.mem_of_getElem? (i := 135) (by decide +kernel), List.mem_of_getElem? (i := 136) (by decide +kernel)⟩
theorem lw_p1 : lw_okq (⟨"ChainKeeper$Chain", "placeOf", "(I)I"⟩, 3) := ⟨⟨by decide +kernel, by decide +kernel⟩, List.mem_of_getElem? (i := 110) (by decide +kernel), List.mem_of_getElem? (i := 143) (by decide +kernel), List.mem_of_getElem? (i := 144) (by decide +kernel)⟩
theorem lw_p2 : lw_okq (⟨"ChainKeeper", "mayAsk", "(II)Z"⟩, 7) := ⟨⟨by decide +kernel, by decide +kernel⟩, List.mem_of_getElem? (i := 10) (by decide +kernel), List.mem_of_getElem? (i := 296) (by decide +kernel), List.mem_of_getElem? (i := 297) (by decide +kernel)⟩
theorem lw_p3 : lw_okq (⟨"ChainKeeper$Client", "open", "(I)V"⟩, 10) := ⟨⟨by decide +kernel, by decide +kernel⟩, List.mem_of_getElem? (i := 224) (by decide +kernel), List.mem_of_getElem? (i := 310) (by decide +kernel), List.mem_of_getElem? (i := 311) (by decide +kernel)⟩
theorem lw_p4 : lw_okq (⟨"ChainKeeper", "sendRequest", "(LChainKeeper$Client;I)V"⟩, 7) := ⟨⟨by decide +kernel, by decide +kernel⟩, List.mem_of_getElem? (i := 10) (by decide +kernel), List.mem_of_getElem? (i := 318) (by decide +kernel), List.mem_of_getElem? (i := 319) (by decide +kernel)⟩
theorem lw_p5 : lw_okq (⟨"ChainKeeper$Node", "accepts", "(LChainKeeper$Message;)Z"⟩, 18) := ⟨⟨by decide +kernel, by decide +kernel⟩, List.mem_of_getElem? (i := 129) (by decide +kernel), List.mem_of_getElem? (i := 361) (by decide +kernel), List.mem_of_getElem? (i := 362) (by decide +kernel)⟩
theorem lw_p6 : lw_okq (⟨"ChainKeeper$Node", "takeWrite", "(LChainKeeper$Message;LChainKeeper$Wire;)V"⟩, 18) := ⟨⟨by decide +kernel, by decide +kernel⟩, List.mem_of_getElem? (i := 129) (by decide +kernel), List.mem_of_getElem? (i := 365) (by decide +kernel), List.mem_of_getElem? (i := 366) (by decide +kernel)⟩
theorem lw_p7 : lw_okq (⟨"ChainKeeper$Node", "sendReply", "(IIIILChainKeeper$Wire;)V"⟩, 18) := ⟨⟨by decide +kernel, by decide +kernel⟩, List.mem_of_getElem? (i := 129) (by decide +kernel), List.mem_of_getElem? (i := 370) (by decide +kernel), List.mem_of_getElem? (i := 371) (by decide +kernel)⟩
theorem lw_p8 : lw_okq (⟨"ChainKeeper$Node", "hasRoom", "()Z"⟩, 18) := ⟨⟨by decide +kernel, by decide +kernel⟩, List.mem_of_getElem? (i := 129) (by decide +kernel), List.mem_of_getElem? (i := 376) (by decide +kernel), List.mem_of_getElem? (i := 377) (by decide +kernel)⟩
theorem lw_p9 : lw_okq (⟨"ChainKeeper$Node", "apply", "(LChainKeeper$Message;LChainKeeper$Wire;)V"⟩, 18) := ⟨⟨by decide +kernel, by decide +kernel⟩, List.mem_of_getElem? (i := 129) (by decide +kernel), List.mem_of_getElem? (i := 384) (by decide +kernel), List.mem_of_getElem? (i := 385) (by decide +kernel)⟩
theorem lw_p10 : lw_okq (⟨"ChainKeeper$Node", "commit", "(ILChainKeeper$Wire;)V"⟩, 18) := ⟨⟨by decide +kernel, by decide +kernel⟩, List.mem_of_getElem? (i := 129) (by decide +kernel), List.mem_of_getElem? (i := 391) (by decide +kernel), List.mem_of_getElem? (i := 392) (by decide +kernel)⟩
theorem lw_p11 : lw_okq (⟨"ChainKeeper$Node", "sendAck", "(LChainKeeper$Wire;)V"⟩, 18) := ⟨⟨by decide +kernel, by decide +kernel⟩, List.mem_of_getElem? (i := 129) (by decide +kernel), List.mem_of_getElem? (i := 395) (by decide +kernel), List.mem_of_getElem? (i := 396) (by decide +kernel)⟩
theorem lw_p12 : lw_okq (⟨"ChainKeeper$Node", "sendUpdate", "(ILChainKeeper$Wire;)V"⟩, 18) := ⟨⟨by decide +kernel, by decide +kernel⟩, List.mem_of_getElem? (i := 129) (by decide +kernel), List.mem_of_getElem? (i := 399) (by decide +kernel), List.mem_of_getElem? (i := 400) (by decide +kernel)⟩
theorem lw_p13 : lw_okq (⟨"ChainKeeper$Node", "takeRead", "(LChainKeeper$Message;LChainKeeper$Wire;)V"⟩, 18) := ⟨⟨by decide +kernel, by decide +kernel⟩, List.mem_of_getElem? (i := 129) (by decide +kernel), List.mem_of_getElem? (i := 403) (by decide +kernel), List.mem_of_getElem? (i := 404) (by decide +kernel)⟩
theorem lw_p14 : lw_okq (⟨"ChainKeeper$Node", "newestPending", "(I)I"⟩, 18) := ⟨⟨by decide +kernel, by decide +kernel⟩, List.mem_of_getElem? (i := 129) (by decide +kernel), List.mem_of_getElem? (i := 407) (by decide +kernel), List.mem_of_getElem? (i := 408) (by decide +kernel)⟩
theorem lw_p15 : lw_okq (⟨"ChainKeeper$Node", "takeUpdate", "(LChainKeeper$Message;LChainKeeper$Wire;)V"⟩, 18) := ⟨⟨by decide +kernel, by decide +kernel⟩, List.mem_of_getElem? (i := 129) (by decide +kernel), List.mem_of_getElem? (i := 411) (by decide +kernel), List.mem_of_getElem? (i := 412) (by decide +kernel)⟩
def lw_privs_1 : List (MethodName × Nat) := [(⟨"ChainKeeper$Node", "learn", "(LChainKeeper$Chain;)V"⟩, 18), (⟨"ChainKeeper$Chain", "placeOf", "(I)I"⟩, 3), (⟨"ChainKeeper", "mayAsk", "(II)Z"⟩, 7), (⟨"ChainKeeper$Client", "open", "(I)V"⟩, 10), (⟨"ChainKeeper", "sendRequest", "(LChainKeeper$Client;I)V"⟩, 7), (⟨"ChainKeeper$Node", "accepts", "(LChainKeeper$Message;)Z"⟩, 18), (⟨"ChainKeeper$Node", "takeWrite", "(LChainKeeper$Message;LChainKeeper$Wire;)V"⟩, 18), (⟨"ChainKeeper$Node", "sendReply", "(IIIILChainKeeper$Wire;)V"⟩, 18), (⟨"ChainKeeper$Node", "hasRoom", "()Z"⟩, 18), (⟨"ChainKeeper$Node", "apply", "(LChainKeeper$Message;LChainKeeper$Wire;)V"⟩, 18), (⟨"ChainKeeper$Node", "commit", "(ILChainKeeper$Wire;)V"⟩, 18), (⟨"ChainKeeper$Node", "sendAck", "(LChainKeeper$Wire;)V"⟩, 18), (⟨"ChainKeeper$Node", "sendUpdate", "(ILChainKeeper$Wire;)V"⟩, 18), (⟨"ChainKeeper$Node", "takeRead", "(LChainKeeper$Message;LChainKeeper$Wire;)V"⟩, 18), (⟨"ChainKeeper$Node", "newestPending", "(I)I"⟩, 18), (⟨"ChainKeeper$Node", "takeUpdate", "(LChainKeeper$Message;LChainKeeper$Wire;)V"⟩, 18)]
theorem lw_r1 : ∀ q ∈ lw_privs_1, lw_okq q := List.forall_mem_cons.mpr ⟨lw_p0, List.forall_mem_cons.mpr ⟨lw_p1, List.forall_mem_cons.mpr ⟨lw_p2, List.forall_mem_cons.mpr ⟨lw_p3, List.forall_mem_cons.mpr ⟨lw_p4, List.forall_mem_cons.mpr ⟨lw_p5, List.forall_mem_cons.mpr ⟨lw_p6, List.forall_mem_cons.mpr ⟨lw_p7, List.forall_mem_cons.mpr ⟨lw_p8, List.forall_mem_cons.mpr ⟨lw_p9, List.forall_mem_cons.mpr ⟨lw_p10, List.forall_mem_cons.mpr ⟨lw_p11, List.forall_mem_cons.mpr ⟨lw_p12, List.forall_mem_cons.mpr ⟨lw_p13, List.forall_mem_cons.mpr ⟨lw_p14, List.forall_mem_cons.mpr ⟨lw_p15, fun _ h => absurd h List.not_mem_nil⟩⟩⟩⟩⟩⟩⟩⟩⟩⟩⟩⟩⟩⟩⟩⟩
theorem lw_p16 : lw_okq (⟨"ChainKeeper$Node", "takeAck", "(LChainKeeper$Message;LChainKeeper$Wire;)V"⟩, 18) := ⟨⟨by decide +kernel, by decide +kernel⟩, List.mem_of_getElem? (i := 129) (by decide +kernel), List.mem_of_getElem? (i := 415) (by decide +kernel), List.mem_of_getElem? (i := 416) (by decide +kernel)⟩
theorem lw_p17 : lw_okq (⟨"ChainKeeper$Node", "takeQuery", "(LChainKeeper$Message;LChainKeeper$Wire;)V"⟩, 18) := ⟨⟨by decide +kernel, by decide +kernel⟩, List.mem_of_getElem? (i := 129) (by decide +kernel), List.mem_of_getElem? (i := 419) (by decide +kernel), List.mem_of_getElem? (i := 420) (by decide +kernel)⟩
theorem lw_p18 : lw_okq (⟨"ChainKeeper$Node", "takeAnswer", "(LChainKeeper$Message;LChainKeeper$Wire;)V"⟩, 18) := ⟨⟨by decide +kernel, by decide +kernel⟩, List.mem_of_getElem? (i := 129) (by decide +kernel), List.mem_of_getElem? (i := 423) (by decide +kernel), List.mem_of_getElem? (i := 424) (by decide +kernel)⟩
theorem lw_p19 : lw_okq (⟨"ChainKeeper$Node", "isPendingOf", "(II)Z"⟩, 18) := ⟨⟨by decide +kernel, by decide +kernel⟩, List.mem_of_getElem? (i := 129) (by decide +kernel), List.mem_of_getElem? (i := 427) (by decide +kernel), List.mem_of_getElem? (i := 428) (by decide +kernel)⟩
theorem lw_p20 : lw_okq (⟨"ChainKeeper$Node", "takeConfig", "(LChainKeeper$Message;LChainKeeper$Wire;)V"⟩, 18) := ⟨⟨by decide +kernel, by decide +kernel⟩, List.mem_of_getElem? (i := 129) (by decide +kernel), List.mem_of_getElem? (i := 431) (by decide +kernel), List.mem_of_getElem? (i := 432) (by decide +kernel)⟩
theorem lw_p21 : lw_okq (⟨"ChainKeeper$Node", "handOver", "(LChainKeeper$Wire;)V"⟩, 18) := ⟨⟨by decide +kernel, by decide +kernel⟩, List.mem_of_getElem? (i := 129) (by decide +kernel), List.mem_of_getElem? (i := 435) (by decide +kernel), List.mem_of_getElem? (i := 436) (by decide +kernel)⟩
theorem lw_p22 : lw_okq (⟨"ChainKeeper$Node", "sendCopy", "(LChainKeeper$Wire;)V"⟩, 18) := ⟨⟨by decide +kernel, by decide +kernel⟩, List.mem_of_getElem? (i := 129) (by decide +kernel), List.mem_of_getElem? (i := 439) (by decide +kernel), List.mem_of_getElem? (i := 440) (by decide +kernel)⟩
theorem lw_p23 : lw_okq (⟨"ChainKeeper$Node", "sendPending", "(LChainKeeper$Wire;)V"⟩, 18) := ⟨⟨by decide +kernel, by decide +kernel⟩, List.mem_of_getElem? (i := 129) (by decide +kernel), List.mem_of_getElem? (i := 446) (by decide +kernel), List.mem_of_getElem? (i := 447) (by decide +kernel)⟩
theorem lw_p24 : lw_okq (⟨"ChainKeeper$Node", "takeCopy", "(LChainKeeper$Message;LChainKeeper$Wire;)V"⟩, 18) := ⟨⟨by decide +kernel, by decide +kernel⟩, List.mem_of_getElem? (i := 129) (by decide +kernel), List.mem_of_getElem? (i := 450) (by decide +kernel), List.mem_of_getElem? (i := 451) (by decide +kernel)⟩
theorem lw_p25 : lw_okq (⟨"ChainKeeper$Node", "becomeReady", "(LChainKeeper$Message;)V"⟩, 18) := ⟨⟨by decide +kernel, by decide +kernel⟩, List.mem_of_getElem? (i := 129) (by decide +kernel), List.mem_of_getElem? (i := 454) (by decide +kernel), List.mem_of_getElem? (i := 455) (by decide +kernel)⟩
theorem lw_p26 : lw_okq (⟨"ChainKeeper", "passOneTick", "()V"⟩, 7) := ⟨⟨by decide +kernel, by decide +kernel⟩, List.mem_of_getElem? (i := 10) (by decide +kernel), List.mem_of_getElem? (i := 485) (by decide +kernel), List.mem_of_getElem? (i := 486) (by decide +kernel)⟩
theorem lw_p27 : lw_okq (⟨"ChainKeeper", "retryTarget", "(LChainKeeper$Client;)I"⟩, 7) := ⟨⟨by decide +kernel, by decide +kernel⟩, List.mem_of_getElem? (i := 10) (by decide +kernel), List.mem_of_getElem? (i := 493) (by decide +kernel), List.mem_of_getElem? (i := 494) (by decide +kernel)⟩
theorem lw_p28 : lw_okq (⟨"ChainKeeper", "hasRoomForConfigs", "()Z"⟩, 7) := ⟨⟨by decide +kernel, by decide +kernel⟩, List.mem_of_getElem? (i := 10) (by decide +kernel), List.mem_of_getElem? (i := 509) (by decide +kernel), List.mem_of_getElem? (i := 510) (by decide +kernel)⟩
theorem lw_p29 : lw_okq (⟨"ChainKeeper", "sendConfigs", "()V"⟩, 7) := ⟨⟨by decide +kernel, by decide +kernel⟩, List.mem_of_getElem? (i := 10) (by decide +kernel), List.mem_of_getElem? (i := 519) (by decide +kernel), List.mem_of_getElem? (i := 520) (by decide +kernel)⟩
theorem lw_p30 : lw_okq (⟨"ChainKeeperModel", "learn", "(I)V"⟩, 34) := ⟨⟨by decide +kernel, by decide +kernel⟩, List.mem_of_getElem? (i := 581) (by decide +kernel), List.mem_of_getElem? (i := 587) (by decide +kernel), List.mem_of_getElem? (i := 588) (by decide +kernel)⟩
theorem lw_p31 : lw_okq (⟨"ChainKeeperModel", "ask", "(I)V"⟩, 34) := ⟨⟨by decide +kernel, by decide +kernel⟩, List.mem_of_getElem? (i := 581) (by decide +kernel), List.mem_of_getElem? (i := 701) (by decide +kernel), List.mem_of_getElem? (i := 702) (by decide +kernel)⟩
def lw_privs_2 : List (MethodName × Nat) := [(⟨"ChainKeeper$Node", "takeAck", "(LChainKeeper$Message;LChainKeeper$Wire;)V"⟩, 18), (⟨"ChainKeeper$Node", "takeQuery", "(LChainKeeper$Message;LChainKeeper$Wire;)V"⟩, 18), (⟨"ChainKeeper$Node", "takeAnswer", "(LChainKeeper$Message;LChainKeeper$Wire;)V"⟩, 18), (⟨"ChainKeeper$Node", "isPendingOf", "(II)Z"⟩, 18), (⟨"ChainKeeper$Node", "takeConfig", "(LChainKeeper$Message;LChainKeeper$Wire;)V"⟩, 18), (⟨"ChainKeeper$Node", "handOver", "(LChainKeeper$Wire;)V"⟩, 18), (⟨"ChainKeeper$Node", "sendCopy", "(LChainKeeper$Wire;)V"⟩, 18), (⟨"ChainKeeper$Node", "sendPending", "(LChainKeeper$Wire;)V"⟩, 18), (⟨"ChainKeeper$Node", "takeCopy", "(LChainKeeper$Message;LChainKeeper$Wire;)V"⟩, 18), (⟨"ChainKeeper$Node", "becomeReady", "(LChainKeeper$Message;)V"⟩, 18), (⟨"ChainKeeper", "passOneTick", "()V"⟩, 7), (⟨"ChainKeeper", "retryTarget", "(LChainKeeper$Client;)I"⟩, 7), (⟨"ChainKeeper", "hasRoomForConfigs", "()Z"⟩, 7), (⟨"ChainKeeper", "sendConfigs", "()V"⟩, 7), (⟨"ChainKeeperModel", "learn", "(I)V"⟩, 34), (⟨"ChainKeeperModel", "ask", "(I)V"⟩, 34)]
theorem lw_r2 : ∀ q ∈ lw_privs_2, lw_okq q := List.forall_mem_cons.mpr ⟨lw_p16, List.forall_mem_cons.mpr ⟨lw_p17, List.forall_mem_cons.mpr ⟨lw_p18, List.forall_mem_cons.mpr ⟨lw_p19, List.forall_mem_cons.mpr ⟨lw_p20, List.forall_mem_cons.mpr ⟨lw_p21, List.forall_mem_cons.mpr ⟨lw_p22, List.forall_mem_cons.mpr ⟨lw_p23, List.forall_mem_cons.mpr ⟨lw_p24, List.forall_mem_cons.mpr ⟨lw_p25, List.forall_mem_cons.mpr ⟨lw_p26, List.forall_mem_cons.mpr ⟨lw_p27, List.forall_mem_cons.mpr ⟨lw_p28, List.forall_mem_cons.mpr ⟨lw_p29, List.forall_mem_cons.mpr ⟨lw_p30, List.forall_mem_cons.mpr ⟨lw_p31, fun _ h => absurd h List.not_mem_nil⟩⟩⟩⟩⟩⟩⟩⟩⟩⟩⟩⟩⟩⟩⟩⟩
theorem lw_p32 : lw_okq (⟨"ChainKeeperModel", "send", "(II)V"⟩, 34) := ⟨⟨by decide +kernel, by decide +kernel⟩, List.mem_of_getElem? (i := 581) (by decide +kernel), List.mem_of_getElem? (i := 705) (by decide +kernel), List.mem_of_getElem? (i := 706) (by decide +kernel)⟩
theorem lw_p33 : lw_okq (⟨"ChainKeeperModel", "isMessage", "(I)Z"⟩, 34) := ⟨⟨by decide +kernel, by decide +kernel⟩, List.mem_of_getElem? (i := 581) (by decide +kernel), List.mem_of_getElem? (i := 717) (by decide +kernel), List.mem_of_getElem? (i := 718) (by decide +kernel)⟩
theorem lw_p34 : lw_okq (⟨"ChainKeeperModel", "take", "(I)V"⟩, 34) := ⟨⟨by decide +kernel, by decide +kernel⟩, List.mem_of_getElem? (i := 581) (by decide +kernel), List.mem_of_getElem? (i := 721) (by decide +kernel), List.mem_of_getElem? (i := 722) (by decide +kernel)⟩
theorem lw_p35 : lw_okq (⟨"ChainKeeperModel", "takeReply", "(I)V"⟩, 34) := ⟨⟨by decide +kernel, by decide +kernel⟩, List.mem_of_getElem? (i := 581) (by decide +kernel), List.mem_of_getElem? (i := 725) (by decide +kernel), List.mem_of_getElem? (i := 726) (by decide +kernel)⟩
theorem lw_p36 : lw_okq (⟨"ChainKeeperModel", "takeAt", "(I)V"⟩, 34) := ⟨⟨by decide +kernel, by decide +kernel⟩, List.mem_of_getElem? (i := 581) (by decide +kernel), List.mem_of_getElem? (i := 729) (by decide +kernel), List.mem_of_getElem? (i := 730) (by decide +kernel)⟩
theorem lw_p37 : lw_okq (⟨"ChainKeeperModel", "takeWrite", "(I)V"⟩, 34) := ⟨⟨by decide +kernel, by decide +kernel⟩, List.mem_of_getElem? (i := 581) (by decide +kernel), List.mem_of_getElem? (i := 733) (by decide +kernel), List.mem_of_getElem? (i := 734) (by decide +kernel)⟩
theorem lw_p38 : lw_okq (⟨"ChainKeeperModel", "placeOf", "(I)I"⟩, 34) := ⟨⟨by decide +kernel, by decide +kernel⟩, List.mem_of_getElem? (i := 581) (by decide +kernel), List.mem_of_getElem? (i := 737) (by decide +kernel), List.mem_of_getElem? (i := 738) (by decide +kernel)⟩
theorem lw_p39 : lw_okq (⟨"ChainKeeperModel", "reply", "(IIII)V"⟩, 34) := ⟨⟨by decide +kernel, by decide +kernel⟩, List.mem_of_getElem? (i := 581) (by decide +kernel), List.mem_of_getElem? (i := 741) (by decide +kernel), List.mem_of_getElem? (i := 742) (by decide +kernel)⟩
theorem lw_p40 : lw_okq (⟨"ChainKeeperModel", "pending", "(I)I"⟩, 34) := ⟨⟨by decide +kernel, by decide +kernel⟩, List.mem_of_getElem? (i := 581) (by decide +kernel), List.mem_of_getElem? (i := 745) (by decide +kernel), List.mem_of_getElem? (i := 746) (by decide +kernel)⟩
theorem lw_p41 : lw_okq (⟨"ChainKeeperModel", "apply", "(I)V"⟩, 34) := ⟨⟨by decide +kernel, by decide +kernel⟩, List.mem_of_getElem? (i := 581) (by decide +kernel), List.mem_of_getElem? (i := 749) (by decide +kernel), List.mem_of_getElem? (i := 750) (by decide +kernel)⟩
theorem lw_p42 : lw_okq (⟨"ChainKeeperModel", "isTail", "(I)Z"⟩, 34) := ⟨⟨by decide +kernel, by decide +kernel⟩, List.mem_of_getElem? (i := 581) (by decide +kernel), List.mem_of_getElem? (i := 753) (by decide +kernel), List.mem_of_getElem? (i := 754) (by decide +kernel)⟩
theorem lw_p43 : lw_okq (⟨"ChainKeeperModel", "behind", "(I)I"⟩, 34) := ⟨⟨by decide +kernel, by decide +kernel⟩, List.mem_of_getElem? (i := 581) (by decide +kernel), List.mem_of_getElem? (i := 757) (by decide +kernel), List.mem_of_getElem? (i := 758) (by decide +kernel)⟩
theorem lw_p44 : lw_okq (⟨"ChainKeeperModel", "commit", "(II)V"⟩, 34) := ⟨⟨by decide +kernel, by decide +kernel⟩, List.mem_of_getElem? (i := 581) (by decide +kernel), List.mem_of_getElem? (i := 761) (by decide +kernel), List.mem_of_getElem? (i := 762) (by decide +kernel)⟩
theorem lw_p45 : lw_okq (⟨"ChainKeeperModel", "sendAck", "(I)V"⟩, 34) := ⟨⟨by decide +kernel, by decide +kernel⟩, List.mem_of_getElem? (i := 581) (by decide +kernel), List.mem_of_getElem? (i := 765) (by decide +kernel), List.mem_of_getElem? (i := 766) (by decide +kernel)⟩
theorem lw_p46 : lw_okq (⟨"ChainKeeperModel", "before", "(I)I"⟩, 34) := ⟨⟨by decide +kernel, by decide +kernel⟩, List.mem_of_getElem? (i := 581) (by decide +kernel), List.mem_of_getElem? (i := 769) (by decide +kernel), List.mem_of_getElem? (i := 770) (by decide +kernel)⟩
theorem lw_p47 : lw_okq (⟨"ChainKeeperModel", "sendFrom", "(III)V"⟩, 34) := ⟨⟨by decide +kernel, by decide +kernel⟩, List.mem_of_getElem? (i := 581) (by decide +kernel), List.mem_of_getElem? (i := 773) (by decide +kernel), List.mem_of_getElem? (i := 774) (by decide +kernel)⟩
def lw_privs_3 : List (MethodName × Nat) := [(⟨"ChainKeeperModel", "send", "(II)V"⟩, 34), (⟨"ChainKeeperModel", "isMessage", "(I)Z"⟩, 34), (⟨"ChainKeeperModel", "take", "(I)V"⟩, 34), (⟨"ChainKeeperModel", "takeReply", "(I)V"⟩, 34), (⟨"ChainKeeperModel", "takeAt", "(I)V"⟩, 34), (⟨"ChainKeeperModel", "takeWrite", "(I)V"⟩, 34), (⟨"ChainKeeperModel", "placeOf", "(I)I"⟩, 34), (⟨"ChainKeeperModel", "reply", "(IIII)V"⟩, 34), (⟨"ChainKeeperModel", "pending", "(I)I"⟩, 34), (⟨"ChainKeeperModel", "apply", "(I)V"⟩, 34), (⟨"ChainKeeperModel", "isTail", "(I)Z"⟩, 34), (⟨"ChainKeeperModel", "behind", "(I)I"⟩, 34), (⟨"ChainKeeperModel", "commit", "(II)V"⟩, 34), (⟨"ChainKeeperModel", "sendAck", "(I)V"⟩, 34), (⟨"ChainKeeperModel", "before", "(I)I"⟩, 34), (⟨"ChainKeeperModel", "sendFrom", "(III)V"⟩, 34)]
theorem lw_r3 : ∀ q ∈ lw_privs_3, lw_okq q := List.forall_mem_cons.mpr ⟨lw_p32, List.forall_mem_cons.mpr ⟨lw_p33, List.forall_mem_cons.mpr ⟨lw_p34, List.forall_mem_cons.mpr ⟨lw_p35, List.forall_mem_cons.mpr ⟨lw_p36, List.forall_mem_cons.mpr ⟨lw_p37, List.forall_mem_cons.mpr ⟨lw_p38, List.forall_mem_cons.mpr ⟨lw_p39, List.forall_mem_cons.mpr ⟨lw_p40, List.forall_mem_cons.mpr ⟨lw_p41, List.forall_mem_cons.mpr ⟨lw_p42, List.forall_mem_cons.mpr ⟨lw_p43, List.forall_mem_cons.mpr ⟨lw_p44, List.forall_mem_cons.mpr ⟨lw_p45, List.forall_mem_cons.mpr ⟨lw_p46, List.forall_mem_cons.mpr ⟨lw_p47, fun _ h => absurd h List.not_mem_nil⟩⟩⟩⟩⟩⟩⟩⟩⟩⟩⟩⟩⟩⟩⟩⟩
theorem lw_p48 : lw_okq (⟨"ChainKeeperModel", "sendUpdate", "(II)V"⟩, 34) := ⟨⟨by decide +kernel, by decide +kernel⟩, List.mem_of_getElem? (i := 581) (by decide +kernel), List.mem_of_getElem? (i := 777) (by decide +kernel), List.mem_of_getElem? (i := 778) (by decide +kernel)⟩
theorem lw_p49 : lw_okq (⟨"ChainKeeperModel", "takeRead", "(I)V"⟩, 34) := ⟨⟨by decide +kernel, by decide +kernel⟩, List.mem_of_getElem? (i := 581) (by decide +kernel), List.mem_of_getElem? (i := 781) (by decide +kernel), List.mem_of_getElem? (i := 782) (by decide +kernel)⟩
theorem lw_p50 : lw_okq (⟨"ChainKeeperModel", "isDirty", "(II)Z"⟩, 34) := ⟨⟨by decide +kernel, by decide +kernel⟩, List.mem_of_getElem? (i := 581) (by decide +kernel), List.mem_of_getElem? (i := 785) (by decide +kernel), List.mem_of_getElem? (i := 786) (by decide +kernel)⟩
theorem lw_p51 : lw_okq (⟨"ChainKeeperModel", "takeConfig", "(I)V"⟩, 34) := ⟨⟨by decide +kernel, by decide +kernel⟩, List.mem_of_getElem? (i := 581) (by decide +kernel), List.mem_of_getElem? (i := 789) (by decide +kernel), List.mem_of_getElem? (i := 790) (by decide +kernel)⟩
theorem lw_p52 : lw_okq (⟨"ChainKeeperModel", "handOver", "(I)V"⟩, 34) := ⟨⟨by decide +kernel, by decide +kernel⟩, List.mem_of_getElem? (i := 581) (by decide +kernel), List.mem_of_getElem? (i := 793) (by decide +kernel), List.mem_of_getElem? (i := 794) (by decide +kernel)⟩
theorem lw_p53 : lw_okq (⟨"ChainKeeperModel", "sendCopy", "(I)V"⟩, 34) := ⟨⟨by decide +kernel, by decide +kernel⟩, List.mem_of_getElem? (i := 581) (by decide +kernel), List.mem_of_getElem? (i := 797) (by decide +kernel), List.mem_of_getElem? (i := 798) (by decide +kernel)⟩
theorem lw_p54 : lw_okq (⟨"ChainKeeperModel", "sendPending", "(I)V"⟩, 34) := ⟨⟨by decide +kernel, by decide +kernel⟩, List.mem_of_getElem? (i := 581) (by decide +kernel), List.mem_of_getElem? (i := 801) (by decide +kernel), List.mem_of_getElem? (i := 802) (by decide +kernel)⟩
theorem lw_p55 : lw_okq (⟨"ChainKeeperModel", "takeUpdate", "(I)V"⟩, 34) := ⟨⟨by decide +kernel, by decide +kernel⟩, List.mem_of_getElem? (i := 581) (by decide +kernel), List.mem_of_getElem? (i := 805) (by decide +kernel), List.mem_of_getElem? (i := 806) (by decide +kernel)⟩
theorem lw_p56 : lw_okq (⟨"ChainKeeperModel", "takeAck", "(I)V"⟩, 34) := ⟨⟨by decide +kernel, by decide +kernel⟩, List.mem_of_getElem? (i := 581) (by decide +kernel), List.mem_of_getElem? (i := 809) (by decide +kernel), List.mem_of_getElem? (i := 810) (by decide +kernel)⟩
theorem lw_p57 : lw_okq (⟨"ChainKeeperModel", "takeQuery", "(I)V"⟩, 34) := ⟨⟨by decide +kernel, by decide +kernel⟩, List.mem_of_getElem? (i := 581) (by decide +kernel), List.mem_of_getElem? (i := 813) (by decide +kernel), List.mem_of_getElem? (i := 814) (by decide +kernel)⟩
theorem lw_p58 : lw_okq (⟨"ChainKeeperModel", "takeAnswer", "(I)V"⟩, 34) := ⟨⟨by decide +kernel, by decide +kernel⟩, List.mem_of_getElem? (i := 581) (by decide +kernel), List.mem_of_getElem? (i := 817) (by decide +kernel), List.mem_of_getElem? (i := 818) (by decide +kernel)⟩
theorem lw_p59 : lw_okq (⟨"ChainKeeperModel", "takeCopy", "(I)V"⟩, 34) := ⟨⟨by decide +kernel, by decide +kernel⟩, List.mem_of_getElem? (i := 581) (by decide +kernel), List.mem_of_getElem? (i := 821) (by decide +kernel), List.mem_of_getElem? (i := 822) (by decide +kernel)⟩
theorem lw_p60 : lw_okq (⟨"ChainKeeperModel", "oneTick", "()V"⟩, 34) := ⟨⟨by decide +kernel, by decide +kernel⟩, List.mem_of_getElem? (i := 581) (by decide +kernel), List.mem_of_getElem? (i := 837) (by decide +kernel), List.mem_of_getElem? (i := 838) (by decide +kernel)⟩
theorem lw_p61 : lw_okq (⟨"ChainKeeperModel", "member", "(I)I"⟩, 34) := ⟨⟨by decide +kernel, by decide +kernel⟩, List.mem_of_getElem? (i := 581) (by decide +kernel), List.mem_of_getElem? (i := 849) (by decide +kernel), List.mem_of_getElem? (i := 850) (by decide +kernel)⟩
theorem lw_p62 : lw_okq (⟨"ChainKeeperModel", "configure", "()V"⟩, 34) := ⟨⟨by decide +kernel, by decide +kernel⟩, List.mem_of_getElem? (i := 581) (by decide +kernel), List.mem_of_getElem? (i := 853) (by decide +kernel), List.mem_of_getElem? (i := 854) (by decide +kernel)⟩
def lw_privs_4 : List (MethodName × Nat) := [(⟨"ChainKeeperModel", "sendUpdate", "(II)V"⟩, 34), (⟨"ChainKeeperModel", "takeRead", "(I)V"⟩, 34), (⟨"ChainKeeperModel", "isDirty", "(II)Z"⟩, 34), (⟨"ChainKeeperModel", "takeConfig", "(I)V"⟩, 34), (⟨"ChainKeeperModel", "handOver", "(I)V"⟩, 34), (⟨"ChainKeeperModel", "sendCopy", "(I)V"⟩, 34), (⟨"ChainKeeperModel", "sendPending", "(I)V"⟩, 34), (⟨"ChainKeeperModel", "takeUpdate", "(I)V"⟩, 34), (⟨"ChainKeeperModel", "takeAck", "(I)V"⟩, 34), (⟨"ChainKeeperModel", "takeQuery", "(I)V"⟩, 34), (⟨"ChainKeeperModel", "takeAnswer", "(I)V"⟩, 34), (⟨"ChainKeeperModel", "takeCopy", "(I)V"⟩, 34), (⟨"ChainKeeperModel", "oneTick", "()V"⟩, 34), (⟨"ChainKeeperModel", "member", "(I)I"⟩, 34), (⟨"ChainKeeperModel", "configure", "()V"⟩, 34)]
theorem lw_r4 : ∀ q ∈ lw_privs_4, lw_okq q := List.forall_mem_cons.mpr ⟨lw_p48, List.forall_mem_cons.mpr ⟨lw_p49, List.forall_mem_cons.mpr ⟨lw_p50, List.forall_mem_cons.mpr ⟨lw_p51, List.forall_mem_cons.mpr ⟨lw_p52, List.forall_mem_cons.mpr ⟨lw_p53, List.forall_mem_cons.mpr ⟨lw_p54, List.forall_mem_cons.mpr ⟨lw_p55, List.forall_mem_cons.mpr ⟨lw_p56, List.forall_mem_cons.mpr ⟨lw_p57, List.forall_mem_cons.mpr ⟨lw_p58, List.forall_mem_cons.mpr ⟨lw_p59, List.forall_mem_cons.mpr ⟨lw_p60, List.forall_mem_cons.mpr ⟨lw_p61, List.forall_mem_cons.mpr ⟨lw_p62, fun _ h => absurd h List.not_mem_nil⟩⟩⟩⟩⟩⟩⟩⟩⟩⟩⟩⟩⟩⟩⟩
def lw_privs : List (MethodName × Nat) := lw_privs_1 ++ (lw_privs_2 ++ (lw_privs_3 ++ (lw_privs_4)))
def lw_tbl : List Cond := k2_sels lw_privs ++ tables_1
theorem lw_privs_ok : ∀ q ∈ lw_privs, lw_okq q := by
  show ∀ q ∈ lw_privs_1 ++ (lw_privs_2 ++ (lw_privs_3 ++ (lw_privs_4))), lw_okq q
  exact List.forall_mem_append.mpr ⟨lw_r1, List.forall_mem_append.mpr ⟨lw_r2, List.forall_mem_append.mpr ⟨lw_r3, lw_r4⟩⟩⟩
end
section
/-! THE SMALL MACHINE: a pure picture of the methods' bytecode over a pure memory. Values: an int, or a reference (0 null, 1 the script, r + 2 the r-th cell made since the law began). -/
abbrev ck_V : Type := Int32 ⊕ Nat
abbrev ck_L : Type := List (Option ck_V)
/-- cells, slots used, kind, length, ints, references -/
abbrev ck_M : Type := Nat × Nat × (Nat → Nat) × (Nat → Nat) × (Nat → Nat → Int32) × (Nat → Nat → Nat)
/-- pc, instruction, its length, three numbers that the program's tables fix -/
abbrev ck_E : Type := Nat × Instr × Nat × Nat × Nat × Nat
def ck_sz (M : ck_M) : Nat := M.1
def ck_us (M : ck_M) : Nat := M.2.1
def ck_kd (M : ck_M) (r : Nat) : Nat := M.2.2.1 r
def ck_ln (M : ck_M) (r : Nat) : Nat := M.2.2.2.1 r
def ck_iv (M : ck_M) (r k : Nat) : Int32 := M.2.2.2.2.1 r k
def ck_rv (M : ck_M) (r k : Nat) : Nat := M.2.2.2.2.2 r k
/-- an int written, a reference written -/
def ck_wi (M : ck_M) (r k : Nat) (x : Int32) : ck_M := (M.1, M.2.1, M.2.2.1, M.2.2.2.1, fun a j => if a = r ∧ j = k then x else M.2.2.2.2.1 a j, M.2.2.2.2.2)
def ck_wr (M : ck_M) (r k : Nat) (x : Nat) : ck_M := (M.1, M.2.1, M.2.2.1, M.2.2.2.1, M.2.2.2.2.1, fun a j => if a = r ∧ j = k then x else M.2.2.2.2.2 a j)
/-- a cell made: its kind, how many slots -/
def ck_al (M : ck_M) (kind len : Nat) : ck_M := (M.1 + 1, M.2.1 + len, fun a => if a = M.1 + 2 then kind else M.2.2.1 a, fun a => if a = M.1 + 2 then len else M.2.2.2.1 a, fun a j => if a = M.1 + 2 then 0 else M.2.2.2.2.1 a j, fun a j => if a = M.1 + 2 then 0 else M.2.2.2.2.2 a j)
/-- ints copied from one array to another -/
def ck_cp (M : ck_M) (r sp q dp n : Nat) : ck_M := (M.1, M.2.1, M.2.2.1, M.2.2.2.1, fun a j => if a = q ∧ dp ≤ j ∧ j < dp + n then M.2.2.2.2.1 r (sp + (j - dp)) else M.2.2.2.2.1 a j, M.2.2.2.2.2)
/-- an array of ints made like another -/
def ck_cn (M : ck_M) (r : Nat) : ck_M := (M.1 + 1, M.2.1 + M.2.2.2.1 r, fun a => if a = M.1 + 2 then M.2.2.1 r else M.2.2.1 a, fun a => if a = M.1 + 2 then M.2.2.2.1 r else M.2.2.2.1 a, fun a j => if a = M.1 + 2 then M.2.2.2.2.1 r j else M.2.2.2.2.1 a j, fun a j => if a = M.1 + 2 then 0 else M.2.2.2.2.2 a j)
/-- n values off the stack, the deepest first -/
def ck_pop : Nat → List ck_V → List ck_V → Option (List ck_V × List ck_V)
  | 0, acc, st => some (acc, st)
  | _ + 1, _, [] => none
  | n + 1, acc, v :: st => ck_pop n (v :: acc) st
/-- is the place in the array -/
def ck_in (x : Int32) (n : Nat) : Prop := 0 ≤ x.toInt ∧ x.toInt < n
def ck_jt (pc : Nat) (off : Int) : Nat := ((pc : Int) + off).toNat
/-- a table switch -/
def ck_sw {ρ : Sort _} (br : Prop → ρ → ρ → ρ) (jp : Nat → ρ) (pc : Nat) (x : Int32) (dflt : Int) : Int → List Int → ρ
  | _, [] => jp (ck_jt pc dflt)
  | lo, o :: os => br (x = Int32.ofInt lo) (jp (ck_jt pc o)) (ck_sw br jp pc x dflt (lo + 1) os)
def ck_lk {ρ : Sort _} (br : Prop → ρ → ρ → ρ) (jp : Nat → ρ) (pc : Nat) (x : Int32) (dflt : Int) : List (Int × Int) → ρ
  | [] => jp (ck_jt pc dflt)
  | q :: os => br (x = Int32.ofInt q.1) (jp (ck_jt pc q.2)) (ck_lk br jp pc x dflt os)
def ck_cc (c : Jvm.ClassFile.Cond) (x y : Int32) : Prop := match c with
  | .eq => x = y
  | .ne => ¬ x = y
  | .lt => x < y
  | .ge => y ≤ x
  | .gt => y < x
  | .le => x ≤ y
/-- a local read, a local written -/
def ck_lg : ck_L → Nat → Option ck_V
  | [], _ => none
  | o :: _, 0 => o
  | _ :: t, n + 1 => ck_lg t n
def ck_ls : ck_L → Nat → ck_V → ck_L
  | [], _, _ => []
  | _ :: t, 0, v => some v :: t
  | o :: t, n + 1, v => o :: ck_ls t n v
/-- ONE INSTRUCTION, told once for all uses: what must hold (req), a fork (br), the next instruction (nx), a jump (jp), a call (cl: which method, its arguments, the stack below), a return (rt); d: how many frames may still be opened -/
def ck_K {ρ : Sort _} (req : Prop → ρ → ρ) (br : Prop → ρ → ρ → ρ) (nx : ck_L → List ck_V → ck_M → ρ) (jp : Nat → ck_L → List ck_V → ck_M → ρ) (cl : Nat → List ck_V → List ck_V → ρ) (rt : Option ck_V → ρ) (bad : ρ) (xl : Nat) (xs : Nat → Int32) (d pc a b c : Nat) (i : Instr) (L : ck_L) (st : List ck_V) (M : ck_M) : ρ :=
  match i with
  | .iconst n => nx L (.inl (Int32.ofInt n) :: st) M
  | .bipush n => nx L (.inl (Int8.ofInt n).toInt32 :: st) M
  | .sipush n => nx L (.inl (Int16.ofInt n).toInt32 :: st) M
  | .ldc _ => nx L (.inl (Int32.ofNat a) :: st) M
  | .aconst_null => nx L (.inr 0 :: st) M
  | .iload _ => match ck_lg L a with | some (.inl x) => nx L (.inl x :: st) M | _ => bad
  | .iload_n _ => match ck_lg L a with | some (.inl x) => nx L (.inl x :: st) M | _ => bad
  | .aload _ => match ck_lg L a with | some (.inr x) => nx L (.inr x :: st) M | _ => bad
  | .aload_n _ => match ck_lg L a with | some (.inr x) => nx L (.inr x :: st) M | _ => bad
  | .istore _ => match st with | .inl x :: st => nx (ck_ls L a (.inl x)) st M | _ => bad
  | .istore_n _ => match st with | .inl x :: st => nx (ck_ls L a (.inl x)) st M | _ => bad
  | .astore _ => match st with | .inr x :: st => nx (ck_ls L a (.inr x)) st M | _ => bad
  | .astore_n _ => match st with | .inr x :: st => nx (ck_ls L a (.inr x)) st M | _ => bad
  | .iinc _ n => match ck_lg L a with | some (.inl x) => nx (ck_ls L a (.inl (x + Int32.ofInt n))) st M | _ => bad
  | .iadd => match st with | .inl y :: .inl x :: st => nx L (.inl (x + y) :: st) M | _ => bad
  | .isub => match st with | .inl y :: .inl x :: st => nx L (.inl (x - y) :: st) M | _ => bad
  | .imul => match st with | .inl y :: .inl x :: st => nx L (.inl (x * y) :: st) M | _ => bad
  | .iand => match st with | .inl y :: .inl x :: st => nx L (.inl (x &&& y) :: st) M | _ => bad
  | .ior => match st with | .inl y :: .inl x :: st => nx L (.inl (x ||| y) :: st) M | _ => bad
  | .ixor => match st with | .inl y :: .inl x :: st => nx L (.inl (x ^^^ y) :: st) M | _ => bad
  | .ishl => match st with | .inl y :: .inl x :: st => nx L (.inl (x <<< (y &&& 31)) :: st) M | _ => bad
  | .ishr => match st with | .inl y :: .inl x :: st => nx L (.inl (x >>> (y &&& 31)) :: st) M | _ => bad
  | .idiv => match st with | .inl y :: .inl x :: st => req (¬ y = 0) (nx L (.inl (x / y) :: st) M) | _ => bad
  | .irem => match st with | .inl y :: .inl x :: st => req (¬ y = 0) (nx L (.inl (x - x / y * y) :: st) M) | _ => bad
  | .ineg => match st with | .inl x :: st => nx L (.inl (-x) :: st) M | _ => bad
  | .dup => match st with | v :: st => nx L (v :: v :: st) M | _ => bad
  | .dup_x1 => match st with | v :: w :: st => nx L (v :: w :: v :: st) M | _ => bad
  | .dup_x2 => match st with | v :: w :: u :: st => nx L (v :: w :: u :: v :: st) M | _ => bad
  | .dup2 => match st with | v :: w :: st => nx L (v :: w :: v :: w :: st) M | _ => bad
  | .pop => match st with | _ :: st => nx L st M | _ => bad
  | .goto _ => jp a L st M
  | .ifCond q _ => match st with | .inl x :: st => br (ck_cc q x 0) (jp a L st M) (nx L st M) | _ => bad
  | .if_icmp q _ => match st with | .inl y :: .inl x :: st => br (ck_cc q x y) (jp a L st M) (nx L st M) | _ => bad
  | .if_acmp .eq _ => match st with | .inr y :: .inr x :: st => br (x = y) (jp a L st M) (nx L st M) | _ => bad
  | .if_acmp .ne _ => match st with | .inr y :: .inr x :: st => br (¬ x = y) (jp a L st M) (nx L st M) | _ => bad
  | .ifnull _ => match st with | .inr x :: st => br (x = 0) (jp a L st M) (nx L st M) | _ => bad
  | .ifnonnull _ => match st with | .inr x :: st => br (¬ x = 0) (jp a L st M) (nx L st M) | _ => bad
  | .tableswitch dflt lo _ offs => match st with | .inl x :: st => ck_sw br (fun t => jp t L st M) pc x dflt lo offs.toList | _ => bad
  | .lookupswitch dflt ps => match st with | .inl x :: st => ck_lk br (fun t => jp t L st M) pc x dflt ps.toList | _ => bad
  | .getfield _ => match st with | .inr r :: st => req (ck_kd M r = a) (nx L ((bif Nat.beq c 1 then .inr (ck_rv M r b) else .inl (ck_iv M r b)) :: st) M) | _ => bad
  | .putfield _ => match st with
    | .inr x :: .inr r :: st => (bif Nat.beq c 1 then req (ck_kd M r = a) (nx L st (ck_wr M r b x)) else bad)
    | .inl x :: .inr r :: st => (bif Nat.beq c 0 then req (ck_kd M r = a) (nx L st (ck_wi M r b x)) else bif Nat.beq c 2 then req (ck_kd M r = a) (req (x = 0 ∨ x = 1) (nx L st (ck_wi M r b x))) else bad)
    | _ => bad
  | .iaload => match st with
    | .inl x :: .inr r :: st => (bif Nat.beq a 1 then req (r = 1 ∧ ck_in x xl) (nx L (.inl (xs x.toNatClampNeg) :: st) M) else req (ck_kd M r = 3) (req (ck_in x (ck_ln M r)) (nx L (.inl (ck_iv M r x.toNatClampNeg) :: st) M)))
    | _ => bad
  | .iastore => match st with | .inl v :: .inl x :: .inr r :: st => req (ck_kd M r = 3) (req (ck_in x (ck_ln M r)) (nx L st (ck_wi M r x.toNatClampNeg v))) | _ => bad
  | .baload => match st with | .inl x :: .inr r :: st => req (ck_kd M r = 5) (req (ck_in x (ck_ln M r)) (nx L (.inl (ck_iv M r x.toNatClampNeg) :: st) M)) | _ => bad
  | .bastore => match st with | .inl v :: .inl x :: .inr r :: st => req (ck_kd M r = 5) (req (ck_in x (ck_ln M r)) (req (v = 0 ∨ v = 1) (nx L st (ck_wi M r x.toNatClampNeg v)))) | _ => bad
  | .aaload => match st with | .inl x :: .inr r :: st => req (ck_kd M r = a) (req (ck_in x (ck_ln M r)) (nx L (.inr (ck_rv M r x.toNatClampNeg) :: st) M)) | _ => bad
  | .aastore => match st with | .inr v :: .inl x :: .inr r :: st => req (ck_kd M r = a) (req (ck_in x (ck_ln M r)) (req (ck_kd M v = b) (nx L st (ck_wr M r x.toNatClampNeg v)))) | _ => bad
  | .arraylength => match st with | .inr r :: st => (bif Nat.beq a 1 then req (r = 1) (nx L (.inl (nI xl) :: st) M) else req (ck_kd M r = a) (nx L (.inl (nI (ck_ln M r)) :: st) M)) | _ => bad
  | .new _ => nx L (.inr (ck_sz M + 2) :: st) (ck_al M a b)
  | .newarray _ => match st with | .inl n :: st => req (¬ n < 0 ∧ n.toNatClampNeg ≤ 65536) (nx L (.inr (ck_sz M + 2) :: st) (ck_al M a n.toNatClampNeg)) | _ => bad
  | .anewarray _ => match st with | .inl n :: st => req (¬ n < 0 ∧ n.toNatClampNeg ≤ 65536) (nx L (.inr (ck_sz M + 2) :: st) (ck_al M a n.toNatClampNeg)) | _ => bad
  | .checkcast _ => match st with | .inr r :: st => req (ck_kd M r = a) (nx L (.inr r :: st) M) | _ => bad
  | .invokespecial _ => bif Nat.beq a 0 then (match st with | .inr r :: st => (bif Nat.ble st.length 8 then req (¬ r = 0 ∧ 1 ≤ d) (nx L st M) else bad) | _ => bad)
    else (match ck_pop (c + 1) [] st with | some (.inr r :: as, rest) => (bif Nat.ble rest.length 8 then req (ck_kd M r = a) (cl b (.inr r :: as) rest) else bad) | _ => bad)
  | .invokevirtual _ => bif Nat.beq a 0 then (match st with | .inr r :: st => (bif Nat.ble st.length 8 then req (ck_kd M r = 3 ∧ 1 ≤ d) (nx L (.inr (ck_sz M + 2) :: st) (ck_cn M r)) else bad) | _ => bad)
    else (match ck_pop (c + 1) [] st with | some (.inr r :: as, rest) => (bif Nat.ble rest.length 8 then req (ck_kd M r = a) (cl b (.inr r :: as) rest) else bad) | _ => bad)
  | .invokestatic _ => bif Nat.beq a 0 then (match st with
      | .inl n :: .inl dp :: .inr q :: .inl sp :: .inr r :: st => (bif Nat.ble st.length 8 then req (ck_kd M r = 3 ∧ ck_kd M q = 3 ∧ 1 ≤ d) (req (¬ sp < 0 ∧ ¬ dp < 0 ∧ ¬ n < 0 ∧ sp.toNatClampNeg + n.toNatClampNeg ≤ ck_ln M r ∧ dp.toNatClampNeg + n.toNatClampNeg ≤ ck_ln M q) (nx L st (ck_cp M r sp.toNatClampNeg q dp.toNatClampNeg n.toNatClampNeg))) else bad)
      | _ => bad)
    else (match ck_pop c [] st with | some (as, rest) => (bif Nat.ble rest.length 8 then cl b as rest else bad) | _ => bad)
  | .ireturn => match st with | [.inl x] => (bif Nat.beq a 1 then req (x = 0 ∨ x = 1) (rt (some (.inl x))) else rt (some (.inl x))) | _ => bad
  | .areturn => match st with | [.inr r] => rt (some (.inr r)) | _ => bad
  | .return_ => match st with | [] => rt none | _ => bad
  | _ => bad
end
section
/-! the whole run of a method in the small machine, with fuel; the judgement 'it ends so' (ck_Ev), and the words for one straight piece of code (ck_wp) -/
def ck_seek (pc : Nat) : List ck_E → List ck_E
  | [] => []
  | e :: es => bif Nat.beq e.1 pc then e :: es else ck_seek pc es
def ck_ent (n : Nat) (as : List ck_V) : ck_L := as.map some ++ List.replicate (n - as.length) none
section CKX
variable {P : Nat → Nat × List ck_E} {xl : Nat} {xs : Nat → Int32}
noncomputable def ck_oreq {α : Type} (p : Prop) (x : Option α) : Option α := @ite _ p (Classical.propDecidable p) x none
noncomputable def ck_obr {α : Type} (p : Prop) (x y : Option α) : Option α := @ite _ p (Classical.propDecidable p) x y
noncomputable def ck_x (P : Nat → Nat × List ck_E) (xl : Nat) (xs : Nat → Int32) : Nat → Nat → Nat → Nat → ck_L → List ck_V → ck_M → Option (Option ck_V × ck_M)
  | 0, _, _, _, _, _, _ => none
  | n + 1, d, y, pc, L, st, M => match ck_seek pc (P y).2 with
    | [] => none
    | (_, i, len, a, b, c) :: _ => ck_K ck_oreq ck_obr (fun L' st' M' => ck_x P xl xs n d y (pc + len) L' st' M') (fun t L' st' M' => ck_x P xl xs n d y t L' st' M')
        (fun y' as rest => match d with
          | 0 => none
          | d' + 1 => bif Nat.ble as.length (P y').1 then (match ck_x P xl xs n d' y' 0 (ck_ent (P y').1 as) [] M with
            | none => none
            | some r => ck_x P xl xs n d y (pc + len) L (r.1.toList ++ rest) r.2) else none)
        (fun v => some (v, M)) none xl xs d pc a b c i L st M
/-- the words go over to another meaning -/
theorem ck_sw_hom {ρ ρ' : Sort _} {br : Prop → ρ → ρ → ρ} {br' : Prop → ρ' → ρ' → ρ'} (φ : ρ → ρ') (hb : ∀ p x y, φ (br p x y) = br' p (φ x) (φ y)) (jp : Nat → ρ) (pc : Nat) (x : Int32) (dflt : Int) : ∀ (os : List Int) (lo : Int), φ (ck_sw br jp pc x dflt lo os) = ck_sw br' (fun t => φ (jp t)) pc x dflt lo os := by
  intro os
  induction os with
  | nil => intro lo; rfl
  | cons o os ih => intro lo; simp only [ck_sw, hb, ih]
theorem ck_lk_hom {ρ ρ' : Sort _} {br : Prop → ρ → ρ → ρ} {br' : Prop → ρ' → ρ' → ρ'} (φ : ρ → ρ') (hb : ∀ p x y, φ (br p x y) = br' p (φ x) (φ y)) (jp : Nat → ρ) (pc : Nat) (x : Int32) (dflt : Int) : ∀ (os : List (Int × Int)), φ (ck_lk br jp pc x dflt os) = ck_lk br' (fun t => φ (jp t)) pc x dflt os := by
  intro os
  induction os with
  | nil => rfl
  | cons o os ih => simp only [ck_lk, hb, ih]
theorem ck_K_hom {ρ ρ' : Sort _} {req : Prop → ρ → ρ} {req' : Prop → ρ' → ρ'} {br : Prop → ρ → ρ → ρ} {br' : Prop → ρ' → ρ' → ρ'} (φ : ρ → ρ') (hq : ∀ p x, φ (req p x) = req' p (φ x)) (hb : ∀ p x y, φ (br p x y) = br' p (φ x) (φ y)) (nx : ck_L → List ck_V → ck_M → ρ) (jp : Nat → ck_L → List ck_V → ck_M → ρ) (cl : Nat → List ck_V → List ck_V → ρ) (rt : Option ck_V → ρ) (bad : ρ) (d pc a b c : Nat) (i : Instr) (L : ck_L) (st : List ck_V) (M : ck_M) :
    φ (ck_K req br nx jp cl rt bad xl xs d pc a b c i L st M) = ck_K req' br' (fun L st M => φ (nx L st M)) (fun t L st M => φ (jp t L st M)) (fun y as r => φ (cl y as r)) (fun v => φ (rt v)) (φ bad) xl xs d pc a b c i L st M := by
  have hc : ∀ (z : Bool) (x y : ρ), φ (bif z then x else y) = bif z then φ x else φ y := fun z x y => by cases z <;> rfl
  unfold ck_K
  split <;> (first | rfl | exact ck_sw_hom φ hb _ _ _ _ _ _ | skip) <;> (repeat' split) <;> (first | rfl | exact ck_sw_hom φ hb _ _ _ _ _ _ | exact ck_lk_hom φ hb _ _ _ _ _ | (simp only [hc, hq, hb])) <;> (try (repeat' split) <;> (first | rfl | simp only [hc, hq, hb]))
end CKX
end
section
section CKE
variable {P : Nat → Nat × List ck_E} {xl : Nat} {xs : Nat → Int32}
def ck_pand (p q : Prop) : Prop := p ∧ q
def ck_pbr (p q r : Prop) : Prop := (p → q) ∧ (¬ p → r)
/-- from here the method ends, and Q holds of its answer and memory -/
def ck_Ev (P : Nat → Nat × List ck_E) (xl : Nat) (xs : Nat → Int32) (d y pc : Nat) (L : ck_L) (st : List ck_V) (M : ck_M) (Q : Option ck_V → ck_M → Prop) : Prop := ∃ n r, ck_x P xl xs n d y pc L st M = some r ∧ Q r.1 r.2
/-- a call's words -/
def ck_Cl (P : Nat → Nat × List ck_E) (xl : Nat) (xs : Nat → Int32) (d y' : Nat) (as : List ck_V) (M : ck_M) (Q : Option ck_V → ck_M → Prop) : Prop := match d with
  | 0 => False
  | d' + 1 => bif Nat.ble as.length (P y').1 then ck_Ev P xl xs d' y' 0 (ck_ent (P y').1 as) [] M Q else False
/-- a weaker end for each road -/
theorem ck_K_mono {nx nx' : ck_L → List ck_V → ck_M → Prop} {jp jp' : Nat → ck_L → List ck_V → ck_M → Prop} {cl cl' : Nat → List ck_V → List ck_V → Prop} {rt rt' : Option ck_V → Prop} {d pc a b c : Nat} {i : Instr} {L : ck_L} {st : List ck_V} {M : ck_M} (h1 : ∀ L st M, nx L st M → nx' L st M) (h2 : ∀ t L st M, jp t L st M → jp' t L st M) (h3 : ∀ y as r, cl y as r → cl' y as r) (h4 : ∀ v, rt v → rt' v)
    (h : ck_K ck_pand ck_pbr nx jp cl rt False xl xs d pc a b c i L st M) : ck_K ck_pand ck_pbr nx' jp' cl' rt' False xl xs d pc a b c i L st M := by
  have z := ck_K_hom (xl := xl) (xs := xs) (ρ := { z : Prop × Prop // z.1 → z.2 }) (ρ' := Prop) (req := fun p z => ⟨(p ∧ z.1.1, p ∧ z.1.2), fun h => ⟨h.1, z.2 h.2⟩⟩) (req' := ck_pand) (br := fun p x y => ⟨((p → x.1.1) ∧ (¬ p → y.1.1), (p → x.1.2) ∧ (¬ p → y.1.2)), fun h => ⟨fun q => x.2 (h.1 q), fun q => y.2 (h.2 q)⟩⟩) (br' := ck_pbr) (fun z => z.1.1) (fun _ _ => rfl) (fun _ _ _ => rfl)
    (fun L st M => ⟨(nx L st M, nx' L st M), h1 L st M⟩) (fun t L st M => ⟨(jp t L st M, jp' t L st M), h2 t L st M⟩) (fun y as r => ⟨(cl y as r, cl' y as r), h3 y as r⟩) (fun v => ⟨(rt v, rt' v), h4 v⟩) ⟨(False, False), id⟩ d pc a b c i L st M
  have z' := ck_K_hom (xl := xl) (xs := xs) (ρ := { z : Prop × Prop // z.1 → z.2 }) (ρ' := Prop) (req := fun p z => ⟨(p ∧ z.1.1, p ∧ z.1.2), fun h => ⟨h.1, z.2 h.2⟩⟩) (req' := ck_pand) (br := fun p x y => ⟨((p → x.1.1) ∧ (¬ p → y.1.1), (p → x.1.2) ∧ (¬ p → y.1.2)), fun h => ⟨fun q => x.2 (h.1 q), fun q => y.2 (h.2 q)⟩⟩) (br' := ck_pbr) (fun z => z.1.2) (fun _ _ => rfl) (fun _ _ _ => rfl)
    (fun L st M => ⟨(nx L st M, nx' L st M), h1 L st M⟩) (fun t L st M => ⟨(jp t L st M, jp' t L st M), h2 t L st M⟩) (fun y as r => ⟨(cl y as r, cl' y as r), h3 y as r⟩) (fun v => ⟨(rt v, rt' v), h4 v⟩) ⟨(False, False), id⟩ d pc a b c i L st M
  have h' := Eq.mpr z h
  exact Eq.mp z' ((Subtype.property (p := fun z : Prop × Prop => z.1 → z.2) _) h')
theorem ck_oreq_some {α : Type} (r : α) (p : Prop) (x : Option α) : (ck_oreq p x = some r) = ck_pand p (x = some r) := by
  unfold ck_oreq ck_pand
  by_cases h : p
  · rw [if_pos h]; exact propext ⟨fun q => ⟨h, q⟩, fun q => q.2⟩
  · rw [if_neg h]; exact propext ⟨fun q => (by cases q), fun q => absurd q.1 h⟩
theorem ck_obr_some {α : Type} (r : α) (p : Prop) (x y : Option α) : (ck_obr p x y = some r) = ck_pbr p (x = some r) (y = some r) := by
  unfold ck_obr ck_pbr
  by_cases h : p
  · rw [if_pos h]; exact propext ⟨fun q => ⟨fun _ => q, fun z => absurd h z⟩, fun q => q.1 h⟩
  · rw [if_neg h]; exact propext ⟨fun q => ⟨fun z => absurd z h, fun _ => q⟩, fun q => q.2 h⟩
/-- it answers so: the same in words -/
theorem ck_K_some {α : Type} (r : α) (nx : ck_L → List ck_V → ck_M → Option α) (jp : Nat → ck_L → List ck_V → ck_M → Option α) (cl : Nat → List ck_V → List ck_V → Option α) (rt : Option ck_V → Option α) (d pc a b c : Nat) (i : Instr) (L : ck_L) (st : List ck_V) (M : ck_M) :
    (ck_K ck_oreq ck_obr nx jp cl rt none xl xs d pc a b c i L st M = some r) = ck_K ck_pand ck_pbr (fun L st M => nx L st M = some r) (fun t L st M => jp t L st M = some r) (fun y as q => cl y as q = some r) (fun v => rt v = some r) False xl xs d pc a b c i L st M := by
  have z := ck_K_hom (xl := xl) (xs := xs) (req := ck_oreq) (req' := ck_pand) (br := ck_obr) (br' := ck_pbr) (fun o : Option α => o = some r) (ck_oreq_some r) (ck_obr_some r) nx jp cl rt none d pc a b c i L st M
  have hb : ((none : Option α) = some r) = False := by simp
  rw [hb] at z
  exact z
theorem ck_x_succ : ∀ (n d y pc : Nat) (L : ck_L) (st : List ck_V) (M : ck_M) (r : Option ck_V × ck_M), ck_x P xl xs n d y pc L st M = some r → ck_x P xl xs (n + 1) d y pc L st M = some r := by
  intro n
  induction n with
  | zero => intro d y pc L st M r h; rw [ck_x] at h; cases h
  | succ n ih =>
    intro d y pc L st M r h
    rw [ck_x] at h ⊢
    cases hs : ck_seek pc (P y).2 with
    | nil => rw [hs] at h; cases h
    | cons e es =>
      obtain ⟨pc', i, len, a, b, c⟩ := e
      rw [hs] at h
      dsimp only at h ⊢
      rw [ck_K_some] at h ⊢
      refine ck_K_mono (fun L st M q => ih _ _ _ _ _ _ _ q) (fun t L st M q => ih _ _ _ _ _ _ _ q) (fun y' as rest q => ?_) (fun v q => q) h
      cases d with
      | zero => cases q
      | succ d =>
        dsimp only at q ⊢
        cases hl : Nat.ble as.length (P y').1 with
        | false => rw [hl] at q; cases q
        | true =>
          rw [hl] at q
          simp only [cond_true] at q ⊢
          cases h1 : ck_x P xl xs n d y' 0 (ck_ent (P y').1 as) [] M with
          | none => rw [h1] at q; cases q
          | some r1 =>
            rw [h1] at q
            rw [ih _ _ _ _ _ _ _ h1]
            exact ih _ _ _ _ _ _ _ q
theorem ck_x_le {n k d y pc : Nat} {L : ck_L} {st : List ck_V} {M : ck_M} {r : Option ck_V × ck_M} (h : n ≤ k) (hx : ck_x P xl xs n d y pc L st M = some r) : ck_x P xl xs k d y pc L st M = some r := by
  induction h with
  | refl => exact hx
  | step _ ih => exact ck_x_succ _ _ _ _ _ _ _ _ ih
/-- one instruction -/
theorem ck_Ev_step {d y pc : Nat} {L : ck_L} {st : List ck_V} {M : ck_M} {Q : Option ck_V → ck_M → Prop} {i : Instr} {len a b c : Nat} {es : List ck_E} {pc' : Nat} (hs : ck_seek pc (P y).2 = (pc', i, len, a, b, c) :: es)
    : ck_K ck_pand ck_pbr (fun L st M => ck_Ev P xl xs d y (pc + len) L st M Q) (fun t L st M => ck_Ev P xl xs d y t L st M Q) (fun y' as rest => ck_Cl P xl xs d y' as M (fun v M1 => ck_Ev P xl xs d y (pc + len) L (v.toList ++ rest) M1 Q)) (fun v => Q v M) False xl xs d pc a b c i L st M → ck_Ev P xl xs d y pc L st M Q := by
  have hb : (∃ (n : Nat) (r : Option ck_V × ck_M), (none : Option (Option ck_V × ck_M)) = some r ∧ Q r.1 r.2) = False := by simp
  have e2 := ck_K_hom (xl := xl) (xs := xs) (ρ := Nat → Option (Option ck_V × ck_M)) (ρ' := Prop) (req := fun p f n => ck_oreq p (f n)) (req' := ck_pand) (br := fun p f g n => ck_obr p (f n) (g n)) (br' := ck_pbr) (fun f => ∃ (n : Nat) (r : Option ck_V × ck_M), f n = some r ∧ Q r.1 r.2)
    (fun p x => propext ⟨fun ⟨n, r, h, q⟩ => by rw [ck_oreq_some] at h; exact ⟨h.1, n, r, h.2, q⟩, fun ⟨hp, n, r, h, q⟩ => ⟨n, r, by rw [ck_oreq_some]; exact ⟨hp, h⟩, q⟩⟩)
    (fun p x y => propext ⟨fun ⟨n, r, h, q⟩ => by rw [ck_obr_some] at h; exact ⟨fun hp => ⟨n, r, h.1 hp, q⟩, fun hp => ⟨n, r, h.2 hp, q⟩⟩, fun h => by
      by_cases hp : p
      · obtain ⟨n, r, h1, q⟩ := h.1 hp
        exact ⟨n, r, by rw [ck_obr_some]; exact ⟨fun _ => h1, fun z => absurd hp z⟩, q⟩
      · obtain ⟨n, r, h1, q⟩ := h.2 hp
        exact ⟨n, r, by rw [ck_obr_some]; exact ⟨fun z => absurd z hp, fun _ => h1⟩, q⟩⟩)
    (fun L' st' M' n => ck_x P xl xs n d y (pc + len) L' st' M') (fun t L' st' M' n => ck_x P xl xs n d y t L' st' M')
    (fun y' as rest n => match (generalizing := false) d with
          | 0 => none
          | d' + 1 => bif Nat.ble as.length (P y').1 then (match ck_x P xl xs n d' y' 0 (ck_ent (P y').1 as) [] M with
            | none => none
            | some r => ck_x P xl xs n d y (pc + len) L (r.1.toList ++ rest) r.2) else none)
    (fun v _ => some (v, M)) (fun _ => none) d pc a b c i L st M
  have e3 := fun n : Nat => ck_K_hom (xl := xl) (xs := xs) (ρ := Nat → Option (Option ck_V × ck_M)) (ρ' := Option (Option ck_V × ck_M)) (req := fun p f n => ck_oreq p (f n)) (req' := ck_oreq) (br := fun p f g n => ck_obr p (f n) (g n)) (br' := ck_obr) (fun f => f n) (fun _ _ => rfl) (fun _ _ _ => rfl)
    (fun L' st' M' n => ck_x P xl xs n d y (pc + len) L' st' M') (fun t L' st' M' n => ck_x P xl xs n d y t L' st' M')
    (fun y' as rest n => match (generalizing := false) d with
          | 0 => none
          | d' + 1 => bif Nat.ble as.length (P y').1 then (match ck_x P xl xs n d' y' 0 (ck_ent (P y').1 as) [] M with
            | none => none
            | some r => ck_x P xl xs n d y (pc + len) L (r.1.toList ++ rest) r.2) else none)
    (fun v _ => some (v, M)) (fun _ => none) d pc a b c i L st M
  rw [hb] at e2
  intro h
  have h' := Eq.mpr e2 (ck_K_mono (fun _ _ _ q => q) (fun _ _ _ _ q => q) (fun y' as rest q => by
    cases d with
    | zero => exact absurd q id
    | succ d =>
      unfold ck_Cl at q
      dsimp only at q ⊢
      cases hl : Nat.ble as.length (P y').1 with
      | false => rw [hl] at q; exact absurd q id
      | true =>
        rw [hl] at q
        simp only [cond_true] at q ⊢
        obtain ⟨n1, r1, h1, n2, r2, h2, hQ⟩ := q
        refine ⟨max n1 n2, r2, ?_, hQ⟩
        rw [ck_x_le (Nat.le_max_left n1 n2) h1]
        exact ck_x_le (Nat.le_max_right n1 n2) h2) (fun v q => ⟨0, (v, M), rfl, q⟩) h)
  obtain ⟨n, r, hn, hQ⟩ := h'
  refine ⟨n + 1, r, ?_, hQ⟩
  rw [ck_x, hs]
  rw [← hn]
  dsimp only
  exact (e3 n).symm
/-- the words of the code from here to the next jump -/
def ck_wp (P : Nat → Nat × List ck_E) (xl : Nat) (xs : Nat → Int32) (d y : Nat) (Q : Option ck_V → ck_M → Prop) : List ck_E → ck_L → List ck_V → ck_M → Prop
  | [], _, _, _ => False
  | (pc, i, _, a, b, c) :: es, L, st, M => ck_K ck_pand ck_pbr (fun L st M => ck_wp P xl xs d y Q es L st M) (fun t L st M => ck_Ev P xl xs d y t L st M Q) (fun y' as rest => ck_Cl P xl xs d y' as M (fun v M1 => ck_wp P xl xs d y Q es L (v.toList ++ rest) M1)) (fun v => Q v M) False xl xs d pc a b c i L st M
/-- each instruction begins where the one ahead of it ends -/
def ck_row : Nat → List ck_E → Bool
  | _, [] => true
  | pc, e :: es => Nat.beq e.1 pc && Nat.blt 0 e.2.2.1 && ck_row (pc + e.2.2.1) es
theorem ck_seek_row : ∀ (es : List ck_E) (pc q : Nat), ck_row pc es = true → q < pc → ck_seek q es = [] := by
  intro es
  induction es with
  | nil => intros; rfl
  | cons e es ih =>
    intro pc q h hq
    simp only [ck_row, Bool.and_eq_true, Nat.beq_eq_true_eq, Nat.blt_eq] at h
    obtain ⟨⟨h1, h2⟩, h3⟩ := h
    have h1 := Nat.eq_of_beq_eq_true h1
    have hne : Nat.beq e.1 q = false := by
      cases hb : Nat.beq e.1 q
      · rfl
      · have := Nat.eq_of_beq_eq_true hb; omega
    simp only [ck_seek, hne, cond_false]
    exact ih _ _ h3 (by omega)
/-- behind an instruction of the code comes the rest of the code -/
theorem ck_seek_next : ∀ (es : List ck_E) (p0 pc : Nat) (e : ck_E) (ts : List ck_E), ck_row p0 es = true → ck_seek pc es = e :: ts → ts ≠ [] → e.1 = pc ∧ ck_seek (pc + e.2.2.1) es = ts := by
  intro es
  induction es with
  | nil => intro p0 pc e ts _ h; cases h
  | cons f fs ih =>
    intro p0 pc e ts hr h ht
    simp only [ck_row, Bool.and_eq_true, Nat.beq_eq_true_eq, Nat.blt_eq] at hr
    obtain ⟨⟨hr1, hr2⟩, hr3⟩ := hr
    have hr1 := Nat.eq_of_beq_eq_true hr1
    cases hb : Nat.beq f.1 pc with
    | true =>
      have hp := Nat.eq_of_beq_eq_true hb
      simp only [ck_seek, hb, cond_true] at h
      cases h
      refine ⟨hp, ?_⟩
      have hne : Nat.beq f.1 (pc + f.2.2.1) = false := by
        cases hc : Nat.beq f.1 (pc + f.2.2.1)
        · rfl
        · have := Nat.eq_of_beq_eq_true hc; omega
      simp only [ck_seek, hne, cond_false]
      cases fs with
      | nil => exact absurd rfl ht
      | cons g gs =>
        simp only [ck_row, Bool.and_eq_true, Nat.beq_eq_true_eq] at hr3
        have hr4 := Nat.eq_of_beq_eq_true hr3.1.1
        have hg : Nat.beq g.1 (pc + f.2.2.1) = true := by
          rw [Nat.beq_eq]; omega
        simp only [ck_seek, hg, cond_true]
    | false =>
      simp only [ck_seek, hb, cond_false] at h
      obtain ⟨h1, h2⟩ := ih _ _ _ _ hr3 h ht
      refine ⟨h1, ?_⟩
      have hlt : ¬ pc < p0 + f.2.2.1 := fun q => by
        rw [ck_seek_row _ _ _ hr3 q] at h; cases h
      have hne : Nat.beq f.1 (pc + e.2.2.1) = false := by
        cases hc : Nat.beq f.1 (pc + e.2.2.1)
        · rfl
        · have := Nat.eq_of_beq_eq_true hc; omega
      simp only [ck_seek, hne, cond_false]
      exact h2
theorem ck_seek_last : ∀ (es : List ck_E) (p0 pc : Nat) (e : ck_E), ck_row p0 es = true → ck_seek pc es = [e] → ck_seek (pc + e.2.2.1) es = [] := by
  intro es
  induction es with
  | nil => intro p0 pc e _ h; cases h
  | cons f fs ih =>
    intro p0 pc e hr h
    simp only [ck_row, Bool.and_eq_true, Nat.beq_eq_true_eq, Nat.blt_eq] at hr
    obtain ⟨⟨hr1, hr2⟩, hr3⟩ := hr
    have hr1 := Nat.eq_of_beq_eq_true hr1
    cases hb : Nat.beq f.1 pc with
    | true =>
      have hp := Nat.eq_of_beq_eq_true hb
      simp only [ck_seek, hb, cond_true] at h
      cases h
      have hne : Nat.beq f.1 (pc + f.2.2.1) = false := by
        cases hc : Nat.beq f.1 (pc + f.2.2.1)
        · rfl
        · have := Nat.eq_of_beq_eq_true hc; omega
      simp only [ck_seek, hne, cond_false]
    | false =>
      simp only [ck_seek, hb, cond_false] at h
      have h2 := ih _ _ _ hr3 h
      have hlt : ¬ pc < p0 + f.2.2.1 := fun q => by
        rw [ck_seek_row _ _ _ hr3 q] at h; cases h
      have hne : Nat.beq f.1 (pc + e.2.2.1) = false := by
        cases hc : Nat.beq f.1 (pc + e.2.2.1)
        · rfl
        · have := Nat.eq_of_beq_eq_true hc; omega
      simp only [ck_seek, hne, cond_false]
      exact h2
theorem ck_seek_at : ∀ {es : List ck_E} {pc : Nat} {e : ck_E} {ts : List ck_E}, ck_seek pc es = e :: ts → e.1 = pc := by
  intro es
  induction es with
  | nil => intro pc e ts h; cases h
  | cons f fs ih =>
    intro pc e ts h
    cases hb : Nat.beq f.1 pc with
    | true => simp only [ck_seek, hb, cond_true] at h; cases h; exact Nat.eq_of_beq_eq_true hb
    | false => simp only [ck_seek, hb, cond_false] at h; exact ih h
theorem ck_Ev_mono {d y pc : Nat} {L : ck_L} {st : List ck_V} {M : ck_M} {Q Q' : Option ck_V → ck_M → Prop} (hq : ∀ v M1, Q v M1 → Q' v M1) (h : ck_Ev P xl xs d y pc L st M Q) : ck_Ev P xl xs d y pc L st M Q' := by
  obtain ⟨n, r, h1, h2⟩ := h
  exact ⟨n, r, h1, hq _ _ h2⟩
theorem ck_Cl_mono {d y' : Nat} {as : List ck_V} {M : ck_M} {Q Q' : Option ck_V → ck_M → Prop} (hq : ∀ v M1, Q v M1 → Q' v M1) (h : ck_Cl P xl xs d y' as M Q) : ck_Cl P xl xs d y' as M Q' := by
  unfold ck_Cl at h ⊢
  cases d with
  | zero => exact h
  | succ d =>
    dsimp only at h ⊢
    cases hl : Nat.ble as.length (P y').1 with
    | false => rw [hl] at h; exact absurd h id
    | true => rw [hl] at h; simp only [cond_true] at h ⊢; exact ck_Ev_mono hq h
theorem ck_wp_ev {d y : Nat} {Q : Option ck_V → ck_M → Prop} (hr : ck_row 0 (P y).2 = true) : ∀ (es : List ck_E) (pc : Nat) (L : ck_L) (st : List ck_V) (M : ck_M), ck_seek pc (P y).2 = es → ck_wp P xl xs d y Q es L st M → ck_Ev P xl xs d y pc L st M Q := by
  intro es
  induction es with
  | nil => intro pc L st M _ h; exact absurd h id
  | cons e es ih =>
    intro pc L st M hs h
    obtain ⟨pc', i, len, a, b, c⟩ := e
    by_cases ht : es = []
    · subst ht
      have hp : pc' = pc := ck_seek_at hs
      subst hp
      exact ck_Ev_step hs (ck_K_mono (fun _ _ _ q => absurd q id) (fun _ _ _ _ q => q) (fun y' as rest q => ck_Cl_mono (fun v M1 z => absurd z id) q) (fun _ q => q) h)
    · obtain ⟨hp, hn⟩ := ck_seek_next _ _ _ _ _ hr hs ht
      dsimp only at hp hn
      subst hp
      exact ck_Ev_step hs (ck_K_mono (fun L st M q => ih _ _ _ _ hn q) (fun _ _ _ _ q => q) (fun y' as rest q => ck_Cl_mono (fun v M1 z => ih _ _ _ _ hn z) q) (fun _ q => q) h)
theorem ck_Ev_un {d y pc : Nat} {L : ck_L} {st : List ck_V} {M : ck_M} {Q : Option ck_V → ck_M → Prop} {i : Instr} {len a b c : Nat} {es : List ck_E} {pc' : Nat} (hs : ck_seek pc (P y).2 = (pc', i, len, a, b, c) :: es) (h : ck_Ev P xl xs d y pc L st M Q) :
    ck_K ck_pand ck_pbr (fun L st M => ck_Ev P xl xs d y (pc + len) L st M Q) (fun t L st M => ck_Ev P xl xs d y t L st M Q) (fun y' as rest => ck_Cl P xl xs d y' as M (fun v M1 => ck_Ev P xl xs d y (pc + len) L (v.toList ++ rest) M1 Q)) (fun v => Q v M) False xl xs d pc a b c i L st M := by
  obtain ⟨n, r, hx, hQ⟩ := h
  cases n with
  | zero => rw [ck_x] at hx; cases hx
  | succ n =>
    rw [ck_x, hs] at hx
    dsimp only at hx
    rw [ck_K_some] at hx
    refine ck_K_mono (fun L st M q => ⟨n, r, q, hQ⟩) (fun t L st M q => ⟨n, r, q, hQ⟩) (fun y' as rest q => ?_) (fun v q => by cases q; exact hQ) hx
    cases d with
    | zero => cases q
    | succ d =>
      unfold ck_Cl
      dsimp only at q ⊢
      cases hl : Nat.ble as.length (P y').1 with
      | false => rw [hl] at q; cases q
      | true =>
        rw [hl] at q
        simp only [cond_true] at q ⊢
        cases h1 : ck_x P xl xs n d y' 0 (ck_ent (P y').1 as) [] M with
        | none => rw [h1] at q; cases q
        | some r1 => rw [h1] at q; exact ⟨n, r1, h1, n, r, q, hQ⟩
theorem ck_ev_wp {d y : Nat} {Q : Option ck_V → ck_M → Prop} (hr : ck_row 0 (P y).2 = true) : ∀ (es : List ck_E) (pc : Nat) (L : ck_L) (st : List ck_V) (M : ck_M), ck_seek pc (P y).2 = es → ck_Ev P xl xs d y pc L st M Q → ck_wp P xl xs d y Q es L st M := by
  intro es
  induction es with
  | nil =>
    intro pc L st M hs ⟨n, r, hx, hQ⟩
    cases n with
    | zero => rw [ck_x] at hx; cases hx
    | succ n => rw [ck_x, hs] at hx; cases hx
  | cons e es ih =>
    intro pc L st M hs h
    obtain ⟨pc', i, len, a, b, c⟩ := e
    have hp : pc' = pc := ck_seek_at hs
    subst hp
    have hn : ck_seek (pc' + len) (P y).2 = es := by
      by_cases ht : es = []
      · subst ht
        exact ck_seek_last _ _ _ _ hr hs
      · exact (ck_seek_next _ _ _ _ _ hr hs ht).2
    exact ck_K_mono (fun L st M q => ih _ _ _ _ hn q) (fun _ _ _ _ q => q) (fun y' as rest q => ck_Cl_mono (fun v M1 z => ih _ _ _ _ hn z) q) (fun _ q => q) (ck_Ev_un hs h)
/-- from a place of the code on: in one word -/
theorem ck_Ev_eq {d y pc : Nat} {Q : Option ck_V → ck_M → Prop} {es : List ck_E} (hs : ck_seek pc (P y).2 = es) (hr : ck_row 0 (P y).2 = true) (L : ck_L) (st : List ck_V) (M : ck_M) : ck_Ev P xl xs d y pc L st M Q = ck_wp P xl xs d y Q es L st M := propext ⟨ck_ev_wp hr _ _ _ _ _ hs, ck_wp_ev hr _ _ _ _ _ hs⟩
end CKE
end
