theorem ck_ag {own nm : String} {mL : Nat} {rt : Option FieldType} {bs : ByteArray} : ∀ {es : List ck_E}, (es.all (fun e => decide (decode bs e.1 = .ok (e.2.1, e.2.2.1)))) = true → ck_all own nm mL rt es → ∀ e ∈ es, decode bs e.1 = .ok (e.2.1, e.2.2.1) ∧ ck_G own nm mL rt e.1 e.2.2.1 e.2.2.2.1 e.2.2.2.2.1 e.2.2.2.2.2 e.2.1 := by
  intro es h1 h2 e he
  refine ⟨of_decide_eq_true (List.all_eq_true.mp h1 e he), ?_⟩
  clear h1
  induction es with
  | nil => cases he
  | cons f fs ih =>
    rcases List.mem_cons.mp he with rfl | he
    · exact h2.1
    · exact ih h2.2 he
theorem ck_allgood : ∀ (y : Nat) (e : ck_E), e ∈ (ck_P y).2 → decode (ck_by y) e.1 = .ok (e.2.1, e.2.2.1) ∧ ck_G (ck_mn y).cls (ck_mn y).name (ck_P y).1 (ck_rt y) e.1 e.2.2.1 e.2.2.2.1 e.2.2.2.2.1 e.2.2.2.2.2 e.2.1
  | 0 => ck_ag dk_K_init g_K_init_0
  | 1 => ck_ag dk_K_firstChain g_K_firstChain_0
  | 2 => ck_ag dk_K_write g_K_write_0
  | 3 => ck_ag dk_K_mayAsk g_K_mayAsk_0
  | 4 => ck_ag dk_K_isClient g_K_isClient_0
  | 5 => ck_ag dk_K_isKey g_K_isKey_0
  | 6 => ck_ag dk_K_sendRequest g_K_sendRequest_0
  | 7 => ck_ag dk_K_read g_K_read_0
  | 8 => ck_ag dk_K_isNode g_K_isNode_0
  | 9 => ck_ag dk_K_deliver g_K_deliver_0
  | 10 => ck_ag dk_K_drop g_K_drop_0
  | 11 => ck_ag dk_K_duplicate g_K_duplicate_0
  | 12 => ck_ag dk_K_tick g_K_tick_0
  | 13 => ck_ag dk_K_passOneTick g_K_passOneTick_0
  | 14 => ck_ag dk_K_retryTarget g_K_retryTarget_0
  | 15 => ck_ag dk_K_crash g_K_crash_0
  | 16 => ck_ag dk_K_detect g_K_detect_0
  | 17 => ck_ag dk_K_hasRoomForConfigs g_K_hasRoomForConfigs_0
  | 18 => ck_ag dk_K_sendConfigs g_K_sendConfigs_0
  | 19 => ck_ag dk_K_join g_K_join_0
  | 20 => ck_ag dk_K_messages g_K_messages_0
  | 21 => ck_ag dk_K_message g_K_message_0
  | 22 => ck_ag dk_K_chain g_K_chain_0
  | 23 => ck_ag dk_K_node g_K_node_0
  | 24 => ck_ag dk_K_clean g_K_clean_0
  | 25 => ck_ag dk_K_value g_K_value_0
  | 26 => ck_ag dk_K_client g_K_client_0
  | 27 => ck_ag dk_W_init g_W_init_0
  | 28 => ck_ag dk_W_draft g_W_draft_0
  | 29 => ck_ag dk_W_sendDraft g_W_sendDraft_0
  | 30 => ck_ag dk_W_has g_W_has_0
  | 31 => ck_ag dk_W_takeOut g_W_takeOut_0
  | 32 => ck_ag dk_W_at g_W_at_0
  | 33 => ck_ag dk_W_sendAgain g_W_sendAgain_0
  | 34 => ck_ag dk_G_init g_G_init_0
  | 35 => ck_ag dk_G_becomeLike g_G_becomeLike_0
  | 36 => ck_ag dk_G_shownNumber g_G_shownNumber_0
  | 37 => ck_ag dk_H_init g_H_init_0
  | 38 => ck_ag dk_H_before g_H_before_0
  | 39 => ck_ag dk_H_placeOf g_H_placeOf_0
  | 40 => ck_ag dk_H_at g_H_at_0
  | 41 => ck_ag dk_H_after g_H_after_0
  | 42 => ck_ag dk_H_tail g_H_tail_0
  | 43 => ck_ag dk_H_head g_H_head_0
  | 44 => ck_ag dk_H_has g_H_has_0
  | 45 => ck_ag dk_H_without g_H_without_0
  | 46 => ck_ag dk_H_size g_H_size_0
  | 47 => ck_ag dk_H_with g_H_with_0
  | 48 => ck_ag dk_N_init g_N_init_0
  | 49 => ck_ag dk_N_learn g_N_learn_0
  | 50 => ck_ag dk_N_take g_N_take_0
  | 51 => ck_ag dk_N_accepts g_N_accepts_0
  | 52 => ck_ag dk_N_takeWrite g_N_takeWrite_0
  | 53 => ck_ag dk_N_sendReply g_N_sendReply_0
  | 54 => ck_ag dk_N_hasRoom g_N_hasRoom_0
  | 55 => ck_ag dk_N_pendingCount g_N_pendingCount_0
  | 56 => ck_ag dk_N_apply g_N_apply_0
  | 57 => ck_ag dk_N_slot g_N_slot_0
  | 58 => ck_ag dk_N_commit g_N_commit_0
  | 59 => ck_ag dk_N_sendAck g_N_sendAck_0
  | 60 => ck_ag dk_N_sendUpdate g_N_sendUpdate_0
  | 61 => ck_ag dk_N_takeRead g_N_takeRead_0
  | 62 => ck_ag dk_N_newestPending g_N_newestPending_0
  | 63 => ck_ag dk_N_takeUpdate g_N_takeUpdate_0
  | 64 => ck_ag dk_N_takeAck g_N_takeAck_0
  | 65 => ck_ag dk_N_takeQuery g_N_takeQuery_0
  | 66 => ck_ag dk_N_takeAnswer g_N_takeAnswer_0
  | 67 => ck_ag dk_N_isPendingOf g_N_isPendingOf_0
  | 68 => ck_ag dk_N_takeConfig g_N_takeConfig_0
  | 69 => ck_ag dk_N_handOver g_N_handOver_0
  | 70 => ck_ag dk_N_sendCopy g_N_sendCopy_0
  | 71 => ck_ag dk_N_sendPending g_N_sendPending_0
  | 72 => ck_ag dk_N_takeCopy g_N_takeCopy_0
  | 73 => ck_ag dk_N_becomeReady g_N_becomeReady_0
  | 74 => ck_ag dk_N_sendAllAgain g_N_sendAllAgain_0
  | 75 => ck_ag dk_C_init g_C_init_0
  | 76 => ck_ag dk_C_openWrite g_C_openWrite_0
  | 77 => ck_ag dk_C_open g_C_open_0
  | 78 => ck_ag dk_C_openRead g_C_openRead_0
  | 79 => ck_ag dk_C_takeReply g_C_takeReply_0
  | 80 => ck_ag dk_M_init g_M_init_0
  | 81 => ck_ag dk_M_learn g_M_learn_0
  | 82 => ck_ag dk_M_write g_M_write_0
  | 83 => ck_ag dk_M_in g_M_in_0
  | 84 => ck_ag dk_M_ask g_M_ask_0
  | 85 => ck_ag dk_M_send g_M_send_0
  | 86 => ck_ag dk_M_read g_M_read_0
  | 87 => ck_ag dk_M_deliver g_M_deliver_0
  | 88 => ck_ag dk_M_isMessage g_M_isMessage_0
  | 89 => ck_ag dk_M_take g_M_take_0
  | 90 => ck_ag dk_M_takeReply g_M_takeReply_0
  | 91 => ck_ag dk_M_takeAt g_M_takeAt_0
  | 92 => ck_ag dk_M_takeWrite g_M_takeWrite_0
  | 93 => ck_ag dk_M_placeOf g_M_placeOf_0
  | 94 => ck_ag dk_M_reply g_M_reply_0
  | 95 => ck_ag dk_M_pending g_M_pending_0
  | 96 => ck_ag dk_M_apply g_M_apply_0
  | 97 => ck_ag dk_M_isTail g_M_isTail_0
  | 98 => ck_ag dk_M_behind g_M_behind_0
  | 99 => ck_ag dk_M_commit g_M_commit_0
  | 100 => ck_ag dk_M_sendAck g_M_sendAck_0
  | 101 => ck_ag dk_M_before g_M_before_0
  | 102 => ck_ag dk_M_sendFrom g_M_sendFrom_0
  | 103 => ck_ag dk_M_sendUpdate g_M_sendUpdate_0
  | 104 => ck_ag dk_M_takeRead g_M_takeRead_0
  | 105 => ck_ag dk_M_isDirty g_M_isDirty_0
  | 106 => ck_ag dk_M_takeConfig g_M_takeConfig_0
  | 107 => ck_ag dk_M_handOver g_M_handOver_0
  | 108 => ck_ag dk_M_sendCopy g_M_sendCopy_0
  | 109 => ck_ag dk_M_sendPending g_M_sendPending_0
  | 110 => ck_ag dk_M_takeUpdate g_M_takeUpdate_0
  | 111 => ck_ag dk_M_takeAck g_M_takeAck_0
  | 112 => ck_ag dk_M_takeQuery g_M_takeQuery_0
  | 113 => ck_ag dk_M_takeAnswer g_M_takeAnswer_0
  | 114 => ck_ag dk_M_takeCopy g_M_takeCopy_0
  | 115 => ck_ag dk_M_drop g_M_drop_0
  | 116 => ck_ag dk_M_duplicate g_M_duplicate_0
  | 117 => ck_ag dk_M_tick g_M_tick_0
  | 118 => ck_ag dk_M_oneTick g_M_oneTick_0
  | 119 => ck_ag dk_M_crash g_M_crash_0
  | 120 => ck_ag dk_M_detect g_M_detect_0
  | 121 => ck_ag dk_M_member g_M_member_0
  | 122 => ck_ag dk_M_configure g_M_configure_0
  | 123 => ck_ag dk_M_join g_M_join_0
  | 124 => ck_ag dk_M_messages g_M_messages_0
  | 125 => ck_ag dk_M_message g_M_message_0
  | 126 => ck_ag dk_M_chain g_M_chain_0
  | 127 => ck_ag dk_M_node g_M_node_0
  | 128 => ck_ag dk_M_clean g_M_clean_0
  | 129 => ck_ag dk_M_value g_M_value_0
  | 130 => ck_ag dk_M_client g_M_client_0
  | 131 => ck_ag dk_L_cell g_L_cell_0
  | 132 => ck_ag dk_L_law g_L_law_0
  | _ + 133 => fun _ h => absurd h List.not_mem_nil
theorem ck_plain : ∀ y : Nat, plainName (ck_mn y).cls = true
  | 0 => by decide +kernel
  | 1 => by decide +kernel
  | 2 => by decide +kernel
  | 3 => by decide +kernel
  | 4 => by decide +kernel
  | 5 => by decide +kernel
  | 6 => by decide +kernel
  | 7 => by decide +kernel
  | 8 => by decide +kernel
  | 9 => by decide +kernel
  | 10 => by decide +kernel
  | 11 => by decide +kernel
  | 12 => by decide +kernel
  | 13 => by decide +kernel
  | 14 => by decide +kernel
  | 15 => by decide +kernel
  | 16 => by decide +kernel
  | 17 => by decide +kernel
  | 18 => by decide +kernel
  | 19 => by decide +kernel
  | 20 => by decide +kernel
  | 21 => by decide +kernel
  | 22 => by decide +kernel
  | 23 => by decide +kernel
  | 24 => by decide +kernel
  | 25 => by decide +kernel
  | 26 => by decide +kernel
  | 27 => by decide +kernel
  | 28 => by decide +kernel
  | 29 => by decide +kernel
  | 30 => by decide +kernel
  | 31 => by decide +kernel
  | 32 => by decide +kernel
  | 33 => by decide +kernel
  | 34 => by decide +kernel
  | 35 => by decide +kernel
  | 36 => by decide +kernel
  | 37 => by decide +kernel
  | 38 => by decide +kernel
  | 39 => by decide +kernel
  | 40 => by decide +kernel
  | 41 => by decide +kernel
  | 42 => by decide +kernel
  | 43 => by decide +kernel
  | 44 => by decide +kernel
  | 45 => by decide +kernel
  | 46 => by decide +kernel
  | 47 => by decide +kernel
  | 48 => by decide +kernel
  | 49 => by decide +kernel
  | 50 => by decide +kernel
  | 51 => by decide +kernel
  | 52 => by decide +kernel
  | 53 => by decide +kernel
  | 54 => by decide +kernel
  | 55 => by decide +kernel
  | 56 => by decide +kernel
  | 57 => by decide +kernel
  | 58 => by decide +kernel
  | 59 => by decide +kernel
  | 60 => by decide +kernel
  | 61 => by decide +kernel
  | 62 => by decide +kernel
  | 63 => by decide +kernel
  | 64 => by decide +kernel
  | 65 => by decide +kernel
  | 66 => by decide +kernel
  | 67 => by decide +kernel
  | 68 => by decide +kernel
  | 69 => by decide +kernel
  | 70 => by decide +kernel
  | 71 => by decide +kernel
  | 72 => by decide +kernel
  | 73 => by decide +kernel
  | 74 => by decide +kernel
  | 75 => by decide +kernel
  | 76 => by decide +kernel
  | 77 => by decide +kernel
  | 78 => by decide +kernel
  | 79 => by decide +kernel
  | 80 => by decide +kernel
  | 81 => by decide +kernel
  | 82 => by decide +kernel
  | 83 => by decide +kernel
  | 84 => by decide +kernel
  | 85 => by decide +kernel
  | 86 => by decide +kernel
  | 87 => by decide +kernel
  | 88 => by decide +kernel
  | 89 => by decide +kernel
  | 90 => by decide +kernel
  | 91 => by decide +kernel
  | 92 => by decide +kernel
  | 93 => by decide +kernel
  | 94 => by decide +kernel
  | 95 => by decide +kernel
  | 96 => by decide +kernel
  | 97 => by decide +kernel
  | 98 => by decide +kernel
  | 99 => by decide +kernel
  | 100 => by decide +kernel
  | 101 => by decide +kernel
  | 102 => by decide +kernel
  | 103 => by decide +kernel
  | 104 => by decide +kernel
  | 105 => by decide +kernel
  | 106 => by decide +kernel
  | 107 => by decide +kernel
  | 108 => by decide +kernel
  | 109 => by decide +kernel
  | 110 => by decide +kernel
  | 111 => by decide +kernel
  | 112 => by decide +kernel
  | 113 => by decide +kernel
  | 114 => by decide +kernel
  | 115 => by decide +kernel
  | 116 => by decide +kernel
  | 117 => by decide +kernel
  | 118 => by decide +kernel
  | 119 => by decide +kernel
  | 120 => by decide +kernel
  | 121 => by decide +kernel
  | 122 => by decide +kernel
  | 123 => by decide +kernel
  | 124 => by decide +kernel
  | 125 => by decide +kernel
  | 126 => by decide +kernel
  | 127 => by decide +kernel
  | 128 => by decide +kernel
  | 129 => by decide +kernel
  | 130 => by decide +kernel
  | 131 => by decide +kernel
  | 132 => by decide +kernel
  | _ + 133 => (by decide +kernel : plainName "ChainKeeper" = true)
theorem r_K_init : ck_row 0 (ck_P 0).2 = true := by decide +kernel
theorem r_K_firstChain : ck_row 0 (ck_P 1).2 = true := by decide +kernel
theorem r_K_write : ck_row 0 (ck_P 2).2 = true := by decide +kernel
theorem r_K_mayAsk : ck_row 0 (ck_P 3).2 = true := by decide +kernel
theorem r_K_isClient : ck_row 0 (ck_P 4).2 = true := by decide +kernel
theorem r_K_isKey : ck_row 0 (ck_P 5).2 = true := by decide +kernel
theorem r_K_sendRequest : ck_row 0 (ck_P 6).2 = true := by decide +kernel
theorem r_K_read : ck_row 0 (ck_P 7).2 = true := by decide +kernel
theorem r_K_isNode : ck_row 0 (ck_P 8).2 = true := by decide +kernel
theorem r_K_deliver : ck_row 0 (ck_P 9).2 = true := by decide +kernel
theorem r_K_drop : ck_row 0 (ck_P 10).2 = true := by decide +kernel
theorem r_K_duplicate : ck_row 0 (ck_P 11).2 = true := by decide +kernel
theorem r_K_tick : ck_row 0 (ck_P 12).2 = true := by decide +kernel
theorem r_K_passOneTick : ck_row 0 (ck_P 13).2 = true := by decide +kernel
theorem r_K_retryTarget : ck_row 0 (ck_P 14).2 = true := by decide +kernel
theorem r_K_crash : ck_row 0 (ck_P 15).2 = true := by decide +kernel
theorem r_K_detect : ck_row 0 (ck_P 16).2 = true := by decide +kernel
theorem r_K_hasRoomForConfigs : ck_row 0 (ck_P 17).2 = true := by decide +kernel
theorem r_K_sendConfigs : ck_row 0 (ck_P 18).2 = true := by decide +kernel
theorem r_K_join : ck_row 0 (ck_P 19).2 = true := by decide +kernel
theorem r_K_messages : ck_row 0 (ck_P 20).2 = true := by decide +kernel
theorem r_K_message : ck_row 0 (ck_P 21).2 = true := by decide +kernel
theorem r_K_chain : ck_row 0 (ck_P 22).2 = true := by decide +kernel
theorem r_K_node : ck_row 0 (ck_P 23).2 = true := by decide +kernel
theorem r_K_clean : ck_row 0 (ck_P 24).2 = true := by decide +kernel
theorem r_K_value : ck_row 0 (ck_P 25).2 = true := by decide +kernel
theorem r_K_client : ck_row 0 (ck_P 26).2 = true := by decide +kernel
theorem r_W_init : ck_row 0 (ck_P 27).2 = true := by decide +kernel
theorem r_W_draft : ck_row 0 (ck_P 28).2 = true := by decide +kernel
theorem r_W_sendDraft : ck_row 0 (ck_P 29).2 = true := by decide +kernel
theorem r_W_has : ck_row 0 (ck_P 30).2 = true := by decide +kernel
theorem r_W_takeOut : ck_row 0 (ck_P 31).2 = true := by decide +kernel
theorem r_W_at : ck_row 0 (ck_P 32).2 = true := by decide +kernel
theorem r_W_sendAgain : ck_row 0 (ck_P 33).2 = true := by decide +kernel
theorem r_G_init : ck_row 0 (ck_P 34).2 = true := by decide +kernel
theorem r_G_becomeLike : ck_row 0 (ck_P 35).2 = true := by decide +kernel
theorem r_G_shownNumber : ck_row 0 (ck_P 36).2 = true := by decide +kernel
theorem r_H_init : ck_row 0 (ck_P 37).2 = true := by decide +kernel
theorem r_H_before : ck_row 0 (ck_P 38).2 = true := by decide +kernel
theorem r_H_placeOf : ck_row 0 (ck_P 39).2 = true := by decide +kernel
theorem r_H_at : ck_row 0 (ck_P 40).2 = true := by decide +kernel
theorem r_H_after : ck_row 0 (ck_P 41).2 = true := by decide +kernel
theorem r_H_tail : ck_row 0 (ck_P 42).2 = true := by decide +kernel
theorem r_H_head : ck_row 0 (ck_P 43).2 = true := by decide +kernel
theorem r_H_has : ck_row 0 (ck_P 44).2 = true := by decide +kernel
theorem r_H_without : ck_row 0 (ck_P 45).2 = true := by decide +kernel
theorem r_H_size : ck_row 0 (ck_P 46).2 = true := by decide +kernel
theorem r_H_with : ck_row 0 (ck_P 47).2 = true := by decide +kernel
theorem r_N_init : ck_row 0 (ck_P 48).2 = true := by decide +kernel
theorem r_N_learn : ck_row 0 (ck_P 49).2 = true := by decide +kernel
theorem r_N_take : ck_row 0 (ck_P 50).2 = true := by decide +kernel
theorem r_N_accepts : ck_row 0 (ck_P 51).2 = true := by decide +kernel
theorem r_N_takeWrite : ck_row 0 (ck_P 52).2 = true := by decide +kernel
theorem r_N_sendReply : ck_row 0 (ck_P 53).2 = true := by decide +kernel
theorem r_N_hasRoom : ck_row 0 (ck_P 54).2 = true := by decide +kernel
theorem r_N_pendingCount : ck_row 0 (ck_P 55).2 = true := by decide +kernel
theorem r_N_apply : ck_row 0 (ck_P 56).2 = true := by decide +kernel
theorem r_N_slot : ck_row 0 (ck_P 57).2 = true := by decide +kernel
theorem r_N_commit : ck_row 0 (ck_P 58).2 = true := by decide +kernel
theorem r_N_sendAck : ck_row 0 (ck_P 59).2 = true := by decide +kernel
theorem r_N_sendUpdate : ck_row 0 (ck_P 60).2 = true := by decide +kernel
theorem r_N_takeRead : ck_row 0 (ck_P 61).2 = true := by decide +kernel
theorem r_N_newestPending : ck_row 0 (ck_P 62).2 = true := by decide +kernel
theorem r_N_takeUpdate : ck_row 0 (ck_P 63).2 = true := by decide +kernel
theorem r_N_takeAck : ck_row 0 (ck_P 64).2 = true := by decide +kernel
theorem r_N_takeQuery : ck_row 0 (ck_P 65).2 = true := by decide +kernel
theorem r_N_takeAnswer : ck_row 0 (ck_P 66).2 = true := by decide +kernel
theorem r_N_isPendingOf : ck_row 0 (ck_P 67).2 = true := by decide +kernel
theorem r_N_takeConfig : ck_row 0 (ck_P 68).2 = true := by decide +kernel
theorem r_N_handOver : ck_row 0 (ck_P 69).2 = true := by decide +kernel
theorem r_N_sendCopy : ck_row 0 (ck_P 70).2 = true := by decide +kernel
theorem r_N_sendPending : ck_row 0 (ck_P 71).2 = true := by decide +kernel
theorem r_N_takeCopy : ck_row 0 (ck_P 72).2 = true := by decide +kernel
theorem r_N_becomeReady : ck_row 0 (ck_P 73).2 = true := by decide +kernel
theorem r_N_sendAllAgain : ck_row 0 (ck_P 74).2 = true := by decide +kernel
theorem r_C_init : ck_row 0 (ck_P 75).2 = true := by decide +kernel
theorem r_C_openWrite : ck_row 0 (ck_P 76).2 = true := by decide +kernel
theorem r_C_open : ck_row 0 (ck_P 77).2 = true := by decide +kernel
theorem r_C_openRead : ck_row 0 (ck_P 78).2 = true := by decide +kernel
theorem r_C_takeReply : ck_row 0 (ck_P 79).2 = true := by decide +kernel
theorem r_M_init : ck_row 0 (ck_P 80).2 = true := by decide +kernel
theorem r_M_learn : ck_row 0 (ck_P 81).2 = true := by decide +kernel
theorem r_M_write : ck_row 0 (ck_P 82).2 = true := by decide +kernel
theorem r_M_in : ck_row 0 (ck_P 83).2 = true := by decide +kernel
theorem r_M_ask : ck_row 0 (ck_P 84).2 = true := by decide +kernel
theorem r_M_send : ck_row 0 (ck_P 85).2 = true := by decide +kernel
theorem r_M_read : ck_row 0 (ck_P 86).2 = true := by decide +kernel
theorem r_M_deliver : ck_row 0 (ck_P 87).2 = true := by decide +kernel
theorem r_M_isMessage : ck_row 0 (ck_P 88).2 = true := by decide +kernel
theorem r_M_take : ck_row 0 (ck_P 89).2 = true := by decide +kernel
theorem r_M_takeReply : ck_row 0 (ck_P 90).2 = true := by decide +kernel
theorem r_M_takeAt : ck_row 0 (ck_P 91).2 = true := by decide +kernel
theorem r_M_takeWrite : ck_row 0 (ck_P 92).2 = true := by decide +kernel
theorem r_M_placeOf : ck_row 0 (ck_P 93).2 = true := by decide +kernel
theorem r_M_reply : ck_row 0 (ck_P 94).2 = true := by decide +kernel
theorem r_M_pending : ck_row 0 (ck_P 95).2 = true := by decide +kernel
theorem r_M_apply : ck_row 0 (ck_P 96).2 = true := by decide +kernel
theorem r_M_isTail : ck_row 0 (ck_P 97).2 = true := by decide +kernel
theorem r_M_behind : ck_row 0 (ck_P 98).2 = true := by decide +kernel
theorem r_M_commit : ck_row 0 (ck_P 99).2 = true := by decide +kernel
theorem r_M_sendAck : ck_row 0 (ck_P 100).2 = true := by decide +kernel
theorem r_M_before : ck_row 0 (ck_P 101).2 = true := by decide +kernel
theorem r_M_sendFrom : ck_row 0 (ck_P 102).2 = true := by decide +kernel
theorem r_M_sendUpdate : ck_row 0 (ck_P 103).2 = true := by decide +kernel
theorem r_M_takeRead : ck_row 0 (ck_P 104).2 = true := by decide +kernel
theorem r_M_isDirty : ck_row 0 (ck_P 105).2 = true := by decide +kernel
theorem r_M_takeConfig : ck_row 0 (ck_P 106).2 = true := by decide +kernel
theorem r_M_handOver : ck_row 0 (ck_P 107).2 = true := by decide +kernel
theorem r_M_sendCopy : ck_row 0 (ck_P 108).2 = true := by decide +kernel
theorem r_M_sendPending : ck_row 0 (ck_P 109).2 = true := by decide +kernel
theorem r_M_takeUpdate : ck_row 0 (ck_P 110).2 = true := by decide +kernel
theorem r_M_takeAck : ck_row 0 (ck_P 111).2 = true := by decide +kernel
theorem r_M_takeQuery : ck_row 0 (ck_P 112).2 = true := by decide +kernel
theorem r_M_takeAnswer : ck_row 0 (ck_P 113).2 = true := by decide +kernel
theorem r_M_takeCopy : ck_row 0 (ck_P 114).2 = true := by decide +kernel
theorem r_M_drop : ck_row 0 (ck_P 115).2 = true := by decide +kernel
theorem r_M_duplicate : ck_row 0 (ck_P 116).2 = true := by decide +kernel
theorem r_M_tick : ck_row 0 (ck_P 117).2 = true := by decide +kernel
theorem r_M_oneTick : ck_row 0 (ck_P 118).2 = true := by decide +kernel
theorem r_M_crash : ck_row 0 (ck_P 119).2 = true := by decide +kernel
theorem r_M_detect : ck_row 0 (ck_P 120).2 = true := by decide +kernel
theorem r_M_member : ck_row 0 (ck_P 121).2 = true := by decide +kernel
theorem r_M_configure : ck_row 0 (ck_P 122).2 = true := by decide +kernel
theorem r_M_join : ck_row 0 (ck_P 123).2 = true := by decide +kernel
theorem r_M_messages : ck_row 0 (ck_P 124).2 = true := by decide +kernel
theorem r_M_message : ck_row 0 (ck_P 125).2 = true := by decide +kernel
theorem r_M_chain : ck_row 0 (ck_P 126).2 = true := by decide +kernel
theorem r_M_node : ck_row 0 (ck_P 127).2 = true := by decide +kernel
theorem r_M_clean : ck_row 0 (ck_P 128).2 = true := by decide +kernel
theorem r_M_value : ck_row 0 (ck_P 129).2 = true := by decide +kernel
theorem r_M_client : ck_row 0 (ck_P 130).2 = true := by decide +kernel
theorem r_L_cell : ck_row 0 (ck_P 131).2 = true := by decide +kernel
theorem r_L_law : ck_row 0 (ck_P 132).2 = true := by decide +kernel
