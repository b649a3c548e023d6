theorem cf_0 : ck_CF 0 ("ChainKeeper", ck_T0, 7) := ⟨rfl, ci_0, by decide +kernel, ck_ty0, by decide +kernel, by decide +kernel⟩
theorem cf_1 : ck_CF 1 ("ChainKeeper$Wire", ck_T1, 3) := ⟨rfl, ci_1, by decide +kernel, ck_ty1, by decide +kernel, by decide +kernel⟩
theorem cf_2 : ck_CF 2 ("ChainKeeper$Message", ck_T2, 13) := ⟨rfl, ci_2, by decide +kernel, ck_ty2, by decide +kernel, by decide +kernel⟩
theorem cf_3 : ck_CF 3 ("ChainKeeper$Chain", ck_T3, 3) := ⟨rfl, ci_3, by decide +kernel, ck_ty3, by decide +kernel, by decide +kernel⟩
theorem cf_4 : ck_CF 4 ("ChainKeeper$Node", ck_T4, 18) := ⟨rfl, ci_4, by decide +kernel, ck_ty4, by decide +kernel, by decide +kernel⟩
theorem cf_5 : ck_CF 5 ("ChainKeeper$Client", ck_T5, 10) := ⟨rfl, ci_5, by decide +kernel, ck_ty5, by decide +kernel, by decide +kernel⟩
theorem cf_6 : ck_CF 6 ("ChainKeeperModel", ck_T6, 34) := ⟨rfl, ci_6, by decide +kernel, ck_ty6, by decide +kernel, by decide +kernel⟩
theorem cw_K_init : ck_Cw 0 2 := ⟨k_76, k_64, ⟨by decide, by decide, by decide +kernel⟩, by decide⟩
theorem cw_K_firstChain : ck_Cw 1 1 := ⟨k_171, k_64, ⟨by decide, by decide, by decide +kernel⟩, by decide⟩
theorem cw_K_write : ck_Cw 2 3 := ⟨k_357, k_64, ⟨by decide, by decide, by decide +kernel⟩, by decide⟩
theorem cw_K_mayAsk : ck_Cw 3 2 := ⟨k_361, k_64, ⟨by decide, by decide, by decide +kernel⟩, by decide⟩
theorem cw_K_isClient : ck_Cw 4 1 := ⟨k_364, k_64, ⟨by decide, by decide, by decide +kernel⟩, by decide⟩
theorem cw_K_isKey : ck_Cw 5 1 := ⟨k_367, k_64, ⟨by decide, by decide, by decide +kernel⟩, by decide⟩
theorem cw_K_sendRequest : ck_Cw 6 2 := ⟨k_383, k_64, ⟨by decide, by decide, by decide +kernel⟩, by decide⟩
theorem cw_K_read : ck_Cw 7 3 := ⟨k_395, k_64, ⟨by decide, by decide, by decide +kernel⟩, by decide⟩
theorem cw_K_isNode : ck_Cw 8 1 := ⟨k_398, k_64, ⟨by decide, by decide, by decide +kernel⟩, by decide⟩
theorem cw_K_deliver : ck_Cw 9 1 := ⟨k_406, k_64, ⟨by decide, by decide, by decide +kernel⟩, by decide⟩
theorem cw_K_drop : ck_Cw 10 1 := ⟨k_523, k_64, ⟨by decide, by decide, by decide +kernel⟩, by decide⟩
theorem cw_K_duplicate : ck_Cw 11 1 := ⟨k_531, k_64, ⟨by decide, by decide, by decide +kernel⟩, by decide⟩
theorem cw_K_tick : ck_Cw 12 1 := ⟨k_546, k_64, ⟨by decide, by decide, by decide +kernel⟩, by decide⟩
theorem cw_K_passOneTick : ck_Cw 13 0 := ⟨k_550, k_64, ⟨by decide, by decide, by decide +kernel⟩, by decide⟩
theorem cw_K_retryTarget : ck_Cw 14 1 := ⟨k_558, k_64, ⟨by decide, by decide, by decide +kernel⟩, by decide⟩
theorem cw_K_crash : ck_Cw 15 1 := ⟨k_566, k_64, ⟨by decide, by decide, by decide +kernel⟩, by decide⟩
theorem cw_K_detect : ck_Cw 16 1 := ⟨k_570, k_64, ⟨by decide, by decide, by decide +kernel⟩, by decide⟩
theorem cw_K_hasRoomForConfigs : ck_Cw 17 0 := ⟨k_574, k_64, ⟨by decide, by decide, by decide +kernel⟩, by decide⟩
theorem cw_K_sendConfigs : ck_Cw 18 0 := ⟨k_584, k_64, ⟨by decide, by decide, by decide +kernel⟩, by decide⟩
theorem cw_K_join : ck_Cw 19 1 := ⟨k_593, k_64, ⟨by decide, by decide, by decide +kernel⟩, by decide⟩
theorem cw_K_messages : ck_Cw 20 0 := ⟨k_608, k_64, ⟨by decide, by decide, by decide +kernel⟩, by decide⟩
theorem cw_K_message : ck_Cw 21 1 := ⟨k_612, k_64, ⟨by decide, by decide, by decide +kernel⟩, by decide⟩
theorem cw_K_chain : ck_Cw 22 1 := ⟨k_622, k_64, ⟨by decide, by decide, by decide +kernel⟩, by decide⟩
theorem cw_K_node : ck_Cw 23 2 := ⟨k_626, k_64, ⟨by decide, by decide, by decide +kernel⟩, by decide⟩
theorem cw_K_clean : ck_Cw 24 2 := ⟨k_631, k_64, ⟨by decide, by decide, by decide +kernel⟩, by decide⟩
theorem cw_K_value : ck_Cw 25 2 := ⟨k_635, k_64, ⟨by decide, by decide, by decide +kernel⟩, by decide⟩
theorem cw_K_client : ck_Cw 26 2 := ⟨k_639, k_64, ⟨by decide, by decide, by decide +kernel⟩, by decide⟩
theorem cw_W_init : ck_Cw 27 0 := ⟨k_84, k_65, ⟨by decide, by decide, by decide +kernel⟩, by decide⟩
theorem cw_W_draft : ck_Cw 28 3 := ⟨k_387, k_65, ⟨by decide, by decide, by decide +kernel⟩, by decide⟩
theorem cw_W_sendDraft : ck_Cw 29 0 := ⟨k_391, k_65, ⟨by decide, by decide, by decide +kernel⟩, by decide⟩
theorem cw_W_has : ck_Cw 30 1 := ⟨k_410, k_65, ⟨by decide, by decide, by decide +kernel⟩, by decide⟩
theorem cw_W_takeOut : ck_Cw 31 1 := ⟨k_414, k_65, ⟨by decide, by decide, by decide +kernel⟩, by decide⟩
theorem cw_W_at : ck_Cw 32 1 := ⟨k_527, k_65, ⟨by decide, by decide, by decide +kernel⟩, by decide⟩
theorem cw_W_sendAgain : ck_Cw 33 1 := ⟨k_535, k_65, ⟨by decide, by decide, by decide +kernel⟩, by decide⟩
theorem cw_G_init : ck_Cw 34 0 := ⟨k_91, k_66, ⟨by decide, by decide, by decide +kernel⟩, by decide⟩
theorem cw_G_becomeLike : ck_Cw 35 1 := ⟨k_540, k_66, ⟨by decide, by decide, by decide +kernel⟩, by decide⟩
theorem cw_G_shownNumber : ck_Cw 36 0 := ⟨k_618, k_66, ⟨by decide, by decide, by decide +kernel⟩, by decide⟩
theorem cw_H_init : ck_Cw 37 3 := ⟨k_176, k_67, ⟨by decide, by decide, by decide +kernel⟩, by decide⟩
theorem cw_H_before : ck_Cw 38 1 := ⟨k_204, k_67, ⟨by decide, by decide, by decide +kernel⟩, by decide⟩
theorem cw_H_placeOf : ck_Cw 39 1 := ⟨k_208, k_67, ⟨by decide, by decide, by decide +kernel⟩, by decide⟩
theorem cw_H_at : ck_Cw 40 1 := ⟨k_212, k_67, ⟨by decide, by decide, by decide +kernel⟩, by decide⟩
theorem cw_H_after : ck_Cw 41 1 := ⟨k_216, k_67, ⟨by decide, by decide, by decide +kernel⟩, by decide⟩
theorem cw_H_tail : ck_Cw 42 0 := ⟨k_220, k_67, ⟨by decide, by decide, by decide +kernel⟩, by decide⟩
theorem cw_H_head : ck_Cw 43 0 := ⟨k_379, k_67, ⟨by decide, by decide, by decide +kernel⟩, by decide⟩
theorem cw_H_has : ck_Cw 44 1 := ⟨k_562, k_67, ⟨by decide, by decide, by decide +kernel⟩, by decide⟩
theorem cw_H_without : ck_Cw 45 1 := ⟨k_578, k_67, ⟨by decide, by decide, by decide +kernel⟩, by decide⟩
theorem cw_H_size : ck_Cw 46 0 := ⟨k_588, k_67, ⟨by decide, by decide, by decide +kernel⟩, by decide⟩
theorem cw_H_with : ck_Cw 47 1 := ⟨k_597, k_67, ⟨by decide, by decide, by decide +kernel⟩, by decide⟩
theorem cw_N_init : ck_Cw 48 3 := ⟨k_195, k_68, ⟨by decide, by decide, by decide +kernel⟩, by decide⟩
theorem cw_N_learn : ck_Cw 49 1 := ⟨k_200, k_68, ⟨by decide, by decide, by decide +kernel⟩, by decide⟩
theorem cw_N_take : ck_Cw 50 2 := ⟨k_422, k_68, ⟨by decide, by decide, by decide +kernel⟩, by decide⟩
theorem cw_N_accepts : ck_Cw 51 1 := ⟨k_426, k_68, ⟨by decide, by decide, by decide +kernel⟩, by decide⟩
theorem cw_N_takeWrite : ck_Cw 52 2 := ⟨k_430, k_68, ⟨by decide, by decide, by decide +kernel⟩, by decide⟩
theorem cw_N_sendReply : ck_Cw 53 5 := ⟨k_435, k_68, ⟨by decide, by decide, by decide +kernel⟩, by decide⟩
theorem cw_N_hasRoom : ck_Cw 54 0 := ⟨k_441, k_68, ⟨by decide, by decide, by decide +kernel⟩, by decide⟩
theorem cw_N_pendingCount : ck_Cw 55 0 := ⟨k_445, k_68, ⟨by decide, by decide, by decide +kernel⟩, by decide⟩
theorem cw_N_apply : ck_Cw 56 2 := ⟨k_449, k_68, ⟨by decide, by decide, by decide +kernel⟩, by decide⟩
theorem cw_N_slot : ck_Cw 57 1 := ⟨k_452, k_68, ⟨by decide, by decide, by decide +kernel⟩, by decide⟩
theorem cw_N_commit : ck_Cw 58 2 := ⟨k_456, k_68, ⟨by decide, by decide, by decide +kernel⟩, by decide⟩
theorem cw_N_sendAck : ck_Cw 59 1 := ⟨k_460, k_68, ⟨by decide, by decide, by decide +kernel⟩, by decide⟩
theorem cw_N_sendUpdate : ck_Cw 60 2 := ⟨k_464, k_68, ⟨by decide, by decide, by decide +kernel⟩, by decide⟩
theorem cw_N_takeRead : ck_Cw 61 2 := ⟨k_468, k_68, ⟨by decide, by decide, by decide +kernel⟩, by decide⟩
theorem cw_N_newestPending : ck_Cw 62 1 := ⟨k_472, k_68, ⟨by decide, by decide, by decide +kernel⟩, by decide⟩
theorem cw_N_takeUpdate : ck_Cw 63 2 := ⟨k_476, k_68, ⟨by decide, by decide, by decide +kernel⟩, by decide⟩
theorem cw_N_takeAck : ck_Cw 64 2 := ⟨k_480, k_68, ⟨by decide, by decide, by decide +kernel⟩, by decide⟩
theorem cw_N_takeQuery : ck_Cw 65 2 := ⟨k_484, k_68, ⟨by decide, by decide, by decide +kernel⟩, by decide⟩
theorem cw_N_takeAnswer : ck_Cw 66 2 := ⟨k_488, k_68, ⟨by decide, by decide, by decide +kernel⟩, by decide⟩
theorem cw_N_isPendingOf : ck_Cw 67 2 := ⟨k_492, k_68, ⟨by decide, by decide, by decide +kernel⟩, by decide⟩
theorem cw_N_takeConfig : ck_Cw 68 2 := ⟨k_496, k_68, ⟨by decide, by decide, by decide +kernel⟩, by decide⟩
theorem cw_N_handOver : ck_Cw 69 1 := ⟨k_500, k_68, ⟨by decide, by decide, by decide +kernel⟩, by decide⟩
theorem cw_N_sendCopy : ck_Cw 70 1 := ⟨k_504, k_68, ⟨by decide, by decide, by decide +kernel⟩, by decide⟩
theorem cw_N_sendPending : ck_Cw 71 1 := ⟨k_511, k_68, ⟨by decide, by decide, by decide +kernel⟩, by decide⟩
theorem cw_N_takeCopy : ck_Cw 72 2 := ⟨k_515, k_68, ⟨by decide, by decide, by decide +kernel⟩, by decide⟩
theorem cw_N_becomeReady : ck_Cw 73 1 := ⟨k_519, k_68, ⟨by decide, by decide, by decide +kernel⟩, by decide⟩
theorem cw_N_sendAllAgain : ck_Cw 74 1 := ⟨k_554, k_68, ⟨by decide, by decide, by decide +kernel⟩, by decide⟩
theorem cw_C_init : ck_Cw 75 1 := ⟨k_290, k_69, ⟨by decide, by decide, by decide +kernel⟩, by decide⟩
theorem cw_C_openWrite : ck_Cw 76 2 := ⟨k_371, k_69, ⟨by decide, by decide, by decide +kernel⟩, by decide⟩
theorem cw_C_open : ck_Cw 77 1 := ⟨k_375, k_69, ⟨by decide, by decide, by decide +kernel⟩, by decide⟩
theorem cw_C_openRead : ck_Cw 78 2 := ⟨k_402, k_69, ⟨by decide, by decide, by decide +kernel⟩, by decide⟩
theorem cw_C_takeReply : ck_Cw 79 1 := ⟨k_418, k_69, ⟨by decide, by decide, by decide +kernel⟩, by decide⟩
theorem cw_M_init : ck_Cw 80 2 := ⟨k_647, k_70, ⟨by decide, by decide, by decide +kernel⟩, by decide⟩
theorem cw_M_learn : ck_Cw 81 1 := ⟨k_652, k_70, ⟨by decide, by decide, by decide +kernel⟩, by decide⟩
theorem cw_M_write : ck_Cw 82 3 := ⟨k_759, k_70, ⟨by decide, by decide, by decide +kernel⟩, by decide⟩
theorem cw_M_in : ck_Cw 83 3 := ⟨k_762, k_70, ⟨by decide, by decide, by decide +kernel⟩, by decide⟩
theorem cw_M_ask : ck_Cw 84 1 := ⟨k_766, k_70, ⟨by decide, by decide, by decide +kernel⟩, by decide⟩
theorem cw_M_send : ck_Cw 85 2 := ⟨k_770, k_70, ⟨by decide, by decide, by decide +kernel⟩, by decide⟩
theorem cw_M_read : ck_Cw 86 3 := ⟨k_774, k_70, ⟨by decide, by decide, by decide +kernel⟩, by decide⟩
theorem cw_M_deliver : ck_Cw 87 1 := ⟨k_778, k_70, ⟨by decide, by decide, by decide +kernel⟩, by decide⟩
theorem cw_M_isMessage : ck_Cw 88 1 := ⟨k_782, k_70, ⟨by decide, by decide, by decide +kernel⟩, by decide⟩
theorem cw_M_take : ck_Cw 89 1 := ⟨k_786, k_70, ⟨by decide, by decide, by decide +kernel⟩, by decide⟩
theorem cw_M_takeReply : ck_Cw 90 1 := ⟨k_790, k_70, ⟨by decide, by decide, by decide +kernel⟩, by decide⟩
theorem cw_M_takeAt : ck_Cw 91 1 := ⟨k_794, k_70, ⟨by decide, by decide, by decide +kernel⟩, by decide⟩
theorem cw_M_takeWrite : ck_Cw 92 1 := ⟨k_798, k_70, ⟨by decide, by decide, by decide +kernel⟩, by decide⟩
theorem cw_M_placeOf : ck_Cw 93 1 := ⟨k_802, k_70, ⟨by decide, by decide, by decide +kernel⟩, by decide⟩
theorem cw_M_reply : ck_Cw 94 4 := ⟨k_806, k_70, ⟨by decide, by decide, by decide +kernel⟩, by decide⟩
theorem cw_M_pending : ck_Cw 95 1 := ⟨k_810, k_70, ⟨by decide, by decide, by decide +kernel⟩, by decide⟩
theorem cw_M_apply : ck_Cw 96 1 := ⟨k_814, k_70, ⟨by decide, by decide, by decide +kernel⟩, by decide⟩
theorem cw_M_isTail : ck_Cw 97 1 := ⟨k_818, k_70, ⟨by decide, by decide, by decide +kernel⟩, by decide⟩
theorem cw_M_behind : ck_Cw 98 1 := ⟨k_822, k_70, ⟨by decide, by decide, by decide +kernel⟩, by decide⟩
theorem cw_M_commit : ck_Cw 99 2 := ⟨k_826, k_70, ⟨by decide, by decide, by decide +kernel⟩, by decide⟩
theorem cw_M_sendAck : ck_Cw 100 1 := ⟨k_830, k_70, ⟨by decide, by decide, by decide +kernel⟩, by decide⟩
theorem cw_M_before : ck_Cw 101 1 := ⟨k_834, k_70, ⟨by decide, by decide, by decide +kernel⟩, by decide⟩
theorem cw_M_sendFrom : ck_Cw 102 3 := ⟨k_838, k_70, ⟨by decide, by decide, by decide +kernel⟩, by decide⟩
theorem cw_M_sendUpdate : ck_Cw 103 2 := ⟨k_842, k_70, ⟨by decide, by decide, by decide +kernel⟩, by decide⟩
theorem cw_M_takeRead : ck_Cw 104 1 := ⟨k_846, k_70, ⟨by decide, by decide, by decide +kernel⟩, by decide⟩
theorem cw_M_isDirty : ck_Cw 105 2 := ⟨k_850, k_70, ⟨by decide, by decide, by decide +kernel⟩, by decide⟩
theorem cw_M_takeConfig : ck_Cw 106 1 := ⟨k_854, k_70, ⟨by decide, by decide, by decide +kernel⟩, by decide⟩
theorem cw_M_handOver : ck_Cw 107 1 := ⟨k_858, k_70, ⟨by decide, by decide, by decide +kernel⟩, by decide⟩
theorem cw_M_sendCopy : ck_Cw 108 1 := ⟨k_862, k_70, ⟨by decide, by decide, by decide +kernel⟩, by decide⟩
theorem cw_M_sendPending : ck_Cw 109 1 := ⟨k_866, k_70, ⟨by decide, by decide, by decide +kernel⟩, by decide⟩
theorem cw_M_takeUpdate : ck_Cw 110 1 := ⟨k_870, k_70, ⟨by decide, by decide, by decide +kernel⟩, by decide⟩
theorem cw_M_takeAck : ck_Cw 111 1 := ⟨k_874, k_70, ⟨by decide, by decide, by decide +kernel⟩, by decide⟩
theorem cw_M_takeQuery : ck_Cw 112 1 := ⟨k_878, k_70, ⟨by decide, by decide, by decide +kernel⟩, by decide⟩
theorem cw_M_takeAnswer : ck_Cw 113 1 := ⟨k_882, k_70, ⟨by decide, by decide, by decide +kernel⟩, by decide⟩
theorem cw_M_takeCopy : ck_Cw 114 1 := ⟨k_886, k_70, ⟨by decide, by decide, by decide +kernel⟩, by decide⟩
theorem cw_M_drop : ck_Cw 115 1 := ⟨k_890, k_70, ⟨by decide, by decide, by decide +kernel⟩, by decide⟩
theorem cw_M_duplicate : ck_Cw 116 1 := ⟨k_894, k_70, ⟨by decide, by decide, by decide +kernel⟩, by decide⟩
theorem cw_M_tick : ck_Cw 117 1 := ⟨k_898, k_70, ⟨by decide, by decide, by decide +kernel⟩, by decide⟩
theorem cw_M_oneTick : ck_Cw 118 0 := ⟨k_902, k_70, ⟨by decide, by decide, by decide +kernel⟩, by decide⟩
theorem cw_M_crash : ck_Cw 119 1 := ⟨k_906, k_70, ⟨by decide, by decide, by decide +kernel⟩, by decide⟩
theorem cw_M_detect : ck_Cw 120 1 := ⟨k_910, k_70, ⟨by decide, by decide, by decide +kernel⟩, by decide⟩
theorem cw_M_member : ck_Cw 121 1 := ⟨k_914, k_70, ⟨by decide, by decide, by decide +kernel⟩, by decide⟩
theorem cw_M_configure : ck_Cw 122 0 := ⟨k_918, k_70, ⟨by decide, by decide, by decide +kernel⟩, by decide⟩
theorem cw_M_join : ck_Cw 123 1 := ⟨k_922, k_70, ⟨by decide, by decide, by decide +kernel⟩, by decide⟩
theorem cw_M_messages : ck_Cw 124 0 := ⟨k_926, k_70, ⟨by decide, by decide, by decide +kernel⟩, by decide⟩
theorem cw_M_message : ck_Cw 125 1 := ⟨k_930, k_70, ⟨by decide, by decide, by decide +kernel⟩, by decide⟩
theorem cw_M_chain : ck_Cw 126 1 := ⟨k_936, k_70, ⟨by decide, by decide, by decide +kernel⟩, by decide⟩
theorem cw_M_node : ck_Cw 127 2 := ⟨k_940, k_70, ⟨by decide, by decide, by decide +kernel⟩, by decide⟩
theorem cw_M_clean : ck_Cw 128 2 := ⟨k_944, k_70, ⟨by decide, by decide, by decide +kernel⟩, by decide⟩
theorem cw_M_value : ck_Cw 129 2 := ⟨k_948, k_70, ⟨by decide, by decide, by decide +kernel⟩, by decide⟩
theorem cw_M_client : ck_Cw 130 2 := ⟨k_952, k_70, ⟨by decide, by decide, by decide +kernel⟩, by decide⟩
theorem cw_L_cell : ck_Cw 131 2 := ⟨k_642, k_63, ⟨by decide, by decide, by decide +kernel⟩, by decide⟩
theorem dk_K_init : (e_K_init_0.all (fun e => decide (decode prog_1_method_1_code e.1 = .ok (e.2.1, e.2.2.1)))) = true := by decide +kernel
theorem dk_K_firstChain : (e_K_firstChain_0.all (fun e => decide (decode prog_1_method_21_code e.1 = .ok (e.2.1, e.2.2.1)))) = true := by decide +kernel
theorem dk_K_write : (e_K_write_0.all (fun e => decide (decode prog_1_method_2_code e.1 = .ok (e.2.1, e.2.2.1)))) = true := by decide +kernel
theorem dk_K_mayAsk : (e_K_mayAsk_0.all (fun e => decide (decode prog_1_method_22_code e.1 = .ok (e.2.1, e.2.2.1)))) = true := by decide +kernel
theorem dk_K_isClient : (e_K_isClient_0.all (fun e => decide (decode prog_1_method_19_code e.1 = .ok (e.2.1, e.2.2.1)))) = true := by decide +kernel
theorem dk_K_isKey : (e_K_isKey_0.all (fun e => decide (decode prog_1_method_20_code e.1 = .ok (e.2.1, e.2.2.1)))) = true := by decide +kernel
theorem dk_K_sendRequest : (e_K_sendRequest_0.all (fun e => decide (decode prog_1_method_23_code e.1 = .ok (e.2.1, e.2.2.1)))) = true := by decide +kernel
theorem dk_K_read : (e_K_read_0.all (fun e => decide (decode prog_1_method_3_code e.1 = .ok (e.2.1, e.2.2.1)))) = true := by decide +kernel
theorem dk_K_isNode : (e_K_isNode_0.all (fun e => decide (decode prog_1_method_18_code e.1 = .ok (e.2.1, e.2.2.1)))) = true := by decide +kernel
theorem dk_K_deliver : (e_K_deliver_0.all (fun e => decide (decode prog_1_method_4_code e.1 = .ok (e.2.1, e.2.2.1)))) = true := by decide +kernel
theorem dk_K_drop : (e_K_drop_0.all (fun e => decide (decode prog_1_method_5_code e.1 = .ok (e.2.1, e.2.2.1)))) = true := by decide +kernel
theorem dk_K_duplicate : (e_K_duplicate_0.all (fun e => decide (decode prog_1_method_6_code e.1 = .ok (e.2.1, e.2.2.1)))) = true := by decide +kernel
theorem dk_K_tick : (e_K_tick_0.all (fun e => decide (decode prog_1_method_7_code e.1 = .ok (e.2.1, e.2.2.1)))) = true := by decide +kernel
theorem dk_K_passOneTick : (e_K_passOneTick_0.all (fun e => decide (decode prog_1_method_24_code e.1 = .ok (e.2.1, e.2.2.1)))) = true := by decide +kernel
theorem dk_K_retryTarget : (e_K_retryTarget_0.all (fun e => decide (decode prog_1_method_25_code e.1 = .ok (e.2.1, e.2.2.1)))) = true := by decide +kernel
theorem dk_K_crash : (e_K_crash_0.all (fun e => decide (decode prog_1_method_8_code e.1 = .ok (e.2.1, e.2.2.1)))) = true := by decide +kernel
theorem dk_K_detect : (e_K_detect_0.all (fun e => decide (decode prog_1_method_9_code e.1 = .ok (e.2.1, e.2.2.1)))) = true := by decide +kernel
theorem dk_K_hasRoomForConfigs : (e_K_hasRoomForConfigs_0.all (fun e => decide (decode prog_1_method_26_code e.1 = .ok (e.2.1, e.2.2.1)))) = true := by decide +kernel
theorem dk_K_sendConfigs : (e_K_sendConfigs_0.all (fun e => decide (decode prog_1_method_27_code e.1 = .ok (e.2.1, e.2.2.1)))) = true := by decide +kernel
theorem dk_K_join : (e_K_join_0.all (fun e => decide (decode prog_1_method_10_code e.1 = .ok (e.2.1, e.2.2.1)))) = true := by decide +kernel
theorem dk_K_messages : (e_K_messages_0.all (fun e => decide (decode prog_1_method_11_code e.1 = .ok (e.2.1, e.2.2.1)))) = true := by decide +kernel
theorem dk_K_message : (e_K_message_0.all (fun e => decide (decode prog_1_method_12_code e.1 = .ok (e.2.1, e.2.2.1)))) = true := by decide +kernel
theorem dk_K_chain : (e_K_chain_0.all (fun e => decide (decode prog_1_method_13_code e.1 = .ok (e.2.1, e.2.2.1)))) = true := by decide +kernel
theorem dk_K_node : (e_K_node_0.all (fun e => decide (decode prog_1_method_14_code e.1 = .ok (e.2.1, e.2.2.1)))) = true := by decide +kernel
theorem dk_K_clean : (e_K_clean_0.all (fun e => decide (decode prog_1_method_15_code e.1 = .ok (e.2.1, e.2.2.1)))) = true := by decide +kernel
theorem dk_K_value : (e_K_value_0.all (fun e => decide (decode prog_1_method_16_code e.1 = .ok (e.2.1, e.2.2.1)))) = true := by decide +kernel
theorem dk_K_client : (e_K_client_0.all (fun e => decide (decode prog_1_method_17_code e.1 = .ok (e.2.1, e.2.2.1)))) = true := by decide +kernel
theorem dk_W_init : (e_W_init_0.all (fun e => decide (decode prog_6_method_1_code e.1 = .ok (e.2.1, e.2.2.1)))) = true := by decide +kernel
theorem dk_W_draft : (e_W_draft_0.all (fun e => decide (decode prog_6_method_5_code e.1 = .ok (e.2.1, e.2.2.1)))) = true := by decide +kernel
theorem dk_W_sendDraft : (e_W_sendDraft_0.all (fun e => decide (decode prog_6_method_6_code e.1 = .ok (e.2.1, e.2.2.1)))) = true := by decide +kernel
theorem dk_W_has : (e_W_has_0.all (fun e => decide (decode prog_6_method_2_code e.1 = .ok (e.2.1, e.2.2.1)))) = true := by decide +kernel
theorem dk_W_takeOut : (e_W_takeOut_0.all (fun e => decide (decode prog_6_method_4_code e.1 = .ok (e.2.1, e.2.2.1)))) = true := by decide +kernel
theorem dk_W_at : (e_W_at_0.all (fun e => decide (decode prog_6_method_3_code e.1 = .ok (e.2.1, e.2.2.1)))) = true := by decide +kernel
theorem dk_W_sendAgain : (e_W_sendAgain_0.all (fun e => decide (decode prog_6_method_7_code e.1 = .ok (e.2.1, e.2.2.1)))) = true := by decide +kernel
theorem dk_G_init : (e_G_init_0.all (fun e => decide (decode prog_4_method_1_code e.1 = .ok (e.2.1, e.2.2.1)))) = true := by decide +kernel
theorem dk_G_becomeLike : (e_G_becomeLike_0.all (fun e => decide (decode prog_4_method_3_code e.1 = .ok (e.2.1, e.2.2.1)))) = true := by decide +kernel
theorem dk_G_shownNumber : (e_G_shownNumber_0.all (fun e => decide (decode prog_4_method_2_code e.1 = .ok (e.2.1, e.2.2.1)))) = true := by decide +kernel
theorem dk_H_init : (e_H_init_0.all (fun e => decide (decode prog_2_method_1_code e.1 = .ok (e.2.1, e.2.2.1)))) = true := by decide +kernel
theorem dk_H_before : (e_H_before_0.all (fun e => decide (decode prog_2_method_7_code e.1 = .ok (e.2.1, e.2.2.1)))) = true := by decide +kernel
theorem dk_H_placeOf : (e_H_placeOf_0.all (fun e => decide (decode prog_2_method_11_code e.1 = .ok (e.2.1, e.2.2.1)))) = true := by decide +kernel
theorem dk_H_at : (e_H_at_0.all (fun e => decide (decode prog_2_method_3_code e.1 = .ok (e.2.1, e.2.2.1)))) = true := by decide +kernel
theorem dk_H_after : (e_H_after_0.all (fun e => decide (decode prog_2_method_8_code e.1 = .ok (e.2.1, e.2.2.1)))) = true := by decide +kernel
theorem dk_H_tail : (e_H_tail_0.all (fun e => decide (decode prog_2_method_5_code e.1 = .ok (e.2.1, e.2.2.1)))) = true := by decide +kernel
theorem dk_H_head : (e_H_head_0.all (fun e => decide (decode prog_2_method_4_code e.1 = .ok (e.2.1, e.2.2.1)))) = true := by decide +kernel
theorem dk_H_has : (e_H_has_0.all (fun e => decide (decode prog_2_method_6_code e.1 = .ok (e.2.1, e.2.2.1)))) = true := by decide +kernel
theorem dk_H_without : (e_H_without_0.all (fun e => decide (decode prog_2_method_9_code e.1 = .ok (e.2.1, e.2.2.1)))) = true := by decide +kernel
theorem dk_H_size : (e_H_size_0.all (fun e => decide (decode prog_2_method_2_code e.1 = .ok (e.2.1, e.2.2.1)))) = true := by decide +kernel
theorem dk_H_with : (e_H_with_0.all (fun e => decide (decode prog_2_method_10_code e.1 = .ok (e.2.1, e.2.2.1)))) = true := by decide +kernel
theorem dk_N_init : (e_N_init_0.all (fun e => decide (decode prog_5_method_1_code e.1 = .ok (e.2.1, e.2.2.1)))) = true := by decide +kernel
theorem dk_N_learn : (e_N_learn_0.all (fun e => decide (decode prog_5_method_5_code e.1 = .ok (e.2.1, e.2.2.1)))) = true := by decide +kernel
theorem dk_N_take : (e_N_take_0.all (fun e => decide (decode prog_5_method_3_code e.1 = .ok (e.2.1, e.2.2.1)))) = true := by decide +kernel
theorem dk_N_accepts : (e_N_accepts_0.all (fun e => decide (decode prog_5_method_6_code e.1 = .ok (e.2.1, e.2.2.1)))) = true := by decide +kernel
theorem dk_N_takeWrite : (e_N_takeWrite_0.all (fun e => decide (decode prog_5_method_7_code e.1 = .ok (e.2.1, e.2.2.1)))) = true := by decide +kernel
theorem dk_N_sendReply : (e_N_sendReply_0.all (fun e => decide (decode prog_5_method_23_code e.1 = .ok (e.2.1, e.2.2.1)))) = true := by decide +kernel
theorem dk_N_hasRoom : (e_N_hasRoom_0.all (fun e => decide (decode prog_5_method_24_code e.1 = .ok (e.2.1, e.2.2.1)))) = true := by decide +kernel
theorem dk_N_pendingCount : (e_N_pendingCount_0.all (fun e => decide (decode prog_5_method_2_code e.1 = .ok (e.2.1, e.2.2.1)))) = true := by decide +kernel
theorem dk_N_apply : (e_N_apply_0.all (fun e => decide (decode prog_5_method_16_code e.1 = .ok (e.2.1, e.2.2.1)))) = true := by decide +kernel
theorem dk_N_slot : (e_N_slot_0.all (fun e => decide (decode prog_5_method_27_code e.1 = .ok (e.2.1, e.2.2.1)))) = true := by decide +kernel
theorem dk_N_commit : (e_N_commit_0.all (fun e => decide (decode prog_5_method_17_code e.1 = .ok (e.2.1, e.2.2.1)))) = true := by decide +kernel
theorem dk_N_sendAck : (e_N_sendAck_0.all (fun e => decide (decode prog_5_method_22_code e.1 = .ok (e.2.1, e.2.2.1)))) = true := by decide +kernel
theorem dk_N_sendUpdate : (e_N_sendUpdate_0.all (fun e => decide (decode prog_5_method_21_code e.1 = .ok (e.2.1, e.2.2.1)))) = true := by decide +kernel
theorem dk_N_takeRead : (e_N_takeRead_0.all (fun e => decide (decode prog_5_method_8_code e.1 = .ok (e.2.1, e.2.2.1)))) = true := by decide +kernel
theorem dk_N_newestPending : (e_N_newestPending_0.all (fun e => decide (decode prog_5_method_26_code e.1 = .ok (e.2.1, e.2.2.1)))) = true := by decide +kernel
theorem dk_N_takeUpdate : (e_N_takeUpdate_0.all (fun e => decide (decode prog_5_method_9_code e.1 = .ok (e.2.1, e.2.2.1)))) = true := by decide +kernel
theorem dk_N_takeAck : (e_N_takeAck_0.all (fun e => decide (decode prog_5_method_10_code e.1 = .ok (e.2.1, e.2.2.1)))) = true := by decide +kernel
theorem dk_N_takeQuery : (e_N_takeQuery_0.all (fun e => decide (decode prog_5_method_11_code e.1 = .ok (e.2.1, e.2.2.1)))) = true := by decide +kernel
theorem dk_N_takeAnswer : (e_N_takeAnswer_0.all (fun e => decide (decode prog_5_method_12_code e.1 = .ok (e.2.1, e.2.2.1)))) = true := by decide +kernel
theorem dk_N_isPendingOf : (e_N_isPendingOf_0.all (fun e => decide (decode prog_5_method_25_code e.1 = .ok (e.2.1, e.2.2.1)))) = true := by decide +kernel
theorem dk_N_takeConfig : (e_N_takeConfig_0.all (fun e => decide (decode prog_5_method_13_code e.1 = .ok (e.2.1, e.2.2.1)))) = true := by decide +kernel
theorem dk_N_handOver : (e_N_handOver_0.all (fun e => decide (decode prog_5_method_18_code e.1 = .ok (e.2.1, e.2.2.1)))) = true := by decide +kernel
theorem dk_N_sendCopy : (e_N_sendCopy_0.all (fun e => decide (decode prog_5_method_19_code e.1 = .ok (e.2.1, e.2.2.1)))) = true := by decide +kernel
theorem dk_N_sendPending : (e_N_sendPending_0.all (fun e => decide (decode prog_5_method_20_code e.1 = .ok (e.2.1, e.2.2.1)))) = true := by decide +kernel
theorem dk_N_takeCopy : (e_N_takeCopy_0.all (fun e => decide (decode prog_5_method_14_code e.1 = .ok (e.2.1, e.2.2.1)))) = true := by decide +kernel
theorem dk_N_becomeReady : (e_N_becomeReady_0.all (fun e => decide (decode prog_5_method_15_code e.1 = .ok (e.2.1, e.2.2.1)))) = true := by decide +kernel
theorem dk_N_sendAllAgain : (e_N_sendAllAgain_0.all (fun e => decide (decode prog_5_method_4_code e.1 = .ok (e.2.1, e.2.2.1)))) = true := by decide +kernel
theorem dk_C_init : (e_C_init_0.all (fun e => decide (decode prog_3_method_1_code e.1 = .ok (e.2.1, e.2.2.1)))) = true := by decide +kernel
theorem dk_C_openWrite : (e_C_openWrite_0.all (fun e => decide (decode prog_3_method_2_code e.1 = .ok (e.2.1, e.2.2.1)))) = true := by decide +kernel
theorem dk_C_open : (e_C_open_0.all (fun e => decide (decode prog_3_method_5_code e.1 = .ok (e.2.1, e.2.2.1)))) = true := by decide +kernel
theorem dk_C_openRead : (e_C_openRead_0.all (fun e => decide (decode prog_3_method_3_code e.1 = .ok (e.2.1, e.2.2.1)))) = true := by decide +kernel
theorem dk_C_takeReply : (e_C_takeReply_0.all (fun e => decide (decode prog_3_method_4_code e.1 = .ok (e.2.1, e.2.2.1)))) = true := by decide +kernel
theorem dk_M_init : (e_M_init_0.all (fun e => decide (decode prog_8_method_1_code e.1 = .ok (e.2.1, e.2.2.1)))) = true := by decide +kernel
theorem dk_M_learn : (e_M_learn_0.all (fun e => decide (decode prog_8_method_3_code e.1 = .ok (e.2.1, e.2.2.1)))) = true := by decide +kernel
theorem dk_M_write : (e_M_write_0.all (fun e => decide (decode prog_8_method_32_code e.1 = .ok (e.2.1, e.2.2.1)))) = true := by decide +kernel
theorem dk_M_in : (e_M_in_0.all (fun e => decide (decode prog_8_method_2_code e.1 = .ok (e.2.1, e.2.2.1)))) = true := by decide +kernel
theorem dk_M_ask : (e_M_ask_0.all (fun e => decide (decode prog_8_method_31_code e.1 = .ok (e.2.1, e.2.2.1)))) = true := by decide +kernel
theorem dk_M_send : (e_M_send_0.all (fun e => decide (decode prog_8_method_4_code e.1 = .ok (e.2.1, e.2.2.1)))) = true := by decide +kernel
theorem dk_M_read : (e_M_read_0.all (fun e => decide (decode prog_8_method_33_code e.1 = .ok (e.2.1, e.2.2.1)))) = true := by decide +kernel
theorem dk_M_deliver : (e_M_deliver_0.all (fun e => decide (decode prog_8_method_35_code e.1 = .ok (e.2.1, e.2.2.1)))) = true := by decide +kernel
theorem dk_M_isMessage : (e_M_isMessage_0.all (fun e => decide (decode prog_8_method_34_code e.1 = .ok (e.2.1, e.2.2.1)))) = true := by decide +kernel
theorem dk_M_take : (e_M_take_0.all (fun e => decide (decode prog_8_method_5_code e.1 = .ok (e.2.1, e.2.2.1)))) = true := by decide +kernel
theorem dk_M_takeReply : (e_M_takeReply_0.all (fun e => decide (decode prog_8_method_30_code e.1 = .ok (e.2.1, e.2.2.1)))) = true := by decide +kernel
theorem dk_M_takeAt : (e_M_takeAt_0.all (fun e => decide (decode prog_8_method_29_code e.1 = .ok (e.2.1, e.2.2.1)))) = true := by decide +kernel
theorem dk_M_takeWrite : (e_M_takeWrite_0.all (fun e => decide (decode prog_8_method_21_code e.1 = .ok (e.2.1, e.2.2.1)))) = true := by decide +kernel
theorem dk_M_placeOf : (e_M_placeOf_0.all (fun e => decide (decode prog_8_method_8_code e.1 = .ok (e.2.1, e.2.2.1)))) = true := by decide +kernel
theorem dk_M_reply : (e_M_reply_0.all (fun e => decide (decode prog_8_method_7_code e.1 = .ok (e.2.1, e.2.2.1)))) = true := by decide +kernel
theorem dk_M_pending : (e_M_pending_0.all (fun e => decide (decode prog_8_method_18_code e.1 = .ok (e.2.1, e.2.2.1)))) = true := by decide +kernel
theorem dk_M_apply : (e_M_apply_0.all (fun e => decide (decode prog_8_method_19_code e.1 = .ok (e.2.1, e.2.2.1)))) = true := by decide +kernel
theorem dk_M_isTail : (e_M_isTail_0.all (fun e => decide (decode prog_8_method_11_code e.1 = .ok (e.2.1, e.2.2.1)))) = true := by decide +kernel
theorem dk_M_behind : (e_M_behind_0.all (fun e => decide (decode prog_8_method_10_code e.1 = .ok (e.2.1, e.2.2.1)))) = true := by decide +kernel
theorem dk_M_commit : (e_M_commit_0.all (fun e => decide (decode prog_8_method_17_code e.1 = .ok (e.2.1, e.2.2.1)))) = true := by decide +kernel
theorem dk_M_sendAck : (e_M_sendAck_0.all (fun e => decide (decode prog_8_method_12_code e.1 = .ok (e.2.1, e.2.2.1)))) = true := by decide +kernel
theorem dk_M_before : (e_M_before_0.all (fun e => decide (decode prog_8_method_9_code e.1 = .ok (e.2.1, e.2.2.1)))) = true := by decide +kernel
theorem dk_M_sendFrom : (e_M_sendFrom_0.all (fun e => decide (decode prog_8_method_6_code e.1 = .ok (e.2.1, e.2.2.1)))) = true := by decide +kernel
theorem dk_M_sendUpdate : (e_M_sendUpdate_0.all (fun e => decide (decode prog_8_method_13_code e.1 = .ok (e.2.1, e.2.2.1)))) = true := by decide +kernel
theorem dk_M_takeRead : (e_M_takeRead_0.all (fun e => decide (decode prog_8_method_24_code e.1 = .ok (e.2.1, e.2.2.1)))) = true := by decide +kernel
theorem dk_M_isDirty : (e_M_isDirty_0.all (fun e => decide (decode prog_8_method_20_code e.1 = .ok (e.2.1, e.2.2.1)))) = true := by decide +kernel
theorem dk_M_takeConfig : (e_M_takeConfig_0.all (fun e => decide (decode prog_8_method_27_code e.1 = .ok (e.2.1, e.2.2.1)))) = true := by decide +kernel
theorem dk_M_handOver : (e_M_handOver_0.all (fun e => decide (decode prog_8_method_16_code e.1 = .ok (e.2.1, e.2.2.1)))) = true := by decide +kernel
theorem dk_M_sendCopy : (e_M_sendCopy_0.all (fun e => decide (decode prog_8_method_15_code e.1 = .ok (e.2.1, e.2.2.1)))) = true := by decide +kernel
theorem dk_M_sendPending : (e_M_sendPending_0.all (fun e => decide (decode prog_8_method_14_code e.1 = .ok (e.2.1, e.2.2.1)))) = true := by decide +kernel
theorem dk_M_takeUpdate : (e_M_takeUpdate_0.all (fun e => decide (decode prog_8_method_22_code e.1 = .ok (e.2.1, e.2.2.1)))) = true := by decide +kernel
theorem dk_M_takeAck : (e_M_takeAck_0.all (fun e => decide (decode prog_8_method_23_code e.1 = .ok (e.2.1, e.2.2.1)))) = true := by decide +kernel
theorem dk_M_takeQuery : (e_M_takeQuery_0.all (fun e => decide (decode prog_8_method_25_code e.1 = .ok (e.2.1, e.2.2.1)))) = true := by decide +kernel
theorem dk_M_takeAnswer : (e_M_takeAnswer_0.all (fun e => decide (decode prog_8_method_26_code e.1 = .ok (e.2.1, e.2.2.1)))) = true := by decide +kernel
theorem dk_M_takeCopy : (e_M_takeCopy_0.all (fun e => decide (decode prog_8_method_28_code e.1 = .ok (e.2.1, e.2.2.1)))) = true := by decide +kernel
theorem dk_M_drop : (e_M_drop_0.all (fun e => decide (decode prog_8_method_36_code e.1 = .ok (e.2.1, e.2.2.1)))) = true := by decide +kernel
theorem dk_M_duplicate : (e_M_duplicate_0.all (fun e => decide (decode prog_8_method_37_code e.1 = .ok (e.2.1, e.2.2.1)))) = true := by decide +kernel
theorem dk_M_tick : (e_M_tick_0.all (fun e => decide (decode prog_8_method_39_code e.1 = .ok (e.2.1, e.2.2.1)))) = true := by decide +kernel
theorem dk_M_oneTick : (e_M_oneTick_0.all (fun e => decide (decode prog_8_method_38_code e.1 = .ok (e.2.1, e.2.2.1)))) = true := by decide +kernel
theorem dk_M_crash : (e_M_crash_0.all (fun e => decide (decode prog_8_method_40_code e.1 = .ok (e.2.1, e.2.2.1)))) = true := by decide +kernel
theorem dk_M_detect : (e_M_detect_0.all (fun e => decide (decode prog_8_method_43_code e.1 = .ok (e.2.1, e.2.2.1)))) = true := by decide +kernel
theorem dk_M_member : (e_M_member_0.all (fun e => decide (decode prog_8_method_42_code e.1 = .ok (e.2.1, e.2.2.1)))) = true := by decide +kernel
theorem dk_M_configure : (e_M_configure_0.all (fun e => decide (decode prog_8_method_41_code e.1 = .ok (e.2.1, e.2.2.1)))) = true := by decide +kernel
theorem dk_M_join : (e_M_join_0.all (fun e => decide (decode prog_8_method_44_code e.1 = .ok (e.2.1, e.2.2.1)))) = true := by decide +kernel
theorem dk_M_messages : (e_M_messages_0.all (fun e => decide (decode prog_8_method_45_code e.1 = .ok (e.2.1, e.2.2.1)))) = true := by decide +kernel
theorem dk_M_message : (e_M_message_0.all (fun e => decide (decode prog_8_method_46_code e.1 = .ok (e.2.1, e.2.2.1)))) = true := by decide +kernel
theorem dk_M_chain : (e_M_chain_0.all (fun e => decide (decode prog_8_method_47_code e.1 = .ok (e.2.1, e.2.2.1)))) = true := by decide +kernel
theorem dk_M_node : (e_M_node_0.all (fun e => decide (decode prog_8_method_48_code e.1 = .ok (e.2.1, e.2.2.1)))) = true := by decide +kernel
theorem dk_M_clean : (e_M_clean_0.all (fun e => decide (decode prog_8_method_49_code e.1 = .ok (e.2.1, e.2.2.1)))) = true := by decide +kernel
theorem dk_M_value : (e_M_value_0.all (fun e => decide (decode prog_8_method_50_code e.1 = .ok (e.2.1, e.2.2.1)))) = true := by decide +kernel
theorem dk_M_client : (e_M_client_0.all (fun e => decide (decode prog_8_method_51_code e.1 = .ok (e.2.1, e.2.2.1)))) = true := by decide +kernel
theorem dk_L_cell : (e_L_cell_0.all (fun e => decide (decode method_2_code e.1 = .ok (e.2.1, e.2.2.1)))) = true := by decide +kernel
theorem dk_L_law : (e_L_law_0.all (fun e => decide (decode code e.1 = .ok (e.2.1, e.2.2.1)))) = true := by decide +kernel
