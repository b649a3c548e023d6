/-! ### the class: a node takes an acknowledgement, a read, a query, an answer -/
/-- the node no longer hands over -/
theorem k_hands {M : ck_M} {R : Nat → Nat → Nat} {S I : Nat → Nat → Int32} {n x : Nat} {v : Int32} (h : cRel M S I R n) (hx : x < 6) (hnds : ndA S) : cRel M (sw S 322 x v) (sw I (257 + 9 * x) 3 v) R n ∧ cFr I (sw I (257 + 9 * x) 3 v) (R 3 1) := by
  obtain ⟨hs, hf, ⟨w1, w2, w3, ⟨w4, w5, w6, w7⟩, w8⟩, hn, hc, hk⟩ := id h
  have bη := isM_b w6
  refine ⟨rel_node h hx hnds (fun b hb => sw_row (by omega)) (fun y hy hne => ?_) (fun b hb => sw_row (by omega)) (fun _ _ => rfl) (fun _ _ => rfl) ?_, fun b h1 h2 => sw_row (by omega), fun b hb => sw_row (by unfold chR at hb; omega), fun b h1 h2 => sw_row (by omega)⟩
  · unfold nEq; simp (disch := omega) only [nI_add, pk_mul, pk_sub, nI_clamp, cin, nI_leI, nI_ltI, nI_eq, m1_lt, m1_le, nle_m1, nlt_m1, neq_m1, m1_neq, m1_add, sw_row, sw_eq, sw_ne, rCopyK_row, rTakeM_row, rShift_row, rPsh_row, Nat.reduceAdd, Nat.reduceMul, Nat.reduceSub, Nat.reduceLeDiff, Nat.reduceEqDiff, true_and, and_true, Classical.not_not, implies_true, true_implies, forall_const]
  · obtain ⟨⟨p0, p1, p2, p3⟩, pc, ⟨p5, p6, p7⟩, ⟨p8, p9⟩, pk, pt, pp⟩ := hn x hx
    unfold nRel
    rw [rBef_sw (by omega), rBeh_sw (by omega), rTl_sw (by omega)]
    unfold aN lN' at *
    simp (disch := omega) only [nI_add, pk_mul, pk_sub, nI_clamp, cin, nI_leI, nI_ltI, nI_eq, m1_lt, m1_le, nle_m1, nlt_m1, neq_m1, m1_neq, m1_add, sw_row, sw_eq, sw_ne, rCopyK_row, rTakeM_row, rShift_row, rPsh_row, Nat.reduceAdd, Nat.reduceMul, Nat.reduceSub, Nat.reduceLeDiff, Nat.reduceEqDiff, true_and, and_true, Classical.not_not, implies_true, true_implies, forall_const]
    exact ⟨⟨p0, p1, p2⟩, chRel_of pc (fun a ha => sw_row (by unfold chR at ha; omega)) (fun _ _ => rfl), ⟨p5, p6, p7⟩, ⟨p8, p9⟩, pk, pt, pp⟩
theorem rCm_ndA {x l n : Nat} : ∀ (j a : Nat) (S : Nat → Nat → Int32), ndA S → rNd S x a l n → a + j ≤ l → ndA (rCm S x a j) := by
  intro j
  induction j with
  | zero => intro a S h _ _; exact h
  | succ j ih =>
    intro a S h hnd hl
    exact ih (a + 1) (rCm1 S x a) (rCm1_ndA h hnd (by omega)) (rCm1_nd hnd (by omega)) (by omega)
theorem rSendAck_nds {S : Nat → Nat → Int32} {x : Nat} (h : ndA S) : ndA (rSendAck S x) := ndA_of h (rSendAck_row (by omega)) (rSendAck_row (by omega)) (rSendAck_row (by omega)) (rSendAck_row (by omega)) (rSendAck_row (by omega))
section C11
variable {xl : Nat} {xs : Nat → Int32} {d : Nat} {M : ck_M} {R : Nat → Nat → Nat} {S I : Nat → Nat → Int32} {n x a l n' k c : Nat}
theorem k_N_takeAck (h : cRel M S I R n) (hnds : ndA S) (hnd : rNd S x a l n') (hch : nCh S x) (u7 : I (R 3 1) 7 = S 317 7) : kO xl xs (d + 3) 64 [some (.inr (257 + 9 * x)), some (.inr (R 3 1)), some (.inr 3)] M R I (rTakeA S x a l) := by
  obtain ⟨hx, hn6, h1, h2, h3, h4, h5, h6, h7⟩ := id hnd
  obtain ⟨hs, hf, ⟨w1, w2, w3, ⟨w4, w5, w6, w7⟩, w8⟩, hn, -⟩ := id h
  obtain ⟨-, -, -, ⟨p8, p9⟩, -⟩ := hn x hx
  rw [h3] at p8
  rw [h2] at p9
  unfold rTakeA
  by_cases b : nI (a + 1) ≤ S 317 7 ∧ S 317 7 ≤ nI l
  · rw [if_pos b]
    obtain ⟨v, v1, v2, ev⟩ := c_le b.1 b.2 (by omega) (by
      have := Int32.le_trans b.1 b.2
      rw [nI_leI (by omega) (by omega)] at this; exact this)
    rw [ev] at u7 ⊢
    rw [nI_clamp (by omega)]
    obtain ⟨J, m, k1, k2, k3⟩ := k_N_commit (xl := xl) (xs := xs) (d := d) (m := v) h hnds hnd hch (by omega) v2
    obtain ⟨g1, g2⟩ := k_hands (v := nI 0) k1 hx (rSendAck_nds (rCm_ndA (v - a) a S hnds hnd (by omega)))
    refine ⟨_, m, g1, cFr_tr k2 g2, fun Q => ?_⟩
    simp only [j_N_takeAck_0, j_N_takeAck_31, e_N_takeAck_0, e_N_takeAck_1, e_N_takeAck_4, e_N_takeAck_5, e_N_takeAck_8, e_N_takeAck_11, e_N_takeAck_12, e_N_takeAck_15, e_N_takeAck_16, e_N_takeAck_19, e_N_takeAck_22, e_N_takeAck_23, e_N_takeAck_24, e_N_takeAck_27, e_N_takeAck_28, e_N_takeAck_31, e_N_takeAck_32, e_N_takeAck_33, e_N_takeAck_36, li_s, la_s, wp_iconst, wp_bipush, wp_sipush, wp_ldc, wp_iload, wp_iload_n, wp_aload, wp_aload_n, wp_istore, wp_istore_n, wp_astore, wp_astore_n, wp_iinc, wp_iadd, wp_isub, wp_imul, wp_iand, wp_irem, wp_dup, wp_pop, wp_goto, wp_if, wp_icmp, wp_ifnull, wp_tsw, wp_get0, wp_get2, wp_get1, wp_put0, wp_put2, wp_put1, wp_iald, wp_sald, wp_iast, wp_bald, wp_bast, wp_aald, wp_aast, wp_alen, wp_slen, wp_new, wp_newa, wp_newq, wp_cast, wp_oinit, wp_clone, wp_copy, wp_callI0, wp_callI1, wp_callI2, wp_callI3, wp_callI4, wp_callI5, wp_callV0, wp_callV1, wp_callV2, wp_callV3, wp_callV4, wp_callV5, wp_callS0, wp_callS1, wp_callS2, wp_callS3, wp_callS4, wp_iret0, wp_iret1, wp_aret, wp_ret, lg_0, lg_1, lg_2, lg_3, lg_4, lg_5, lg_6, lg_7, ls_0, ls_1, ls_2, ls_3, ls_4, ls_5, ls_6, ls_7, oi_m1, oi_0, oi_1, oi_2, oi_3, oi_4, oi_5, bp_6, bp_7, bp_8, bp_9, bp_15, bp_17, bp_18, bp_20, bp_21, bp_24, bp_36, bp_48, bp_50, bp_60, bp_61, sp_1281, sp_9999, lc_100000, lc_1000000, cc_eq, cc_ne, cc_lt, cc_ge, cc_gt, cc_le, z_or0, z_or1, true_and, and_true, Classical.not_not, Option.toList_none, Option.toList_some, List.cons_append, List.nil_append, List.length_cons, List.length_nil, Nat.reduceAdd, Nat.reduceEqDiff, Nat.reduceLeDiff, Nat.zero_le, not_false_eq_true, cB_iv, cB_rv, cB_wi, cB_wr, cB_kd, cB_ln, cB_sz, s_2, s_3, s_4, s_4l, s_255, s_255l, s_256, s_256l, s_311, s_311l, f_21, f_22, f_23, f_24, f_30, s_n hs hx, s_m hs w6, u7, p8, p9, cl_N_commit, k3]
    simp (disch := omega) only [nI_add, pk_mul, pk_sub, nI_clamp, cin, nI_leI, nI_ltI, nI_eq, m1_lt, m1_le, nle_m1, nlt_m1, neq_m1, m1_neq, m1_add, sw_row, sw_eq, sw_ne, rCopyK_row, rTakeM_row, rShift_row, rPsh_row, Nat.reduceAdd, Nat.reduceMul, Nat.reduceSub, Nat.reduceLeDiff, Nat.reduceEqDiff, true_and, and_true, Classical.not_not, implies_true, true_implies, forall_const]
    have f1 : ¬ v ≤ a := by omega
    have f2 : ¬ l < v := by omega
    simp [f1, f2]
  · rw [if_neg b]
    obtain ⟨g1, g2⟩ := k_hands (v := nI 0) h hx hnds
    refine ⟨_, n, g1, g2, fun Q => ?_⟩
    simp only [j_N_takeAck_0, j_N_takeAck_31, e_N_takeAck_0, e_N_takeAck_1, e_N_takeAck_4, e_N_takeAck_5, e_N_takeAck_8, e_N_takeAck_11, e_N_takeAck_12, e_N_takeAck_15, e_N_takeAck_16, e_N_takeAck_19, e_N_takeAck_22, e_N_takeAck_23, e_N_takeAck_24, e_N_takeAck_27, e_N_takeAck_28, e_N_takeAck_31, e_N_takeAck_32, e_N_takeAck_33, e_N_takeAck_36, li_s, la_s, wp_iconst, wp_bipush, wp_sipush, wp_ldc, wp_iload, wp_iload_n, wp_aload, wp_aload_n, wp_istore, wp_istore_n, wp_astore, wp_astore_n, wp_iinc, wp_iadd, wp_isub, wp_imul, wp_iand, wp_irem, wp_dup, wp_pop, wp_goto, wp_if, wp_icmp, wp_ifnull, wp_tsw, wp_get0, wp_get2, wp_get1, wp_put0, wp_put2, wp_put1, wp_iald, wp_sald, wp_iast, wp_bald, wp_bast, wp_aald, wp_aast, wp_alen, wp_slen, wp_new, wp_newa, wp_newq, wp_cast, wp_oinit, wp_clone, wp_copy, wp_callI0, wp_callI1, wp_callI2, wp_callI3, wp_callI4, wp_callI5, wp_callV0, wp_callV1, wp_callV2, wp_callV3, wp_callV4, wp_callV5, wp_callS0, wp_callS1, wp_callS2, wp_callS3, wp_callS4, wp_iret0, wp_iret1, wp_aret, wp_ret, lg_0, lg_1, lg_2, lg_3, lg_4, lg_5, lg_6, lg_7, ls_0, ls_1, ls_2, ls_3, ls_4, ls_5, ls_6, ls_7, oi_m1, oi_0, oi_1, oi_2, oi_3, oi_4, oi_5, bp_6, bp_7, bp_8, bp_9, bp_15, bp_17, bp_18, bp_20, bp_21, bp_24, bp_36, bp_48, bp_50, bp_60, bp_61, sp_1281, sp_9999, lc_100000, lc_1000000, cc_eq, cc_ne, cc_lt, cc_ge, cc_gt, cc_le, z_or0, z_or1, true_and, and_true, Classical.not_not, Option.toList_none, Option.toList_some, List.cons_append, List.nil_append, List.length_cons, List.length_nil, Nat.reduceAdd, Nat.reduceEqDiff, Nat.reduceLeDiff, Nat.zero_le, not_false_eq_true, cB_iv, cB_rv, cB_wi, cB_wr, cB_kd, cB_ln, cB_sz, s_2, s_3, s_4, s_4l, s_255, s_255l, s_256, s_256l, s_311, s_311l, f_21, f_22, f_23, f_24, f_30, s_n hs hx, s_m hs w6, u7, p8, p9, cl_N_commit]
    by_cases b1 : S 317 7 ≤ nI a
    · simp [b1]
    · by_cases b2 : nI l < S 317 7
      · simp [b1, b2]
      · exfalso
        apply b
        refine ⟨?_, Int32.not_lt.mp b2⟩
        have b1' := Int32.not_le.mp b1
        have b2' := Int32.not_lt.mp b2
        obtain ⟨v, v1, v2, ev⟩ := c_le (Int32.le_of_lt b1') b2' (by omega) h4
        rw [ev, nI_ltI (by omega) (by omega)] at b1'
        rw [ev, nI_leI (by omega) (by omega)]
        omega
theorem k_N_takeQuery (h : cRel M S I R n) (hnd : rNd S x a l n') (hk : k < 4) (ek : S 317 5 = nI k) (u3 : I (R 3 1) 3 = S 317 4) (u4 : I (R 3 1) 4 = S 317 3) (u5 : I (R 3 1) 5 = S 317 5) (u8 : I (R 3 1) 8 = S 317 8) : kO xl xs (d + 1) 65 [some (.inr (257 + 9 * x)), some (.inr (R 3 1)), some (.inr 3), none] M R I (rTakeQ S x) := by
  obtain ⟨hx, hn6, h1, h2, h3, h4, h5, h6, h7⟩ := id hnd
  obtain ⟨hs, hf, ⟨w1, w2, w3, ⟨w4, w5, w6, w7⟩, w8⟩, hn, -⟩ := id h
  obtain ⟨-, pc, ⟨p5, p6, p7⟩, -, pk, pt, pp⟩ := hn x hx
  have hqk := pc.2.1
  have hqe := pc.2.2.2.2.2.1
  generalize hq : R (257 + 9 * x) 4 = q at *
  have bη := isM_b w6
  unfold rTakeQ
  cases hT : rTl S x with
  | false =>
    rw [if_neg (by decide)]
    refine ⟨I, n, h, cFr_rf, fun Q => ?_⟩
    simp only [j_N_takeQuery_0, j_N_takeQuery_8, e_N_takeQuery_0, e_N_takeQuery_1, e_N_takeQuery_4, e_N_takeQuery_7, e_N_takeQuery_8, e_N_takeQuery_9, e_N_takeQuery_11, e_N_takeQuery_12, e_N_takeQuery_15, e_N_takeQuery_16, e_N_takeQuery_19, e_N_takeQuery_22, e_N_takeQuery_25, e_N_takeQuery_26, e_N_takeQuery_27, e_N_takeQuery_28, e_N_takeQuery_31, e_N_takeQuery_34, e_N_takeQuery_35, e_N_takeQuery_36, e_N_takeQuery_39, e_N_takeQuery_42, e_N_takeQuery_43, e_N_takeQuery_44, e_N_takeQuery_47, e_N_takeQuery_50, e_N_takeQuery_51, e_N_takeQuery_52, e_N_takeQuery_55, e_N_takeQuery_56, e_N_takeQuery_59, e_N_takeQuery_60, e_N_takeQuery_63, e_N_takeQuery_64, e_N_takeQuery_67, li_s, la_s, wp_iconst, wp_bipush, wp_sipush, wp_ldc, wp_iload, wp_iload_n, wp_aload, wp_aload_n, wp_istore, wp_istore_n, wp_astore, wp_astore_n, wp_iinc, wp_iadd, wp_isub, wp_imul, wp_iand, wp_irem, wp_dup, wp_pop, wp_goto, wp_if, wp_icmp, wp_ifnull, wp_tsw, wp_get0, wp_get2, wp_get1, wp_put0, wp_put2, wp_put1, wp_iald, wp_sald, wp_iast, wp_bald, wp_bast, wp_aald, wp_aast, wp_alen, wp_slen, wp_new, wp_newa, wp_newq, wp_cast, wp_oinit, wp_clone, wp_copy, wp_callI0, wp_callI1, wp_callI2, wp_callI3, wp_callI4, wp_callI5, wp_callV0, wp_callV1, wp_callV2, wp_callV3, wp_callV4, wp_callV5, wp_callS0, wp_callS1, wp_callS2, wp_callS3, wp_callS4, wp_iret0, wp_iret1, wp_aret, wp_ret, lg_0, lg_1, lg_2, lg_3, lg_4, lg_5, lg_6, lg_7, ls_0, ls_1, ls_2, ls_3, ls_4, ls_5, ls_6, ls_7, oi_m1, oi_0, oi_1, oi_2, oi_3, oi_4, oi_5, bp_6, bp_7, bp_8, bp_9, bp_15, bp_17, bp_18, bp_20, bp_21, bp_24, bp_36, bp_48, bp_50, bp_60, bp_61, sp_1281, sp_9999, lc_100000, lc_1000000, cc_eq, cc_ne, cc_lt, cc_ge, cc_gt, cc_le, z_or0, z_or1, true_and, and_true, Classical.not_not, Option.toList_none, Option.toList_some, List.cons_append, List.nil_append, List.length_cons, List.length_nil, Nat.reduceAdd, Nat.reduceEqDiff, Nat.reduceLeDiff, Nat.zero_le, not_false_eq_true, cB_iv, cB_rv, cB_wi, cB_wr, cB_kd, cB_ln, cB_sz, s_2, s_3, s_4, s_4l, s_255, s_255l, s_256, s_256l, s_311, s_311l, f_21, f_22, f_23, f_24, f_30, s_n hs hx, p7, hT]
    simp
  | true =>
    rw [if_pos rfl]
    have hμ : isM (R 4 n) := w4 n (by omega)
    have bμ := isM_b hμ
    have hne := isM_ne hμ w6 (w7 n (by omega))
    obtain ⟨t1, t2⟩ := pk k hk
    rw [ek] at u5 ⊢
    have cc : (nI k).toNatClampNeg = k := nI_clamp (by omega)
    rw [cc]
    generalize hμe : R 4 n = μ at hμ bμ hne
    obtain ⟨k1, k2⟩ := k_send (T := sw (sw S 317 7 (S 328 (4 * x + k))) 317 2 (S 323 x)) (J := sw (sw (sw (sw (sw (sw (sw I μ 0 (nI 6)) μ 1 (S 317 8)) μ 2 (S 323 x)) μ 3 (S 317 4)) μ 4 (S 317 3)) μ 5 (nI k)) μ 7 (S 328 (4 * x + k))) (k := nI 6) (t := S 317 8) h (fun a ha => by simp (disch := omega) only [nI_add, pk_mul, pk_sub, nI_clamp, cin, nI_leI, nI_ltI, nI_eq, m1_lt, m1_le, nle_m1, nlt_m1, neq_m1, m1_neq, m1_add, sw_row, sw_eq, sw_ne, rCopyK_row, rTakeM_row, rShift_row, rPsh_row, Nat.reduceAdd, Nat.reduceMul, Nat.reduceSub, Nat.reduceLeDiff, Nat.reduceEqDiff, true_and, and_true, Classical.not_not, implies_true, true_implies, forall_const]) (fun a ha => by rw [hμe] at ha; simp (disch := omega) only [nI_add, pk_mul, pk_sub, nI_clamp, cin, nI_leI, nI_ltI, nI_eq, m1_lt, m1_le, nle_m1, nlt_m1, neq_m1, m1_neq, m1_add, sw_row, sw_eq, sw_ne, rCopyK_row, rTakeM_row, rShift_row, rPsh_row, Nat.reduceAdd, Nat.reduceMul, Nat.reduceSub, Nat.reduceLeDiff, Nat.reduceEqDiff, true_and, and_true, Classical.not_not, implies_true, true_implies, forall_const]) (by
      rw [hμe]
      unfold gRel
      simp (disch := omega) only [nI_add, pk_mul, pk_sub, nI_clamp, cin, nI_leI, nI_ltI, nI_eq, m1_lt, m1_le, nle_m1, nlt_m1, neq_m1, m1_neq, m1_add, sw_row, sw_eq, sw_ne, rCopyK_row, rTakeM_row, rShift_row, rPsh_row, Nat.reduceAdd, Nat.reduceMul, Nat.reduceSub, Nat.reduceLeDiff, Nat.reduceEqDiff, true_and, and_true, Classical.not_not, implies_true, true_implies, forall_const]
      simp (disch := omega) [nn, ek])
    refine ⟨_, (if n < 60 then n + 1 else n), ?_, k2, fun Q => ?_⟩
    · unfold rSendFrom
      rw [sw_row (a := 323) (by omega)]
      exact k1
    · simp only [j_N_takeQuery_0, j_N_takeQuery_8, e_N_takeQuery_0, e_N_takeQuery_1, e_N_takeQuery_4, e_N_takeQuery_7, e_N_takeQuery_8, e_N_takeQuery_9, e_N_takeQuery_11, e_N_takeQuery_12, e_N_takeQuery_15, e_N_takeQuery_16, e_N_takeQuery_19, e_N_takeQuery_22, e_N_takeQuery_25, e_N_takeQuery_26, e_N_takeQuery_27, e_N_takeQuery_28, e_N_takeQuery_31, e_N_takeQuery_34, e_N_takeQuery_35, e_N_takeQuery_36, e_N_takeQuery_39, e_N_takeQuery_42, e_N_takeQuery_43, e_N_takeQuery_44, e_N_takeQuery_47, e_N_takeQuery_50, e_N_takeQuery_51, e_N_takeQuery_52, e_N_takeQuery_55, e_N_takeQuery_56, e_N_takeQuery_59, e_N_takeQuery_60, e_N_takeQuery_63, e_N_takeQuery_64, e_N_takeQuery_67, li_s, la_s, wp_iconst, wp_bipush, wp_sipush, wp_ldc, wp_iload, wp_iload_n, wp_aload, wp_aload_n, wp_istore, wp_istore_n, wp_astore, wp_astore_n, wp_iinc, wp_iadd, wp_isub, wp_imul, wp_iand, wp_irem, wp_dup, wp_pop, wp_goto, wp_if, wp_icmp, wp_ifnull, wp_tsw, wp_get0, wp_get2, wp_get1, wp_put0, wp_put2, wp_put1, wp_iald, wp_sald, wp_iast, wp_bald, wp_bast, wp_aald, wp_aast, wp_alen, wp_slen, wp_new, wp_newa, wp_newq, wp_cast, wp_oinit, wp_clone, wp_copy, wp_callI0, wp_callI1, wp_callI2, wp_callI3, wp_callI4, wp_callI5, wp_callV0, wp_callV1, wp_callV2, wp_callV3, wp_callV4, wp_callV5, wp_callS0, wp_callS1, wp_callS2, wp_callS3, wp_callS4, wp_iret0, wp_iret1, wp_aret, wp_ret, lg_0, lg_1, lg_2, lg_3, lg_4, lg_5, lg_6, lg_7, ls_0, ls_1, ls_2, ls_3, ls_4, ls_5, ls_6, ls_7, oi_m1, oi_0, oi_1, oi_2, oi_3, oi_4, oi_5, bp_6, bp_7, bp_8, bp_9, bp_15, bp_17, bp_18, bp_20, bp_21, bp_24, bp_36, bp_48, bp_50, bp_60, bp_61, sp_1281, sp_9999, lc_100000, lc_1000000, cc_eq, cc_ne, cc_lt, cc_ge, cc_gt, cc_le, z_or0, z_or1, true_and, and_true, Classical.not_not, Option.toList_none, Option.toList_some, List.cons_append, List.nil_append, List.length_cons, List.length_nil, Nat.reduceAdd, Nat.reduceEqDiff, Nat.reduceLeDiff, Nat.zero_le, not_false_eq_true, cB_iv, cB_rv, cB_wi, cB_wr, cB_kd, cB_ln, cB_sz, s_2, s_3, s_4, s_4l, s_255, s_255l, s_256, s_256l, s_311, s_311l, f_21, f_22, f_23, f_24, f_30, hs, s_n hs hx, s_m hs w6, p7, hT, if_true, hq, hqk, hqe, u8, cl_W_draft]
      rw [c_W_draft hs hf w1 w3 (by rw [hμe]; exact hμ), hμe]
      simp only [j_N_takeQuery_0, j_N_takeQuery_8, e_N_takeQuery_0, e_N_takeQuery_1, e_N_takeQuery_4, e_N_takeQuery_7, e_N_takeQuery_8, e_N_takeQuery_9, e_N_takeQuery_11, e_N_takeQuery_12, e_N_takeQuery_15, e_N_takeQuery_16, e_N_takeQuery_19, e_N_takeQuery_22, e_N_takeQuery_25, e_N_takeQuery_26, e_N_takeQuery_27, e_N_takeQuery_28, e_N_takeQuery_31, e_N_takeQuery_34, e_N_takeQuery_35, e_N_takeQuery_36, e_N_takeQuery_39, e_N_takeQuery_42, e_N_takeQuery_43, e_N_takeQuery_44, e_N_takeQuery_47, e_N_takeQuery_50, e_N_takeQuery_51, e_N_takeQuery_52, e_N_takeQuery_55, e_N_takeQuery_56, e_N_takeQuery_59, e_N_takeQuery_60, e_N_takeQuery_63, e_N_takeQuery_64, e_N_takeQuery_67, li_s, la_s, wp_iconst, wp_bipush, wp_sipush, wp_ldc, wp_iload, wp_iload_n, wp_aload, wp_aload_n, wp_istore, wp_istore_n, wp_astore, wp_astore_n, wp_iinc, wp_iadd, wp_isub, wp_imul, wp_iand, wp_irem, wp_dup, wp_pop, wp_goto, wp_if, wp_icmp, wp_ifnull, wp_tsw, wp_get0, wp_get2, wp_get1, wp_put0, wp_put2, wp_put1, wp_iald, wp_sald, wp_iast, wp_bald, wp_bast, wp_aald, wp_aast, wp_alen, wp_slen, wp_new, wp_newa, wp_newq, wp_cast, wp_oinit, wp_clone, wp_copy, wp_callI0, wp_callI1, wp_callI2, wp_callI3, wp_callI4, wp_callI5, wp_callV0, wp_callV1, wp_callV2, wp_callV3, wp_callV4, wp_callV5, wp_callS0, wp_callS1, wp_callS2, wp_callS3, wp_callS4, wp_iret0, wp_iret1, wp_aret, wp_ret, lg_0, lg_1, lg_2, lg_3, lg_4, lg_5, lg_6, lg_7, ls_0, ls_1, ls_2, ls_3, ls_4, ls_5, ls_6, ls_7, oi_m1, oi_0, oi_1, oi_2, oi_3, oi_4, oi_5, bp_6, bp_7, bp_8, bp_9, bp_15, bp_17, bp_18, bp_20, bp_21, bp_24, bp_36, bp_48, bp_50, bp_60, bp_61, sp_1281, sp_9999, lc_100000, lc_1000000, cc_eq, cc_ne, cc_lt, cc_ge, cc_gt, cc_le, z_or0, z_or1, true_and, and_true, Classical.not_not, Option.toList_none, Option.toList_some, List.cons_append, List.nil_append, List.length_cons, List.length_nil, Nat.reduceAdd, Nat.reduceEqDiff, Nat.reduceLeDiff, Nat.zero_le, not_false_eq_true, cB_iv, cB_rv, cB_wi, cB_wr, cB_kd, cB_ln, cB_sz, s_2, s_3, s_4, s_4l, s_255, s_255l, s_256, s_256l, s_311, s_311l, f_21, f_22, f_23, f_24, f_30, hs, hf, s_n hs hx, s_n1 hs hx, s_n1l hs hx, f_n10 hf hx, s_m hs hμ, s_m hs w6, cl_W_sendDraft]
      simp (disch := omega) only [nI_add, pk_mul, pk_sub, nI_clamp, cin, nI_leI, nI_ltI, nI_eq, m1_lt, m1_le, nle_m1, nlt_m1, neq_m1, m1_neq, m1_add, sw_row, sw_eq, sw_ne, rCopyK_row, rTakeM_row, rShift_row, rPsh_row, Nat.reduceAdd, Nat.reduceMul, Nat.reduceSub, Nat.reduceLeDiff, Nat.reduceEqDiff, true_and, and_true, Classical.not_not, implies_true, true_implies, forall_const, u3, u4, u5, t1]
      rw [c_W_sendDraft hs w1 (by simp (disch := omega) only [nI_add, pk_mul, pk_sub, nI_clamp, cin, nI_leI, nI_ltI, nI_eq, m1_lt, m1_le, nle_m1, nlt_m1, neq_m1, m1_neq, m1_add, sw_row, sw_eq, sw_ne, rCopyK_row, rTakeM_row, rShift_row, rPsh_row, Nat.reduceAdd, Nat.reduceMul, Nat.reduceSub, Nat.reduceLeDiff, Nat.reduceEqDiff, true_and, and_true, Classical.not_not, implies_true, true_implies, forall_const, w3])]
      simp only [li_s, la_s, wp_iconst, wp_bipush, wp_sipush, wp_ldc, wp_iload, wp_iload_n, wp_aload, wp_aload_n, wp_istore, wp_istore_n, wp_astore, wp_astore_n, wp_iinc, wp_iadd, wp_isub, wp_imul, wp_iand, wp_irem, wp_dup, wp_pop, wp_goto, wp_if, wp_icmp, wp_ifnull, wp_tsw, wp_get0, wp_get2, wp_get1, wp_put0, wp_put2, wp_put1, wp_iald, wp_sald, wp_iast, wp_bald, wp_bast, wp_aald, wp_aast, wp_alen, wp_slen, wp_new, wp_newa, wp_newq, wp_cast, wp_oinit, wp_clone, wp_copy, wp_callI0, wp_callI1, wp_callI2, wp_callI3, wp_callI4, wp_callI5, wp_callV0, wp_callV1, wp_callV2, wp_callV3, wp_callV4, wp_callV5, wp_callS0, wp_callS1, wp_callS2, wp_callS3, wp_callS4, wp_iret0, wp_iret1, wp_aret, wp_ret, lg_0, lg_1, lg_2, lg_3, lg_4, lg_5, lg_6, lg_7, ls_0, ls_1, ls_2, ls_3, ls_4, ls_5, ls_6, ls_7, oi_m1, oi_0, oi_1, oi_2, oi_3, oi_4, oi_5, bp_6, bp_7, bp_8, bp_9, bp_15, bp_17, bp_18, bp_20, bp_21, bp_24, bp_36, bp_48, bp_50, bp_60, bp_61, sp_1281, sp_9999, lc_100000, lc_1000000, cc_eq, cc_ne, cc_lt, cc_ge, cc_gt, cc_le, z_or0, z_or1, true_and, and_true, Classical.not_not, Option.toList_none, Option.toList_some, List.cons_append, List.nil_append, List.length_cons, List.length_nil, Nat.reduceAdd, Nat.reduceEqDiff, Nat.reduceLeDiff, Nat.zero_le, not_false_eq_true]
      simp [n10']
end C11
