/-! ### the class: the wire -/
/-- only the wire has changed -/
theorem rel_wire {M : ck_M} {S T I J : Nat → Nat → Int32} {R P : Nat → Nat → Nat} {n m : Nat} (h : cRel M S I R n) (hS : ∀ a, ¬ (315 ≤ a ∧ a ≤ 317) → T a = S a) (hS5 : ∀ j, ¬ j = 2 → T 315 j = S 315 j) (hI : ∀ a, ¬ (3 ≤ a ∧ a ≤ 252) → J a = I a) (hP : ∀ a, ¬ (3 ≤ a ∧ a ≤ 252) → P a = R a) (hf : cRf P) (hw : wRel M T J P m) : cRel M T J P m := by
  obtain ⟨hs, -, -, hn, hc, hk⟩ := h
  have hC : ∀ a, chR a → J a = I a := fun a ha => hI a (by unfold chR at ha; omega)
  have hPC : ∀ a, chR a → P a = R a := fun a ha => hP a (by unfold chR at ha; omega)
  exact ⟨hs, hf, hw, fun x hx => nRel_of (hn x hx) (fun a h1 h2 => hI a (by omega)) hC hPC (by rw [hP _ (by omega)]) (fun a h1 h2 => hS a (by omega)), fun c hc' => clRel_of (hc c hc') (hI _ (by omega)) (fun a h1 h2 => hS a (by omega)), kRel_of hk (hI 2 (by omega)) (hI 256 (by omega)) hC hPC (by rw [hP 2 (by omega)]) hS5 (hS 318 (by omega)) (hS 319 (by omega))⟩
def shR (R : Nat → Nat → Nat) (i k : Nat) : Nat → Nat → Nat := fun a j => if a = 4 ∧ i ≤ j ∧ j < k then R 4 (j + 1) else R a j
theorem shR_0 (R : Nat → Nat → Nat) (i : Nat) : shR R i i = R := by
  funext a j
  exact if_neg (fun q => by omega)
theorem shR_row {R : Nat → Nat → Nat} {i k a : Nat} (h : ¬ a = 4) : shR R i k a = R a := by
  funext j
  exact if_neg (fun q => h q.1)
theorem shR_hi {R : Nat → Nat → Nat} {i k j : Nat} (h : ¬ j < k) : shR R i k 4 j = R 4 j := if_neg (fun q => h q.2.2)
theorem shR_s (R : Nat → Nat → Nat) {i k : Nat} (h : i ≤ k) : swR (shR R i k) 4 k (R 4 (k + 1)) = shR R i (k + 1) := by
  funext a j
  unfold swR shR
  by_cases h1 : a = 4 ∧ j = k
  · obtain ⟨rfl, rfl⟩ := h1
    rw [if_pos ⟨rfl, rfl⟩, if_pos ⟨rfl, h, by omega⟩]
  · rw [if_neg h1]
    by_cases h2 : a = 4 ∧ i ≤ j ∧ j < k
    · rw [if_pos h2, if_pos ⟨h2.1, h2.2.1, by omega⟩]
    · rw [if_neg h2, if_neg (fun q => h2 ⟨q.1, q.2.1, by
        have : ¬ j = k := fun z => h1 ⟨q.1, z⟩
        omega⟩)]
def toR (R : Nat → Nat → Nat) (n i : Nat) : Nat → Nat → Nat := swR (swR (shR R i (n - 1)) 4 (n - 1) (R 3 1)) 3 1 (R 4 i)
theorem toR_row {R : Nat → Nat → Nat} {n i a : Nat} (h : ¬ (a = 3 ∨ a = 4)) : toR R n i a = R a := by
  unfold toR; rw [swR_row (by omega), swR_row (by omega), shR_row (by omega)]
theorem toR_31 {R : Nat → Nat → Nat} {n i : Nat} : toR R n i 3 1 = R 4 i := by unfold toR; rw [swR_eq]
theorem toR_30 {R : Nat → Nat → Nat} {n i j : Nat} (h : ¬ j = 1) : toR R n i 3 j = R 3 j := by
  unfold toR; rw [swR_ne h, swR_row (by omega), shR_row (by omega)]
theorem toR_4 {R : Nat → Nat → Nat} {n i j : Nat} : toR R n i 4 j = if j = n - 1 then R 3 1 else if i ≤ j ∧ j < n - 1 then R 4 (j + 1) else R 4 j := by
  unfold toR
  rw [swR_row (by omega)]
  by_cases h : j = n - 1
  · subst h; rw [swR_eq, if_pos rfl]
  · rw [swR_ne h, if_neg h]
    unfold shR
    by_cases h2 : i ≤ j ∧ j < n - 1
    · rw [if_pos ⟨rfl, h2⟩, if_pos h2]
    · rw [if_neg (fun q => h2 q.2), if_neg h2]
theorem toR_rf {R : Nat → Nat → Nat} {n i : Nat} (h : cRf R) : cRf (toR R n i) := cRf_of h (fun j _ => by rw [toR_row (by omega)]) (toR_30 (by omega)) (toR_row (by omega)) (fun x hx j _ => by rw [toR_row (by omega)]) (toR_row (by omega)) (fun r hr j _ => by rw [toR_row (by have := isM_b hr; omega)])
section C19
variable {xl : Nat} {xs : Nat → Int32} {d : Nat} {M : ck_M} {R : Nat → Nat → Nat} {S I : Nat → Nat → Int32} {n i : Nat}
theorem c_W_takeOut_l {Q : Option ck_V → ck_M → Prop} (hs : cSh M) (hf : cRf R) (hn : n ≤ 60) (hm : I 3 2 = nI n) (h1 : 1 ≤ n) (hM : ∀ j, j < 61 → isM (R 4 j)) (h3 : isM (R 3 1)) (hi : i < n) : ∀ (j k : Nat), k + j = n - 1 → i ≤ k → ck_Ev ck_P xl xs d 31 9 [some (.inr 3), some (.inl (nI i)), some (.inr (R 4 i)), some (.inl (nI k))] [] (cB M I (shR R i k)) Q = Q (some (.inr (R 4 i))) (cB M (sw I 3 2 (nI (n - 1))) (toR R n i)) := by
  intro j
  induction j with
  | zero =>
    intro k hk hik
    have e : k = n - 1 := by omega
    subst e
    have r30 : shR R i (n - 1) 3 = R 3 := shR_row (by omega)
    have kη := s_m hs h3
    have kμ := s_m hs (hM i (by omega))
    rw [j_W_takeOut_9]
    simp only [j_W_takeOut_0, j_W_takeOut_39, e_W_takeOut_0, e_W_takeOut_1, e_W_takeOut_4, e_W_takeOut_5, e_W_takeOut_6, e_W_takeOut_7, e_W_takeOut_8, e_W_takeOut_9, e_W_takeOut_10, e_W_takeOut_11, e_W_takeOut_14, e_W_takeOut_15, e_W_takeOut_16, e_W_takeOut_19, e_W_takeOut_20, e_W_takeOut_23, e_W_takeOut_24, e_W_takeOut_25, e_W_takeOut_28, e_W_takeOut_29, e_W_takeOut_30, e_W_takeOut_31, e_W_takeOut_32, e_W_takeOut_33, e_W_takeOut_36, e_W_takeOut_39, e_W_takeOut_40, e_W_takeOut_43, e_W_takeOut_44, e_W_takeOut_47, e_W_takeOut_48, e_W_takeOut_49, e_W_takeOut_50, e_W_takeOut_53, e_W_takeOut_54, e_W_takeOut_55, e_W_takeOut_56, e_W_takeOut_59, e_W_takeOut_60, e_W_takeOut_61, e_W_takeOut_64, e_W_takeOut_65, e_W_takeOut_66, e_W_takeOut_69, e_W_takeOut_70, li_s, la_s, wp_iconst, wp_bipush, wp_sipush, wp_ldc, wp_iload, wp_iload_n, wp_aload, wp_aload_n, wp_istore, wp_istore_n, wp_astore, wp_astore_n, wp_iinc, wp_iadd, wp_isub, wp_imul, wp_iand, wp_irem, wp_dup, wp_pop, wp_goto, wp_if, wp_icmp, wp_ifnull, wp_tsw, wp_get0, wp_get2, wp_get1, wp_put0, wp_put2, wp_put1, wp_iald, wp_sald, wp_iast, wp_bald, wp_bast, wp_aald, wp_aast, wp_alen, wp_slen, wp_new, wp_newa, wp_newq, wp_cast, wp_oinit, wp_clone, wp_copy, wp_callI0, wp_callI1, wp_callI2, wp_callI3, wp_callI4, wp_callI5, wp_callV0, wp_callV1, wp_callV2, wp_callV3, wp_callV4, wp_callV5, wp_callS0, wp_callS1, wp_callS2, wp_callS3, wp_callS4, wp_iret0, wp_iret1, wp_aret, wp_ret, lg_0, lg_1, lg_2, lg_3, lg_4, lg_5, lg_6, lg_7, ls_0, ls_1, ls_2, ls_3, ls_4, ls_5, ls_6, ls_7, oi_m1, oi_0, oi_1, oi_2, oi_3, oi_4, oi_5, bp_6, bp_7, bp_8, bp_9, bp_15, bp_17, bp_18, bp_20, bp_21, bp_24, bp_36, bp_48, bp_50, bp_60, bp_61, sp_1281, sp_9999, lc_100000, lc_1000000, cc_eq, cc_ne, cc_lt, cc_ge, cc_gt, cc_le, z_or0, z_or1, true_and, and_true, Classical.not_not, Option.toList_none, Option.toList_some, List.cons_append, List.nil_append, List.length_cons, List.length_nil, Nat.reduceAdd, Nat.reduceEqDiff, Nat.reduceLeDiff, Nat.zero_le, not_false_eq_true, cB_iv, cB_rv, cB_wi, cB_wr, cB_kd, cB_ln, cB_sz, s_2, s_3, s_4, s_4l, s_255, s_255l, s_256, s_256l, s_311, s_311l, f_21, f_22, f_23, f_24, f_30, hs, hm, r30, hf, kη, kμ, swR_row (show ¬ 3 = 4 by omega)]
    simp (disch := omega) only [nI_add, pk_mul, pk_sub, nI_clamp, cin, nI_leI, nI_ltI, nI_eq, m1_lt, m1_le, nle_m1, nlt_m1, neq_m1, m1_neq, m1_add, sw_row, sw_eq, sw_ne, rCopyK_row, rTakeM_row, rShift_row, rPsh_row, Nat.reduceAdd, Nat.reduceMul, Nat.reduceSub, Nat.reduceLeDiff, Nat.reduceEqDiff, true_and, and_true, Classical.not_not, implies_true, true_implies, forall_const, hm]
    simp only [Nat.le_refl, true_implies, not_true_eq_false, false_implies, and_true]
    rfl
  | succ j ih =>
    intro k hk hik
    have r30 : shR R i k 3 = R 3 := shR_row (by omega)
    have hk1 := hM (k + 1) (by omega)
    have kk := s_m hs hk1
    have hsh : shR R i k 4 (k + 1) = R 4 (k + 1) := shR_hi (by omega)
    rw [j_W_takeOut_9]
    simp only [j_W_takeOut_0, j_W_takeOut_39, e_W_takeOut_0, e_W_takeOut_1, e_W_takeOut_4, e_W_takeOut_5, e_W_takeOut_6, e_W_takeOut_7, e_W_takeOut_8, e_W_takeOut_9, e_W_takeOut_10, e_W_takeOut_11, e_W_takeOut_14, e_W_takeOut_15, e_W_takeOut_16, e_W_takeOut_19, e_W_takeOut_20, e_W_takeOut_23, e_W_takeOut_24, e_W_takeOut_25, e_W_takeOut_28, e_W_takeOut_29, e_W_takeOut_30, e_W_takeOut_31, e_W_takeOut_32, e_W_takeOut_33, e_W_takeOut_36, e_W_takeOut_39, e_W_takeOut_40, e_W_takeOut_43, e_W_takeOut_44, e_W_takeOut_47, e_W_takeOut_48, e_W_takeOut_49, e_W_takeOut_50, e_W_takeOut_53, e_W_takeOut_54, e_W_takeOut_55, e_W_takeOut_56, e_W_takeOut_59, e_W_takeOut_60, e_W_takeOut_61, e_W_takeOut_64, e_W_takeOut_65, e_W_takeOut_66, e_W_takeOut_69, e_W_takeOut_70, li_s, la_s, wp_iconst, wp_bipush, wp_sipush, wp_ldc, wp_iload, wp_iload_n, wp_aload, wp_aload_n, wp_istore, wp_istore_n, wp_astore, wp_astore_n, wp_iinc, wp_iadd, wp_isub, wp_imul, wp_iand, wp_irem, wp_dup, wp_pop, wp_goto, wp_if, wp_icmp, wp_ifnull, wp_tsw, wp_get0, wp_get2, wp_get1, wp_put0, wp_put2, wp_put1, wp_iald, wp_sald, wp_iast, wp_bald, wp_bast, wp_aald, wp_aast, wp_alen, wp_slen, wp_new, wp_newa, wp_newq, wp_cast, wp_oinit, wp_clone, wp_copy, wp_callI0, wp_callI1, wp_callI2, wp_callI3, wp_callI4, wp_callI5, wp_callV0, wp_callV1, wp_callV2, wp_callV3, wp_callV4, wp_callV5, wp_callS0, wp_callS1, wp_callS2, wp_callS3, wp_callS4, wp_iret0, wp_iret1, wp_aret, wp_ret, lg_0, lg_1, lg_2, lg_3, lg_4, lg_5, lg_6, lg_7, ls_0, ls_1, ls_2, ls_3, ls_4, ls_5, ls_6, ls_7, oi_m1, oi_0, oi_1, oi_2, oi_3, oi_4, oi_5, bp_6, bp_7, bp_8, bp_9, bp_15, bp_17, bp_18, bp_20, bp_21, bp_24, bp_36, bp_48, bp_50, bp_60, bp_61, sp_1281, sp_9999, lc_100000, lc_1000000, cc_eq, cc_ne, cc_lt, cc_ge, cc_gt, cc_le, z_or0, z_or1, true_and, and_true, Classical.not_not, Option.toList_none, Option.toList_some, List.cons_append, List.nil_append, List.length_cons, List.length_nil, Nat.reduceAdd, Nat.reduceEqDiff, Nat.reduceLeDiff, Nat.zero_le, not_false_eq_true, cB_iv, cB_rv, cB_wi, cB_wr, cB_kd, cB_ln, cB_sz, s_2, s_3, s_4, s_4l, s_255, s_255l, s_256, s_256l, s_311, s_311l, f_21, f_22, f_23, f_24, f_30, hs, hm, r30, hf]
    simp (disch := omega) only [nI_add, pk_mul, pk_sub, nI_clamp, cin, nI_leI, nI_ltI, nI_eq, m1_lt, m1_le, nle_m1, nlt_m1, neq_m1, m1_neq, m1_add, sw_row, sw_eq, sw_ne, rCopyK_row, rTakeM_row, rShift_row, rPsh_row, Nat.reduceAdd, Nat.reduceMul, Nat.reduceSub, Nat.reduceLeDiff, Nat.reduceEqDiff, true_and, and_true, Classical.not_not, implies_true, true_implies, forall_const, hsh, kk]
    rw [shR_s R hik, ih (k + 1) (by omega) (by omega)]
    have b : ¬ n - 1 ≤ k := by omega
    simp [b]
theorem c_W_takeOut {Q : Option ck_V → ck_M → Prop} (hs : cSh M) (hf : cRf R) (hn : n ≤ 60) (hm : I 3 2 = nI n) (hM : ∀ j, j < 61 → isM (R 4 j)) (h3 : isM (R 3 1)) (hi : i < n) : ck_Ev ck_P xl xs d 31 0 [some (.inr 3), some (.inl (nI i)), none, none] [] (cB M I R) Q = Q (some (.inr (R 4 i))) (cB M (sw I 3 2 (nI (n - 1))) (toR R n i)) := by
  have := c_W_takeOut_l (xl := xl) (xs := xs) (d := d) (Q := Q) hs hf hn hm (by omega) hM h3 hi (n - 1 - i) i (by omega) (Nat.le_refl i)
  rw [shR_0] at this
  rw [← this]
  simp only [j_W_takeOut_0, j_W_takeOut_39, e_W_takeOut_0, e_W_takeOut_1, e_W_takeOut_4, e_W_takeOut_5, e_W_takeOut_6, e_W_takeOut_7, e_W_takeOut_8, e_W_takeOut_10, e_W_takeOut_11, e_W_takeOut_14, e_W_takeOut_15, e_W_takeOut_16, e_W_takeOut_19, e_W_takeOut_20, e_W_takeOut_23, e_W_takeOut_24, e_W_takeOut_25, e_W_takeOut_28, e_W_takeOut_29, e_W_takeOut_30, e_W_takeOut_31, e_W_takeOut_32, e_W_takeOut_33, e_W_takeOut_36, e_W_takeOut_39, e_W_takeOut_40, e_W_takeOut_43, e_W_takeOut_44, e_W_takeOut_47, e_W_takeOut_48, e_W_takeOut_49, e_W_takeOut_50, e_W_takeOut_53, e_W_takeOut_54, e_W_takeOut_55, e_W_takeOut_56, e_W_takeOut_59, e_W_takeOut_60, e_W_takeOut_61, e_W_takeOut_64, e_W_takeOut_65, e_W_takeOut_66, e_W_takeOut_69, e_W_takeOut_70, li_s, la_s, wp_iconst, wp_bipush, wp_sipush, wp_ldc, wp_iload, wp_iload_n, wp_aload, wp_aload_n, wp_istore, wp_istore_n, wp_astore, wp_astore_n, wp_iinc, wp_iadd, wp_isub, wp_imul, wp_iand, wp_irem, wp_dup, wp_pop, wp_goto, wp_if, wp_icmp, wp_ifnull, wp_tsw, wp_get0, wp_get2, wp_get1, wp_put0, wp_put2, wp_put1, wp_iald, wp_sald, wp_iast, wp_bald, wp_bast, wp_aald, wp_aast, wp_alen, wp_slen, wp_new, wp_newa, wp_newq, wp_cast, wp_oinit, wp_clone, wp_copy, wp_callI0, wp_callI1, wp_callI2, wp_callI3, wp_callI4, wp_callI5, wp_callV0, wp_callV1, wp_callV2, wp_callV3, wp_callV4, wp_callV5, wp_callS0, wp_callS1, wp_callS2, wp_callS3, wp_callS4, wp_iret0, wp_iret1, wp_aret, wp_ret, lg_0, lg_1, lg_2, lg_3, lg_4, lg_5, lg_6, lg_7, ls_0, ls_1, ls_2, ls_3, ls_4, ls_5, ls_6, ls_7, oi_m1, oi_0, oi_1, oi_2, oi_3, oi_4, oi_5, bp_6, bp_7, bp_8, bp_9, bp_15, bp_17, bp_18, bp_20, bp_21, bp_24, bp_36, bp_48, bp_50, bp_60, bp_61, sp_1281, sp_9999, lc_100000, lc_1000000, cc_eq, cc_ne, cc_lt, cc_ge, cc_gt, cc_le, z_or0, z_or1, true_and, and_true, Classical.not_not, Option.toList_none, Option.toList_some, List.cons_append, List.nil_append, List.length_cons, List.length_nil, Nat.reduceAdd, Nat.reduceEqDiff, Nat.reduceLeDiff, Nat.zero_le, not_false_eq_true, cB_iv, cB_rv, cB_wi, cB_wr, cB_kd, cB_ln, cB_sz, s_2, s_3, s_4, s_4l, s_255, s_255l, s_256, s_256l, s_311, s_311l, f_21, f_22, f_23, f_24, f_30, hs, hf]
  simp (disch := omega) only [nI_add, pk_mul, pk_sub, nI_clamp, cin, nI_leI, nI_ltI, nI_eq, m1_lt, m1_le, nle_m1, nlt_m1, neq_m1, m1_neq, m1_add, sw_row, sw_eq, sw_ne, rCopyK_row, rTakeM_row, rShift_row, rPsh_row, Nat.reduceAdd, Nat.reduceMul, Nat.reduceSub, Nat.reduceLeDiff, Nat.reduceEqDiff, true_and, and_true, Classical.not_not, implies_true, true_implies, forall_const]
  rw [← j_W_takeOut_9]
theorem rTake_316 {j : Nat} (hn : n ≤ 60) (hm : S 315 2 = nI n) : rTake S i 316 j = if 21 * i ≤ j ∧ j < 21 * (n - 1) then S 316 (j + 21) else S 316 j := by
  unfold rTake rShift
  have e : (nI n).toNatClampNeg = n := nI_clamp (by omega)
  rw [hm, e, sw_row (by omega), rTakeM_row (by omega)]
  by_cases h : 21 * i ≤ j ∧ j < 21 * (n - 1)
  · rw [if_pos ⟨rfl, h⟩, if_pos h]
  · rw [if_neg (fun q => h q.2), if_neg h]
theorem rTake_315 {j : Nat} (h : ¬ j = 2) : rTake S i 315 j = S 315 j := by
  unfold rTake
  rw [rShift_row (by omega), sw_ne h, rTakeM_row (by omega)]
theorem k_takeOut (h : cRel M S I R n) (hi : i < n) : cRel M (rTake S i) (sw I 3 2 (nI (n - 1))) (toR R n i) (n - 1) ∧ gRel M (sw I 3 2 (nI (n - 1))) (toR R n i) (toR R n i 3 1) (rTake S i 317) := by
  obtain ⟨hs, hf, ⟨w1, w2, w3, ⟨w4, w5, w6, w7⟩, w8⟩, -⟩ := id h
  have old : ∀ k, k < n → ∀ f : Nat → Int32, (∀ j, j < 21 → f j = S 316 (21 * k + j)) → gRel M (sw I 3 2 (nI (n - 1))) (toR R n i) (R 4 k) f := fun k hk f hf => by
    have hμ := w4 k (by omega)
    have bμ := isM_b hμ
    exact gRel_of (w8 k hk) (fun a h1 h2 => sw_row (by omega)) (fun a ha => sw_row (by unfold chR at ha; omega)) (fun a ha => toR_row (by unfold chR at ha; omega)) (by rw [toR_row (by omega)]) hf
  refine ⟨rel_wire h (fun a ha => rTake_row (by omega)) (fun j hj => rTake_315 hj) (fun a ha => sw_row (by omega)) (fun a ha => toR_row (by omega)) (toR_rf hf) ⟨by omega, rTake_n w2 (by omega), by rw [sw_eq], ?_, fun k hk => ?_⟩, ?_⟩
  · rw [toR_31]
    refine ⟨fun j hj => ?_, fun j k hj hk e => ?_, w4 i (by omega), fun j hj e => ?_⟩
    · rw [toR_4]
      split
      · exact w6
      · split
        · exact w4 _ (by omega)
        · exact w4 _ hj
    · rw [toR_4, toR_4] at e
      by_cases j1 : j = n - 1
      · by_cases k1 : k = n - 1
        · omega
        · rw [if_pos j1, if_neg k1] at e
          by_cases k2 : i ≤ k ∧ k < n - 1
          · rw [if_pos k2] at e; exact absurd e.symm (w7 _ (by omega))
          · rw [if_neg k2] at e; exact absurd e.symm (w7 _ hk)
      · rw [if_neg j1] at e
        by_cases k1 : k = n - 1
        · rw [if_pos k1] at e
          by_cases j2 : i ≤ j ∧ j < n - 1
          · rw [if_pos j2] at e; exact absurd e (w7 _ (by omega))
          · rw [if_neg j2] at e; exact absurd e (w7 _ hj)
        · rw [if_neg k1] at e
          by_cases j2 : i ≤ j ∧ j < n - 1
          · rw [if_pos j2] at e
            by_cases k2 : i ≤ k ∧ k < n - 1
            · rw [if_pos k2] at e
              have := w5 _ _ (by omega) (by omega) e
              omega
            · rw [if_neg k2] at e
              have := w5 _ _ (by omega) (by omega) e
              omega
          · rw [if_neg j2] at e
            by_cases k2 : i ≤ k ∧ k < n - 1
            · rw [if_pos k2] at e
              have := w5 _ _ (by omega) (by omega) e
              omega
            · rw [if_neg k2] at e
              exact w5 _ _ hj hk e
    · rw [toR_4] at e
      by_cases j1 : j = n - 1
      · rw [if_pos j1] at e
        exact absurd e.symm (w7 i (by omega))
      · rw [if_neg j1] at e
        by_cases j2 : i ≤ j ∧ j < n - 1
        · rw [if_pos j2] at e
          have := w5 _ _ (by omega) (by omega) e
          omega
        · rw [if_neg j2] at e
          have := w5 _ _ (by omega) (by omega) e
          omega
  · rw [toR_4, if_neg (by omega)]
    by_cases k2 : i ≤ k ∧ k < n - 1
    · rw [if_pos k2]
      refine old (k + 1) (by omega) _ (fun j hj => ?_)
      show rTake S i 316 (21 * k + j) = _
      rw [rTake_316 w1 w2, if_pos ⟨by omega, by omega⟩, show 21 * k + j + 21 = 21 * (k + 1) + j by omega]
    · rw [if_neg k2]
      refine old k (by omega) _ (fun j hj => ?_)
      show rTake S i 316 (21 * k + j) = _
      rw [rTake_316 w1 w2, if_neg (by omega)]
  · rw [toR_31]
    exact old i hi _ (fun j hj => rTake_m hj)
end C19
