/-! ### the reference: a node's chain, acknowledgements, updates -/
def rQ (f : Nat → Int32) (x : Nat) : Nat → Nat
  | 0 => 0
  | n + 1 => if f (6 * x + n) = nI x then n + 1 else rQ f x n
theorem rQ_le (f : Nat → Int32) (x : Nat) : ∀ n, rQ f x n ≤ n := by
  intro n
  induction n with
  | zero => exact Nat.le_refl 0
  | succ n ih => unfold rQ; split <;> omega
theorem rPl_q (f : Nat → Int32) (x : Nat) : ∀ n, rPl f x n = if rQ f x n = 0 then -1 else nI (rQ f x n - 1) := by
  intro n
  induction n with
  | zero => rfl
  | succ n ih =>
    unfold rPl rQ
    by_cases h : f (6 * x + n) = nI x
    · simp [h]
    · simp only [h, if_false]; exact ih
def rLen (I : Nat → Nat → Int32) (x : Nat) : Nat := (I 324 x).toNatClampNeg
def rq (I : Nat → Nat → Int32) (x : Nat) : Nat := rQ (I 325) x (rLen I x)
def rBef (I : Nat → Nat → Int32) (x : Nat) : Int32 := if 2 ≤ rq I x then I 325 (6 * x + (rq I x - 2)) else -1
def rBeh (I : Nat → Nat → Int32) (x : Nat) : Int32 := if 1 ≤ rq I x ∧ rq I x < rLen I x then I 325 (6 * x + rq I x) else -1
def rTl (I : Nat → Nat → Int32) (x : Nat) : Bool := decide (1 ≤ rq I x) && decide (rBeh I x < nI 0)
section R3
variable {xl : Nat} {xs : Nat → Int32} {d : Nat} {Q : Option ck_V → ck_M → Prop} {M : ck_M} {I : Nat → Nat → Int32}
theorem rLen_eq {x n : Nat} (hn : n ≤ 6) (hl : I 324 x = nI n) : rLen I x = n := by
  unfold rLen
  rw [hl, nI_clamp (by omega)]
theorem rq_le (x : Nat) : rq I x ≤ rLen I x := rQ_le _ _ _
theorem c_M_before (hs : rSh M) {x n : Nat} (hx : x < 6) (hn : n ≤ 6) (hl : I 324 x = nI n) : ck_Ev ck_P xl xs (d + 1) 101 0 [some (.inr 315), some (.inl (nI x)), none] [] (rB M I) Q = Q (some (.inl (rBef I x))) (rB M I) := by
  simp only [j_M_before_0, j_M_before_26, j_M_before_27, e_M_before_0, e_M_before_1, e_M_before_2, e_M_before_5, e_M_before_6, e_M_before_7, e_M_before_10, e_M_before_11, e_M_before_14, e_M_before_16, e_M_before_17, e_M_before_18, e_M_before_19, e_M_before_20, e_M_before_21, e_M_before_22, e_M_before_23, e_M_before_26, e_M_before_27, li_s, la_s, wp_iconst, wp_bipush, wp_sipush, wp_ldc, wp_iload, wp_iload_n, wp_aload, wp_aload_n, wp_istore, wp_istore_n, wp_astore, wp_astore_n, wp_iinc, wp_iadd, wp_isub, wp_imul, wp_iand, wp_irem, wp_dup, wp_pop, wp_goto, wp_if, wp_icmp, wp_ifnull, wp_tsw, wp_get0, wp_get2, wp_get1, wp_put0, wp_put2, wp_put1, wp_iald, wp_sald, wp_iast, wp_bald, wp_bast, wp_aald, wp_aast, wp_alen, wp_slen, wp_new, wp_newa, wp_newq, wp_cast, wp_oinit, wp_clone, wp_copy, wp_callI0, wp_callI1, wp_callI2, wp_callI3, wp_callI4, wp_callI5, wp_callV0, wp_callV1, wp_callV2, wp_callV3, wp_callV4, wp_callV5, wp_callS0, wp_callS1, wp_callS2, wp_callS3, wp_callS4, wp_iret0, wp_iret1, wp_aret, wp_ret, lg_0, lg_1, lg_2, lg_3, lg_4, lg_5, lg_6, lg_7, ls_0, ls_1, ls_2, ls_3, ls_4, ls_5, ls_6, ls_7, oi_m1, oi_0, oi_1, oi_2, oi_3, oi_4, oi_5, bp_6, bp_7, bp_8, bp_9, bp_15, bp_17, bp_18, bp_20, bp_21, bp_24, bp_36, bp_48, bp_50, bp_60, bp_61, sp_1281, sp_9999, lc_100000, lc_1000000, cc_eq, cc_ne, cc_lt, cc_ge, cc_gt, cc_le, z_or0, z_or1, true_and, and_true, Classical.not_not, Option.toList_none, Option.toList_some, List.cons_append, List.nil_append, List.length_cons, List.length_nil, Nat.reduceAdd, Nat.reduceEqDiff, Nat.reduceLeDiff, Nat.zero_le, not_false_eq_true, rB_iv, rB_wi, rB_kd, rB_ln, rB_rv, hs, rk_315, rk_316, rl_316, rr_316, rk_317, rl_317, rr_317, rk_318, rl_318, rr_318, rk_319, rl_319, rr_319, rk_320, rl_320, rr_320, rk_321, rl_321, rr_321, rk_322, rl_322, rr_322, rk_323, rl_323, rr_323, rk_324, rl_324, rr_324, rk_325, rl_325, rr_325, rk_326, rl_326, rr_326, rk_327, rl_327, rr_327, rk_328, rl_328, rr_328, rk_329, rl_329, rr_329, rk_330, rl_330, rr_330, rk_331, rl_331, rr_331, rk_332, rl_332, rr_332, rk_333, rl_333, rr_333, rk_334, rl_334, rr_334, rk_335, rl_335, rr_335, rk_336, rl_336, rr_336, rk_337, rl_337, rr_337, rk_338, rl_338, rr_338, rk_339, rl_339, rr_339, rk_340, rl_340, rr_340, rk_341, rl_341, rr_341, rk_342, rl_342, rr_342, rk_343, rl_343, rr_343, rk_344, rl_344, rr_344, cl_M_placeOf, c_M_placeOf hs hx hn hl, rPl_q]
  have hq := rq_le (I := I) x
  unfold rBef
  rw [rLen_eq hn hl] at hq
  unfold rq at *
  rw [rLen_eq hn hl] at *
  generalize rQ (I 325) x n = q at *
  by_cases h0 : q = 0
  · subst h0
    simp (disch := omega) only [nI_add, pk_mul, pk_sub, nI_clamp, cin, nI_leI, nI_ltI, nI_eq, m1_lt, m1_le, nle_m1, nlt_m1, neq_m1, m1_neq, m1_add, sw_row, sw_eq, sw_ne, rCopyK_row, rTakeM_row, rShift_row, rPsh_row, Nat.reduceAdd, Nat.reduceMul, Nat.reduceSub, Nat.reduceLeDiff, Nat.reduceEqDiff, true_and, and_true, Classical.not_not, implies_true, true_implies, forall_const, if_true]
    simp
  · have h1 : ¬ q = 0 := h0
    simp (disch := omega) only [nI_add, pk_mul, pk_sub, nI_clamp, cin, nI_leI, nI_ltI, nI_eq, m1_lt, m1_le, nle_m1, nlt_m1, neq_m1, m1_neq, m1_add, sw_row, sw_eq, sw_ne, rCopyK_row, rTakeM_row, rShift_row, rPsh_row, Nat.reduceAdd, Nat.reduceMul, Nat.reduceSub, Nat.reduceLeDiff, Nat.reduceEqDiff, true_and, and_true, Classical.not_not, implies_true, true_implies, forall_const, h1, if_false]
    by_cases h2 : 2 ≤ q
    · have h3 : ¬ q - 1 ≤ 0 := by omega
      have h4 : 6 * x + (q - 1) - 1 = 6 * x + (q - 2) := by omega
      simp (disch := omega) [h2, h3, h4, nI_add, pk_mul, pk_sub, nI_clamp, cin, nI_leI, nI_ltI, nI_eq, m1_lt, m1_le, nle_m1, nlt_m1, neq_m1, m1_neq, m1_add, sw_row, sw_eq, sw_ne, rCopyK_row, rTakeM_row, rShift_row, rPsh_row, Nat.reduceAdd, Nat.reduceMul, Nat.reduceSub, Nat.reduceLeDiff, Nat.reduceEqDiff, true_and, and_true, Classical.not_not, implies_true, true_implies, forall_const]
    · have h3 : q - 1 ≤ 0 := by omega
      simp (disch := omega) [h2, h3, nI_add, pk_mul, pk_sub, nI_clamp, cin, nI_leI, nI_ltI, nI_eq, m1_lt, m1_le, nle_m1, nlt_m1, neq_m1, m1_neq, m1_add, sw_row, sw_eq, sw_ne, rCopyK_row, rTakeM_row, rShift_row, rPsh_row, Nat.reduceAdd, Nat.reduceMul, Nat.reduceSub, Nat.reduceLeDiff, Nat.reduceEqDiff, true_and, and_true, Classical.not_not, implies_true, true_implies, forall_const]
theorem c_M_behind (hs : rSh M) {x n : Nat} (hx : x < 6) (hn : n ≤ 6) (hl : I 324 x = nI n) : ck_Ev ck_P xl xs (d + 1) 98 0 [some (.inr 315), some (.inl (nI x)), none] [] (rB M I) Q = Q (some (.inl (rBeh I x))) (rB M I) := by
  simp only [j_M_behind_0, j_M_behind_38, j_M_behind_39, e_M_behind_0, e_M_behind_1, e_M_behind_2, e_M_behind_5, e_M_behind_6, e_M_behind_7, e_M_behind_10, e_M_behind_11, e_M_behind_12, e_M_behind_13, e_M_behind_14, e_M_behind_17, e_M_behind_18, e_M_behind_19, e_M_behind_22, e_M_behind_23, e_M_behind_26, e_M_behind_28, e_M_behind_29, e_M_behind_30, e_M_behind_31, e_M_behind_32, e_M_behind_33, e_M_behind_34, e_M_behind_35, e_M_behind_38, e_M_behind_39, li_s, la_s, wp_iconst, wp_bipush, wp_sipush, wp_ldc, wp_iload, wp_iload_n, wp_aload, wp_aload_n, wp_istore, wp_istore_n, wp_astore, wp_astore_n, wp_iinc, wp_iadd, wp_isub, wp_imul, wp_iand, wp_irem, wp_dup, wp_pop, wp_goto, wp_if, wp_icmp, wp_ifnull, wp_tsw, wp_get0, wp_get2, wp_get1, wp_put0, wp_put2, wp_put1, wp_iald, wp_sald, wp_iast, wp_bald, wp_bast, wp_aald, wp_aast, wp_alen, wp_slen, wp_new, wp_newa, wp_newq, wp_cast, wp_oinit, wp_clone, wp_copy, wp_callI0, wp_callI1, wp_callI2, wp_callI3, wp_callI4, wp_callI5, wp_callV0, wp_callV1, wp_callV2, wp_callV3, wp_callV4, wp_callV5, wp_callS0, wp_callS1, wp_callS2, wp_callS3, wp_callS4, wp_iret0, wp_iret1, wp_aret, wp_ret, lg_0, lg_1, lg_2, lg_3, lg_4, lg_5, lg_6, lg_7, ls_0, ls_1, ls_2, ls_3, ls_4, ls_5, ls_6, ls_7, oi_m1, oi_0, oi_1, oi_2, oi_3, oi_4, oi_5, bp_6, bp_7, bp_8, bp_9, bp_15, bp_17, bp_18, bp_20, bp_21, bp_24, bp_36, bp_48, bp_50, bp_60, bp_61, sp_1281, sp_9999, lc_100000, lc_1000000, cc_eq, cc_ne, cc_lt, cc_ge, cc_gt, cc_le, z_or0, z_or1, true_and, and_true, Classical.not_not, Option.toList_none, Option.toList_some, List.cons_append, List.nil_append, List.length_cons, List.length_nil, Nat.reduceAdd, Nat.reduceEqDiff, Nat.reduceLeDiff, Nat.zero_le, not_false_eq_true, rB_iv, rB_wi, rB_kd, rB_ln, rB_rv, hs, rk_315, rk_316, rl_316, rr_316, rk_317, rl_317, rr_317, rk_318, rl_318, rr_318, rk_319, rl_319, rr_319, rk_320, rl_320, rr_320, rk_321, rl_321, rr_321, rk_322, rl_322, rr_322, rk_323, rl_323, rr_323, rk_324, rl_324, rr_324, rk_325, rl_325, rr_325, rk_326, rl_326, rr_326, rk_327, rl_327, rr_327, rk_328, rl_328, rr_328, rk_329, rl_329, rr_329, rk_330, rl_330, rr_330, rk_331, rl_331, rr_331, rk_332, rl_332, rr_332, rk_333, rl_333, rr_333, rk_334, rl_334, rr_334, rk_335, rl_335, rr_335, rk_336, rl_336, rr_336, rk_337, rl_337, rr_337, rk_338, rl_338, rr_338, rk_339, rl_339, rr_339, rk_340, rl_340, rr_340, rk_341, rl_341, rr_341, rk_342, rl_342, rr_342, rk_343, rl_343, rr_343, rk_344, rl_344, rr_344, cl_M_placeOf, c_M_placeOf hs hx hn hl, rPl_q]
  have hq := rq_le (I := I) x
  unfold rBeh
  rw [rLen_eq hn hl] at hq
  unfold rq at *
  rw [rLen_eq hn hl] at *
  generalize rQ (I 325) x n = q at *
  by_cases h0 : q = 0
  · subst h0
    simp (disch := omega) only [nI_add, pk_mul, pk_sub, nI_clamp, cin, nI_leI, nI_ltI, nI_eq, m1_lt, m1_le, nle_m1, nlt_m1, neq_m1, m1_neq, m1_add, sw_row, sw_eq, sw_ne, rCopyK_row, rTakeM_row, rShift_row, rPsh_row, Nat.reduceAdd, Nat.reduceMul, Nat.reduceSub, Nat.reduceLeDiff, Nat.reduceEqDiff, true_and, and_true, Classical.not_not, implies_true, true_implies, forall_const, if_true, hl]
    simp
  · have h1 : ¬ q = 0 := h0
    have h4 : q - 1 + 1 = q := by omega
    have h5 : 1 ≤ q := by omega
    simp (disch := omega) only [nI_add, pk_mul, pk_sub, nI_clamp, cin, nI_leI, nI_ltI, nI_eq, m1_lt, m1_le, nle_m1, nlt_m1, neq_m1, m1_neq, m1_add, sw_row, sw_eq, sw_ne, rCopyK_row, rTakeM_row, rShift_row, rPsh_row, Nat.reduceAdd, Nat.reduceMul, Nat.reduceSub, Nat.reduceLeDiff, Nat.reduceEqDiff, true_and, and_true, Classical.not_not, implies_true, true_implies, forall_const, h1, if_false, hl, h4, Nat.not_lt_zero]
    by_cases h2 : q < n
    · have h3 : ¬ n ≤ q := by omega
      have h6 : 6 * x + (q - 1) + 1 = 6 * x + q := by omega
      simp (disch := omega) [h2, h3, h5, h6, nI_add, pk_mul, pk_sub, nI_clamp, cin, nI_leI, nI_ltI, nI_eq, m1_lt, m1_le, nle_m1, nlt_m1, neq_m1, m1_neq, m1_add, sw_row, sw_eq, sw_ne, rCopyK_row, rTakeM_row, rShift_row, rPsh_row, Nat.reduceAdd, Nat.reduceMul, Nat.reduceSub, Nat.reduceLeDiff, Nat.reduceEqDiff, true_and, and_true, Classical.not_not, implies_true, true_implies, forall_const]
    · have h3 : n ≤ q := by omega
      simp (disch := omega) [h2, h3, nI_add, pk_mul, pk_sub, nI_clamp, cin, nI_leI, nI_ltI, nI_eq, m1_lt, m1_le, nle_m1, nlt_m1, neq_m1, m1_neq, m1_add, sw_row, sw_eq, sw_ne, rCopyK_row, rTakeM_row, rShift_row, rPsh_row, Nat.reduceAdd, Nat.reduceMul, Nat.reduceSub, Nat.reduceLeDiff, Nat.reduceEqDiff, true_and, and_true, Classical.not_not, implies_true, true_implies, forall_const]
theorem c_M_isTail (hs : rSh M) {x n : Nat} (hx : x < 6) (hn : n ≤ 6) (hl : I 324 x = nI n) : ck_Ev ck_P xl xs (d + 2) 97 0 [some (.inr 315), some (.inl (nI x))] [] (rB M I) Q = Q (some (.inl (if rTl I x then nI 1 else nI 0))) (rB M I) := by
  simp only [j_M_isTail_0, j_M_isTail_20, j_M_isTail_21, e_M_isTail_0, e_M_isTail_1, e_M_isTail_2, e_M_isTail_5, e_M_isTail_8, e_M_isTail_9, e_M_isTail_10, e_M_isTail_13, e_M_isTail_16, e_M_isTail_17, e_M_isTail_20, e_M_isTail_21, li_s, la_s, wp_iconst, wp_bipush, wp_sipush, wp_ldc, wp_iload, wp_iload_n, wp_aload, wp_aload_n, wp_istore, wp_istore_n, wp_astore, wp_astore_n, wp_iinc, wp_iadd, wp_isub, wp_imul, wp_iand, wp_irem, wp_dup, wp_pop, wp_goto, wp_if, wp_icmp, wp_ifnull, wp_tsw, wp_get0, wp_get2, wp_get1, wp_put0, wp_put2, wp_put1, wp_iald, wp_sald, wp_iast, wp_bald, wp_bast, wp_aald, wp_aast, wp_alen, wp_slen, wp_new, wp_newa, wp_newq, wp_cast, wp_oinit, wp_clone, wp_copy, wp_callI0, wp_callI1, wp_callI2, wp_callI3, wp_callI4, wp_callI5, wp_callV0, wp_callV1, wp_callV2, wp_callV3, wp_callV4, wp_callV5, wp_callS0, wp_callS1, wp_callS2, wp_callS3, wp_callS4, wp_iret0, wp_iret1, wp_aret, wp_ret, lg_0, lg_1, lg_2, lg_3, lg_4, lg_5, lg_6, lg_7, ls_0, ls_1, ls_2, ls_3, ls_4, ls_5, ls_6, ls_7, oi_m1, oi_0, oi_1, oi_2, oi_3, oi_4, oi_5, bp_6, bp_7, bp_8, bp_9, bp_15, bp_17, bp_18, bp_20, bp_21, bp_24, bp_36, bp_48, bp_50, bp_60, bp_61, sp_1281, sp_9999, lc_100000, lc_1000000, cc_eq, cc_ne, cc_lt, cc_ge, cc_gt, cc_le, z_or0, z_or1, true_and, and_true, Classical.not_not, Option.toList_none, Option.toList_some, List.cons_append, List.nil_append, List.length_cons, List.length_nil, Nat.reduceAdd, Nat.reduceEqDiff, Nat.reduceLeDiff, Nat.zero_le, not_false_eq_true, rB_iv, rB_wi, rB_kd, rB_ln, rB_rv, hs, rk_315, rk_316, rl_316, rr_316, rk_317, rl_317, rr_317, rk_318, rl_318, rr_318, rk_319, rl_319, rr_319, rk_320, rl_320, rr_320, rk_321, rl_321, rr_321, rk_322, rl_322, rr_322, rk_323, rl_323, rr_323, rk_324, rl_324, rr_324, rk_325, rl_325, rr_325, rk_326, rl_326, rr_326, rk_327, rl_327, rr_327, rk_328, rl_328, rr_328, rk_329, rl_329, rr_329, rk_330, rl_330, rr_330, rk_331, rl_331, rr_331, rk_332, rl_332, rr_332, rk_333, rl_333, rr_333, rk_334, rl_334, rr_334, rk_335, rl_335, rr_335, rk_336, rl_336, rr_336, rk_337, rl_337, rr_337, rk_338, rl_338, rr_338, rk_339, rl_339, rr_339, rk_340, rl_340, rr_340, rk_341, rl_341, rr_341, rk_342, rl_342, rr_342, rk_343, rl_343, rr_343, rk_344, rl_344, rr_344, cl_M_placeOf, c_M_placeOf hs hx hn hl, cl_M_behind, c_M_behind hs hx hn hl, rPl_q]
  have hq := rq_le (I := I) x
  unfold rTl
  rw [rLen_eq hn hl] at hq
  have e1 : rQ (I 325) x n = rq I x := by unfold rq; rw [rLen_eq hn hl]
  rw [e1]
  generalize rq I x = q at *
  generalize rBeh I x = w at *
  by_cases h0 : q = 0
  · subst h0
    simp (disch := omega) only [nI_add, pk_mul, pk_sub, nI_clamp, cin, nI_leI, nI_ltI, nI_eq, m1_lt, m1_le, nle_m1, nlt_m1, neq_m1, m1_neq, m1_add, sw_row, sw_eq, sw_ne, rCopyK_row, rTakeM_row, rShift_row, rPsh_row, Nat.reduceAdd, Nat.reduceMul, Nat.reduceSub, Nat.reduceLeDiff, Nat.reduceEqDiff, true_and, and_true, Classical.not_not, implies_true, true_implies, forall_const, if_true]
    simp
  · have h5 : 1 ≤ q := by omega
    simp (disch := omega) only [nI_add, pk_mul, pk_sub, nI_clamp, cin, nI_leI, nI_ltI, nI_eq, m1_lt, m1_le, nle_m1, nlt_m1, neq_m1, m1_neq, m1_add, sw_row, sw_eq, sw_ne, rCopyK_row, rTakeM_row, rShift_row, rPsh_row, Nat.reduceAdd, Nat.reduceMul, Nat.reduceSub, Nat.reduceLeDiff, Nat.reduceEqDiff, true_and, and_true, Classical.not_not, implies_true, true_implies, forall_const, h0, if_false, Nat.not_lt_zero]
    by_cases h2 : w < nI 0
    · have h3 : ¬ nI 0 ≤ w := Int32.not_le.mpr h2
      simp [h2, h3, h5]
    · have h3 : nI 0 ≤ w := Int32.not_lt.mp h2
      simp [h2, h3, h5]
end R3
/-- how many messages: told once -/
def rMn (I : Nat → Nat → Int32) : Prop := ∃ n, n ≤ 60 ∧ I 315 2 = nI n
theorem rMn_of {I J : Nat → Nat → Int32} (h : rMn I) (e : J 315 2 = I 315 2) : rMn J := by
  obtain ⟨n, h1, h2⟩ := h
  exact ⟨n, h1, e.trans h2⟩
theorem rMn_send {I : Nat → Nat → Int32} (h : rMn I) (k t : Int32) : rMn (rSend I k t) := by
  obtain ⟨n, h1, h2⟩ := h
  unfold rSend
  by_cases hc : nI 60 ≤ I 315 2
  · rw [if_pos hc]
    exact ⟨n, h1, by simp (disch := omega) only [nI_add, pk_mul, pk_sub, nI_clamp, cin, nI_leI, nI_ltI, nI_eq, m1_lt, m1_le, nle_m1, nlt_m1, neq_m1, m1_neq, m1_add, sw_row, sw_eq, sw_ne, rCopyK_row, rTakeM_row, rShift_row, rPsh_row, Nat.reduceAdd, Nat.reduceMul, Nat.reduceSub, Nat.reduceLeDiff, Nat.reduceEqDiff, true_and, and_true, Classical.not_not, implies_true, true_implies, forall_const, h2]⟩
  · rw [if_neg hc]
    rw [h2, nI_leI (by omega) (by omega)] at hc
    exact ⟨n + 1, by omega, by simp (disch := omega) only [nI_add, pk_mul, pk_sub, nI_clamp, cin, nI_leI, nI_ltI, nI_eq, m1_lt, m1_le, nle_m1, nlt_m1, neq_m1, m1_neq, m1_add, sw_row, sw_eq, sw_ne, rCopyK_row, rTakeM_row, rShift_row, rPsh_row, Nat.reduceAdd, Nat.reduceMul, Nat.reduceSub, Nat.reduceLeDiff, Nat.reduceEqDiff, true_and, and_true, Classical.not_not, implies_true, true_implies, forall_const, h2]⟩
theorem rSend_row {I : Nat → Nat → Int32} {k t : Int32} {a : Nat} (h : ¬ (a = 315 ∨ a = 316 ∨ a = 317)) : rSend I k t a = I a := by
  unfold rSend
  split <;> simp (disch := omega) only [nI_add, pk_mul, pk_sub, nI_clamp, cin, nI_leI, nI_ltI, nI_eq, m1_lt, m1_le, nle_m1, nlt_m1, neq_m1, m1_neq, m1_add, sw_row, sw_eq, sw_ne, rCopyK_row, rTakeM_row, rShift_row, rPsh_row, Nat.reduceAdd, Nat.reduceMul, Nat.reduceSub, Nat.reduceLeDiff, Nat.reduceEqDiff, true_and, and_true, Classical.not_not, implies_true, true_implies, forall_const]
theorem rSend_315 {I : Nat → Nat → Int32} {k t : Int32} {j : Nat} (h : ¬ j = 2) : rSend I k t 315 j = I 315 j := by
  unfold rSend
  split <;> simp (disch := omega) only [nI_add, pk_mul, pk_sub, nI_clamp, cin, nI_leI, nI_ltI, nI_eq, m1_lt, m1_le, nle_m1, nlt_m1, neq_m1, m1_neq, m1_add, sw_row, sw_eq, sw_ne, rCopyK_row, rTakeM_row, rShift_row, rPsh_row, Nat.reduceAdd, Nat.reduceMul, Nat.reduceSub, Nat.reduceLeDiff, Nat.reduceEqDiff, true_and, and_true, Classical.not_not, implies_true, true_implies, forall_const]
theorem rLen_sw {I : Nat → Nat → Int32} {r k x : Nat} {v : Int32} (h : ¬ r = 324) : rLen (sw I r k v) x = rLen I x := by
  unfold rLen; rw [sw_row (fun q => h q.symm)]
theorem rq_sw {I : Nat → Nat → Int32} {r k x : Nat} {v : Int32} (h : ¬ (r = 324 ∨ r = 325)) : rq (sw I r k v) x = rq I x := by
  unfold rq; rw [rLen_sw (fun q => h (Or.inl q)), sw_row (fun q => h (Or.inr q.symm))]
/-- what a node's chain says rests on two arrays -/
theorem rBef_of {I J : Nat → Nat → Int32} {x : Nat} (h1 : J 324 = I 324) (h2 : J 325 = I 325) : rBef J x = rBef I x := by
  unfold rBef rq rLen; rw [h1, h2]
theorem rBeh_of {I J : Nat → Nat → Int32} {x : Nat} (h1 : J 324 = I 324) (h2 : J 325 = I 325) : rBeh J x = rBeh I x := by
  unfold rBeh rq rLen; rw [h1, h2]
theorem rTl_of {I J : Nat → Nat → Int32} {x : Nat} (h1 : J 324 = I 324) (h2 : J 325 = I 325) : rTl J x = rTl I x := by
  unfold rTl; rw [rBeh_of h1 h2]; unfold rq rLen; rw [h1, h2]
def rSendFrom (I : Nat → Nat → Int32) (x : Nat) (k t : Int32) : Nat → Nat → Int32 := rSend (sw I 317 2 (I 323 x)) k t
def rReply (I : Nat → Nat → Int32) (c r v w : Int32) : Nat → Nat → Int32 := rSend (sw (sw (sw I 317 3 r) 317 7 v) 317 6 w) (nI 7) c
def rSendAck (I : Nat → Nat → Int32) (x : Nat) : Nat → Nat → Int32 := if rBef I x < nI 0 then I else rSendFrom (sw I 317 7 (I 327 x)) x (nI 4) (rBef I x)
/-- the update at place i of node x, with the number v, to the successor -/
def rUpd (I : Nat → Nat → Int32) (x i : Nat) (v : Int32) : Nat → Nat → Int32 := rSendFrom (sw (sw (sw (sw (sw I 317 7 v) 317 5 (I 332 (8 * x + i))) 317 6 (I 333 (8 * x + i))) 317 4 (I 334 (8 * x + i))) 317 3 (I 335 (8 * x + i))) x (nI 3) (rBeh I x)
/-- k updates from place i on -/
def rPen (I : Nat → Nat → Int32) (x a : Nat) : Nat → Nat → (Nat → Nat → Int32)
  | _, 0 => I
  | i, k + 1 => rPen (rUpd I x i (nI (a + 1 + i))) x a (i + 1) k
theorem rSendFrom_row {I : Nat → Nat → Int32} {x : Nat} {k t : Int32} {a : Nat} (h : ¬ (a = 315 ∨ a = 316 ∨ a = 317)) : rSendFrom I x k t a = I a := by
  unfold rSendFrom; rw [rSend_row h, sw_row (by omega)]
theorem rReply_row {I : Nat → Nat → Int32} {c r v w : Int32} {a : Nat} (h : ¬ (a = 315 ∨ a = 316 ∨ a = 317)) : rReply I c r v w a = I a := by
  unfold rReply; rw [rSend_row h, sw_row (by omega), sw_row (by omega), sw_row (by omega)]
theorem rSendAck_row {I : Nat → Nat → Int32} {x : Nat} {a : Nat} (h : ¬ (a = 315 ∨ a = 316 ∨ a = 317)) : rSendAck I x a = I a := by
  unfold rSendAck; split
  · rfl
  · rw [rSendFrom_row h, sw_row (by omega)]
theorem rUpd_row {I : Nat → Nat → Int32} {x i : Nat} {v : Int32} {a : Nat} (h : ¬ (a = 315 ∨ a = 316 ∨ a = 317)) : rUpd I x i v a = I a := by
  unfold rUpd; rw [rSendFrom_row h, sw_row (by omega), sw_row (by omega), sw_row (by omega), sw_row (by omega), sw_row (by omega)]
theorem rPen_row {x b : Nat} {a : Nat} (h : ¬ (a = 315 ∨ a = 316 ∨ a = 317)) : ∀ (k i : Nat) (I : Nat → Nat → Int32), rPen I x b i k a = I a := by
  intro k
  induction k with
  | zero => intro i I; rfl
  | succ k ih => intro i I; unfold rPen; rw [ih, rUpd_row h]
theorem rMn_sendFrom {I : Nat → Nat → Int32} {x : Nat} {k t : Int32} (h : rMn I) : rMn (rSendFrom I x k t) := rMn_send (rMn_of h (by simp (disch := omega) only [nI_add, pk_mul, pk_sub, nI_clamp, cin, nI_leI, nI_ltI, nI_eq, m1_lt, m1_le, nle_m1, nlt_m1, neq_m1, m1_neq, m1_add, sw_row, sw_eq, sw_ne, rCopyK_row, rTakeM_row, rShift_row, rPsh_row, Nat.reduceAdd, Nat.reduceMul, Nat.reduceSub, Nat.reduceLeDiff, Nat.reduceEqDiff, true_and, and_true, Classical.not_not, implies_true, true_implies, forall_const])) _ _
theorem rMn_reply {I : Nat → Nat → Int32} {c r v w : Int32} (h : rMn I) : rMn (rReply I c r v w) := rMn_send (rMn_of h (by simp (disch := omega) only [nI_add, pk_mul, pk_sub, nI_clamp, cin, nI_leI, nI_ltI, nI_eq, m1_lt, m1_le, nle_m1, nlt_m1, neq_m1, m1_neq, m1_add, sw_row, sw_eq, sw_ne, rCopyK_row, rTakeM_row, rShift_row, rPsh_row, Nat.reduceAdd, Nat.reduceMul, Nat.reduceSub, Nat.reduceLeDiff, Nat.reduceEqDiff, true_and, and_true, Classical.not_not, implies_true, true_implies, forall_const])) _ _
theorem rMn_ack {I : Nat → Nat → Int32} {x : Nat} (h : rMn I) : rMn (rSendAck I x) := by
  unfold rSendAck; split
  · exact h
  · exact rMn_sendFrom (rMn_of h (by simp (disch := omega) only [nI_add, pk_mul, pk_sub, nI_clamp, cin, nI_leI, nI_ltI, nI_eq, m1_lt, m1_le, nle_m1, nlt_m1, neq_m1, m1_neq, m1_add, sw_row, sw_eq, sw_ne, rCopyK_row, rTakeM_row, rShift_row, rPsh_row, Nat.reduceAdd, Nat.reduceMul, Nat.reduceSub, Nat.reduceLeDiff, Nat.reduceEqDiff, true_and, and_true, Classical.not_not, implies_true, true_implies, forall_const]))
theorem rMn_upd {I : Nat → Nat → Int32} {x i : Nat} {v : Int32} (h : rMn I) : rMn (rUpd I x i v) := rMn_sendFrom (rMn_of h (by simp (disch := omega) only [nI_add, pk_mul, pk_sub, nI_clamp, cin, nI_leI, nI_ltI, nI_eq, m1_lt, m1_le, nle_m1, nlt_m1, neq_m1, m1_neq, m1_add, sw_row, sw_eq, sw_ne, rCopyK_row, rTakeM_row, rShift_row, rPsh_row, Nat.reduceAdd, Nat.reduceMul, Nat.reduceSub, Nat.reduceLeDiff, Nat.reduceEqDiff, true_and, and_true, Classical.not_not, implies_true, true_implies, forall_const]))
theorem rMn_pen {x a : Nat} : ∀ (k i : Nat) (I : Nat → Nat → Int32), rMn I → rMn (rPen I x a i k) := by
  intro k
  induction k with
  | zero => intro i I h; exact h
  | succ k ih => intro i I h; exact ih _ _ (rMn_upd h)
section R4
variable {xl : Nat} {xs : Nat → Int32} {d : Nat} {Q : Option ck_V → ck_M → Prop} {M : ck_M} {I : Nat → Nat → Int32}
theorem d_M_sendFrom (hs : rSh M) {x : Nat} (hm : rMn I) (hx : x < 6) (k t : Int32) : ck_Ev ck_P xl xs (d + 1) 102 0 [some (.inr 315), some (.inl (nI x)), some (.inl k), some (.inl t)] [] (rB M I) Q = Q none (rB M (rSendFrom I x k t)) := by
  obtain ⟨n, h1, h2⟩ := hm
  exact c_M_sendFrom hs h2 h1 hx k t
theorem d_M_reply (hs : rSh M) (hm : rMn I) (c r v w : Int32) : ck_Ev ck_P xl xs (d + 1) 94 0 [some (.inr 315), some (.inl c), some (.inl r), some (.inl v), some (.inl w)] [] (rB M I) Q = Q none (rB M (rReply I c r v w)) := by
  obtain ⟨n, h1, h2⟩ := hm
  exact c_M_reply hs h2 h1 c r v w
theorem c_M_sendAck (hs : rSh M) {x n : Nat} (hm : rMn I) (hx : x < 6) (hn : n ≤ 6) (hl : I 324 x = nI n) : ck_Ev ck_P xl xs (d + 2) 100 0 [some (.inr 315), some (.inl (nI x)), none] [] (rB M I) Q = Q none (rB M (rSendAck I x)) := by
  simp only [j_M_sendAck_0, j_M_sendAck_11, e_M_sendAck_0, e_M_sendAck_1, e_M_sendAck_2, e_M_sendAck_5, e_M_sendAck_6, e_M_sendAck_7, e_M_sendAck_10, e_M_sendAck_11, e_M_sendAck_12, e_M_sendAck_15, e_M_sendAck_17, e_M_sendAck_18, e_M_sendAck_21, e_M_sendAck_22, e_M_sendAck_23, e_M_sendAck_24, e_M_sendAck_25, e_M_sendAck_26, e_M_sendAck_27, e_M_sendAck_28, e_M_sendAck_31, li_s, la_s, wp_iconst, wp_bipush, wp_sipush, wp_ldc, wp_iload, wp_iload_n, wp_aload, wp_aload_n, wp_istore, wp_istore_n, wp_astore, wp_astore_n, wp_iinc, wp_iadd, wp_isub, wp_imul, wp_iand, wp_irem, wp_dup, wp_pop, wp_goto, wp_if, wp_icmp, wp_ifnull, wp_tsw, wp_get0, wp_get2, wp_get1, wp_put0, wp_put2, wp_put1, wp_iald, wp_sald, wp_iast, wp_bald, wp_bast, wp_aald, wp_aast, wp_alen, wp_slen, wp_new, wp_newa, wp_newq, wp_cast, wp_oinit, wp_clone, wp_copy, wp_callI0, wp_callI1, wp_callI2, wp_callI3, wp_callI4, wp_callI5, wp_callV0, wp_callV1, wp_callV2, wp_callV3, wp_callV4, wp_callV5, wp_callS0, wp_callS1, wp_callS2, wp_callS3, wp_callS4, wp_iret0, wp_iret1, wp_aret, wp_ret, lg_0, lg_1, lg_2, lg_3, lg_4, lg_5, lg_6, lg_7, ls_0, ls_1, ls_2, ls_3, ls_4, ls_5, ls_6, ls_7, oi_m1, oi_0, oi_1, oi_2, oi_3, oi_4, oi_5, bp_6, bp_7, bp_8, bp_9, bp_15, bp_17, bp_18, bp_20, bp_21, bp_24, bp_36, bp_48, bp_50, bp_60, bp_61, sp_1281, sp_9999, lc_100000, lc_1000000, cc_eq, cc_ne, cc_lt, cc_ge, cc_gt, cc_le, z_or0, z_or1, true_and, and_true, Classical.not_not, Option.toList_none, Option.toList_some, List.cons_append, List.nil_append, List.length_cons, List.length_nil, Nat.reduceAdd, Nat.reduceEqDiff, Nat.reduceLeDiff, Nat.zero_le, not_false_eq_true, rB_iv, rB_wi, rB_kd, rB_ln, rB_rv, hs, rk_315, rk_316, rl_316, rr_316, rk_317, rl_317, rr_317, rk_318, rl_318, rr_318, rk_319, rl_319, rr_319, rk_320, rl_320, rr_320, rk_321, rl_321, rr_321, rk_322, rl_322, rr_322, rk_323, rl_323, rr_323, rk_324, rl_324, rr_324, rk_325, rl_325, rr_325, rk_326, rl_326, rr_326, rk_327, rl_327, rr_327, rk_328, rl_328, rr_328, rk_329, rl_329, rr_329, rk_330, rl_330, rr_330, rk_331, rl_331, rr_331, rk_332, rl_332, rr_332, rk_333, rl_333, rr_333, rk_334, rl_334, rr_334, rk_335, rl_335, rr_335, rk_336, rl_336, rr_336, rk_337, rl_337, rr_337, rk_338, rl_338, rr_338, rk_339, rl_339, rr_339, rk_340, rl_340, rr_340, rk_341, rl_341, rr_341, rk_342, rl_342, rr_342, rk_343, rl_343, rr_343, rk_344, rl_344, rr_344, cl_M_before, c_M_before hs hx hn hl, cl_M_sendFrom]
  simp (disch := omega) only [nI_add, pk_mul, pk_sub, nI_clamp, cin, nI_leI, nI_ltI, nI_eq, m1_lt, m1_le, nle_m1, nlt_m1, neq_m1, m1_neq, m1_add, sw_row, sw_eq, sw_ne, rCopyK_row, rTakeM_row, rShift_row, rPsh_row, Nat.reduceAdd, Nat.reduceMul, Nat.reduceSub, Nat.reduceLeDiff, Nat.reduceEqDiff, true_and, and_true, Classical.not_not, implies_true, true_implies, forall_const]
  unfold rSendAck
  by_cases h : rBef I x < nI 0
  · have h' : ¬ nI 0 ≤ rBef I x := Int32.not_le.mpr h
    simp [h, h']
  · have h' : nI 0 ≤ rBef I x := Int32.not_lt.mp h
    rw [d_M_sendFrom hs (rMn_of hm (by simp (disch := omega) only [nI_add, pk_mul, pk_sub, nI_clamp, cin, nI_leI, nI_ltI, nI_eq, m1_lt, m1_le, nle_m1, nlt_m1, neq_m1, m1_neq, m1_add, sw_row, sw_eq, sw_ne, rCopyK_row, rTakeM_row, rShift_row, rPsh_row, Nat.reduceAdd, Nat.reduceMul, Nat.reduceSub, Nat.reduceLeDiff, Nat.reduceEqDiff, true_and, and_true, Classical.not_not, implies_true, true_implies, forall_const])) hx]
    simp [h, h', li_s, la_s, wp_iconst, wp_bipush, wp_sipush, wp_ldc, wp_iload, wp_iload_n, wp_aload, wp_aload_n, wp_istore, wp_istore_n, wp_astore, wp_astore_n, wp_iinc, wp_iadd, wp_isub, wp_imul, wp_iand, wp_irem, wp_dup, wp_pop, wp_goto, wp_if, wp_icmp, wp_ifnull, wp_tsw, wp_get0, wp_get2, wp_get1, wp_put0, wp_put2, wp_put1, wp_iald, wp_sald, wp_iast, wp_bald, wp_bast, wp_aald, wp_aast, wp_alen, wp_slen, wp_new, wp_newa, wp_newq, wp_cast, wp_oinit, wp_clone, wp_copy, wp_callI0, wp_callI1, wp_callI2, wp_callI3, wp_callI4, wp_callI5, wp_callV0, wp_callV1, wp_callV2, wp_callV3, wp_callV4, wp_callV5, wp_callS0, wp_callS1, wp_callS2, wp_callS3, wp_callS4, wp_iret0, wp_iret1, wp_aret, wp_ret, lg_0, lg_1, lg_2, lg_3, lg_4, lg_5, lg_6, lg_7, ls_0, ls_1, ls_2, ls_3, ls_4, ls_5, ls_6, ls_7, oi_m1, oi_0, oi_1, oi_2, oi_3, oi_4, oi_5, bp_6, bp_7, bp_8, bp_9, bp_15, bp_17, bp_18, bp_20, bp_21, bp_24, bp_36, bp_48, bp_50, bp_60, bp_61, sp_1281, sp_9999, lc_100000, lc_1000000, cc_eq, cc_ne, cc_lt, cc_ge, cc_gt, cc_le, z_or0, z_or1, true_and, and_true, Classical.not_not, Option.toList_none, Option.toList_some, List.cons_append, List.nil_append, List.length_cons, List.length_nil, Nat.reduceAdd, Nat.reduceEqDiff, Nat.reduceLeDiff, Nat.zero_le, not_false_eq_true]
theorem c_M_sendUpdate (hs : rSh M) {x n a i : Nat} (hm : rMn I) (hx : x < 6) (hn : n ≤ 6) (hl : I 324 x = nI n) (ha : I 327 x = nI a) (ha2 : a < 1000000) (hi : i < 8) : ck_Ev ck_P xl xs (d + 2) 103 0 [some (.inr 315), some (.inl (nI x)), some (.inl (nI (a + 1 + i))), none] [] (rB M I) Q = Q none (rB M (rUpd I x i (nI (a + 1 + i)))) := by
  simp only [j_M_sendUpdate_0, e_M_sendUpdate_0, e_M_sendUpdate_2, e_M_sendUpdate_3, e_M_sendUpdate_4, e_M_sendUpdate_5, e_M_sendUpdate_6, e_M_sendUpdate_7, e_M_sendUpdate_10, e_M_sendUpdate_11, e_M_sendUpdate_12, e_M_sendUpdate_13, e_M_sendUpdate_14, e_M_sendUpdate_15, e_M_sendUpdate_16, e_M_sendUpdate_17, e_M_sendUpdate_20, e_M_sendUpdate_22, e_M_sendUpdate_23, e_M_sendUpdate_24, e_M_sendUpdate_25, e_M_sendUpdate_28, e_M_sendUpdate_29, e_M_sendUpdate_30, e_M_sendUpdate_33, e_M_sendUpdate_34, e_M_sendUpdate_35, e_M_sendUpdate_36, e_M_sendUpdate_37, e_M_sendUpdate_40, e_M_sendUpdate_42, e_M_sendUpdate_43, e_M_sendUpdate_46, e_M_sendUpdate_47, e_M_sendUpdate_48, e_M_sendUpdate_49, e_M_sendUpdate_50, e_M_sendUpdate_53, e_M_sendUpdate_54, e_M_sendUpdate_55, e_M_sendUpdate_58, e_M_sendUpdate_59, e_M_sendUpdate_60, e_M_sendUpdate_61, e_M_sendUpdate_62, e_M_sendUpdate_65, e_M_sendUpdate_66, e_M_sendUpdate_67, e_M_sendUpdate_70, e_M_sendUpdate_71, e_M_sendUpdate_72, e_M_sendUpdate_73, e_M_sendUpdate_74, e_M_sendUpdate_75, e_M_sendUpdate_76, e_M_sendUpdate_77, e_M_sendUpdate_78, e_M_sendUpdate_81, e_M_sendUpdate_84, li_s, la_s, wp_iconst, wp_bipush, wp_sipush, wp_ldc, wp_iload, wp_iload_n, wp_aload, wp_aload_n, wp_istore, wp_istore_n, wp_astore, wp_astore_n, wp_iinc, wp_iadd, wp_isub, wp_imul, wp_iand, wp_irem, wp_dup, wp_pop, wp_goto, wp_if, wp_icmp, wp_ifnull, wp_tsw, wp_get0, wp_get2, wp_get1, wp_put0, wp_put2, wp_put1, wp_iald, wp_sald, wp_iast, wp_bald, wp_bast, wp_aald, wp_aast, wp_alen, wp_slen, wp_new, wp_newa, wp_newq, wp_cast, wp_oinit, wp_clone, wp_copy, wp_callI0, wp_callI1, wp_callI2, wp_callI3, wp_callI4, wp_callI5, wp_callV0, wp_callV1, wp_callV2, wp_callV3, wp_callV4, wp_callV5, wp_callS0, wp_callS1, wp_callS2, wp_callS3, wp_callS4, wp_iret0, wp_iret1, wp_aret, wp_ret, lg_0, lg_1, lg_2, lg_3, lg_4, lg_5, lg_6, lg_7, ls_0, ls_1, ls_2, ls_3, ls_4, ls_5, ls_6, ls_7, oi_m1, oi_0, oi_1, oi_2, oi_3, oi_4, oi_5, bp_6, bp_7, bp_8, bp_9, bp_15, bp_17, bp_18, bp_20, bp_21, bp_24, bp_36, bp_48, bp_50, bp_60, bp_61, sp_1281, sp_9999, lc_100000, lc_1000000, cc_eq, cc_ne, cc_lt, cc_ge, cc_gt, cc_le, z_or0, z_or1, true_and, and_true, Classical.not_not, Option.toList_none, Option.toList_some, List.cons_append, List.nil_append, List.length_cons, List.length_nil, Nat.reduceAdd, Nat.reduceEqDiff, Nat.reduceLeDiff, Nat.zero_le, not_false_eq_true, rB_iv, rB_wi, rB_kd, rB_ln, rB_rv, hs, rk_315, rk_316, rl_316, rr_316, rk_317, rl_317, rr_317, rk_318, rl_318, rr_318, rk_319, rl_319, rr_319, rk_320, rl_320, rr_320, rk_321, rl_321, rr_321, rk_322, rl_322, rr_322, rk_323, rl_323, rr_323, rk_324, rl_324, rr_324, rk_325, rl_325, rr_325, rk_326, rl_326, rr_326, rk_327, rl_327, rr_327, rk_328, rl_328, rr_328, rk_329, rl_329, rr_329, rk_330, rl_330, rr_330, rk_331, rl_331, rr_331, rk_332, rl_332, rr_332, rk_333, rl_333, rr_333, rk_334, rl_334, rr_334, rk_335, rl_335, rr_335, rk_336, rl_336, rr_336, rk_337, rl_337, rr_337, rk_338, rl_338, rr_338, rk_339, rl_339, rr_339, rk_340, rl_340, rr_340, rk_341, rl_341, rr_341, rk_342, rl_342, rr_342, rk_343, rl_343, rr_343, rk_344, rl_344, rr_344, cl_M_behind, cl_M_sendFrom]
  simp (disch := omega) only [nI_add, pk_mul, pk_sub, nI_clamp, cin, nI_leI, nI_ltI, nI_eq, m1_lt, m1_le, nle_m1, nlt_m1, neq_m1, m1_neq, m1_add, sw_row, sw_eq, sw_ne, rCopyK_row, rTakeM_row, rShift_row, rPsh_row, Nat.reduceAdd, Nat.reduceMul, Nat.reduceSub, Nat.reduceLeDiff, Nat.reduceEqDiff, true_and, and_true, Classical.not_not, implies_true, true_implies, forall_const, ha]
  have e1 : 8 * x + (a + 1 + i) - a - 1 = 8 * x + i := by omega
  simp (disch := omega) only [nI_add, pk_mul, pk_sub, nI_clamp, cin, nI_leI, nI_ltI, nI_eq, m1_lt, m1_le, nle_m1, nlt_m1, neq_m1, m1_neq, m1_add, sw_row, sw_eq, sw_ne, rCopyK_row, rTakeM_row, rShift_row, rPsh_row, Nat.reduceAdd, Nat.reduceMul, Nat.reduceSub, Nat.reduceLeDiff, Nat.reduceEqDiff, true_and, and_true, Classical.not_not, implies_true, true_implies, forall_const, e1]
  rw [c_M_behind hs hx hn (by simp (disch := omega) only [nI_add, pk_mul, pk_sub, nI_clamp, cin, nI_leI, nI_ltI, nI_eq, m1_lt, m1_le, nle_m1, nlt_m1, neq_m1, m1_neq, m1_add, sw_row, sw_eq, sw_ne, rCopyK_row, rTakeM_row, rShift_row, rPsh_row, Nat.reduceAdd, Nat.reduceMul, Nat.reduceSub, Nat.reduceLeDiff, Nat.reduceEqDiff, true_and, and_true, Classical.not_not, implies_true, true_implies, forall_const, hl])]
  simp only [li_s, la_s, wp_iconst, wp_bipush, wp_sipush, wp_ldc, wp_iload, wp_iload_n, wp_aload, wp_aload_n, wp_istore, wp_istore_n, wp_astore, wp_astore_n, wp_iinc, wp_iadd, wp_isub, wp_imul, wp_iand, wp_irem, wp_dup, wp_pop, wp_goto, wp_if, wp_icmp, wp_ifnull, wp_tsw, wp_get0, wp_get2, wp_get1, wp_put0, wp_put2, wp_put1, wp_iald, wp_sald, wp_iast, wp_bald, wp_bast, wp_aald, wp_aast, wp_alen, wp_slen, wp_new, wp_newa, wp_newq, wp_cast, wp_oinit, wp_clone, wp_copy, wp_callI0, wp_callI1, wp_callI2, wp_callI3, wp_callI4, wp_callI5, wp_callV0, wp_callV1, wp_callV2, wp_callV3, wp_callV4, wp_callV5, wp_callS0, wp_callS1, wp_callS2, wp_callS3, wp_callS4, wp_iret0, wp_iret1, wp_aret, wp_ret, lg_0, lg_1, lg_2, lg_3, lg_4, lg_5, lg_6, lg_7, ls_0, ls_1, ls_2, ls_3, ls_4, ls_5, ls_6, ls_7, oi_m1, oi_0, oi_1, oi_2, oi_3, oi_4, oi_5, bp_6, bp_7, bp_8, bp_9, bp_15, bp_17, bp_18, bp_20, bp_21, bp_24, bp_36, bp_48, bp_50, bp_60, bp_61, sp_1281, sp_9999, lc_100000, lc_1000000, cc_eq, cc_ne, cc_lt, cc_ge, cc_gt, cc_le, z_or0, z_or1, true_and, and_true, Classical.not_not, Option.toList_none, Option.toList_some, List.cons_append, List.nil_append, List.length_cons, List.length_nil, Nat.reduceAdd, Nat.reduceEqDiff, Nat.reduceLeDiff, Nat.zero_le, not_false_eq_true, rB_iv, rB_wi, rB_kd, rB_ln, rB_rv, hs, rk_315, rk_316, rl_316, rr_316, rk_317, rl_317, rr_317, rk_318, rl_318, rr_318, rk_319, rl_319, rr_319, rk_320, rl_320, rr_320, rk_321, rl_321, rr_321, rk_322, rl_322, rr_322, rk_323, rl_323, rr_323, rk_324, rl_324, rr_324, rk_325, rl_325, rr_325, rk_326, rl_326, rr_326, rk_327, rl_327, rr_327, rk_328, rl_328, rr_328, rk_329, rl_329, rr_329, rk_330, rl_330, rr_330, rk_331, rl_331, rr_331, rk_332, rl_332, rr_332, rk_333, rl_333, rr_333, rk_334, rl_334, rr_334, rk_335, rl_335, rr_335, rk_336, rl_336, rr_336, rk_337, rl_337, rr_337, rk_338, rl_338, rr_338, rk_339, rl_339, rr_339, rk_340, rl_340, rr_340, rk_341, rl_341, rr_341, rk_342, rl_342, rr_342, rk_343, rl_343, rr_343, rk_344, rl_344, rr_344, cl_M_sendFrom]
  rw [d_M_sendFrom hs (rMn_of hm (by simp (disch := omega) only [nI_add, pk_mul, pk_sub, nI_clamp, cin, nI_leI, nI_ltI, nI_eq, m1_lt, m1_le, nle_m1, nlt_m1, neq_m1, m1_neq, m1_add, sw_row, sw_eq, sw_ne, rCopyK_row, rTakeM_row, rShift_row, rPsh_row, Nat.reduceAdd, Nat.reduceMul, Nat.reduceSub, Nat.reduceLeDiff, Nat.reduceEqDiff, true_and, and_true, Classical.not_not, implies_true, true_implies, forall_const])) hx]
  simp only [li_s, la_s, wp_iconst, wp_bipush, wp_sipush, wp_ldc, wp_iload, wp_iload_n, wp_aload, wp_aload_n, wp_istore, wp_istore_n, wp_astore, wp_astore_n, wp_iinc, wp_iadd, wp_isub, wp_imul, wp_iand, wp_irem, wp_dup, wp_pop, wp_goto, wp_if, wp_icmp, wp_ifnull, wp_tsw, wp_get0, wp_get2, wp_get1, wp_put0, wp_put2, wp_put1, wp_iald, wp_sald, wp_iast, wp_bald, wp_bast, wp_aald, wp_aast, wp_alen, wp_slen, wp_new, wp_newa, wp_newq, wp_cast, wp_oinit, wp_clone, wp_copy, wp_callI0, wp_callI1, wp_callI2, wp_callI3, wp_callI4, wp_callI5, wp_callV0, wp_callV1, wp_callV2, wp_callV3, wp_callV4, wp_callV5, wp_callS0, wp_callS1, wp_callS2, wp_callS3, wp_callS4, wp_iret0, wp_iret1, wp_aret, wp_ret, lg_0, lg_1, lg_2, lg_3, lg_4, lg_5, lg_6, lg_7, ls_0, ls_1, ls_2, ls_3, ls_4, ls_5, ls_6, ls_7, oi_m1, oi_0, oi_1, oi_2, oi_3, oi_4, oi_5, bp_6, bp_7, bp_8, bp_9, bp_15, bp_17, bp_18, bp_20, bp_21, bp_24, bp_36, bp_48, bp_50, bp_60, bp_61, sp_1281, sp_9999, lc_100000, lc_1000000, cc_eq, cc_ne, cc_lt, cc_ge, cc_gt, cc_le, z_or0, z_or1, true_and, and_true, Classical.not_not, Option.toList_none, Option.toList_some, List.cons_append, List.nil_append, List.length_cons, List.length_nil, Nat.reduceAdd, Nat.reduceEqDiff, Nat.reduceLeDiff, Nat.zero_le, not_false_eq_true]
  unfold rUpd
  rw [rBeh_of (I := I)] <;> simp (disch := omega) only [nI_add, pk_mul, pk_sub, nI_clamp, cin, nI_leI, nI_ltI, nI_eq, m1_lt, m1_le, nle_m1, nlt_m1, neq_m1, m1_neq, m1_add, sw_row, sw_eq, sw_ne, rCopyK_row, rTakeM_row, rShift_row, rPsh_row, Nat.reduceAdd, Nat.reduceMul, Nat.reduceSub, Nat.reduceLeDiff, Nat.reduceEqDiff, true_and, and_true, Classical.not_not, implies_true, true_implies, forall_const]
end R4
