/-! ### the class: new chains -/
def alI (I : Nat → Nat → Int32) (s : Nat) : Nat → Nat → Int32 := fun a j => if a = s then 0 else I a j
def alR (R : Nat → Nat → Nat) (s : Nat) : Nat → Nat → Nat := fun a j => if a = s then 0 else R a j
def cnI (I : Nat → Nat → Int32) (r s : Nat) : Nat → Nat → Int32 := fun a j => if a = s then I r j else I a j
theorem cB_al {M : ck_M} {I : Nat → Nat → Int32} {R : Nat → Nat → Nat} {k l : Nat} : ck_al (cB M I R) k l = cB (ck_al M k l) (alI I (ck_sz M + 2)) (alR R (ck_sz M + 2)) := rfl
theorem cB_cn {M : ck_M} {I : Nat → Nat → Int32} {R : Nat → Nat → Nat} {r : Nat} : ck_cn (cB M I R) r = cB (ck_cn M r) (cnI I r (ck_sz M + 2)) (alR R (ck_sz M + 2)) := rfl
theorem alI_row {I : Nat → Nat → Int32} {s a : Nat} (h : ¬ a = s) : alI I s a = I a := by
  funext j; exact if_neg h
theorem alR_row {R : Nat → Nat → Nat} {s a : Nat} (h : ¬ a = s) : alR R s a = R a := by
  funext j; exact if_neg h
theorem cnI_row {I : Nat → Nat → Int32} {r s a : Nat} (h : ¬ a = s) : cnI I r s a = I a := by
  funext j; exact if_neg h
theorem cnI_eq {I : Nat → Nat → Int32} {r s : Nat} : cnI I r s s = I r := by
  funext j; exact if_pos rfl
theorem al_sz {M : ck_M} {k l : Nat} : ck_sz (ck_al M k l) = ck_sz M + 1 := rfl
theorem al_us {M : ck_M} {k l : Nat} : ck_us (ck_al M k l) = ck_us M + l := rfl
theorem al_kd {M : ck_M} {k l a : Nat} : ck_kd (ck_al M k l) a = if a = ck_sz M + 2 then k else ck_kd M a := rfl
theorem al_ln {M : ck_M} {k l a : Nat} : ck_ln (ck_al M k l) a = if a = ck_sz M + 2 then l else ck_ln M a := rfl
theorem cn_sz {M : ck_M} {r : Nat} : ck_sz (ck_cn M r) = ck_sz M + 1 := rfl
theorem cn_us {M : ck_M} {r : Nat} : ck_us (ck_cn M r) = ck_us M + ck_ln M r := rfl
theorem cn_kd {M : ck_M} {r a : Nat} : ck_kd (ck_cn M r) a = if a = ck_sz M + 2 then ck_kd M r else ck_kd M a := rfl
theorem cn_ln {M : ck_M} {r a : Nat} : ck_ln (ck_cn M r) a = if a = ck_sz M + 2 then ck_ln M r else ck_ln M a := rfl
/-- what lies behind is free -/
def mOK (M : ck_M) : Prop := 343 ≤ ck_sz M ∧ ∀ a, ck_sz M + 2 ≤ a → ck_kd M a = 0
section C27
variable {xl : Nat} {xs : Nat → Int32} {d : Nat} {M N : ck_M} {R P : Nat → Nat → Nat} {S I J T : Nat → Nat → Int32} {n c x n' s q : Nat}
/-- below s nothing has changed -/
def mEx (M N : ck_M) (I J : Nat → Nat → Int32) (R P : Nat → Nat → Nat) (s : Nat) : Prop := 345 ≤ s ∧ (∀ a, s ≤ a → ck_kd M a = 0) ∧ (∀ a, a < s → ck_kd N a = ck_kd M a ∧ ck_ln N a = ck_ln M a) ∧ (∀ a, a < s → J a = I a) ∧ ∀ a, a < s → P a = R a
theorem chRel_m {ep len : Int32} {g : Nat → Int32} (h : chRel M I R q ep len g) (e : mEx M N I J R P s) : chRel N J P q ep len g := by
  obtain ⟨e1, e2, e3, e4, e5⟩ := e
  obtain ⟨h1, h2, h3, h4, h5, h6, h7, n, h8, h9, h10⟩ := h
  have l1 : q < s := Classical.byContradiction (fun z => by rw [e2 q (by omega)] at h2; omega)
  have l2 : R q 1 < s := Classical.byContradiction (fun z => by rw [e2 _ (by omega)] at h4; omega)
  unfold chRel
  rw [e5 q l1, e4 q l1, e4 _ l2, (e3 q l1).1, (e3 _ l2).1, (e3 _ l2).2]
  exact ⟨h1, h2, h3, h4, h5, h6, h7, n, h8, h9, h10⟩
theorem gRel_m {r : Nat} {f : Nat → Int32} (h : gRel M I R r f) (hr : r + 3 < 345) (e : mEx M N I J R P s) : gRel N J P r f := by
  obtain ⟨e1, e2, e3, e4, e5⟩ := id e
  obtain ⟨r0, r1, rW, rR, rU, rA, rQ', rN, rY, rC, rP⟩ := h
  unfold gRel
  rw [e4 r (by omega), e4 (r + 1) (by omega), e4 (r + 2) (by omega), e4 (r + 3) (by omega), e5 r (by omega)]
  exact ⟨r0, r1, rW, rR, rU, rA, rQ', rN, rY, fun z => ⟨(rC z).1, chRel_m (rC z).2 e⟩, rP⟩
theorem rel_mem (h : cRel M S I R n) (e : mEx M N I J R P s) : cRel N S J P n := by
  obtain ⟨e1, e2, e3, e4, e5⟩ := id e
  obtain ⟨hs, hf, ⟨w1, w2, w3, w4, w8⟩, hn, hcl, hk⟩ := h
  refine ⟨?_, ?_, ⟨w1, w2, by rw [e4 3 (by omega)]; exact w3, by rw [e5 4 (by omega), e5 3 (by omega)]; exact w4, fun i hi => ?_⟩, fun x hx => ?_, fun c hc => ?_, ?_⟩
  · obtain ⟨a1, a2, a3, a4⟩ := hs
    unfold cSh
    refine ⟨?_, fun x hx => ?_, fun c hc => ?_, fun r hr => ?_⟩
    · rw [(e3 2 (by omega)).1, (e3 3 (by omega)).1, (e3 4 (by omega)).1, (e3 4 (by omega)).2, (e3 255 (by omega)).1, (e3 255 (by omega)).2, (e3 256 (by omega)).1, (e3 256 (by omega)).2, (e3 311 (by omega)).1, (e3 311 (by omega)).2]
      exact a1
    · have g := a2 x hx
      rw [(e3 (257 + 9 * x) (by omega)).1, (e3 (257 + 9 * x + 1) (by omega)).1, (e3 (257 + 9 * x + 2) (by omega)).1, (e3 (257 + 9 * x + 3) (by omega)).1, (e3 (257 + 9 * x + 4) (by omega)).1, (e3 (257 + 9 * x + 5) (by omega)).1, (e3 (257 + 9 * x + 6) (by omega)).1, (e3 (257 + 9 * x + 7) (by omega)).1, (e3 (257 + 9 * x + 8) (by omega)).1, (e3 (257 + 9 * x + 1) (by omega)).2, (e3 (257 + 9 * x + 2) (by omega)).2, (e3 (257 + 9 * x + 3) (by omega)).2, (e3 (257 + 9 * x + 4) (by omega)).2, (e3 (257 + 9 * x + 5) (by omega)).2, (e3 (257 + 9 * x + 6) (by omega)).2, (e3 (257 + 9 * x + 7) (by omega)).2, (e3 (257 + 9 * x + 8) (by omega)).2]
      exact g
    · rw [(e3 _ (by omega)).1]; exact a3 c hc
    · have b := isM_b hr
      have g := a4 r hr
      rw [(e3 r (by omega)).1, (e3 (r + 1) (by omega)).1, (e3 (r + 2) (by omega)).1, (e3 (r + 3) (by omega)).1, (e3 (r + 1) (by omega)).2, (e3 (r + 2) (by omega)).2, (e3 (r + 3) (by omega)).2]
      exact g
  · exact cRf_of hf (fun j _ => by rw [e5 2 (by omega)]) (by rw [e5 3 (by omega)]) (e5 255 (by omega)) (fun x hx j _ => by rw [e5 _ (by omega)]) (e5 311 (by omega)) (fun r hr j _ => by rw [e5 r (by have := isM_b hr; omega)])
  · have b := isM_b (w4.1 i (by omega))
    rw [e5 4 (by omega)]
    exact gRel_m (w8 i hi) (by omega) e
  · have g := hn x hx
    unfold nRel at *
    rw [e5 _ (by omega), e4 (257 + 9 * x) (by omega), e4 (257 + 9 * x + 1) (by omega), e4 (257 + 9 * x + 2) (by omega), e4 (257 + 9 * x + 3) (by omega), e4 (257 + 9 * x + 4) (by omega), e4 (257 + 9 * x + 5) (by omega), e4 (257 + 9 * x + 6) (by omega), e4 (257 + 9 * x + 7) (by omega), e4 (257 + 9 * x + 8) (by omega)]
    exact ⟨g.1, chRel_m g.2.1 e, g.2.2⟩
  · exact clRel_of (hcl c hc) (e4 _ (by omega)) (fun _ _ _ => rfl)
  · obtain ⟨k1, k2, k3, k4⟩ := hk
    unfold kRel
    rw [e4 2 (by omega), e4 256 (by omega), e5 2 (by omega)]
    exact ⟨k1, k2, k3, chRel_m k4 e⟩
theorem c_H_init {Q : Option ck_V → ck_M → Prop} {r b : Nat} {ep ln : Int32} (hk : ck_kd M r = 8) (hr : ¬ r = 0) : ck_Ev ck_P xl xs (d + 1) 37 0 [some (.inr r), some (.inl ep), some (.inr b), some (.inl ln)] [] (cB M I R) Q = Q none (cB M (sw (sw I r 0 ep) r 2 ln) (swR R r 1 b)) := by
  simp only [j_H_init_0, e_H_init_0, e_H_init_1, e_H_init_4, e_H_init_5, e_H_init_6, e_H_init_9, e_H_init_10, e_H_init_11, e_H_init_14, e_H_init_15, e_H_init_16, e_H_init_19, li_s, la_s, wp_iconst, wp_bipush, wp_sipush, wp_ldc, wp_iload, wp_iload_n, wp_aload, wp_aload_n, wp_istore, wp_istore_n, wp_astore, wp_astore_n, wp_iinc, wp_iadd, wp_isub, wp_imul, wp_iand, wp_irem, wp_dup, wp_pop, wp_goto, wp_if, wp_icmp, wp_ifnull, wp_tsw, wp_get0, wp_get2, wp_get1, wp_put0, wp_put2, wp_put1, wp_iald, wp_sald, wp_iast, wp_bald, wp_bast, wp_aald, wp_aast, wp_alen, wp_slen, wp_new, wp_newa, wp_newq, wp_cast, wp_oinit, wp_clone, wp_copy, wp_callI0, wp_callI1, wp_callI2, wp_callI3, wp_callI4, wp_callI5, wp_callV0, wp_callV1, wp_callV2, wp_callV3, wp_callV4, wp_callV5, wp_callS0, wp_callS1, wp_callS2, wp_callS3, wp_callS4, wp_iret0, wp_iret1, wp_aret, wp_ret, lg_0, lg_1, lg_2, lg_3, lg_4, lg_5, lg_6, lg_7, ls_0, ls_1, ls_2, ls_3, ls_4, ls_5, ls_6, ls_7, oi_m1, oi_0, oi_1, oi_2, oi_3, oi_4, oi_5, bp_6, bp_7, bp_8, bp_9, bp_15, bp_17, bp_18, bp_20, bp_21, bp_24, bp_36, bp_48, bp_50, bp_60, bp_61, sp_1281, sp_9999, lc_100000, lc_1000000, cc_eq, cc_ne, cc_lt, cc_ge, cc_gt, cc_le, z_or0, z_or1, true_and, and_true, Classical.not_not, Option.toList_none, Option.toList_some, List.cons_append, List.nil_append, List.length_cons, List.length_nil, Nat.reduceAdd, Nat.reduceEqDiff, Nat.reduceLeDiff, Nat.zero_le, not_false_eq_true, cB_iv, cB_rv, cB_wi, cB_wr, cB_kd, cB_ln, cB_sz, s_2, s_3, s_4, s_4l, s_255, s_255l, s_256, s_256l, s_311, s_311l, f_21, f_22, f_23, f_24, f_30, hk]
  simp [hr]
/-- the rest of a chain: the row s -/
def woI (I : Nat → Nat → Int32) (s p k : Nat) (f : Nat → Int32) : Nat → Nat → Int32 := fun a j => if a = s then (if j < k then (if j < p then f j else f (j + 1)) else 0) else I a j
theorem woI_row {p k a : Nat} {f : Nat → Int32} (h : ¬ a = s) : woI I s p k f a = I a := by
  funext j; exact if_neg h
theorem woI_0 {p : Nat} {f : Nat → Int32} : woI I s p 0 f = alI I s := by
  funext a j
  unfold woI alI
  by_cases h : a = s
  · rw [if_pos h, if_pos h, if_neg (by omega)]
  · rw [if_neg h, if_neg h]
theorem woI_s {p k : Nat} {f : Nat → Int32} {v : Int32} (hv : v = if k < p then f k else f (k + 1)) : sw (woI I s p k f) s k v = woI I s p (k + 1) f := by
  funext a j
  unfold sw woI
  by_cases h : a = s
  · by_cases h2 : j = k
    · subst h2; subst h
      rw [if_pos ⟨rfl, rfl⟩, if_pos rfl, if_pos (by omega), hv]
    · rw [if_neg (fun z => h2 z.2), if_pos h, if_pos h]
      by_cases h3 : j < k
      · rw [if_pos h3, if_pos (show j < k + 1 by omega)]
      · rw [if_neg h3, if_neg (show ¬ j < k + 1 by omega)]
  · rw [if_neg (fun z => h z.1), if_neg h, if_neg h]
theorem c_H_without_l {Q : Option ck_V → ck_M → Prop} {p : Nat} {f : Nat → Int32} {w : Int32} (hF : chF M I R q n) (hf : ∀ i, i < n → I (R q 1) i = f i) (hq : ¬ q = s) (hq1 : ¬ R q 1 = s) (hN : ck_kd N s = 3 ∧ ck_ln N s = 6) (hF2 : ∀ k, chF N (woI I s p k f) P q n) (hP : P q = R q) (hp : p < n) (hw : ∀ i, i < n → (f i = w ↔ i = p)) : ∀ (j i : Nat), i + j = n → ck_Ev ck_P xl xs (d + 1) 45 10 [some (.inr q), some (.inl w), some (.inr s), some (.inl (nI (if i ≤ p then i else i - 1))), some (.inl (nI i))] [] (cB N (woI I s p (if i ≤ p then i else i - 1) f) P) Q = ck_Ev ck_P xl xs (d + 1) 45 54 [some (.inr q), some (.inl w), some (.inr s), some (.inl (nI (n - 1))), some (.inl (nI n))] [] (cB N (woI I s p (n - 1) f) P) Q := by
  obtain ⟨a1, a2, a3, a4, a5⟩ := id hF
  intro j
  induction j with
  | zero =>
    intro i hi
    have e : i = n := by omega
    subst e
    have i2 : ∀ k, woI I s p k f q 2 = nI i := fun k => by rw [woI_row hq]; exact a4
    rw [if_neg (show ¬ i ≤ p by omega), j_H_without_10]
    simp only [j_H_without_0, j_H_without_48, e_H_without_0, e_H_without_2, e_H_without_4, e_H_without_5, e_H_without_6, e_H_without_7, e_H_without_8, e_H_without_10, e_H_without_12, e_H_without_13, e_H_without_16, e_H_without_19, e_H_without_21, e_H_without_23, e_H_without_26, e_H_without_27, e_H_without_29, e_H_without_32, e_H_without_33, e_H_without_36, e_H_without_37, e_H_without_38, e_H_without_39, e_H_without_41, e_H_without_44, e_H_without_45, e_H_without_48, e_H_without_51, e_H_without_57, e_H_without_58, e_H_without_59, e_H_without_62, e_H_without_63, e_H_without_64, e_H_without_65, e_H_without_66, e_H_without_69, li_s, la_s, wp_iconst, wp_bipush, wp_sipush, wp_ldc, wp_iload, wp_iload_n, wp_aload, wp_aload_n, wp_istore, wp_istore_n, wp_astore, wp_astore_n, wp_iinc, wp_iadd, wp_isub, wp_imul, wp_iand, wp_irem, wp_dup, wp_pop, wp_goto, wp_if, wp_icmp, wp_ifnull, wp_tsw, wp_get0, wp_get2, wp_get1, wp_put0, wp_put2, wp_put1, wp_iald, wp_sald, wp_iast, wp_bald, wp_bast, wp_aald, wp_aast, wp_alen, wp_slen, wp_new, wp_newa, wp_newq, wp_cast, wp_oinit, wp_clone, wp_copy, wp_callI0, wp_callI1, wp_callI2, wp_callI3, wp_callI4, wp_callI5, wp_callV0, wp_callV1, wp_callV2, wp_callV3, wp_callV4, wp_callV5, wp_callS0, wp_callS1, wp_callS2, wp_callS3, wp_callS4, wp_iret0, wp_iret1, wp_aret, wp_ret, lg_0, lg_1, lg_2, lg_3, lg_4, lg_5, lg_6, lg_7, ls_0, ls_1, ls_2, ls_3, ls_4, ls_5, ls_6, ls_7, oi_m1, oi_0, oi_1, oi_2, oi_3, oi_4, oi_5, bp_6, bp_7, bp_8, bp_9, bp_15, bp_17, bp_18, bp_20, bp_21, bp_24, bp_36, bp_48, bp_50, bp_60, bp_61, sp_1281, sp_9999, lc_100000, lc_1000000, cc_eq, cc_ne, cc_lt, cc_ge, cc_gt, cc_le, z_or0, z_or1, true_and, and_true, Classical.not_not, Option.toList_none, Option.toList_some, List.cons_append, List.nil_append, List.length_cons, List.length_nil, Nat.reduceAdd, Nat.reduceEqDiff, Nat.reduceLeDiff, Nat.zero_le, not_false_eq_true, cB_iv, cB_rv, cB_wi, cB_wr, cB_kd, cB_ln, cB_sz, s_2, s_3, s_4, s_4l, s_255, s_255l, s_256, s_256l, s_311, s_311l, f_21, f_22, f_23, f_24, f_30, (hF2 0).1, i2]
    simp (disch := omega) only [nI_add, pk_mul, pk_sub, nI_clamp, cin, nI_leI, nI_ltI, nI_eq, m1_lt, m1_le, nle_m1, nlt_m1, neq_m1, m1_neq, m1_add, sw_row, sw_eq, sw_ne, rCopyK_row, rTakeM_row, rShift_row, rPsh_row, Nat.reduceAdd, Nat.reduceMul, Nat.reduceSub, Nat.reduceLeDiff, Nat.reduceEqDiff, true_and, and_true, Classical.not_not, implies_true, true_implies, forall_const]
    simp
  | succ j ih =>
    intro i hi
    have i2 : ∀ k, woI I s p k f q 2 = nI n := fun k => by rw [woI_row hq]; exact a4
    have iat : ∀ k, woI I s p k f (P q 1) i = f i := fun k => by rw [hP, woI_row hq1, hf i (by omega)]
    have hih := ih (i + 1) (by omega)
    rw [j_H_without_10]
    simp only [j_H_without_0, j_H_without_48, e_H_without_0, e_H_without_2, e_H_without_4, e_H_without_5, e_H_without_6, e_H_without_7, e_H_without_8, e_H_without_10, e_H_without_12, e_H_without_13, e_H_without_16, e_H_without_19, e_H_without_21, e_H_without_23, e_H_without_26, e_H_without_27, e_H_without_29, e_H_without_32, e_H_without_33, e_H_without_36, e_H_without_37, e_H_without_38, e_H_without_39, e_H_without_41, e_H_without_44, e_H_without_45, e_H_without_48, e_H_without_51, e_H_without_57, e_H_without_58, e_H_without_59, e_H_without_62, e_H_without_63, e_H_without_64, e_H_without_65, e_H_without_66, e_H_without_69, li_s, la_s, wp_iconst, wp_bipush, wp_sipush, wp_ldc, wp_iload, wp_iload_n, wp_aload, wp_aload_n, wp_istore, wp_istore_n, wp_astore, wp_astore_n, wp_iinc, wp_iadd, wp_isub, wp_imul, wp_iand, wp_irem, wp_dup, wp_pop, wp_goto, wp_if, wp_icmp, wp_ifnull, wp_tsw, wp_get0, wp_get2, wp_get1, wp_put0, wp_put2, wp_put1, wp_iald, wp_sald, wp_iast, wp_bald, wp_bast, wp_aald, wp_aast, wp_alen, wp_slen, wp_new, wp_newa, wp_newq, wp_cast, wp_oinit, wp_clone, wp_copy, wp_callI0, wp_callI1, wp_callI2, wp_callI3, wp_callI4, wp_callI5, wp_callV0, wp_callV1, wp_callV2, wp_callV3, wp_callV4, wp_callV5, wp_callS0, wp_callS1, wp_callS2, wp_callS3, wp_callS4, wp_iret0, wp_iret1, wp_aret, wp_ret, lg_0, lg_1, lg_2, lg_3, lg_4, lg_5, lg_6, lg_7, ls_0, ls_1, ls_2, ls_3, ls_4, ls_5, ls_6, ls_7, oi_m1, oi_0, oi_1, oi_2, oi_3, oi_4, oi_5, bp_6, bp_7, bp_8, bp_9, bp_15, bp_17, bp_18, bp_20, bp_21, bp_24, bp_36, bp_48, bp_50, bp_60, bp_61, sp_1281, sp_9999, lc_100000, lc_1000000, cc_eq, cc_ne, cc_lt, cc_ge, cc_gt, cc_le, z_or0, z_or1, true_and, and_true, Classical.not_not, Option.toList_none, Option.toList_some, List.cons_append, List.nil_append, List.length_cons, List.length_nil, Nat.reduceAdd, Nat.reduceEqDiff, Nat.reduceLeDiff, Nat.zero_le, not_false_eq_true, cB_iv, cB_rv, cB_wi, cB_wr, cB_kd, cB_ln, cB_sz, s_2, s_3, s_4, s_4l, s_255, s_255l, s_256, s_256l, s_311, s_311l, f_21, f_22, f_23, f_24, f_30, (hF2 0).1, i2, cl_H_at, c_H_at_n (hF2 _) (show i < 1000 by omega), iat, hN]
    simp only [show i < n by omega, if_true]
    by_cases b : i = p
    · subst b
      have e1 : f i = w := (hw i (by omega)).mpr rfl
      rw [if_neg (show ¬ i + 1 ≤ i by omega), show i + 1 - 1 = i by omega] at hih
      rw [if_pos (Nat.le_refl i)]
      simp (disch := omega) only [nI_add, pk_mul, pk_sub, nI_clamp, cin, nI_leI, nI_ltI, nI_eq, m1_lt, m1_le, nle_m1, nlt_m1, neq_m1, m1_neq, m1_add, sw_row, sw_eq, sw_ne, rCopyK_row, rTakeM_row, rShift_row, rPsh_row, Nat.reduceAdd, Nat.reduceMul, Nat.reduceSub, Nat.reduceLeDiff, Nat.reduceEqDiff, true_and, and_true, Classical.not_not, implies_true, true_implies, forall_const, hih]
      simp [e1, show ¬ n ≤ i by omega, show ¬ 6 ≤ i by omega]
    · have e1 : ¬ f i = w := fun z => b ((hw i (by omega)).mp z)
      by_cases b2 : i ≤ p
      · rw [if_pos (show i + 1 ≤ p by omega)] at hih
        rw [if_pos b2]
        simp (disch := omega) only [nI_add, pk_mul, pk_sub, nI_clamp, cin, nI_leI, nI_ltI, nI_eq, m1_lt, m1_le, nle_m1, nlt_m1, neq_m1, m1_neq, m1_add, sw_row, sw_eq, sw_ne, rCopyK_row, rTakeM_row, rShift_row, rPsh_row, Nat.reduceAdd, Nat.reduceMul, Nat.reduceSub, Nat.reduceLeDiff, Nat.reduceEqDiff, true_and, and_true, Classical.not_not, implies_true, true_implies, forall_const]
        rw [woI_s (by rw [if_pos (show i < p by omega)]), hih]
        simp [e1, show ¬ n ≤ i by omega, show ¬ 6 ≤ i by omega]
      · rw [if_neg (show ¬ i + 1 ≤ p by omega), show i + 1 - 1 = i - 1 + 1 by omega] at hih
        rw [if_neg b2]
        simp (disch := omega) only [nI_add, pk_mul, pk_sub, nI_clamp, cin, nI_leI, nI_ltI, nI_eq, m1_lt, m1_le, nle_m1, nlt_m1, neq_m1, m1_neq, m1_add, sw_row, sw_eq, sw_ne, rCopyK_row, rTakeM_row, rShift_row, rPsh_row, Nat.reduceAdd, Nat.reduceMul, Nat.reduceSub, Nat.reduceLeDiff, Nat.reduceEqDiff, true_and, and_true, Classical.not_not, implies_true, true_implies, forall_const]
        rw [woI_s (by rw [if_neg (show ¬ i - 1 < p by omega), show i - 1 + 1 = i by omega]), hih]
        simp [e1, show ¬ n ≤ i by omega, show ¬ 6 ≤ i by omega]
end C27
