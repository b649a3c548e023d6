/-! ### the class: a node takes a copy -/
theorem rYk_v {I : Nat → Nat → Int32} {x : Nat} : ∀ k j, j < k → rYk I x k 328 (4 * x + j) = I 317 (9 + 2 * j) ∧ rYk I x k 329 (4 * x + j) = I 317 (9 + 2 * j + 1) := by
  intro k
  induction k with
  | zero => intro j hj; omega
  | succ k ih =>
    intro j hj
    unfold rYk
    by_cases h : j = k
    · subst h
      exact ⟨by rw [sw_row (by omega), sw_eq], by rw [sw_eq]⟩
    · have := ih j (by omega)
      exact ⟨by rw [sw_row (by omega), sw_ne (by omega)]; exact this.1, by rw [sw_ne (by omega), sw_row (by omega)]; exact this.2⟩
theorem rYk_o {I : Nat → Nat → Int32} {x y b j : Nat} (hy : ¬ y = x) (hj : j < 4) : ∀ k, k ≤ 4 → rYk I x k b (4 * y + j) = I b (4 * y + j) := by
  intro k
  induction k with
  | zero => intro _; rfl
  | succ k ih =>
    intro hk
    unfold rYk
    have := ih (by omega)
    unfold sw at *
    rw [if_neg (fun q => by omega), if_neg (fun q => by omega)]
    exact this
theorem rYt_v {I : Nat → Nat → Int32} {x : Nat} : ∀ k j, j < k → rYt I x k 330 (3 * x + j) = I 317 (17 + j) ∧ rYt I x k 331 (3 * x + j) = I 317 (17 + j) := by
  intro k
  induction k with
  | zero => intro j hj; omega
  | succ k ih =>
    intro j hj
    unfold rYt
    by_cases h : j = k
    · subst h
      exact ⟨by rw [sw_row (by omega), sw_eq], by rw [sw_eq]⟩
    · have := ih j (by omega)
      exact ⟨by rw [sw_row (by omega), sw_ne (by omega)]; exact this.1, by rw [sw_ne (by omega), sw_row (by omega)]; exact this.2⟩
theorem rYt_o {I : Nat → Nat → Int32} {x y b j : Nat} (hy : ¬ y = x) (hj : j < 3) : ∀ k, k ≤ 3 → rYt I x k b (3 * y + j) = I b (3 * y + j) := by
  intro k
  induction k with
  | zero => intro _; rfl
  | succ k ih =>
    intro hk
    unfold rYt
    have := ih (by omega)
    unfold sw at *
    rw [if_neg (fun q => by omega), if_neg (fun q => by omega)]
    exact this
section C16
variable {xl : Nat} {xs : Nat → Int32} {d : Nat} {M : ck_M} {R : Nat → Nat → Nat} {S I : Nat → Nat → Int32} {n x y a l n' v : Nat}
theorem rYJ_26 : rYJ S x 326 x = S 317 7 := by
  unfold rYJ; rw [sw_row (by omega), rYt_row (by omega), rYk_row (by omega), sw_row (by omega), sw_eq]
theorem rYJ_27 : rYJ S x 327 x = S 317 7 := by
  unfold rYJ; rw [sw_row (by omega), rYt_row (by omega), rYk_row (by omega), sw_eq]
theorem rYJ_21 : rYJ S x 321 x = nI 1 := by
  unfold rYJ; rw [sw_eq]
theorem rYJ_nd (h : rNd S x a l n') (hv : v < 100000) (ev : S 317 7 = nI v) : rNd (rYJ S x) x v v n' := by
  obtain ⟨hx, hn6, h1, h2, h3, h4, h5, h6, h7⟩ := h
  exact ⟨hx, hn6, by rw [rYJ_row (by omega)]; exact h1, rYJ_27.trans ev, rYJ_26.trans ev, Nat.le_refl _, by omega, hv, fun i hi => absurd hi (by omega)⟩
theorem rYJ_eq (hy : ¬ y = x) : nEq S (rYJ S x) y := by
  refine ⟨?_, fun i hi => by rw [rYJ_row (by omega)], fun q hq => ?_, fun q hq => ?_, fun i hi => ?_⟩
  · rw [rYJ_row (show ¬ (320 = 321 ∨ 320 = 326 ∨ 320 = 327 ∨ 320 = 328 ∨ 320 = 329 ∨ 320 = 330 ∨ 320 = 331) by omega), rYJ_row (show ¬ (322 = 321 ∨ 322 = 326 ∨ 322 = 327 ∨ 322 = 328 ∨ 322 = 329 ∨ 322 = 330 ∨ 322 = 331) by omega), rYJ_row (show ¬ (323 = 321 ∨ 323 = 326 ∨ 323 = 327 ∨ 323 = 328 ∨ 323 = 329 ∨ 323 = 330 ∨ 323 = 331) by omega), rYJ_row (show ¬ (324 = 321 ∨ 324 = 326 ∨ 324 = 327 ∨ 324 = 328 ∨ 324 = 329 ∨ 324 = 330 ∨ 324 = 331) by omega)]
    unfold rYJ
    refine ⟨rfl, ?_, rfl, rfl, rfl, ?_, ?_⟩
    · rw [sw_ne (by omega), rYt_row (by omega), rYk_row (by omega), sw_row (by omega), sw_row (by omega)]
    · rw [sw_row (by omega), rYt_row (by omega), rYk_row (by omega), sw_row (by omega), sw_ne (by omega)]
    · rw [sw_row (by omega), rYt_row (by omega), rYk_row (by omega), sw_ne (by omega), sw_row (by omega)]
  · unfold rYJ
    rw [sw_row (by omega), sw_row (by omega), rYt_row (by omega), rYt_row (by omega), rYk_o hy hq 4 (by omega), rYk_o hy hq 4 (by omega)]
    simp (disch := omega) only [nI_add, pk_mul, pk_sub, nI_clamp, cin, nI_leI, nI_ltI, nI_eq, m1_lt, m1_le, nle_m1, nlt_m1, neq_m1, m1_neq, m1_add, sw_row, sw_eq, sw_ne, rCopyK_row, rTakeM_row, rShift_row, rPsh_row, Nat.reduceAdd, Nat.reduceMul, Nat.reduceSub, Nat.reduceLeDiff, Nat.reduceEqDiff, true_and, and_true, Classical.not_not, implies_true, true_implies, forall_const]
  · unfold rYJ
    rw [sw_row (by omega), sw_row (by omega), rYt_o hy hq 3 (by omega), rYt_o hy hq 3 (by omega), rYk_row (by omega), rYk_row (by omega)]
    simp (disch := omega) only [nI_add, pk_mul, pk_sub, nI_clamp, cin, nI_leI, nI_ltI, nI_eq, m1_lt, m1_le, nle_m1, nlt_m1, neq_m1, m1_neq, m1_add, sw_row, sw_eq, sw_ne, rCopyK_row, rTakeM_row, rShift_row, rPsh_row, Nat.reduceAdd, Nat.reduceMul, Nat.reduceSub, Nat.reduceLeDiff, Nat.reduceEqDiff, true_and, and_true, Classical.not_not, implies_true, true_implies, forall_const]
  · rw [rYJ_row (by omega), rYJ_row (by omega), rYJ_row (by omega), rYJ_row (by omega)]
    exact ⟨rfl, rfl, rfl, rfl⟩
theorem rYJ_ndA (h : ndA S) (hnd : rNd S x a l n') (hv : v < 100000) (ev : S 317 7 = nI v) : ndA (rYJ S x) := fun y hy => by
  by_cases hyx : y = x
  · subst hyx; exact ⟨v, v, n', rYJ_nd hnd hv ev⟩
  · obtain ⟨a', l', n', h'⟩ := h y hy
    exact ⟨a', l', n', rNd_eq h' (rYJ_eq hyx)⟩
/-- the class's ints of a node that has become ready -/
def bcJ (I : Nat → Nat → Int32) (x η : Nat) : Nat → Nat → Int32 := sw (kcp (kcp (kcp (kcp (sw (sw I (257 + 9 * x) 8 (I η 7)) (257 + 9 * x) 9 (I η 7)) (η + 2) 0 (257 + 9 * x + 1) 0 4) (η + 3) 0 (257 + 9 * x + 2) 0 4) (η + 1) 0 (257 + 9 * x + 7) 0 3) (η + 1) 0 (257 + 9 * x + 8) 0 3) (257 + 9 * x) 2 (nI 1)
theorem c_N_becomeReady {Q : Option ck_V → ck_M → Prop} {η : Nat} (hs : cSh M) (hf : cRf R) (hx : x < 6) (hη : isM η) : ck_Ev ck_P xl xs (d + 1) 73 0 [some (.inr (257 + 9 * x)), some (.inr η)] [] (cB M I R) Q = Q none (cB M (bcJ I x η) R) := by
  have bη := isM_b hη
  have z0 : ¬ nI 0 < 0 := by decide +kernel
  have z3 : ¬ nI 3 < 0 := by decide +kernel
  have z4 : ¬ nI 4 < 0 := by decide +kernel
  have c0 : (nI 0).toNatClampNeg = 0 := nI_clamp (by omega)
  have c3 : (nI 3).toNatClampNeg = 3 := nI_clamp (by omega)
  have c4 : (nI 4).toNatClampNeg = 4 := nI_clamp (by omega)
  have e7 : sw I (257 + 9 * x) 8 (I η 7) η 7 = I η 7 := by rw [sw_row (by omega)]
  simp only [j_N_becomeReady_0, e_N_becomeReady_0, e_N_becomeReady_1, e_N_becomeReady_2, e_N_becomeReady_5, e_N_becomeReady_8, e_N_becomeReady_9, e_N_becomeReady_10, e_N_becomeReady_13, e_N_becomeReady_16, e_N_becomeReady_17, e_N_becomeReady_20, e_N_becomeReady_21, e_N_becomeReady_22, e_N_becomeReady_25, e_N_becomeReady_26, e_N_becomeReady_27, e_N_becomeReady_30, e_N_becomeReady_31, e_N_becomeReady_34, e_N_becomeReady_35, e_N_becomeReady_36, e_N_becomeReady_39, e_N_becomeReady_40, e_N_becomeReady_41, e_N_becomeReady_44, e_N_becomeReady_45, e_N_becomeReady_48, e_N_becomeReady_49, e_N_becomeReady_50, e_N_becomeReady_53, e_N_becomeReady_54, e_N_becomeReady_55, e_N_becomeReady_58, e_N_becomeReady_59, e_N_becomeReady_62, e_N_becomeReady_63, e_N_becomeReady_64, e_N_becomeReady_67, e_N_becomeReady_68, e_N_becomeReady_69, e_N_becomeReady_72, e_N_becomeReady_73, e_N_becomeReady_74, e_N_becomeReady_77, li_s, la_s, wp_iconst, wp_bipush, wp_sipush, wp_ldc, wp_iload, wp_iload_n, wp_aload, wp_aload_n, wp_istore, wp_istore_n, wp_astore, wp_astore_n, wp_iinc, wp_iadd, wp_isub, wp_imul, wp_iand, wp_irem, wp_dup, wp_pop, wp_goto, wp_if, wp_icmp, wp_ifnull, wp_tsw, wp_get0, wp_get2, wp_get1, wp_put0, wp_put2, wp_put1, wp_iald, wp_sald, wp_iast, wp_bald, wp_bast, wp_aald, wp_aast, wp_alen, wp_slen, wp_new, wp_newa, wp_newq, wp_cast, wp_oinit, wp_clone, wp_copy, wp_callI0, wp_callI1, wp_callI2, wp_callI3, wp_callI4, wp_callI5, wp_callV0, wp_callV1, wp_callV2, wp_callV3, wp_callV4, wp_callV5, wp_callS0, wp_callS1, wp_callS2, wp_callS3, wp_callS4, wp_iret0, wp_iret1, wp_aret, wp_ret, lg_0, lg_1, lg_2, lg_3, lg_4, lg_5, lg_6, lg_7, ls_0, ls_1, ls_2, ls_3, ls_4, ls_5, ls_6, ls_7, oi_m1, oi_0, oi_1, oi_2, oi_3, oi_4, oi_5, bp_6, bp_7, bp_8, bp_9, bp_15, bp_17, bp_18, bp_20, bp_21, bp_24, bp_36, bp_48, bp_50, bp_60, bp_61, sp_1281, sp_9999, lc_100000, lc_1000000, cc_eq, cc_ne, cc_lt, cc_ge, cc_gt, cc_le, z_or0, z_or1, true_and, and_true, Classical.not_not, Option.toList_none, Option.toList_some, List.cons_append, List.nil_append, List.length_cons, List.length_nil, Nat.reduceAdd, Nat.reduceEqDiff, Nat.reduceLeDiff, Nat.zero_le, not_false_eq_true, cB_iv, cB_rv, cB_wi, cB_wr, cB_kd, cB_ln, cB_sz, s_2, s_3, s_4, s_4l, s_255, s_255l, s_256, s_256l, s_311, s_311l, f_21, f_22, f_23, f_24, f_30, cB_cp, hs, s_n hs hx, s_n1 hs hx, s_n1l hs hx, s_n2 hs hx, s_n2l hs hx, s_n7 hs hx, s_n7l hs hx, s_n8 hs hx, s_n8l hs hx, f_n10 hf hx, f_n11 hf hx, f_n16 hf hx, f_n17 hf hx, s_m hs hη, s_m1 hs hη, s_m2 hs hη, s_m3 hs hη, s_m1l hs hη, s_m2l hs hη, s_m3l hs hη, f_m10 hf hη, f_m11 hf hη, f_m12 hf hη, c0, c3, c4, z0, z3, z4, e7]
  unfold bcJ
  simp
theorem bcJ_row {η b : Nat} (h : ¬ (b = 257 + 9 * x ∨ b = 257 + 9 * x + 1 ∨ b = 257 + 9 * x + 2 ∨ b = 257 + 9 * x + 7 ∨ b = 257 + 9 * x + 8)) : bcJ I x η b = I b := by
  unfold bcJ
  rw [sw_row (by omega), kcp_row (by omega), kcp_row (by omega), kcp_row (by omega), kcp_row (by omega), sw_row (by omega), sw_row (by omega)]
theorem bcJ_nd {η j : Nat} (h : ¬ (j = 2 ∨ j = 8 ∨ j = 9)) : bcJ I x η (257 + 9 * x) j = I (257 + 9 * x) j := by
  unfold bcJ
  rw [sw_ne (by omega), kcp_row (by omega), kcp_row (by omega), kcp_row (by omega), kcp_row (by omega), sw_ne (by omega), sw_ne (by omega)]
theorem bcJ_v {η : Nat} (hη : isM η) : bcJ I x η (257 + 9 * x) 2 = nI 1 ∧ bcJ I x η (257 + 9 * x) 8 = I η 7 ∧ bcJ I x η (257 + 9 * x) 9 = I η 7 ∧ (∀ k, k < 4 → bcJ I x η (257 + 9 * x + 1) k = I (η + 2) k ∧ bcJ I x η (257 + 9 * x + 2) k = I (η + 3) k) ∧ ∀ c, c < 3 → bcJ I x η (257 + 9 * x + 7) c = I (η + 1) c ∧ bcJ I x η (257 + 9 * x + 8) c = I (η + 1) c := by
  have bη := isM_b hη
  unfold bcJ
  refine ⟨by rw [sw_eq], ?_, ?_, fun k hk => ⟨?_, ?_⟩, fun c hc => ⟨?_, ?_⟩⟩
  · rw [sw_ne (by omega), kcp_row (by omega), kcp_row (by omega), kcp_row (by omega), kcp_row (by omega), sw_ne (by omega), sw_eq]
  · rw [sw_ne (by omega), kcp_row (by omega), kcp_row (by omega), kcp_row (by omega), kcp_row (by omega), sw_eq]
  · rw [sw_row (by omega), kcp_row (by omega), kcp_row (by omega), kcp_row (by omega), kcp_in (by omega), sw_row (by omega), sw_row (by omega), show 0 + (k - 0) = k by omega]
  · rw [sw_row (by omega), kcp_row (by omega), kcp_row (by omega), kcp_in (by omega), kcp_row (by omega), sw_row (by omega), sw_row (by omega), show 0 + (k - 0) = k by omega]
  · rw [sw_row (by omega), kcp_row (by omega), kcp_in (by omega), kcp_row (by omega), kcp_row (by omega), sw_row (by omega), sw_row (by omega), show 0 + (c - 0) = c by omega]
  · rw [sw_row (by omega), kcp_in (by omega), kcp_row (by omega), kcp_row (by omega), kcp_row (by omega), sw_row (by omega), sw_row (by omega), show 0 + (c - 0) = c by omega]
theorem k_become (h : cRel M S I R n) (hnds : ndA S) (hnd : rNd S x a l n') (hv : v < 100000) (ev : S 317 7 = nI v) (u7 : I (R 3 1) 7 = S 317 7) (ut : ∀ c, c < 3 → I (R 3 1 + 1) c = S 317 (17 + c)) (uk : ∀ k, k < 4 → I (R 3 1 + 2) k = S 317 (9 + 2 * k) ∧ I (R 3 1 + 3) k = S 317 (9 + 2 * k + 1)) : cRel M (rYJ S x) (bcJ I x (R 3 1)) R n ∧ cFr I (bcJ I x (R 3 1)) (R 3 1) := by
  obtain ⟨hx, hn6, h1, h2, h3, h4, h5, h6, h7⟩ := id hnd
  obtain ⟨hs, hf, ⟨w1, w2, w3, ⟨w4, w5, w6, w7⟩, w8⟩, hn, hc, hk⟩ := id h
  obtain ⟨⟨p0, p1, p2, p3⟩, pc, ⟨p5, p6, p7⟩, ⟨p8, p9⟩, pk, pt, pp⟩ := hn x hx
  have bη := isM_b w6
  obtain ⟨v2, v8, v9, vk, vt⟩ := bcJ_v (I := I) (x := x) w6
  refine ⟨rel_node h hx hnds (fun b hb => rYJ_row (by omega)) (fun y hy hne => rYJ_eq hne) (fun b hb => bcJ_row (by omega)) (fun _ _ => rfl) (fun _ _ => rfl) ?_, fun b g1 g2 => bcJ_row (by omega), fun b hb => bcJ_row (by unfold chR at hb; omega), fun b g1 g2 => bcJ_row (by omega)⟩
  have ea : aN (rYJ S x) x = v := by unfold aN; rw [rYJ_27, ev, nI_clamp (by omega)]
  have el : lN' (rYJ S x) x = v := by unfold lN'; rw [rYJ_26, ev, nI_clamp (by omega)]
  unfold nRel
  rw [ea, el, rYJ_21, rYJ_26, rYJ_27, rBef_of (I := S) (rYJ_row (by omega)) (rYJ_row (by omega)), rBeh_of (I := S) (rYJ_row (by omega)) (rYJ_row (by omega)), rTl_of (I := S) (rYJ_row (by omega)) (rYJ_row (by omega)), v2, v8, v9, u7, bcJ_nd (by omega), bcJ_nd (by omega), bcJ_nd (by omega), bcJ_nd (by omega), bcJ_nd (by omega), bcJ_nd (by omega)]
  rw [rYJ_row (show ¬ (320 = 321 ∨ 320 = 326 ∨ 320 = 327 ∨ 320 = 328 ∨ 320 = 329 ∨ 320 = 330 ∨ 320 = 331) by omega), rYJ_row (show ¬ (322 = 321 ∨ 322 = 326 ∨ 322 = 327 ∨ 322 = 328 ∨ 322 = 329 ∨ 322 = 330 ∨ 322 = 331) by omega), rYJ_row (show ¬ (323 = 321 ∨ 323 = 326 ∨ 323 = 327 ∨ 323 = 328 ∨ 323 = 329 ∨ 323 = 330 ∨ 323 = 331) by omega), rYJ_row (show ¬ (324 = 321 ∨ 324 = 326 ∨ 324 = 327 ∨ 324 = 328 ∨ 324 = 329 ∨ 324 = 330 ∨ 324 = 331) by omega), rYJ_row (show ¬ (325 = 321 ∨ 325 = 326 ∨ 325 = 327 ∨ 325 = 328 ∨ 325 = 329 ∨ 325 = 330 ∨ 325 = 331) by omega)]
  refine ⟨⟨p0, p1, rfl, p3⟩, chRel_of pc (fun b hb => bcJ_row (by unfold chR at hb; omega)) (fun _ _ => rfl), ⟨p5, p6, p7⟩, ⟨rfl, rfl⟩, fun k hk => ?_, fun c hc => ?_, fun i hi => by omega⟩
  · rw [(vk k hk).1, (vk k hk).2, (uk k hk).1, (uk k hk).2]
    unfold rYJ
    have := rYk_v (I := sw (sw S 326 x (S 317 7)) 327 x (S 317 7)) (x := x) 4 k hk
    rw [sw_row (by omega), sw_row (by omega), rYt_row (by omega), rYt_row (by omega), this.1, this.2, sw_row (by omega), sw_row (by omega)]
    exact ⟨rfl, rfl⟩
  · rw [(vt c hc).1, (vt c hc).2, ut c hc]
    unfold rYJ
    have := rYt_v (I := rYk (sw (sw S 326 x (S 317 7)) 327 x (S 317 7)) x 4) (x := x) 3 c hc
    rw [sw_row (by omega), sw_row (by omega), this.1, this.2, rYk_row (by omega), sw_row (by omega), sw_row (by omega)]
    exact ⟨rfl, rfl⟩
theorem k_N_takeCopy (h : cRel M S I R n) (hnds : ndA S) (hnd : rNd S x a l n') (hch : nCh S x) (hv : v < 100000) (ev : S 317 7 = nI v) (u7 : I (R 3 1) 7 = S 317 7) (ut : ∀ c, c < 3 → I (R 3 1 + 1) c = S 317 (17 + c)) (uk : ∀ k, k < 4 → I (R 3 1 + 2) k = S 317 (9 + 2 * k) ∧ I (R 3 1 + 3) k = S 317 (9 + 2 * k + 1)) : kO xl xs (d + 4) 72 [some (.inr (257 + 9 * x)), some (.inr (R 3 1)), some (.inr 3)] M R I (rTakeP S x v) := by
  obtain ⟨hx, hn6, h1, h2, h3, h4, h5, h6, h7⟩ := id hnd
  obtain ⟨hs, hf, ⟨w1, w2, w3, ⟨w4, w5, w6, w7⟩, w8⟩, hn, hc, hk⟩ := id h
  obtain ⟨⟨p0, p1, p2, p3⟩, pc, ⟨p5, p6, p7⟩, ⟨p8, p9⟩, pk, pt, pp⟩ := hn x hx
  unfold rTakeP
  by_cases b : S 321 x = nI 0
  · rw [if_pos b]
    rw [b] at p2
    obtain ⟨kB, fB⟩ := k_become h hnds hnd hv ev u7 ut uk
    have run := fun Q : Option ck_V → ck_M → Prop => c_N_becomeReady (xl := xl) (xs := xs) (d := d + 2) (Q := Q) (I := I) hs hf hx w6
    have j6 : bcJ I x (R 3 1) (257 + 9 * x) 6 = rBeh S x := (bcJ_nd (by omega)).trans p6
    have hndY := rYJ_nd hnd hv ev
    have hndsY := rYJ_ndA hnds hnd hv ev
    have hchY : nCh (rYJ S x) x := nCh_of hch (rYJ_row (by omega)) (rYJ_row (by omega))
    rcases rBeh_v hch with e | ⟨y, hy, e⟩
    · rw [if_pos (by rw [e]; decide +kernel)]
      obtain ⟨J, m, k1, k2, k3⟩ := k_N_sendAck (xl := xl) (xs := xs) (d := d + 2) kB hx hchY
      refine ⟨J, m, k1, cFr_tr fB k2, fun Q => ?_⟩
      simp only [j_N_takeCopy_0, j_N_takeCopy_25, e_N_takeCopy_0, e_N_takeCopy_1, e_N_takeCopy_4, e_N_takeCopy_7, e_N_takeCopy_8, e_N_takeCopy_9, e_N_takeCopy_12, e_N_takeCopy_13, e_N_takeCopy_16, e_N_takeCopy_17, e_N_takeCopy_20, e_N_takeCopy_21, e_N_takeCopy_22, e_N_takeCopy_25, e_N_takeCopy_26, e_N_takeCopy_27, e_N_takeCopy_30, li_s, la_s, wp_iconst, wp_bipush, wp_sipush, wp_ldc, wp_iload, wp_iload_n, wp_aload, wp_aload_n, wp_istore, wp_istore_n, wp_astore, wp_astore_n, wp_iinc, wp_iadd, wp_isub, wp_imul, wp_iand, wp_irem, wp_dup, wp_pop, wp_goto, wp_if, wp_icmp, wp_ifnull, wp_tsw, wp_get0, wp_get2, wp_get1, wp_put0, wp_put2, wp_put1, wp_iald, wp_sald, wp_iast, wp_bald, wp_bast, wp_aald, wp_aast, wp_alen, wp_slen, wp_new, wp_newa, wp_newq, wp_cast, wp_oinit, wp_clone, wp_copy, wp_callI0, wp_callI1, wp_callI2, wp_callI3, wp_callI4, wp_callI5, wp_callV0, wp_callV1, wp_callV2, wp_callV3, wp_callV4, wp_callV5, wp_callS0, wp_callS1, wp_callS2, wp_callS3, wp_callS4, wp_iret0, wp_iret1, wp_aret, wp_ret, lg_0, lg_1, lg_2, lg_3, lg_4, lg_5, lg_6, lg_7, ls_0, ls_1, ls_2, ls_3, ls_4, ls_5, ls_6, ls_7, oi_m1, oi_0, oi_1, oi_2, oi_3, oi_4, oi_5, bp_6, bp_7, bp_8, bp_9, bp_15, bp_17, bp_18, bp_20, bp_21, bp_24, bp_36, bp_48, bp_50, bp_60, bp_61, sp_1281, sp_9999, lc_100000, lc_1000000, cc_eq, cc_ne, cc_lt, cc_ge, cc_gt, cc_le, z_or0, z_or1, true_and, and_true, Classical.not_not, Option.toList_none, Option.toList_some, List.cons_append, List.nil_append, List.length_cons, List.length_nil, Nat.reduceAdd, Nat.reduceEqDiff, Nat.reduceLeDiff, Nat.zero_le, not_false_eq_true, cB_iv, cB_rv, cB_wi, cB_wr, cB_kd, cB_ln, cB_sz, s_2, s_3, s_4, s_4l, s_255, s_255l, s_256, s_256l, s_311, s_311l, f_21, f_22, f_23, f_24, f_30, s_n hs hx, p2, cl_N_becomeReady, run, j6, e, cl_N_sendAck, k3]
      simp
    · have nb : ¬ nI y = -1 := by rw [neq_m1 (by omega)]; exact not_false
      rw [if_neg (by rw [e, nI_ltI (by omega) (by omega)]; omega)]
      obtain ⟨J, m, k1, k2, k3⟩ := k_N_handOver (xl := xl) (xs := xs) (d := d) kB hndsY hndY
      obtain ⟨K, m2, g1, g2, g3⟩ := k_N_sendAck (xl := xl) (xs := xs) (d := d + 2) k1 hx (nCh_of hchY (by rw [rSendCopy_row (by omega), sw_row (by omega)]) (by rw [rSendCopy_row (by omega), sw_row (by omega)]))
      refine ⟨K, m2, g1, cFr_tr fB (cFr_tr k2 g2), fun Q => ?_⟩
      simp only [j_N_takeCopy_0, j_N_takeCopy_25, e_N_takeCopy_0, e_N_takeCopy_1, e_N_takeCopy_4, e_N_takeCopy_7, e_N_takeCopy_8, e_N_takeCopy_9, e_N_takeCopy_12, e_N_takeCopy_13, e_N_takeCopy_16, e_N_takeCopy_17, e_N_takeCopy_20, e_N_takeCopy_21, e_N_takeCopy_22, e_N_takeCopy_25, e_N_takeCopy_26, e_N_takeCopy_27, e_N_takeCopy_30, li_s, la_s, wp_iconst, wp_bipush, wp_sipush, wp_ldc, wp_iload, wp_iload_n, wp_aload, wp_aload_n, wp_istore, wp_istore_n, wp_astore, wp_astore_n, wp_iinc, wp_iadd, wp_isub, wp_imul, wp_iand, wp_irem, wp_dup, wp_pop, wp_goto, wp_if, wp_icmp, wp_ifnull, wp_tsw, wp_get0, wp_get2, wp_get1, wp_put0, wp_put2, wp_put1, wp_iald, wp_sald, wp_iast, wp_bald, wp_bast, wp_aald, wp_aast, wp_alen, wp_slen, wp_new, wp_newa, wp_newq, wp_cast, wp_oinit, wp_clone, wp_copy, wp_callI0, wp_callI1, wp_callI2, wp_callI3, wp_callI4, wp_callI5, wp_callV0, wp_callV1, wp_callV2, wp_callV3, wp_callV4, wp_callV5, wp_callS0, wp_callS1, wp_callS2, wp_callS3, wp_callS4, wp_iret0, wp_iret1, wp_aret, wp_ret, lg_0, lg_1, lg_2, lg_3, lg_4, lg_5, lg_6, lg_7, ls_0, ls_1, ls_2, ls_3, ls_4, ls_5, ls_6, ls_7, oi_m1, oi_0, oi_1, oi_2, oi_3, oi_4, oi_5, bp_6, bp_7, bp_8, bp_9, bp_15, bp_17, bp_18, bp_20, bp_21, bp_24, bp_36, bp_48, bp_50, bp_60, bp_61, sp_1281, sp_9999, lc_100000, lc_1000000, cc_eq, cc_ne, cc_lt, cc_ge, cc_gt, cc_le, z_or0, z_or1, true_and, and_true, Classical.not_not, Option.toList_none, Option.toList_some, List.cons_append, List.nil_append, List.length_cons, List.length_nil, Nat.reduceAdd, Nat.reduceEqDiff, Nat.reduceLeDiff, Nat.zero_le, not_false_eq_true, cB_iv, cB_rv, cB_wi, cB_wr, cB_kd, cB_ln, cB_sz, s_2, s_3, s_4, s_4l, s_255, s_255l, s_256, s_256l, s_311, s_311l, f_21, f_22, f_23, f_24, f_30, s_n hs hx, p2, cl_N_becomeReady, run, j6, e, cl_N_handOver, k3, cl_N_sendAck, g3]
      simp [nb]
  · rw [if_neg b]
    obtain ⟨J, m, k1, k2, k3⟩ := k_N_sendAck (xl := xl) (xs := xs) (d := d + 2) h hx hch
    refine ⟨J, m, k1, k2, fun Q => ?_⟩
    simp only [j_N_takeCopy_0, j_N_takeCopy_25, e_N_takeCopy_0, e_N_takeCopy_1, e_N_takeCopy_4, e_N_takeCopy_7, e_N_takeCopy_8, e_N_takeCopy_9, e_N_takeCopy_12, e_N_takeCopy_13, e_N_takeCopy_16, e_N_takeCopy_17, e_N_takeCopy_20, e_N_takeCopy_21, e_N_takeCopy_22, e_N_takeCopy_25, e_N_takeCopy_26, e_N_takeCopy_27, e_N_takeCopy_30, li_s, la_s, wp_iconst, wp_bipush, wp_sipush, wp_ldc, wp_iload, wp_iload_n, wp_aload, wp_aload_n, wp_istore, wp_istore_n, wp_astore, wp_astore_n, wp_iinc, wp_iadd, wp_isub, wp_imul, wp_iand, wp_irem, wp_dup, wp_pop, wp_goto, wp_if, wp_icmp, wp_ifnull, wp_tsw, wp_get0, wp_get2, wp_get1, wp_put0, wp_put2, wp_put1, wp_iald, wp_sald, wp_iast, wp_bald, wp_bast, wp_aald, wp_aast, wp_alen, wp_slen, wp_new, wp_newa, wp_newq, wp_cast, wp_oinit, wp_clone, wp_copy, wp_callI0, wp_callI1, wp_callI2, wp_callI3, wp_callI4, wp_callI5, wp_callV0, wp_callV1, wp_callV2, wp_callV3, wp_callV4, wp_callV5, wp_callS0, wp_callS1, wp_callS2, wp_callS3, wp_callS4, wp_iret0, wp_iret1, wp_aret, wp_ret, lg_0, lg_1, lg_2, lg_3, lg_4, lg_5, lg_6, lg_7, ls_0, ls_1, ls_2, ls_3, ls_4, ls_5, ls_6, ls_7, oi_m1, oi_0, oi_1, oi_2, oi_3, oi_4, oi_5, bp_6, bp_7, bp_8, bp_9, bp_15, bp_17, bp_18, bp_20, bp_21, bp_24, bp_36, bp_48, bp_50, bp_60, bp_61, sp_1281, sp_9999, lc_100000, lc_1000000, cc_eq, cc_ne, cc_lt, cc_ge, cc_gt, cc_le, z_or0, z_or1, true_and, and_true, Classical.not_not, Option.toList_none, Option.toList_some, List.cons_append, List.nil_append, List.length_cons, List.length_nil, Nat.reduceAdd, Nat.reduceEqDiff, Nat.reduceLeDiff, Nat.zero_le, not_false_eq_true, cB_iv, cB_rv, cB_wi, cB_wr, cB_kd, cB_ln, cB_sz, s_2, s_3, s_4, s_4l, s_255, s_255l, s_256, s_256l, s_311, s_311l, f_21, f_22, f_23, f_24, f_30, s_n hs hx, p2, cl_N_sendAck, k3]
    simp [b]
end C16
