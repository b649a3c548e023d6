/-! ### the class: a copy sent, hands over -/
/-- the reference's ints of node y are the same -/
def nEq (S T : Nat → Nat → Int32) (y : Nat) : Prop := (T 320 y = S 320 y ∧ T 321 y = S 321 y ∧ T 322 y = S 322 y ∧ T 323 y = S 323 y ∧ T 324 y = S 324 y ∧ T 326 y = S 326 y ∧ T 327 y = S 327 y) ∧ (∀ i, i < 6 → T 325 (6 * y + i) = S 325 (6 * y + i)) ∧ (∀ k, k < 4 → T 328 (4 * y + k) = S 328 (4 * y + k) ∧ T 329 (4 * y + k) = S 329 (4 * y + k)) ∧ (∀ c, c < 3 → T 330 (3 * y + c) = S 330 (3 * y + c) ∧ T 331 (3 * y + c) = S 331 (3 * y + c)) ∧ ∀ i, i < 8 → T 332 (8 * y + i) = S 332 (8 * y + i) ∧ T 333 (8 * y + i) = S 333 (8 * y + i) ∧ T 334 (8 * y + i) = S 334 (8 * y + i) ∧ T 335 (8 * y + i) = S 335 (8 * y + i)
theorem rQ_of {f g : Nat → Int32} {y : Nat} : ∀ n, n ≤ 6 → (∀ i, i < 6 → g (6 * y + i) = f (6 * y + i)) → rQ g y n = rQ f y n := by
  intro n
  induction n with
  | zero => intro _ _; rfl
  | succ n ih => intro hn h; unfold rQ; rw [h n (by omega), ih (by omega) h]
theorem ch_eq {S T : Nat → Nat → Int32} {y n : Nat} (hn : n ≤ 6) (hl : S 324 y = nI n) (h1 : T 324 y = S 324 y) (h2 : ∀ i, i < 6 → T 325 (6 * y + i) = S 325 (6 * y + i)) : rLen T y = rLen S y ∧ rq T y = rq S y ∧ rBef T y = rBef S y ∧ rBeh T y = rBeh S y ∧ rTl T y = rTl S y := by
  have e1 : rLen S y = n := rLen_eq hn hl
  have e2 : rLen T y = n := rLen_eq hn (h1.trans hl)
  have e3 : rq T y = rq S y := by unfold rq; rw [e1, e2]; exact rQ_of n hn h2
  have hq : rq S y ≤ n := by have := rq_le (I := S) y; rw [e1] at this; exact this
  have e4 : rBef T y = rBef S y := by
    unfold rBef
    rw [e3]
    split
    · exact h2 _ (by omega)
    · rfl
  have e5 : rBeh T y = rBeh S y := by
    unfold rBeh
    rw [e3, e1, e2]
    split
    · exact h2 _ (by omega)
    · rfl
  exact ⟨by rw [e1, e2], e3, e4, e5, by unfold rTl; rw [e3, e5]⟩
theorem nRel_eq {M : ck_M} {S T I J : Nat → Nat → Int32} {R P : Nat → Nat → Nat} {y a l n : Nat} (h : nRel M S I R y) (hnd : rNd S y a l n) (hE : nEq S T y) (hI : ∀ a, 257 + 9 * y ≤ a → a ≤ 257 + 9 * y + 8 → J a = I a) (hC : ∀ a, chR a → J a = I a) (hP : ∀ a, chR a → P a = R a) (hr : P (257 + 9 * y) 4 = R (257 + 9 * y) 4) : nRel M T J P y := by
  obtain ⟨hx, hn, h1, h2, h3, h4, h5, h6, h7⟩ := hnd
  obtain ⟨⟨q0, q1, q2, q3, q4, q6, q7⟩, q5, q8, q9, q10⟩ := hE
  obtain ⟨c1, c2, c3, c4, c5⟩ := ch_eq hn h1 q4 q5
  have ea : aN T y = aN S y := by unfold aN; rw [q7]
  have el : lN' T y = lN' S y := by unfold lN'; rw [q6]
  have el8 : lN' S y - aN S y ≤ 8 := by unfold lN' aN; rw [h2, h3, nI_clamp (by omega), nI_clamp (by omega)]; omega
  obtain ⟨⟨g0, g1, g2, g3⟩, gc, ⟨g5, g6, g7⟩, ⟨g8, g9⟩, g10, g11, g12⟩ := h
  unfold nRel
  rw [hr, c3, c4, c5, ea, el, q0, q1, q2, q3, q4, q6, q7]
  rw [hI (257 + 9 * y) (by omega) (by omega), hI (257 + 9 * y + 1) (by omega) (by omega), hI (257 + 9 * y + 2) (by omega) (by omega), hI (257 + 9 * y + 3) (by omega) (by omega), hI (257 + 9 * y + 4) (by omega) (by omega), hI (257 + 9 * y + 5) (by omega) (by omega), hI (257 + 9 * y + 6) (by omega) (by omega), hI (257 + 9 * y + 7) (by omega) (by omega), hI (257 + 9 * y + 8) (by omega) (by omega)]
  exact ⟨⟨g0, g1, g2, g3⟩, chRel_g (chRel_of gc hC hP) rfl rfl (fun i hi => q5 i hi), ⟨g5, g6, g7⟩, ⟨g8, g9⟩, fun k hk => by rw [(q8 k hk).1, (q8 k hk).2]; exact g10 k hk, fun c hc => by rw [(q9 c hc).1, (q9 c hc).2]; exact g11 c hc, fun i hi => by
    obtain ⟨z1, z2, z3, z4⟩ := q10 i (by omega)
    rw [z1, z2, z3, z4]; exact g12 i hi⟩
/-- ONE NODE CHANGED: its cells, and the reference's ints of it -/
theorem rel_node {M : ck_M} {S T I J : Nat → Nat → Int32} {R P : Nat → Nat → Nat} {n x : Nat} (h : cRel M S I R n) (hx : x < 6) (hnd : ∀ y, y < 6 → ∃ a l n, rNd S y a l n) (hS : ∀ a, ¬ (320 ≤ a ∧ a ≤ 335) → T a = S a) (hE : ∀ y, y < 6 → ¬ y = x → nEq S T y) (hI : ∀ a, ¬ (257 + 9 * x ≤ a ∧ a ≤ 257 + 9 * x + 8) → J a = I a) (hP : ∀ a, ¬ a = 257 + 9 * x → P a = R a) (hP4 : ∀ j, ¬ j = 4 → P (257 + 9 * x) j = R (257 + 9 * x) j) (hN : nRel M T J P x) : cRel M T J P n := by
  obtain ⟨hs, hf, ⟨w1, w2, w3, ⟨w4, w5, w6, w7⟩, w8⟩, hn, hc, hk⟩ := h
  have hC : ∀ a, chR a → J a = I a := fun a ha => hI a (by unfold chR at ha; omega)
  have hPC : ∀ a, chR a → P a = R a := fun a ha => hP a (by unfold chR at ha; omega)
  refine ⟨hs, cRf_of hf (fun j hj => by rw [hP 2 (by omega)]) (by rw [hP 3 (by omega)]) (hP 255 (by omega)) (fun y hy j hj => ?_) (hP 311 (by omega)) (fun r hr j hj => by rw [hP r (by have := isM_b hr; omega)]), ⟨w1, by rw [hS 315 (by omega)]; exact w2, by rw [hI 3 (by omega)]; exact w3, by rw [hP 4 (by omega), hP 3 (by omega)]; exact ⟨w4, w5, w6, w7⟩, fun i hi => ?_⟩, fun y hy => ?_, fun c hc' => clRel_of (hc c hc') (hI _ (by omega)) (fun a h1 h2 => hS a (by omega)), kRel_of hk (hI 2 (by omega)) (hI 256 (by omega)) hC hPC (by rw [hP 2 (by omega)]) (fun j hj => by rw [hS 315 (by omega)]) (hS 318 (by omega)) (hS 319 (by omega))⟩
  · by_cases hyx : y = x
    · subst hyx; exact hP4 j hj
    · rw [hP _ (by omega)]
  · have hμ := w4 i (by omega)
    have bμ := isM_b hμ
    rw [hP 4 (by omega)]
    exact gRel_of (w8 i hi) (fun a h1 h2 => hI a (by omega)) hC hPC (by rw [hP _ (by omega)]) (fun j hj => by rw [hS 316 (by omega)])
  · by_cases hyx : y = x
    · subst hyx; exact hN
    · obtain ⟨a, l, n', hndy⟩ := hnd y hy
      exact nRel_eq (hn y hy) hndy (hE y hy hyx) (fun a h1 h2 => hI a (by omega)) hC hPC (by rw [hP _ (by omega)])
section C6
variable {xl : Nat} {xs : Nat → Int32} {d : Nat} {M : ck_M} {S I : Nat → Nat → Int32} {R : Nat → Nat → Nat} {n : Nat}
set_option maxHeartbeats 2000000 in
theorem k_N_sendCopy (h : cRel M S I R n) {x a l n' : Nat} (hnd : rNd S x a l n') : ∃ J m, cRel M (rSendCopy S x a l) J R m ∧ cFr I J (R 3 1) ∧ ∀ Q : Option ck_V → ck_M → Prop, ck_Ev ck_P xl xs (d + 2) 70 0 [some (.inr (257 + 9 * x)), some (.inr 3), none, none, none] [] (cB M I R) Q = Q none (cB M J R) := by
  obtain ⟨hs, hf, ⟨w1, w2, w3, ⟨w4, w5, w6, w7⟩, w8⟩, hn, hc, hk⟩ := id h
  obtain ⟨hx, hn6, h1, h2, h3, h4, h5, h6, h7⟩ := id hnd
  obtain ⟨⟨p0, p1, p2, p3⟩, pc, ⟨p5, p6, p7⟩, ⟨p8, p9⟩, pk, pt, pp⟩ := hn x hx
  have ea : aN S x = a := by unfold aN; rw [h2, nI_clamp (by omega)]
  have el : lN' S x = l := by unfold lN'; rw [h3, nI_clamp (by omega)]
  rw [ea, el] at pp
  have hqk := pc.2.1
  have hqe := pc.2.2.2.2.2.1
  have hqr : R (257 + 9 * x) 4 = 254 ∨ 345 ≤ R (257 + 9 * x) 4 := pc.1
  generalize hq : R (257 + 9 * x) 4 = q at *
  have hμ : isM (R 4 n) := w4 n (by omega)
  have bμ := isM_b hμ
  generalize hμe : R 4 n = μ at hμ bμ
  generalize hJ0 : kcp (sw (sw (sw (sw I μ 0 (nI 9)) μ 1 (rBeh S x)) μ 2 (S 323 x)) μ 7 (S 326 x)) (257 + 9 * x + 7) 0 (μ + 1) 0 3 = J0
  have r0 : ∀ b, ¬ (b = μ ∨ b = μ + 1) → J0 b = I b := fun b hb => by rw [← hJ0, kcp_row (by omega)]; simp (disch := omega) only [nI_add, pk_mul, pk_sub, nI_clamp, cin, nI_leI, nI_ltI, nI_eq, m1_lt, m1_le, nle_m1, nlt_m1, neq_m1, m1_neq, m1_add, sw_row, sw_eq, sw_ne, rCopyK_row, rTakeM_row, rShift_row, rPsh_row, Nat.reduceAdd, Nat.reduceMul, Nat.reduceSub, Nat.reduceLeDiff, Nat.reduceEqDiff, true_and, and_true, Classical.not_not, implies_true, true_implies, forall_const]
  generalize hF : (fun k => if nw (S 332) x (nI k) (l - a) = 0 then S 328 (4 * x + k) else nI (a + nw (S 332) x (nI k) (l - a))) = F
  generalize hG : (fun k => if nw (S 332) x (nI k) (l - a) = 0 then S 329 (4 * x + k) else S 333 (8 * x + (nw (S 332) x (nI k) (l - a) - 1))) = G
  obtain ⟨f7, ft, fk⟩ := rCopyM_f hnd
  obtain ⟨k1, k2⟩ := k_send (T := sw (rCopyM S x a l) 317 2 (S 323 x)) (J := kCv J0 μ F G 4) (k := nI 9) (t := rBeh S x) h (fun b hb => by rw [sw_row hb, rCopyM_row hb]) (fun b hb => by rw [hμe] at hb; rw [kCv_row (by omega), r0 _ (by omega)]) (by
    rw [hμe]
    unfold gRel
    have e0 : ∀ j, kCv J0 μ F G 4 μ j = (sw (sw (sw (sw I μ 0 (nI 9)) μ 1 (rBeh S x)) μ 2 (S 323 x)) μ 7 (S 326 x)) μ j := fun j => by rw [kCv_row (by omega), ← hJ0, kcp_row (by omega)]
    have e1 : ∀ c, c < 3 → kCv J0 μ F G 4 (μ + 1) c = S 330 (3 * x + c) := fun c hc => by
      rw [kCv_row (by omega), ← hJ0, kcp_in (by omega)]
      simp (disch := omega) only [nI_add, pk_mul, pk_sub, nI_clamp, cin, nI_leI, nI_ltI, nI_eq, m1_lt, m1_le, nle_m1, nlt_m1, neq_m1, m1_neq, m1_add, sw_row, sw_eq, sw_ne, rCopyK_row, rTakeM_row, rShift_row, rPsh_row, Nat.reduceAdd, Nat.reduceMul, Nat.reduceSub, Nat.reduceLeDiff, Nat.reduceEqDiff, true_and, and_true, Classical.not_not, implies_true, true_implies, forall_const]
      rw [show 0 + (c - 0) = c by omega]
      exact (pt c hc).1
    have e2 := fun k (hk : k < 4) => kCv_v (I := J0) (μ := μ) (f := F) (g := G) 4 k hk
    simp only [e0]
    simp (disch := omega) only [nI_add, pk_mul, pk_sub, nI_clamp, cin, nI_leI, nI_ltI, nI_eq, m1_lt, m1_le, nle_m1, nlt_m1, neq_m1, m1_neq, m1_add, sw_row, sw_eq, sw_ne, rCopyK_row, rTakeM_row, rShift_row, rPsh_row, Nat.reduceAdd, Nat.reduceMul, Nat.reduceSub, Nat.reduceLeDiff, Nat.reduceEqDiff, true_and, and_true, Classical.not_not, implies_true, true_implies, forall_const]
    simp (disch := omega) [nn, f7]
    refine ⟨fun c hc => by rw [e1 c hc, ft c hc], fun k hk => ⟨by rw [(e2 k hk).1, (fk k hk).1, ← hF], by rw [(e2 k hk).2, (fk k hk).2, ← hG]⟩⟩)
  refine ⟨_, (if n < 60 then n + 1 else n), ?_, k2, fun Q => ?_⟩
  · unfold rSendCopy rSendFrom
    rw [rCopyM_row (show ¬ 323 = 317 by omega)]
    exact k1
  · simp only [j_N_sendCopy_0, j_N_sendCopy_73, j_N_sendCopy_75, j_N_sendCopy_95, j_N_sendCopy_105, j_N_sendCopy_112, e_N_sendCopy_0, e_N_sendCopy_1, e_N_sendCopy_3, e_N_sendCopy_4, e_N_sendCopy_7, e_N_sendCopy_8, e_N_sendCopy_11, e_N_sendCopy_14, e_N_sendCopy_17, e_N_sendCopy_18, e_N_sendCopy_19, e_N_sendCopy_20, e_N_sendCopy_23, e_N_sendCopy_26, e_N_sendCopy_27, e_N_sendCopy_30, e_N_sendCopy_31, e_N_sendCopy_32, e_N_sendCopy_35, e_N_sendCopy_36, e_N_sendCopy_37, e_N_sendCopy_40, e_N_sendCopy_41, e_N_sendCopy_43, e_N_sendCopy_44, e_N_sendCopy_47, e_N_sendCopy_48, e_N_sendCopy_49, e_N_sendCopy_52, e_N_sendCopy_54, e_N_sendCopy_55, e_N_sendCopy_58, e_N_sendCopy_59, e_N_sendCopy_61, e_N_sendCopy_64, e_N_sendCopy_65, e_N_sendCopy_68, e_N_sendCopy_69, e_N_sendCopy_70, e_N_sendCopy_73, e_N_sendCopy_75, e_N_sendCopy_76, e_N_sendCopy_77, e_N_sendCopy_80, e_N_sendCopy_81, e_N_sendCopy_83, e_N_sendCopy_86, e_N_sendCopy_87, e_N_sendCopy_90, e_N_sendCopy_91, e_N_sendCopy_92, e_N_sendCopy_95, e_N_sendCopy_96, e_N_sendCopy_99, e_N_sendCopy_101, e_N_sendCopy_104, e_N_sendCopy_105, e_N_sendCopy_106, e_N_sendCopy_109, e_N_sendCopy_112, e_N_sendCopy_113, e_N_sendCopy_116, li_s, la_s, wp_iconst, wp_bipush, wp_sipush, wp_ldc, wp_iload, wp_iload_n, wp_aload, wp_aload_n, wp_istore, wp_istore_n, wp_astore, wp_astore_n, wp_iinc, wp_iadd, wp_isub, wp_imul, wp_iand, wp_irem, wp_dup, wp_pop, wp_goto, wp_if, wp_icmp, wp_ifnull, wp_tsw, wp_get0, wp_get2, wp_get1, wp_put0, wp_put2, wp_put1, wp_iald, wp_sald, wp_iast, wp_bald, wp_bast, wp_aald, wp_aast, wp_alen, wp_slen, wp_new, wp_newa, wp_newq, wp_cast, wp_oinit, wp_clone, wp_copy, wp_callI0, wp_callI1, wp_callI2, wp_callI3, wp_callI4, wp_callI5, wp_callV0, wp_callV1, wp_callV2, wp_callV3, wp_callV4, wp_callV5, wp_callS0, wp_callS1, wp_callS2, wp_callS3, wp_callS4, wp_iret0, wp_iret1, wp_aret, wp_ret, lg_0, lg_1, lg_2, lg_3, lg_4, lg_5, lg_6, lg_7, ls_0, ls_1, ls_2, ls_3, ls_4, ls_5, ls_6, ls_7, oi_m1, oi_0, oi_1, oi_2, oi_3, oi_4, oi_5, bp_6, bp_7, bp_8, bp_9, bp_15, bp_17, bp_18, bp_20, bp_21, bp_24, bp_36, bp_48, bp_50, bp_60, bp_61, sp_1281, sp_9999, lc_100000, lc_1000000, cc_eq, cc_ne, cc_lt, cc_ge, cc_gt, cc_le, z_or0, z_or1, true_and, and_true, Classical.not_not, Option.toList_none, Option.toList_some, List.cons_append, List.nil_append, List.length_cons, List.length_nil, Nat.reduceAdd, Nat.reduceEqDiff, Nat.reduceLeDiff, Nat.zero_le, not_false_eq_true, cB_iv, cB_rv, cB_wi, cB_wr, cB_kd, cB_ln, cB_sz, s_2, s_3, s_4, s_4l, s_255, s_255l, s_256, s_256l, s_311, s_311l, f_21, f_22, f_23, f_24, f_30, hs, s_n hs hx, p6, hq, hqk, hqe, cl_W_draft]
    rw [c_W_draft hs hf w1 w3 (by rw [hμe]; exact hμ), hμe]
    simp only [j_N_sendCopy_0, j_N_sendCopy_73, j_N_sendCopy_75, j_N_sendCopy_95, j_N_sendCopy_105, j_N_sendCopy_112, e_N_sendCopy_0, e_N_sendCopy_1, e_N_sendCopy_3, e_N_sendCopy_4, e_N_sendCopy_7, e_N_sendCopy_8, e_N_sendCopy_11, e_N_sendCopy_14, e_N_sendCopy_17, e_N_sendCopy_18, e_N_sendCopy_19, e_N_sendCopy_20, e_N_sendCopy_23, e_N_sendCopy_26, e_N_sendCopy_27, e_N_sendCopy_30, e_N_sendCopy_31, e_N_sendCopy_32, e_N_sendCopy_35, e_N_sendCopy_36, e_N_sendCopy_37, e_N_sendCopy_40, e_N_sendCopy_41, e_N_sendCopy_43, e_N_sendCopy_44, e_N_sendCopy_47, e_N_sendCopy_48, e_N_sendCopy_49, e_N_sendCopy_52, e_N_sendCopy_54, e_N_sendCopy_55, e_N_sendCopy_58, e_N_sendCopy_59, e_N_sendCopy_61, e_N_sendCopy_64, e_N_sendCopy_65, e_N_sendCopy_68, e_N_sendCopy_69, e_N_sendCopy_70, e_N_sendCopy_73, e_N_sendCopy_75, e_N_sendCopy_76, e_N_sendCopy_77, e_N_sendCopy_80, e_N_sendCopy_81, e_N_sendCopy_83, e_N_sendCopy_86, e_N_sendCopy_87, e_N_sendCopy_90, e_N_sendCopy_91, e_N_sendCopy_92, e_N_sendCopy_95, e_N_sendCopy_96, e_N_sendCopy_99, e_N_sendCopy_101, e_N_sendCopy_104, e_N_sendCopy_105, e_N_sendCopy_106, e_N_sendCopy_109, e_N_sendCopy_112, e_N_sendCopy_113, e_N_sendCopy_116, li_s, la_s, wp_iconst, wp_bipush, wp_sipush, wp_ldc, wp_iload, wp_iload_n, wp_aload, wp_aload_n, wp_istore, wp_istore_n, wp_astore, wp_astore_n, wp_iinc, wp_iadd, wp_isub, wp_imul, wp_iand, wp_irem, wp_dup, wp_pop, wp_goto, wp_if, wp_icmp, wp_ifnull, wp_tsw, wp_get0, wp_get2, wp_get1, wp_put0, wp_put2, wp_put1, wp_iald, wp_sald, wp_iast, wp_bald, wp_bast, wp_aald, wp_aast, wp_alen, wp_slen, wp_new, wp_newa, wp_newq, wp_cast, wp_oinit, wp_clone, wp_copy, wp_callI0, wp_callI1, wp_callI2, wp_callI3, wp_callI4, wp_callI5, wp_callV0, wp_callV1, wp_callV2, wp_callV3, wp_callV4, wp_callV5, wp_callS0, wp_callS1, wp_callS2, wp_callS3, wp_callS4, wp_iret0, wp_iret1, wp_aret, wp_ret, lg_0, lg_1, lg_2, lg_3, lg_4, lg_5, lg_6, lg_7, ls_0, ls_1, ls_2, ls_3, ls_4, ls_5, ls_6, ls_7, oi_m1, oi_0, oi_1, oi_2, oi_3, oi_4, oi_5, bp_6, bp_7, bp_8, bp_9, bp_15, bp_17, bp_18, bp_20, bp_21, bp_24, bp_36, bp_48, bp_50, bp_60, bp_61, sp_1281, sp_9999, lc_100000, lc_1000000, cc_eq, cc_ne, cc_lt, cc_ge, cc_gt, cc_le, z_or0, z_or1, true_and, and_true, Classical.not_not, Option.toList_none, Option.toList_some, List.cons_append, List.nil_append, List.length_cons, List.length_nil, Nat.reduceAdd, Nat.reduceEqDiff, Nat.reduceLeDiff, Nat.zero_le, not_false_eq_true, cB_iv, cB_rv, cB_wi, cB_wr, cB_kd, cB_ln, cB_sz, s_2, s_3, s_4, s_4l, s_255, s_255l, s_256, s_256l, s_311, s_311l, f_21, f_22, f_23, f_24, f_30, cB_cp, hs, s_n hs hx, s_n7 hs hx, s_n7l hs hx, f_n16 hf hx, f_m10 hf hμ, s_m hs hμ, s_m1 hs hμ, s_m1l hs hμ]
    rw [← j_N_sendCopy_42]
    have z0 : ¬ nI 0 < 0 := by decide +kernel
    have z3 : ¬ nI 3 < 0 := by decide +kernel
    have c0 : (nI 0).toNatClampNeg = 0 := nI_clamp (by omega)
    have c3 : (nI 3).toNatClampNeg = 3 := nI_clamp (by omega)
    simp (disch := omega) only [nI_add, pk_mul, pk_sub, nI_clamp, cin, nI_leI, nI_ltI, nI_eq, m1_lt, m1_le, nle_m1, nlt_m1, neq_m1, m1_neq, m1_add, sw_row, sw_eq, sw_ne, rCopyK_row, rTakeM_row, rShift_row, rPsh_row, Nat.reduceAdd, Nat.reduceMul, Nat.reduceSub, Nat.reduceLeDiff, Nat.reduceEqDiff, true_and, and_true, Classical.not_not, implies_true, true_implies, forall_const, p8, c0, c3, z0, z3, hJ0]
    have kl := c_N_sendCopy_l (xl := xl) (xs := xs) (d := d) (Q := Q) (I := J0) (n := n) (f := S 332) (f2 := S 328) (f3 := S 329) (g := S 333) hs hf hx hμ h4 h5 h6 (by rw [r0 _ (by omega), p8]; exact h3) (by rw [r0 _ (by omega), p9]; exact h2) (fun i hi => by rw [r0 _ (by omega), r0 _ (by omega)]; exact ⟨(pp i hi).1, (pp i hi).2.1⟩) (fun k hk => by rw [r0 _ (by omega), r0 _ (by omega)]; exact pk k hk) (by rw [r0 _ (by omega)]; exact w3) w1 4 0 none (by omega)
    rw [hF, hG] at kl
    have eK0 : kCv J0 μ F G 0 = J0 := rfl
    rw [eK0] at kl
    rw [kl]
    simp
theorem k_N_handOver (h : cRel M S I R n) {x a l n' : Nat} (hnds : ∀ y, y < 6 → ∃ a l n, rNd S y a l n) (hnd : rNd S x a l n') : ∃ J m, cRel M (rSendCopy (sw S 322 x (nI 1)) x a l) J R m ∧ cFr I J (R 3 1) ∧ ∀ Q : Option ck_V → ck_M → Prop, ck_Ev ck_P xl xs (d + 3) 69 0 [some (.inr (257 + 9 * x)), some (.inr 3)] [] (cB M I R) Q = Q none (cB M J R) := by
  obtain ⟨hs, hf, ⟨w1, w2, w3, ⟨w4, w5, w6, w7⟩, w8⟩, hn, hc, hk⟩ := id h
  obtain ⟨hx, hn6, h1, h2, h3, h4, h5, h6, h7⟩ := id hnd
  have bη := isM_b w6
  have hr : cRel M (sw S 322 x (nI 1)) (sw I (257 + 9 * x) 3 (nI 1)) R n := by
    refine rel_node h hx hnds (fun b hb => sw_row (by omega)) (fun y hy hne => ?_) (fun b hb => sw_row (by omega)) (fun _ _ => rfl) (fun _ _ => rfl) ?_
    · unfold nEq; simp (disch := omega) only [nI_add, pk_mul, pk_sub, nI_clamp, cin, nI_leI, nI_ltI, nI_eq, m1_lt, m1_le, nle_m1, nlt_m1, neq_m1, m1_neq, m1_add, sw_row, sw_eq, sw_ne, rCopyK_row, rTakeM_row, rShift_row, rPsh_row, Nat.reduceAdd, Nat.reduceMul, Nat.reduceSub, Nat.reduceLeDiff, Nat.reduceEqDiff, true_and, and_true, Classical.not_not, implies_true, true_implies, forall_const]
    · obtain ⟨⟨p0, p1, p2, p3⟩, pc, ⟨p5, p6, p7⟩, ⟨p8, p9⟩, pk, pt, pp⟩ := hn x hx
      unfold nRel
      rw [rBef_sw (by omega), rBeh_sw (by omega), rTl_sw (by omega)]
      unfold aN lN' at *
      simp (disch := omega) only [nI_add, pk_mul, pk_sub, nI_clamp, cin, nI_leI, nI_ltI, nI_eq, m1_lt, m1_le, nle_m1, nlt_m1, neq_m1, m1_neq, m1_add, sw_row, sw_eq, sw_ne, rCopyK_row, rTakeM_row, rShift_row, rPsh_row, Nat.reduceAdd, Nat.reduceMul, Nat.reduceSub, Nat.reduceLeDiff, Nat.reduceEqDiff, true_and, and_true, Classical.not_not, implies_true, true_implies, forall_const]
      exact ⟨⟨p0, p1, p2⟩, chRel_of pc (fun a ha => sw_row (by unfold chR at ha; omega)) (fun _ _ => rfl), ⟨p5, p6, p7⟩, ⟨p8, p9⟩, pk, pt, pp⟩
  have hnd' : rNd (sw S 322 x (nI 1)) x a l n' := rNd_of hnd (sw_row (by omega)) (sw_row (by omega)) (sw_row (by omega)) (sw_row (by omega)) (sw_row (by omega))
  obtain ⟨J, m, k1, k2, k3⟩ := k_N_sendCopy (xl := xl) (xs := xs) (d := d) hr hnd'
  refine ⟨J, m, k1, cFr_tr ⟨fun b h1 h2 => sw_row (by omega), fun b hb => sw_row (by unfold chR at hb; omega), fun b h1 h2 => sw_row (by omega)⟩ k2, fun Q => ?_⟩
  simp only [j_N_handOver_0, e_N_handOver_0, e_N_handOver_1, e_N_handOver_2, e_N_handOver_5, e_N_handOver_6, e_N_handOver_7, e_N_handOver_10, li_s, la_s, wp_iconst, wp_bipush, wp_sipush, wp_ldc, wp_iload, wp_iload_n, wp_aload, wp_aload_n, wp_istore, wp_istore_n, wp_astore, wp_astore_n, wp_iinc, wp_iadd, wp_isub, wp_imul, wp_iand, wp_irem, wp_dup, wp_pop, wp_goto, wp_if, wp_icmp, wp_ifnull, wp_tsw, wp_get0, wp_get2, wp_get1, wp_put0, wp_put2, wp_put1, wp_iald, wp_sald, wp_iast, wp_bald, wp_bast, wp_aald, wp_aast, wp_alen, wp_slen, wp_new, wp_newa, wp_newq, wp_cast, wp_oinit, wp_clone, wp_copy, wp_callI0, wp_callI1, wp_callI2, wp_callI3, wp_callI4, wp_callI5, wp_callV0, wp_callV1, wp_callV2, wp_callV3, wp_callV4, wp_callV5, wp_callS0, wp_callS1, wp_callS2, wp_callS3, wp_callS4, wp_iret0, wp_iret1, wp_aret, wp_ret, lg_0, lg_1, lg_2, lg_3, lg_4, lg_5, lg_6, lg_7, ls_0, ls_1, ls_2, ls_3, ls_4, ls_5, ls_6, ls_7, oi_m1, oi_0, oi_1, oi_2, oi_3, oi_4, oi_5, bp_6, bp_7, bp_8, bp_9, bp_15, bp_17, bp_18, bp_20, bp_21, bp_24, bp_36, bp_48, bp_50, bp_60, bp_61, sp_1281, sp_9999, lc_100000, lc_1000000, cc_eq, cc_ne, cc_lt, cc_ge, cc_gt, cc_le, z_or0, z_or1, true_and, and_true, Classical.not_not, Option.toList_none, Option.toList_some, List.cons_append, List.nil_append, List.length_cons, List.length_nil, Nat.reduceAdd, Nat.reduceEqDiff, Nat.reduceLeDiff, Nat.zero_le, not_false_eq_true, cB_iv, cB_rv, cB_wi, cB_wr, cB_kd, cB_ln, cB_sz, s_2, s_3, s_4, s_4l, s_255, s_255l, s_256, s_256l, s_311, s_311l, f_21, f_22, f_23, f_24, f_30, s_n hs hx, cl_N_sendCopy]
  rw [k3]
  simp only [li_s, la_s, wp_iconst, wp_bipush, wp_sipush, wp_ldc, wp_iload, wp_iload_n, wp_aload, wp_aload_n, wp_istore, wp_istore_n, wp_astore, wp_astore_n, wp_iinc, wp_iadd, wp_isub, wp_imul, wp_iand, wp_irem, wp_dup, wp_pop, wp_goto, wp_if, wp_icmp, wp_ifnull, wp_tsw, wp_get0, wp_get2, wp_get1, wp_put0, wp_put2, wp_put1, wp_iald, wp_sald, wp_iast, wp_bald, wp_bast, wp_aald, wp_aast, wp_alen, wp_slen, wp_new, wp_newa, wp_newq, wp_cast, wp_oinit, wp_clone, wp_copy, wp_callI0, wp_callI1, wp_callI2, wp_callI3, wp_callI4, wp_callI5, wp_callV0, wp_callV1, wp_callV2, wp_callV3, wp_callV4, wp_callV5, wp_callS0, wp_callS1, wp_callS2, wp_callS3, wp_callS4, wp_iret0, wp_iret1, wp_aret, wp_ret, lg_0, lg_1, lg_2, lg_3, lg_4, lg_5, lg_6, lg_7, ls_0, ls_1, ls_2, ls_3, ls_4, ls_5, ls_6, ls_7, oi_m1, oi_0, oi_1, oi_2, oi_3, oi_4, oi_5, bp_6, bp_7, bp_8, bp_9, bp_15, bp_17, bp_18, bp_20, bp_21, bp_24, bp_36, bp_48, bp_50, bp_60, bp_61, sp_1281, sp_9999, lc_100000, lc_1000000, cc_eq, cc_ne, cc_lt, cc_ge, cc_gt, cc_le, z_or0, z_or1, true_and, and_true, Classical.not_not, Option.toList_none, Option.toList_some, List.cons_append, List.nil_append, List.length_cons, List.length_nil, Nat.reduceAdd, Nat.reduceEqDiff, Nat.reduceLeDiff, Nat.zero_le, not_false_eq_true]
end C6
