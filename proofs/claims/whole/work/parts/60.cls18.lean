/-! ### the class: a node takes a message (2); all again -/
section C18
variable {xl : Nat} {xs : Nat → Int32} {d : Nat} {M : ck_M} {R : Nat → Nat → Nat} {S I T : Nat → Nat → Int32} {n x a l n' B : Nat}
theorem k_N_take (h : cRel M S I R n) (hnds : ndA S) (hnd : rNd S x a l n') (hn1 : 1 ≤ n') (hch : nCh S x) (hdi : nDi S x) (hl9 : l + 1 < 100000) (hB : B < 100000) (hg : gOK (S 317) B) (h7' : ¬ S 317 0 = nI 7) (hr : gRel M I R (R 3 1) (S 317)) (hbl : S 321 x = nI 0 ∨ S 321 x = nI 1) (hq3 : S 317 0 = nI 3 → S 317 2 = S 323 x → 1 ≤ rq S x) (hq8 : S 317 0 = nI 8 → nDi (rCfgJ S x) x ∧ nCh (rCfgJ S x) x ∧ 1 ≤ rq (rCfgJ S x) x) : kP xl xs (d + 5) 50 [some (.inr (257 + 9 * x)), some (.inr (R 3 1)), some (.inr 3)] M R I (rTakeAt S x) := by
  obtain ⟨hx, hn6, h1, h2, h3, h4, h5, h6, h7⟩ := id hnd
  obtain ⟨hs, hf, ⟨w1, w2, w3, ⟨w4, w5, w6, w7⟩, w8⟩, hn, -⟩ := id h
  obtain ⟨⟨p0, p1, p2, p3⟩, pc, -⟩ := hn x hx
  have hqk := pc.2.1
  have hqe : I (R (257 + 9 * x) 4) 0 = S 323 x := pc.2.2.2.2.2.1
  have hmk := s_m hs w6
  have hnk := s_n hs hx
  have ea : aN S x = a := by unfold aN; rw [h2, nI_clamp (by omega)]
  have el : lN' S x = l := by unfold lN'; rw [h3, nI_clamp (by omega)]
  have en : rLen S x = n' := rLen_eq hn6 h1
  have hbl' : I (257 + 9 * x) 2 = nI 0 ∨ I (257 + 9 * x) 2 = nI 1 := by rw [p2]; exact hbl
  by_cases up : S 320 x = nI 0
  · exact c_take_down hs hx h up
  have up' : ¬ I (257 + 9 * x) 1 = nI 0 := by rw [p1]; exact up
  obtain ⟨kind, g1, g2, g3, g4, g5, g6, g8, g9⟩ := hg
  obtain ⟨r0, r1, rW, rR, rU, rA, rQ', rN, rY, rC, rP⟩ := hr
  rw [g3] at r0
  have n7 : ¬ kind = 7 := fun q => h7' (q ▸ g3)
  have id' : ∀ w : Int32, w = nI 0 → (∀ Q : Option ck_V → ck_M → Prop, ck_Ev ck_P xl xs (d + 4) 51 0 [some (.inr (257 + 9 * x)), some (.inr (R 3 1))] [] (cB M I R) Q = Q (some (.inl w)) (cB M I R)) → kP xl xs (d + 5) 50 [some (.inr (257 + 9 * x)), some (.inr (R 3 1)), some (.inr 3)] M R I S := fun w hw ha => ⟨I, R, n, h, fun _ _ _ => rfl, fun _ _ => rfl, fun Q => c_take_no hs hx ha (Or.inr hw)⟩
  unfold rTakeAt
  rw [if_neg up, ea, el, en, g3]
  have hk : kind = 1 ∨ kind = 2 ∨ kind = 3 ∨ kind = 4 ∨ kind = 5 ∨ kind = 6 ∨ kind = 8 ∨ kind = 9 := by omega
  rcases hk with e | e | e | e | e | e | e | e
  · subst e
    rw [if_pos rfl]
    have ac := fun Q : Option ck_V → ck_M → Prop => c_acc1 (xl := xl) (xs := xs) (d := d + 4) (Q := Q) (R := R) hs hx hmk r0 hbl'
    obtain ⟨⟨k, hk, ek⟩, c, hc, ec⟩ := g6 (by omega)
    obtain ⟨u3, u4, u5, u6⟩ := rW g3
    by_cases b : S 321 x = nI 0
    · have z := id' _ (p2.trans b) ac
      unfold rTakeW
      rw [if_pos (Or.inl b)]
      exact z
    · obtain ⟨J, P, m, k1, k2, kp, k3⟩ := kP_of (k_N_takeWrite (xl := xl) (xs := xs) (d := d) h hnds hnd hn1 hch hdi hl9 hk ek hc ec ⟨u5, u6, u3, u4⟩ b)
      exact ⟨J, P, m, k1, k2, kp, fun Q => (c_take_yes hs hx ac up' (by rw [p2]; exact b)).trans (k_tk1 hmk r0 hnk k3)⟩
  · subst e
    rw [if_neg (by simp (disch := omega) [nn]), if_pos rfl]
    have ac := fun Q : Option ck_V → ck_M → Prop => c_acc2 (xl := xl) (xs := xs) (d := d + 4) (Q := Q) (R := R) hs hx hmk r0 hbl'
    obtain ⟨⟨k, hk, ek⟩, c, hc, ec⟩ := g6 (by omega)
    obtain ⟨u3, u4, u5⟩ := rR g3
    by_cases b : S 321 x = nI 0
    · have z := id' _ (p2.trans b) ac
      unfold rTakeR
      rw [if_pos b]
      exact z
    · obtain ⟨J, P, m, k1, k2, kp, k3⟩ := kP_of (k_N_takeRead (xl := xl) (xs := xs) (d := d + 2) h hnd hn1 hk ek u3 u4 u5 b)
      exact ⟨J, P, m, k1, k2, kp, fun Q => (c_take_yes hs hx ac up' (by rw [p2]; exact b)).trans (k_tk2 hmk r0 hnk k3)⟩
  · subst e
    rw [if_neg (by simp (disch := omega) [nn]), if_neg (by simp (disch := omega) [nn]), if_neg (by simp (disch := omega) [nn])]
    have ac := fun Q : Option ck_V → ck_M → Prop => c_acc3 (xl := xl) (xs := xs) (d := d + 4) (Q := Q) hs hx hmk hqk r0
    obtain ⟨⟨k, hk, ek⟩, c, hc, ec⟩ := g6 (by omega)
    obtain ⟨u2, u7, u5, u6, u3, u4⟩ := rU g3
    rw [p2, u2, hqe] at ac
    by_cases b : ¬ S 321 x = nI 0 ∧ S 317 2 = S 323 x
    · rw [if_pos ⟨b.2, Or.inl b.1⟩, if_pos rfl]
      rw [if_pos b] at ac
      obtain ⟨J, P, m, k1, k2, kp, k3⟩ := kP_of (k_N_takeUpdate (xl := xl) (xs := xs) (d := d) h hnds hnd hch (hq3 g3 b.2) hl9 hk ek hc ec ⟨u5, u6, u3, u4⟩ u7)
      exact ⟨J, P, m, k1, k2, kp, fun Q => (c_take_yes hs hx ac up' n10').trans (k_tk3 hmk r0 hnk k3)⟩
    · rw [if_neg (fun q => b ⟨q.2.elim id (fun z => absurd z (by simp (disch := omega) [nn])), q.1⟩)]
      rw [if_neg b] at ac
      exact id' _ rfl ac
  · subst e
    rw [if_neg (by simp (disch := omega) [nn]), if_neg (by simp (disch := omega) [nn]), if_neg (by simp (disch := omega) [nn])]
    have ac := fun Q : Option ck_V → ck_M → Prop => c_acc4 (xl := xl) (xs := xs) (d := d + 4) (Q := Q) hs hx hmk hqk r0
    obtain ⟨u2, u7⟩ := rA g3
    rw [p2, u2, hqe] at ac
    by_cases b : ¬ S 321 x = nI 0 ∧ S 317 2 = S 323 x
    · rw [if_pos ⟨b.2, Or.inl b.1⟩, if_neg (by simp (disch := omega) [nn]), if_pos rfl]
      rw [if_pos b] at ac
      obtain ⟨J, P, m, k1, k2, kp, k3⟩ := kP_of (k_N_takeAck (xl := xl) (xs := xs) (d := d + 1) h hnds hnd hch u7)
      exact ⟨J, P, m, k1, k2, kp, fun Q => (c_take_yes hs hx ac up' n10').trans (k_tk4 hmk r0 hnk k3)⟩
    · rw [if_neg (fun q => b ⟨q.2.elim id (fun z => absurd z (by simp (disch := omega) [nn])), q.1⟩)]
      rw [if_neg b] at ac
      exact id' _ rfl ac
  · subst e
    rw [if_neg (by simp (disch := omega) [nn]), if_neg (by simp (disch := omega) [nn]), if_neg (by simp (disch := omega) [nn])]
    have ac := fun Q : Option ck_V → ck_M → Prop => c_acc5 (xl := xl) (xs := xs) (d := d + 4) (Q := Q) hs hx hmk hqk r0
    obtain ⟨⟨k, hk, ek⟩, c, hc, ec⟩ := g6 (by omega)
    obtain ⟨u2, u3, u4, u5, u8⟩ := rQ' g3
    rw [p2, u2, hqe] at ac
    by_cases b : ¬ S 321 x = nI 0 ∧ S 317 2 = S 323 x
    · rw [if_pos ⟨b.2, Or.inl b.1⟩, if_neg (by simp (disch := omega) [nn]), if_neg (by simp (disch := omega) [nn]), if_pos rfl]
      rw [if_pos b] at ac
      obtain ⟨J, P, m, k1, k2, kp, k3⟩ := kP_of (k_N_takeQuery (xl := xl) (xs := xs) (d := d + 3) h hnd hk ek u3 u4 u5 u8)
      exact ⟨J, P, m, k1, k2, kp, fun Q => (c_take_yes hs hx ac up' n10').trans (k_tk5 hmk r0 hnk k3)⟩
    · rw [if_neg (fun q => b ⟨q.2.elim id (fun z => absurd z (by simp (disch := omega) [nn])), q.1⟩)]
      rw [if_neg b] at ac
      exact id' _ rfl ac
  · subst e
    rw [if_neg (by simp (disch := omega) [nn]), if_neg (by simp (disch := omega) [nn]), if_neg (by simp (disch := omega) [nn])]
    have ac := fun Q : Option ck_V → ck_M → Prop => c_acc6 (xl := xl) (xs := xs) (d := d + 4) (Q := Q) hs hx hmk hqk r0
    obtain ⟨⟨k, hk, ek⟩, c, hc, ec⟩ := g6 (by omega)
    obtain ⟨u2, u3, u4, u5, u7⟩ := rN g3
    rw [p2, u2, hqe] at ac
    by_cases b : ¬ S 321 x = nI 0 ∧ S 317 2 = S 323 x
    · rw [if_pos ⟨b.2, Or.inl b.1⟩, if_neg (by simp (disch := omega) [nn]), if_neg (by simp (disch := omega) [nn]), if_neg (by simp (disch := omega) [nn]), if_pos rfl]
      rw [if_pos b] at ac
      obtain ⟨J, P, m, k1, k2, kp, k3⟩ := kP_of (k_N_takeAnswer (xl := xl) (xs := xs) (d := d + 2) h hnd hk ek u3 u4 u5 u7)
      exact ⟨J, P, m, k1, k2, kp, fun Q => (c_take_yes hs hx ac up' n10').trans (k_tk6 hmk r0 hnk k3)⟩
    · rw [if_neg (fun q => b ⟨q.2.elim id (fun z => absurd z (by simp (disch := omega) [nn])), q.1⟩)]
      rw [if_neg b] at ac
      exact id' _ rfl ac
  · subst e
    rw [if_neg (by simp (disch := omega) [nn]), if_neg (by simp (disch := omega) [nn]), if_pos rfl]
    have ac := fun Q : Option ck_V → ck_M → Prop => c_acc8 (xl := xl) (xs := xs) (d := d + 4) (Q := Q) (R := R) (x := x) hmk r0
    obtain ⟨n2, m1, m2, e8⟩ := g8 rfl
    obtain ⟨u2, pcm⟩ := rC g3
    obtain ⟨q1, q2, q3⟩ := hq8 g3
    obtain ⟨J, P, m, k1, k2, kp, k3⟩ := k_N_takeConfig (xl := xl) (xs := xs) (d := d) h hnds hnd m2 e8 u2 pcm q1 q2 q3
    exact ⟨J, P, m, k1, k2, kp, fun Q => (c_take_yes hs hx ac up' n10').trans (k_tk8 hmk r0 hnk k3)⟩
  · subst e
    rw [if_neg (by simp (disch := omega) [nn]), if_neg (by simp (disch := omega) [nn]), if_neg (by simp (disch := omega) [nn])]
    have ac := fun Q : Option ck_V → ck_M → Prop => c_acc9 (xl := xl) (xs := xs) (d := d + 4) (Q := Q) hs hx hmk hqk r0
    obtain ⟨v, hv, ev⟩ := g9 rfl
    obtain ⟨u2, u7, ut, uk⟩ := rP g3
    rw [u2, hqe] at ac
    have cv : (nI v).toNatClampNeg = v := nI_clamp (by omega)
    by_cases b : S 317 2 = S 323 x
    · rw [if_pos ⟨b, Or.inr rfl⟩, if_neg (by simp (disch := omega) [nn]), if_neg (by simp (disch := omega) [nn]), if_neg (by simp (disch := omega) [nn]), if_neg (by simp (disch := omega) [nn]), if_pos rfl, ev, cv]
      rw [if_pos b] at ac
      obtain ⟨J, P, m, k1, k2, kp, k3⟩ := kP_of (k_N_takeCopy (xl := xl) (xs := xs) (d := d) h hnds hnd hch (by omega) ev u7 ut uk)
      exact ⟨J, P, m, k1, k2, kp, fun Q => (c_take_yes hs hx ac up' n10').trans (k_tk9 hmk r0 hnk k3)⟩
    · rw [if_neg (fun q => b q.1)]
      rw [if_neg b] at ac
      exact id' _ rfl ac
/-- a node sends all again -/
theorem k_N_sendAllAgain (h : cRel M S I R n) (hnd : rNd S x a l n') (hch : nCh S x) : kO xl xs (d + 3) 74 [some (.inr (257 + 9 * x)), some (.inr 3)] M R I (rTk1 S x) := by
  obtain ⟨hx, hn6, h1, h2, h3, h4, h5, h6, h7⟩ := id hnd
  obtain ⟨hs, hf, -, hn, -⟩ := id h
  obtain ⟨⟨p0, p1, p2, p3⟩, pc, ⟨p5, p6, p7⟩, ⟨p8, p9⟩, pk, pt, pp⟩ := hn x hx
  have ea : aN S x = a := by unfold aN; rw [h2, nI_clamp (by omega)]
  have el : lN' S x = l := by unfold lN'; rw [h3, nI_clamp (by omega)]
  unfold rTk1
  rw [ea, el]
  rcases rBeh_v hch with e | ⟨y, hy, e⟩
  · rw [if_neg (fun q => q.2.2 (by rw [e]; decide +kernel))]
    refine ⟨I, n, h, cFr_rf, fun Q => ?_⟩
    simp only [j_N_sendAllAgain_0, j_N_sendAllAgain_22, j_N_sendAllAgain_35, e_N_sendAllAgain_0, e_N_sendAllAgain_1, e_N_sendAllAgain_4, e_N_sendAllAgain_7, e_N_sendAllAgain_8, e_N_sendAllAgain_11, e_N_sendAllAgain_14, e_N_sendAllAgain_15, e_N_sendAllAgain_18, e_N_sendAllAgain_19, e_N_sendAllAgain_22, e_N_sendAllAgain_24, e_N_sendAllAgain_27, e_N_sendAllAgain_30, e_N_sendAllAgain_31, e_N_sendAllAgain_32, e_N_sendAllAgain_35, e_N_sendAllAgain_36, e_N_sendAllAgain_37, e_N_sendAllAgain_40, li_s, la_s, wp_iconst, wp_bipush, wp_sipush, wp_ldc, wp_iload, wp_iload_n, wp_aload, wp_aload_n, wp_istore, wp_istore_n, wp_astore, wp_astore_n, wp_iinc, wp_iadd, wp_isub, wp_imul, wp_iand, wp_irem, wp_dup, wp_pop, wp_goto, wp_if, wp_icmp, wp_ifnull, wp_tsw, wp_get0, wp_get2, wp_get1, wp_put0, wp_put2, wp_put1, wp_iald, wp_sald, wp_iast, wp_bald, wp_bast, wp_aald, wp_aast, wp_alen, wp_slen, wp_new, wp_newa, wp_newq, wp_cast, wp_oinit, wp_clone, wp_copy, wp_callI0, wp_callI1, wp_callI2, wp_callI3, wp_callI4, wp_callI5, wp_callV0, wp_callV1, wp_callV2, wp_callV3, wp_callV4, wp_callV5, wp_callS0, wp_callS1, wp_callS2, wp_callS3, wp_callS4, wp_iret0, wp_iret1, wp_aret, wp_ret, lg_0, lg_1, lg_2, lg_3, lg_4, lg_5, lg_6, lg_7, ls_0, ls_1, ls_2, ls_3, ls_4, ls_5, ls_6, ls_7, oi_m1, oi_0, oi_1, oi_2, oi_3, oi_4, oi_5, bp_6, bp_7, bp_8, bp_9, bp_15, bp_17, bp_18, bp_20, bp_21, bp_24, bp_36, bp_48, bp_50, bp_60, bp_61, sp_1281, sp_9999, lc_100000, lc_1000000, cc_eq, cc_ne, cc_lt, cc_ge, cc_gt, cc_le, z_or0, z_or1, true_and, and_true, Classical.not_not, Option.toList_none, Option.toList_some, List.cons_append, List.nil_append, List.length_cons, List.length_nil, Nat.reduceAdd, Nat.reduceEqDiff, Nat.reduceLeDiff, Nat.zero_le, not_false_eq_true, cB_iv, cB_rv, cB_wi, cB_wr, cB_kd, cB_ln, cB_sz, s_2, s_3, s_4, s_4l, s_255, s_255l, s_256, s_256l, s_311, s_311l, f_21, f_22, f_23, f_24, f_30, s_n hs hx, p1, p2, p6, e]
    by_cases b1 : S 320 x = nI 0
    · simp [b1]
    · by_cases b2 : S 321 x = nI 0
      · simp [b1, b2]
      · simp [b1, b2]
  · have nb : ¬ nI y = -1 := by rw [neq_m1 (by omega)]; exact not_false
    have nl : ¬ rBeh S x < nI 0 := by rw [e, nI_ltI (by omega) (by omega)]; omega
    by_cases b : ¬ S 320 x = nI 0 ∧ ¬ S 321 x = nI 0
    · rw [if_pos ⟨b.1, b.2, nl⟩]
      by_cases b3 : S 322 x = nI 0
      · rw [if_pos b3]
        obtain ⟨J, m, k1, k2, k3⟩ := k_N_sendPending (xl := xl) (xs := xs) (d := d) h hnd hy e
        refine ⟨J, m, k1, k2, fun Q => ?_⟩
        simp only [j_N_sendAllAgain_0, j_N_sendAllAgain_22, j_N_sendAllAgain_23, j_N_sendAllAgain_35, e_N_sendAllAgain_0, e_N_sendAllAgain_1, e_N_sendAllAgain_4, e_N_sendAllAgain_7, e_N_sendAllAgain_8, e_N_sendAllAgain_11, e_N_sendAllAgain_14, e_N_sendAllAgain_15, e_N_sendAllAgain_18, e_N_sendAllAgain_19, e_N_sendAllAgain_22, e_N_sendAllAgain_23, e_N_sendAllAgain_24, e_N_sendAllAgain_27, e_N_sendAllAgain_30, e_N_sendAllAgain_31, e_N_sendAllAgain_32, e_N_sendAllAgain_35, e_N_sendAllAgain_36, e_N_sendAllAgain_37, e_N_sendAllAgain_40, li_s, la_s, wp_iconst, wp_bipush, wp_sipush, wp_ldc, wp_iload, wp_iload_n, wp_aload, wp_aload_n, wp_istore, wp_istore_n, wp_astore, wp_astore_n, wp_iinc, wp_iadd, wp_isub, wp_imul, wp_iand, wp_irem, wp_dup, wp_pop, wp_goto, wp_if, wp_icmp, wp_ifnull, wp_tsw, wp_get0, wp_get2, wp_get1, wp_put0, wp_put2, wp_put1, wp_iald, wp_sald, wp_iast, wp_bald, wp_bast, wp_aald, wp_aast, wp_alen, wp_slen, wp_new, wp_newa, wp_newq, wp_cast, wp_oinit, wp_clone, wp_copy, wp_callI0, wp_callI1, wp_callI2, wp_callI3, wp_callI4, wp_callI5, wp_callV0, wp_callV1, wp_callV2, wp_callV3, wp_callV4, wp_callV5, wp_callS0, wp_callS1, wp_callS2, wp_callS3, wp_callS4, wp_iret0, wp_iret1, wp_aret, wp_ret, lg_0, lg_1, lg_2, lg_3, lg_4, lg_5, lg_6, lg_7, ls_0, ls_1, ls_2, ls_3, ls_4, ls_5, ls_6, ls_7, oi_m1, oi_0, oi_1, oi_2, oi_3, oi_4, oi_5, bp_6, bp_7, bp_8, bp_9, bp_15, bp_17, bp_18, bp_20, bp_21, bp_24, bp_36, bp_48, bp_50, bp_60, bp_61, sp_1281, sp_9999, lc_100000, lc_1000000, cc_eq, cc_ne, cc_lt, cc_ge, cc_gt, cc_le, z_or0, z_or1, true_and, and_true, Classical.not_not, Option.toList_none, Option.toList_some, List.cons_append, List.nil_append, List.length_cons, List.length_nil, Nat.reduceAdd, Nat.reduceEqDiff, Nat.reduceLeDiff, Nat.zero_le, not_false_eq_true, cB_iv, cB_rv, cB_wi, cB_wr, cB_kd, cB_ln, cB_sz, s_2, s_3, s_4, s_4l, s_255, s_255l, s_256, s_256l, s_311, s_311l, f_21, f_22, f_23, f_24, f_30, s_n hs hx, p1, p2, p3, p6, e, cl_N_sendPending, k3]
        simp [b.1, b.2, b3, nb]
      · rw [if_neg b3]
        obtain ⟨J, m, k1, k2, k3⟩ := k_N_sendCopy (xl := xl) (xs := xs) (d := d) h hnd
        obtain ⟨K, m2, g1, g2, g3⟩ := k_N_sendPending (xl := xl) (xs := xs) (d := d) k1 (rNd_of hnd (rSendCopy_row (by omega)) (rSendCopy_row (by omega)) (rSendCopy_row (by omega)) (rSendCopy_row (by omega)) (rSendCopy_row (by omega))) hy (by rw [rBeh_of (I := S) (rSendCopy_row (by omega)) (rSendCopy_row (by omega))]; exact e)
        refine ⟨K, m2, g1, cFr_tr k2 g2, fun Q => ?_⟩
        simp only [j_N_sendAllAgain_0, j_N_sendAllAgain_22, j_N_sendAllAgain_23, j_N_sendAllAgain_35, e_N_sendAllAgain_0, e_N_sendAllAgain_1, e_N_sendAllAgain_4, e_N_sendAllAgain_7, e_N_sendAllAgain_8, e_N_sendAllAgain_11, e_N_sendAllAgain_14, e_N_sendAllAgain_15, e_N_sendAllAgain_18, e_N_sendAllAgain_19, e_N_sendAllAgain_22, e_N_sendAllAgain_23, e_N_sendAllAgain_24, e_N_sendAllAgain_27, e_N_sendAllAgain_30, e_N_sendAllAgain_31, e_N_sendAllAgain_32, e_N_sendAllAgain_35, e_N_sendAllAgain_36, e_N_sendAllAgain_37, e_N_sendAllAgain_40, li_s, la_s, wp_iconst, wp_bipush, wp_sipush, wp_ldc, wp_iload, wp_iload_n, wp_aload, wp_aload_n, wp_istore, wp_istore_n, wp_astore, wp_astore_n, wp_iinc, wp_iadd, wp_isub, wp_imul, wp_iand, wp_irem, wp_dup, wp_pop, wp_goto, wp_if, wp_icmp, wp_ifnull, wp_tsw, wp_get0, wp_get2, wp_get1, wp_put0, wp_put2, wp_put1, wp_iald, wp_sald, wp_iast, wp_bald, wp_bast, wp_aald, wp_aast, wp_alen, wp_slen, wp_new, wp_newa, wp_newq, wp_cast, wp_oinit, wp_clone, wp_copy, wp_callI0, wp_callI1, wp_callI2, wp_callI3, wp_callI4, wp_callI5, wp_callV0, wp_callV1, wp_callV2, wp_callV3, wp_callV4, wp_callV5, wp_callS0, wp_callS1, wp_callS2, wp_callS3, wp_callS4, wp_iret0, wp_iret1, wp_aret, wp_ret, lg_0, lg_1, lg_2, lg_3, lg_4, lg_5, lg_6, lg_7, ls_0, ls_1, ls_2, ls_3, ls_4, ls_5, ls_6, ls_7, oi_m1, oi_0, oi_1, oi_2, oi_3, oi_4, oi_5, bp_6, bp_7, bp_8, bp_9, bp_15, bp_17, bp_18, bp_20, bp_21, bp_24, bp_36, bp_48, bp_50, bp_60, bp_61, sp_1281, sp_9999, lc_100000, lc_1000000, cc_eq, cc_ne, cc_lt, cc_ge, cc_gt, cc_le, z_or0, z_or1, true_and, and_true, Classical.not_not, Option.toList_none, Option.toList_some, List.cons_append, List.nil_append, List.length_cons, List.length_nil, Nat.reduceAdd, Nat.reduceEqDiff, Nat.reduceLeDiff, Nat.zero_le, not_false_eq_true, cB_iv, cB_rv, cB_wi, cB_wr, cB_kd, cB_ln, cB_sz, s_2, s_3, s_4, s_4l, s_255, s_255l, s_256, s_256l, s_311, s_311l, f_21, f_22, f_23, f_24, f_30, s_n hs hx, p1, p2, p3, p6, e, cl_N_sendCopy, k3, cl_N_sendPending, g3]
        simp [b.1, b.2, b3, nb]
    · rw [if_neg (fun q => b ⟨q.1, q.2.1⟩)]
      refine ⟨I, n, h, cFr_rf, fun Q => ?_⟩
      simp only [j_N_sendAllAgain_0, j_N_sendAllAgain_22, j_N_sendAllAgain_35, e_N_sendAllAgain_0, e_N_sendAllAgain_1, e_N_sendAllAgain_4, e_N_sendAllAgain_7, e_N_sendAllAgain_8, e_N_sendAllAgain_11, e_N_sendAllAgain_14, e_N_sendAllAgain_15, e_N_sendAllAgain_18, e_N_sendAllAgain_19, e_N_sendAllAgain_22, e_N_sendAllAgain_24, e_N_sendAllAgain_27, e_N_sendAllAgain_30, e_N_sendAllAgain_31, e_N_sendAllAgain_32, e_N_sendAllAgain_35, e_N_sendAllAgain_36, e_N_sendAllAgain_37, e_N_sendAllAgain_40, li_s, la_s, wp_iconst, wp_bipush, wp_sipush, wp_ldc, wp_iload, wp_iload_n, wp_aload, wp_aload_n, wp_istore, wp_istore_n, wp_astore, wp_astore_n, wp_iinc, wp_iadd, wp_isub, wp_imul, wp_iand, wp_irem, wp_dup, wp_pop, wp_goto, wp_if, wp_icmp, wp_ifnull, wp_tsw, wp_get0, wp_get2, wp_get1, wp_put0, wp_put2, wp_put1, wp_iald, wp_sald, wp_iast, wp_bald, wp_bast, wp_aald, wp_aast, wp_alen, wp_slen, wp_new, wp_newa, wp_newq, wp_cast, wp_oinit, wp_clone, wp_copy, wp_callI0, wp_callI1, wp_callI2, wp_callI3, wp_callI4, wp_callI5, wp_callV0, wp_callV1, wp_callV2, wp_callV3, wp_callV4, wp_callV5, wp_callS0, wp_callS1, wp_callS2, wp_callS3, wp_callS4, wp_iret0, wp_iret1, wp_aret, wp_ret, lg_0, lg_1, lg_2, lg_3, lg_4, lg_5, lg_6, lg_7, ls_0, ls_1, ls_2, ls_3, ls_4, ls_5, ls_6, ls_7, oi_m1, oi_0, oi_1, oi_2, oi_3, oi_4, oi_5, bp_6, bp_7, bp_8, bp_9, bp_15, bp_17, bp_18, bp_20, bp_21, bp_24, bp_36, bp_48, bp_50, bp_60, bp_61, sp_1281, sp_9999, lc_100000, lc_1000000, cc_eq, cc_ne, cc_lt, cc_ge, cc_gt, cc_le, z_or0, z_or1, true_and, and_true, Classical.not_not, Option.toList_none, Option.toList_some, List.cons_append, List.nil_append, List.length_cons, List.length_nil, Nat.reduceAdd, Nat.reduceEqDiff, Nat.reduceLeDiff, Nat.zero_le, not_false_eq_true, cB_iv, cB_rv, cB_wi, cB_wr, cB_kd, cB_ln, cB_sz, s_2, s_3, s_4, s_4l, s_255, s_255l, s_256, s_256l, s_311, s_311l, f_21, f_22, f_23, f_24, f_30, s_n hs hx, p1, p2, p6, e]
      by_cases b1 : S 320 x = nI 0
      · simp [b1]
      · have b2 : S 321 x = nI 0 := Classical.not_not.mp (fun q => b ⟨b1, q⟩)
        simp [b1, b2]
end C18
