/-! ### the class: chains -/
def chF (M : ck_M) (I : Nat → Nat → Int32) (R : Nat → Nat → Nat) (q n : Nat) : Prop := ck_kd M q = 8 ∧ ck_kd M (R q 1) = 3 ∧ ck_ln M (R q 1) = 6 ∧ I q 2 = nI n ∧ n ≤ 6
theorem chF_of {M : ck_M} {I : Nat → Nat → Int32} {R : Nat → Nat → Nat} {q n : Nat} {ep : Int32} {g : Nat → Int32} (hn : n ≤ 6) (h : chRel M I R q ep (nI n) g) : chF M I R q n ∧ ∀ i, i < n → I (R q 1) i = g i := by
  obtain ⟨h1, h2, h3, h4, h5, h6, h7, m, h8, h9, h10⟩ := h
  have e : n = m := (nI_eq (by omega) (by omega)).mp h9
  subst e
  exact ⟨⟨h2, h4, h5, h7, hn⟩, h10⟩
/-- the first place of w -/
def hP (f : Nat → Int32) (w : Int32) : Nat → Nat → Int32
  | _, 0 => -1
  | i, k + 1 => if f i = w then nI i else hP f w (i + 1) k
theorem hP_mb (f : Nat → Int32) (w : Int32) : ∀ (k i n : Nat), i + k = n → (∀ a b, a < n → b < n → f a = f b → a = b) → (∀ a, a < i → ¬ f a = w) → hP f w i k = rMbI f w n := by
  have none' : ∀ n, (∀ a, a < n → ¬ f a = w) → rMb f w n = 0 := by
    intro n
    induction n with
    | zero => intro _; rfl
    | succ n ih => intro h; rw [rMb, if_neg (h n (by omega))]; exact ih (fun a ha => h a (by omega))
  have one : ∀ n a, a < n → f a = w → (∀ b, b < n → f b = w → b = a) → rMb f w n = a + 1 := by
    intro n
    induction n with
    | zero => intro a ha; omega
    | succ n ih =>
      intro a ha hfa hu
      rw [rMb]
      by_cases hn : f n = w
      · have := hu n (by omega) hn
        rw [if_pos hn, this]
      · rw [if_neg hn]
        exact ih a (by
          have : ¬ a = n := fun q => hn (q ▸ hfa)
          omega) hfa (fun b hb => hu b (by omega))
  intro k
  induction k with
  | zero =>
    intro i n hi hd hno
    unfold hP rMbI
    rw [none' n (fun a ha => hno a (by omega)), if_pos rfl]
  | succ k ih =>
    intro i n hi hd hno
    unfold hP
    by_cases h : f i = w
    · rw [if_pos h]
      unfold rMbI
      rw [one n i (by omega) h (fun b hb hb2 => hd b i hb (by omega) (hb2.trans h.symm)), if_neg (by omega), Nat.add_sub_cancel]
    · rw [if_neg h]
      exact ih (i + 1) n (by omega) hd (fun a ha => by
        by_cases hai : a = i
        · subst hai; exact h
        · exact hno a (by omega))
section C2
variable {xl : Nat} {xs : Nat → Int32} {d : Nat} {Q : Option ck_V → ck_M → Prop} {M : ck_M} {I : Nat → Nat → Int32} {R : Nat → Nat → Nat} {q n : Nat}
theorem c_H_at (h : chF M I R q n) (i : Int32) : ck_Ev ck_P xl xs d 40 0 [some (.inr q), some (.inl i)] [] (cB M I R) Q = Q (some (.inl (if nI 0 ≤ i ∧ i < nI n then I (R q 1) i.toNatClampNeg else -1))) (cB M I R) := by
  obtain ⟨h1, h2, h3, h4, h5⟩ := h
  simp only [j_H_at_0, j_H_at_30, j_H_at_31, e_H_at_0, e_H_at_1, e_H_at_4, e_H_at_5, e_H_at_6, e_H_at_9, e_H_at_12, e_H_at_13, e_H_at_14, e_H_at_17, e_H_at_18, e_H_at_21, e_H_at_22, e_H_at_25, e_H_at_26, e_H_at_27, e_H_at_30, e_H_at_31, li_s, la_s, wp_iconst, wp_bipush, wp_sipush, wp_ldc, wp_iload, wp_iload_n, wp_aload, wp_aload_n, wp_istore, wp_istore_n, wp_astore, wp_astore_n, wp_iinc, wp_iadd, wp_isub, wp_imul, wp_iand, wp_irem, wp_dup, wp_pop, wp_goto, wp_if, wp_icmp, wp_ifnull, wp_tsw, wp_get0, wp_get2, wp_get1, wp_put0, wp_put2, wp_put1, wp_iald, wp_sald, wp_iast, wp_bald, wp_bast, wp_aald, wp_aast, wp_alen, wp_slen, wp_new, wp_newa, wp_newq, wp_cast, wp_oinit, wp_clone, wp_copy, wp_callI0, wp_callI1, wp_callI2, wp_callI3, wp_callI4, wp_callI5, wp_callV0, wp_callV1, wp_callV2, wp_callV3, wp_callV4, wp_callV5, wp_callS0, wp_callS1, wp_callS2, wp_callS3, wp_callS4, wp_iret0, wp_iret1, wp_aret, wp_ret, lg_0, lg_1, lg_2, lg_3, lg_4, lg_5, lg_6, lg_7, ls_0, ls_1, ls_2, ls_3, ls_4, ls_5, ls_6, ls_7, oi_m1, oi_0, oi_1, oi_2, oi_3, oi_4, oi_5, bp_6, bp_7, bp_8, bp_9, bp_15, bp_17, bp_18, bp_20, bp_21, bp_24, bp_36, bp_48, bp_50, bp_60, bp_61, sp_1281, sp_9999, lc_100000, lc_1000000, cc_eq, cc_ne, cc_lt, cc_ge, cc_gt, cc_le, z_or0, z_or1, true_and, and_true, Classical.not_not, Option.toList_none, Option.toList_some, List.cons_append, List.nil_append, List.length_cons, List.length_nil, Nat.reduceAdd, Nat.reduceEqDiff, Nat.reduceLeDiff, Nat.zero_le, not_false_eq_true, cB_iv, cB_rv, cB_wi, cB_wr, cB_kd, cB_ln, cB_sz, s_2, s_3, s_4, s_4l, s_255, s_255l, s_256, s_256l, s_311, s_311l, f_21, f_22, f_23, f_24, f_30, h1, h2, h3, h4]
  by_cases b : i < nI 0
  · have b' : ¬ nI 0 ≤ i := Int32.not_le.mpr b
    simp [b, b']
  · have b' : nI 0 ≤ i := Int32.not_lt.mp b
    by_cases b2 : nI n ≤ i
    · have b2' : ¬ i < nI n := Int32.not_lt.mpr b2
      simp [b, b', b2, b2']
    · have b2' : i < nI n := Int32.not_le.mp b2
      obtain ⟨j, hj, rfl⟩ := c_lt b' b2' (by omega)
      have e : ck_in (nI j) 6 = True := cin (by omega) (by omega)
      have e6 : ¬ nI 6 ≤ nI j := by rw [nI_leI (by omega) (by omega)]; omega
      simp [b, b', b2, b2', e, e6]
theorem c_H_at_n (h : chF M I R q n) {i : Nat} (hi : i < 1000) : ck_Ev ck_P xl xs d 40 0 [some (.inr q), some (.inl (nI i))] [] (cB M I R) Q = Q (some (.inl (if i < n then I (R q 1) i else -1))) (cB M I R) := by
  rw [c_H_at h]
  obtain ⟨h1, h2, h3, h4, h5⟩ := h
  simp (disch := omega) only [nI_leI, nI_ltI, nI_clamp, Nat.zero_le, true_and]
theorem c_H_at_m (h : chF M I R q n) : ck_Ev ck_P xl xs d 40 0 [some (.inr q), some (.inl (-1))] [] (cB M I R) Q = Q (some (.inl (-1))) (cB M I R) := by
  have e : ¬ nI 0 ≤ (-1 : Int32) := by decide +kernel
  rw [c_H_at h]
  simp [e]
theorem c_H_size (h : chF M I R q n) : ck_Ev ck_P xl xs d 46 0 [some (.inr q)] [] (cB M I R) Q = Q (some (.inl (nI n))) (cB M I R) := by
  obtain ⟨h1, h2, h3, h4, h5⟩ := h
  simp only [j_H_size_0, e_H_size_0, e_H_size_1, e_H_size_4, li_s, la_s, wp_iconst, wp_bipush, wp_sipush, wp_ldc, wp_iload, wp_iload_n, wp_aload, wp_aload_n, wp_istore, wp_istore_n, wp_astore, wp_astore_n, wp_iinc, wp_iadd, wp_isub, wp_imul, wp_iand, wp_irem, wp_dup, wp_pop, wp_goto, wp_if, wp_icmp, wp_ifnull, wp_tsw, wp_get0, wp_get2, wp_get1, wp_put0, wp_put2, wp_put1, wp_iald, wp_sald, wp_iast, wp_bald, wp_bast, wp_aald, wp_aast, wp_alen, wp_slen, wp_new, wp_newa, wp_newq, wp_cast, wp_oinit, wp_clone, wp_copy, wp_callI0, wp_callI1, wp_callI2, wp_callI3, wp_callI4, wp_callI5, wp_callV0, wp_callV1, wp_callV2, wp_callV3, wp_callV4, wp_callV5, wp_callS0, wp_callS1, wp_callS2, wp_callS3, wp_callS4, wp_iret0, wp_iret1, wp_aret, wp_ret, lg_0, lg_1, lg_2, lg_3, lg_4, lg_5, lg_6, lg_7, ls_0, ls_1, ls_2, ls_3, ls_4, ls_5, ls_6, ls_7, oi_m1, oi_0, oi_1, oi_2, oi_3, oi_4, oi_5, bp_6, bp_7, bp_8, bp_9, bp_15, bp_17, bp_18, bp_20, bp_21, bp_24, bp_36, bp_48, bp_50, bp_60, bp_61, sp_1281, sp_9999, lc_100000, lc_1000000, cc_eq, cc_ne, cc_lt, cc_ge, cc_gt, cc_le, z_or0, z_or1, true_and, and_true, Classical.not_not, Option.toList_none, Option.toList_some, List.cons_append, List.nil_append, List.length_cons, List.length_nil, Nat.reduceAdd, Nat.reduceEqDiff, Nat.reduceLeDiff, Nat.zero_le, not_false_eq_true, cB_iv, cB_rv, cB_wi, cB_wr, cB_kd, cB_ln, cB_sz, s_2, s_3, s_4, s_4l, s_255, s_255l, s_256, s_256l, s_311, s_311l, f_21, f_22, f_23, f_24, f_30, h1, h4]
theorem c_H_head (h : chF M I R q n) : ck_Ev ck_P xl xs (d + 1) 43 0 [some (.inr q)] [] (cB M I R) Q = Q (some (.inl (if 0 < n then I (R q 1) 0 else -1))) (cB M I R) := by
  simp only [j_H_head_0, e_H_head_0, e_H_head_1, e_H_head_2, e_H_head_5, li_s, la_s, wp_iconst, wp_bipush, wp_sipush, wp_ldc, wp_iload, wp_iload_n, wp_aload, wp_aload_n, wp_istore, wp_istore_n, wp_astore, wp_astore_n, wp_iinc, wp_iadd, wp_isub, wp_imul, wp_iand, wp_irem, wp_dup, wp_pop, wp_goto, wp_if, wp_icmp, wp_ifnull, wp_tsw, wp_get0, wp_get2, wp_get1, wp_put0, wp_put2, wp_put1, wp_iald, wp_sald, wp_iast, wp_bald, wp_bast, wp_aald, wp_aast, wp_alen, wp_slen, wp_new, wp_newa, wp_newq, wp_cast, wp_oinit, wp_clone, wp_copy, wp_callI0, wp_callI1, wp_callI2, wp_callI3, wp_callI4, wp_callI5, wp_callV0, wp_callV1, wp_callV2, wp_callV3, wp_callV4, wp_callV5, wp_callS0, wp_callS1, wp_callS2, wp_callS3, wp_callS4, wp_iret0, wp_iret1, wp_aret, wp_ret, lg_0, lg_1, lg_2, lg_3, lg_4, lg_5, lg_6, lg_7, ls_0, ls_1, ls_2, ls_3, ls_4, ls_5, ls_6, ls_7, oi_m1, oi_0, oi_1, oi_2, oi_3, oi_4, oi_5, bp_6, bp_7, bp_8, bp_9, bp_15, bp_17, bp_18, bp_20, bp_21, bp_24, bp_36, bp_48, bp_50, bp_60, bp_61, sp_1281, sp_9999, lc_100000, lc_1000000, cc_eq, cc_ne, cc_lt, cc_ge, cc_gt, cc_le, z_or0, z_or1, true_and, and_true, Classical.not_not, Option.toList_none, Option.toList_some, List.cons_append, List.nil_append, List.length_cons, List.length_nil, Nat.reduceAdd, Nat.reduceEqDiff, Nat.reduceLeDiff, Nat.zero_le, not_false_eq_true, cB_iv, cB_rv, cB_wi, cB_wr, cB_kd, cB_ln, cB_sz, s_2, s_3, s_4, s_4l, s_255, s_255l, s_256, s_256l, s_311, s_311l, f_21, f_22, f_23, f_24, f_30, h.1, cl_H_at, c_H_at_n h (show 0 < 1000 by omega)]
theorem c_H_tail (h : chF M I R q n) : ck_Ev ck_P xl xs (d + 1) 42 0 [some (.inr q)] [] (cB M I R) Q = Q (some (.inl (if 0 < n then I (R q 1) (n - 1) else -1))) (cB M I R) := by
  obtain ⟨h1, h2, h3, h4, h5⟩ := id h
  simp only [j_H_tail_0, e_H_tail_0, e_H_tail_1, e_H_tail_2, e_H_tail_5, e_H_tail_6, e_H_tail_7, e_H_tail_10, li_s, la_s, wp_iconst, wp_bipush, wp_sipush, wp_ldc, wp_iload, wp_iload_n, wp_aload, wp_aload_n, wp_istore, wp_istore_n, wp_astore, wp_astore_n, wp_iinc, wp_iadd, wp_isub, wp_imul, wp_iand, wp_irem, wp_dup, wp_pop, wp_goto, wp_if, wp_icmp, wp_ifnull, wp_tsw, wp_get0, wp_get2, wp_get1, wp_put0, wp_put2, wp_put1, wp_iald, wp_sald, wp_iast, wp_bald, wp_bast, wp_aald, wp_aast, wp_alen, wp_slen, wp_new, wp_newa, wp_newq, wp_cast, wp_oinit, wp_clone, wp_copy, wp_callI0, wp_callI1, wp_callI2, wp_callI3, wp_callI4, wp_callI5, wp_callV0, wp_callV1, wp_callV2, wp_callV3, wp_callV4, wp_callV5, wp_callS0, wp_callS1, wp_callS2, wp_callS3, wp_callS4, wp_iret0, wp_iret1, wp_aret, wp_ret, lg_0, lg_1, lg_2, lg_3, lg_4, lg_5, lg_6, lg_7, ls_0, ls_1, ls_2, ls_3, ls_4, ls_5, ls_6, ls_7, oi_m1, oi_0, oi_1, oi_2, oi_3, oi_4, oi_5, bp_6, bp_7, bp_8, bp_9, bp_15, bp_17, bp_18, bp_20, bp_21, bp_24, bp_36, bp_48, bp_50, bp_60, bp_61, sp_1281, sp_9999, lc_100000, lc_1000000, cc_eq, cc_ne, cc_lt, cc_ge, cc_gt, cc_le, z_or0, z_or1, true_and, and_true, Classical.not_not, Option.toList_none, Option.toList_some, List.cons_append, List.nil_append, List.length_cons, List.length_nil, Nat.reduceAdd, Nat.reduceEqDiff, Nat.reduceLeDiff, Nat.zero_le, not_false_eq_true, cB_iv, cB_rv, cB_wi, cB_wr, cB_kd, cB_ln, cB_sz, s_2, s_3, s_4, s_4l, s_255, s_255l, s_256, s_256l, s_311, s_311l, f_21, f_22, f_23, f_24, f_30, h1, h4, cl_H_at]
  by_cases h0 : n = 0
  · subst h0
    have e : nI 0 - nI 1 = -1 := by decide +kernel
    rw [e, c_H_at_m h]
    simp [li_s, la_s, wp_iconst, wp_bipush, wp_sipush, wp_ldc, wp_iload, wp_iload_n, wp_aload, wp_aload_n, wp_istore, wp_istore_n, wp_astore, wp_astore_n, wp_iinc, wp_iadd, wp_isub, wp_imul, wp_iand, wp_irem, wp_dup, wp_pop, wp_goto, wp_if, wp_icmp, wp_ifnull, wp_tsw, wp_get0, wp_get2, wp_get1, wp_put0, wp_put2, wp_put1, wp_iald, wp_sald, wp_iast, wp_bald, wp_bast, wp_aald, wp_aast, wp_alen, wp_slen, wp_new, wp_newa, wp_newq, wp_cast, wp_oinit, wp_clone, wp_copy, wp_callI0, wp_callI1, wp_callI2, wp_callI3, wp_callI4, wp_callI5, wp_callV0, wp_callV1, wp_callV2, wp_callV3, wp_callV4, wp_callV5, wp_callS0, wp_callS1, wp_callS2, wp_callS3, wp_callS4, wp_iret0, wp_iret1, wp_aret, wp_ret, lg_0, lg_1, lg_2, lg_3, lg_4, lg_5, lg_6, lg_7, ls_0, ls_1, ls_2, ls_3, ls_4, ls_5, ls_6, ls_7, oi_m1, oi_0, oi_1, oi_2, oi_3, oi_4, oi_5, bp_6, bp_7, bp_8, bp_9, bp_15, bp_17, bp_18, bp_20, bp_21, bp_24, bp_36, bp_48, bp_50, bp_60, bp_61, sp_1281, sp_9999, lc_100000, lc_1000000, cc_eq, cc_ne, cc_lt, cc_ge, cc_gt, cc_le, z_or0, z_or1, true_and, and_true, Classical.not_not, Option.toList_none, Option.toList_some, List.cons_append, List.nil_append, List.length_cons, List.length_nil, Nat.reduceAdd, Nat.reduceEqDiff, Nat.reduceLeDiff, Nat.zero_le, not_false_eq_true]
  · rw [pk_sub (by omega), c_H_at_n h (by omega)]
    simp [li_s, la_s, wp_iconst, wp_bipush, wp_sipush, wp_ldc, wp_iload, wp_iload_n, wp_aload, wp_aload_n, wp_istore, wp_istore_n, wp_astore, wp_astore_n, wp_iinc, wp_iadd, wp_isub, wp_imul, wp_iand, wp_irem, wp_dup, wp_pop, wp_goto, wp_if, wp_icmp, wp_ifnull, wp_tsw, wp_get0, wp_get2, wp_get1, wp_put0, wp_put2, wp_put1, wp_iald, wp_sald, wp_iast, wp_bald, wp_bast, wp_aald, wp_aast, wp_alen, wp_slen, wp_new, wp_newa, wp_newq, wp_cast, wp_oinit, wp_clone, wp_copy, wp_callI0, wp_callI1, wp_callI2, wp_callI3, wp_callI4, wp_callI5, wp_callV0, wp_callV1, wp_callV2, wp_callV3, wp_callV4, wp_callV5, wp_callS0, wp_callS1, wp_callS2, wp_callS3, wp_callS4, wp_iret0, wp_iret1, wp_aret, wp_ret, lg_0, lg_1, lg_2, lg_3, lg_4, lg_5, lg_6, lg_7, ls_0, ls_1, ls_2, ls_3, ls_4, ls_5, ls_6, ls_7, oi_m1, oi_0, oi_1, oi_2, oi_3, oi_4, oi_5, bp_6, bp_7, bp_8, bp_9, bp_15, bp_17, bp_18, bp_20, bp_21, bp_24, bp_36, bp_48, bp_50, bp_60, bp_61, sp_1281, sp_9999, lc_100000, lc_1000000, cc_eq, cc_ne, cc_lt, cc_ge, cc_gt, cc_le, z_or0, z_or1, true_and, and_true, Classical.not_not, Option.toList_none, Option.toList_some, List.cons_append, List.nil_append, List.length_cons, List.length_nil, Nat.reduceAdd, Nat.reduceEqDiff, Nat.reduceLeDiff, Nat.zero_le, not_false_eq_true, show n - 1 < n by omega, show 0 < n by omega]
theorem c_H_placeOf_l (h : chF M I R q n) {w : Int32} : ∀ (j i : Nat), i + j = n → ck_Ev ck_P xl xs (d + 1) 39 2 [some (.inr q), some (.inl w), some (.inl (nI i))] [] (cB M I R) Q = Q (some (.inl (hP (I (R q 1)) w i j))) (cB M I R) := by
  obtain ⟨h1, h2, h3, h4, h5⟩ := id h
  intro j
  induction j with
  | zero =>
    intro i hi
    rw [j_H_placeOf_2]
    simp only [j_H_placeOf_0, j_H_placeOf_21, j_H_placeOf_27, e_H_placeOf_0, e_H_placeOf_1, e_H_placeOf_2, e_H_placeOf_3, e_H_placeOf_4, e_H_placeOf_7, e_H_placeOf_10, e_H_placeOf_11, e_H_placeOf_12, e_H_placeOf_15, e_H_placeOf_16, e_H_placeOf_19, e_H_placeOf_20, e_H_placeOf_21, e_H_placeOf_24, e_H_placeOf_27, e_H_placeOf_28, li_s, la_s, wp_iconst, wp_bipush, wp_sipush, wp_ldc, wp_iload, wp_iload_n, wp_aload, wp_aload_n, wp_istore, wp_istore_n, wp_astore, wp_astore_n, wp_iinc, wp_iadd, wp_isub, wp_imul, wp_iand, wp_irem, wp_dup, wp_pop, wp_goto, wp_if, wp_icmp, wp_ifnull, wp_tsw, wp_get0, wp_get2, wp_get1, wp_put0, wp_put2, wp_put1, wp_iald, wp_sald, wp_iast, wp_bald, wp_bast, wp_aald, wp_aast, wp_alen, wp_slen, wp_new, wp_newa, wp_newq, wp_cast, wp_oinit, wp_clone, wp_copy, wp_callI0, wp_callI1, wp_callI2, wp_callI3, wp_callI4, wp_callI5, wp_callV0, wp_callV1, wp_callV2, wp_callV3, wp_callV4, wp_callV5, wp_callS0, wp_callS1, wp_callS2, wp_callS3, wp_callS4, wp_iret0, wp_iret1, wp_aret, wp_ret, lg_0, lg_1, lg_2, lg_3, lg_4, lg_5, lg_6, lg_7, ls_0, ls_1, ls_2, ls_3, ls_4, ls_5, ls_6, ls_7, oi_m1, oi_0, oi_1, oi_2, oi_3, oi_4, oi_5, bp_6, bp_7, bp_8, bp_9, bp_15, bp_17, bp_18, bp_20, bp_21, bp_24, bp_36, bp_48, bp_50, bp_60, bp_61, sp_1281, sp_9999, lc_100000, lc_1000000, cc_eq, cc_ne, cc_lt, cc_ge, cc_gt, cc_le, z_or0, z_or1, true_and, and_true, Classical.not_not, Option.toList_none, Option.toList_some, List.cons_append, List.nil_append, List.length_cons, List.length_nil, Nat.reduceAdd, Nat.reduceEqDiff, Nat.reduceLeDiff, Nat.zero_le, not_false_eq_true, cB_iv, cB_rv, cB_wi, cB_wr, cB_kd, cB_ln, cB_sz, s_2, s_3, s_4, s_4l, s_255, s_255l, s_256, s_256l, s_311, s_311l, f_21, f_22, f_23, f_24, f_30, h1, h4]
    simp (disch := omega) only [nI_add, pk_mul, pk_sub, nI_clamp, cin, nI_leI, nI_ltI, nI_eq, m1_lt, m1_le, nle_m1, nlt_m1, neq_m1, m1_neq, m1_add, sw_row, sw_eq, sw_ne, rCopyK_row, rTakeM_row, rShift_row, rPsh_row, Nat.reduceAdd, Nat.reduceMul, Nat.reduceSub, Nat.reduceLeDiff, Nat.reduceEqDiff, true_and, and_true, Classical.not_not, implies_true, true_implies, forall_const]
    have h8 : n ≤ i := by omega
    simp [h8, hP]
  | succ j ih =>
    intro i hi
    rw [j_H_placeOf_2]
    simp only [j_H_placeOf_0, j_H_placeOf_21, j_H_placeOf_27, e_H_placeOf_0, e_H_placeOf_1, e_H_placeOf_2, e_H_placeOf_3, e_H_placeOf_4, e_H_placeOf_7, e_H_placeOf_10, e_H_placeOf_11, e_H_placeOf_12, e_H_placeOf_15, e_H_placeOf_16, e_H_placeOf_19, e_H_placeOf_20, e_H_placeOf_21, e_H_placeOf_24, e_H_placeOf_27, e_H_placeOf_28, li_s, la_s, wp_iconst, wp_bipush, wp_sipush, wp_ldc, wp_iload, wp_iload_n, wp_aload, wp_aload_n, wp_istore, wp_istore_n, wp_astore, wp_astore_n, wp_iinc, wp_iadd, wp_isub, wp_imul, wp_iand, wp_irem, wp_dup, wp_pop, wp_goto, wp_if, wp_icmp, wp_ifnull, wp_tsw, wp_get0, wp_get2, wp_get1, wp_put0, wp_put2, wp_put1, wp_iald, wp_sald, wp_iast, wp_bald, wp_bast, wp_aald, wp_aast, wp_alen, wp_slen, wp_new, wp_newa, wp_newq, wp_cast, wp_oinit, wp_clone, wp_copy, wp_callI0, wp_callI1, wp_callI2, wp_callI3, wp_callI4, wp_callI5, wp_callV0, wp_callV1, wp_callV2, wp_callV3, wp_callV4, wp_callV5, wp_callS0, wp_callS1, wp_callS2, wp_callS3, wp_callS4, wp_iret0, wp_iret1, wp_aret, wp_ret, lg_0, lg_1, lg_2, lg_3, lg_4, lg_5, lg_6, lg_7, ls_0, ls_1, ls_2, ls_3, ls_4, ls_5, ls_6, ls_7, oi_m1, oi_0, oi_1, oi_2, oi_3, oi_4, oi_5, bp_6, bp_7, bp_8, bp_9, bp_15, bp_17, bp_18, bp_20, bp_21, bp_24, bp_36, bp_48, bp_50, bp_60, bp_61, sp_1281, sp_9999, lc_100000, lc_1000000, cc_eq, cc_ne, cc_lt, cc_ge, cc_gt, cc_le, z_or0, z_or1, true_and, and_true, Classical.not_not, Option.toList_none, Option.toList_some, List.cons_append, List.nil_append, List.length_cons, List.length_nil, Nat.reduceAdd, Nat.reduceEqDiff, Nat.reduceLeDiff, Nat.zero_le, not_false_eq_true, cB_iv, cB_rv, cB_wi, cB_wr, cB_kd, cB_ln, cB_sz, s_2, s_3, s_4, s_4l, s_255, s_255l, s_256, s_256l, s_311, s_311l, f_21, f_22, f_23, f_24, f_30, h1, h4, cl_H_at, c_H_at_n h (show i < 1000 by omega)]
    simp (disch := omega) only [nI_add, pk_mul, pk_sub, nI_clamp, cin, nI_leI, nI_ltI, nI_eq, m1_lt, m1_le, nle_m1, nlt_m1, neq_m1, m1_neq, m1_add, sw_row, sw_eq, sw_ne, rCopyK_row, rTakeM_row, rShift_row, rPsh_row, Nat.reduceAdd, Nat.reduceMul, Nat.reduceSub, Nat.reduceLeDiff, Nat.reduceEqDiff, true_and, and_true, Classical.not_not, implies_true, true_implies, forall_const]
    have h8 : ¬ n ≤ i := by omega
    have h9 : i < n := by omega
    have hih := ih (i + 1) (by omega)
    unfold hP
    by_cases b : I (R q 1) i = w
    · simp [h8, h9, b]
    · simp [h8, h9, b, hih]
theorem c_H_placeOf (h : chF M I R q n) {w : Int32} : ck_Ev ck_P xl xs (d + 1) 39 0 [some (.inr q), some (.inl w), none] [] (cB M I R) Q = Q (some (.inl (hP (I (R q 1)) w 0 n))) (cB M I R) := by
  simp only [j_H_placeOf_0, e_H_placeOf_0, e_H_placeOf_1, li_s, la_s, wp_iconst, wp_bipush, wp_sipush, wp_ldc, wp_iload, wp_iload_n, wp_aload, wp_aload_n, wp_istore, wp_istore_n, wp_astore, wp_astore_n, wp_iinc, wp_iadd, wp_isub, wp_imul, wp_iand, wp_irem, wp_dup, wp_pop, wp_goto, wp_if, wp_icmp, wp_ifnull, wp_tsw, wp_get0, wp_get2, wp_get1, wp_put0, wp_put2, wp_put1, wp_iald, wp_sald, wp_iast, wp_bald, wp_bast, wp_aald, wp_aast, wp_alen, wp_slen, wp_new, wp_newa, wp_newq, wp_cast, wp_oinit, wp_clone, wp_copy, wp_callI0, wp_callI1, wp_callI2, wp_callI3, wp_callI4, wp_callI5, wp_callV0, wp_callV1, wp_callV2, wp_callV3, wp_callV4, wp_callV5, wp_callS0, wp_callS1, wp_callS2, wp_callS3, wp_callS4, wp_iret0, wp_iret1, wp_aret, wp_ret, lg_0, lg_1, lg_2, lg_3, lg_4, lg_5, lg_6, lg_7, ls_0, ls_1, ls_2, ls_3, ls_4, ls_5, ls_6, ls_7, oi_m1, oi_0, oi_1, oi_2, oi_3, oi_4, oi_5, bp_6, bp_7, bp_8, bp_9, bp_15, bp_17, bp_18, bp_20, bp_21, bp_24, bp_36, bp_48, bp_50, bp_60, bp_61, sp_1281, sp_9999, lc_100000, lc_1000000, cc_eq, cc_ne, cc_lt, cc_ge, cc_gt, cc_le, z_or0, z_or1, true_and, and_true, Classical.not_not, Option.toList_none, Option.toList_some, List.cons_append, List.nil_append, List.length_cons, List.length_nil, Nat.reduceAdd, Nat.reduceEqDiff, Nat.reduceLeDiff, Nat.zero_le, not_false_eq_true]
  rw [← j_H_placeOf_2]
  exact c_H_placeOf_l h n 0 (by omega)
theorem hP_r (f : Nat → Int32) (w : Int32) : ∀ (k i : Nat), hP f w i k = -1 ∨ ∃ j, i ≤ j ∧ j < i + k ∧ hP f w i k = nI j := by
  intro k
  induction k with
  | zero => intro i; exact Or.inl rfl
  | succ k ih =>
    intro i
    unfold hP
    by_cases h : f i = w
    · rw [if_pos h]; exact Or.inr ⟨i, by omega, by omega, rfl⟩
    · rw [if_neg h]
      rcases ih (i + 1) with e | ⟨j, h1, h2, e⟩
      · exact Or.inl e
      · exact Or.inr ⟨j, by omega, by omega, e⟩
theorem c_H_has (h : chF M I R q n) {w : Int32} : ck_Ev ck_P xl xs (d + 2) 44 0 [some (.inr q), some (.inl w)] [] (cB M I R) Q = Q (some (.inl (if hP (I (R q 1)) w 0 n < nI 0 then nI 0 else nI 1))) (cB M I R) := by
  simp only [j_H_has_0, j_H_has_12, j_H_has_13, e_H_has_0, e_H_has_1, e_H_has_2, e_H_has_5, e_H_has_8, e_H_has_9, e_H_has_12, e_H_has_13, li_s, la_s, wp_iconst, wp_bipush, wp_sipush, wp_ldc, wp_iload, wp_iload_n, wp_aload, wp_aload_n, wp_istore, wp_istore_n, wp_astore, wp_astore_n, wp_iinc, wp_iadd, wp_isub, wp_imul, wp_iand, wp_irem, wp_dup, wp_pop, wp_goto, wp_if, wp_icmp, wp_ifnull, wp_tsw, wp_get0, wp_get2, wp_get1, wp_put0, wp_put2, wp_put1, wp_iald, wp_sald, wp_iast, wp_bald, wp_bast, wp_aald, wp_aast, wp_alen, wp_slen, wp_new, wp_newa, wp_newq, wp_cast, wp_oinit, wp_clone, wp_copy, wp_callI0, wp_callI1, wp_callI2, wp_callI3, wp_callI4, wp_callI5, wp_callV0, wp_callV1, wp_callV2, wp_callV3, wp_callV4, wp_callV5, wp_callS0, wp_callS1, wp_callS2, wp_callS3, wp_callS4, wp_iret0, wp_iret1, wp_aret, wp_ret, lg_0, lg_1, lg_2, lg_3, lg_4, lg_5, lg_6, lg_7, ls_0, ls_1, ls_2, ls_3, ls_4, ls_5, ls_6, ls_7, oi_m1, oi_0, oi_1, oi_2, oi_3, oi_4, oi_5, bp_6, bp_7, bp_8, bp_9, bp_15, bp_17, bp_18, bp_20, bp_21, bp_24, bp_36, bp_48, bp_50, bp_60, bp_61, sp_1281, sp_9999, lc_100000, lc_1000000, cc_eq, cc_ne, cc_lt, cc_ge, cc_gt, cc_le, z_or0, z_or1, true_and, and_true, Classical.not_not, Option.toList_none, Option.toList_some, List.cons_append, List.nil_append, List.length_cons, List.length_nil, Nat.reduceAdd, Nat.reduceEqDiff, Nat.reduceLeDiff, Nat.zero_le, not_false_eq_true, cB_iv, cB_rv, cB_wi, cB_wr, cB_kd, cB_ln, cB_sz, s_2, s_3, s_4, s_4l, s_255, s_255l, s_256, s_256l, s_311, s_311l, f_21, f_22, f_23, f_24, f_30, h.1, cl_H_placeOf, c_H_placeOf h]
  by_cases b : hP (I (R q 1)) w 0 n < nI 0
  · simp [b]
  · simp [b]
/-- the node ahead, the node behind -/
def hBef (f : Nat → Int32) (w : Int32) (n : Nat) : Int32 := if nI 0 < hP f w 0 n then f ((hP f w 0 n).toNatClampNeg - 1) else -1
def hAft (f : Nat → Int32) (w : Int32) (n : Nat) : Int32 := if nI 0 ≤ hP f w 0 n ∧ hP f w 0 n + nI 1 < nI n then f ((hP f w 0 n).toNatClampNeg + 1) else -1
theorem c_H_before (h : chF M I R q n) {w : Int32} : ck_Ev ck_P xl xs (d + 2) 38 0 [some (.inr q), some (.inl w)] [] (cB M I R) Q = Q (some (.inl (hBef (I (R q 1)) w n))) (cB M I R) := by
  obtain ⟨h1, h2, h3, h4, h5⟩ := id h
  simp only [j_H_before_0, e_H_before_0, e_H_before_1, e_H_before_2, e_H_before_3, e_H_before_6, e_H_before_7, e_H_before_8, e_H_before_11, li_s, la_s, wp_iconst, wp_bipush, wp_sipush, wp_ldc, wp_iload, wp_iload_n, wp_aload, wp_aload_n, wp_istore, wp_istore_n, wp_astore, wp_astore_n, wp_iinc, wp_iadd, wp_isub, wp_imul, wp_iand, wp_irem, wp_dup, wp_pop, wp_goto, wp_if, wp_icmp, wp_ifnull, wp_tsw, wp_get0, wp_get2, wp_get1, wp_put0, wp_put2, wp_put1, wp_iald, wp_sald, wp_iast, wp_bald, wp_bast, wp_aald, wp_aast, wp_alen, wp_slen, wp_new, wp_newa, wp_newq, wp_cast, wp_oinit, wp_clone, wp_copy, wp_callI0, wp_callI1, wp_callI2, wp_callI3, wp_callI4, wp_callI5, wp_callV0, wp_callV1, wp_callV2, wp_callV3, wp_callV4, wp_callV5, wp_callS0, wp_callS1, wp_callS2, wp_callS3, wp_callS4, wp_iret0, wp_iret1, wp_aret, wp_ret, lg_0, lg_1, lg_2, lg_3, lg_4, lg_5, lg_6, lg_7, ls_0, ls_1, ls_2, ls_3, ls_4, ls_5, ls_6, ls_7, oi_m1, oi_0, oi_1, oi_2, oi_3, oi_4, oi_5, bp_6, bp_7, bp_8, bp_9, bp_15, bp_17, bp_18, bp_20, bp_21, bp_24, bp_36, bp_48, bp_50, bp_60, bp_61, sp_1281, sp_9999, lc_100000, lc_1000000, cc_eq, cc_ne, cc_lt, cc_ge, cc_gt, cc_le, z_or0, z_or1, true_and, and_true, Classical.not_not, Option.toList_none, Option.toList_some, List.cons_append, List.nil_append, List.length_cons, List.length_nil, Nat.reduceAdd, Nat.reduceEqDiff, Nat.reduceLeDiff, Nat.zero_le, not_false_eq_true, cB_iv, cB_rv, cB_wi, cB_wr, cB_kd, cB_ln, cB_sz, s_2, s_3, s_4, s_4l, s_255, s_255l, s_256, s_256l, s_311, s_311l, f_21, f_22, f_23, f_24, f_30, h1, cl_H_placeOf, c_H_placeOf h, cl_H_at]
  unfold hBef
  rcases hP_r (I (R q 1)) w n 0 with e | ⟨j, k1, k2, e⟩
  · rw [e]
    have e1 : (-1 : Int32) - nI 1 = -2 := by decide +kernel
    rw [e1, c_H_at h]
    have e2 : ¬ nI 0 ≤ (-2 : Int32) := by decide +kernel
    have e3 : ¬ nI 0 < (-1 : Int32) := by decide +kernel
    simp [li_s, la_s, wp_iconst, wp_bipush, wp_sipush, wp_ldc, wp_iload, wp_iload_n, wp_aload, wp_aload_n, wp_istore, wp_istore_n, wp_astore, wp_astore_n, wp_iinc, wp_iadd, wp_isub, wp_imul, wp_iand, wp_irem, wp_dup, wp_pop, wp_goto, wp_if, wp_icmp, wp_ifnull, wp_tsw, wp_get0, wp_get2, wp_get1, wp_put0, wp_put2, wp_put1, wp_iald, wp_sald, wp_iast, wp_bald, wp_bast, wp_aald, wp_aast, wp_alen, wp_slen, wp_new, wp_newa, wp_newq, wp_cast, wp_oinit, wp_clone, wp_copy, wp_callI0, wp_callI1, wp_callI2, wp_callI3, wp_callI4, wp_callI5, wp_callV0, wp_callV1, wp_callV2, wp_callV3, wp_callV4, wp_callV5, wp_callS0, wp_callS1, wp_callS2, wp_callS3, wp_callS4, wp_iret0, wp_iret1, wp_aret, wp_ret, lg_0, lg_1, lg_2, lg_3, lg_4, lg_5, lg_6, lg_7, ls_0, ls_1, ls_2, ls_3, ls_4, ls_5, ls_6, ls_7, oi_m1, oi_0, oi_1, oi_2, oi_3, oi_4, oi_5, bp_6, bp_7, bp_8, bp_9, bp_15, bp_17, bp_18, bp_20, bp_21, bp_24, bp_36, bp_48, bp_50, bp_60, bp_61, sp_1281, sp_9999, lc_100000, lc_1000000, cc_eq, cc_ne, cc_lt, cc_ge, cc_gt, cc_le, z_or0, z_or1, true_and, and_true, Classical.not_not, Option.toList_none, Option.toList_some, List.cons_append, List.nil_append, List.length_cons, List.length_nil, Nat.reduceAdd, Nat.reduceEqDiff, Nat.reduceLeDiff, Nat.zero_le, not_false_eq_true, e2, e3]
  · rw [e]
    by_cases h0 : j = 0
    · subst h0
      have e1 : nI 0 - nI 1 = -1 := by decide +kernel
      rw [e1, c_H_at_m h]
      simp [li_s, la_s, wp_iconst, wp_bipush, wp_sipush, wp_ldc, wp_iload, wp_iload_n, wp_aload, wp_aload_n, wp_istore, wp_istore_n, wp_astore, wp_astore_n, wp_iinc, wp_iadd, wp_isub, wp_imul, wp_iand, wp_irem, wp_dup, wp_pop, wp_goto, wp_if, wp_icmp, wp_ifnull, wp_tsw, wp_get0, wp_get2, wp_get1, wp_put0, wp_put2, wp_put1, wp_iald, wp_sald, wp_iast, wp_bald, wp_bast, wp_aald, wp_aast, wp_alen, wp_slen, wp_new, wp_newa, wp_newq, wp_cast, wp_oinit, wp_clone, wp_copy, wp_callI0, wp_callI1, wp_callI2, wp_callI3, wp_callI4, wp_callI5, wp_callV0, wp_callV1, wp_callV2, wp_callV3, wp_callV4, wp_callV5, wp_callS0, wp_callS1, wp_callS2, wp_callS3, wp_callS4, wp_iret0, wp_iret1, wp_aret, wp_ret, lg_0, lg_1, lg_2, lg_3, lg_4, lg_5, lg_6, lg_7, ls_0, ls_1, ls_2, ls_3, ls_4, ls_5, ls_6, ls_7, oi_m1, oi_0, oi_1, oi_2, oi_3, oi_4, oi_5, bp_6, bp_7, bp_8, bp_9, bp_15, bp_17, bp_18, bp_20, bp_21, bp_24, bp_36, bp_48, bp_50, bp_60, bp_61, sp_1281, sp_9999, lc_100000, lc_1000000, cc_eq, cc_ne, cc_lt, cc_ge, cc_gt, cc_le, z_or0, z_or1, true_and, and_true, Classical.not_not, Option.toList_none, Option.toList_some, List.cons_append, List.nil_append, List.length_cons, List.length_nil, Nat.reduceAdd, Nat.reduceEqDiff, Nat.reduceLeDiff, Nat.zero_le, not_false_eq_true]
    · rw [pk_sub (by omega), c_H_at_n h (by omega), nI_clamp (by omega)]
      have e2 : nI 0 < nI j := by rw [nI_ltI (by omega) (by omega)]; omega
      simp [li_s, la_s, wp_iconst, wp_bipush, wp_sipush, wp_ldc, wp_iload, wp_iload_n, wp_aload, wp_aload_n, wp_istore, wp_istore_n, wp_astore, wp_astore_n, wp_iinc, wp_iadd, wp_isub, wp_imul, wp_iand, wp_irem, wp_dup, wp_pop, wp_goto, wp_if, wp_icmp, wp_ifnull, wp_tsw, wp_get0, wp_get2, wp_get1, wp_put0, wp_put2, wp_put1, wp_iald, wp_sald, wp_iast, wp_bald, wp_bast, wp_aald, wp_aast, wp_alen, wp_slen, wp_new, wp_newa, wp_newq, wp_cast, wp_oinit, wp_clone, wp_copy, wp_callI0, wp_callI1, wp_callI2, wp_callI3, wp_callI4, wp_callI5, wp_callV0, wp_callV1, wp_callV2, wp_callV3, wp_callV4, wp_callV5, wp_callS0, wp_callS1, wp_callS2, wp_callS3, wp_callS4, wp_iret0, wp_iret1, wp_aret, wp_ret, lg_0, lg_1, lg_2, lg_3, lg_4, lg_5, lg_6, lg_7, ls_0, ls_1, ls_2, ls_3, ls_4, ls_5, ls_6, ls_7, oi_m1, oi_0, oi_1, oi_2, oi_3, oi_4, oi_5, bp_6, bp_7, bp_8, bp_9, bp_15, bp_17, bp_18, bp_20, bp_21, bp_24, bp_36, bp_48, bp_50, bp_60, bp_61, sp_1281, sp_9999, lc_100000, lc_1000000, cc_eq, cc_ne, cc_lt, cc_ge, cc_gt, cc_le, z_or0, z_or1, true_and, and_true, Classical.not_not, Option.toList_none, Option.toList_some, List.cons_append, List.nil_append, List.length_cons, List.length_nil, Nat.reduceAdd, Nat.reduceEqDiff, Nat.reduceLeDiff, Nat.zero_le, not_false_eq_true, e2, show j - 1 < n by omega]
theorem c_H_after (h : chF M I R q n) {w : Int32} : ck_Ev ck_P xl xs (d + 2) 41 0 [some (.inr q), some (.inl w), none] [] (cB M I R) Q = Q (some (.inl (hAft (I (R q 1)) w n))) (cB M I R) := by
  obtain ⟨h1, h2, h3, h4, h5⟩ := id h
  simp only [j_H_after_0, j_H_after_14, j_H_after_21, e_H_after_0, e_H_after_1, e_H_after_2, e_H_after_5, e_H_after_6, e_H_after_7, e_H_after_10, e_H_after_11, e_H_after_14, e_H_after_15, e_H_after_16, e_H_after_17, e_H_after_18, e_H_after_21, li_s, la_s, wp_iconst, wp_bipush, wp_sipush, wp_ldc, wp_iload, wp_iload_n, wp_aload, wp_aload_n, wp_istore, wp_istore_n, wp_astore, wp_astore_n, wp_iinc, wp_iadd, wp_isub, wp_imul, wp_iand, wp_irem, wp_dup, wp_pop, wp_goto, wp_if, wp_icmp, wp_ifnull, wp_tsw, wp_get0, wp_get2, wp_get1, wp_put0, wp_put2, wp_put1, wp_iald, wp_sald, wp_iast, wp_bald, wp_bast, wp_aald, wp_aast, wp_alen, wp_slen, wp_new, wp_newa, wp_newq, wp_cast, wp_oinit, wp_clone, wp_copy, wp_callI0, wp_callI1, wp_callI2, wp_callI3, wp_callI4, wp_callI5, wp_callV0, wp_callV1, wp_callV2, wp_callV3, wp_callV4, wp_callV5, wp_callS0, wp_callS1, wp_callS2, wp_callS3, wp_callS4, wp_iret0, wp_iret1, wp_aret, wp_ret, lg_0, lg_1, lg_2, lg_3, lg_4, lg_5, lg_6, lg_7, ls_0, ls_1, ls_2, ls_3, ls_4, ls_5, ls_6, ls_7, oi_m1, oi_0, oi_1, oi_2, oi_3, oi_4, oi_5, bp_6, bp_7, bp_8, bp_9, bp_15, bp_17, bp_18, bp_20, bp_21, bp_24, bp_36, bp_48, bp_50, bp_60, bp_61, sp_1281, sp_9999, lc_100000, lc_1000000, cc_eq, cc_ne, cc_lt, cc_ge, cc_gt, cc_le, z_or0, z_or1, true_and, and_true, Classical.not_not, Option.toList_none, Option.toList_some, List.cons_append, List.nil_append, List.length_cons, List.length_nil, Nat.reduceAdd, Nat.reduceEqDiff, Nat.reduceLeDiff, Nat.zero_le, not_false_eq_true, cB_iv, cB_rv, cB_wi, cB_wr, cB_kd, cB_ln, cB_sz, s_2, s_3, s_4, s_4l, s_255, s_255l, s_256, s_256l, s_311, s_311l, f_21, f_22, f_23, f_24, f_30, h1, cl_H_placeOf, c_H_placeOf h, cl_H_at]
  unfold hAft
  rcases hP_r (I (R q 1)) w n 0 with e | ⟨j, k1, k2, e⟩
  · rw [e]
    have e3 : ¬ nI 0 ≤ (-1 : Int32) := by decide +kernel
    simp [e3]
  · rw [e, nI_add, c_H_at_n h (by omega), nI_clamp (by omega)]
    simp (disch := omega) [li_s, la_s, wp_iconst, wp_bipush, wp_sipush, wp_ldc, wp_iload, wp_iload_n, wp_aload, wp_aload_n, wp_istore, wp_istore_n, wp_astore, wp_astore_n, wp_iinc, wp_iadd, wp_isub, wp_imul, wp_iand, wp_irem, wp_dup, wp_pop, wp_goto, wp_if, wp_icmp, wp_ifnull, wp_tsw, wp_get0, wp_get2, wp_get1, wp_put0, wp_put2, wp_put1, wp_iald, wp_sald, wp_iast, wp_bald, wp_bast, wp_aald, wp_aast, wp_alen, wp_slen, wp_new, wp_newa, wp_newq, wp_cast, wp_oinit, wp_clone, wp_copy, wp_callI0, wp_callI1, wp_callI2, wp_callI3, wp_callI4, wp_callI5, wp_callV0, wp_callV1, wp_callV2, wp_callV3, wp_callV4, wp_callV5, wp_callS0, wp_callS1, wp_callS2, wp_callS3, wp_callS4, wp_iret0, wp_iret1, wp_aret, wp_ret, lg_0, lg_1, lg_2, lg_3, lg_4, lg_5, lg_6, lg_7, ls_0, ls_1, ls_2, ls_3, ls_4, ls_5, ls_6, ls_7, oi_m1, oi_0, oi_1, oi_2, oi_3, oi_4, oi_5, bp_6, bp_7, bp_8, bp_9, bp_15, bp_17, bp_18, bp_20, bp_21, bp_24, bp_36, bp_48, bp_50, bp_60, bp_61, sp_1281, sp_9999, lc_100000, lc_1000000, cc_eq, cc_ne, cc_lt, cc_ge, cc_gt, cc_le, z_or0, z_or1, true_and, and_true, Classical.not_not, Option.toList_none, Option.toList_some, List.cons_append, List.nil_append, List.length_cons, List.length_nil, Nat.reduceAdd, Nat.reduceEqDiff, Nat.reduceLeDiff, Nat.zero_le, not_false_eq_true, nI_add, pk_mul, pk_sub, nI_clamp, cin, nI_leI, nI_ltI, nI_eq, m1_lt, m1_le, nle_m1, nlt_m1, neq_m1, m1_neq, m1_add, sw_row, sw_eq, sw_ne, rCopyK_row, rTakeM_row, rShift_row, rPsh_row, Nat.reduceAdd, Nat.reduceMul, Nat.reduceSub, Nat.reduceLeDiff, Nat.reduceEqDiff, true_and, and_true, Classical.not_not, implies_true, true_implies, forall_const]
end C2
