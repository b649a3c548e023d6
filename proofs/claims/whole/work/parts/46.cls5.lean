/-! ### the class: copies -/
/-- the last of the first i pending updates of key w: its place and one more; 0 if there is none -/
def nw (f : Nat → Int32) (x : Nat) (w : Int32) : Nat → Nat
  | 0 => 0
  | i + 1 => if f (8 * x + i) = w then i + 1 else nw f x w i
theorem nw_le (f : Nat → Int32) (x : Nat) (w : Int32) : ∀ n, nw f x w n ≤ n := by
  intro n
  induction n with
  | zero => exact Nat.le_refl 0
  | succ n ih => unfold nw; split <;> omega
theorem nw_db (f : Nat → Int32) (x k : Nat) : ∀ n, rDb f x k n = decide (¬ nw f x (nI k) n = 0) := by
  intro n
  induction n with
  | zero => rfl
  | succ n ih =>
    unfold rDb nw
    by_cases h : f (8 * x + n) = nI k
    · simp [h]
    · simp [h, ih]
def nwN (a q : Nat) : Nat := if q = 0 then 0 else a + q
/-- ints copied -/
def kcp (I : Nat → Nat → Int32) (r sp q dp n : Nat) : Nat → Nat → Int32 := fun a j => if a = q ∧ dp ≤ j ∧ j < dp + n then I r (sp + (j - dp)) else I a j
theorem cB_cp {M : ck_M} {I : Nat → Nat → Int32} {R : Nat → Nat → Nat} {r sp q dp n : Nat} : ck_cp (cB M I R) r sp q dp n = cB M (kcp I r sp q dp n) R := rfl
theorem kcp_row {I : Nat → Nat → Int32} {r sp q dp n a : Nat} (h : ¬ a = q) : kcp I r sp q dp n a = I a := by
  funext j
  exact if_neg (fun z => h z.1)
theorem kcp_in {I : Nat → Nat → Int32} {r sp q dp n j : Nat} (h : dp ≤ j ∧ j < dp + n) : kcp I r sp q dp n q j = I r (sp + (j - dp)) := if_pos ⟨rfl, h⟩
/-- the copy's versions and values, the first k -/
def kCv (I : Nat → Nat → Int32) (μ : Nat) (f g : Nat → Int32) : Nat → (Nat → Nat → Int32)
  | 0 => I
  | k + 1 => sw (sw (kCv I μ f g k) (μ + 2) k (f k)) (μ + 3) k (g k)
theorem kCv_row {I : Nat → Nat → Int32} {μ a : Nat} {f g : Nat → Int32} (h : ¬ (a = μ + 2 ∨ a = μ + 3)) : ∀ k, kCv I μ f g k a = I a := by
  intro k
  induction k with
  | zero => rfl
  | succ k ih => unfold kCv; rw [sw_row (by omega), sw_row (by omega), ih]
theorem kCv_v {I : Nat → Nat → Int32} {μ : Nat} {f g : Nat → Int32} : ∀ k j, j < k → kCv I μ f g k (μ + 2) j = f j ∧ kCv I μ f g k (μ + 3) j = g j := by
  intro k
  induction k with
  | zero => intro j hj; omega
  | succ k ih =>
    intro j hj
    unfold kCv
    by_cases h : j = k
    · subst h
      exact ⟨by rw [sw_row (by omega), sw_eq], by rw [sw_eq]⟩
    · have := ih j (by omega)
      exact ⟨by rw [sw_row (by omega), sw_ne h]; exact this.1, by rw [sw_ne h, sw_row (by omega)]; exact this.2⟩
/-- the copy that the reference sends -/
theorem rCk_v {I : Nat → Nat → Int32} {x : Nat} : ∀ k j, j < k → rCk I x k 317 (9 + 2 * j) = I 328 (4 * x + j) ∧ rCk I x k 317 (9 + 2 * j + 1) = I 329 (4 * x + j) := by
  intro k
  induction k with
  | zero => intro j hj; omega
  | succ k ih =>
    intro j hj
    unfold rCk
    by_cases h : j = k
    · subst h
      exact ⟨by rw [sw_ne (by omega), sw_eq], by rw [sw_eq]⟩
    · have := ih j (by omega)
      exact ⟨by rw [sw_ne (by omega), sw_ne (by omega)]; exact this.1, by rw [sw_ne (by omega), sw_ne (by omega)]; exact this.2⟩
theorem rCk_lo {I : Nat → Nat → Int32} {x j : Nat} (h : j < 9 ∨ 17 ≤ j) : ∀ k, k ≤ 4 → rCk I x k 317 j = I 317 j := by
  intro k
  induction k with
  | zero => intro _; rfl
  | succ k ih => intro hk; unfold rCk; rw [sw_ne (by omega), sw_ne (by omega), ih (by omega)]
theorem rCp_v {I : Nat → Nat → Int32} {x a l : Nat} (hk : ∀ i, i < l → ∃ k, k < 4 ∧ I 332 (8 * x + i) = nI k) {j : Nat} (hj : j < 4) : ∀ i, i ≤ l → rCp I x a i 317 (9 + 2 * j) = (if nw (I 332) x (nI j) i = 0 then I 317 (9 + 2 * j) else nI (a + nw (I 332) x (nI j) i)) ∧ rCp I x a i 317 (9 + 2 * j + 1) = (if nw (I 332) x (nI j) i = 0 then I 317 (9 + 2 * j + 1) else I 333 (8 * x + (nw (I 332) x (nI j) i - 1))) := by
  intro i
  induction i with
  | zero => intro _; exact ⟨by simp [rCp, nw], by simp [rCp, nw]⟩
  | succ i ih =>
    intro hi
    obtain ⟨k, hk4, ek⟩ := hk i (by omega)
    have hih := ih (by omega)
    unfold rCp nw
    rw [ek, nI_clamp (show k < 2 ^ 31 by omega)]
    by_cases h : k = j
    · subst h
      rw [if_pos rfl, if_neg (by omega), if_neg (by omega)]
      exact ⟨by rw [sw_ne (by omega), sw_eq, show a + (i + 1) = a + 1 + i by omega], by rw [sw_eq, show i + 1 - 1 = i by omega]⟩
    · have hne : ¬ nI k = nI j := fun q => h ((nI_eq (by omega) (by omega)).mp q)
      rw [if_neg hne, sw_ne (by omega), sw_ne (by omega), sw_ne (by omega), sw_ne (by omega)]
      exact hih
theorem rCp_lo {I : Nat → Nat → Int32} {x a l : Nat} (hk : ∀ i, i < l → ∃ k, k < 4 ∧ I 332 (8 * x + i) = nI k) {j : Nat} (h : j < 9 ∨ 17 ≤ j) : ∀ i, i ≤ l → rCp I x a i 317 j = I 317 j := by
  intro i
  induction i with
  | zero => intro _; rfl
  | succ i ih =>
    intro hi
    obtain ⟨k, hk4, ek⟩ := hk i (by omega)
    unfold rCp
    rw [ek, nI_clamp (show k < 2 ^ 31 by omega), sw_ne (by omega), sw_ne (by omega), ih (by omega)]
theorem rCt_lo {I : Nat → Nat → Int32} {x j : Nat} (h : j < 17) : ∀ k, rCt I x k 317 j = I 317 j := by
  intro k
  induction k with
  | zero => rfl
  | succ k ih => unfold rCt; rw [sw_ne (by omega), ih]
theorem rCt_v {I : Nat → Nat → Int32} {x : Nat} : ∀ k j, j < k → rCt I x k 317 (17 + j) = I 330 (3 * x + j) := by
  intro k
  induction k with
  | zero => intro j hj; omega
  | succ k ih =>
    intro j hj
    unfold rCt
    by_cases h : j = k
    · subst h; rw [sw_eq]
    · rw [sw_ne (by omega)]; exact ih j (by omega)
theorem rCopyM_f {S : Nat → Nat → Int32} {x a l n : Nat} (h : rNd S x a l n) : rCopyM S x a l 317 7 = S 326 x ∧ (∀ c, c < 3 → rCopyM S x a l 317 (17 + c) = S 330 (3 * x + c)) ∧ ∀ j, j < 4 → rCopyM S x a l 317 (9 + 2 * j) = (if nw (S 332) x (nI j) (l - a) = 0 then S 328 (4 * x + j) else nI (a + nw (S 332) x (nI j) (l - a))) ∧ rCopyM S x a l 317 (9 + 2 * j + 1) = (if nw (S 332) x (nI j) (l - a) = 0 then S 329 (4 * x + j) else S 333 (8 * x + (nw (S 332) x (nI j) (l - a) - 1))) := by
  obtain ⟨hx, hn, h1, h2, h3, h4, h5, h6, h7⟩ := h
  have e332 : rCk (sw S 317 7 (S 326 x)) x 4 332 = S 332 := by rw [rCk_row (by omega), sw_row (by omega)]
  have e333 : rCk (sw S 317 7 (S 326 x)) x 4 333 = S 333 := by rw [rCk_row (by omega), sw_row (by omega)]
  have hk : ∀ i, i < l - a → ∃ k, k < 4 ∧ rCk (sw S 317 7 (S 326 x)) x 4 332 (8 * x + i) = nI k := fun i hi => by rw [e332]; exact (h7 i hi).1
  unfold rCopyM
  refine ⟨?_, fun c hc => ?_, fun j hj => ?_⟩
  · rw [rCt_lo (by omega), rCp_lo hk (by omega) _ (Nat.le_refl _), rCk_lo (by omega) _ (by omega), sw_eq]
  · rw [rCt_v 3 c hc, rCp_row (by omega), rCk_row (by omega), sw_row (by omega)]
  · have v := rCp_v (a := a) hk hj (l - a) (Nat.le_refl _)
    have c := rCk_v (I := sw S 317 7 (S 326 x)) (x := x) 4 j hj
    rw [e332, e333] at v
    rw [rCt_lo (by omega), rCt_lo (by omega), v.1, v.2, c.1, c.2, sw_row (a := 328) (by omega), sw_row (a := 329) (by omega)]
    exact ⟨rfl, rfl⟩
section C5
variable {xl : Nat} {xs : Nat → Int32} {d : Nat} {M : ck_M} {S I : Nat → Nat → Int32} {R : Nat → Nat → Nat} {n : Nat}
theorem c_N_newestPending_l {Q : Option ck_V → ck_M → Prop} (hs : cSh M) (hf : cRf R) {x a l : Nat} {f : Nat → Int32} {w : Int32} (hx : x < 6) (hal : a ≤ l) (hl8 : l ≤ a + 8) (hl : l < 100000) (h9 : I (257 + 9 * x) 9 = nI a) (hp : ∀ i, i < l - a → I (257 + 9 * x + 3) ((a + 1 + i) % 8) = f (8 * x + i)) : ∀ i, i ≤ l - a → ck_Ev ck_P xl xs (d + 1) 62 5 [some (.inr (257 + 9 * x)), some (.inl w), some (.inl (nI (a + i)))] [] (cB M I R) Q = Q (some (.inl (nI (nwN a (nw f x w i))))) (cB M I R) := by
  intro i
  induction i with
  | zero =>
    intro _
    rw [j_N_newestPending_5]
    simp only [j_N_newestPending_0, j_N_newestPending_28, j_N_newestPending_34, e_N_newestPending_0, e_N_newestPending_1, e_N_newestPending_4, e_N_newestPending_5, e_N_newestPending_6, e_N_newestPending_7, e_N_newestPending_10, e_N_newestPending_13, e_N_newestPending_14, e_N_newestPending_17, e_N_newestPending_18, e_N_newestPending_21, e_N_newestPending_22, e_N_newestPending_23, e_N_newestPending_26, e_N_newestPending_27, e_N_newestPending_28, e_N_newestPending_31, e_N_newestPending_34, e_N_newestPending_35, li_s, la_s, wp_iconst, wp_bipush, wp_sipush, wp_ldc, wp_iload, wp_iload_n, wp_aload, wp_aload_n, wp_istore, wp_istore_n, wp_astore, wp_astore_n, wp_iinc, wp_iadd, wp_isub, wp_imul, wp_iand, wp_irem, wp_dup, wp_pop, wp_goto, wp_if, wp_icmp, wp_ifnull, wp_tsw, wp_get0, wp_get2, wp_get1, wp_put0, wp_put2, wp_put1, wp_iald, wp_sald, wp_iast, wp_bald, wp_bast, wp_aald, wp_aast, wp_alen, wp_slen, wp_new, wp_newa, wp_newq, wp_cast, wp_oinit, wp_clone, wp_copy, wp_callI0, wp_callI1, wp_callI2, wp_callI3, wp_callI4, wp_callI5, wp_callV0, wp_callV1, wp_callV2, wp_callV3, wp_callV4, wp_callV5, wp_callS0, wp_callS1, wp_callS2, wp_callS3, wp_callS4, wp_iret0, wp_iret1, wp_aret, wp_ret, lg_0, lg_1, lg_2, lg_3, lg_4, lg_5, lg_6, lg_7, ls_0, ls_1, ls_2, ls_3, ls_4, ls_5, ls_6, ls_7, oi_m1, oi_0, oi_1, oi_2, oi_3, oi_4, oi_5, bp_6, bp_7, bp_8, bp_9, bp_15, bp_17, bp_18, bp_20, bp_21, bp_24, bp_36, bp_48, bp_50, bp_60, bp_61, sp_1281, sp_9999, lc_100000, lc_1000000, cc_eq, cc_ne, cc_lt, cc_ge, cc_gt, cc_le, z_or0, z_or1, true_and, and_true, Classical.not_not, Option.toList_none, Option.toList_some, List.cons_append, List.nil_append, List.length_cons, List.length_nil, Nat.reduceAdd, Nat.reduceEqDiff, Nat.reduceLeDiff, Nat.zero_le, not_false_eq_true, cB_iv, cB_rv, cB_wi, cB_wr, cB_kd, cB_ln, cB_sz, s_2, s_3, s_4, s_4l, s_255, s_255l, s_256, s_256l, s_311, s_311l, f_21, f_22, f_23, f_24, f_30, s_n hs hx, h9]
    simp (disch := omega) only [nI_add, pk_mul, pk_sub, nI_clamp, cin, nI_leI, nI_ltI, nI_eq, m1_lt, m1_le, nle_m1, nlt_m1, neq_m1, m1_neq, m1_add, sw_row, sw_eq, sw_ne, rCopyK_row, rTakeM_row, rShift_row, rPsh_row, Nat.reduceAdd, Nat.reduceMul, Nat.reduceSub, Nat.reduceLeDiff, Nat.reduceEqDiff, true_and, and_true, Classical.not_not, implies_true, true_implies, forall_const]
    simp [nw, nwN]
  | succ i ih =>
    intro hi
    rw [j_N_newestPending_5]
    simp only [j_N_newestPending_0, j_N_newestPending_28, j_N_newestPending_34, e_N_newestPending_0, e_N_newestPending_1, e_N_newestPending_4, e_N_newestPending_5, e_N_newestPending_6, e_N_newestPending_7, e_N_newestPending_10, e_N_newestPending_13, e_N_newestPending_14, e_N_newestPending_17, e_N_newestPending_18, e_N_newestPending_21, e_N_newestPending_22, e_N_newestPending_23, e_N_newestPending_26, e_N_newestPending_27, e_N_newestPending_28, e_N_newestPending_31, e_N_newestPending_34, e_N_newestPending_35, li_s, la_s, wp_iconst, wp_bipush, wp_sipush, wp_ldc, wp_iload, wp_iload_n, wp_aload, wp_aload_n, wp_istore, wp_istore_n, wp_astore, wp_astore_n, wp_iinc, wp_iadd, wp_isub, wp_imul, wp_iand, wp_irem, wp_dup, wp_pop, wp_goto, wp_if, wp_icmp, wp_ifnull, wp_tsw, wp_get0, wp_get2, wp_get1, wp_put0, wp_put2, wp_put1, wp_iald, wp_sald, wp_iast, wp_bald, wp_bast, wp_aald, wp_aast, wp_alen, wp_slen, wp_new, wp_newa, wp_newq, wp_cast, wp_oinit, wp_clone, wp_copy, wp_callI0, wp_callI1, wp_callI2, wp_callI3, wp_callI4, wp_callI5, wp_callV0, wp_callV1, wp_callV2, wp_callV3, wp_callV4, wp_callV5, wp_callS0, wp_callS1, wp_callS2, wp_callS3, wp_callS4, wp_iret0, wp_iret1, wp_aret, wp_ret, lg_0, lg_1, lg_2, lg_3, lg_4, lg_5, lg_6, lg_7, ls_0, ls_1, ls_2, ls_3, ls_4, ls_5, ls_6, ls_7, oi_m1, oi_0, oi_1, oi_2, oi_3, oi_4, oi_5, bp_6, bp_7, bp_8, bp_9, bp_15, bp_17, bp_18, bp_20, bp_21, bp_24, bp_36, bp_48, bp_50, bp_60, bp_61, sp_1281, sp_9999, lc_100000, lc_1000000, cc_eq, cc_ne, cc_lt, cc_ge, cc_gt, cc_le, z_or0, z_or1, true_and, and_true, Classical.not_not, Option.toList_none, Option.toList_some, List.cons_append, List.nil_append, List.length_cons, List.length_nil, Nat.reduceAdd, Nat.reduceEqDiff, Nat.reduceLeDiff, Nat.zero_le, not_false_eq_true, cB_iv, cB_rv, cB_wi, cB_wr, cB_kd, cB_ln, cB_sz, s_2, s_3, s_4, s_4l, s_255, s_255l, s_256, s_256l, s_311, s_311l, f_21, f_22, f_23, f_24, f_30, s_n hs hx, s_n3 hs hx, s_n3l hs hx, f_n12 hf hx, h9, cl_N_slot, c_N_slot (show a + (i + 1) < 100000 by omega)]
    have e1 : a + (i + 1) = a + 1 + i := by omega
    rw [e1]
    simp (disch := omega) only [nI_add, pk_mul, pk_sub, nI_clamp, cin, nI_leI, nI_ltI, nI_eq, m1_lt, m1_le, nle_m1, nlt_m1, neq_m1, m1_neq, m1_add, sw_row, sw_eq, sw_ne, rCopyK_row, rTakeM_row, rShift_row, rPsh_row, Nat.reduceAdd, Nat.reduceMul, Nat.reduceSub, Nat.reduceLeDiff, Nat.reduceEqDiff, true_and, and_true, Classical.not_not, implies_true, true_implies, forall_const, hp]
    have e2 : nI (a + 1 + i) + -1 = nI (a + i) := by rw [show a + 1 + i = a + i + 1 by omega]; exact pk_m1 _
    have h8 : ¬ a + 1 + i ≤ a := by omega
    rw [e2, ih (by omega)]
    rw [show nw f x w (i + 1) = if f (8 * x + i) = w then i + 1 else nw f x w i from rfl]
    by_cases b : f (8 * x + i) = w
    · simp [h8, b, nwN, e1]
    · simp [h8, b]
theorem c_N_newestPending {Q : Option ck_V → ck_M → Prop} (hs : cSh M) (hf : cRf R) {x a l : Nat} {f : Nat → Int32} {w : Int32} (hx : x < 6) (hal : a ≤ l) (hl8 : l ≤ a + 8) (hl : l < 100000) (h8 : I (257 + 9 * x) 8 = nI l) (h9 : I (257 + 9 * x) 9 = nI a) (hp : ∀ i, i < l - a → I (257 + 9 * x + 3) ((a + 1 + i) % 8) = f (8 * x + i)) : ck_Ev ck_P xl xs (d + 1) 62 0 [some (.inr (257 + 9 * x)), some (.inl w), none] [] (cB M I R) Q = Q (some (.inl (nI (nwN a (nw f x w (l - a)))))) (cB M I R) := by
  simp only [j_N_newestPending_0, j_N_newestPending_28, j_N_newestPending_34, e_N_newestPending_0, e_N_newestPending_1, e_N_newestPending_4, e_N_newestPending_6, e_N_newestPending_7, e_N_newestPending_10, e_N_newestPending_13, e_N_newestPending_14, e_N_newestPending_17, e_N_newestPending_18, e_N_newestPending_21, e_N_newestPending_22, e_N_newestPending_23, e_N_newestPending_26, e_N_newestPending_27, e_N_newestPending_28, e_N_newestPending_31, e_N_newestPending_34, e_N_newestPending_35, li_s, la_s, wp_iconst, wp_bipush, wp_sipush, wp_ldc, wp_iload, wp_iload_n, wp_aload, wp_aload_n, wp_istore, wp_istore_n, wp_astore, wp_astore_n, wp_iinc, wp_iadd, wp_isub, wp_imul, wp_iand, wp_irem, wp_dup, wp_pop, wp_goto, wp_if, wp_icmp, wp_ifnull, wp_tsw, wp_get0, wp_get2, wp_get1, wp_put0, wp_put2, wp_put1, wp_iald, wp_sald, wp_iast, wp_bald, wp_bast, wp_aald, wp_aast, wp_alen, wp_slen, wp_new, wp_newa, wp_newq, wp_cast, wp_oinit, wp_clone, wp_copy, wp_callI0, wp_callI1, wp_callI2, wp_callI3, wp_callI4, wp_callI5, wp_callV0, wp_callV1, wp_callV2, wp_callV3, wp_callV4, wp_callV5, wp_callS0, wp_callS1, wp_callS2, wp_callS3, wp_callS4, wp_iret0, wp_iret1, wp_aret, wp_ret, lg_0, lg_1, lg_2, lg_3, lg_4, lg_5, lg_6, lg_7, ls_0, ls_1, ls_2, ls_3, ls_4, ls_5, ls_6, ls_7, oi_m1, oi_0, oi_1, oi_2, oi_3, oi_4, oi_5, bp_6, bp_7, bp_8, bp_9, bp_15, bp_17, bp_18, bp_20, bp_21, bp_24, bp_36, bp_48, bp_50, bp_60, bp_61, sp_1281, sp_9999, lc_100000, lc_1000000, cc_eq, cc_ne, cc_lt, cc_ge, cc_gt, cc_le, z_or0, z_or1, true_and, and_true, Classical.not_not, Option.toList_none, Option.toList_some, List.cons_append, List.nil_append, List.length_cons, List.length_nil, Nat.reduceAdd, Nat.reduceEqDiff, Nat.reduceLeDiff, Nat.zero_le, not_false_eq_true, cB_iv, cB_rv, cB_wi, cB_wr, cB_kd, cB_ln, cB_sz, s_2, s_3, s_4, s_4l, s_255, s_255l, s_256, s_256l, s_311, s_311l, f_21, f_22, f_23, f_24, f_30, s_n hs hx, h8]
  rw [← j_N_newestPending_5]
  have := c_N_newestPending_l (xl := xl) (xs := xs) (d := d) (Q := Q) (w := w) hs hf hx hal hl8 hl h9 hp (l - a) (Nat.le_refl _)
  rw [show a + (l - a) = l by omega] at this
  exact this
theorem c_N_sendCopy_l {Q : Option ck_V → ck_M → Prop} (hs : cSh M) (hf : cRf R) {x a l μ : Nat} {f f2 f3 g : Nat → Int32} (hx : x < 6) (hμ : isM μ) (hal : a ≤ l) (hl8 : l ≤ a + 8) (hl : l < 100000) (h8 : I (257 + 9 * x) 8 = nI l) (h9 : I (257 + 9 * x) 9 = nI a) (hp : ∀ i, i < l - a → I (257 + 9 * x + 3) ((a + 1 + i) % 8) = f (8 * x + i) ∧ I (257 + 9 * x + 4) ((a + 1 + i) % 8) = g (8 * x + i)) (hv : ∀ k, k < 4 → I (257 + 9 * x + 1) k = f2 (4 * x + k) ∧ I (257 + 9 * x + 2) k = f3 (4 * x + k)) (hm : I 3 2 = nI n) (hn60 : n ≤ 60) :
    ∀ (j i : Nat) (o : Option ck_V), i + j = 4 → ck_Ev ck_P xl xs (d + 2) 70 42 [some (.inr (257 + 9 * x)), some (.inr 3), some (.inr μ), some (.inl (nI i)), o] [] (cB M (kCv I μ (fun k => if nw f x (nI k) (l - a) = 0 then f2 (4 * x + k) else nI (a + nw f x (nI k) (l - a))) (fun k => if nw f x (nI k) (l - a) = 0 then f3 (4 * x + k) else g (8 * x + (nw f x (nI k) (l - a) - 1))) i) R) Q = Q none (cB M (if n < 60 then sw (kCv I μ (fun k => if nw f x (nI k) (l - a) = 0 then f2 (4 * x + k) else nI (a + nw f x (nI k) (l - a))) (fun k => if nw f x (nI k) (l - a) = 0 then f3 (4 * x + k) else g (8 * x + (nw f x (nI k) (l - a) - 1))) 4) 3 2 (nI (n + 1)) else kCv I μ (fun k => if nw f x (nI k) (l - a) = 0 then f2 (4 * x + k) else nI (a + nw f x (nI k) (l - a))) (fun k => if nw f x (nI k) (l - a) = 0 then f3 (4 * x + k) else g (8 * x + (nw f x (nI k) (l - a) - 1))) 4) R) := by
  have bμ := isM_b hμ
  intro j
  induction j with
  | zero =>
    intro i o hi
    have h2 : i = 4 := by omega
    subst h2
    rw [j_N_sendCopy_42]
    simp only [j_N_sendCopy_0, j_N_sendCopy_73, j_N_sendCopy_75, j_N_sendCopy_95, j_N_sendCopy_105, j_N_sendCopy_112, e_N_sendCopy_0, e_N_sendCopy_1, e_N_sendCopy_3, e_N_sendCopy_4, e_N_sendCopy_7, e_N_sendCopy_8, e_N_sendCopy_11, e_N_sendCopy_14, e_N_sendCopy_17, e_N_sendCopy_18, e_N_sendCopy_19, e_N_sendCopy_20, e_N_sendCopy_23, e_N_sendCopy_26, e_N_sendCopy_27, e_N_sendCopy_30, e_N_sendCopy_31, e_N_sendCopy_32, e_N_sendCopy_35, e_N_sendCopy_36, e_N_sendCopy_37, e_N_sendCopy_40, e_N_sendCopy_41, e_N_sendCopy_42, e_N_sendCopy_43, e_N_sendCopy_44, e_N_sendCopy_47, e_N_sendCopy_48, e_N_sendCopy_49, e_N_sendCopy_52, e_N_sendCopy_54, e_N_sendCopy_55, e_N_sendCopy_58, e_N_sendCopy_59, e_N_sendCopy_61, e_N_sendCopy_64, e_N_sendCopy_65, e_N_sendCopy_68, e_N_sendCopy_69, e_N_sendCopy_70, e_N_sendCopy_73, e_N_sendCopy_75, e_N_sendCopy_76, e_N_sendCopy_77, e_N_sendCopy_80, e_N_sendCopy_81, e_N_sendCopy_83, e_N_sendCopy_86, e_N_sendCopy_87, e_N_sendCopy_90, e_N_sendCopy_91, e_N_sendCopy_92, e_N_sendCopy_95, e_N_sendCopy_96, e_N_sendCopy_99, e_N_sendCopy_101, e_N_sendCopy_104, e_N_sendCopy_105, e_N_sendCopy_106, e_N_sendCopy_109, e_N_sendCopy_112, e_N_sendCopy_113, e_N_sendCopy_116, li_s, la_s, wp_iconst, wp_bipush, wp_sipush, wp_ldc, wp_iload, wp_iload_n, wp_aload, wp_aload_n, wp_istore, wp_istore_n, wp_astore, wp_astore_n, wp_iinc, wp_iadd, wp_isub, wp_imul, wp_iand, wp_irem, wp_dup, wp_pop, wp_goto, wp_if, wp_icmp, wp_ifnull, wp_tsw, wp_get0, wp_get2, wp_get1, wp_put0, wp_put2, wp_put1, wp_iald, wp_sald, wp_iast, wp_bald, wp_bast, wp_aald, wp_aast, wp_alen, wp_slen, wp_new, wp_newa, wp_newq, wp_cast, wp_oinit, wp_clone, wp_copy, wp_callI0, wp_callI1, wp_callI2, wp_callI3, wp_callI4, wp_callI5, wp_callV0, wp_callV1, wp_callV2, wp_callV3, wp_callV4, wp_callV5, wp_callS0, wp_callS1, wp_callS2, wp_callS3, wp_callS4, wp_iret0, wp_iret1, wp_aret, wp_ret, lg_0, lg_1, lg_2, lg_3, lg_4, lg_5, lg_6, lg_7, ls_0, ls_1, ls_2, ls_3, ls_4, ls_5, ls_6, ls_7, oi_m1, oi_0, oi_1, oi_2, oi_3, oi_4, oi_5, bp_6, bp_7, bp_8, bp_9, bp_15, bp_17, bp_18, bp_20, bp_21, bp_24, bp_36, bp_48, bp_50, bp_60, bp_61, sp_1281, sp_9999, lc_100000, lc_1000000, cc_eq, cc_ne, cc_lt, cc_ge, cc_gt, cc_le, z_or0, z_or1, true_and, and_true, Classical.not_not, Option.toList_none, Option.toList_some, List.cons_append, List.nil_append, List.length_cons, List.length_nil, Nat.reduceAdd, Nat.reduceEqDiff, Nat.reduceLeDiff, Nat.zero_le, not_false_eq_true, cB_iv, cB_rv, cB_wi, cB_wr, cB_kd, cB_ln, cB_sz, s_2, s_3, s_4, s_4l, s_255, s_255l, s_256, s_256l, s_311, s_311l, f_21, f_22, f_23, f_24, f_30, hs]
    simp (disch := omega) only [nI_add, pk_mul, pk_sub, nI_clamp, cin, nI_leI, nI_ltI, nI_eq, m1_lt, m1_le, nle_m1, nlt_m1, neq_m1, m1_neq, m1_add, sw_row, sw_eq, sw_ne, rCopyK_row, rTakeM_row, rShift_row, rPsh_row, Nat.reduceAdd, Nat.reduceMul, Nat.reduceSub, Nat.reduceLeDiff, Nat.reduceEqDiff, true_and, and_true, Classical.not_not, implies_true, true_implies, forall_const]
    simp only [not_true_eq_false, false_implies, and_true, true_implies, cl_W_sendDraft]
    rw [c_W_sendDraft hs hn60 (by rw [kCv_row (by omega)]; exact hm)]
    simp only [li_s, la_s, wp_iconst, wp_bipush, wp_sipush, wp_ldc, wp_iload, wp_iload_n, wp_aload, wp_aload_n, wp_istore, wp_istore_n, wp_astore, wp_astore_n, wp_iinc, wp_iadd, wp_isub, wp_imul, wp_iand, wp_irem, wp_dup, wp_pop, wp_goto, wp_if, wp_icmp, wp_ifnull, wp_tsw, wp_get0, wp_get2, wp_get1, wp_put0, wp_put2, wp_put1, wp_iald, wp_sald, wp_iast, wp_bald, wp_bast, wp_aald, wp_aast, wp_alen, wp_slen, wp_new, wp_newa, wp_newq, wp_cast, wp_oinit, wp_clone, wp_copy, wp_callI0, wp_callI1, wp_callI2, wp_callI3, wp_callI4, wp_callI5, wp_callV0, wp_callV1, wp_callV2, wp_callV3, wp_callV4, wp_callV5, wp_callS0, wp_callS1, wp_callS2, wp_callS3, wp_callS4, wp_iret0, wp_iret1, wp_aret, wp_ret, lg_0, lg_1, lg_2, lg_3, lg_4, lg_5, lg_6, lg_7, ls_0, ls_1, ls_2, ls_3, ls_4, ls_5, ls_6, ls_7, oi_m1, oi_0, oi_1, oi_2, oi_3, oi_4, oi_5, bp_6, bp_7, bp_8, bp_9, bp_15, bp_17, bp_18, bp_20, bp_21, bp_24, bp_36, bp_48, bp_50, bp_60, bp_61, sp_1281, sp_9999, lc_100000, lc_1000000, cc_eq, cc_ne, cc_lt, cc_ge, cc_gt, cc_le, z_or0, z_or1, true_and, and_true, Classical.not_not, Option.toList_none, Option.toList_some, List.cons_append, List.nil_append, List.length_cons, List.length_nil, Nat.reduceAdd, Nat.reduceEqDiff, Nat.reduceLeDiff, Nat.zero_le, not_false_eq_true]
  | succ j ih =>
    intro i o hi
    generalize hF : (fun k => if nw f x (nI k) (l - a) = 0 then f2 (4 * x + k) else nI (a + nw f x (nI k) (l - a))) = F at *
    generalize hG : (fun k => if nw f x (nI k) (l - a) = 0 then f3 (4 * x + k) else g (8 * x + (nw f x (nI k) (l - a) - 1))) = G at *
    have r0 : ∀ b, ¬ (b = μ + 2 ∨ b = μ + 3) → kCv I μ F G i b = I b := fun b hb => kCv_row hb i
    have hq := nw_le f x (nI i) (l - a)
    rw [j_N_sendCopy_42]
    simp only [j_N_sendCopy_0, j_N_sendCopy_73, j_N_sendCopy_75, j_N_sendCopy_95, j_N_sendCopy_105, j_N_sendCopy_112, e_N_sendCopy_0, e_N_sendCopy_1, e_N_sendCopy_3, e_N_sendCopy_4, e_N_sendCopy_7, e_N_sendCopy_8, e_N_sendCopy_11, e_N_sendCopy_14, e_N_sendCopy_17, e_N_sendCopy_18, e_N_sendCopy_19, e_N_sendCopy_20, e_N_sendCopy_23, e_N_sendCopy_26, e_N_sendCopy_27, e_N_sendCopy_30, e_N_sendCopy_31, e_N_sendCopy_32, e_N_sendCopy_35, e_N_sendCopy_36, e_N_sendCopy_37, e_N_sendCopy_40, e_N_sendCopy_41, e_N_sendCopy_42, e_N_sendCopy_43, e_N_sendCopy_44, e_N_sendCopy_47, e_N_sendCopy_48, e_N_sendCopy_49, e_N_sendCopy_52, e_N_sendCopy_54, e_N_sendCopy_55, e_N_sendCopy_58, e_N_sendCopy_59, e_N_sendCopy_61, e_N_sendCopy_64, e_N_sendCopy_65, e_N_sendCopy_68, e_N_sendCopy_69, e_N_sendCopy_70, e_N_sendCopy_73, e_N_sendCopy_75, e_N_sendCopy_76, e_N_sendCopy_77, e_N_sendCopy_80, e_N_sendCopy_81, e_N_sendCopy_83, e_N_sendCopy_86, e_N_sendCopy_87, e_N_sendCopy_90, e_N_sendCopy_91, e_N_sendCopy_92, e_N_sendCopy_95, e_N_sendCopy_96, e_N_sendCopy_99, e_N_sendCopy_101, e_N_sendCopy_104, e_N_sendCopy_105, e_N_sendCopy_106, e_N_sendCopy_109, e_N_sendCopy_112, e_N_sendCopy_113, e_N_sendCopy_116, li_s, la_s, wp_iconst, wp_bipush, wp_sipush, wp_ldc, wp_iload, wp_iload_n, wp_aload, wp_aload_n, wp_istore, wp_istore_n, wp_astore, wp_astore_n, wp_iinc, wp_iadd, wp_isub, wp_imul, wp_iand, wp_irem, wp_dup, wp_pop, wp_goto, wp_if, wp_icmp, wp_ifnull, wp_tsw, wp_get0, wp_get2, wp_get1, wp_put0, wp_put2, wp_put1, wp_iald, wp_sald, wp_iast, wp_bald, wp_bast, wp_aald, wp_aast, wp_alen, wp_slen, wp_new, wp_newa, wp_newq, wp_cast, wp_oinit, wp_clone, wp_copy, wp_callI0, wp_callI1, wp_callI2, wp_callI3, wp_callI4, wp_callI5, wp_callV0, wp_callV1, wp_callV2, wp_callV3, wp_callV4, wp_callV5, wp_callS0, wp_callS1, wp_callS2, wp_callS3, wp_callS4, wp_iret0, wp_iret1, wp_aret, wp_ret, lg_0, lg_1, lg_2, lg_3, lg_4, lg_5, lg_6, lg_7, ls_0, ls_1, ls_2, ls_3, ls_4, ls_5, ls_6, ls_7, oi_m1, oi_0, oi_1, oi_2, oi_3, oi_4, oi_5, bp_6, bp_7, bp_8, bp_9, bp_15, bp_17, bp_18, bp_20, bp_21, bp_24, bp_36, bp_48, bp_50, bp_60, bp_61, sp_1281, sp_9999, lc_100000, lc_1000000, cc_eq, cc_ne, cc_lt, cc_ge, cc_gt, cc_le, z_or0, z_or1, true_and, and_true, Classical.not_not, Option.toList_none, Option.toList_some, List.cons_append, List.nil_append, List.length_cons, List.length_nil, Nat.reduceAdd, Nat.reduceEqDiff, Nat.reduceLeDiff, Nat.zero_le, not_false_eq_true, cB_iv, cB_rv, cB_wi, cB_wr, cB_kd, cB_ln, cB_sz, s_2, s_3, s_4, s_4l, s_255, s_255l, s_256, s_256l, s_311, s_311l, f_21, f_22, f_23, f_24, f_30, hs, s_n hs hx, s_n1 hs hx, s_n2 hs hx, s_n4 hs hx, s_n1l hs hx, s_n2l hs hx, s_n4l hs hx, f_n10 hf hx, f_n11 hf hx, f_n13 hf hx, s_m hs hμ, s_m2 hs hμ, s_m3 hs hμ, s_m2l hs hμ, s_m3l hs hμ, f_m11 hf hμ, f_m12 hf hμ, cl_N_newestPending]
    rw [c_N_newestPending (f := f) hs hf hx hal hl8 hl (by rw [r0 _ (by omega)]; exact h8) (by rw [r0 _ (by omega)]; exact h9) (fun k hk => by rw [r0 _ (by omega)]; exact (hp k hk).1)]
    simp only [j_N_sendCopy_0, j_N_sendCopy_73, j_N_sendCopy_75, j_N_sendCopy_95, j_N_sendCopy_105, j_N_sendCopy_112, e_N_sendCopy_0, e_N_sendCopy_1, e_N_sendCopy_3, e_N_sendCopy_4, e_N_sendCopy_7, e_N_sendCopy_8, e_N_sendCopy_11, e_N_sendCopy_14, e_N_sendCopy_17, e_N_sendCopy_18, e_N_sendCopy_19, e_N_sendCopy_20, e_N_sendCopy_23, e_N_sendCopy_26, e_N_sendCopy_27, e_N_sendCopy_30, e_N_sendCopy_31, e_N_sendCopy_32, e_N_sendCopy_35, e_N_sendCopy_36, e_N_sendCopy_37, e_N_sendCopy_40, e_N_sendCopy_41, e_N_sendCopy_42, e_N_sendCopy_43, e_N_sendCopy_44, e_N_sendCopy_47, e_N_sendCopy_48, e_N_sendCopy_49, e_N_sendCopy_52, e_N_sendCopy_54, e_N_sendCopy_55, e_N_sendCopy_58, e_N_sendCopy_59, e_N_sendCopy_61, e_N_sendCopy_64, e_N_sendCopy_65, e_N_sendCopy_68, e_N_sendCopy_69, e_N_sendCopy_70, e_N_sendCopy_73, e_N_sendCopy_75, e_N_sendCopy_76, e_N_sendCopy_77, e_N_sendCopy_80, e_N_sendCopy_81, e_N_sendCopy_83, e_N_sendCopy_86, e_N_sendCopy_87, e_N_sendCopy_90, e_N_sendCopy_91, e_N_sendCopy_92, e_N_sendCopy_95, e_N_sendCopy_96, e_N_sendCopy_99, e_N_sendCopy_101, e_N_sendCopy_104, e_N_sendCopy_105, e_N_sendCopy_106, e_N_sendCopy_109, e_N_sendCopy_112, e_N_sendCopy_113, e_N_sendCopy_116, li_s, la_s, wp_iconst, wp_bipush, wp_sipush, wp_ldc, wp_iload, wp_iload_n, wp_aload, wp_aload_n, wp_istore, wp_istore_n, wp_astore, wp_astore_n, wp_iinc, wp_iadd, wp_isub, wp_imul, wp_iand, wp_irem, wp_dup, wp_pop, wp_goto, wp_if, wp_icmp, wp_ifnull, wp_tsw, wp_get0, wp_get2, wp_get1, wp_put0, wp_put2, wp_put1, wp_iald, wp_sald, wp_iast, wp_bald, wp_bast, wp_aald, wp_aast, wp_alen, wp_slen, wp_new, wp_newa, wp_newq, wp_cast, wp_oinit, wp_clone, wp_copy, wp_callI0, wp_callI1, wp_callI2, wp_callI3, wp_callI4, wp_callI5, wp_callV0, wp_callV1, wp_callV2, wp_callV3, wp_callV4, wp_callV5, wp_callS0, wp_callS1, wp_callS2, wp_callS3, wp_callS4, wp_iret0, wp_iret1, wp_aret, wp_ret, lg_0, lg_1, lg_2, lg_3, lg_4, lg_5, lg_6, lg_7, ls_0, ls_1, ls_2, ls_3, ls_4, ls_5, ls_6, ls_7, oi_m1, oi_0, oi_1, oi_2, oi_3, oi_4, oi_5, bp_6, bp_7, bp_8, bp_9, bp_15, bp_17, bp_18, bp_20, bp_21, bp_24, bp_36, bp_48, bp_50, bp_60, bp_61, sp_1281, sp_9999, lc_100000, lc_1000000, cc_eq, cc_ne, cc_lt, cc_ge, cc_gt, cc_le, z_or0, z_or1, true_and, and_true, Classical.not_not, Option.toList_none, Option.toList_some, List.cons_append, List.nil_append, List.length_cons, List.length_nil, Nat.reduceAdd, Nat.reduceEqDiff, Nat.reduceLeDiff, Nat.zero_le, not_false_eq_true, cB_iv, cB_rv, cB_wi, cB_wr, cB_kd, cB_ln, cB_sz, s_2, s_3, s_4, s_4l, s_255, s_255l, s_256, s_256l, s_311, s_311l, f_21, f_22, f_23, f_24, f_30, hs, s_n hs hx, s_n1 hs hx, s_n2 hs hx, s_n4 hs hx, s_n1l hs hx, s_n2l hs hx, s_n4l hs hx, f_n10 hf hx, f_n11 hf hx, f_n13 hf hx, s_m hs hμ, s_m2 hs hμ, s_m3 hs hμ, s_m2l hs hμ, s_m3l hs hμ, f_m11 hf hμ, f_m12 hf hμ, cl_N_slot]
    have h1 : ¬ 4 ≤ i := by omega
    have hih := fun o => ih (i + 1) o (by omega)
    have eF : F i = if nw f x (nI i) (l - a) = 0 then f2 (4 * x + i) else nI (a + nw f x (nI i) (l - a)) := by rw [← hF]
    have eG : G i = if nw f x (nI i) (l - a) = 0 then f3 (4 * x + i) else g (8 * x + (nw f x (nI i) (l - a) - 1)) := by rw [← hG]
    have eK : kCv I μ F G (i + 1) = sw (sw (kCv I μ F G i) (μ + 2) i (F i)) (μ + 3) i (G i) := rfl
    generalize nw f x (nI i) (l - a) = p at *
    by_cases b : p = 0
    · subst b
      rw [if_pos rfl] at eF eG
      have e0 : nwN a 0 = 0 := rfl
      rw [e0]
      simp (disch := omega) only [nI_add, pk_mul, pk_sub, nI_clamp, cin, nI_leI, nI_ltI, nI_eq, m1_lt, m1_le, nle_m1, nlt_m1, neq_m1, m1_neq, m1_add, sw_row, sw_eq, sw_ne, rCopyK_row, rTakeM_row, rShift_row, rPsh_row, Nat.reduceAdd, Nat.reduceMul, Nat.reduceSub, Nat.reduceLeDiff, Nat.reduceEqDiff, true_and, and_true, Classical.not_not, implies_true, true_implies, forall_const, r0, (hv i (by omega)).1, (hv i (by omega)).2]
      rw [← eF, ← eG, ← eK, hih]
      simp [h1]
    · rw [if_neg b] at eF eG
      have e0 : nwN a p = a + p := by unfold nwN; rw [if_neg b]
      rw [e0]
      obtain ⟨hp1, hp2⟩ := hp (p - 1) (by omega)
      rw [show a + 1 + (p - 1) = a + p by omega] at hp2
      have n0 : ¬ nI (a + p) = nI 0 := by rw [nI_eq (by omega) (by omega)]; omega
      simp (disch := omega) only [nI_add, pk_mul, pk_sub, nI_clamp, cin, nI_leI, nI_ltI, nI_eq, m1_lt, m1_le, nle_m1, nlt_m1, neq_m1, m1_neq, m1_add, sw_row, sw_eq, sw_ne, rCopyK_row, rTakeM_row, rShift_row, rPsh_row, Nat.reduceAdd, Nat.reduceMul, Nat.reduceSub, Nat.reduceLeDiff, Nat.reduceEqDiff, true_and, and_true, Classical.not_not, implies_true, true_implies, forall_const, r0]
      rw [c_N_slot (show a + p < 100000 by omega)]
      simp only [j_N_sendCopy_0, j_N_sendCopy_73, j_N_sendCopy_75, j_N_sendCopy_95, j_N_sendCopy_105, j_N_sendCopy_112, e_N_sendCopy_0, e_N_sendCopy_1, e_N_sendCopy_3, e_N_sendCopy_4, e_N_sendCopy_7, e_N_sendCopy_8, e_N_sendCopy_11, e_N_sendCopy_14, e_N_sendCopy_17, e_N_sendCopy_18, e_N_sendCopy_19, e_N_sendCopy_20, e_N_sendCopy_23, e_N_sendCopy_26, e_N_sendCopy_27, e_N_sendCopy_30, e_N_sendCopy_31, e_N_sendCopy_32, e_N_sendCopy_35, e_N_sendCopy_36, e_N_sendCopy_37, e_N_sendCopy_40, e_N_sendCopy_41, e_N_sendCopy_42, e_N_sendCopy_43, e_N_sendCopy_44, e_N_sendCopy_47, e_N_sendCopy_48, e_N_sendCopy_49, e_N_sendCopy_52, e_N_sendCopy_54, e_N_sendCopy_55, e_N_sendCopy_58, e_N_sendCopy_59, e_N_sendCopy_61, e_N_sendCopy_64, e_N_sendCopy_65, e_N_sendCopy_68, e_N_sendCopy_69, e_N_sendCopy_70, e_N_sendCopy_73, e_N_sendCopy_75, e_N_sendCopy_76, e_N_sendCopy_77, e_N_sendCopy_80, e_N_sendCopy_81, e_N_sendCopy_83, e_N_sendCopy_86, e_N_sendCopy_87, e_N_sendCopy_90, e_N_sendCopy_91, e_N_sendCopy_92, e_N_sendCopy_95, e_N_sendCopy_96, e_N_sendCopy_99, e_N_sendCopy_101, e_N_sendCopy_104, e_N_sendCopy_105, e_N_sendCopy_106, e_N_sendCopy_109, e_N_sendCopy_112, e_N_sendCopy_113, e_N_sendCopy_116, li_s, la_s, wp_iconst, wp_bipush, wp_sipush, wp_ldc, wp_iload, wp_iload_n, wp_aload, wp_aload_n, wp_istore, wp_istore_n, wp_astore, wp_astore_n, wp_iinc, wp_iadd, wp_isub, wp_imul, wp_iand, wp_irem, wp_dup, wp_pop, wp_goto, wp_if, wp_icmp, wp_ifnull, wp_tsw, wp_get0, wp_get2, wp_get1, wp_put0, wp_put2, wp_put1, wp_iald, wp_sald, wp_iast, wp_bald, wp_bast, wp_aald, wp_aast, wp_alen, wp_slen, wp_new, wp_newa, wp_newq, wp_cast, wp_oinit, wp_clone, wp_copy, wp_callI0, wp_callI1, wp_callI2, wp_callI3, wp_callI4, wp_callI5, wp_callV0, wp_callV1, wp_callV2, wp_callV3, wp_callV4, wp_callV5, wp_callS0, wp_callS1, wp_callS2, wp_callS3, wp_callS4, wp_iret0, wp_iret1, wp_aret, wp_ret, lg_0, lg_1, lg_2, lg_3, lg_4, lg_5, lg_6, lg_7, ls_0, ls_1, ls_2, ls_3, ls_4, ls_5, ls_6, ls_7, oi_m1, oi_0, oi_1, oi_2, oi_3, oi_4, oi_5, bp_6, bp_7, bp_8, bp_9, bp_15, bp_17, bp_18, bp_20, bp_21, bp_24, bp_36, bp_48, bp_50, bp_60, bp_61, sp_1281, sp_9999, lc_100000, lc_1000000, cc_eq, cc_ne, cc_lt, cc_ge, cc_gt, cc_le, z_or0, z_or1, true_and, and_true, Classical.not_not, Option.toList_none, Option.toList_some, List.cons_append, List.nil_append, List.length_cons, List.length_nil, Nat.reduceAdd, Nat.reduceEqDiff, Nat.reduceLeDiff, Nat.zero_le, not_false_eq_true, cB_iv, cB_rv, cB_wi, cB_wr, cB_kd, cB_ln, cB_sz, s_2, s_3, s_4, s_4l, s_255, s_255l, s_256, s_256l, s_311, s_311l, f_21, f_22, f_23, f_24, f_30, s_m3 hs hμ, s_m3l hs hμ, s_n4 hs hx, s_n4l hs hx]
      simp (disch := omega) only [nI_add, pk_mul, pk_sub, nI_clamp, cin, nI_leI, nI_ltI, nI_eq, m1_lt, m1_le, nle_m1, nlt_m1, neq_m1, m1_neq, m1_add, sw_row, sw_eq, sw_ne, rCopyK_row, rTakeM_row, rShift_row, rPsh_row, Nat.reduceAdd, Nat.reduceMul, Nat.reduceSub, Nat.reduceLeDiff, Nat.reduceEqDiff, true_and, and_true, Classical.not_not, implies_true, true_implies, forall_const, r0, hp2]
      rw [← eF, ← eG, ← eK, hih]
      have b' : ¬ a + p = 0 := by omega
      simp only [b', h1, not_false_eq_true, true_implies, false_implies, and_true, true_and]
end C5
