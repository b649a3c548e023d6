/-! ### the class: a node learns a chain -/
theorem rQ_mb (g : Nat → Int32) (x : Nat) : ∀ n, rQ g x n = rMb (fun i => g (6 * x + i)) (nI x) n := by
  intro n
  induction n with
  | zero => rfl
  | succ n ih => unfold rQ rMb; rw [ih]
theorem rMb_of {f g : Nat → Int32} {w : Int32} : ∀ n, (∀ i, i < n → g i = f i) → rMb g w n = rMb f w n := by
  intro n
  induction n with
  | zero => intro _; rfl
  | succ n ih => intro h; unfold rMb; rw [h n (by omega), ih (fun i hi => h i (by omega))]
theorem learn_eq {T : Nat → Nat → Int32} {x n : Nat} {f : Nat → Int32} (hn : n ≤ 6) (hl : T 324 x = nI n) (hf : ∀ i, i < n → f i = T 325 (6 * x + i)) (hd : nDi T x) (hch : nCh T x) : hBef f (nI x) n = rBef T x ∧ hAft f (nI x) n = rBeh T x ∧ ((0 < n ∧ f (n - 1) = nI x) ↔ rTl T x = true) := by
  have el := rLen_eq hn hl
  have eq : rq T x = rMb f (nI x) n := by
    unfold rq
    rw [rQ_mb, el]
    exact rMb_of n (fun i hi => (hf i hi).symm)
  have eP : hP f (nI x) 0 n = rMbI f (nI x) n := hP_mb f (nI x) n 0 n (by omega) (fun a b ha hb h => hd a b (by omega) (by omega) (by rw [← hf a ha, ← hf b hb]; exact h)) (fun a ha => by omega)
  have hle := rMb_le f (nI x) n
  have hlast : ∀ m, m ≤ n → 0 < m → (f (m - 1) = nI x ↔ rMb f (nI x) m = m) := by
    intro m hm h0
    obtain ⟨m, rfl⟩ : ∃ k, m = k + 1 := ⟨m - 1, by omega⟩
    rw [show m + 1 - 1 = m by omega]
    unfold rMb
    have := rMb_le f (nI x) m
    by_cases b : f m = nI x
    · simp [b]
    · simp only [b, if_false, false_iff]; omega
  have hlst := hlast n (Nat.le_refl n)
  have hb := rBeh_v hch
  unfold rTl
  unfold hBef hAft
  have hbeh : rBeh T x = if 1 ≤ rMb f (nI x) n ∧ rMb f (nI x) n < n then T 325 (6 * x + rMb f (nI x) n) else -1 := by unfold rBeh; rw [eq, el]
  have hbef : rBef T x = if 2 ≤ rMb f (nI x) n then T 325 (6 * x + (rMb f (nI x) n - 2)) else -1 := by unfold rBef; rw [eq]
  rw [eP, hbef, eq]
  rw [hbeh] at hb ⊢
  unfold rMbI
  generalize rMb f (nI x) n = p at *
  have e1 : ¬ nI 0 < (-1 : Int32) := by decide +kernel
  have e2 : ¬ nI 0 ≤ (-1 : Int32) := by decide +kernel
  have e3 : (-1 : Int32) < nI 0 := by decide +kernel
  by_cases p0 : p = 0
  · subst p0
    simp [e1, e2]
    intro h0
    have := hlst h0
    intro q
    have := this.mp q
    omega
  · rw [if_neg p0]
    have c1 : (nI (p - 1)).toNatClampNeg = p - 1 := nI_clamp (by omega)
    rw [c1, nI_add]
    refine ⟨?_, ?_, ?_⟩
    · by_cases p2 : 2 ≤ p
      · rw [if_pos (by rw [nI_ltI (by omega) (by omega)]; omega), if_pos p2, show p - 1 - 1 = p - 2 by omega, hf (p - 2) (by omega)]
      · rw [if_neg (by rw [nI_ltI (by omega) (by omega)]; omega), if_neg p2]
    · rw [show p - 1 + 1 = p by omega]
      have a1 : nI 0 ≤ nI (p - 1) := by rw [nI_leI (by omega) (by omega)]; omega
      by_cases p2 : p < n
      · rw [if_pos ⟨a1, by rw [nI_ltI (by omega) (by omega)]; exact p2⟩, if_pos ⟨by omega, p2⟩, hf p p2]
      · rw [if_neg (fun q => p2 (by have q := q.2; rw [nI_ltI (by omega) (by omega)] at q; exact q)), if_neg (fun q => p2 q.2)]
    · have p1 : 1 ≤ p := by omega
      by_cases p2 : p < n
      · rw [if_pos ⟨p1, p2⟩] at hb
        have nb : ¬ T 325 (6 * x + p) < nI 0 := by
          obtain ⟨y, hy, ey⟩ := hch p (by omega)
          rw [ey, nI_ltI (by omega) (by omega)]; omega
        have : ¬ (0 < n ∧ f (n - 1) = nI x) := fun q => by
          have := (hlst q.1).mp q.2
          omega
        rw [if_pos (show 1 ≤ p ∧ p < n from ⟨p1, p2⟩)]
        simp only [this, nb, p1, decide_true, decide_false, Bool.and_false, Bool.false_eq_true]
      · have pn : p = n := by omega
        have : 0 < n ∧ f (n - 1) = nI x := ⟨by omega, (hlst (by omega)).mpr pn⟩
        rw [if_neg (show ¬ (1 ≤ p ∧ p < n) from fun q => p2 q.2)]
        simp only [this, e3, p1, decide_true, Bool.and_true, and_self]
theorem swR_rows {R : Nat → Nat → Nat} {r k x : Nat} (a : Nat) (h : ¬ a = r) : swR R r k x a = R a := swR_row h
section C13
variable {xl : Nat} {xs : Nat → Int32} {d : Nat} {M : ck_M} {R : Nat → Nat → Nat} {S I : Nat → Nat → Int32} {n x a l n' k c q : Nat}
theorem chF_to {J : Nat → Nat → Int32} {P : Nat → Nat → Nat} {m : Nat} (h : chF M I R q m) (hI : J q = I q) (hR : P q = R q) : chF M J P q m := by
  unfold chF at *
  rw [hI, hR]
  exact h
/-- the class's ints of a node that has learned -/
def lnJ (I : Nat → Nat → Int32) (T : Nat → Nat → Int32) (x : Nat) : Nat → Nat → Int32 := sw (sw (sw I (257 + 9 * x) 5 (rBef T x)) (257 + 9 * x) 6 (rBeh T x)) (257 + 9 * x) 7 (if rTl T x then nI 1 else nI 0)
theorem c_N_learn {Q : Option ck_V → ck_M → Prop} {T : Nat → Nat → Int32} {m : Nat} (hk : ck_kd M (257 + 9 * x) = 10) (hx : x < 6) (p0 : I (257 + 9 * x) 0 = nI x) (hF : chF M I R q m) (hq : q = 254 ∨ 345 ≤ q) (hm : R q 1 = 253 ∨ 345 ≤ R q 1) (hn : m ≤ 6) (hl : T 324 x = nI m) (hf : ∀ i, i < m → I (R q 1) i = T 325 (6 * x + i)) (hd : nDi T x) (hch : nCh T x) : ck_Ev ck_P xl xs (d + 3) 49 0 [some (.inr (257 + 9 * x)), some (.inr q)] [] (cB M I R) Q = Q none (cB M (lnJ I T x) (swR R (257 + 9 * x) 4 q)) := by
  obtain ⟨g1, g2, g3⟩ := learn_eq (f := I (R q 1)) hn hl hf hd hch
  have rq1 : swR R (257 + 9 * x) 4 q q = R q := swR_row (by omega)
  have hF0 : chF M I (swR R (257 + 9 * x) 4 q) q m := chF_to hF rfl rq1
  have hF1 : ∀ v, chF M (sw I (257 + 9 * x) 5 v) (swR R (257 + 9 * x) 4 q) q m := fun v => chF_to hF (sw_row (by omega)) rq1
  have hF2 : ∀ v w, chF M (sw (sw I (257 + 9 * x) 5 v) (257 + 9 * x) 6 w) (swR R (257 + 9 * x) 4 q) q m := fun v w => chF_to hF (by rw [sw_row (by omega), sw_row (by omega)]) rq1
  have i1 : ∀ v, sw I (257 + 9 * x) 5 v (R q 1) = I (R q 1) := fun v => sw_row (by omega)
  have i2 : ∀ v w, sw (sw I (257 + 9 * x) 5 v) (257 + 9 * x) 6 w (R q 1) = I (R q 1) := fun v w => by rw [sw_row (by omega), sw_row (by omega)]
  simp only [j_N_learn_0, j_N_learn_45, j_N_learn_46, e_N_learn_0, e_N_learn_1, e_N_learn_2, e_N_learn_5, e_N_learn_6, e_N_learn_7, e_N_learn_8, e_N_learn_11, e_N_learn_14, e_N_learn_17, e_N_learn_18, e_N_learn_19, e_N_learn_20, e_N_learn_23, e_N_learn_26, e_N_learn_29, e_N_learn_30, e_N_learn_31, e_N_learn_34, e_N_learn_35, e_N_learn_38, e_N_learn_41, e_N_learn_42, e_N_learn_45, e_N_learn_46, e_N_learn_49, li_s, la_s, wp_iconst, wp_bipush, wp_sipush, wp_ldc, wp_iload, wp_iload_n, wp_aload, wp_aload_n, wp_istore, wp_istore_n, wp_astore, wp_astore_n, wp_iinc, wp_iadd, wp_isub, wp_imul, wp_iand, wp_irem, wp_dup, wp_pop, wp_goto, wp_if, wp_icmp, wp_ifnull, wp_tsw, wp_get0, wp_get2, wp_get1, wp_put0, wp_put2, wp_put1, wp_iald, wp_sald, wp_iast, wp_bald, wp_bast, wp_aald, wp_aast, wp_alen, wp_slen, wp_new, wp_newa, wp_newq, wp_cast, wp_oinit, wp_clone, wp_copy, wp_callI0, wp_callI1, wp_callI2, wp_callI3, wp_callI4, wp_callI5, wp_callV0, wp_callV1, wp_callV2, wp_callV3, wp_callV4, wp_callV5, wp_callS0, wp_callS1, wp_callS2, wp_callS3, wp_callS4, wp_iret0, wp_iret1, wp_aret, wp_ret, lg_0, lg_1, lg_2, lg_3, lg_4, lg_5, lg_6, lg_7, ls_0, ls_1, ls_2, ls_3, ls_4, ls_5, ls_6, ls_7, oi_m1, oi_0, oi_1, oi_2, oi_3, oi_4, oi_5, bp_6, bp_7, bp_8, bp_9, bp_15, bp_17, bp_18, bp_20, bp_21, bp_24, bp_36, bp_48, bp_50, bp_60, bp_61, sp_1281, sp_9999, lc_100000, lc_1000000, cc_eq, cc_ne, cc_lt, cc_ge, cc_gt, cc_le, z_or0, z_or1, true_and, and_true, Classical.not_not, Option.toList_none, Option.toList_some, List.cons_append, List.nil_append, List.length_cons, List.length_nil, Nat.reduceAdd, Nat.reduceEqDiff, Nat.reduceLeDiff, Nat.zero_le, not_false_eq_true, cB_iv, cB_rv, cB_wi, cB_wr, cB_kd, cB_ln, cB_sz, s_2, s_3, s_4, s_4l, s_255, s_255l, s_256, s_256l, s_311, s_311l, f_21, f_22, f_23, f_24, f_30, hk, hF.1, p0, cl_H_before, c_H_before hF0, rq1, g1]
  simp (disch := omega) only [nI_add, pk_mul, pk_sub, nI_clamp, cin, nI_leI, nI_ltI, nI_eq, m1_lt, m1_le, nle_m1, nlt_m1, neq_m1, m1_neq, m1_add, sw_row, sw_eq, sw_ne, rCopyK_row, rTakeM_row, rShift_row, rPsh_row, Nat.reduceAdd, Nat.reduceMul, Nat.reduceSub, Nat.reduceLeDiff, Nat.reduceEqDiff, true_and, and_true, Classical.not_not, implies_true, true_implies, forall_const, p0]
  simp only [cl_H_after, c_H_after (hF1 _), rq1, i1, g2]
  simp only [j_N_learn_0, j_N_learn_45, j_N_learn_46, e_N_learn_0, e_N_learn_1, e_N_learn_2, e_N_learn_5, e_N_learn_6, e_N_learn_7, e_N_learn_8, e_N_learn_11, e_N_learn_14, e_N_learn_17, e_N_learn_18, e_N_learn_19, e_N_learn_20, e_N_learn_23, e_N_learn_26, e_N_learn_29, e_N_learn_30, e_N_learn_31, e_N_learn_34, e_N_learn_35, e_N_learn_38, e_N_learn_41, e_N_learn_42, e_N_learn_45, e_N_learn_46, e_N_learn_49, li_s, la_s, wp_iconst, wp_bipush, wp_sipush, wp_ldc, wp_iload, wp_iload_n, wp_aload, wp_aload_n, wp_istore, wp_istore_n, wp_astore, wp_astore_n, wp_iinc, wp_iadd, wp_isub, wp_imul, wp_iand, wp_irem, wp_dup, wp_pop, wp_goto, wp_if, wp_icmp, wp_ifnull, wp_tsw, wp_get0, wp_get2, wp_get1, wp_put0, wp_put2, wp_put1, wp_iald, wp_sald, wp_iast, wp_bald, wp_bast, wp_aald, wp_aast, wp_alen, wp_slen, wp_new, wp_newa, wp_newq, wp_cast, wp_oinit, wp_clone, wp_copy, wp_callI0, wp_callI1, wp_callI2, wp_callI3, wp_callI4, wp_callI5, wp_callV0, wp_callV1, wp_callV2, wp_callV3, wp_callV4, wp_callV5, wp_callS0, wp_callS1, wp_callS2, wp_callS3, wp_callS4, wp_iret0, wp_iret1, wp_aret, wp_ret, lg_0, lg_1, lg_2, lg_3, lg_4, lg_5, lg_6, lg_7, ls_0, ls_1, ls_2, ls_3, ls_4, ls_5, ls_6, ls_7, oi_m1, oi_0, oi_1, oi_2, oi_3, oi_4, oi_5, bp_6, bp_7, bp_8, bp_9, bp_15, bp_17, bp_18, bp_20, bp_21, bp_24, bp_36, bp_48, bp_50, bp_60, bp_61, sp_1281, sp_9999, lc_100000, lc_1000000, cc_eq, cc_ne, cc_lt, cc_ge, cc_gt, cc_le, z_or0, z_or1, true_and, and_true, Classical.not_not, Option.toList_none, Option.toList_some, List.cons_append, List.nil_append, List.length_cons, List.length_nil, Nat.reduceAdd, Nat.reduceEqDiff, Nat.reduceLeDiff, Nat.zero_le, not_false_eq_true, cB_iv, cB_rv, cB_wi, cB_wr, cB_kd, cB_ln, cB_sz, s_2, s_3, s_4, s_4l, s_255, s_255l, s_256, s_256l, s_311, s_311l, f_21, f_22, f_23, f_24, f_30, hk, hF.1, cl_H_tail, c_H_tail (hF2 _ _), rq1, i2]
  simp (disch := omega) only [nI_add, pk_mul, pk_sub, nI_clamp, cin, nI_leI, nI_ltI, nI_eq, m1_lt, m1_le, nle_m1, nlt_m1, neq_m1, m1_neq, m1_add, sw_row, sw_eq, sw_ne, rCopyK_row, rTakeM_row, rShift_row, rPsh_row, Nat.reduceAdd, Nat.reduceMul, Nat.reduceSub, Nat.reduceLeDiff, Nat.reduceEqDiff, true_and, and_true, Classical.not_not, implies_true, true_implies, forall_const, p0]
  have nm : ¬ (-1 : Int32) = nI x := by rw [m1_neq (by omega)]; exact not_false
  unfold lnJ
  by_cases b : 0 < m
  · by_cases b2 : I (R q 1) (m - 1) = nI x
    · have := g3.mp ⟨b, b2⟩
      simp [b, b2, this]
    · have : ¬ rTl T x = true := fun z => b2 (g3.mpr z).2
      simp [b, b2, this]
  · have : ¬ rTl T x = true := fun z => b (g3.mpr z).1
    simp [b, this, nm]
end C13
