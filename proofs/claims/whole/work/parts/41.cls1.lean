/-! ### the class: its object lies at 2, the wire at 3, its rows at 4, messages at 5 + 4 j, nodes at 257 + 9 x, clients at 312 + c; chains at 254 and behind 344 -/
def cB (M : ck_M) (I : Nat → Nat → Int32) (R : Nat → Nat → Nat) : ck_M := (M.1, M.2.1, M.2.2.1, M.2.2.2.1, I, R)
def swR (R : Nat → Nat → Nat) (r k x : Nat) : Nat → Nat → Nat := fun a j => if a = r ∧ j = k then x else R a j
theorem cB_iv {M : ck_M} {I : Nat → Nat → Int32} {R : Nat → Nat → Nat} {r k : Nat} : ck_iv (cB M I R) r k = I r k := rfl
theorem cB_rv {M : ck_M} {I : Nat → Nat → Int32} {R : Nat → Nat → Nat} {r k : Nat} : ck_rv (cB M I R) r k = R r k := rfl
theorem cB_wi {M : ck_M} {I : Nat → Nat → Int32} {R : Nat → Nat → Nat} {r k : Nat} {x : Int32} : ck_wi (cB M I R) r k x = cB M (sw I r k x) R := rfl
theorem cB_wr {M : ck_M} {I : Nat → Nat → Int32} {R : Nat → Nat → Nat} {r k x : Nat} : ck_wr (cB M I R) r k x = cB M I (swR R r k x) := rfl
theorem cB_kd {M : ck_M} {I : Nat → Nat → Int32} {R : Nat → Nat → Nat} {r : Nat} : ck_kd (cB M I R) r = ck_kd M r := rfl
theorem cB_ln {M : ck_M} {I : Nat → Nat → Int32} {R : Nat → Nat → Nat} {r : Nat} : ck_ln (cB M I R) r = ck_ln M r := rfl
theorem cB_sz {M : ck_M} {I : Nat → Nat → Int32} {R : Nat → Nat → Nat} : ck_sz (cB M I R) = ck_sz M := rfl
theorem cB_us {M : ck_M} {I : Nat → Nat → Int32} {R : Nat → Nat → Nat} : ck_us (cB M I R) = ck_us M := rfl
theorem cB_self (M : ck_M) : cB M (ck_iv M) (ck_rv M) = M := rfl
theorem cB_cB {M : ck_M} {I J : Nat → Nat → Int32} {R T : Nat → Nat → Nat} : cB (cB M I R) J T = cB M J T := rfl
theorem swR_row {R : Nat → Nat → Nat} {r k a x : Nat} (h : ¬ a = r) : swR R r k x a = R a := by
  funext j
  exact if_neg (fun q => h q.1)
theorem swR_eq {R : Nat → Nat → Nat} {r k x : Nat} : swR R r k x r k = x := if_pos ⟨rfl, rfl⟩
theorem swR_ne {R : Nat → Nat → Nat} {r k j x : Nat} (h : ¬ j = k) : swR R r k x r j = R r j := if_neg (fun q => h q.2)
/-- a message's cell -/
def isM (r : Nat) : Prop := ∃ j, j < 62 ∧ r = 5 + 4 * j
theorem isM_b {r : Nat} (h : isM r) : 5 ≤ r ∧ r ≤ 249 := by
  obtain ⟨j, h1, h2⟩ := h; omega
/-- two messages' cells are apart -/
theorem isM_ne {r q : Nat} (h : isM r) (h' : isM q) (hne : ¬ r = q) : r + 3 < q ∨ q + 3 < r := by
  obtain ⟨j, h1, h2⟩ := h
  obtain ⟨k, h3, h4⟩ := h'
  omega
/-- kinds and lengths -/
def cSh (M : ck_M) : Prop := (ck_kd M 2 = 2 ∧ ck_kd M 3 = 4 ∧ ck_kd M 4 = 7 ∧ ck_ln M 4 = 61 ∧ ck_kd M 255 = 9 ∧ ck_ln M 255 = 6 ∧ ck_kd M 256 = 5 ∧ ck_ln M 256 = 6 ∧ ck_kd M 311 = 11 ∧ ck_ln M 311 = 3) ∧
  (∀ x, x < 6 → ck_kd M (257 + 9 * x) = 10 ∧ (ck_kd M (257 + 9 * x + 1) = 3 ∧ ck_ln M (257 + 9 * x + 1) = 4) ∧ (ck_kd M (257 + 9 * x + 2) = 3 ∧ ck_ln M (257 + 9 * x + 2) = 4) ∧ (ck_kd M (257 + 9 * x + 3) = 3 ∧ ck_ln M (257 + 9 * x + 3) = 8) ∧ (ck_kd M (257 + 9 * x + 4) = 3 ∧ ck_ln M (257 + 9 * x + 4) = 8) ∧ (ck_kd M (257 + 9 * x + 5) = 3 ∧ ck_ln M (257 + 9 * x + 5) = 8) ∧ (ck_kd M (257 + 9 * x + 6) = 3 ∧ ck_ln M (257 + 9 * x + 6) = 8) ∧ (ck_kd M (257 + 9 * x + 7) = 3 ∧ ck_ln M (257 + 9 * x + 7) = 3) ∧ (ck_kd M (257 + 9 * x + 8) = 3 ∧ ck_ln M (257 + 9 * x + 8) = 3)) ∧
  (∀ c, c < 3 → ck_kd M (312 + c) = 12) ∧
  (∀ r, isM r → ck_kd M r = 6 ∧ (ck_kd M (r + 1) = 3 ∧ ck_ln M (r + 1) = 3) ∧ (ck_kd M (r + 2) = 3 ∧ ck_ln M (r + 2) = 4) ∧ (ck_kd M (r + 3) = 3 ∧ ck_ln M (r + 3) = 4))
/-- the references that stay -/
def cRf (R : Nat → Nat → Nat) : Prop := (R 2 1 = 3 ∧ R 2 2 = 255 ∧ R 2 3 = 311 ∧ R 2 4 = 256 ∧ R 3 0 = 4) ∧
  (∀ x, x < 6 → R 255 x = 257 + 9 * x ∧ R (257 + 9 * x) 10 = 257 + 9 * x + 1 ∧ R (257 + 9 * x) 11 = 257 + 9 * x + 2 ∧ R (257 + 9 * x) 12 = 257 + 9 * x + 3 ∧ R (257 + 9 * x) 13 = 257 + 9 * x + 4 ∧ R (257 + 9 * x) 14 = 257 + 9 * x + 5 ∧ R (257 + 9 * x) 15 = 257 + 9 * x + 6 ∧ R (257 + 9 * x) 16 = 257 + 9 * x + 7 ∧ R (257 + 9 * x) 17 = 257 + 9 * x + 8) ∧
  (∀ c, c < 3 → R 311 c = 312 + c) ∧ (∀ r, isM r → R r 10 = r + 1 ∧ R r 11 = r + 2 ∧ R r 12 = r + 3)
theorem s_2 {M : ck_M} (h : cSh M) : ck_kd M 2 = 2 := h.1.1
theorem s_3 {M : ck_M} (h : cSh M) : ck_kd M 3 = 4 := h.1.2.1
theorem s_4 {M : ck_M} (h : cSh M) : ck_kd M 4 = 7 := h.1.2.2.1
theorem s_4l {M : ck_M} (h : cSh M) : ck_ln M 4 = 61 := h.1.2.2.2.1
theorem s_255 {M : ck_M} (h : cSh M) : ck_kd M 255 = 9 := h.1.2.2.2.2.1
theorem s_255l {M : ck_M} (h : cSh M) : ck_ln M 255 = 6 := h.1.2.2.2.2.2.1
theorem s_256 {M : ck_M} (h : cSh M) : ck_kd M 256 = 5 := h.1.2.2.2.2.2.2.1
theorem s_256l {M : ck_M} (h : cSh M) : ck_ln M 256 = 6 := h.1.2.2.2.2.2.2.2.1
theorem s_311 {M : ck_M} (h : cSh M) : ck_kd M 311 = 11 := h.1.2.2.2.2.2.2.2.2.1
theorem s_311l {M : ck_M} (h : cSh M) : ck_ln M 311 = 3 := h.1.2.2.2.2.2.2.2.2.2
theorem s_n {M : ck_M} {x : Nat} (h : cSh M) (hx : x < 6) : ck_kd M (257 + 9 * x) = 10 := (h.2.1 x hx).1
theorem s_n1 {M : ck_M} {x : Nat} (h : cSh M) (hx : x < 6) : ck_kd M (257 + 9 * x + 1) = 3 := (h.2.1 x hx).2.1.1
theorem s_n2 {M : ck_M} {x : Nat} (h : cSh M) (hx : x < 6) : ck_kd M (257 + 9 * x + 2) = 3 := (h.2.1 x hx).2.2.1.1
theorem s_n3 {M : ck_M} {x : Nat} (h : cSh M) (hx : x < 6) : ck_kd M (257 + 9 * x + 3) = 3 := (h.2.1 x hx).2.2.2.1.1
theorem s_n4 {M : ck_M} {x : Nat} (h : cSh M) (hx : x < 6) : ck_kd M (257 + 9 * x + 4) = 3 := (h.2.1 x hx).2.2.2.2.1.1
theorem s_n5 {M : ck_M} {x : Nat} (h : cSh M) (hx : x < 6) : ck_kd M (257 + 9 * x + 5) = 3 := (h.2.1 x hx).2.2.2.2.2.1.1
theorem s_n6 {M : ck_M} {x : Nat} (h : cSh M) (hx : x < 6) : ck_kd M (257 + 9 * x + 6) = 3 := (h.2.1 x hx).2.2.2.2.2.2.1.1
theorem s_n7 {M : ck_M} {x : Nat} (h : cSh M) (hx : x < 6) : ck_kd M (257 + 9 * x + 7) = 3 := (h.2.1 x hx).2.2.2.2.2.2.2.1.1
theorem s_n8 {M : ck_M} {x : Nat} (h : cSh M) (hx : x < 6) : ck_kd M (257 + 9 * x + 8) = 3 := (h.2.1 x hx).2.2.2.2.2.2.2.2.1
theorem s_n1l {M : ck_M} {x : Nat} (h : cSh M) (hx : x < 6) : ck_ln M (257 + 9 * x + 1) = 4 := (h.2.1 x hx).2.1.2
theorem s_n2l {M : ck_M} {x : Nat} (h : cSh M) (hx : x < 6) : ck_ln M (257 + 9 * x + 2) = 4 := (h.2.1 x hx).2.2.1.2
theorem s_n3l {M : ck_M} {x : Nat} (h : cSh M) (hx : x < 6) : ck_ln M (257 + 9 * x + 3) = 8 := (h.2.1 x hx).2.2.2.1.2
theorem s_n4l {M : ck_M} {x : Nat} (h : cSh M) (hx : x < 6) : ck_ln M (257 + 9 * x + 4) = 8 := (h.2.1 x hx).2.2.2.2.1.2
theorem s_n5l {M : ck_M} {x : Nat} (h : cSh M) (hx : x < 6) : ck_ln M (257 + 9 * x + 5) = 8 := (h.2.1 x hx).2.2.2.2.2.1.2
theorem s_n6l {M : ck_M} {x : Nat} (h : cSh M) (hx : x < 6) : ck_ln M (257 + 9 * x + 6) = 8 := (h.2.1 x hx).2.2.2.2.2.2.1.2
theorem s_n7l {M : ck_M} {x : Nat} (h : cSh M) (hx : x < 6) : ck_ln M (257 + 9 * x + 7) = 3 := (h.2.1 x hx).2.2.2.2.2.2.2.1.2
theorem s_n8l {M : ck_M} {x : Nat} (h : cSh M) (hx : x < 6) : ck_ln M (257 + 9 * x + 8) = 3 := (h.2.1 x hx).2.2.2.2.2.2.2.2.2
theorem s_c {M : ck_M} {c : Nat} (h : cSh M) (hc : c < 3) : ck_kd M (312 + c) = 12 := h.2.2.1 c hc
theorem s_m {M : ck_M} {r : Nat} (h : cSh M) (hr : isM r) : ck_kd M r = 6 := (h.2.2.2 r hr).1
theorem s_m1 {M : ck_M} {r : Nat} (h : cSh M) (hr : isM r) : ck_kd M (r + 1) = 3 := (h.2.2.2 r hr).2.1.1
theorem s_m2 {M : ck_M} {r : Nat} (h : cSh M) (hr : isM r) : ck_kd M (r + 2) = 3 := (h.2.2.2 r hr).2.2.1.1
theorem s_m3 {M : ck_M} {r : Nat} (h : cSh M) (hr : isM r) : ck_kd M (r + 3) = 3 := (h.2.2.2 r hr).2.2.2.1
theorem s_m1l {M : ck_M} {r : Nat} (h : cSh M) (hr : isM r) : ck_ln M (r + 1) = 3 := (h.2.2.2 r hr).2.1.2
theorem s_m2l {M : ck_M} {r : Nat} (h : cSh M) (hr : isM r) : ck_ln M (r + 2) = 4 := (h.2.2.2 r hr).2.2.1.2
theorem s_m3l {M : ck_M} {r : Nat} (h : cSh M) (hr : isM r) : ck_ln M (r + 3) = 4 := (h.2.2.2 r hr).2.2.2.2
theorem f_21 {R : Nat → Nat → Nat} (h : cRf R) : R 2 1 = 3 := h.1.1
theorem f_22 {R : Nat → Nat → Nat} (h : cRf R) : R 2 2 = 255 := h.1.2.1
theorem f_23 {R : Nat → Nat → Nat} (h : cRf R) : R 2 3 = 311 := h.1.2.2.1
theorem f_24 {R : Nat → Nat → Nat} (h : cRf R) : R 2 4 = 256 := h.1.2.2.2.1
theorem f_30 {R : Nat → Nat → Nat} (h : cRf R) : R 3 0 = 4 := h.1.2.2.2.2
theorem f_n {R : Nat → Nat → Nat} {x : Nat} (h : cRf R) (hx : x < 6) : R 255 x = 257 + 9 * x := (h.2.1 x hx).1
theorem f_n10 {R : Nat → Nat → Nat} {x : Nat} (h : cRf R) (hx : x < 6) : R (257 + 9 * x) 10 = 257 + 9 * x + 1 := (h.2.1 x hx).2.1
theorem f_n11 {R : Nat → Nat → Nat} {x : Nat} (h : cRf R) (hx : x < 6) : R (257 + 9 * x) 11 = 257 + 9 * x + 2 := (h.2.1 x hx).2.2.1
theorem f_n12 {R : Nat → Nat → Nat} {x : Nat} (h : cRf R) (hx : x < 6) : R (257 + 9 * x) 12 = 257 + 9 * x + 3 := (h.2.1 x hx).2.2.2.1
theorem f_n13 {R : Nat → Nat → Nat} {x : Nat} (h : cRf R) (hx : x < 6) : R (257 + 9 * x) 13 = 257 + 9 * x + 4 := (h.2.1 x hx).2.2.2.2.1
theorem f_n14 {R : Nat → Nat → Nat} {x : Nat} (h : cRf R) (hx : x < 6) : R (257 + 9 * x) 14 = 257 + 9 * x + 5 := (h.2.1 x hx).2.2.2.2.2.1
theorem f_n15 {R : Nat → Nat → Nat} {x : Nat} (h : cRf R) (hx : x < 6) : R (257 + 9 * x) 15 = 257 + 9 * x + 6 := (h.2.1 x hx).2.2.2.2.2.2.1
theorem f_n16 {R : Nat → Nat → Nat} {x : Nat} (h : cRf R) (hx : x < 6) : R (257 + 9 * x) 16 = 257 + 9 * x + 7 := (h.2.1 x hx).2.2.2.2.2.2.2.1
theorem f_n17 {R : Nat → Nat → Nat} {x : Nat} (h : cRf R) (hx : x < 6) : R (257 + 9 * x) 17 = 257 + 9 * x + 8 := (h.2.1 x hx).2.2.2.2.2.2.2.2
theorem f_c {R : Nat → Nat → Nat} {c : Nat} (h : cRf R) (hc : c < 3) : R 311 c = 312 + c := h.2.2.1 c hc
theorem f_m10 {R : Nat → Nat → Nat} {r : Nat} (h : cRf R) (hr : isM r) : R r 10 = r + 1 := (h.2.2.2 r hr).1
theorem f_m11 {R : Nat → Nat → Nat} {r : Nat} (h : cRf R) (hr : isM r) : R r 11 = r + 2 := (h.2.2.2 r hr).2.1
theorem f_m12 {R : Nat → Nat → Nat} {r : Nat} (h : cRf R) (hr : isM r) : R r 12 = r + 3 := (h.2.2.2 r hr).2.2
section C1
variable {xl : Nat} {xs : Nat → Int32} {d : Nat} {Q : Option ck_V → ck_M → Prop} {M : ck_M} {I : Nat → Nat → Int32} {R : Nat → Nat → Nat}
theorem c_W_has (hs : cSh M) (i : Int32) : ck_Ev ck_P xl xs d 30 0 [some (.inr 3), some (.inl i)] [] (cB M I R) Q = Q (some (.inl (if nI 0 ≤ i ∧ i < I 3 2 then nI 1 else nI 0))) (cB M I R) := by
  simp only [j_W_has_0, j_W_has_16, j_W_has_17, e_W_has_0, e_W_has_1, e_W_has_4, e_W_has_5, e_W_has_6, e_W_has_9, e_W_has_12, e_W_has_13, e_W_has_16, e_W_has_17, li_s, la_s, wp_iconst, wp_bipush, wp_sipush, wp_ldc, wp_iload, wp_iload_n, wp_aload, wp_aload_n, wp_istore, wp_istore_n, wp_astore, wp_astore_n, wp_iinc, wp_iadd, wp_isub, wp_imul, wp_iand, wp_irem, wp_dup, wp_pop, wp_goto, wp_if, wp_icmp, wp_ifnull, wp_tsw, wp_get0, wp_get2, wp_get1, wp_put0, wp_put2, wp_put1, wp_iald, wp_sald, wp_iast, wp_bald, wp_bast, wp_aald, wp_aast, wp_alen, wp_slen, wp_new, wp_newa, wp_newq, wp_cast, wp_oinit, wp_clone, wp_copy, wp_callI0, wp_callI1, wp_callI2, wp_callI3, wp_callI4, wp_callI5, wp_callV0, wp_callV1, wp_callV2, wp_callV3, wp_callV4, wp_callV5, wp_callS0, wp_callS1, wp_callS2, wp_callS3, wp_callS4, wp_iret0, wp_iret1, wp_aret, wp_ret, lg_0, lg_1, lg_2, lg_3, lg_4, lg_5, lg_6, lg_7, ls_0, ls_1, ls_2, ls_3, ls_4, ls_5, ls_6, ls_7, oi_m1, oi_0, oi_1, oi_2, oi_3, oi_4, oi_5, bp_6, bp_7, bp_8, bp_9, bp_15, bp_17, bp_18, bp_20, bp_21, bp_24, bp_36, bp_48, bp_50, bp_60, bp_61, sp_1281, sp_9999, lc_100000, lc_1000000, cc_eq, cc_ne, cc_lt, cc_ge, cc_gt, cc_le, z_or0, z_or1, true_and, and_true, Classical.not_not, Option.toList_none, Option.toList_some, List.cons_append, List.nil_append, List.length_cons, List.length_nil, Nat.reduceAdd, Nat.reduceEqDiff, Nat.reduceLeDiff, Nat.zero_le, not_false_eq_true, cB_iv, cB_rv, cB_wi, cB_wr, cB_kd, cB_ln, cB_sz, s_2, s_3, s_4, s_4l, s_255, s_255l, s_256, s_256l, s_311, s_311l, f_21, f_22, f_23, f_24, f_30, hs]
  by_cases b : i < nI 0
  · have b' : ¬ nI 0 ≤ i := Int32.not_le.mpr b
    simp [b, b']
  · have b' : nI 0 ≤ i := Int32.not_lt.mp b
    by_cases b2 : I 3 2 ≤ i
    · have b2' : ¬ i < I 3 2 := Int32.not_lt.mpr b2
      simp [b, b', b2, b2']
    · have b2' : i < I 3 2 := Int32.not_le.mp b2
      simp [b, b', b2, b2']
theorem c_W_at (hs : cSh M) (hf : cRf R) {i : Nat} (hi : i < 61) : ck_Ev ck_P xl xs d 32 0 [some (.inr 3), some (.inl (nI i))] [] (cB M I R) Q = Q (some (.inr (R 4 i))) (cB M I R) := by
  simp only [j_W_at_0, e_W_at_0, e_W_at_1, e_W_at_4, e_W_at_5, e_W_at_6, li_s, la_s, wp_iconst, wp_bipush, wp_sipush, wp_ldc, wp_iload, wp_iload_n, wp_aload, wp_aload_n, wp_istore, wp_istore_n, wp_astore, wp_astore_n, wp_iinc, wp_iadd, wp_isub, wp_imul, wp_iand, wp_irem, wp_dup, wp_pop, wp_goto, wp_if, wp_icmp, wp_ifnull, wp_tsw, wp_get0, wp_get2, wp_get1, wp_put0, wp_put2, wp_put1, wp_iald, wp_sald, wp_iast, wp_bald, wp_bast, wp_aald, wp_aast, wp_alen, wp_slen, wp_new, wp_newa, wp_newq, wp_cast, wp_oinit, wp_clone, wp_copy, wp_callI0, wp_callI1, wp_callI2, wp_callI3, wp_callI4, wp_callI5, wp_callV0, wp_callV1, wp_callV2, wp_callV3, wp_callV4, wp_callV5, wp_callS0, wp_callS1, wp_callS2, wp_callS3, wp_callS4, wp_iret0, wp_iret1, wp_aret, wp_ret, lg_0, lg_1, lg_2, lg_3, lg_4, lg_5, lg_6, lg_7, ls_0, ls_1, ls_2, ls_3, ls_4, ls_5, ls_6, ls_7, oi_m1, oi_0, oi_1, oi_2, oi_3, oi_4, oi_5, bp_6, bp_7, bp_8, bp_9, bp_15, bp_17, bp_18, bp_20, bp_21, bp_24, bp_36, bp_48, bp_50, bp_60, bp_61, sp_1281, sp_9999, lc_100000, lc_1000000, cc_eq, cc_ne, cc_lt, cc_ge, cc_gt, cc_le, z_or0, z_or1, true_and, and_true, Classical.not_not, Option.toList_none, Option.toList_some, List.cons_append, List.nil_append, List.length_cons, List.length_nil, Nat.reduceAdd, Nat.reduceEqDiff, Nat.reduceLeDiff, Nat.zero_le, not_false_eq_true, cB_iv, cB_rv, cB_wi, cB_wr, cB_kd, cB_ln, cB_sz, s_2, s_3, s_4, s_4l, s_255, s_255l, s_256, s_256l, s_311, s_311l, f_21, f_22, f_23, f_24, f_30, hs, hf]
  simp (disch := omega) only [nI_add, pk_mul, pk_sub, nI_clamp, cin, nI_leI, nI_ltI, nI_eq, m1_lt, m1_le, nle_m1, nlt_m1, neq_m1, m1_neq, m1_add, sw_row, sw_eq, sw_ne, rCopyK_row, rTakeM_row, rShift_row, rPsh_row, Nat.reduceAdd, Nat.reduceMul, Nat.reduceSub, Nat.reduceLeDiff, Nat.reduceEqDiff, true_and, and_true, Classical.not_not, implies_true, true_implies, forall_const]
theorem c_W_draft (hs : cSh M) (hf : cRf R) {n : Nat} (hn : n ≤ 60) (hm : I 3 2 = nI n) (hr : isM (R 4 n)) (k t e : Int32) : ck_Ev ck_P xl xs d 28 0 [some (.inr 3), some (.inl k), some (.inl t), some (.inl e), none] [] (cB M I R) Q = Q (some (.inr (R 4 n))) (cB M (sw (sw (sw I (R 4 n) 0 k) (R 4 n) 1 t) (R 4 n) 2 e) R) := by
  simp only [j_W_draft_0, e_W_draft_0, e_W_draft_1, e_W_draft_4, e_W_draft_5, e_W_draft_8, e_W_draft_9, e_W_draft_11, e_W_draft_13, e_W_draft_14, e_W_draft_17, e_W_draft_19, e_W_draft_20, e_W_draft_23, e_W_draft_25, e_W_draft_26, e_W_draft_29, e_W_draft_31, li_s, la_s, wp_iconst, wp_bipush, wp_sipush, wp_ldc, wp_iload, wp_iload_n, wp_aload, wp_aload_n, wp_istore, wp_istore_n, wp_astore, wp_astore_n, wp_iinc, wp_iadd, wp_isub, wp_imul, wp_iand, wp_irem, wp_dup, wp_pop, wp_goto, wp_if, wp_icmp, wp_ifnull, wp_tsw, wp_get0, wp_get2, wp_get1, wp_put0, wp_put2, wp_put1, wp_iald, wp_sald, wp_iast, wp_bald, wp_bast, wp_aald, wp_aast, wp_alen, wp_slen, wp_new, wp_newa, wp_newq, wp_cast, wp_oinit, wp_clone, wp_copy, wp_callI0, wp_callI1, wp_callI2, wp_callI3, wp_callI4, wp_callI5, wp_callV0, wp_callV1, wp_callV2, wp_callV3, wp_callV4, wp_callV5, wp_callS0, wp_callS1, wp_callS2, wp_callS3, wp_callS4, wp_iret0, wp_iret1, wp_aret, wp_ret, lg_0, lg_1, lg_2, lg_3, lg_4, lg_5, lg_6, lg_7, ls_0, ls_1, ls_2, ls_3, ls_4, ls_5, ls_6, ls_7, oi_m1, oi_0, oi_1, oi_2, oi_3, oi_4, oi_5, bp_6, bp_7, bp_8, bp_9, bp_15, bp_17, bp_18, bp_20, bp_21, bp_24, bp_36, bp_48, bp_50, bp_60, bp_61, sp_1281, sp_9999, lc_100000, lc_1000000, cc_eq, cc_ne, cc_lt, cc_ge, cc_gt, cc_le, z_or0, z_or1, true_and, and_true, Classical.not_not, Option.toList_none, Option.toList_some, List.cons_append, List.nil_append, List.length_cons, List.length_nil, Nat.reduceAdd, Nat.reduceEqDiff, Nat.reduceLeDiff, Nat.zero_le, not_false_eq_true, cB_iv, cB_rv, cB_wi, cB_wr, cB_kd, cB_ln, cB_sz, s_2, s_3, s_4, s_4l, s_255, s_255l, s_256, s_256l, s_311, s_311l, f_21, f_22, f_23, f_24, f_30, hs, hf, hm]
  simp (disch := omega) only [nI_add, pk_mul, pk_sub, nI_clamp, cin, nI_leI, nI_ltI, nI_eq, m1_lt, m1_le, nle_m1, nlt_m1, neq_m1, m1_neq, m1_add, sw_row, sw_eq, sw_ne, rCopyK_row, rTakeM_row, rShift_row, rPsh_row, Nat.reduceAdd, Nat.reduceMul, Nat.reduceSub, Nat.reduceLeDiff, Nat.reduceEqDiff, true_and, and_true, Classical.not_not, implies_true, true_implies, forall_const, s_m hs hr]
theorem c_W_sendDraft (hs : cSh M) {n : Nat} (hn : n ≤ 60) (hm : I 3 2 = nI n) : ck_Ev ck_P xl xs d 29 0 [some (.inr 3)] [] (cB M I R) Q = Q none (cB M (if n < 60 then sw I 3 2 (nI (n + 1)) else I) R) := by
  simp only [j_W_sendDraft_0, j_W_sendDraft_19, e_W_sendDraft_0, e_W_sendDraft_1, e_W_sendDraft_4, e_W_sendDraft_6, e_W_sendDraft_9, e_W_sendDraft_10, e_W_sendDraft_11, e_W_sendDraft_14, e_W_sendDraft_15, e_W_sendDraft_16, e_W_sendDraft_19, li_s, la_s, wp_iconst, wp_bipush, wp_sipush, wp_ldc, wp_iload, wp_iload_n, wp_aload, wp_aload_n, wp_istore, wp_istore_n, wp_astore, wp_astore_n, wp_iinc, wp_iadd, wp_isub, wp_imul, wp_iand, wp_irem, wp_dup, wp_pop, wp_goto, wp_if, wp_icmp, wp_ifnull, wp_tsw, wp_get0, wp_get2, wp_get1, wp_put0, wp_put2, wp_put1, wp_iald, wp_sald, wp_iast, wp_bald, wp_bast, wp_aald, wp_aast, wp_alen, wp_slen, wp_new, wp_newa, wp_newq, wp_cast, wp_oinit, wp_clone, wp_copy, wp_callI0, wp_callI1, wp_callI2, wp_callI3, wp_callI4, wp_callI5, wp_callV0, wp_callV1, wp_callV2, wp_callV3, wp_callV4, wp_callV5, wp_callS0, wp_callS1, wp_callS2, wp_callS3, wp_callS4, wp_iret0, wp_iret1, wp_aret, wp_ret, lg_0, lg_1, lg_2, lg_3, lg_4, lg_5, lg_6, lg_7, ls_0, ls_1, ls_2, ls_3, ls_4, ls_5, ls_6, ls_7, oi_m1, oi_0, oi_1, oi_2, oi_3, oi_4, oi_5, bp_6, bp_7, bp_8, bp_9, bp_15, bp_17, bp_18, bp_20, bp_21, bp_24, bp_36, bp_48, bp_50, bp_60, bp_61, sp_1281, sp_9999, lc_100000, lc_1000000, cc_eq, cc_ne, cc_lt, cc_ge, cc_gt, cc_le, z_or0, z_or1, true_and, and_true, Classical.not_not, Option.toList_none, Option.toList_some, List.cons_append, List.nil_append, List.length_cons, List.length_nil, Nat.reduceAdd, Nat.reduceEqDiff, Nat.reduceLeDiff, Nat.zero_le, not_false_eq_true, cB_iv, cB_rv, cB_wi, cB_wr, cB_kd, cB_ln, cB_sz, s_2, s_3, s_4, s_4l, s_255, s_255l, s_256, s_256l, s_311, s_311l, f_21, f_22, f_23, f_24, f_30, hs, hm]
  simp (disch := omega) only [nI_add, pk_mul, pk_sub, nI_clamp, cin, nI_leI, nI_ltI, nI_eq, m1_lt, m1_le, nle_m1, nlt_m1, neq_m1, m1_neq, m1_add, sw_row, sw_eq, sw_ne, rCopyK_row, rTakeM_row, rShift_row, rPsh_row, Nat.reduceAdd, Nat.reduceMul, Nat.reduceSub, Nat.reduceLeDiff, Nat.reduceEqDiff, true_and, and_true, Classical.not_not, implies_true, true_implies, forall_const]
  by_cases b : n < 60
  · have b' : ¬ 60 ≤ n := by omega
    simp [b, b']
  · have b' : 60 ≤ n := by omega
    simp [b, b']
end C1
