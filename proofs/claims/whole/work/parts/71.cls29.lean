/-! ### the class: detect, join -/
theorem rMb_mem (f : Nat → Int32) (w : Int32) : ∀ n, rMb f w n = 0 ↔ rMem f w n = false := by
  intro n
  induction n with
  | zero => exact ⟨fun _ => rfl, fun _ => rfl⟩
  | succ n ih =>
    unfold rMb rMem
    by_cases h : f n = w
    · simp [h]
    · simp [h, ih]
theorem rMb_hit (f : Nat → Int32) (w : Int32) : ∀ n p, rMb f w n = p + 1 → p < n ∧ f p = w := by
  intro n
  induction n with
  | zero => intro p h; cases h
  | succ n ih =>
    intro p h
    unfold rMb at h
    by_cases b : f n = w
    · rw [if_pos b] at h
      have e : p = n := by omega
      subst e
      exact ⟨by omega, b⟩
    · rw [if_neg b] at h
      have := ih p h
      exact ⟨by omega, this.2⟩
theorem rConf_0 {S : Nat → Nat → Int32} {n : Nat} : rConf S n = rCfS (rCfM (sw (sw (sw S 315 5 (S 315 5 + nI 1)) 317 2 (S 315 5 + nI 1)) 317 8 (nI n)) 6) 0 n := rfl
def kW (xl : Nat) (xs : Nat → Int32) (D y : Nat) (L : ck_L) (M : ck_M) (R : Nat → Nat → Nat) (I T : Nat → Nat → Int32) (v : Int32) : Prop := ∃ N J P m, cRel N T J P m ∧ mOK N ∧ ck_sz N ≤ ck_sz M + 2 ∧ ck_us N ≤ ck_us M + 9 ∧ (∀ a, a ≤ 344 → ck_kd N a = ck_kd M a ∧ ck_ln N a = ck_ln M a) ∧ (∀ a, 315 ≤ a → a ≤ 344 → J a = I a) ∧ (∀ a, 315 ≤ a → a ≤ 344 → P a = R a) ∧ ∀ Q : Option ck_V → ck_M → Prop, ck_Ev ck_P xl xs D y 0 L [] (cB M I R) Q = Q (some (.inl v)) (cB N J P)
section C29
variable {xl : Nat} {xs : Nat → Int32} {d : Nat} {M N : ck_M} {R P : Nat → Nat → Nat} {S I J T : Nat → Nat → Int32} {n c x n' s q : Nat}
theorem kW_of {D y : Nat} {L : ck_L} {v : Int32} (hM : mOK M) (h : kV xl xs D y L M R I T v) : kW xl xs D y L M R I T v := by
  obtain ⟨J, P, m, h1, h2, h3, h4⟩ := h
  exact ⟨M, J, P, m, h1, hM, by omega, by omega, fun _ _ => ⟨rfl, rfl⟩, h2, fun a h _ => h3 a h, h4⟩
theorem c_K_hasRoom {Q : Option ck_V → ck_M → Prop} (h : cRel M S I R n) : ck_Ev ck_P xl xs d 17 0 [some (.inr 2)] [] (cB M I R) Q = Q (some (.inl (if n ≤ 50 then nI 1 else nI 0))) (cB M I R) := by
  obtain ⟨hs, hf, ⟨w1, w2, w3, -⟩, -⟩ := id h
  simp only [j_K_hasRoomForConfigs_0, j_K_hasRoomForConfigs_16, j_K_hasRoomForConfigs_17, e_K_hasRoomForConfigs_0, e_K_hasRoomForConfigs_1, e_K_hasRoomForConfigs_4, e_K_hasRoomForConfigs_7, e_K_hasRoomForConfigs_9, e_K_hasRoomForConfigs_12, e_K_hasRoomForConfigs_13, e_K_hasRoomForConfigs_16, e_K_hasRoomForConfigs_17, li_s, la_s, wp_iconst, wp_bipush, wp_sipush, wp_ldc, wp_iload, wp_iload_n, wp_aload, wp_aload_n, wp_istore, wp_istore_n, wp_astore, wp_astore_n, wp_iinc, wp_iadd, wp_isub, wp_imul, wp_iand, wp_irem, wp_dup, wp_pop, wp_goto, wp_if, wp_icmp, wp_ifnull, wp_tsw, wp_get0, wp_get2, wp_get1, wp_put0, wp_put2, wp_put1, wp_iald, wp_sald, wp_iast, wp_bald, wp_bast, wp_aald, wp_aast, wp_alen, wp_slen, wp_new, wp_newa, wp_newq, wp_cast, wp_oinit, wp_clone, wp_copy, wp_callI0, wp_callI1, wp_callI2, wp_callI3, wp_callI4, wp_callI5, wp_callV0, wp_callV1, wp_callV2, wp_callV3, wp_callV4, wp_callV5, wp_callS0, wp_callS1, wp_callS2, wp_callS3, wp_callS4, wp_iret0, wp_iret1, wp_aret, wp_ret, lg_0, lg_1, lg_2, lg_3, lg_4, lg_5, lg_6, lg_7, ls_0, ls_1, ls_2, ls_3, ls_4, ls_5, ls_6, ls_7, oi_m1, oi_0, oi_1, oi_2, oi_3, oi_4, oi_5, bp_6, bp_7, bp_8, bp_9, bp_15, bp_17, bp_18, bp_20, bp_21, bp_24, bp_36, bp_48, bp_50, bp_60, bp_61, sp_1281, sp_9999, lc_100000, lc_1000000, cc_eq, cc_ne, cc_lt, cc_ge, cc_gt, cc_le, z_or0, z_or1, true_and, and_true, Classical.not_not, Option.toList_none, Option.toList_some, List.cons_append, List.nil_append, List.length_cons, List.length_nil, Nat.reduceAdd, Nat.reduceEqDiff, Nat.reduceLeDiff, Nat.zero_le, not_false_eq_true, cB_iv, cB_rv, cB_wi, cB_wr, cB_kd, cB_ln, cB_sz, s_2, s_3, s_4, s_4l, s_255, s_255l, s_256, s_256l, s_311, s_311l, f_21, f_22, f_23, f_24, f_30, hs, hf, w3]
  simp (disch := omega) only [nI_add, pk_mul, pk_sub, nI_clamp, cin, nI_leI, nI_ltI, nI_eq, m1_lt, m1_le, nle_m1, nlt_m1, neq_m1, m1_neq, m1_add, sw_row, sw_eq, sw_ne, rCopyK_row, rTakeM_row, rShift_row, rPsh_row, Nat.reduceAdd, Nat.reduceMul, Nat.reduceSub, Nat.reduceLeDiff, Nat.reduceEqDiff, true_and, and_true, Classical.not_not, implies_true, true_implies, forall_const]
  by_cases b : n ≤ 50
  · simp [b, show ¬ 50 < n by omega]
  · simp [b, show 50 < n by omega]
theorem c_K_sendConfigs {Q : Option ck_V → ck_M → Prop} {N : ck_M} : ck_Ev ck_P xl xs d 18 0 [some (.inr 2), none, none] [] N Q = ck_Ev ck_P xl xs d 18 2 [some (.inr 2), some (.inl (nI 0)), none] [] N Q := by
  rw [j_K_sendConfigs_0, j_K_sendConfigs_2]
  simp only [e_K_sendConfigs_0, e_K_sendConfigs_1, li_s, la_s, wp_iconst, wp_bipush, wp_sipush, wp_ldc, wp_iload, wp_iload_n, wp_aload, wp_aload_n, wp_istore, wp_istore_n, wp_astore, wp_astore_n, wp_iinc, wp_iadd, wp_isub, wp_imul, wp_iand, wp_irem, wp_dup, wp_pop, wp_goto, wp_if, wp_icmp, wp_ifnull, wp_tsw, wp_get0, wp_get2, wp_get1, wp_put0, wp_put2, wp_put1, wp_iald, wp_sald, wp_iast, wp_bald, wp_bast, wp_aald, wp_aast, wp_alen, wp_slen, wp_new, wp_newa, wp_newq, wp_cast, wp_oinit, wp_clone, wp_copy, wp_callI0, wp_callI1, wp_callI2, wp_callI3, wp_callI4, wp_callI5, wp_callV0, wp_callV1, wp_callV2, wp_callV3, wp_callV4, wp_callV5, wp_callS0, wp_callS1, wp_callS2, wp_callS3, wp_callS4, wp_iret0, wp_iret1, wp_aret, wp_ret, lg_0, lg_1, lg_2, lg_3, lg_4, lg_5, lg_6, lg_7, ls_0, ls_1, ls_2, ls_3, ls_4, ls_5, ls_6, ls_7, oi_m1, oi_0, oi_1, oi_2, oi_3, oi_4, oi_5, bp_6, bp_7, bp_8, bp_9, bp_15, bp_17, bp_18, bp_20, bp_21, bp_24, bp_36, bp_48, bp_50, bp_60, bp_61, sp_1281, sp_9999, lc_100000, lc_1000000, cc_eq, cc_ne, cc_lt, cc_ge, cc_gt, cc_le, z_or0, z_or1, true_and, and_true, Classical.not_not, Option.toList_none, Option.toList_some, List.cons_append, List.nil_append, List.length_cons, List.length_nil, Nat.reduceAdd, Nat.reduceEqDiff, Nat.reduceLeDiff, Nat.zero_le, not_false_eq_true]
/-- a new chain and its configurations -/
theorem k_cfg {K : Nat → Nat → Int32} {P : Nat → Nat → Nat} {n2 : Nat} (hM : mOK M) (h : cRel M S I R n) (hN : ck_sz N = ck_sz M + 2 ∧ ck_us N = ck_us M + 9 ∧ (∀ a, a < ck_sz M + 2 → ck_kd N a = ck_kd M a ∧ ck_ln N a = ck_ln M a) ∧ ck_kd N (ck_sz M + 2) = 3 ∧ ck_ln N (ck_sz M + 2) = 6 ∧ ck_kd N (ck_sz M + 1 + 2) = 8 ∧ ∀ a, ck_sz M + 4 ≤ a → ck_kd N a = 0)
    (hK : ∀ a, a < ck_sz M + 2 → ¬ a = 256 → K a = I a) (hP : ∀ a, a < ck_sz M + 2 → ¬ a = 2 → P a = R a) (hP2 : ∀ j, ¬ j = 5 → P 2 j = R 2 j) (hP5 : P 2 5 = ck_sz M + 1 + 2) (hPs : P (ck_sz M + 1 + 2) 1 = ck_sz M + 2) (hT : ∀ a, ¬ (a = 315 ∨ a = 318 ∨ a = 319) → T a = S a) (h0 : ∀ j, ¬ j = 6 → T 315 j = S 315 j) (h6 : T 315 6 = nI n2) (hn2 : n2 ≤ 6) (h256 : ∀ x, x < 6 → K 256 x = T 319 x) (k0 : K (ck_sz M + 1 + 2) 0 = S 315 5 + nI 1) (k2 : K (ck_sz M + 1 + 2) 2 = nI n2) (kk : ∀ i, i < n2 → K (ck_sz M + 2) i = T 318 i) :
    ∃ J Q' m, cRel N (rConf T n2) J Q' m ∧ mOK N ∧ (∀ a, 315 ≤ a → a ≤ 344 → J a = I a) ∧ (∀ a, 315 ≤ a → a ≤ 344 → Q' a = R a) ∧ ∀ Q : Option ck_V → ck_M → Prop, ck_Ev ck_P xl xs (d + 1) 18 0 [some (.inr 2), none, none] [] (cB N K P) Q = Q none (cB N J Q') := by
  obtain ⟨m1, m2⟩ := hM
  obtain ⟨z1, z2, z3, z4, z5, z6, z7⟩ := hN
  have e : mEx M N I (fun a => if a < ck_sz M + 2 then I a else K a) R (fun a => if a < ck_sz M + 2 then R a else P a) (ck_sz M + 2) := ⟨by omega, m2, z3, fun a ha => if_pos ha, fun a ha => if_pos ha⟩
  have r1 := rel_mem h e
  have tr : ∀ a, ¬ (a = 315 ∨ a = 317 ∨ a = 318 ∨ a = 319) → rCfM (sw (sw (sw T 315 5 (T 315 5 + nI 1)) 317 2 (T 315 5 + nI 1)) 317 8 (nI n2)) 6 a = S a := fun a ha => by
    rw [rCfM_row (by omega), sw_row (by omega), sw_row (by omega), sw_row (by omega), hT a (by omega)]
  have t5 : ∀ j, rCfM (sw (sw (sw T 315 5 (T 315 5 + nI 1)) 317 2 (T 315 5 + nI 1)) 317 8 (nI n2)) 6 315 j = sw T 315 5 (T 315 5 + nI 1) 315 j := fun j => by
    rw [rCfM_row (by omega), sw_row (by omega), sw_row (by omega)]
  have t8 : rCfM (sw (sw (sw T 315 5 (T 315 5 + nI 1)) 317 2 (T 315 5 + nI 1)) 317 8 (nI n2)) 6 318 = T 318 := by
    rw [rCfM_row (by omega), sw_row (by omega), sw_row (by omega), sw_row (by omega)]
  have t9 : rCfM (sw (sw (sw T 315 5 (T 315 5 + nI 1)) 317 2 (T 315 5 + nI 1)) 317 8 (nI n2)) 6 319 = T 319 := by
    rw [rCfM_row (by omega), sw_row (by omega), sw_row (by omega), sw_row (by omega)]
  have t7 : ∀ j, ¬ (9 ≤ j ∧ j < 15) → rCfM (sw (sw (sw T 315 5 (T 315 5 + nI 1)) 317 2 (T 315 5 + nI 1)) 317 8 (nI n2)) 6 317 j = (sw (sw (sw T 315 5 (T 315 5 + nI 1)) 317 2 (T 315 5 + nI 1)) 317 8 (nI n2)) 317 j := fun j hj => if_neg (fun z => hj z.2)
  have t7' : ∀ i, i < 6 → rCfM (sw (sw (sw T 315 5 (T 315 5 + nI 1)) 317 2 (T 315 5 + nI 1)) 317 8 (nI n2)) 6 317 (9 + i) = T 318 i := fun i hi => by
    unfold rCfM
    rw [if_pos ⟨rfl, by omega, by omega⟩, sw_row (by omega), sw_row (by omega), sw_row (by omega), show 9 + i - 9 = i by omega]
  have s5 : T 315 5 = S 315 5 := h0 5 (by omega)
  rw [rConf_0]
  generalize hT1 : rCfM (sw (sw (sw T 315 5 (T 315 5 + nI 1)) 317 2 (T 315 5 + nI 1)) 317 8 (nI n2)) 6 = T1 at *
  have r2 : cRel N T1 K P n := by
    refine rel_master r1 tr (by rw [t5, sw_ne (by omega)]; exact h0 0 (by omega)) (by rw [t5, sw_ne (by omega)]; exact h0 1 (by omega)) (by rw [t5, sw_ne (by omega)]; exact h0 2 (by omega)) (fun a ha => ?_) (fun x hx => by rw [t9]; exact h256 x hx) (fun a ha => ?_) (fun j hj => ?_) ?_
    · by_cases b : a < ck_sz M + 2
      · show K a = if a < ck_sz M + 2 then I a else K a
        rw [if_pos b]; exact hK a b ha
      · show K a = if a < ck_sz M + 2 then I a else K a
        rw [if_neg b]
    · by_cases b : a < ck_sz M + 2
      · show P a = if a < ck_sz M + 2 then R a else P a
        rw [if_pos b]; exact hP a b ha
      · show P a = if a < ck_sz M + 2 then R a else P a
        rw [if_neg b]
    · show P 2 j = (if 2 < ck_sz M + 2 then R 2 else P 2) j
      rw [if_pos (by omega)]; exact hP2 j hj
    · rw [hP5, t5, t5, sw_eq, sw_ne (by omega), t8, h6]
      unfold chRel
      rw [hPs, z6, z4, z5, k0, k2, s5]
      exact ⟨Or.inr (by omega), rfl, Or.inr (by omega), rfl, rfl, rfl, rfl, n2, hn2, rfl, kk⟩
  obtain ⟨J, Q', m, g1, g2, g3, g4⟩ := k_cfS (xl := xl) (xs := xs) (d := d) hn2 n2 0 T1 K P n none r2 (by rw [t5, sw_ne (by omega)]; exact h6) (by rw [t7 2 (by omega), t5, sw_eq, sw_ne (by omega), sw_eq]) (by rw [t7 8 (by omega), sw_eq]) (fun i hi => by rw [t7' i hi, t8]) (by omega)
  refine ⟨J, Q', m, g1, ⟨by omega, fun a ha => z7 a (by omega)⟩, fun a h1 h2 => (g2 a (by omega)).trans (hK a (by omega) (by omega)), fun a h1 h2 => (g3 a (by omega)).trans (hP a (by omega) (by omega)), fun Q => ?_⟩
  rw [c_K_sendConfigs, g4]
theorem k_K_detect {w : Int32} (hM : mOK M) (h : cRel M S I R n) (hn6 : n' ≤ 6) (hl : S 315 6 = nI n') (hm : mCh S n') (hok : rDetOK S w n' n) : kW xl xs (d + 3) 16 [some (.inr 2), some (.inl w)] M R I (rDet S w n') (nI 1) := by
  obtain ⟨⟨hb, hmb⟩, hup, hr50⟩ := hok
  obtain ⟨x, -, hx5, rfl⟩ := c_le hb.1 hb.2 (by omega) (by omega)
  have hx6 : x < 6 := by omega
  have cx : (nI x).toNatClampNeg = x := nI_clamp (by omega)
  rw [cx] at hup
  obtain ⟨hs, hf, -, hn, hcl, hk⟩ := id h
  obtain ⟨⟨p0, p1, p2, p3⟩, -⟩ := hn x hx6
  have hpc := hk.2.2.2
  rw [hl] at hpc
  obtain ⟨hF, hg⟩ := chF_of hn6 hpc
  have hmem := hP_mem (w := nI x) hn6 hg
  have mt : rMem (S 318) (nI x) n' = true := by
    cases e : rMem (S 318) (nI x) n' with
    | true => rfl
    | false => exact absurd ((rMb_mem _ _ _).mpr e) hmb
  have b3 : ¬ hP (I (R (R 2 5) 1)) (nI x) 0 n' < nI 0 := by rw [hmem, mt]; decide
  obtain ⟨p, hp⟩ : ∃ p, rMb (S 318) (nI x) n' = p + 1 := ⟨rMb (S 318) (nI x) n' - 1, by omega⟩
  obtain ⟨hpn, hpx⟩ := rMb_hit _ _ _ _ hp
  have hw : ∀ i, i < n' → (S 318 i = nI x ↔ i = p) := fun i hi => ⟨fun z => hm.2 i p hi hpn (z.trans hpx.symm), fun z => z ▸ hpx⟩
  have lq : R 2 5 < ck_sz M + 2 := Classical.byContradiction (fun z => by have := hF.1; rw [hM.2 _ (by omega)] at this; omega)
  have lq1 : R (R 2 5) 1 < ck_sz M + 2 := Classical.byContradiction (fun z => by have := hF.2.1; rw [hM.2 _ (by omega)] at this; omega)
  have m1 := hM.1
  have hwo := fun Q : Option ck_V → ck_M → Prop => c_H_without (xl := xl) (xs := xs) (d := d) (Q := Q) hF hg lq lq1 hpn hw
  have hqe : I (R 2 5) 0 = S 315 5 := hpc.2.2.2.2.2.1
  unfold rDet
  rw [hp, show p + 1 - 1 = p by omega]
  obtain ⟨J, Q', m, g1, g2, g3, g4, g5⟩ := k_cfg (xl := xl) (xs := xs) (d := d + 1) (N := ck_al (ck_al M 3 6) 8 3) (K := woJ M I (R 2 5) p n' (S 318)) (P := swR (nwR M R) 2 5 (ck_sz M + 1 + 2)) (n2 := n' - 1) (T := rChS (sw S 315 6 (nI (n' - 1))) p (n' - 1)) hM h ⟨rfl, rfl, fun a ha => ⟨by rw [al_kd, if_neg (by rw [al_sz]; omega), al_kd, if_neg (by omega)], by rw [al_ln, if_neg (by rw [al_sz]; omega), al_ln, if_neg (by omega)]⟩, by rw [al_kd, if_neg (by rw [al_sz]; omega), al_kd, if_pos rfl], by rw [al_ln, if_neg (by rw [al_sz]; omega), al_ln, if_pos rfl], if_pos rfl, fun a ha => by rw [al_kd, if_neg (by rw [al_sz]; omega), al_kd, if_neg (by omega)]; exact hM.2 a (by omega)⟩
    (fun a ha _ => by unfold woJ; rw [sw_row (by omega), sw_row (by omega), alI_row (by omega), woI_row (by omega)]) (fun a ha h2 => by unfold nwR; rw [swR_row h2, swR_row (by omega), alR_row (by omega), alR_row (by omega)]) (fun j hj => by unfold nwR; rw [swR_ne hj, swR_row (by omega), alR_row (by omega), alR_row (by omega)]) swR_eq (by unfold nwR; rw [swR_row (by omega), swR_eq]) (fun a ha => by rw [rChS_row (by omega), sw_row (by omega)]) (fun j hj => by rw [rChS_row (by omega), sw_ne hj]) (by rw [rChS_row (by omega), sw_eq]) (by omega)
    (fun y hy => by unfold woJ; rw [sw_row (by omega), sw_row (by omega), alI_row (by omega), woI_row (by omega), rChS_row (by omega), sw_row (by omega)]; exact hk.2.2.1 y hy) (by unfold woJ; rw [sw_ne (by omega), sw_eq, hqe]) (by unfold woJ; rw [sw_eq]) (fun i hi => by
      unfold woJ
      rw [sw_row (by omega), sw_row (by omega), alI_row (by omega)]
      unfold woI rChS
      rw [if_pos rfl, if_pos hi, sw_row (by omega)]
      by_cases b : i < p
      · rw [if_pos b, if_neg (fun z => by omega)]
      · rw [if_neg b, if_pos ⟨rfl, by omega, hi⟩])
  refine ⟨_, J, Q', m, g1, g2, by show ck_sz M + 2 ≤ _; omega, by show ck_us M + 6 + 3 ≤ _; omega, fun a ha => ⟨by rw [al_kd, if_neg (by rw [al_sz]; omega), al_kd, if_neg (by omega)], by rw [al_ln, if_neg (by rw [al_sz]; omega), al_ln, if_neg (by omega)]⟩, g3, g4, fun Q => ?_⟩
  have kd2 : ck_kd (ck_al (ck_al M 3 6) 8 3) 2 = 2 := by rw [al_kd, if_neg (by rw [al_sz]; omega), al_kd, if_neg (by omega)]; exact s_2 hs
  have hrm := fun Q : Option ck_V → ck_M → Prop => c_K_hasRoom (xl := xl) (xs := xs) (d := d + 2) (Q := Q) h
  rw [if_pos hr50] at hrm
  simp only [j_K_detect_0, j_K_detect_37, j_K_detect_39, e_K_detect_0, e_K_detect_1, e_K_detect_4, e_K_detect_7, e_K_detect_8, e_K_detect_11, e_K_detect_12, e_K_detect_15, e_K_detect_18, e_K_detect_19, e_K_detect_22, e_K_detect_23, e_K_detect_24, e_K_detect_27, e_K_detect_30, e_K_detect_31, e_K_detect_34, e_K_detect_37, e_K_detect_38, e_K_detect_39, e_K_detect_40, e_K_detect_41, e_K_detect_44, e_K_detect_45, e_K_detect_48, e_K_detect_51, e_K_detect_52, e_K_detect_55, e_K_detect_56, li_s, la_s, wp_iconst, wp_bipush, wp_sipush, wp_ldc, wp_iload, wp_iload_n, wp_aload, wp_aload_n, wp_istore, wp_istore_n, wp_astore, wp_astore_n, wp_iinc, wp_iadd, wp_isub, wp_imul, wp_iand, wp_irem, wp_dup, wp_pop, wp_goto, wp_if, wp_icmp, wp_ifnull, wp_tsw, wp_get0, wp_get2, wp_get1, wp_put0, wp_put2, wp_put1, wp_iald, wp_sald, wp_iast, wp_bald, wp_bast, wp_aald, wp_aast, wp_alen, wp_slen, wp_new, wp_newa, wp_newq, wp_cast, wp_oinit, wp_clone, wp_copy, wp_callI0, wp_callI1, wp_callI2, wp_callI3, wp_callI4, wp_callI5, wp_callV0, wp_callV1, wp_callV2, wp_callV3, wp_callV4, wp_callV5, wp_callS0, wp_callS1, wp_callS2, wp_callS3, wp_callS4, wp_iret0, wp_iret1, wp_aret, wp_ret, lg_0, lg_1, lg_2, lg_3, lg_4, lg_5, lg_6, lg_7, ls_0, ls_1, ls_2, ls_3, ls_4, ls_5, ls_6, ls_7, oi_m1, oi_0, oi_1, oi_2, oi_3, oi_4, oi_5, bp_6, bp_7, bp_8, bp_9, bp_15, bp_17, bp_18, bp_20, bp_21, bp_24, bp_36, bp_48, bp_50, bp_60, bp_61, sp_1281, sp_9999, lc_100000, lc_1000000, cc_eq, cc_ne, cc_lt, cc_ge, cc_gt, cc_le, z_or0, z_or1, true_and, and_true, Classical.not_not, Option.toList_none, Option.toList_some, List.cons_append, List.nil_append, List.length_cons, List.length_nil, Nat.reduceAdd, Nat.reduceEqDiff, Nat.reduceLeDiff, Nat.zero_le, not_false_eq_true, cB_iv, cB_rv, cB_wi, cB_wr, cB_kd, cB_ln, cB_sz, s_2, s_3, s_4, s_4l, s_255, s_255l, s_256, s_256l, s_311, s_311l, f_21, f_22, f_23, f_24, f_30, hs, hf, cl_K_isNode, c_K_isNode_y hx6, hF.1, cl_H_has, c_H_has hF, if_neg b3]
  simp (disch := omega) only [nI_add, pk_mul, pk_sub, nI_clamp, cin, nI_leI, nI_ltI, nI_eq, m1_lt, m1_le, nle_m1, nlt_m1, neq_m1, m1_neq, m1_add, sw_row, sw_eq, sw_ne, rCopyK_row, rTakeM_row, rShift_row, rPsh_row, Nat.reduceAdd, Nat.reduceMul, Nat.reduceSub, Nat.reduceLeDiff, Nat.reduceEqDiff, true_and, and_true, Classical.not_not, implies_true, true_implies, forall_const, f_n hf hx6, s_n hs hx6, p1, hup, cl_K_hasRoomForConfigs, hrm]
  simp only [j_K_detect_0, j_K_detect_37, j_K_detect_39, e_K_detect_0, e_K_detect_1, e_K_detect_4, e_K_detect_7, e_K_detect_8, e_K_detect_11, e_K_detect_12, e_K_detect_15, e_K_detect_18, e_K_detect_19, e_K_detect_22, e_K_detect_23, e_K_detect_24, e_K_detect_27, e_K_detect_30, e_K_detect_31, e_K_detect_34, e_K_detect_37, e_K_detect_38, e_K_detect_39, e_K_detect_40, e_K_detect_41, e_K_detect_44, e_K_detect_45, e_K_detect_48, e_K_detect_51, e_K_detect_52, e_K_detect_55, e_K_detect_56, li_s, la_s, wp_iconst, wp_bipush, wp_sipush, wp_ldc, wp_iload, wp_iload_n, wp_aload, wp_aload_n, wp_istore, wp_istore_n, wp_astore, wp_astore_n, wp_iinc, wp_iadd, wp_isub, wp_imul, wp_iand, wp_irem, wp_dup, wp_pop, wp_goto, wp_if, wp_icmp, wp_ifnull, wp_tsw, wp_get0, wp_get2, wp_get1, wp_put0, wp_put2, wp_put1, wp_iald, wp_sald, wp_iast, wp_bald, wp_bast, wp_aald, wp_aast, wp_alen, wp_slen, wp_new, wp_newa, wp_newq, wp_cast, wp_oinit, wp_clone, wp_copy, wp_callI0, wp_callI1, wp_callI2, wp_callI3, wp_callI4, wp_callI5, wp_callV0, wp_callV1, wp_callV2, wp_callV3, wp_callV4, wp_callV5, wp_callS0, wp_callS1, wp_callS2, wp_callS3, wp_callS4, wp_iret0, wp_iret1, wp_aret, wp_ret, lg_0, lg_1, lg_2, lg_3, lg_4, lg_5, lg_6, lg_7, ls_0, ls_1, ls_2, ls_3, ls_4, ls_5, ls_6, ls_7, oi_m1, oi_0, oi_1, oi_2, oi_3, oi_4, oi_5, bp_6, bp_7, bp_8, bp_9, bp_15, bp_17, bp_18, bp_20, bp_21, bp_24, bp_36, bp_48, bp_50, bp_60, bp_61, sp_1281, sp_9999, lc_100000, lc_1000000, cc_eq, cc_ne, cc_lt, cc_ge, cc_gt, cc_le, z_or0, z_or1, true_and, and_true, Classical.not_not, Option.toList_none, Option.toList_some, List.cons_append, List.nil_append, List.length_cons, List.length_nil, Nat.reduceAdd, Nat.reduceEqDiff, Nat.reduceLeDiff, Nat.zero_le, not_false_eq_true, cB_iv, cB_rv, cB_wi, cB_wr, cB_kd, cB_ln, cB_sz, s_2, s_3, s_4, s_4l, s_255, s_255l, s_256, s_256l, s_311, s_311l, f_21, f_22, f_23, f_24, f_30, hF.1, hs, cl_H_without, hwo, kd2, cl_K_sendConfigs, g5]
  simp [n10']
theorem k_K_detect_no {w : Int32} (hM : mOK M) (h : cRel M S I R n) (hn6 : n' ≤ 6) (hl : S 315 6 = nI n') (hno : ¬ rDetOK S w n' n) : kW xl xs (d + 3) 16 [some (.inr 2), some (.inl w)] M R I S (nI 0) := by
  obtain ⟨hs, hf, -, hn, hcl, hk⟩ := id h
  have hpc := hk.2.2.2
  rw [hl] at hpc
  obtain ⟨hF, hg⟩ := chF_of hn6 hpc
  refine kW_of hM ⟨I, R, n, h, fun _ _ _ => rfl, fun _ _ => rfl, fun Q => ?_⟩
  by_cases b : nI 0 ≤ w ∧ w ≤ nI 5
  · obtain ⟨x, -, hx5, rfl⟩ := c_le b.1 b.2 (by omega) (by omega)
    have hx6 : x < 6 := by omega
    have cx : (nI x).toNatClampNeg = x := nI_clamp (by omega)
    obtain ⟨⟨p0, p1, p2, p3⟩, -⟩ := hn x hx6
    have hmem := hP_mem (w := nI x) hn6 hg
    by_cases b2 : hP (I (R (R 2 5) 1)) (nI x) 0 n' < nI 0
    · simp only [j_K_detect_0, j_K_detect_37, e_K_detect_0, e_K_detect_1, e_K_detect_4, e_K_detect_7, e_K_detect_8, e_K_detect_11, e_K_detect_12, e_K_detect_15, e_K_detect_18, e_K_detect_19, e_K_detect_22, e_K_detect_23, e_K_detect_24, e_K_detect_27, e_K_detect_30, e_K_detect_31, e_K_detect_34, e_K_detect_37, e_K_detect_38, e_K_detect_40, e_K_detect_41, e_K_detect_44, e_K_detect_45, e_K_detect_48, e_K_detect_51, e_K_detect_52, e_K_detect_55, e_K_detect_56, li_s, la_s, wp_iconst, wp_bipush, wp_sipush, wp_ldc, wp_iload, wp_iload_n, wp_aload, wp_aload_n, wp_istore, wp_istore_n, wp_astore, wp_astore_n, wp_iinc, wp_iadd, wp_isub, wp_imul, wp_iand, wp_irem, wp_dup, wp_pop, wp_goto, wp_if, wp_icmp, wp_ifnull, wp_tsw, wp_get0, wp_get2, wp_get1, wp_put0, wp_put2, wp_put1, wp_iald, wp_sald, wp_iast, wp_bald, wp_bast, wp_aald, wp_aast, wp_alen, wp_slen, wp_new, wp_newa, wp_newq, wp_cast, wp_oinit, wp_clone, wp_copy, wp_callI0, wp_callI1, wp_callI2, wp_callI3, wp_callI4, wp_callI5, wp_callV0, wp_callV1, wp_callV2, wp_callV3, wp_callV4, wp_callV5, wp_callS0, wp_callS1, wp_callS2, wp_callS3, wp_callS4, wp_iret0, wp_iret1, wp_aret, wp_ret, lg_0, lg_1, lg_2, lg_3, lg_4, lg_5, lg_6, lg_7, ls_0, ls_1, ls_2, ls_3, ls_4, ls_5, ls_6, ls_7, oi_m1, oi_0, oi_1, oi_2, oi_3, oi_4, oi_5, bp_6, bp_7, bp_8, bp_9, bp_15, bp_17, bp_18, bp_20, bp_21, bp_24, bp_36, bp_48, bp_50, bp_60, bp_61, sp_1281, sp_9999, lc_100000, lc_1000000, cc_eq, cc_ne, cc_lt, cc_ge, cc_gt, cc_le, z_or0, z_or1, true_and, and_true, Classical.not_not, Option.toList_none, Option.toList_some, List.cons_append, List.nil_append, List.length_cons, List.length_nil, Nat.reduceAdd, Nat.reduceEqDiff, Nat.reduceLeDiff, Nat.zero_le, not_false_eq_true, cB_iv, cB_rv, cB_wi, cB_wr, cB_kd, cB_ln, cB_sz, s_2, s_3, s_4, s_4l, s_255, s_255l, s_256, s_256l, s_311, s_311l, f_21, f_22, f_23, f_24, f_30, hs, hf, cl_K_isNode, c_K_isNode_y hx6, hF.1, cl_H_has, c_H_has hF, if_pos b2]
      simp [n10']
    · have mt : ¬ rMb (S 318) (nI x) n' = 0 := fun z => b2 (by rw [hmem]; exact (rMb_mem _ _ _).mp z)
      by_cases b3 : S 320 x = nI 0
      · have b4 : ¬ n ≤ 50 := fun z => hno ⟨⟨b, mt⟩, by rw [cx]; exact b3, z⟩
        have hrm := fun Q : Option ck_V → ck_M → Prop => c_K_hasRoom (xl := xl) (xs := xs) (d := d + 2) (Q := Q) h
        rw [if_neg b4] at hrm
        simp only [j_K_detect_0, j_K_detect_37, e_K_detect_0, e_K_detect_1, e_K_detect_4, e_K_detect_7, e_K_detect_8, e_K_detect_11, e_K_detect_12, e_K_detect_15, e_K_detect_18, e_K_detect_19, e_K_detect_22, e_K_detect_23, e_K_detect_24, e_K_detect_27, e_K_detect_30, e_K_detect_31, e_K_detect_34, e_K_detect_37, e_K_detect_38, e_K_detect_40, e_K_detect_41, e_K_detect_44, e_K_detect_45, e_K_detect_48, e_K_detect_51, e_K_detect_52, e_K_detect_55, e_K_detect_56, li_s, la_s, wp_iconst, wp_bipush, wp_sipush, wp_ldc, wp_iload, wp_iload_n, wp_aload, wp_aload_n, wp_istore, wp_istore_n, wp_astore, wp_astore_n, wp_iinc, wp_iadd, wp_isub, wp_imul, wp_iand, wp_irem, wp_dup, wp_pop, wp_goto, wp_if, wp_icmp, wp_ifnull, wp_tsw, wp_get0, wp_get2, wp_get1, wp_put0, wp_put2, wp_put1, wp_iald, wp_sald, wp_iast, wp_bald, wp_bast, wp_aald, wp_aast, wp_alen, wp_slen, wp_new, wp_newa, wp_newq, wp_cast, wp_oinit, wp_clone, wp_copy, wp_callI0, wp_callI1, wp_callI2, wp_callI3, wp_callI4, wp_callI5, wp_callV0, wp_callV1, wp_callV2, wp_callV3, wp_callV4, wp_callV5, wp_callS0, wp_callS1, wp_callS2, wp_callS3, wp_callS4, wp_iret0, wp_iret1, wp_aret, wp_ret, lg_0, lg_1, lg_2, lg_3, lg_4, lg_5, lg_6, lg_7, ls_0, ls_1, ls_2, ls_3, ls_4, ls_5, ls_6, ls_7, oi_m1, oi_0, oi_1, oi_2, oi_3, oi_4, oi_5, bp_6, bp_7, bp_8, bp_9, bp_15, bp_17, bp_18, bp_20, bp_21, bp_24, bp_36, bp_48, bp_50, bp_60, bp_61, sp_1281, sp_9999, lc_100000, lc_1000000, cc_eq, cc_ne, cc_lt, cc_ge, cc_gt, cc_le, z_or0, z_or1, true_and, and_true, Classical.not_not, Option.toList_none, Option.toList_some, List.cons_append, List.nil_append, List.length_cons, List.length_nil, Nat.reduceAdd, Nat.reduceEqDiff, Nat.reduceLeDiff, Nat.zero_le, not_false_eq_true, cB_iv, cB_rv, cB_wi, cB_wr, cB_kd, cB_ln, cB_sz, s_2, s_3, s_4, s_4l, s_255, s_255l, s_256, s_256l, s_311, s_311l, f_21, f_22, f_23, f_24, f_30, hs, hf, cl_K_isNode, c_K_isNode_y hx6, hF.1, cl_H_has, c_H_has hF, if_neg b2]
        simp (disch := omega) only [nI_add, pk_mul, pk_sub, nI_clamp, cin, nI_leI, nI_ltI, nI_eq, m1_lt, m1_le, nle_m1, nlt_m1, neq_m1, m1_neq, m1_add, sw_row, sw_eq, sw_ne, rCopyK_row, rTakeM_row, rShift_row, rPsh_row, Nat.reduceAdd, Nat.reduceMul, Nat.reduceSub, Nat.reduceLeDiff, Nat.reduceEqDiff, true_and, and_true, Classical.not_not, implies_true, true_implies, forall_const, f_n hf hx6, s_n hs hx6, p1, b3, cl_K_hasRoomForConfigs, hrm]
        simp only [j_K_detect_0, j_K_detect_37, e_K_detect_0, e_K_detect_1, e_K_detect_4, e_K_detect_7, e_K_detect_8, e_K_detect_11, e_K_detect_12, e_K_detect_15, e_K_detect_18, e_K_detect_19, e_K_detect_22, e_K_detect_23, e_K_detect_24, e_K_detect_27, e_K_detect_30, e_K_detect_31, e_K_detect_34, e_K_detect_37, e_K_detect_38, e_K_detect_40, e_K_detect_41, e_K_detect_44, e_K_detect_45, e_K_detect_48, e_K_detect_51, e_K_detect_52, e_K_detect_55, e_K_detect_56, li_s, la_s, wp_iconst, wp_bipush, wp_sipush, wp_ldc, wp_iload, wp_iload_n, wp_aload, wp_aload_n, wp_istore, wp_istore_n, wp_astore, wp_astore_n, wp_iinc, wp_iadd, wp_isub, wp_imul, wp_iand, wp_irem, wp_dup, wp_pop, wp_goto, wp_if, wp_icmp, wp_ifnull, wp_tsw, wp_get0, wp_get2, wp_get1, wp_put0, wp_put2, wp_put1, wp_iald, wp_sald, wp_iast, wp_bald, wp_bast, wp_aald, wp_aast, wp_alen, wp_slen, wp_new, wp_newa, wp_newq, wp_cast, wp_oinit, wp_clone, wp_copy, wp_callI0, wp_callI1, wp_callI2, wp_callI3, wp_callI4, wp_callI5, wp_callV0, wp_callV1, wp_callV2, wp_callV3, wp_callV4, wp_callV5, wp_callS0, wp_callS1, wp_callS2, wp_callS3, wp_callS4, wp_iret0, wp_iret1, wp_aret, wp_ret, lg_0, lg_1, lg_2, lg_3, lg_4, lg_5, lg_6, lg_7, ls_0, ls_1, ls_2, ls_3, ls_4, ls_5, ls_6, ls_7, oi_m1, oi_0, oi_1, oi_2, oi_3, oi_4, oi_5, bp_6, bp_7, bp_8, bp_9, bp_15, bp_17, bp_18, bp_20, bp_21, bp_24, bp_36, bp_48, bp_50, bp_60, bp_61, sp_1281, sp_9999, lc_100000, lc_1000000, cc_eq, cc_ne, cc_lt, cc_ge, cc_gt, cc_le, z_or0, z_or1, true_and, and_true, Classical.not_not, Option.toList_none, Option.toList_some, List.cons_append, List.nil_append, List.length_cons, List.length_nil, Nat.reduceAdd, Nat.reduceEqDiff, Nat.reduceLeDiff, Nat.zero_le, not_false_eq_true]
        simp [n10']
      · simp only [j_K_detect_0, j_K_detect_37, e_K_detect_0, e_K_detect_1, e_K_detect_4, e_K_detect_7, e_K_detect_8, e_K_detect_11, e_K_detect_12, e_K_detect_15, e_K_detect_18, e_K_detect_19, e_K_detect_22, e_K_detect_23, e_K_detect_24, e_K_detect_27, e_K_detect_30, e_K_detect_31, e_K_detect_34, e_K_detect_37, e_K_detect_38, e_K_detect_40, e_K_detect_41, e_K_detect_44, e_K_detect_45, e_K_detect_48, e_K_detect_51, e_K_detect_52, e_K_detect_55, e_K_detect_56, li_s, la_s, wp_iconst, wp_bipush, wp_sipush, wp_ldc, wp_iload, wp_iload_n, wp_aload, wp_aload_n, wp_istore, wp_istore_n, wp_astore, wp_astore_n, wp_iinc, wp_iadd, wp_isub, wp_imul, wp_iand, wp_irem, wp_dup, wp_pop, wp_goto, wp_if, wp_icmp, wp_ifnull, wp_tsw, wp_get0, wp_get2, wp_get1, wp_put0, wp_put2, wp_put1, wp_iald, wp_sald, wp_iast, wp_bald, wp_bast, wp_aald, wp_aast, wp_alen, wp_slen, wp_new, wp_newa, wp_newq, wp_cast, wp_oinit, wp_clone, wp_copy, wp_callI0, wp_callI1, wp_callI2, wp_callI3, wp_callI4, wp_callI5, wp_callV0, wp_callV1, wp_callV2, wp_callV3, wp_callV4, wp_callV5, wp_callS0, wp_callS1, wp_callS2, wp_callS3, wp_callS4, wp_iret0, wp_iret1, wp_aret, wp_ret, lg_0, lg_1, lg_2, lg_3, lg_4, lg_5, lg_6, lg_7, ls_0, ls_1, ls_2, ls_3, ls_4, ls_5, ls_6, ls_7, oi_m1, oi_0, oi_1, oi_2, oi_3, oi_4, oi_5, bp_6, bp_7, bp_8, bp_9, bp_15, bp_17, bp_18, bp_20, bp_21, bp_24, bp_36, bp_48, bp_50, bp_60, bp_61, sp_1281, sp_9999, lc_100000, lc_1000000, cc_eq, cc_ne, cc_lt, cc_ge, cc_gt, cc_le, z_or0, z_or1, true_and, and_true, Classical.not_not, Option.toList_none, Option.toList_some, List.cons_append, List.nil_append, List.length_cons, List.length_nil, Nat.reduceAdd, Nat.reduceEqDiff, Nat.reduceLeDiff, Nat.zero_le, not_false_eq_true, cB_iv, cB_rv, cB_wi, cB_wr, cB_kd, cB_ln, cB_sz, s_2, s_3, s_4, s_4l, s_255, s_255l, s_256, s_256l, s_311, s_311l, f_21, f_22, f_23, f_24, f_30, hs, hf, cl_K_isNode, c_K_isNode_y hx6, hF.1, cl_H_has, c_H_has hF, if_neg b2]
        simp (disch := omega) only [nI_add, pk_mul, pk_sub, nI_clamp, cin, nI_leI, nI_ltI, nI_eq, m1_lt, m1_le, nle_m1, nlt_m1, neq_m1, m1_neq, m1_add, sw_row, sw_eq, sw_ne, rCopyK_row, rTakeM_row, rShift_row, rPsh_row, Nat.reduceAdd, Nat.reduceMul, Nat.reduceSub, Nat.reduceLeDiff, Nat.reduceEqDiff, true_and, and_true, Classical.not_not, implies_true, true_implies, forall_const, f_n hf hx6, s_n hs hx6, p1]
        simp [n10', b3]
  · simp only [j_K_detect_0, j_K_detect_37, e_K_detect_0, e_K_detect_1, e_K_detect_4, e_K_detect_7, e_K_detect_8, e_K_detect_11, e_K_detect_12, e_K_detect_15, e_K_detect_18, e_K_detect_19, e_K_detect_22, e_K_detect_23, e_K_detect_24, e_K_detect_27, e_K_detect_30, e_K_detect_31, e_K_detect_34, e_K_detect_37, e_K_detect_38, e_K_detect_40, e_K_detect_41, e_K_detect_44, e_K_detect_45, e_K_detect_48, e_K_detect_51, e_K_detect_52, e_K_detect_55, e_K_detect_56, li_s, la_s, wp_iconst, wp_bipush, wp_sipush, wp_ldc, wp_iload, wp_iload_n, wp_aload, wp_aload_n, wp_istore, wp_istore_n, wp_astore, wp_astore_n, wp_iinc, wp_iadd, wp_isub, wp_imul, wp_iand, wp_irem, wp_dup, wp_pop, wp_goto, wp_if, wp_icmp, wp_ifnull, wp_tsw, wp_get0, wp_get2, wp_get1, wp_put0, wp_put2, wp_put1, wp_iald, wp_sald, wp_iast, wp_bald, wp_bast, wp_aald, wp_aast, wp_alen, wp_slen, wp_new, wp_newa, wp_newq, wp_cast, wp_oinit, wp_clone, wp_copy, wp_callI0, wp_callI1, wp_callI2, wp_callI3, wp_callI4, wp_callI5, wp_callV0, wp_callV1, wp_callV2, wp_callV3, wp_callV4, wp_callV5, wp_callS0, wp_callS1, wp_callS2, wp_callS3, wp_callS4, wp_iret0, wp_iret1, wp_aret, wp_ret, lg_0, lg_1, lg_2, lg_3, lg_4, lg_5, lg_6, lg_7, ls_0, ls_1, ls_2, ls_3, ls_4, ls_5, ls_6, ls_7, oi_m1, oi_0, oi_1, oi_2, oi_3, oi_4, oi_5, bp_6, bp_7, bp_8, bp_9, bp_15, bp_17, bp_18, bp_20, bp_21, bp_24, bp_36, bp_48, bp_50, bp_60, bp_61, sp_1281, sp_9999, lc_100000, lc_1000000, cc_eq, cc_ne, cc_lt, cc_ge, cc_gt, cc_le, z_or0, z_or1, true_and, and_true, Classical.not_not, Option.toList_none, Option.toList_some, List.cons_append, List.nil_append, List.length_cons, List.length_nil, Nat.reduceAdd, Nat.reduceEqDiff, Nat.reduceLeDiff, Nat.zero_le, not_false_eq_true, cB_iv, cB_rv, cB_wi, cB_wr, cB_kd, cB_ln, cB_sz, s_2, s_3, s_4, s_4l, s_255, s_255l, s_256, s_256l, s_311, s_311l, f_21, f_22, f_23, f_24, f_30, cl_K_isNode, c_K_isNode_n b]
    simp
end C29
