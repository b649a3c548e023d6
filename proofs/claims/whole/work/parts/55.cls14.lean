/-! ### the class: a node takes a configuration -/
theorem rCfgJ_eq {S : Nat → Nat → Int32} {x y : Nat} (hy : ¬ y = x) : nEq S (rCfgJ S x) y := by
  have e : ∀ i, i < 6 → rCfgJ S x 325 (6 * y + i) = S 325 (6 * y + i) := fun i hi => by
    unfold rCfgJ rCfg
    rw [if_neg (fun q => by omega)]
    rw [sw_row (by omega), sw_row (by omega)]
  have r : ∀ b, ¬ b = 325 → rCfgJ S x b = (sw (sw S 323 x (S 317 2)) 324 x (S 317 8)) b := fun b hb => by unfold rCfgJ; rw [rCfg_row hb]
  refine ⟨?_, e, fun q hq => ?_, fun q hq => ?_, fun i hi => ?_⟩
  · rw [r _ (by omega), r _ (by omega), r _ (by omega), r _ (by omega), r _ (by omega), r _ (by omega), r _ (by omega)]
    simp (disch := omega) only [nI_add, pk_mul, pk_sub, nI_clamp, cin, nI_leI, nI_ltI, nI_eq, m1_lt, m1_le, nle_m1, nlt_m1, neq_m1, m1_neq, m1_add, sw_row, sw_eq, sw_ne, rCopyK_row, rTakeM_row, rShift_row, rPsh_row, Nat.reduceAdd, Nat.reduceMul, Nat.reduceSub, Nat.reduceLeDiff, Nat.reduceEqDiff, true_and, and_true, Classical.not_not, implies_true, true_implies, forall_const]
  · rw [r _ (by omega), r _ (by omega)]
    simp (disch := omega) only [nI_add, pk_mul, pk_sub, nI_clamp, cin, nI_leI, nI_ltI, nI_eq, m1_lt, m1_le, nle_m1, nlt_m1, neq_m1, m1_neq, m1_add, sw_row, sw_eq, sw_ne, rCopyK_row, rTakeM_row, rShift_row, rPsh_row, Nat.reduceAdd, Nat.reduceMul, Nat.reduceSub, Nat.reduceLeDiff, Nat.reduceEqDiff, true_and, and_true, Classical.not_not, implies_true, true_implies, forall_const]
  · rw [r _ (by omega), r _ (by omega)]
    simp (disch := omega) only [nI_add, pk_mul, pk_sub, nI_clamp, cin, nI_leI, nI_ltI, nI_eq, m1_lt, m1_le, nle_m1, nlt_m1, neq_m1, m1_neq, m1_add, sw_row, sw_eq, sw_ne, rCopyK_row, rTakeM_row, rShift_row, rPsh_row, Nat.reduceAdd, Nat.reduceMul, Nat.reduceSub, Nat.reduceLeDiff, Nat.reduceEqDiff, true_and, and_true, Classical.not_not, implies_true, true_implies, forall_const]
  · rw [r _ (by omega), r _ (by omega), r _ (by omega), r _ (by omega)]
    simp (disch := omega) only [nI_add, pk_mul, pk_sub, nI_clamp, cin, nI_leI, nI_ltI, nI_eq, m1_lt, m1_le, nle_m1, nlt_m1, neq_m1, m1_neq, m1_add, sw_row, sw_eq, sw_ne, rCopyK_row, rTakeM_row, rShift_row, rPsh_row, Nat.reduceAdd, Nat.reduceMul, Nat.reduceSub, Nat.reduceLeDiff, Nat.reduceEqDiff, true_and, and_true, Classical.not_not, implies_true, true_implies, forall_const]
theorem rCfgJ_23 {S : Nat → Nat → Int32} {x : Nat} : rCfgJ S x 323 x = S 317 2 := by
  unfold rCfgJ; rw [rCfg_row (by omega), sw_row (by omega), sw_eq]
theorem rCfgJ_24 {S : Nat → Nat → Int32} {x : Nat} : rCfgJ S x 324 x = S 317 8 := by
  unfold rCfgJ; rw [rCfg_row (by omega), sw_eq]
theorem rCfgJ_25 {S : Nat → Nat → Int32} {x i : Nat} (hi : i < 6) : rCfgJ S x 325 (6 * x + i) = S 317 (9 + i) := by
  unfold rCfgJ rCfg
  rw [if_pos ⟨rfl, by omega, by omega⟩, sw_row (by omega), sw_row (by omega), show 9 + (6 * x + i - 6 * x) = 9 + i by omega]
theorem rCfgJ_nd {S : Nat → Nat → Int32} {x a l n n2 : Nat} (h : rNd S x a l n) (hn2 : n2 ≤ 6) (e8 : S 317 8 = nI n2) : rNd (rCfgJ S x) x a l n2 := by
  obtain ⟨hx, hn6, h1, h2, h3, h4, h5, h6, h7⟩ := h
  exact ⟨hx, hn2, rCfgJ_24.trans e8, by rw [rCfgJ_row (by omega)]; exact h2, by rw [rCfgJ_row (by omega)]; exact h3, h4, h5, h6, fun i hi => by rw [rCfgJ_row (by omega), rCfgJ_row (by omega)]; exact h7 i hi⟩
theorem rCfgJ_ndA {S : Nat → Nat → Int32} {x a l n n2 : Nat} (h : ndA S) (hnd : rNd S x a l n) (hn2 : n2 ≤ 6) (e8 : S 317 8 = nI n2) : ndA (rCfgJ S x) := fun y hy => by
  by_cases hyx : y = x
  · subst hyx; exact ⟨a, l, n2, rCfgJ_nd hnd hn2 e8⟩
  · obtain ⟨a', l', n', h'⟩ := h y hy
    exact ⟨a', l', n', rNd_eq h' (rCfgJ_eq hyx)⟩
/-- it ends, and class and reference stand alike again: references may have changed -/
def kP (xl : Nat) (xs : Nat → Int32) (D y : Nat) (L : ck_L) (M : ck_M) (R : Nat → Nat → Nat) (I T : Nat → Nat → Int32) : Prop := ∃ J P m, cRel M T J P m ∧ (∀ a, 315 ≤ a → a ≤ 344 → J a = I a) ∧ (∀ a, 315 ≤ a → P a = R a) ∧ ∀ Q : Option ck_V → ck_M → Prop, ck_Ev ck_P xl xs D y 0 L [] (cB M I R) Q = Q none (cB M J P)
theorem kP_of {xl : Nat} {xs : Nat → Int32} {D y : Nat} {L : ck_L} {M : ck_M} {R : Nat → Nat → Nat} {I T : Nat → Nat → Int32} (h : kO xl xs D y L M R I T) : kP xl xs D y L M R I T := by
  obtain ⟨J, m, h1, h2, h3⟩ := h
  exact ⟨J, R, m, h1, h2.1, fun _ _ => rfl, h3⟩
section C14
variable {xl : Nat} {xs : Nat → Int32} {d : Nat} {M : ck_M} {R : Nat → Nat → Nat} {S I T : Nat → Nat → Int32} {n x a l n' n2 q : Nat}
theorem lnJ_row {b : Nat} (h : ¬ b = 257 + 9 * x) : lnJ I T x b = I b := by
  unfold lnJ; rw [sw_row h, sw_row h, sw_row h]
theorem lnJ_ne {j : Nat} (h : ¬ (j = 5 ∨ j = 6 ∨ j = 7)) : lnJ I T x (257 + 9 * x) j = I (257 + 9 * x) j := by
  unfold lnJ; rw [sw_ne (by omega), sw_ne (by omega), sw_ne (by omega)]
theorem lnJ_5 : lnJ I T x (257 + 9 * x) 5 = rBef T x := by unfold lnJ; rw [sw_ne (by omega), sw_ne (by omega), sw_eq]
theorem lnJ_6 : lnJ I T x (257 + 9 * x) 6 = rBeh T x := by unfold lnJ; rw [sw_ne (by omega), sw_eq]
theorem lnJ_7 : lnJ I T x (257 + 9 * x) 7 = if rTl T x then nI 1 else nI 0 := by unfold lnJ; rw [sw_eq]
theorem k_learn (h : cRel M S I R n) (hnds : ndA S) (hnd : rNd S x a l n') (hn2 : n2 ≤ 6) (e8 : S 317 8 = nI n2) (pcm : chRel M I R q (S 317 2) (S 317 8) (fun i => S 317 (9 + i))) : cRel M (rCfgJ S x) (lnJ I (rCfgJ S x) x) (swR R (257 + 9 * x) 4 q) n := by
  obtain ⟨hx, hn6, h1, h2, h3, h4, h5, h6, h7⟩ := id hnd
  obtain ⟨hs, hf, ⟨w1, w2, w3, ⟨w4, w5, w6, w7⟩, w8⟩, hn, hc, hk⟩ := id h
  obtain ⟨⟨p0, p1, p2, p3⟩, pc, ⟨p5, p6, p7⟩, ⟨p8, p9⟩, pk, pt, pp⟩ := hn x hx
  refine rel_node h hx hnds (fun b hb => rCfgJ_row (by omega)) (fun y hy hne => rCfgJ_eq hne) (fun b hb => lnJ_row (by omega)) (fun b hb => swR_row hb) (fun j hj => swR_ne hj) ?_
  have ea : aN (rCfgJ S x) x = aN S x := by unfold aN; rw [rCfgJ_row (by omega)]
  have el : lN' (rCfgJ S x) x = lN' S x := by unfold lN'; rw [rCfgJ_row (by omega)]
  unfold nRel
  rw [ea, el, swR_eq, rCfgJ_23, rCfgJ_24, lnJ_5, lnJ_6, lnJ_7, lnJ_ne (by omega), lnJ_ne (by omega), lnJ_ne (by omega), lnJ_ne (by omega), lnJ_ne (by omega), lnJ_ne (by omega), lnJ_row (by omega), lnJ_row (by omega), lnJ_row (by omega), lnJ_row (by omega), lnJ_row (by omega), lnJ_row (by omega), lnJ_row (by omega), lnJ_row (by omega)]
  rw [rCfgJ_row (show ¬ (320 = 323 ∨ 320 = 324 ∨ 320 = 325) by omega), rCfgJ_row (show ¬ (321 = 323 ∨ 321 = 324 ∨ 321 = 325) by omega), rCfgJ_row (show ¬ (322 = 323 ∨ 322 = 324 ∨ 322 = 325) by omega), rCfgJ_row (show ¬ (326 = 323 ∨ 326 = 324 ∨ 326 = 325) by omega), rCfgJ_row (show ¬ (327 = 323 ∨ 327 = 324 ∨ 327 = 325) by omega), rCfgJ_row (show ¬ (328 = 323 ∨ 328 = 324 ∨ 328 = 325) by omega), rCfgJ_row (show ¬ (329 = 323 ∨ 329 = 324 ∨ 329 = 325) by omega), rCfgJ_row (show ¬ (330 = 323 ∨ 330 = 324 ∨ 330 = 325) by omega), rCfgJ_row (show ¬ (331 = 323 ∨ 331 = 324 ∨ 331 = 325) by omega), rCfgJ_row (show ¬ (332 = 323 ∨ 332 = 324 ∨ 332 = 325) by omega), rCfgJ_row (show ¬ (333 = 323 ∨ 333 = 324 ∨ 333 = 325) by omega), rCfgJ_row (show ¬ (334 = 323 ∨ 334 = 324 ∨ 334 = 325) by omega), rCfgJ_row (show ¬ (335 = 323 ∨ 335 = 324 ∨ 335 = 325) by omega)]
  exact ⟨⟨p0, p1, p2, p3⟩, chRel_g (chRel_of pcm (fun b hb => lnJ_row (by unfold chR at hb; omega)) (fun b hb => swR_row (by unfold chR at hb; omega))) rfl rfl (fun i hi => rCfgJ_25 hi), ⟨rfl, rfl, rfl⟩, ⟨p8, p9⟩, pk, pt, pp⟩
end C14
