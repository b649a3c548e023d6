/-! ### the class: commit -/
/-- all nodes stand well -/
def ndA (S : Nat → Nat → Int32) : Prop := ∀ y, y < 6 → ∃ a l n, rNd S y a l n
theorem ndA_of {S T : Nat → Nat → Int32} (h : ndA S) (h1 : T 324 = S 324) (h2 : T 326 = S 326) (h3 : T 327 = S 327) (h4 : T 332 = S 332) (h5 : T 334 = S 334) : ndA T := fun y hy => by
  obtain ⟨a, l, n, h⟩ := h y hy
  exact ⟨a, l, n, rNd_of h h1 h2 h3 h4 h5⟩
theorem rNd_eq {S T : Nat → Nat → Int32} {y a l n : Nat} (h : rNd S y a l n) (hE : nEq S T y) : rNd T y a l n := by
  obtain ⟨hx, hn, h1, h2, h3, h4, h5, h6, h7⟩ := h
  obtain ⟨⟨q0, q1, q2, q3, q4, q6, q7⟩, q5, q8, q9, q10⟩ := hE
  exact ⟨hx, hn, by rw [q4]; exact h1, by rw [q7]; exact h2, by rw [q6]; exact h3, h4, h5, h6, fun i hi => by
    obtain ⟨z1, z2, z3, z4⟩ := q10 i (by omega)
    rw [z1, z3]; exact h7 i hi⟩
theorem rCmJ_eq {S : Nat → Nat → Int32} {x a k c y : Nat} (hk : k < 4) (ek : S 332 (8 * x) = nI k) (hc : c < 3) (ec : S 334 (8 * x) = nI c) (hy : ¬ y = x) : nEq S (rCmJ S x a) y := by
  unfold rCmJ
  rw [ek, ec, nI_clamp (show k < 2 ^ 31 by omega), nI_clamp (show c < 2 ^ 31 by omega)]
  have hp : ∀ b i, i < 8 → rPsh (sw (sw (sw (sw S 327 x (nI (a + 1))) 328 (4 * x + k) (nI (a + 1))) 329 (4 * x + k) (S 333 (8 * x))) 331 (3 * x + c) (S 335 (8 * x))) x 7 b (8 * y + i) = (sw (sw (sw (sw S 327 x (nI (a + 1))) 328 (4 * x + k) (nI (a + 1))) 329 (4 * x + k) (S 333 (8 * x))) 331 (3 * x + c) (S 335 (8 * x))) b (8 * y + i) := fun b i hi => if_neg (fun q => by omega)
  refine ⟨?_, fun i hi => ?_, fun q hq => ?_, fun q hq => ?_, fun i hi => ?_⟩
  · simp (disch := omega) only [nI_add, pk_mul, pk_sub, nI_clamp, cin, nI_leI, nI_ltI, nI_eq, m1_lt, m1_le, nle_m1, nlt_m1, neq_m1, m1_neq, m1_add, sw_row, sw_eq, sw_ne, rCopyK_row, rTakeM_row, rShift_row, rPsh_row, Nat.reduceAdd, Nat.reduceMul, Nat.reduceSub, Nat.reduceLeDiff, Nat.reduceEqDiff, true_and, and_true, Classical.not_not, implies_true, true_implies, forall_const]
  · simp (disch := omega) only [nI_add, pk_mul, pk_sub, nI_clamp, cin, nI_leI, nI_ltI, nI_eq, m1_lt, m1_le, nle_m1, nlt_m1, neq_m1, m1_neq, m1_add, sw_row, sw_eq, sw_ne, rCopyK_row, rTakeM_row, rShift_row, rPsh_row, Nat.reduceAdd, Nat.reduceMul, Nat.reduceSub, Nat.reduceLeDiff, Nat.reduceEqDiff, true_and, and_true, Classical.not_not, implies_true, true_implies, forall_const]
  · simp (disch := omega) only [nI_add, pk_mul, pk_sub, nI_clamp, cin, nI_leI, nI_ltI, nI_eq, m1_lt, m1_le, nle_m1, nlt_m1, neq_m1, m1_neq, m1_add, sw_row, sw_eq, sw_ne, rCopyK_row, rTakeM_row, rShift_row, rPsh_row, Nat.reduceAdd, Nat.reduceMul, Nat.reduceSub, Nat.reduceLeDiff, Nat.reduceEqDiff, true_and, and_true, Classical.not_not, implies_true, true_implies, forall_const]
  · simp (disch := omega) only [nI_add, pk_mul, pk_sub, nI_clamp, cin, nI_leI, nI_ltI, nI_eq, m1_lt, m1_le, nle_m1, nlt_m1, neq_m1, m1_neq, m1_add, sw_row, sw_eq, sw_ne, rCopyK_row, rTakeM_row, rShift_row, rPsh_row, Nat.reduceAdd, Nat.reduceMul, Nat.reduceSub, Nat.reduceLeDiff, Nat.reduceEqDiff, true_and, and_true, Classical.not_not, implies_true, true_implies, forall_const]
  · rw [hp _ _ hi, hp _ _ hi, hp _ _ hi, hp _ _ hi]
    simp (disch := omega) only [nI_add, pk_mul, pk_sub, nI_clamp, cin, nI_leI, nI_ltI, nI_eq, m1_lt, m1_le, nle_m1, nlt_m1, neq_m1, m1_neq, m1_add, sw_row, sw_eq, sw_ne, rCopyK_row, rTakeM_row, rShift_row, rPsh_row, Nat.reduceAdd, Nat.reduceMul, Nat.reduceSub, Nat.reduceLeDiff, Nat.reduceEqDiff, true_and, and_true, Classical.not_not, implies_true, true_implies, forall_const]
section C7
variable {xl : Nat} {xs : Nat → Int32} {d : Nat} {M : ck_M} {R : Nat → Nat → Nat}
theorem rCmJ_nd {S : Nat → Nat → Int32} {x a l n : Nat} (h : rNd S x a l n) (hal : a < l) : rNd (rCmJ S x a) x (a + 1) l n := by
  obtain ⟨hx, hn, h1, h2, h3, h4, h5, h6, h7⟩ := h
  refine ⟨hx, hn, by rw [rCmJ_row (by omega)]; exact h1, ?_, by rw [rCmJ_row (by omega)]; exact h3, by omega, by omega, h6, fun i hi => ?_⟩
  · unfold rCmJ; rw [rPsh_row (by omega), sw_row (by omega), sw_row (by omega), sw_row (by omega), sw_eq]
  · have e32 : rCmJ S x a 332 (8 * x + i) = S 332 (8 * x + (i + 1)) := by
      unfold rCmJ
      rw [rPsh_in (by omega), sw_row (by omega), sw_row (by omega), sw_row (by omega), sw_row (by omega)]; rfl
    have e34 : rCmJ S x a 334 (8 * x + i) = S 334 (8 * x + (i + 1)) := by
      unfold rCmJ
      rw [rPsh_in (by omega), sw_row (by omega), sw_row (by omega), sw_row (by omega), sw_row (by omega)]; rfl
    rw [e32, e34]
    exact h7 (i + 1) (by omega)
/-- one update committed: the class's cells -/
theorem k_cm {S I : Nat → Nat → Int32} {n x a l n' k c : Nat} (h : cRel M S I R n) (hnds : ndA S) (hnd : rNd S x a l n') (hal : a < l) (hk : k < 4) (ek : S 332 (8 * x) = nI k) (hc : c < 3) (ec : S 334 (8 * x) = nI c) : cRel M (rCmJ S x a) (sw (sw (sw (sw I (257 + 9 * x + 1) k (nI (a + 1))) (257 + 9 * x + 2) k (S 333 (8 * x))) (257 + 9 * x + 8) c (S 335 (8 * x))) (257 + 9 * x) 9 (nI (a + 1))) R n := by
  obtain ⟨hx, hn6, h1, h2, h3, h4, h5, h6, h7⟩ := id hnd
  obtain ⟨-, -, -, hn, -⟩ := id h
  obtain ⟨⟨p0, p1, p2, p3⟩, pc, ⟨p5, p6, p7⟩, ⟨p8, p9⟩, pk, pt, pp⟩ := hn x hx
  have hnd2 := rCmJ_nd hnd hal
  have ea : aN S x = a := by unfold aN; rw [h2, nI_clamp (by omega)]
  have el : lN' S x = l := by unfold lN'; rw [h3, nI_clamp (by omega)]
  have ea2 : aN (rCmJ S x a) x = a + 1 := by unfold aN; rw [hnd2.2.2.2.1, nI_clamp (by omega)]
  have el2 : lN' (rCmJ S x a) x = l := by unfold lN'; rw [hnd2.2.2.2.2.1, nI_clamp (by omega)]
  rw [ea, el] at pp
  refine rel_node h hx hnds (fun b hb => rCmJ_row (by omega)) (fun y hy hne => rCmJ_eq hk ek hc ec hne) (fun b hb => by simp (disch := omega) only [nI_add, pk_mul, pk_sub, nI_clamp, cin, nI_leI, nI_ltI, nI_eq, m1_lt, m1_le, nle_m1, nlt_m1, neq_m1, m1_neq, m1_add, sw_row, sw_eq, sw_ne, rCopyK_row, rTakeM_row, rShift_row, rPsh_row, Nat.reduceAdd, Nat.reduceMul, Nat.reduceSub, Nat.reduceLeDiff, Nat.reduceEqDiff, true_and, and_true, Classical.not_not, implies_true, true_implies, forall_const]) (fun _ _ => rfl) (fun _ _ => rfl) ?_
  have ej : ∀ b j, ¬ (332 ≤ b ∧ b ≤ 335) → rCmJ S x a b j = (sw (sw (sw (sw S 327 x (nI (a + 1))) 328 (4 * x + k) (nI (a + 1))) 329 (4 * x + k) (S 333 (8 * x))) 331 (3 * x + c) (S 335 (8 * x))) b j := fun b j hb => by
    unfold rCmJ
    rw [ek, ec, nI_clamp (show k < 2 ^ 31 by omega), nI_clamp (show c < 2 ^ 31 by omega), rPsh_row hb]
  have es : ∀ b i, 332 ≤ b → b ≤ 335 → i < 7 → rCmJ S x a b (8 * x + i) = S b (8 * x + (i + 1)) := fun b i h1 h2 hi => by
    unfold rCmJ
    rw [rPsh_in (by omega), sw_row (by omega), sw_row (by omega), sw_row (by omega), sw_row (by omega)]; rfl
  unfold nRel
  rw [ea2, el2, rBef_of (I := S) (rCmJ_row (by omega)) (rCmJ_row (by omega)), rBeh_of (I := S) (rCmJ_row (by omega)) (rCmJ_row (by omega)), rTl_of (I := S) (rCmJ_row (by omega)) (rCmJ_row (by omega))]
  refine ⟨?_, ?_, ?_, ?_, fun j hj => ?_, fun j hj => ?_, fun i hi => ?_⟩
  · rw [ej _ _ (by omega), ej _ _ (by omega), ej _ _ (by omega)]
    simp (disch := omega) only [nI_add, pk_mul, pk_sub, nI_clamp, cin, nI_leI, nI_ltI, nI_eq, m1_lt, m1_le, nle_m1, nlt_m1, neq_m1, m1_neq, m1_add, sw_row, sw_eq, sw_ne, rCopyK_row, rTakeM_row, rShift_row, rPsh_row, Nat.reduceAdd, Nat.reduceMul, Nat.reduceSub, Nat.reduceLeDiff, Nat.reduceEqDiff, true_and, and_true, Classical.not_not, implies_true, true_implies, forall_const]
    exact ⟨p0, p1, p2, p3⟩
  · rw [ej 323 _ (by omega), ej 324 _ (by omega), rCmJ_row (show ¬ (325 = 327 ∨ 325 = 328 ∨ 325 = 329 ∨ 325 = 331 ∨ 325 = 332 ∨ 325 = 333 ∨ 325 = 334 ∨ 325 = 335) by omega)]
    simp (disch := omega) only [nI_add, pk_mul, pk_sub, nI_clamp, cin, nI_leI, nI_ltI, nI_eq, m1_lt, m1_le, nle_m1, nlt_m1, neq_m1, m1_neq, m1_add, sw_row, sw_eq, sw_ne, rCopyK_row, rTakeM_row, rShift_row, rPsh_row, Nat.reduceAdd, Nat.reduceMul, Nat.reduceSub, Nat.reduceLeDiff, Nat.reduceEqDiff, true_and, and_true, Classical.not_not, implies_true, true_implies, forall_const]
    exact chRel_of pc (fun b hb => by unfold chR at hb; simp (disch := omega) only [nI_add, pk_mul, pk_sub, nI_clamp, cin, nI_leI, nI_ltI, nI_eq, m1_lt, m1_le, nle_m1, nlt_m1, neq_m1, m1_neq, m1_add, sw_row, sw_eq, sw_ne, rCopyK_row, rTakeM_row, rShift_row, rPsh_row, Nat.reduceAdd, Nat.reduceMul, Nat.reduceSub, Nat.reduceLeDiff, Nat.reduceEqDiff, true_and, and_true, Classical.not_not, implies_true, true_implies, forall_const]) (fun _ _ => rfl)
  · simp (disch := omega) only [nI_add, pk_mul, pk_sub, nI_clamp, cin, nI_leI, nI_ltI, nI_eq, m1_lt, m1_le, nle_m1, nlt_m1, neq_m1, m1_neq, m1_add, sw_row, sw_eq, sw_ne, rCopyK_row, rTakeM_row, rShift_row, rPsh_row, Nat.reduceAdd, Nat.reduceMul, Nat.reduceSub, Nat.reduceLeDiff, Nat.reduceEqDiff, true_and, and_true, Classical.not_not, implies_true, true_implies, forall_const]
    exact ⟨p5, p6, p7⟩
  · rw [ej 326 _ (by omega), ej 327 _ (by omega)]
    simp (disch := omega) only [nI_add, pk_mul, pk_sub, nI_clamp, cin, nI_leI, nI_ltI, nI_eq, m1_lt, m1_le, nle_m1, nlt_m1, neq_m1, m1_neq, m1_add, sw_row, sw_eq, sw_ne, rCopyK_row, rTakeM_row, rShift_row, rPsh_row, Nat.reduceAdd, Nat.reduceMul, Nat.reduceSub, Nat.reduceLeDiff, Nat.reduceEqDiff, true_and, and_true, Classical.not_not, implies_true, true_implies, forall_const]
    exact p8
  · rw [ej 328 _ (by omega), ej 329 _ (by omega)]
    have := pk j hj
    by_cases hjk : j = k
    · subst hjk
      simp (disch := omega) only [nI_add, pk_mul, pk_sub, nI_clamp, cin, nI_leI, nI_ltI, nI_eq, m1_lt, m1_le, nle_m1, nlt_m1, neq_m1, m1_neq, m1_add, sw_row, sw_eq, sw_ne, rCopyK_row, rTakeM_row, rShift_row, rPsh_row, Nat.reduceAdd, Nat.reduceMul, Nat.reduceSub, Nat.reduceLeDiff, Nat.reduceEqDiff, true_and, and_true, Classical.not_not, implies_true, true_implies, forall_const]
    · simp (disch := omega) only [nI_add, pk_mul, pk_sub, nI_clamp, cin, nI_leI, nI_ltI, nI_eq, m1_lt, m1_le, nle_m1, nlt_m1, neq_m1, m1_neq, m1_add, sw_row, sw_eq, sw_ne, rCopyK_row, rTakeM_row, rShift_row, rPsh_row, Nat.reduceAdd, Nat.reduceMul, Nat.reduceSub, Nat.reduceLeDiff, Nat.reduceEqDiff, true_and, and_true, Classical.not_not, implies_true, true_implies, forall_const]
      exact this
  · rw [ej 330 _ (by omega), ej 331 _ (by omega)]
    have := pt j hj
    by_cases hjc : j = c
    · subst hjc
      simp (disch := omega) only [nI_add, pk_mul, pk_sub, nI_clamp, cin, nI_leI, nI_ltI, nI_eq, m1_lt, m1_le, nle_m1, nlt_m1, neq_m1, m1_neq, m1_add, sw_row, sw_eq, sw_ne, rCopyK_row, rTakeM_row, rShift_row, rPsh_row, Nat.reduceAdd, Nat.reduceMul, Nat.reduceSub, Nat.reduceLeDiff, Nat.reduceEqDiff, true_and, and_true, Classical.not_not, implies_true, true_implies, forall_const]
      exact this.1
    · simp (disch := omega) only [nI_add, pk_mul, pk_sub, nI_clamp, cin, nI_leI, nI_ltI, nI_eq, m1_lt, m1_le, nle_m1, nlt_m1, neq_m1, m1_neq, m1_add, sw_row, sw_eq, sw_ne, rCopyK_row, rTakeM_row, rShift_row, rPsh_row, Nat.reduceAdd, Nat.reduceMul, Nat.reduceSub, Nat.reduceLeDiff, Nat.reduceEqDiff, true_and, and_true, Classical.not_not, implies_true, true_implies, forall_const]
      exact this
  · rw [es 332 _ (by omega) (by omega) (by omega), es 333 _ (by omega) (by omega) (by omega), es 334 _ (by omega) (by omega) (by omega), es 335 _ (by omega) (by omega) (by omega)]
    have := pp (i + 1) (by omega)
    rw [show a + 1 + (i + 1) = a + 1 + 1 + i by omega] at this
    simp (disch := omega) only [nI_add, pk_mul, pk_sub, nI_clamp, cin, nI_leI, nI_ltI, nI_eq, m1_lt, m1_le, nle_m1, nlt_m1, neq_m1, m1_neq, m1_add, sw_row, sw_eq, sw_ne, rCopyK_row, rTakeM_row, rShift_row, rPsh_row, Nat.reduceAdd, Nat.reduceMul, Nat.reduceSub, Nat.reduceLeDiff, Nat.reduceEqDiff, true_and, and_true, Classical.not_not, implies_true, true_implies, forall_const]
    exact this
end C7
