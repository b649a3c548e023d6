/-! ### the invariant: what is sent, what is taken -/
section I2
variable {L : Nat → Nat} {C : Nat → Nat → Int32} {E B : Nat} {S T : Nat → Nat → Int32} {n x y a l n' k c : Nat} {f g : Nat → Int32}
theorem nK {k j : Nat} (hk : k < 100) (hj : j < 100) (h : ¬ k = j) {P : Prop} (e : nI k = nI j) : P := absurd ((nI_eq (by omega) (by omega)).mp e) h
theorem gI_4 (h0 : f 0 = nI 4) (hy : y < 6) (h1 : f 1 = nI y) : gI L C E B f := by
  refine ⟨⟨4, by omega, by omega, h0, fun q => by omega, fun _ => ⟨y, hy, h1⟩, fun q => by omega, fun q => by omega, fun q => by omega⟩, fun q => ?_, fun q => ?_, fun q => ?_⟩ <;> exact nK (by omega) (by omega) (by omega) (h0.symm.trans q)
theorem gI_7 (h0 : f 0 = nI 7) (hc : c < 3) (h1 : f 1 = nI c) : gI L C E B f := by
  refine ⟨⟨7, by omega, by omega, h0, fun _ => ⟨c, hc, h1⟩, fun q => absurd rfl q, fun q => by omega, fun q => by omega, fun q => by omega⟩, fun q => ?_, fun q => ?_, fun q => ?_⟩ <;> exact nK (by omega) (by omega) (by omega) (h0.symm.trans q)
theorem gI_c {kd : Nat} (hkd : kd = 1 ∨ kd = 2 ∨ kd = 6) (h0 : f 0 = nI kd) (hy : y < 6) (h1 : f 1 = nI y) (hk : k < 4) (h5 : f 5 = nI k) (hc : c < 3) (h4 : f 4 = nI c) : gI L C E B f := by
  refine ⟨⟨kd, by omega, by omega, h0, fun q => by omega, fun _ => ⟨y, hy, h1⟩, fun _ => ⟨⟨k, hk, h5⟩, c, hc, h4⟩, fun q => by omega, fun q => by omega⟩, fun q => ?_, fun q => ?_, fun q => ?_⟩ <;> exact nK (by omega) (by omega) (by omega) (h0.symm.trans q)
theorem gI_5 {z : Nat} (h0 : f 0 = nI 5) (hy : y < 6) (h1 : f 1 = nI y) (hk : k < 4) (h5 : f 5 = nI k) (hc : c < 3) (h4 : f 4 = nI c) (hz : z < 6) (h8 : f 8 = nI z) : gI L C E B f :=
  ⟨⟨5, by omega, by omega, h0, fun q => by omega, fun _ => ⟨y, hy, h1⟩, fun _ => ⟨⟨k, hk, h5⟩, c, hc, h4⟩, fun q => by omega, fun q => by omega⟩, fun q => nK (by omega) (by omega) (by omega) (h0.symm.trans q), fun q => nK (by omega) (by omega) (by omega) (h0.symm.trans q), fun _ => ⟨z, hz, h8⟩⟩
theorem gI_3 {e j : Nat} (h0 : f 0 = nI 3) (hy : y < 6) (h1 : f 1 = nI y) (hk : k < 4) (h5 : f 5 = nI k) (hc : c < 3) (h4 : f 4 = nI c) (he : e ≤ E) (h2 : f 2 = nI e) (hj : j < L e) (hC : f 1 = C e j) : gI L C E B f :=
  ⟨⟨3, by omega, by omega, h0, fun q => by omega, fun _ => ⟨y, hy, h1⟩, fun _ => ⟨⟨k, hk, h5⟩, c, hc, h4⟩, fun q => by omega, fun q => by omega⟩, fun _ => ⟨e, he, h2, j, hj, hC⟩, fun q => nK (by omega) (by omega) (by omega) (h0.symm.trans q), fun q => nK (by omega) (by omega) (by omega) (h0.symm.trans q)⟩
theorem gI_9 {v : Nat} (h0 : f 0 = nI 9) (hy : y < 6) (h1 : f 1 = nI y) (hv : v ≤ B) (h7 : f 7 = nI v) : gI L C E B f := by
  refine ⟨⟨9, by omega, by omega, h0, fun q => by omega, fun _ => ⟨y, hy, h1⟩, fun q => by omega, fun q => by omega, fun _ => ⟨v, hv, h7⟩⟩, fun q => ?_, fun q => ?_, fun q => ?_⟩ <;> exact nK (by omega) (by omega) (by omega) (h0.symm.trans q)
theorem Inv_sendAck (h : Inv L C E B S) (hx : x < 6) : Inv L C E B (rSendAck S x) := by
  obtain ⟨a, l, e, q1, q2, q3, q4, q5, q6, q7, q8, q9, q10, q11⟩ := iN_nOK h hx
  unfold rSendAck
  rcases rBef_v q9 with b | ⟨y, hy, b⟩
  · rw [if_pos (by rw [b]; decide +kernel)]; exact h
  · rw [if_neg (by rw [b, nI_ltI (by omega) (by omega)]; omega)]
    unfold rSendFrom
    exact Inv_send h (fun a ha => by rw [sw_row ha, sw_row ha]) (gI_4 (by simp (disch := omega) only [nI_add, pk_mul, pk_sub, nI_clamp, cin, nI_leI, nI_ltI, nI_eq, m1_lt, m1_le, nle_m1, nlt_m1, neq_m1, m1_neq, m1_add, sw_row, sw_eq, sw_ne, rCopyK_row, rTakeM_row, rShift_row, rPsh_row, Nat.reduceAdd, Nat.reduceMul, Nat.reduceSub, Nat.reduceLeDiff, Nat.reduceEqDiff, true_and, and_true, Classical.not_not, implies_true, true_implies, forall_const]) hy (by simp (disch := omega) only [nI_add, pk_mul, pk_sub, nI_clamp, cin, nI_leI, nI_ltI, nI_eq, m1_lt, m1_le, nle_m1, nlt_m1, neq_m1, m1_neq, m1_add, sw_row, sw_eq, sw_ne, rCopyK_row, rTakeM_row, rShift_row, rPsh_row, Nat.reduceAdd, Nat.reduceMul, Nat.reduceSub, Nat.reduceLeDiff, Nat.reduceEqDiff, true_and, and_true, Classical.not_not, implies_true, true_implies, forall_const]; exact b))
theorem Inv_reply (h : Inv L C E B S) (hc : c < 3) {r v w : Int32} : Inv L C E B (rReply S (nI c) r v w) := by
  unfold rReply
  exact Inv_send h (fun a ha => by rw [sw_row ha, sw_row ha, sw_row ha]) (gI_7 (by simp (disch := omega) only [nI_add, pk_mul, pk_sub, nI_clamp, cin, nI_leI, nI_ltI, nI_eq, m1_lt, m1_le, nle_m1, nlt_m1, neq_m1, m1_neq, m1_add, sw_row, sw_eq, sw_ne, rCopyK_row, rTakeM_row, rShift_row, rPsh_row, Nat.reduceAdd, Nat.reduceMul, Nat.reduceSub, Nat.reduceLeDiff, Nat.reduceEqDiff, true_and, and_true, Classical.not_not, implies_true, true_implies, forall_const]) hc (by simp (disch := omega) only [nI_add, pk_mul, pk_sub, nI_clamp, cin, nI_leI, nI_ltI, nI_eq, m1_lt, m1_le, nle_m1, nlt_m1, neq_m1, m1_neq, m1_add, sw_row, sw_eq, sw_ne, rCopyK_row, rTakeM_row, rShift_row, rPsh_row, Nat.reduceAdd, Nat.reduceMul, Nat.reduceSub, Nat.reduceLeDiff, Nat.reduceEqDiff, true_and, and_true, Classical.not_not, implies_true, true_implies, forall_const]))
theorem Inv_upd {i : Nat} {v : Int32} (h : Inv L C E B S) (hnd : rNd S x a l n') (hi : i < l - a) (hy : y < 6) (b : rBeh S x = nI y) : Inv L C E B (rUpd S x i v) := by
  obtain ⟨a', l', e, q1, q2, q3, q4, q5, q6, q7, q8, q9, q10, q11⟩ := iN_nOK h hnd.1
  obtain ⟨⟨k, hk, ek⟩, c, hc, ec⟩ := hnd.2.2.2.2.2.2.2.2 i hi
  have hb : 1 ≤ rq S x ∧ rq S x < L e := by
    have b' := b
    unfold rBeh at b'
    rw [q8] at b'
    by_cases z : 1 ≤ rq S x ∧ rq S x < L e
    · exact z
    · rw [if_neg z, m1_neq (by omega)] at b'; exact b'.elim
  have hbe : rBeh S x = C e (rq S x) := by
    unfold rBeh
    rw [q8, if_pos hb, q5 _ hb.2]
  unfold rUpd rSendFrom
  refine Inv_send h (fun a ha => by simp (disch := omega) only [nI_add, pk_mul, pk_sub, nI_clamp, cin, nI_leI, nI_ltI, nI_eq, m1_lt, m1_le, nle_m1, nlt_m1, neq_m1, m1_neq, m1_add, sw_row, sw_eq, sw_ne, rCopyK_row, rTakeM_row, rShift_row, rPsh_row, Nat.reduceAdd, Nat.reduceMul, Nat.reduceSub, Nat.reduceLeDiff, Nat.reduceEqDiff, true_and, and_true, Classical.not_not, implies_true, true_implies, forall_const]) (gI_3 (e := e) (j := rq S x) ?_ hy ?_ hk ?_ hc ?_ q1 ?_ hb.2 ?_)
  · simp (disch := omega) only [nI_add, pk_mul, pk_sub, nI_clamp, cin, nI_leI, nI_ltI, nI_eq, m1_lt, m1_le, nle_m1, nlt_m1, neq_m1, m1_neq, m1_add, sw_row, sw_eq, sw_ne, rCopyK_row, rTakeM_row, rShift_row, rPsh_row, Nat.reduceAdd, Nat.reduceMul, Nat.reduceSub, Nat.reduceLeDiff, Nat.reduceEqDiff, true_and, and_true, Classical.not_not, implies_true, true_implies, forall_const]
  · simp (disch := omega) only [nI_add, pk_mul, pk_sub, nI_clamp, cin, nI_leI, nI_ltI, nI_eq, m1_lt, m1_le, nle_m1, nlt_m1, neq_m1, m1_neq, m1_add, sw_row, sw_eq, sw_ne, rCopyK_row, rTakeM_row, rShift_row, rPsh_row, Nat.reduceAdd, Nat.reduceMul, Nat.reduceSub, Nat.reduceLeDiff, Nat.reduceEqDiff, true_and, and_true, Classical.not_not, implies_true, true_implies, forall_const]; exact b
  · simp (disch := omega) only [nI_add, pk_mul, pk_sub, nI_clamp, cin, nI_leI, nI_ltI, nI_eq, m1_lt, m1_le, nle_m1, nlt_m1, neq_m1, m1_neq, m1_add, sw_row, sw_eq, sw_ne, rCopyK_row, rTakeM_row, rShift_row, rPsh_row, Nat.reduceAdd, Nat.reduceMul, Nat.reduceSub, Nat.reduceLeDiff, Nat.reduceEqDiff, true_and, and_true, Classical.not_not, implies_true, true_implies, forall_const]; exact ek
  · simp (disch := omega) only [nI_add, pk_mul, pk_sub, nI_clamp, cin, nI_leI, nI_ltI, nI_eq, m1_lt, m1_le, nle_m1, nlt_m1, neq_m1, m1_neq, m1_add, sw_row, sw_eq, sw_ne, rCopyK_row, rTakeM_row, rShift_row, rPsh_row, Nat.reduceAdd, Nat.reduceMul, Nat.reduceSub, Nat.reduceLeDiff, Nat.reduceEqDiff, true_and, and_true, Classical.not_not, implies_true, true_implies, forall_const]; exact ec
  · simp (disch := omega) only [nI_add, pk_mul, pk_sub, nI_clamp, cin, nI_leI, nI_ltI, nI_eq, m1_lt, m1_le, nle_m1, nlt_m1, neq_m1, m1_neq, m1_add, sw_row, sw_eq, sw_ne, rCopyK_row, rTakeM_row, rShift_row, rPsh_row, Nat.reduceAdd, Nat.reduceMul, Nat.reduceSub, Nat.reduceLeDiff, Nat.reduceEqDiff, true_and, and_true, Classical.not_not, implies_true, true_implies, forall_const]; exact q4
  · simp (disch := omega) only [nI_add, pk_mul, pk_sub, nI_clamp, cin, nI_leI, nI_ltI, nI_eq, m1_lt, m1_le, nle_m1, nlt_m1, neq_m1, m1_neq, m1_add, sw_row, sw_eq, sw_ne, rCopyK_row, rTakeM_row, rShift_row, rPsh_row, Nat.reduceAdd, Nat.reduceMul, Nat.reduceSub, Nat.reduceLeDiff, Nat.reduceEqDiff, true_and, and_true, Classical.not_not, implies_true, true_implies, forall_const]; exact hbe
theorem Inv_pen (hy : y < 6) : ∀ (j i : Nat) (S : Nat → Nat → Int32), Inv L C E B S → rNd S x a l n' → rBeh S x = nI y → i + j ≤ l - a → Inv L C E B (rPen S x a i j) := by
  intro j
  induction j with
  | zero => intro i S h _ _ _; exact h
  | succ j ih =>
    intro i S h hnd b hi
    exact ih (i + 1) _ (Inv_upd h hnd (by omega) hy b) (rNd_of hnd (rUpd_row (by omega)) (rUpd_row (by omega)) (rUpd_row (by omega)) (rUpd_row (by omega)) (rUpd_row (by omega))) (by rw [rBeh_of (rUpd_row (by omega)) (rUpd_row (by omega))]; exact b) (by omega)
theorem Inv_copy (h : Inv L C E B S) (hnd : rNd S x a l n') (hl : l ≤ B) (hy : y < 6) (b : rBeh S x = nI y) : Inv L C E B (rSendCopy S x a l) := by
  obtain ⟨f7, -, -⟩ := rCopyM_f hnd
  unfold rSendCopy rSendFrom
  refine Inv_send h (fun a ha => by rw [sw_row ha, rCopyM_row ha]) (gI_9 ?_ hy ?_ hl ?_)
  · simp (disch := omega) only [nI_add, pk_mul, pk_sub, nI_clamp, cin, nI_leI, nI_ltI, nI_eq, m1_lt, m1_le, nle_m1, nlt_m1, neq_m1, m1_neq, m1_add, sw_row, sw_eq, sw_ne, rCopyK_row, rTakeM_row, rShift_row, rPsh_row, Nat.reduceAdd, Nat.reduceMul, Nat.reduceSub, Nat.reduceLeDiff, Nat.reduceEqDiff, true_and, and_true, Classical.not_not, implies_true, true_implies, forall_const]
  · simp (disch := omega) only [nI_add, pk_mul, pk_sub, nI_clamp, cin, nI_leI, nI_ltI, nI_eq, m1_lt, m1_le, nle_m1, nlt_m1, neq_m1, m1_neq, m1_add, sw_row, sw_eq, sw_ne, rCopyK_row, rTakeM_row, rShift_row, rPsh_row, Nat.reduceAdd, Nat.reduceMul, Nat.reduceSub, Nat.reduceLeDiff, Nat.reduceEqDiff, true_and, and_true, Classical.not_not, implies_true, true_implies, forall_const]; exact b
  · simp (disch := omega) only [nI_add, pk_mul, pk_sub, nI_clamp, cin, nI_leI, nI_ltI, nI_eq, m1_lt, m1_le, nle_m1, nlt_m1, neq_m1, m1_neq, m1_add, sw_row, sw_eq, sw_ne, rCopyK_row, rTakeM_row, rShift_row, rPsh_row, Nat.reduceAdd, Nat.reduceMul, Nat.reduceSub, Nat.reduceLeDiff, Nat.reduceEqDiff, true_and, and_true, Classical.not_not, implies_true, true_implies, forall_const]; rw [f7]; exact hnd.2.2.2.2.1
theorem Inv_hands {v : Int32} (h : Inv L C E B S) : Inv L C E B (sw S 322 x v) := Inv_of h (fun a ha => sw_row (by omega)) (fun j _ => by rw [sw_row (by omega)])
/-- one node has changed -/
theorem Inv_node {B' : Nat} (h : Inv L C E B S) (hB : B ≤ B') (hB' : B' < 50000) (hS : ∀ a, ¬ (320 ≤ a ∧ a ≤ 335) → T a = S a) (hE : ∀ y, y < 6 → ¬ y = x → nEq S T y) (hN : iN1 L C E B' T x) : Inv L C E B' T := by
  obtain ⟨he, ⟨n, m1, m2, m3⟩, hN', hC, hK⟩ := Inv_mono h hB hB'
  refine ⟨he, ⟨n, m1, by rw [hS 315 (by omega)]; exact m2, by rw [hS 316 (by omega)]; exact m3⟩, fun y hy => ?_, fun c hc => by rw [hS 337 (by omega), hS 339 (by omega)]; exact hC c hc, ?_⟩
  · by_cases e : y = x
    · subst e; exact hN
    · exact iN1_eq he.2.2 (hN' y hy) (hE y hy e)
  · unfold iK
    rw [hS 315 (by omega), hS 318 (by omega), hS 319 (by omega)]
    exact hK
theorem Inv_cmJ (h : Inv L C E B S) (hnd : rNd S x a l n') (hal : a < l) : Inv L C E B (rCmJ S x a) := by
  obtain ⟨a', l', e, q1, q2, q3, q4, q5, q6, q7, q8, q9, q10, q11⟩ := iN_nOK h hnd.1
  obtain ⟨⟨k, hk, ek⟩, c, hc, ec⟩ := hnd.2.2.2.2.2.2.2.2 0 (by omega)
  rw [Nat.add_zero] at ek ec
  obtain ⟨hx, hn6, h1, h2, h3, h4, h5, h6, h7⟩ := id hnd
  have el : l' = l := (nI_eq (by have := q6.2.2.2.2.2.2.2.1; omega) (by omega)).mp (q6.2.2.2.2.1.symm.trans h3)
  have en : n' = L e := (nI_eq (by omega) (by omega)).mp (h1.symm.trans q6.2.2.1)
  subst el
  refine Inv_node h (Nat.le_refl B) h.1.2.1 (fun b hb => rCmJ_row (by omega)) (fun y hy hne => rCmJ_eq hk ek hc ec hne) ⟨a + 1, l', e, q1, q2, by rw [rCmJ_row (by omega)]; exact q4, fun i hi => by rw [rCmJ_row (by omega)]; exact q5 i hi, ?_, q7, by rw [rCmJ_row (by omega)]; exact q11⟩
  rw [← en]
  exact rCmJ_nd hnd hal
theorem Inv_cm1 (h : Inv L C E B S) (hnd : rNd S x a l n') (hal : a < l) : Inv L C E B (rCm1 S x a) := by
  have hJ := Inv_cmJ h hnd hal
  obtain ⟨-, c, hc, ec⟩ := hnd.2.2.2.2.2.2.2.2 0 (by omega)
  rw [Nat.add_zero] at ec
  unfold rCm1
  rw [ec]
  split
  · exact Inv_reply hJ hc
  · exact hJ
theorem Inv_cm : ∀ (j a : Nat) (S : Nat → Nat → Int32), Inv L C E B S → rNd S x a l n' → a + j ≤ l → Inv L C E B (rCm S x a j) := by
  intro j
  induction j with
  | zero => intro a S h _ _; exact h
  | succ j ih =>
    intro a S h hnd hl
    exact ih (a + 1) (rCm1 S x a) (Inv_cm1 h hnd (by omega)) (rCm1_nd hnd (by omega)) (by omega)
theorem Inv_commit {m : Nat} (h : Inv L C E B S) (hnd : rNd S x a l n') (hm : m ≤ l) (ham : a ≤ m) : Inv L C E B (rCommit S x a m) := by
  unfold rCommit
  exact Inv_sendAck (Inv_cm (m - a) a S h hnd (by omega)) hnd.1
theorem Inv_apply (h : Inv L C E B S) (hB : B + 1 < 50000) (hnd : rNd S x a l n') (h8 : l - a < 8) (hlB : l ≤ B) (hk : k < 4) (ek : S 317 5 = nI k) (hc : c < 3) (ec : S 317 4 = nI c) (hb : rTl S x = false → ∃ y, y < 6 ∧ rBeh S x = nI y) : Inv L C E (B + 1) (rApply S x a l) := by
  obtain ⟨a', l', e, q1, q2, q3, q4, q5, q6, q7, q8, q9, q10, q11⟩ := iN_nOK h hnd.1
  obtain ⟨hx, hn6, h1, h2, h3, h4, h5, h6, h7⟩ := id hnd
  have en : n' = L e := (nI_eq (by omega) (by omega)).mp (h1.symm.trans q6.2.2.1)
  have ndA' := rApp_nd hnd h8 (by omega) hk ek hc ec
  have hI : Inv L C E (B + 1) (rApp S x a l) := by
    refine Inv_node h (by omega) hB (fun b hb => rApp_row (by omega)) (fun y hy hne => ?_) ⟨a, l + 1, e, q1, q2, by rw [rApp_row (by omega)]; exact q4, fun i hi => by rw [rApp_row (by omega)]; exact q5 i hi, by rw [← en]; exact ndA', by omega, by rw [rApp_row (by omega)]; exact q11⟩
    unfold rApp
    rw [ec, nI_clamp (show c < 2 ^ 31 by omega)]
    refine ⟨?_, fun i hi => ?_, fun q hq => ?_, fun q hq => ?_, fun i hi => ?_⟩
    · simp (disch := omega) only [nI_add, pk_mul, pk_sub, nI_clamp, cin, nI_leI, nI_ltI, nI_eq, m1_lt, m1_le, nle_m1, nlt_m1, neq_m1, m1_neq, m1_add, sw_row, sw_eq, sw_ne, rCopyK_row, rTakeM_row, rShift_row, rPsh_row, Nat.reduceAdd, Nat.reduceMul, Nat.reduceSub, Nat.reduceLeDiff, Nat.reduceEqDiff, true_and, and_true, Classical.not_not, implies_true, true_implies, forall_const]
    · simp (disch := omega) only [nI_add, pk_mul, pk_sub, nI_clamp, cin, nI_leI, nI_ltI, nI_eq, m1_lt, m1_le, nle_m1, nlt_m1, neq_m1, m1_neq, m1_add, sw_row, sw_eq, sw_ne, rCopyK_row, rTakeM_row, rShift_row, rPsh_row, Nat.reduceAdd, Nat.reduceMul, Nat.reduceSub, Nat.reduceLeDiff, Nat.reduceEqDiff, true_and, and_true, Classical.not_not, implies_true, true_implies, forall_const]
    · simp (disch := omega) only [nI_add, pk_mul, pk_sub, nI_clamp, cin, nI_leI, nI_ltI, nI_eq, m1_lt, m1_le, nle_m1, nlt_m1, neq_m1, m1_neq, m1_add, sw_row, sw_eq, sw_ne, rCopyK_row, rTakeM_row, rShift_row, rPsh_row, Nat.reduceAdd, Nat.reduceMul, Nat.reduceSub, Nat.reduceLeDiff, Nat.reduceEqDiff, true_and, and_true, Classical.not_not, implies_true, true_implies, forall_const]
    · simp (disch := omega) only [nI_add, pk_mul, pk_sub, nI_clamp, cin, nI_leI, nI_ltI, nI_eq, m1_lt, m1_le, nle_m1, nlt_m1, neq_m1, m1_neq, m1_add, sw_row, sw_eq, sw_ne, rCopyK_row, rTakeM_row, rShift_row, rPsh_row, Nat.reduceAdd, Nat.reduceMul, Nat.reduceSub, Nat.reduceLeDiff, Nat.reduceEqDiff, true_and, and_true, Classical.not_not, implies_true, true_implies, forall_const]
    · simp (disch := omega) only [nI_add, pk_mul, pk_sub, nI_clamp, cin, nI_leI, nI_ltI, nI_eq, m1_lt, m1_le, nle_m1, nlt_m1, neq_m1, m1_neq, m1_add, sw_row, sw_eq, sw_ne, rCopyK_row, rTakeM_row, rShift_row, rPsh_row, Nat.reduceAdd, Nat.reduceMul, Nat.reduceSub, Nat.reduceLeDiff, Nat.reduceEqDiff, true_and, and_true, Classical.not_not, implies_true, true_implies, forall_const]
  unfold rApply
  cases hT : rTl S x with
  | true =>
    rw [if_pos rfl]
    exact Inv_commit hI ndA' (Nat.le_refl _) (by omega)
  | false =>
    rw [if_neg (by decide)]
    obtain ⟨y, hy, ey⟩ := hb hT
    exact Inv_upd hI ndA' (by omega) hy (by rw [rBeh_of (I := S) (rApp_row (by omega)) (rApp_row (by omega))]; exact ey)
end I2
