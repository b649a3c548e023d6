/-! ### the invariant: a message is delivered -/
section I3
variable {L : Nat → Nat} {C : Nat → Nat → Int32} {E B : Nat} {S T : Nat → Nat → Int32} {n x y a l n' k c : Nat} {f g : Nat → Int32}
theorem Inv_takeAt (h : Inv L C E B S) (hB : B + 1 < 50000) (hx : x < 6) (h7 : ¬ S 317 0 = nI 7) (h1x : S 317 1 = nI x) (hg : gI L C E B (S 317)) : Inv L C E (B + 1) (rTakeAt S x) := by
  have hm := Inv_mono h (show B ≤ B + 1 by omega) hB
  obtain ⟨a, l, e, q1, q2, q3, q4, q5, q6, q7, q8, q9, q10, q11⟩ := iN_nOK h hx
  obtain ⟨-, hn6, h1, h2, h3, h4, h5, h6, h7'⟩ := id q6
  have ea : aN S x = a := by unfold aN; rw [h2, nI_clamp (by omega)]
  have el : lN' S x = l := by unfold lN'; rw [h3, nI_clamp (by omega)]
  have q8' := Inv_q8 (x := x) h hg
  have q3' := fun z => Inv_q3 (x := x) h hg z hx h1x
  obtain ⟨⟨kind, g1, g2, g3, g4, g5, g6, g8, g9⟩, gu, gc, gq⟩ := id hg
  have n7 : ¬ kind = 7 := fun q => h7 (q ▸ g3)
  unfold rTakeAt
  rw [ea, el, q8]
  by_cases up : S 320 x = nI 0
  · rw [if_pos up]; exact hm
  rw [if_neg up, g3]
  have hk : kind = 1 ∨ kind = 2 ∨ kind = 3 ∨ kind = 4 ∨ kind = 5 ∨ kind = 6 ∨ kind = 8 ∨ kind = 9 := by omega
  rcases hk with z | z | z | z | z | z | z | z
  · subst z
    rw [if_pos rfl]
    obtain ⟨⟨k, hk, ek⟩, c, hc, ec⟩ := g6 (by omega)
    unfold rTakeW
    by_cases b : S 321 x = nI 0 ∨ ¬ rq S x = 1
    · rw [if_pos b]; exact hm
    · rw [if_neg b, ec]
      have b1 : rq S x = 1 := Classical.not_not.mp (fun z => b (Or.inr z))
      split
      · split
        · exact Inv_reply hm hc
        · exact hm
      · split
        · next z => exact Inv_apply h hB q6 z.2 q7 hk ek hc ec (beh_of (by omega) q9)
        · exact hm
  · subst z
    rw [if_neg (by simp (disch := omega) [nn]), if_pos rfl]
    obtain ⟨⟨k, hk, ek⟩, c, hc, ec⟩ := g6 (by omega)
    unfold rTakeR
    split
    · exact hm
    · split
      · unfold rSendFrom
        obtain ⟨y, hy, ey⟩ := q9 (L e - 1) (by omega)
        refine Inv_send hm (fun a ha => by rw [sw_row ha, sw_row ha]) (gI_5 (z := x) ?_ hy ?_ hk ?_ hc ?_ hx ?_)
        · simp (disch := omega) only [nI_add, pk_mul, pk_sub, nI_clamp, cin, nI_leI, nI_ltI, nI_eq, m1_lt, m1_le, nle_m1, nlt_m1, neq_m1, m1_neq, m1_add, sw_row, sw_eq, sw_ne, rCopyK_row, rTakeM_row, rShift_row, rPsh_row, Nat.reduceAdd, Nat.reduceMul, Nat.reduceSub, Nat.reduceLeDiff, Nat.reduceEqDiff, true_and, and_true, Classical.not_not, implies_true, true_implies, forall_const]
        · simp (disch := omega) only [nI_add, pk_mul, pk_sub, nI_clamp, cin, nI_leI, nI_ltI, nI_eq, m1_lt, m1_le, nle_m1, nlt_m1, neq_m1, m1_neq, m1_add, sw_row, sw_eq, sw_ne, rCopyK_row, rTakeM_row, rShift_row, rPsh_row, Nat.reduceAdd, Nat.reduceMul, Nat.reduceSub, Nat.reduceLeDiff, Nat.reduceEqDiff, true_and, and_true, Classical.not_not, implies_true, true_implies, forall_const]
          rw [show 6 * x + L e - 1 = 6 * x + (L e - 1) by omega]; exact ey
        · simp (disch := omega) only [nI_add, pk_mul, pk_sub, nI_clamp, cin, nI_leI, nI_ltI, nI_eq, m1_lt, m1_le, nle_m1, nlt_m1, neq_m1, m1_neq, m1_add, sw_row, sw_eq, sw_ne, rCopyK_row, rTakeM_row, rShift_row, rPsh_row, Nat.reduceAdd, Nat.reduceMul, Nat.reduceSub, Nat.reduceLeDiff, Nat.reduceEqDiff, true_and, and_true, Classical.not_not, implies_true, true_implies, forall_const]; exact ek
        · simp (disch := omega) only [nI_add, pk_mul, pk_sub, nI_clamp, cin, nI_leI, nI_ltI, nI_eq, m1_lt, m1_le, nle_m1, nlt_m1, neq_m1, m1_neq, m1_add, sw_row, sw_eq, sw_ne, rCopyK_row, rTakeM_row, rShift_row, rPsh_row, Nat.reduceAdd, Nat.reduceMul, Nat.reduceSub, Nat.reduceLeDiff, Nat.reduceEqDiff, true_and, and_true, Classical.not_not, implies_true, true_implies, forall_const]; exact ec
        · simp (disch := omega) only [nI_add, pk_mul, pk_sub, nI_clamp, cin, nI_leI, nI_ltI, nI_eq, m1_lt, m1_le, nle_m1, nlt_m1, neq_m1, m1_neq, m1_add, sw_row, sw_eq, sw_ne, rCopyK_row, rTakeM_row, rShift_row, rPsh_row, Nat.reduceAdd, Nat.reduceMul, Nat.reduceSub, Nat.reduceLeDiff, Nat.reduceEqDiff, true_and, and_true, Classical.not_not, implies_true, true_implies, forall_const]
      · rw [ec]; exact Inv_reply hm hc
  · subst z
    rw [if_neg (by simp (disch := omega) [nn]), if_neg (by simp (disch := omega) [nn]), if_neg (by simp (disch := omega) [nn])]
    obtain ⟨⟨k, hk, ek⟩, c, hc, ec⟩ := g6 (by omega)
    by_cases b : S 317 2 = S 323 x ∧ (¬ S 321 x = nI 0 ∨ nI 3 = nI 9)
    · rw [if_pos b, if_pos rfl]
      unfold rTakeU
      split
      · next z => exact Inv_apply h hB q6 z.2 q7 hk ek hc ec (beh_of (q3' g3 b.1) q9)
      · split
        · exact Inv_sendAck hm hx
        · exact hm
    · rw [if_neg b]; exact hm
  · subst z
    rw [if_neg (by simp (disch := omega) [nn]), if_neg (by simp (disch := omega) [nn]), if_neg (by simp (disch := omega) [nn])]
    by_cases b : S 317 2 = S 323 x ∧ (¬ S 321 x = nI 0 ∨ nI 4 = nI 9)
    · rw [if_pos b, if_neg (by simp (disch := omega) [nn]), if_pos rfl]
      unfold rTakeA
      refine Inv_hands ?_
      by_cases b2 : nI (a + 1) ≤ S 317 7 ∧ S 317 7 ≤ nI l
      · rw [if_pos b2]
        obtain ⟨v, v1, v2, ev⟩ := c_le b2.1 b2.2 (by omega) (by
          have := Int32.le_trans b2.1 b2.2
          rw [nI_leI (by omega) (by omega)] at this; exact this)
        rw [ev, nI_clamp (by omega)]
        exact Inv_commit hm q6 v2 (by omega)
      · rw [if_neg b2]; exact hm
    · rw [if_neg b]; exact hm
  · subst z
    rw [if_neg (by simp (disch := omega) [nn]), if_neg (by simp (disch := omega) [nn]), if_neg (by simp (disch := omega) [nn])]
    obtain ⟨⟨k, hk, ek⟩, c, hc, ec⟩ := g6 (by omega)
    obtain ⟨y, hy, ey⟩ := gq g3
    by_cases b : S 317 2 = S 323 x ∧ (¬ S 321 x = nI 0 ∨ nI 5 = nI 9)
    · rw [if_pos b, if_neg (by simp (disch := omega) [nn]), if_neg (by simp (disch := omega) [nn]), if_pos rfl]
      unfold rTakeQ
      split
      · unfold rSendFrom
        refine Inv_send hm (fun a ha => by rw [sw_row ha, sw_row ha]) (gI_c (kd := 6) (by omega) ?_ hy ?_ hk ?_ hc ?_)
        · simp (disch := omega) only [nI_add, pk_mul, pk_sub, nI_clamp, cin, nI_leI, nI_ltI, nI_eq, m1_lt, m1_le, nle_m1, nlt_m1, neq_m1, m1_neq, m1_add, sw_row, sw_eq, sw_ne, rCopyK_row, rTakeM_row, rShift_row, rPsh_row, Nat.reduceAdd, Nat.reduceMul, Nat.reduceSub, Nat.reduceLeDiff, Nat.reduceEqDiff, true_and, and_true, Classical.not_not, implies_true, true_implies, forall_const]
        · simp (disch := omega) only [nI_add, pk_mul, pk_sub, nI_clamp, cin, nI_leI, nI_ltI, nI_eq, m1_lt, m1_le, nle_m1, nlt_m1, neq_m1, m1_neq, m1_add, sw_row, sw_eq, sw_ne, rCopyK_row, rTakeM_row, rShift_row, rPsh_row, Nat.reduceAdd, Nat.reduceMul, Nat.reduceSub, Nat.reduceLeDiff, Nat.reduceEqDiff, true_and, and_true, Classical.not_not, implies_true, true_implies, forall_const]; exact ey
        · simp (disch := omega) only [nI_add, pk_mul, pk_sub, nI_clamp, cin, nI_leI, nI_ltI, nI_eq, m1_lt, m1_le, nle_m1, nlt_m1, neq_m1, m1_neq, m1_add, sw_row, sw_eq, sw_ne, rCopyK_row, rTakeM_row, rShift_row, rPsh_row, Nat.reduceAdd, Nat.reduceMul, Nat.reduceSub, Nat.reduceLeDiff, Nat.reduceEqDiff, true_and, and_true, Classical.not_not, implies_true, true_implies, forall_const]; exact ek
        · simp (disch := omega) only [nI_add, pk_mul, pk_sub, nI_clamp, cin, nI_leI, nI_ltI, nI_eq, m1_lt, m1_le, nle_m1, nlt_m1, neq_m1, m1_neq, m1_add, sw_row, sw_eq, sw_ne, rCopyK_row, rTakeM_row, rShift_row, rPsh_row, Nat.reduceAdd, Nat.reduceMul, Nat.reduceSub, Nat.reduceLeDiff, Nat.reduceEqDiff, true_and, and_true, Classical.not_not, implies_true, true_implies, forall_const]; exact ec
      · exact hm
    · rw [if_neg b]; exact hm
  · subst z
    rw [if_neg (by simp (disch := omega) [nn]), if_neg (by simp (disch := omega) [nn]), if_neg (by simp (disch := omega) [nn])]
    obtain ⟨⟨k, hk, ek⟩, c, hc, ec⟩ := g6 (by omega)
    by_cases b : S 317 2 = S 323 x ∧ (¬ S 321 x = nI 0 ∨ nI 6 = nI 9)
    · rw [if_pos b, if_neg (by simp (disch := omega) [nn]), if_neg (by simp (disch := omega) [nn]), if_neg (by simp (disch := omega) [nn]), if_pos rfl]
      unfold rTakeN
      rw [ec]
      split
      · exact Inv_reply hm hc
      · split
        · exact Inv_reply hm hc
        · exact hm
    · rw [if_neg b]; exact hm
  · subst z
    rw [if_neg (by simp (disch := omega) [nn]), if_neg (by simp (disch := omega) [nn]), if_pos rfl]
    obtain ⟨cd, cch, cq⟩ := cOK_of (q8' g3 h1x)
    obtain ⟨e2, k1, k2, k3, k4, j, k5, k6⟩ := gc g3
    obtain ⟨c1, c2, c3⟩ := h.1.2.2 e2 k1
    have hndT := rCfgJ_nd q6 c1 k3
    have hI : Inv L C E (B + 1) (rCfgJ S x) := Inv_node h (by omega) hB (fun b hb => rCfgJ_row (by omega)) (fun y hy hne => rCfgJ_eq hne) ⟨a, l, e2, k1, by omega, rCfgJ_23.trans k2, fun i hi => by rw [rCfgJ_25 (by omega)]; exact k4 i hi, hndT, by omega, by rw [rCfgJ_row (by omega)]; exact q11⟩
    unfold rTakeC
    split
    · exact hm
    · split
      · exact hI
      · cases hT : rTl (rCfgJ S x) x with
        | true =>
          rw [if_pos rfl]
          split
          · exact Inv_commit hI hndT (Nat.le_refl _) h4
          · exact hI
        | false =>
          rw [if_neg (by decide)]
          obtain ⟨y, hy, ey⟩ := beh_of cq cch hT
          split
          · exact Inv_pen hy (l - a) 0 _ hI hndT ey (by omega)
          · have hnd2 : rNd (sw (rCfgJ S x) 322 x (nI 1)) x a l (L e2) := rNd_of hndT (sw_row (by omega)) (sw_row (by omega)) (sw_row (by omega)) (sw_row (by omega)) (sw_row (by omega))
            refine Inv_pen hy (l - a) 0 _ (Inv_copy (Inv_hands hI) hnd2 (by omega) hy ?_) (rNd_of hnd2 (rSendCopy_row (by omega)) (rSendCopy_row (by omega)) (rSendCopy_row (by omega)) (rSendCopy_row (by omega)) (rSendCopy_row (by omega))) ?_ (by omega)
            · rw [rBeh_sw (by omega)]; exact ey
            · rw [rBeh_of (I := rCfgJ S x) (by rw [rSendCopy_row (by omega), sw_row (by omega)]) (by rw [rSendCopy_row (by omega), sw_row (by omega)])]; exact ey
  · subst z
    rw [if_neg (by simp (disch := omega) [nn]), if_neg (by simp (disch := omega) [nn]), if_neg (by simp (disch := omega) [nn])]
    obtain ⟨v, hv, ev⟩ := g9 rfl
    by_cases b : S 317 2 = S 323 x ∧ (¬ S 321 x = nI 0 ∨ nI 9 = nI 9)
    · rw [if_pos b, if_neg (by simp (disch := omega) [nn]), if_neg (by simp (disch := omega) [nn]), if_neg (by simp (disch := omega) [nn]), if_neg (by simp (disch := omega) [nn]), if_pos rfl, ev, nI_clamp (by have := h.1.2.1; omega)]
      have hb50 := h.1.2.1
      have hndY := rYJ_nd q6 (show v < 100000 by omega) ev
      have hI : Inv L C E (B + 1) (rYJ S x) := Inv_node h (by omega) hB (fun b hb => rYJ_row (by omega)) (fun y hy hne => rYJ_eq hne) ⟨v, v, e, q1, q2, by rw [rYJ_row (by omega)]; exact q4, fun i hi => by rw [rYJ_row (by omega)]; exact q5 i hi, hndY, by omega, Or.inr rYJ_21⟩
      unfold rTakeP
      refine Inv_sendAck ?_ hx
      split
      · rcases rBeh_v q9 with z | ⟨y, hy, z⟩
        · rw [if_pos (by rw [z]; decide +kernel)]; exact hI
        · rw [if_neg (by rw [z, nI_ltI (by omega) (by omega)]; omega)]
          refine Inv_copy (Inv_hands hI) (rNd_of hndY (sw_row (by omega)) (sw_row (by omega)) (sw_row (by omega)) (sw_row (by omega)) (sw_row (by omega))) (by omega) hy ?_
          rw [rBeh_sw (by omega), rBeh_of (I := S) (rYJ_row (by omega)) (rYJ_row (by omega))]; exact z
      · exact hm
    · rw [if_neg b]; exact hm
theorem Inv_take {i : Nat} (h : Inv L C E B S) (hm : S 315 2 = nI n) (hn : n ≤ 60) (hi : i < n) : Inv L C E B (rTake S i) ∧ gI L C E B (rTake S i 317) := by
  obtain ⟨he, ⟨n2, m1, m2, m3⟩, hN, hC, hK⟩ := id h
  have e : n2 = n := (nI_eq (by omega) (by omega)).mp (m2.symm.trans hm)
  subst e
  have h6 := fun e he' => (he.2.2 e he').1
  have hrow : ∀ a, ¬ (a = 315 ∨ a = 316 ∨ a = 317) → rTake S i a = S a := fun a ha => rTake_row ha
  refine ⟨⟨he, ⟨n2 - 1, by omega, rTake_n m2 (by omega), fun j hj => ?_⟩, fun x hx => iN1_of (hN x hx) (hrow _ (by omega)) (hrow _ (by omega)) (hrow _ (by omega)) (hrow _ (by omega)) (hrow _ (by omega)) (hrow _ (by omega)) (hrow _ (by omega)) (hrow _ (by omega)), fun c hc => by rw [hrow 337 (by omega), hrow 339 (by omega)]; exact hC c hc, ?_⟩, gI_of (m3 i hi) (fun j hj => rTake_m hj) h6⟩
  · by_cases b : i ≤ j
    · refine gI_of (m3 (j + 1) (by omega)) (fun k hk => ?_) h6
      rw [rTake_316 hn hm, if_pos ⟨by omega, by omega⟩, show 21 * j + k + 21 = 21 * (j + 1) + k by omega]
    · refine gI_of (m3 j (by omega)) (fun k hk => ?_) h6
      rw [rTake_316 hn hm, if_neg (by omega)]
  · unfold iK
    rw [rTake_315 (by omega), rTake_315 (by omega), hrow 318 (by omega), hrow 319 (by omega)]
    exact hK
theorem Inv_takeY (h : Inv L C E B S) (hc : c < 3) : Inv L C E B (rTakeY S c) := by
  have key : ∀ T : Nat → Nat → Int32, (∀ a, ¬ (a = 337 ∨ a = 343 ∨ a = 344) → T a = S a) → (∀ c', T 337 c' = S 337 c' ∨ T 337 c' = nI 0) → Inv L C E B T := fun T hT h337 => by
    obtain ⟨he, ⟨n2, m1, m2, m3⟩, hN, hC, hK⟩ := id h
    refine ⟨he, ⟨n2, m1, by rw [hT 315 (by omega)]; exact m2, by rw [hT 316 (by omega)]; exact m3⟩, fun x hx => iN1_of (hN x hx) (hT _ (by omega)) (hT _ (by omega)) (hT _ (by omega)) (hT _ (by omega)) (hT _ (by omega)) (hT _ (by omega)) (hT _ (by omega)) (hT _ (by omega)), fun c hc ho => ?_, ?_⟩
    · rw [hT 339 (by omega)]
      rcases h337 c with z | z
      · exact hC c hc (z ▸ ho)
      · exact absurd z ho
    · unfold iK
      rw [hT 315 (by omega), hT 318 (by omega), hT 319 (by omega)]
      exact hK
  have h0 : ∀ c', sw S 337 c (nI 0) 337 c' = S 337 c' ∨ sw S 337 c (nI 0) 337 c' = nI 0 := fun c' => by
    by_cases b : c' = c
    · subst b; exact Or.inr sw_eq
    · exact Or.inl (sw_ne b)
  unfold rTakeY
  split
  · exact h
  · split
    · exact key _ (fun a ha => sw_row (by omega)) h0
    · exact key _ (fun a ha => by rw [sw_row (by omega), sw_row (by omega), sw_row (by omega)]) (fun c' => by rw [sw_row (by omega), sw_row (by omega)]; exact h0 c')
theorem Inv_deliver {i : Nat} (h : Inv L C E B S) (hB : B + 1 < 50000) (hm : S 315 2 = nI n) (hn : n ≤ 60) (hi : i < n) : Inv L C E (B + 1) (rDeliver S i) := by
  obtain ⟨hT, hg⟩ := Inv_take h hm hn hi
  obtain ⟨⟨kind, g1, g2, g3, g4, g5, g6, g8, g9⟩, gu, gc, gq⟩ := id hg
  unfold rDeliver
  by_cases b7 : rTake S i 317 0 = nI 7
  · rw [if_pos b7]
    have e7 : kind = 7 := (nI_eq (by omega) (by omega)).mp (g3.symm.trans b7)
    obtain ⟨c, hc, ec⟩ := g4 e7
    rw [ec, nI_clamp (by omega)]
    exact Inv_mono (Inv_takeY hT hc) (by omega) hB
  · rw [if_neg b7]
    obtain ⟨x, hx, ex⟩ := g5 (fun q => b7 (q ▸ g3))
    rw [ex, nI_clamp (by omega)]
    exact Inv_takeAt hT hB hx b7 ex hg
end I3
