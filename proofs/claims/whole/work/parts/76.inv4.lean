/-! ### the invariant: every call -/
theorem inj_le : ∀ (m n : Nat) (f : Nat → Nat), (∀ i, i < n → f i < m) → (∀ i j, i < n → j < n → f i = f j → i = j) → n ≤ m := by
  intro m
  induction m with
  | zero =>
    intro n f h1 h2
    cases n with
    | zero => exact Nat.le_refl 0
    | succ n => have := h1 0 (by omega); omega
  | succ m ih =>
    intro n f h1 h2
    cases n with
    | zero => omega
    | succ k =>
      have := ih k (fun i => if f i = m then f k else f i) (fun i hi => by
        show (if f i = m then f k else f i) < m
        have a1 := h1 i (by omega)
        have a2 := h1 k (by omega)
        by_cases b : f i = m
        · rw [if_pos b]
          have : ¬ f k = m := fun z => by have := h2 i k (by omega) (by omega) (b.trans z.symm); omega
          omega
        · rw [if_neg b]; omega) (fun i j hi hj e => by
        have e : (if f i = m then f k else f i) = if f j = m then f k else f j := e
        by_cases b : f i = m
        · by_cases b2 : f j = m
          · exact h2 i j (by omega) (by omega) (b.trans b2.symm)
          · rw [if_pos b, if_neg b2] at e
            have := h2 k j (by omega) (by omega) e
            omega
        · by_cases b2 : f j = m
          · rw [if_neg b, if_pos b2] at e
            have := h2 i k (by omega) (by omega) e
            omega
          · rw [if_neg b, if_neg b2] at e
            exact h2 i j (by omega) (by omega) e)
      omega
section I4
variable {L : Nat → Nat} {C : Nat → Nat → Int32} {E B : Nat} {S T : Nat → Nat → Int32} {n x y a l n' k c : Nat} {f g : Nat → Int32}
theorem Inv_mCh (h : Inv L C E B S) : L E ≤ 6 ∧ S 315 6 = nI (L E) ∧ mCh S (L E) := by
  obtain ⟨he, -, -, -, k1, k2, k3, k4⟩ := h
  obtain ⟨c1, c2, c3⟩ := he.2.2 E (Nat.le_refl E)
  exact ⟨c1, k1, fun i hi => by rw [k3 i hi]; exact c2 i hi, fun i j hi hj z => by rw [k3 i hi, k3 j hj] at z; exact c3 i j hi hj z⟩
theorem Inv_dup {i : Nat} (h : Inv L C E B S) (hm : S 315 2 = nI n) (hn : n < 60) (hi : i < n) : Inv L C E B (sw (rDup S n i 21) 315 2 (nI (n + 1))) := by
  obtain ⟨he, ⟨n2, m1, m2, m3⟩, hN, hC, hK⟩ := id h
  have e : n2 = n := (nI_eq (by omega) (by omega)).mp (m2.symm.trans hm)
  subst e
  have h6 := fun e he' => (he.2.2 e he').1
  have hrow : ∀ a, ¬ (a = 315 ∨ a = 316) → sw (rDup S n2 i 21) 315 2 (nI (n2 + 1)) a = S a := fun a ha => by
    rw [sw_row (by omega)]
    funext j
    exact if_neg (fun q => by omega)
  have h5 : ∀ j, ¬ j = 2 → sw (rDup S n2 i 21) 315 2 (nI (n2 + 1)) 315 j = S 315 j := fun j hj => by
    rw [sw_ne hj]
    exact if_neg (fun q => by omega)
  refine ⟨he, ⟨n2 + 1, by omega, by rw [sw_eq], fun j hj => ?_⟩, fun x hx => iN1_of (hN x hx) (hrow _ (by omega)) (hrow _ (by omega)) (hrow _ (by omega)) (hrow _ (by omega)) (hrow _ (by omega)) (hrow _ (by omega)) (hrow _ (by omega)) (hrow _ (by omega)), fun c hc => by rw [hrow 337 (by omega), hrow 339 (by omega)]; exact hC c hc, ?_⟩
  · by_cases b : j = n2
    · subst b
      refine gI_of (m3 i hi) (fun k hk => ?_) h6
      rw [sw_row (by omega)]
      unfold rDup
      rw [if_pos ⟨rfl, by omega, by omega⟩, show 21 * i + (21 * j + k - 21 * j) = 21 * i + k by omega]
    · refine gI_of (m3 j (by omega)) (fun k hk => ?_) h6
      rw [sw_row (by omega)]
      exact if_neg (fun q => by omega)
  · unfold iK
    rw [h5 5 (by omega), h5 6 (by omega), hrow 318 (by omega), hrow 319 (by omega)]
    exact hK
theorem Inv_ask (h : Inv L C E B S) (hc : c < 3) (ho : ¬ S 337 c = nI 0) : Inv L C E B (rAsk S c (L E)) := by
  obtain ⟨c1, c2, c3⟩ := Inv_mCh h
  obtain ⟨k, hk, ek⟩ := h.2.2.2.1 c hc ho
  have h0 : Inv L C E B (sw S 342 c (S 315 1)) := Inv_of h (fun a ha => sw_row (by omega)) (fun j _ => by rw [sw_row (by omega)])
  unfold rAsk
  by_cases b0 : L E = 0
  · rw [if_pos b0]; exact h0
  · rw [if_neg b0]
    have ht : ∃ y, y < 6 ∧ (if ¬ S 338 c = nI 0 ∧ rMem (S 318) (S 341 c) (L E) = true then S 341 c else S 318 0) = nI y := by
      by_cases b : ¬ S 338 c = nI 0 ∧ rMem (S 318) (S 341 c) (L E) = true
      · rw [if_pos b]
        obtain ⟨a, h1, h2⟩ := (rMem_iff _ _ _).mp b.2
        rw [← h2]; exact c3.1 a h1
      · rw [if_neg b]; exact c3.1 0 (by omega)
    obtain ⟨y, hy, ey⟩ := ht
    by_cases b1 : S 338 c = nI 0
    · rw [if_pos b1]
      refine Inv_send h0 (fun a ha => by rw [sw_row ha, sw_row ha, sw_row ha, sw_row ha]) (gI_c (kd := 1) (by omega) ?_ hy ?_ hk ?_ hc ?_)
      · simp (disch := omega) only [nI_add, pk_mul, pk_sub, nI_clamp, cin, nI_leI, nI_ltI, nI_eq, m1_lt, m1_le, nle_m1, nlt_m1, neq_m1, m1_neq, m1_add, sw_row, sw_eq, sw_ne, rCopyK_row, rTakeM_row, rShift_row, rPsh_row, Nat.reduceAdd, Nat.reduceMul, Nat.reduceSub, Nat.reduceLeDiff, Nat.reduceEqDiff, true_and, and_true, Classical.not_not, implies_true, true_implies, forall_const]
      · simp (disch := omega) only [nI_add, pk_mul, pk_sub, nI_clamp, cin, nI_leI, nI_ltI, nI_eq, m1_lt, m1_le, nle_m1, nlt_m1, neq_m1, m1_neq, m1_add, sw_row, sw_eq, sw_ne, rCopyK_row, rTakeM_row, rShift_row, rPsh_row, Nat.reduceAdd, Nat.reduceMul, Nat.reduceSub, Nat.reduceLeDiff, Nat.reduceEqDiff, true_and, and_true, Classical.not_not, implies_true, true_implies, forall_const]; exact ey
      · simp (disch := omega) only [nI_add, pk_mul, pk_sub, nI_clamp, cin, nI_leI, nI_ltI, nI_eq, m1_lt, m1_le, nle_m1, nlt_m1, neq_m1, m1_neq, m1_add, sw_row, sw_eq, sw_ne, rCopyK_row, rTakeM_row, rShift_row, rPsh_row, Nat.reduceAdd, Nat.reduceMul, Nat.reduceSub, Nat.reduceLeDiff, Nat.reduceEqDiff, true_and, and_true, Classical.not_not, implies_true, true_implies, forall_const]; exact ek
      · simp (disch := omega) only [nI_add, pk_mul, pk_sub, nI_clamp, cin, nI_leI, nI_ltI, nI_eq, m1_lt, m1_le, nle_m1, nlt_m1, neq_m1, m1_neq, m1_add, sw_row, sw_eq, sw_ne, rCopyK_row, rTakeM_row, rShift_row, rPsh_row, Nat.reduceAdd, Nat.reduceMul, Nat.reduceSub, Nat.reduceLeDiff, Nat.reduceEqDiff, true_and, and_true, Classical.not_not, implies_true, true_implies, forall_const]
    · rw [if_neg b1]
      refine Inv_send h0 (fun a ha => by rw [sw_row ha, sw_row ha, sw_row ha, sw_row ha]) (gI_c (kd := 2) (by omega) ?_ hy ?_ hk ?_ hc ?_)
      · simp (disch := omega) only [nI_add, pk_mul, pk_sub, nI_clamp, cin, nI_leI, nI_ltI, nI_eq, m1_lt, m1_le, nle_m1, nlt_m1, neq_m1, m1_neq, m1_add, sw_row, sw_eq, sw_ne, rCopyK_row, rTakeM_row, rShift_row, rPsh_row, Nat.reduceAdd, Nat.reduceMul, Nat.reduceSub, Nat.reduceLeDiff, Nat.reduceEqDiff, true_and, and_true, Classical.not_not, implies_true, true_implies, forall_const]
      · simp (disch := omega) only [nI_add, pk_mul, pk_sub, nI_clamp, cin, nI_leI, nI_ltI, nI_eq, m1_lt, m1_le, nle_m1, nlt_m1, neq_m1, m1_neq, m1_add, sw_row, sw_eq, sw_ne, rCopyK_row, rTakeM_row, rShift_row, rPsh_row, Nat.reduceAdd, Nat.reduceMul, Nat.reduceSub, Nat.reduceLeDiff, Nat.reduceEqDiff, true_and, and_true, Classical.not_not, implies_true, true_implies, forall_const]; exact ey
      · simp (disch := omega) only [nI_add, pk_mul, pk_sub, nI_clamp, cin, nI_leI, nI_ltI, nI_eq, m1_lt, m1_le, nle_m1, nlt_m1, neq_m1, m1_neq, m1_add, sw_row, sw_eq, sw_ne, rCopyK_row, rTakeM_row, rShift_row, rPsh_row, Nat.reduceAdd, Nat.reduceMul, Nat.reduceSub, Nat.reduceLeDiff, Nat.reduceEqDiff, true_and, and_true, Classical.not_not, implies_true, true_implies, forall_const]; exact ek
      · simp (disch := omega) only [nI_add, pk_mul, pk_sub, nI_clamp, cin, nI_leI, nI_ltI, nI_eq, m1_lt, m1_le, nle_m1, nlt_m1, neq_m1, m1_neq, m1_add, sw_row, sw_eq, sw_ne, rCopyK_row, rTakeM_row, rShift_row, rPsh_row, Nat.reduceAdd, Nat.reduceMul, Nat.reduceSub, Nat.reduceLeDiff, Nat.reduceEqDiff, true_and, and_true, Classical.not_not, implies_true, true_implies, forall_const]
theorem Inv_open {r v : Int32} {b : Nat} (h : Inv L C E B S) (hb : b = 340 ∨ b = 341) (hk : k < 4) : Inv L C E B (opS S c (nI k) r b v) := by
  obtain ⟨he, ⟨n2, m1, m2, m3⟩, hN, hC, hK⟩ := id h
  have hrow : ∀ a, ¬ (336 ≤ a ∧ a ≤ 341) → opS S c (nI k) r b v a = S a := fun a ha => opS_row (by omega) (by omega)
  refine ⟨he, ⟨n2, m1, by rw [hrow 315 (by omega)]; exact m2, by rw [hrow 316 (by omega)]; exact m3⟩, fun x hx => iN1_of (hN x hx) (hrow _ (by omega)) (hrow _ (by omega)) (hrow _ (by omega)) (hrow _ (by omega)) (hrow _ (by omega)) (hrow _ (by omega)) (hrow _ (by omega)) (hrow _ (by omega)), fun c' hc' ho => ?_, ?_⟩
  · by_cases e : c' = c
    · subst e
      refine ⟨k, hk, ?_⟩
      unfold opS
      rw [sw_row (by omega), sw_eq]
    · have o39 : opS S c (nI k) r b v 339 c' = S 339 c' := by
        unfold opS
        rw [sw_row (by omega), sw_ne e, sw_row (by omega), sw_row (by omega), sw_row (by omega)]
      have o37 : opS S c (nI k) r b v 337 c' = S 337 c' := by
        unfold opS
        rw [sw_row (by omega), sw_row (by omega), sw_row (by omega), sw_ne e, sw_row (by omega)]
      rw [o39]; exact hC c' hc' (o37 ▸ ho)
  · unfold iK
    rw [hrow 315 (by omega), hrow 318 (by omega), hrow 319 (by omega)]
    exact hK
theorem Inv_write {j v : Int32} (h : Inv L C E B S) (hc : c < 3) (hok : rWOK S (nI c) j v) : Inv L C E B (rWrite S c j v (L E)) := by
  obtain ⟨k, -, hk, rfl⟩ := c_le hok.1.2.1.1 hok.1.2.1.2 (by omega) (by omega)
  have hO := Inv_open (c := c) (r := nI 0) (v := v) (b := 340) h (by omega) (show k < 4 by omega)
  unfold rWrite
  refine Inv_ask hO hc ?_
  rw [sw_row (by omega), sw_row (by omega), sw_row (by omega), sw_eq]
  exact n10'
theorem Inv_read {j v : Int32} (h : Inv L C E B S) (hc : c < 3) (hok : rROK S (nI c) j v) : Inv L C E B (rRead S c j v) := by
  obtain ⟨k, -, hk, rfl⟩ := c_le hok.1.2.1.1 hok.1.2.1.2 (by omega) (by omega)
  obtain ⟨y, -, hy, rfl⟩ := c_le hok.1.2.2.1 hok.1.2.2.2 (by omega) (by omega)
  have hO := Inv_open (c := c) (r := nI 1) (v := nI y) (b := 341) h (by omega) (show k < 4 by omega)
  have h0 : Inv L C E B (sw (opS S c (nI k) (nI 1) 341 (nI y)) 342 c (S 315 1)) := Inv_of hO (fun a ha => sw_row (by omega)) (fun j _ => by rw [sw_row (by omega)])
  unfold rRead
  refine Inv_send h0 (fun a ha => by rw [sw_row ha, sw_row ha, sw_row ha]; rfl) (gI_c (kd := 2) (by omega) ?_ (show y < 6 by omega) ?_ (show k < 4 by omega) ?_ hc ?_)
  · simp (disch := omega) only [nI_add, pk_mul, pk_sub, nI_clamp, cin, nI_leI, nI_ltI, nI_eq, m1_lt, m1_le, nle_m1, nlt_m1, neq_m1, m1_neq, m1_add, sw_row, sw_eq, sw_ne, rCopyK_row, rTakeM_row, rShift_row, rPsh_row, Nat.reduceAdd, Nat.reduceMul, Nat.reduceSub, Nat.reduceLeDiff, Nat.reduceEqDiff, true_and, and_true, Classical.not_not, implies_true, true_implies, forall_const]
  · simp (disch := omega) only [nI_add, pk_mul, pk_sub, nI_clamp, cin, nI_leI, nI_ltI, nI_eq, m1_lt, m1_le, nle_m1, nlt_m1, neq_m1, m1_neq, m1_add, sw_row, sw_eq, sw_ne, rCopyK_row, rTakeM_row, rShift_row, rPsh_row, Nat.reduceAdd, Nat.reduceMul, Nat.reduceSub, Nat.reduceLeDiff, Nat.reduceEqDiff, true_and, and_true, Classical.not_not, implies_true, true_implies, forall_const]
  · simp (disch := omega) only [nI_add, pk_mul, pk_sub, nI_clamp, cin, nI_leI, nI_ltI, nI_eq, m1_lt, m1_le, nle_m1, nlt_m1, neq_m1, m1_neq, m1_add, sw_row, sw_eq, sw_ne, rCopyK_row, rTakeM_row, rShift_row, rPsh_row, Nat.reduceAdd, Nat.reduceMul, Nat.reduceSub, Nat.reduceLeDiff, Nat.reduceEqDiff, true_and, and_true, Classical.not_not, implies_true, true_implies, forall_const]
  · simp (disch := omega) only [nI_add, pk_mul, pk_sub, nI_clamp, cin, nI_leI, nI_ltI, nI_eq, m1_lt, m1_le, nle_m1, nlt_m1, neq_m1, m1_neq, m1_add, sw_row, sw_eq, sw_ne, rCopyK_row, rTakeM_row, rShift_row, rPsh_row, Nat.reduceAdd, Nat.reduceMul, Nat.reduceSub, Nat.reduceLeDiff, Nat.reduceEqDiff, true_and, and_true, Classical.not_not, implies_true, true_implies, forall_const]
theorem Inv_tk1 (h : Inv L C E B S) (hx : x < 6) : Inv L C E B (rTk1 S x) := by
  obtain ⟨a, l, e, q1, q2, q3, q4, q5, q6, q7, q8, q9, q10, q11⟩ := iN_nOK h hx
  obtain ⟨-, hn6, h1, h2, h3, h4, h5, h6, h7'⟩ := id q6
  have ea : aN S x = a := by unfold aN; rw [h2, nI_clamp (by omega)]
  have el : lN' S x = l := by unfold lN'; rw [h3, nI_clamp (by omega)]
  unfold rTk1
  rw [ea, el]
  rcases rBeh_v q9 with z | ⟨y, hy, z⟩
  · rw [if_neg (fun q => q.2.2 (by rw [z]; decide +kernel))]; exact h
  · split
    · split
      · exact Inv_pen hy (l - a) 0 _ h q6 z (by omega)
      · exact Inv_pen hy (l - a) 0 _ (Inv_copy h q6 q7 hy z) (rNd_of q6 (rSendCopy_row (by omega)) (rSendCopy_row (by omega)) (rSendCopy_row (by omega)) (rSendCopy_row (by omega)) (rSendCopy_row (by omega))) (by rw [rBeh_of (I := S) (rSendCopy_row (by omega)) (rSendCopy_row (by omega))]; exact z) (by omega)
    · exact h
theorem Inv_tks : ∀ (j x : Nat) (S : Nat → Nat → Int32), Inv L C E B S → x + j ≤ 6 → Inv L C E B (rTks S x j) := by
  intro j
  induction j with
  | zero => intro x S h _; exact h
  | succ j ih => intro x S h hx; exact ih (x + 1) _ (Inv_tk1 h (by omega)) (by omega)
theorem Inv_tcs : ∀ (j c : Nat) (S : Nat → Nat → Int32), Inv L C E B S → c + j ≤ 3 → Inv L C E B (rTcs S (L E) c j) := by
  intro j
  induction j with
  | zero => intro c S h _; exact h
  | succ j ih =>
    intro c S h hc
    refine ih (c + 1) _ ?_ (by omega)
    unfold rTc1
    split
    · next z => exact Inv_ask h (by omega) z.1
    · exact h
theorem Inv_clock {v : Int32} (h : Inv L C E B S) : Inv L C E B (sw S 315 1 v) := Inv_of h (fun a ha => sw_row (by omega)) (fun j _ => sw_ne (by omega))
theorem Inv_tick1 (h : Inv L C E B S) : Inv L C E B (rTick1 S (L E)) := by
  unfold rTick1
  refine Inv_tcs 3 0 _ ?_ (by omega)
  split
  · exact Inv_tks 6 0 _ (Inv_clock h) (by omega)
  · exact Inv_clock h
theorem Inv_tickN : ∀ (k : Nat) (S : Nat → Nat → Int32), Inv L C E B S → Inv L C E B (rTickN S (L E) k) := by
  intro k
  induction k with
  | zero => intro S h; exact h
  | succ k ih => intro S h; exact ih _ (Inv_tick1 h)
theorem Inv_up {v : Int32} (h : Inv L C E B S) : Inv L C E B (sw S 320 x v) := Inv_of h (fun a ha => sw_row (by omega)) (fun j _ => by rw [sw_row (by omega)])
/-- configurations -/
theorem Inv_cfS : ∀ (j i : Nat) (S : Nat → Nat → Int32), Inv L C E B S → S 317 2 = nI E → S 317 8 = nI (L E) → (∀ i, i < L E → S 317 (9 + i) = C E i) → i + j ≤ L E → Inv L C E B (rCfS S i j) := by
  intro j
  induction j with
  | zero => intro i S h _ _ _ _; exact h
  | succ j ih =>
    intro i S h e2 e8 e9 hi
    obtain ⟨c1, c2, c3⟩ := Inv_mCh h
    obtain ⟨y, hy, ey⟩ := c3.1 i (by omega)
    have k3 := h.2.2.2.2.2.2.1
    have ss : ∀ k, ¬ (k = 0 ∨ k = 1) → rSend S (nI 8) (S 318 i) 317 k = S 317 k := fun k hk => by
      rw [rSend_317, sw_ne (by omega), sw_ne (by omega)]
    have tt : ∀ k, ¬ (k = 0 ∨ k = 1) → sw (sw S 317 0 (nI 8)) 317 1 (S 318 i) 317 k = S 317 k := fun k hk => by
      rw [sw_ne (by omega), sw_ne (by omega)]
    have t0 : sw (sw S 317 0 (nI 8)) 317 1 (S 318 i) 317 0 = nI 8 := by rw [sw_ne (by omega), sw_eq]
    have t1 : sw (sw S 317 0 (nI 8)) 317 1 (S 318 i) 317 1 = S 318 i := sw_eq
    have hI : Inv L C E B (rSend S (nI 8) (S 318 i)) := by
      refine Inv_send h (fun _ _ => rfl) ⟨⟨8, by omega, by omega, t0, fun q => by omega, fun _ => ⟨y, hy, t1.trans ey⟩, fun q => by omega, fun _ => ⟨L E, by omega, c1, (tt 8 (by omega)).trans e8⟩, fun q => by omega⟩, fun q => ?_, fun _ => ⟨E, Nat.le_refl E, (tt 2 (by omega)).trans e2, (tt 8 (by omega)).trans e8, fun j hj => (tt _ (by omega)).trans (e9 j hj), i, by omega, t1.trans (k3 i (by omega))⟩, fun q => ?_⟩
      · exact nK (by omega) (by omega) (by omega) (t0.symm.trans q)
      · exact nK (by omega) (by omega) (by omega) (t0.symm.trans q)
    exact ih (i + 1) _ hI (by rw [ss 2 (by omega)]; exact e2) (by rw [ss 8 (by omega)]; exact e8) (fun k hk => by rw [ss _ (by omega)]; exact e9 k hk) (by omega)
theorem Inv_conf {n2 : Nat} (h : Inv L C E B S) (hB : B + 1 < 50000) (hT : ∀ a, ¬ (a = 315 ∨ a = 317 ∨ a = 318 ∨ a = 319) → T a = S a) (h5 : ∀ j, ¬ j = 6 → T 315 j = S 315 j) (h6 : T 315 6 = nI n2) (hn2 : n2 ≤ 6) (hm : mCh T n2) (hw : ∀ i, i < n2 → ∀ y, y < 6 → T 318 i = nI y → ¬ T 319 y = nI 0) : ∃ L' C' E', Inv L' C' E' (B + 1) (rConf T n2) := by
  obtain ⟨⟨e1, e2, e3⟩, ⟨n, m1, m2, m3⟩, hN, hC, hK⟩ := Inv_mono h (show B ≤ B + 1 by omega) hB
  have lo : ∀ e, e ≤ E → (if e = E + 1 then n2 else L e) = L e := fun e he => if_neg (by omega)
  have lc : ∀ e, e ≤ E → (fun (e i : Nat) => if e = E + 1 then T 318 i else C e i) e = C e := fun e he => by
    funext i; exact if_neg (by omega)
  have gx : ∀ f, gI L C E (B + 1) f → gI (fun e => if e = E + 1 then n2 else L e) (fun e i => if e = E + 1 then T 318 i else C e i) (E + 1) (B + 1) f := fun f hf => by
    obtain ⟨f1, f2, f3, f4⟩ := hf
    refine ⟨f1, fun q => ?_, fun q => ?_, f4⟩
    · obtain ⟨e, z1, z2, j, z3, z4⟩ := f2 q
      exact ⟨e, by omega, z2, j, by show j < (if e = E + 1 then n2 else L e); rw [lo e z1]; exact z3, by rw [lc e z1]; exact z4⟩
    · obtain ⟨e, z1, z2, z3, z4, j, z5, z6⟩ := f3 q
      refine ⟨e, by omega, z2, by show f 8 = nI (if e = E + 1 then n2 else L e); rw [lo e z1]; exact z3, fun j hj => ?_, j, by show j < (if e = E + 1 then n2 else L e); rw [lo e z1]; exact z5, by rw [lc e z1]; exact z6⟩
      have hj : j < (if e = E + 1 then n2 else L e) := hj
      rw [lo e z1] at hj
      rw [lc e z1]; exact z4 j hj
  refine ⟨fun e => if e = E + 1 then n2 else L e, fun e i => if e = E + 1 then T 318 i else C e i, E + 1, ?_⟩
  have s5 : T 315 5 + nI 1 = nI (E + 1) := by rw [h5 5 (by omega), hK.2.1, nI_add]
  rw [rConf_0, s5]
  have tr : ∀ a, ¬ (a = 315 ∨ a = 317 ∨ a = 318 ∨ a = 319) → rCfM (sw (sw (sw T 315 5 (nI (E + 1))) 317 2 (nI (E + 1))) 317 8 (nI n2)) 6 a = S a := fun a ha => by
    rw [rCfM_row (by omega), sw_row (by omega), sw_row (by omega), sw_row (by omega), hT a (by omega)]
  have t5 : ∀ j, rCfM (sw (sw (sw T 315 5 (nI (E + 1))) 317 2 (nI (E + 1))) 317 8 (nI n2)) 6 315 j = sw T 315 5 (nI (E + 1)) 315 j := fun j => by
    rw [rCfM_row (by omega), sw_row (by omega), sw_row (by omega)]
  have t8 : rCfM (sw (sw (sw T 315 5 (nI (E + 1))) 317 2 (nI (E + 1))) 317 8 (nI n2)) 6 318 = T 318 := by
    rw [rCfM_row (by omega), sw_row (by omega), sw_row (by omega), sw_row (by omega)]
  have t9 : rCfM (sw (sw (sw T 315 5 (nI (E + 1))) 317 2 (nI (E + 1))) 317 8 (nI n2)) 6 319 = T 319 := by
    rw [rCfM_row (by omega), sw_row (by omega), sw_row (by omega), sw_row (by omega)]
  have t7 : ∀ j, ¬ (9 ≤ j ∧ j < 15) → rCfM (sw (sw (sw T 315 5 (nI (E + 1))) 317 2 (nI (E + 1))) 317 8 (nI n2)) 6 317 j = (sw (sw (sw T 315 5 (nI (E + 1))) 317 2 (nI (E + 1))) 317 8 (nI n2)) 317 j := fun j hj => if_neg (fun z => hj z.2)
  have t7' : ∀ i, i < 6 → rCfM (sw (sw (sw T 315 5 (nI (E + 1))) 317 2 (nI (E + 1))) 317 8 (nI n2)) 6 317 (9 + i) = T 318 i := fun i hi => by
    unfold rCfM
    rw [if_pos ⟨rfl, by omega, by omega⟩, sw_row (by omega), sw_row (by omega), sw_row (by omega), show 9 + i - 9 = i by omega]
  generalize hT1 : rCfM (sw (sw (sw T 315 5 (nI (E + 1))) 317 2 (nI (E + 1))) 317 8 (nI n2)) 6 = T1 at *
  have le1 : (fun e => if e = E + 1 then n2 else L e) (E + 1) = n2 := if_pos rfl
  have lc1 : ∀ i, (fun (e i : Nat) => if e = E + 1 then T 318 i else C e i) (E + 1) i = T 318 i := fun i => if_pos rfl
  have hE1 : E ≤ B + 1 := h.1.1
  have hI : Inv (fun e => if e = E + 1 then n2 else L e) (fun e i => if e = E + 1 then T 318 i else C e i) (E + 1) (B + 1) T1 := by
    refine ⟨⟨by omega, hB, fun e he => ?_⟩, ⟨n, m1, by rw [t5, sw_ne (by omega), h5 2 (by omega)]; exact m2, fun i hi => by rw [tr 316 (by omega)]; exact gx _ (m3 i hi)⟩, fun x hx => ?_, fun c hc => by rw [tr 337 (by omega), tr 339 (by omega)]; exact hC c hc, ?_⟩
    · by_cases b : e = E + 1
      · subst b
        refine ⟨by rw [le1]; exact hn2, fun i hi => ?_, fun i j hi hj z => ?_⟩
        · rw [le1] at hi
          rw [lc1]; exact hm.1 i hi
        · rw [le1] at hi hj
          rw [lc1, lc1] at z
          exact hm.2 i j hi hj z
      · have he' : e ≤ E := by omega
        have := e3 e he'
        refine ⟨by show (if e = E + 1 then n2 else L e) ≤ 6; rw [lo e he']; exact this.1, fun i hi => ?_, fun i j hi hj z => ?_⟩
        · have hi : i < (if e = E + 1 then n2 else L e) := hi
          rw [lo e he'] at hi
          rw [lc e he']; exact this.2.1 i hi
        · have hi : i < (if e = E + 1 then n2 else L e) := hi
          have hj : j < (if e = E + 1 then n2 else L e) := hj
          rw [lo e he'] at hi hj
          rw [lc e he'] at z
          exact this.2.2 i j hi hj z
    · obtain ⟨a, l, e, q1, q2, q3, q4, q5, q6, q7⟩ := hN x hx
      refine ⟨a, l, e, by omega, by show 1 ≤ (if e = E + 1 then n2 else L e); rw [lo e q1]; exact q2, by rw [tr 323 (by omega)]; exact q3, fun i hi => ?_, ?_, q6, by rw [tr 321 (by omega)]; exact q7⟩
      · have hi : i < (if e = E + 1 then n2 else L e) := hi
        rw [lo e q1] at hi
        rw [lc e q1, tr 325 (by omega)]; exact q4 i hi
      · show rNd T1 x a l (if e = E + 1 then n2 else L e)
        rw [lo e q1]
        exact rNd_of q5 (tr _ (by omega)) (tr _ (by omega)) (tr _ (by omega)) (tr _ (by omega)) (tr _ (by omega))
    · unfold iK
      rw [le1, t5, t5, sw_eq, sw_ne (by omega), h6, t8, t9]
      exact ⟨rfl, rfl, fun i hi => (lc1 i).symm, hw⟩
  have := Inv_cfS n2 0 T1 hI (by rw [t7 2 (by omega), sw_ne (by omega), sw_eq]) (by rw [t7 8 (by omega), sw_eq, if_pos rfl]) (fun i hi => by rw [if_pos rfl] at hi; rw [t7' i (by omega), if_pos rfl]) (by rw [if_pos rfl]; omega)
  exact this
theorem Inv_det {w : Int32} (h : Inv L C E B S) (hB : B + 1 < 50000) (hok : rDetOK S w (L E) n) : ∃ L' C' E', Inv L' C' E' (B + 1) (rDet S w (L E)) := by
  obtain ⟨c1, c2, c3⟩ := Inv_mCh h
  have k4 := h.2.2.2.2.2.2.2
  obtain ⟨p, hp⟩ : ∃ p, rMb (S 318) w (L E) = p + 1 := ⟨rMb (S 318) w (L E) - 1, by have := hok.1.2; omega⟩
  obtain ⟨hpn, hpx⟩ := rMb_hit _ _ _ _ hp
  unfold rDet
  rw [hp, show p + 1 - 1 = p by omega]
  have t8 : ∀ j, j < L E - 1 → rChS (sw S 315 6 (nI (L E - 1))) p (L E - 1) 318 j = S 318 (if j < p then j else j + 1) := fun j hj => by
    unfold rChS
    rw [sw_row (by omega)]
    by_cases b : j < p
    · rw [if_neg (fun z => by omega), if_pos b]
    · rw [if_pos ⟨rfl, by omega, hj⟩, if_neg b]
  refine Inv_conf h hB (fun a ha => by rw [rChS_row (by omega), sw_row (by omega)]) (fun j hj => by rw [rChS_row (by omega), sw_ne hj]) (by rw [rChS_row (by omega), sw_eq]) (by omega) ⟨fun i hi => ?_, fun i j hi hj z => ?_⟩ (fun i hi y hy z => ?_)
  · rw [t8 i hi]
    refine c3.1 _ ?_
    split <;> omega
  · rw [t8 i hi, t8 j hj] at z
    have := c3.2 _ _ (by split <;> omega) (by split <;> omega) z
    split at this <;> split at this <;> omega
  · rw [t8 i hi] at z
    rw [rChS_row (by omega), sw_row (by omega)]
    exact k4 _ (by split <;> omega) y hy z
theorem Inv_joinN (h : Inv L C E B S) (hx : x < 6) (hev : S 319 x = nI 0) : L E < 6 := by
  obtain ⟨c1, c2, c3⟩ := Inv_mCh h
  have k4 := h.2.2.2.2.2.2.2
  have hv : ∀ i, i < L E → (S 318 i).toNatClampNeg < 6 ∧ S 318 i = nI (S 318 i).toNatClampNeg ∧ ¬ (S 318 i).toNatClampNeg = x := fun i hi => by
    obtain ⟨y, hy, ey⟩ := c3.1 i hi
    rw [ey, nI_clamp (by omega)]
    exact ⟨hy, rfl, fun z => k4 i hi y hy ey (z ▸ hev)⟩
  have := inj_le 5 (L E) (fun i => if (S 318 i).toNatClampNeg < x then (S 318 i).toNatClampNeg else (S 318 i).toNatClampNeg - 1) (fun i hi => by
    obtain ⟨v1, v2, v3⟩ := hv i hi
    show (if (S 318 i).toNatClampNeg < x then (S 318 i).toNatClampNeg else (S 318 i).toNatClampNeg - 1) < 5
    split <;> omega) (fun i j hi hj z => by
    obtain ⟨v1, v2, v3⟩ := hv i hi
    obtain ⟨u1, u2, u3⟩ := hv j hj
    have z : (if (S 318 i).toNatClampNeg < x then (S 318 i).toNatClampNeg else (S 318 i).toNatClampNeg - 1) = if (S 318 j).toNatClampNeg < x then (S 318 j).toNatClampNeg else (S 318 j).toNatClampNeg - 1 := z
    have e : (S 318 i).toNatClampNeg = (S 318 j).toNatClampNeg := by
      split at z <;> split at z <;> omega
    exact c3.2 i j hi hj (by rw [v2, u2, e]))
  omega
theorem Inv_join {w : Int32} (h : Inv L C E B S) (hB : B + 1 < 50000) (hok : rJoinOK S w (L E) n) : ∃ L' C' E', Inv L' C' E' (B + 1) (rJoin S w.toNatClampNeg (L E)) := by
  obtain ⟨hb, hup, hev, hn0, hr50⟩ := hok
  obtain ⟨x, -, hx5, rfl⟩ := c_le hb.1 hb.2 (by omega) (by omega)
  have cx : (nI x).toNatClampNeg = x := nI_clamp (by omega)
  rw [cx] at hup hev ⊢
  have hlt := Inv_joinN h (show x < 6 by omega) hev
  obtain ⟨c1, c2, c3⟩ := Inv_mCh h
  have k4 := h.2.2.2.2.2.2.2
  unfold rJoin
  have t8 : sw (sw (sw S 318 (L E) (nI x)) 315 6 (nI (L E + 1))) 319 x (nI 1) 318 = sw S 318 (L E) (nI x) 318 := by rw [sw_row (by omega), sw_row (by omega)]
  have nx : ∀ i, i < L E → ¬ S 318 i = nI x := fun i hi z => k4 i hi x (by omega) z hev
  refine Inv_conf h hB (fun a ha => by rw [sw_row (by omega), sw_row (by omega), sw_row (by omega)]) (fun j hj => by rw [sw_row (by omega), sw_ne hj, sw_row (by omega)]) (by rw [sw_row (by omega), sw_eq]) (by omega) ⟨fun i hi => ?_, fun i j hi hj z => ?_⟩ (fun i hi y hy z => ?_)
  · rw [t8]
    by_cases b : i = L E
    · subst b; rw [sw_eq]; exact ⟨x, by omega, rfl⟩
    · rw [sw_ne b]; exact c3.1 i (by omega)
  · rw [t8] at z
    by_cases b : i = L E
    · by_cases b2 : j = L E
      · omega
      · rw [b, sw_eq, sw_ne b2] at z
        exact absurd z.symm (nx j (by omega))
    · by_cases b2 : j = L E
      · rw [b2, sw_eq, sw_ne b] at z
        exact absurd z (nx i (by omega))
      · rw [sw_ne b, sw_ne b2] at z
        exact c3.2 i j (by omega) (by omega) z
  · rw [t8] at z
    by_cases b : y = x
    · subst b; rw [sw_eq]; exact n10'
    · rw [sw_ne b, sw_row (by omega), sw_row (by omega)]
      by_cases b2 : i = L E
      · rw [b2, sw_eq] at z
        exact absurd ((nI_eq (by omega) (by omega)).mp z).symm b
      · rw [sw_ne b2] at z
        exact k4 i (by omega) y hy z
end I4
