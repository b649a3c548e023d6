/-! ### the constructors: kinds and lengths of all that they make -/
def KD (a : Nat) : Nat := if a < 2 then 0 else if a = 2 then 2 else if a = 3 then 4 else if a = 4 then 7 else if a < 253 then (if (a - 5) % 4 = 0 then 6 else 3) else if a = 253 then 3 else if a = 254 then 8 else if a = 255 then 9 else if a = 256 then 5 else if a < 311 then (if (a - 257) % 9 = 0 then 10 else 3) else if a = 311 then 11 else if a < 315 then 12 else if a = 315 then 14 else if (319 ≤ a ∧ a ≤ 322) ∨ a = 337 ∨ a = 338 then 5 else 3
def LN (a : Nat) : Nat := if a < 2 then 0 else if a = 2 then 7 else if a = 3 then 3 else if a = 4 then 61 else if a < 253 then (if (a - 5) % 4 = 0 then 13 else if (a - 5) % 4 = 1 then 3 else 4) else if a = 253 then 6 else if a = 254 then 3 else if a = 255 then 6 else if a = 256 then 6 else if a < 311 then (if (a - 257) % 9 = 0 then 18 else if (a - 257) % 9 < 3 then 4 else if (a - 257) % 9 < 7 then 8 else 3) else if a = 311 then 3 else if a < 315 then 10 else if a = 315 then 34
  else if a = 316 then 1281 else if a = 317 then 21 else if a < 325 then 6 else if a = 325 then 36 else if a < 328 then 6 else if a < 330 then 24 else if a < 332 then 18 else if a < 336 then 48 else 3
def tM (s u : Nat) : ck_M := (s, u, fun a => if a < s + 2 then KD a else 0, fun a => if a < s + 2 then LN a else 0, fun _ _ => 0, fun _ _ => 0)
def fr (s : Nat) (I : Nat → Nat → Int32) (R : Nat → Nat → Nat) : Prop := ∀ a, s + 2 ≤ a → (∀ j, I a j = 0) ∧ ∀ j, R a j = 0
section NW
variable {xl : Nat} {xs : Nat → Int32} {d y : Nat} {Q : Option ck_V → ck_M → Prop} {es : List ck_E} {L : ck_L} {st : List ck_V} {pc len a b c s u : Nat} {R : Nat → Nat → Nat} {I : Nat → Nat → Int32}
theorem tM_sz : ck_sz (tM s u) = s := rfl
theorem tM_us : ck_us (tM s u) = u := rfl
theorem t_kd (h : a < s + 2) : ck_kd (tM s u) a = KD a := if_pos h
theorem t_ln (h : a < s + 2) : ck_ln (tM s u) a = LN a := if_pos h
theorem t_k {k : Nat} (h : a < s + 2) (hk : KD a = k) : ck_kd (tM s u) a = k := (if_pos h).trans hk
theorem t_l {k : Nat} (h : a < s + 2) (hk : LN a = k) : ck_ln (tM s u) a = k := (if_pos h).trans hk
theorem fr_up (h : fr s I R) : fr (s + 1) I R := fun a ha => h a (by omega)
theorem fr_to {t : Nat} (h : fr s I R) (ht : s ≤ t) : fr t I R := fun a ha => h a (by omega)
theorem fr_sw {r k : Nat} {x : Int32} (hr : r < s + 2) (h : fr s I R) : fr s (sw I r k x) R := fun a ha => ⟨fun j => by rw [sw_row (by omega)]; exact (h a ha).1 j, (h a ha).2⟩
theorem fr_swR {r k x : Nat} (hr : r < s + 2) (h : fr s I R) : fr s I (swR R r k x) := fun a ha => ⟨(h a ha).1, fun j => by rw [swR_row (by omega)]; exact (h a ha).2 j⟩
theorem al_t {k l : Nat} (h : fr s I R) (hk : KD (s + 2) = k) (hl : LN (s + 2) = l) : ck_al (cB (tM s u) I R) k l = cB (tM (s + 1) (u + l)) I R := by
  have e1 : alI I (s + 2) = I := by
    funext a j
    unfold alI
    split
    · next z => rw [z, (h (s + 2) (by omega)).1 j]
    · rfl
  have e2 : alR R (s + 2) = R := by
    funext a j
    unfold alR
    split
    · next z => rw [z, (h (s + 2) (by omega)).2 j]
    · rfl
  have e3 : (fun a => if a = s + 2 then k else if a < s + 2 then KD a else 0) = fun a => if a < s + 1 + 2 then KD a else 0 := by
    funext a
    by_cases z : a = s + 2
    · rw [if_pos z, if_pos (by omega), z, hk]
    · rw [if_neg z]
      by_cases z2 : a < s + 2
      · rw [if_pos z2, if_pos (by omega)]
      · rw [if_neg z2, if_neg (by omega)]
  have e4 : (fun a => if a = s + 2 then l else if a < s + 2 then LN a else 0) = fun a => if a < s + 1 + 2 then LN a else 0 := by
    funext a
    by_cases z : a = s + 2
    · rw [if_pos z, if_pos (by omega), z, hl]
    · rw [if_neg z]
      by_cases z2 : a < s + 2
      · rw [if_pos z2, if_pos (by omega)]
      · rw [if_neg z2, if_neg (by omega)]
  rw [cB_al, tM_sz, e1, e2]
  show ((s + 1, u + l, (fun a => if a = s + 2 then k else if a < s + 2 then KD a else 0), (fun a => if a = s + 2 then l else if a < s + 2 then LN a else 0), I, R) : ck_M) = _
  rw [e3, e4]
  rfl
theorem ite_le {p : Prop} [Decidable p] {a b n : Nat} (ha : a ≤ n) (hb : b ≤ n) : (if p then a else b) ≤ n := by
  by_cases h : p
  · rw [if_pos h]; exact ha
  · rw [if_neg h]; exact hb
theorem LN_le (a : Nat) : LN a ≤ 1281 := by
  unfold LN
  repeat' (first | apply ite_le | decide)
theorem wq_oinit {M : ck_M} {k r : Nat} (h8 : st.length ≤ 8) (hr : ¬ r = 0) (hd : 1 ≤ d) : ck_wp ck_P xl xs d y Q ((pc, .invokespecial k, len, 0, b, c) :: es) L (.inr r :: st) M = ck_wp ck_P xl xs d y Q es L st M := by
  rw [wp_oinit h8]
  exact propext ⟨fun q => q.2, fun q => ⟨⟨hr, hd⟩, q⟩⟩
theorem wq_new {k : Nat} (hf : fr s I R) (hk : KD (s + 2) = a) (hl : LN (s + 2) = b) : ck_wp ck_P xl xs d y Q ((pc, .new k, len, a, b, c) :: es) L st (cB (tM s u) I R) = ck_wp ck_P xl xs d y Q es L (.inr (s + 2) :: st) (cB (tM (s + 1) (u + b)) I R) := by
  rw [wp_new, al_t hf hk hl]; rfl
theorem n_neg {n : Nat} (hn : n ≤ 65536) : ¬ nI n < 0 ∧ (nI n).toNatClampNeg ≤ 65536 := by
  rw [nI_clamp (by omega)]
  refine ⟨?_, hn⟩
  rw [← nI_0, nI_ltI (by omega) (by omega)]; omega
theorem wq_newa {t : ArrayType} {n : Nat} (hn : n ≤ 65536) (hf : fr s I R) (hk : KD (s + 2) = a) (hl : LN (s + 2) = n) : ck_wp ck_P xl xs d y Q ((pc, .newarray t, len, a, b, c) :: es) L (.inl (nI n) :: st) (cB (tM s u) I R) = ck_wp ck_P xl xs d y Q es L (.inr (s + 2) :: st) (cB (tM (s + 1) (u + n)) I R) := by
  rw [wp_newa, nI_clamp (by omega), al_t hf hk hl]
  have h2 := (n_neg hn).1
  exact propext ⟨fun q => q.2, fun q => ⟨⟨h2, hn⟩, q⟩⟩
theorem wq_newq {k : Nat} {n : Nat} (hn : n ≤ 65536) (hf : fr s I R) (hk : KD (s + 2) = a) (hl : LN (s + 2) = n) : ck_wp ck_P xl xs d y Q ((pc, .anewarray k, len, a, b, c) :: es) L (.inl (nI n) :: st) (cB (tM s u) I R) = ck_wp ck_P xl xs d y Q es L (.inr (s + 2) :: st) (cB (tM (s + 1) (u + n)) I R) := by
  rw [wp_newq, nI_clamp (by omega), al_t hf hk hl]
  have h2 := (n_neg hn).1
  exact propext ⟨fun q => q.2, fun q => ⟨⟨h2, hn⟩, q⟩⟩
theorem wq_put0 {k r : Nat} {x : Int32} (hr : r < s + 2) (hk : KD r = a) : ck_wp ck_P xl xs d y Q ((pc, .putfield k, len, a, b, 0) :: es) L (.inl x :: .inr r :: st) (cB (tM s u) I R) = ck_wp ck_P xl xs d y Q es L st (cB (tM s u) (sw I r b x) R) := by
  rw [wp_put0, cB_wi, cB_kd, t_k hr hk]
  exact propext ⟨fun q => q.2, fun q => ⟨rfl, q⟩⟩
theorem wq_put1 {k r z : Nat} (hr : r < s + 2) (hk : KD r = a) : ck_wp ck_P xl xs d y Q ((pc, .putfield k, len, a, b, 1) :: es) L (.inr z :: .inr r :: st) (cB (tM s u) I R) = ck_wp ck_P xl xs d y Q es L st (cB (tM s u) I (swR R r b z)) := by
  rw [wp_put1, cB_wr, cB_kd, t_k hr hk]
  exact propext ⟨fun q => q.2, fun q => ⟨rfl, q⟩⟩
theorem wq_put2 {k r : Nat} {x : Int32} (hr : r < s + 2) (hk : KD r = a) (hx : x = nI 0 ∨ x = nI 1) : ck_wp ck_P xl xs d y Q ((pc, .putfield k, len, a, b, 2) :: es) L (.inl x :: .inr r :: st) (cB (tM s u) I R) = ck_wp ck_P xl xs d y Q es L st (cB (tM s u) (sw I r b x) R) := by
  rw [wp_put2, cB_wi, cB_kd, t_k hr hk]
  exact propext ⟨fun q => q.2.2, fun q => ⟨rfl, hx, q⟩⟩
theorem wq_get1 {k r : Nat} (hr : r < s + 2) (hk : KD r = a) : ck_wp ck_P xl xs d y Q ((pc, .getfield k, len, a, b, 1) :: es) L (.inr r :: st) (cB (tM s u) I R) = ck_wp ck_P xl xs d y Q es L (.inr (R r b) :: st) (cB (tM s u) I R) := by
  rw [wp_get1, cB_rv, cB_kd, t_k hr hk]
  exact propext ⟨fun q => q.2, fun q => ⟨rfl, q⟩⟩
theorem wq_get0 {k r : Nat} (hr : r < s + 2) (hk : KD r = a) : ck_wp ck_P xl xs d y Q ((pc, .getfield k, len, a, b, 0) :: es) L (.inr r :: st) (cB (tM s u) I R) = ck_wp ck_P xl xs d y Q es L (.inl (I r b) :: st) (cB (tM s u) I R) := by
  rw [wp_get0, cB_iv, cB_kd, t_k hr hk]
  exact propext ⟨fun q => q.2, fun q => ⟨rfl, q⟩⟩
theorem wq_iast {x r : Nat} {v : Int32} (hr : r < s + 2) (hk : KD r = 3) (hx : x < LN r) : ck_wp ck_P xl xs d y Q ((pc, .iastore, len, a, b, c) :: es) L (.inl v :: .inl (nI x) :: .inr r :: st) (cB (tM s u) I R) = ck_wp ck_P xl xs d y Q es L st (cB (tM s u) (sw I r x v) R) := by
  have hle := LN_le r
  rw [wp_iast, nI_clamp (by have := LN_le r; omega), cB_wi, cB_kd, cB_ln, t_k hr hk, t_ln hr]
  refine propext ⟨fun q => q.2.2, fun q => ⟨rfl, ?_, q⟩⟩
  simp (disch := omega) only [cin]
theorem wq_iald {x r : Nat} (hr : r < s + 2) (hk : KD r = 3) (hx : x < LN r) : ck_wp ck_P xl xs d y Q ((pc, .iaload, len, 0, b, c) :: es) L (.inl (nI x) :: .inr r :: st) (cB (tM s u) I R) = ck_wp ck_P xl xs d y Q es L (.inl (I r x) :: st) (cB (tM s u) I R) := by
  have hle := LN_le r
  rw [wp_iald, nI_clamp (by have := LN_le r; omega), cB_iv, cB_kd, cB_ln, t_k hr hk, t_ln hr]
  refine propext ⟨fun q => q.2.2, fun q => ⟨rfl, ?_, q⟩⟩
  simp (disch := omega) only [cin]
theorem wq_bast {x r : Nat} {v : Int32} (hr : r < s + 2) (hk : KD r = 5) (hx : x < LN r) (hv : v = nI 0 ∨ v = nI 1) : ck_wp ck_P xl xs d y Q ((pc, .bastore, len, a, b, c) :: es) L (.inl v :: .inl (nI x) :: .inr r :: st) (cB (tM s u) I R) = ck_wp ck_P xl xs d y Q es L st (cB (tM s u) (sw I r x v) R) := by
  have hle := LN_le r
  rw [wp_bast, nI_clamp (by have := LN_le r; omega), cB_wi, cB_kd, cB_ln, t_k hr hk, t_ln hr]
  refine propext ⟨fun q => q.2.2.2, fun q => ⟨rfl, ?_, hv, q⟩⟩
  simp (disch := omega) only [cin]
theorem wq_aast {x r v : Nat} (hr : r < s + 2) (hk : KD r = a) (hx : x < LN r) (hv : v < s + 2) (hv2 : KD v = b) : ck_wp ck_P xl xs d y Q ((pc, .aastore, len, a, b, c) :: es) L (.inr v :: .inl (nI x) :: .inr r :: st) (cB (tM s u) I R) = ck_wp ck_P xl xs d y Q es L st (cB (tM s u) I (swR R r x v)) := by
  have hle := LN_le r
  rw [wp_aast, nI_clamp (by have := LN_le r; omega), cB_wr, cB_kd, cB_kd, cB_ln, t_k hr hk, t_ln hr, t_k hv hv2]
  refine propext ⟨fun q => q.2.2.2, fun q => ⟨rfl, ?_, rfl, q⟩⟩
  simp (disch := omega) only [cin]
theorem wq_callI0 {k r : Nat} (ha : ¬ a = 0) (h8 : st.length ≤ 8) (hr : r < s + 2) (hk : KD r = a) : ck_wp ck_P xl xs d y Q ((pc, .invokespecial k, len, a, b, 0) :: es) L (.inr r :: st) (cB (tM s u) I R) = ck_Cl ck_P xl xs d b [.inr r] (cB (tM s u) I R) (fun v M1 => ck_wp ck_P xl xs d y Q es L (v.toList ++ st) M1) := by
  rw [wp_callI0 ha h8, cB_kd, t_k hr hk]
  exact propext ⟨fun q => q.2, fun q => ⟨rfl, q⟩⟩
theorem wq_callI1 {k r : Nat} {v1 : ck_V} (ha : ¬ a = 0) (h8 : st.length ≤ 8) (hr : r < s + 2) (hk : KD r = a) : ck_wp ck_P xl xs d y Q ((pc, .invokespecial k, len, a, b, 1) :: es) L (v1 :: .inr r :: st) (cB (tM s u) I R) = ck_Cl ck_P xl xs d b [.inr r, v1] (cB (tM s u) I R) (fun v M1 => ck_wp ck_P xl xs d y Q es L (v.toList ++ st) M1) := by
  rw [wp_callI1 ha h8, cB_kd, t_k hr hk]
  exact propext ⟨fun q => q.2, fun q => ⟨rfl, q⟩⟩
theorem wq_callI2 {k r : Nat} {v1 v2 : ck_V} (ha : ¬ a = 0) (h8 : st.length ≤ 8) (hr : r < s + 2) (hk : KD r = a) : ck_wp ck_P xl xs d y Q ((pc, .invokespecial k, len, a, b, 2) :: es) L (v2 :: v1 :: .inr r :: st) (cB (tM s u) I R) = ck_Cl ck_P xl xs d b [.inr r, v1, v2] (cB (tM s u) I R) (fun v M1 => ck_wp ck_P xl xs d y Q es L (v.toList ++ st) M1) := by
  rw [wp_callI2 ha h8, cB_kd, t_k hr hk]
  exact propext ⟨fun q => q.2, fun q => ⟨rfl, q⟩⟩
theorem wq_callI3 {k r : Nat} {v1 v2 v3 : ck_V} (ha : ¬ a = 0) (h8 : st.length ≤ 8) (hr : r < s + 2) (hk : KD r = a) : ck_wp ck_P xl xs d y Q ((pc, .invokespecial k, len, a, b, 3) :: es) L (v3 :: v2 :: v1 :: .inr r :: st) (cB (tM s u) I R) = ck_Cl ck_P xl xs d b [.inr r, v1, v2, v3] (cB (tM s u) I R) (fun v M1 => ck_wp ck_P xl xs d y Q es L (v.toList ++ st) M1) := by
  rw [wp_callI3 ha h8, cB_kd, t_k hr hk]
  exact propext ⟨fun q => q.2, fun q => ⟨rfl, q⟩⟩
theorem wq_callV1 {k r : Nat} {v1 : ck_V} (ha : ¬ a = 0) (h8 : st.length ≤ 8) (hr : r < s + 2) (hk : KD r = a) : ck_wp ck_P xl xs d y Q ((pc, .invokevirtual k, len, a, b, 1) :: es) L (v1 :: .inr r :: st) (cB (tM s u) I R) = ck_Cl ck_P xl xs d b [.inr r, v1] (cB (tM s u) I R) (fun v M1 => ck_wp ck_P xl xs d y Q es L (v.toList ++ st) M1) := by
  rw [wp_callV1 ha h8, cB_kd, t_k hr hk]
  exact propext ⟨fun q => q.2, fun q => ⟨rfl, q⟩⟩
theorem wq_callS1 {M : ck_M} {k : Nat} {v1 : ck_V} (h8 : st.length ≤ 8) : ck_wp ck_P xl xs d y Q ((pc, .invokestatic k, len, 1, b, 1) :: es) L (v1 :: st) M = ck_Cl ck_P xl xs d b [v1] M (fun v M1 => ck_wp ck_P xl xs d y Q es L (v.toList ++ st) M1) := wp_callS1 h8
theorem wq_callS2 {M : ck_M} {k : Nat} {v1 v2 : ck_V} (h8 : st.length ≤ 8) : ck_wp ck_P xl xs d y Q ((pc, .invokestatic k, len, 1, b, 2) :: es) L (v2 :: v1 :: st) M = ck_Cl ck_P xl xs d b [v1, v2] M (fun v M1 => ck_wp ck_P xl xs d y Q es L (v.toList ++ st) M1) := wp_callS2 h8
end NW
