/-! ### class and reference, call by call -/
theorem rSh_of {M N : ck_M} (h : rSh M) (hk : ∀ a, 315 ≤ a → a ≤ 344 → ck_kd N a = ck_kd M a ∧ ck_ln N a = ck_ln M a) (hr : ∀ k, ck_rv N 315 k = ck_rv M 315 k) : rSh N := by
  unfold rSh
  rw [(hk 315 (by omega) (by omega)).1, (hk 316 (by omega) (by omega)).1, (hk 316 (by omega) (by omega)).2, (hk 317 (by omega) (by omega)).1, (hk 317 (by omega) (by omega)).2, (hk 318 (by omega) (by omega)).1, (hk 318 (by omega) (by omega)).2, (hk 319 (by omega) (by omega)).1, (hk 319 (by omega) (by omega)).2, (hk 320 (by omega) (by omega)).1, (hk 320 (by omega) (by omega)).2, (hk 321 (by omega) (by omega)).1, (hk 321 (by omega) (by omega)).2, (hk 322 (by omega) (by omega)).1, (hk 322 (by omega) (by omega)).2, (hk 323 (by omega) (by omega)).1, (hk 323 (by omega) (by omega)).2, (hk 324 (by omega) (by omega)).1, (hk 324 (by omega) (by omega)).2, (hk 325 (by omega) (by omega)).1, (hk 325 (by omega) (by omega)).2, (hk 326 (by omega) (by omega)).1, (hk 326 (by omega) (by omega)).2, (hk 327 (by omega) (by omega)).1, (hk 327 (by omega) (by omega)).2, (hk 328 (by omega) (by omega)).1, (hk 328 (by omega) (by omega)).2, (hk 329 (by omega) (by omega)).1, (hk 329 (by omega) (by omega)).2, (hk 330 (by omega) (by omega)).1, (hk 330 (by omega) (by omega)).2, (hk 331 (by omega) (by omega)).1, (hk 331 (by omega) (by omega)).2, (hk 332 (by omega) (by omega)).1, (hk 332 (by omega) (by omega)).2, (hk 333 (by omega) (by omega)).1, (hk 333 (by omega) (by omega)).2, (hk 334 (by omega) (by omega)).1, (hk 334 (by omega) (by omega)).2, (hk 335 (by omega) (by omega)).1, (hk 335 (by omega) (by omega)).2, (hk 336 (by omega) (by omega)).1, (hk 336 (by omega) (by omega)).2, (hk 337 (by omega) (by omega)).1, (hk 337 (by omega) (by omega)).2, (hk 338 (by omega) (by omega)).1, (hk 338 (by omega) (by omega)).2, (hk 339 (by omega) (by omega)).1, (hk 339 (by omega) (by omega)).2, (hk 340 (by omega) (by omega)).1, (hk 340 (by omega) (by omega)).2, (hk 341 (by omega) (by omega)).1, (hk 341 (by omega) (by omega)).2, (hk 342 (by omega) (by omega)).1, (hk 342 (by omega) (by omega)).2, (hk 343 (by omega) (by omega)).1, (hk 343 (by omega) (by omega)).2, (hk 344 (by omega) (by omega)).1, (hk 344 (by omega) (by omega)).2]
  rw [hr 3, hr 4, hr 7, hr 8, hr 9, hr 10, hr 11, hr 12, hr 13, hr 14, hr 15, hr 16, hr 17, hr 18, hr 19, hr 20, hr 21, hr 22, hr 23, hr 24, hr 25, hr 26, hr 27, hr 28, hr 29, hr 30, hr 31, hr 32, hr 33]
  exact h
/-- the reference's ints, the rest of the class -/
def mix (I S : Nat → Nat → Int32) : Nat → Nat → Int32 := fun a => if 315 ≤ a ∧ a ≤ 344 then S a else I a
theorem mix_row {I S : Nat → Nat → Int32} {a : Nat} (h : ¬ (315 ≤ a ∧ a ≤ 344)) : mix I S a = I a := if_neg h
theorem mix_in {I S : Nat → Nat → Int32} {a : Nat} (h : 315 ≤ a ∧ a ≤ 344) : mix I S a = S a := if_pos h
theorem rB_cB {M : ck_M} {I S : Nat → Nat → Int32} {R : Nat → Nat → Nat} : rB (cB M I R) S = cB M (mix I S) R := rfl
theorem mix_self {I S : Nat → Nat → Int32} (h : ∀ a, 315 ≤ a → a ≤ 344 → I a = S a) : mix I S = I := by
  funext a
  unfold mix
  split
  · next z => exact (h a z.1 z.2).symm
  · rfl
section LA
variable {xl : Nat} {xs : Nat → Int32} {d b : Nat} {M N Mm : ck_M} {R P : Nat → Nat → Nat} {S I J T : Nat → Nat → Int32} {n : Nat}
theorem rel_mix (h : cRel M S I R n) : cRel M S (mix I T) R n := by
  obtain ⟨hs, hf, ⟨w1, w2, w3, w4, w8⟩, hn, hcl, hk⟩ := h
  have hC : ∀ a, chR a → mix I T a = I a := fun a ha => mix_row (by unfold chR at ha; omega)
  refine ⟨hs, hf, ⟨w1, w2, by rw [mix_row (by omega)]; exact w3, w4, fun i hi => ?_⟩, fun x hx => nRel_of (hn x hx) (fun a h1 h2 => mix_row (by omega)) hC (fun _ _ => rfl) rfl (fun _ _ _ => rfl), fun c hc => clRel_of (hcl c hc) (mix_row (by omega)) (fun _ _ _ => rfl), kRel_of hk (mix_row (by omega)) (mix_row (by omega)) hC (fun _ _ => rfl) rfl (fun _ _ => rfl) rfl rfl⟩
  have bm := isM_b (w4.1 i (by omega))
  exact gRel_of (w8 i hi) (fun a h1 h2 => mix_row (by omega)) hC (fun _ _ => rfl) rfl (fun _ _ => rfl)
/-- after b calls -/
def StP (b : Nat) (Mm : ck_M) (S : Nat → Nat → Int32) (M : ck_M) (I : Nat → Nat → Int32) (R : Nat → Nat → Nat) (n : Nat) : Prop := Mm = cB M I R ∧ cRel M S I R n ∧ mOK M ∧ (∀ a, 315 ≤ a → a ≤ 344 → I a = S a) ∧ rSh Mm ∧ (∃ L C E, Inv L C E b S) ∧ ck_sz M ≤ 343 + 2 * b ∧ ck_us M ≤ 10000 + 9 * b
def St (b : Nat) (Mm : ck_M) : Prop := ∃ S M I R n, StP b Mm S M I R n
/-- a call of both: one answer -/
def Bo (xl : Nat) (xs : Nat → Int32) (b : Nat) (Mm : ck_M) (y1 : Nat) (L1 : ck_L) (y2 : Nat) (L2 : ck_L) : Prop := ∃ v N1 N2, (∀ Q : Option ck_V → ck_M → Prop, ck_Ev ck_P xl xs 9 y1 0 L1 [] Mm Q = Q (some (.inl v)) N1) ∧ (∀ Q : Option ck_V → ck_M → Prop, ck_Ev ck_P xl xs 9 y2 0 L2 [] N1 Q = Q (some (.inl v)) N2) ∧ ck_kd N1 315 = 14 ∧ St (b + 1) N2
theorem Bo_mk {y1 y2 : Nat} {L1 L2 : ck_L} {v : Int32} (hst : StP b Mm S M I R n) (hk : kW xl xs 9 y1 L1 M R I T v) (hr : ∀ N, rSh N → ∀ Q : Option ck_V → ck_M → Prop, ck_Ev ck_P xl xs 9 y2 0 L2 [] (rB N S) Q = Q (some (.inl v)) (rB N T)) (hI : ∃ L C E, Inv L C E (b + 1) T) : Bo xl xs b Mm y1 L1 y2 L2 := by
  obtain ⟨e, hc, hm, hf, hsh, -, hsz, hus⟩ := hst
  subst e
  obtain ⟨N, J, P, m, h1, h2, h3, h4, h5, h6, h7, h8⟩ := hk
  have sh1 : rSh (cB N J P) := rSh_of hsh (fun a g1 g2 => h5 a (by omega)) (fun k => by show P 315 k = R 315 k; rw [h7 315 (by omega) (by omega)])
  have e1 : cB N J P = rB (cB N J P) S := by
    rw [rB_cB, mix_self (fun a g1 g2 => (h6 a g1 g2).trans (hf a g1 g2))]
  refine ⟨v, cB N J P, cB N (mix J T) P, h8, fun Q => ?_, sh1.1, T, N, mix J T, P, m, rfl, rel_mix h1, h2, fun a g1 g2 => mix_in ⟨g1, g2⟩, rSh_of sh1 (fun _ _ _ => ⟨rfl, rfl⟩) (fun _ => rfl), hI, by omega, by omega⟩
  have := hr (cB N J P) sh1 Q
  rw [← e1] at this
  exact this
theorem St_kd (h : St b Mm) : ck_kd Mm 2 = 2 := by
  obtain ⟨S, M, I, R, n, e, hc, -⟩ := h
  subst e
  exact s_2 hc.1
theorem st_up {L : Nat → Nat} {C : Nat → Nat → Int32} {E : Nat} (hb : b < 600) (h : Inv L C E b S) : ∃ L C E, Inv L C E (b + 1) S := ⟨L, C, E, Inv_mono h (by omega) (by omega)⟩
theorem Bo_write (hst : St b Mm) (hb : b < 600) (c k v : Int32) : Bo xl xs b Mm 2 [some (.inr 2), some (.inl c), some (.inl k), some (.inl v), none] 82 [some (.inr 315), some (.inl c), some (.inl k), some (.inl v)] := by
  obtain ⟨S, M, I, R, n, hst⟩ := hst
  obtain ⟨e, hc, hm, hf, hsh, ⟨L, C, E, hI⟩, hsz, hus⟩ := id hst
  obtain ⟨i1, i2, i3⟩ := Inv_mCh hI
  have w := hc.2.2.1
  by_cases ok : rWOK S c k v
  · obtain ⟨c', -, hc3, rfl⟩ := c_le ok.1.1.1 ok.1.1.2 (by omega) (by omega)
    exact Bo_mk hst (kW_of hm (k_K_write (d := 6) hc (show c' < 3 by omega) ok i1 i2 i3)) (fun N hN Q => c_M_write (d := 7) hN ⟨n, w.1, w.2.1⟩ i1 i2 ok (show c' < 3 by omega)) (st_up hb (Inv_write hI (show c' < 3 by omega) ok))
  · exact Bo_mk hst (kW_of hm (k_K_write_no (d := 7) hc ok)) (fun N hN Q => c_M_write_no (d := 7) hN ok) (st_up hb hI)
theorem Bo_read (hst : St b Mm) (hb : b < 600) (c k v : Int32) : Bo xl xs b Mm 7 [some (.inr 2), some (.inl c), some (.inl k), some (.inl v), none] 86 [some (.inr 315), some (.inl c), some (.inl k), some (.inl v)] := by
  obtain ⟨S, M, I, R, n, hst⟩ := hst
  obtain ⟨e, hc, hm, hf, hsh, ⟨L, C, E, hI⟩, hsz, hus⟩ := id hst
  have w := hc.2.2.1
  by_cases ok : rROK S c k v
  · obtain ⟨c', -, hc3, rfl⟩ := c_le ok.1.1.1 ok.1.1.2 (by omega) (by omega)
    exact Bo_mk hst (kW_of hm (k_K_read (d := 6) hc (show c' < 3 by omega) ok)) (fun N hN Q => c_M_read (d := 7) hN ⟨n, w.1, w.2.1⟩ ok (show c' < 3 by omega)) (st_up hb (Inv_read hI (show c' < 3 by omega) ok))
  · exact Bo_mk hst (kW_of hm (k_K_read_no (d := 7) hc ok)) (fun N hN Q => c_M_read_no (d := 7) hN ok) (st_up hb hI)
theorem Inv_gI {L : Nat → Nat} {C : Nat → Nat → Int32} {E B i : Nat} (h : Inv L C E B S) (hn : n ≤ 60) (hm : S 315 2 = nI n) (hi : i < n) : gI L C E B (fun f => S 316 (21 * i + f)) := by
  obtain ⟨-, ⟨n2, m1, m2, m3⟩, -⟩ := h
  have e : n2 = n := (nI_eq (by omega) (by omega)).mp (m2.symm.trans hm)
  subst e
  exact m3 i hi
theorem Bo_deliver (hst : St b Mm) (hb : b < 600) (i : Int32) : Bo xl xs b Mm 9 [some (.inr 2), some (.inl i), none] 87 [some (.inr 315), some (.inl i)] := by
  obtain ⟨S, M, I, R, n, hst⟩ := hst
  obtain ⟨e, hc, hm, hf, hsh, ⟨L, C, E, hI⟩, hsz, hus⟩ := id hst
  obtain ⟨w1, w2, -⟩ := hc.2.2.1
  have hnok := Inv_nOK hI
  refine Bo_mk hst (kW_of hm (k_K_deliver (d := 3) (B := b) hc hnok (by omega) (fun j hj => (Inv_gI hI w1 w2 hj).1) (fun j hj h3 x hx h1 h2 => Inv_q3 hI (Inv_gI hI w1 w2 hj) h3 hx h1 h2) (fun j hj h8 x hx h1 => Inv_q8 hI (Inv_gI hI w1 w2 hj) h8 h1) i)) (fun N hN Q => c_M_deliver (d := 2) (B := b) hN w1 w2 (fun x hx => ?_) (by omega) (fun j hj => (Inv_gI hI w1 w2 hj).1) i) ?_
  · obtain ⟨a, l, n', q1, q2, q3, -⟩ := hnok x hx
    exact ⟨a, l, n', q1, q2, q3⟩
  · by_cases z : nI 0 ≤ i ∧ i < nI n
    · rw [if_pos z]
      obtain ⟨j, hj, rfl⟩ := c_lt z.1 z.2 (by omega)
      rw [nI_clamp (by omega)]
      exact ⟨L, C, E, Inv_deliver hI (by omega) w2 w1 hj⟩
    · rw [if_neg z]; exact st_up hb hI
theorem Bo_drop (hst : St b Mm) (hb : b < 600) (i : Int32) : Bo xl xs b Mm 10 [some (.inr 2), some (.inl i)] 115 [some (.inr 315), some (.inl i)] := by
  obtain ⟨S, M, I, R, n, hst⟩ := hst
  obtain ⟨e, hc, hm, hf, hsh, ⟨L, C, E, hI⟩, hsz, hus⟩ := id hst
  obtain ⟨w1, w2, -⟩ := hc.2.2.1
  refine Bo_mk hst (kW_of hm (k_K_drop (d := 8) hc i)) (fun N hN Q => c_M_drop (d := 7) hN w1 w2 i) ?_
  by_cases z : (nI 0 ≤ i ∧ i < nI n) ∧ ¬ S 316 (21 * i.toNatClampNeg) = nI 8
  · rw [if_pos z]
    obtain ⟨j, hj, rfl⟩ := c_lt z.1.1 z.1.2 (by omega)
    rw [nI_clamp (by omega)]
    exact st_up hb (Inv_take hI w2 w1 hj).1
  · rw [if_neg z]; exact st_up hb hI
theorem Bo_duplicate (hst : St b Mm) (hb : b < 600) (i : Int32) : Bo xl xs b Mm 11 [some (.inr 2), some (.inl i)] 116 [some (.inr 315), some (.inl i), none] := by
  obtain ⟨S, M, I, R, n, hst⟩ := hst
  obtain ⟨e, hc, hm, hf, hsh, ⟨L, C, E, hI⟩, hsz, hus⟩ := id hst
  obtain ⟨w1, w2, -⟩ := hc.2.2.1
  refine Bo_mk hst (kW_of hm (k_K_duplicate (d := 6) hc i)) (fun N hN Q => c_M_duplicate (d := 7) hN w1 w2 i) ?_
  by_cases z : (nI 0 ≤ i ∧ i < nI n) ∧ n < 60
  · rw [if_pos z]
    obtain ⟨j, hj, rfl⟩ := c_lt z.1.1 z.1.2 (by omega)
    rw [nI_clamp (by omega)]
    exact st_up hb (Inv_dup hI w2 z.2 hj)
  · rw [if_neg z]; exact st_up hb hI
theorem Bo_tick (hst : St b Mm) (hb : b < 600) (i : Int32) : Bo xl xs b Mm 12 [some (.inr 2), some (.inl i), none] 117 [some (.inr 315), some (.inl i), none] := by
  obtain ⟨S, M, I, R, n, hst⟩ := hst
  obtain ⟨e, hc, hm, hf, hsh, ⟨L, C, E, hI⟩, hsz, hus⟩ := id hst
  obtain ⟨w1, w2, -⟩ := hc.2.2.1
  obtain ⟨i1, i2, i3⟩ := Inv_mCh hI
  by_cases ok : rTickOK i
  · obtain ⟨k, h1, h2, rfl⟩ := c_le ok.1 ok.2 (by omega) (by omega)
    exact Bo_mk hst (kW_of hm (k_K_tick (d := 4) hc ⟨h1, h2⟩ (fun x hx => by
      obtain ⟨a, l, n', q1, q2, q3, q4, -⟩ := Inv_nOK hI x hx
      exact ⟨⟨a, l, n', q1⟩, q4⟩) i1 i2 i3)) (fun N hN Q => c_M_tick (d := 4) hN i1 ⟨n, w1, w2⟩ (Inv_ndA hI) i2 ⟨h1, h2⟩) (st_up hb (Inv_tickN k S hI))
  · exact Bo_mk hst (kW_of hm (k_K_tick_no (d := 4) hc ok)) (fun N hN Q => c_M_tick_no (d := 4) hN ok) (st_up hb hI)
theorem Bo_crash (hst : St b Mm) (hb : b < 600) (i : Int32) : Bo xl xs b Mm 15 [some (.inr 2), some (.inl i)] 119 [some (.inr 315), some (.inl i)] := by
  obtain ⟨S, M, I, R, n, hst⟩ := hst
  obtain ⟨e, hc, hm, hf, hsh, ⟨L, C, E, hI⟩, hsz, hus⟩ := id hst
  refine Bo_mk hst (kW_of hm (k_K_crash (d := 8) hc (Inv_ndA hI) i)) (fun N hN Q => c_M_crash (d := 8) hN i) ?_
  split
  · exact st_up hb (Inv_up hI)
  · exact st_up hb hI
theorem Bo_detect (hst : St b Mm) (hb : b < 600) (i : Int32) : Bo xl xs b Mm 16 [some (.inr 2), some (.inl i)] 120 [some (.inr 315), some (.inl i), none, none] := by
  obtain ⟨S, M, I, R, n, hst⟩ := hst
  obtain ⟨e, hc, hm, hf, hsh, ⟨L, C, E, hI⟩, hsz, hus⟩ := id hst
  obtain ⟨w1, w2, -⟩ := hc.2.2.1
  obtain ⟨i1, i2, i3⟩ := Inv_mCh hI
  by_cases ok : rDetOK S i (L E) n
  · exact Bo_mk hst (k_K_detect (d := 6) hm hc i1 i2 i3 ok) (fun N hN Q => c_M_detect (d := 7) hN w2 w1 i1 i2 ok) (Inv_det hI (by omega) ok)
  · exact Bo_mk hst (k_K_detect_no (d := 6) hm hc i1 i2 ok) (fun N hN Q => c_M_detect_no (d := 7) hN w2 w1 i1 i2 ok) (st_up hb hI)
theorem Bo_join (hst : St b Mm) (hb : b < 600) (i : Int32) : Bo xl xs b Mm 19 [some (.inr 2), some (.inl i)] 123 [some (.inr 315), some (.inl i)] := by
  obtain ⟨S, M, I, R, n, hst⟩ := hst
  obtain ⟨e, hc, hm, hf, hsh, ⟨L, C, E, hI⟩, hsz, hus⟩ := id hst
  obtain ⟨w1, w2, -⟩ := hc.2.2.1
  obtain ⟨i1, i2, i3⟩ := Inv_mCh hI
  by_cases ok : rJoinOK S i (L E) n
  · obtain ⟨x, -, hx, ex⟩ := c_le ok.1.1 ok.1.2 (by omega) (by omega)
    have hlt : L E < 6 := Inv_joinN (x := x) hI (by omega) (by have := ok.2.2.1; rw [ex, nI_clamp (by omega)] at this; exact this)
    exact Bo_mk hst (k_K_join (d := 6) hm hc hlt i2 ok) (fun N hN Q => c_M_join (d := 7) hN w2 w1 (by omega) i2 ok) (Inv_join hI (by omega) ok)
  · exact Bo_mk hst (k_K_join_no (d := 6) hm hc i1 i2 ok) (fun N hN Q => c_M_join_no (d := 7) hN w2 w1 i1 i2 ok) (st_up hb hI)
theorem kW_id {y1 : Nat} {L1 : ck_L} {v : Int32} (hm : mOK M) (hc : cRel M S I R n) (h : ∀ Q : Option ck_V → ck_M → Prop, ck_Ev ck_P xl xs 9 y1 0 L1 [] (cB M I R) Q = Q (some (.inl v)) (cB M I R)) : kW xl xs 9 y1 L1 M R I S v := kW_of hm ⟨I, R, n, hc, fun _ _ _ => rfl, fun _ _ => rfl, h⟩
theorem Bo_messages (hst : St b Mm) (hb : b < 600) : Bo xl xs b Mm 20 [some (.inr 2)] 124 [some (.inr 315)] := by
  obtain ⟨S, M, I, R, n, hst⟩ := hst
  obtain ⟨e, hc, hm, hf, hsh, ⟨L, C, E, hI⟩, hsz, hus⟩ := id hst
  exact Bo_mk hst (kW_id hm hc (fun Q => c_K_messages (d := 9) hc)) (fun N hN Q => c_M_messages (d := 9) hN) (st_up hb hI)
theorem Bo_message (hst : St b Mm) (hb : b < 600) (i : Int32) : Bo xl xs b Mm 21 [some (.inr 2), some (.inl i), none] 125 [some (.inr 315), some (.inl i), none, none, none] := by
  obtain ⟨S, M, I, R, n, hst⟩ := hst
  obtain ⟨e, hc, hm, hf, hsh, ⟨L, C, E, hI⟩, hsz, hus⟩ := id hst
  obtain ⟨w1, w2, -⟩ := hc.2.2.1
  by_cases z : nI 0 ≤ i ∧ i < nI n
  · obtain ⟨j, hj, rfl⟩ := c_lt z.1 z.2 (by omega)
    exact Bo_mk hst (kW_id hm hc (fun Q => c_K_message (d := 8) hc hj (Inv_gI hI w1 w2 hj).1)) (fun N hN Q => c_M_message (d := 7) hN w1 w2 hj) (st_up hb hI)
  · exact Bo_mk hst (kW_id hm hc (fun Q => c_K_message_no (d := 8) hc z)) (fun N hN Q => c_M_message_no (d := 7) hN w1 w2 z) (st_up hb hI)
theorem Bo_chain (hst : St b Mm) (hb : b < 600) (i : Int32) : Bo xl xs b Mm 22 [some (.inr 2), some (.inl i)] 126 [some (.inr 315), some (.inl i)] := by
  obtain ⟨S, M, I, R, n, hst⟩ := hst
  obtain ⟨e, hc, hm, hf, hsh, ⟨L, C, E, hI⟩, hsz, hus⟩ := id hst
  obtain ⟨i1, i2, i3⟩ := Inv_mCh hI
  exact Bo_mk hst (kW_id hm hc (fun Q => c_K_chain (d := 8) hc i1 i2)) (fun N hN Q => c_M_chain (d := 8) hN i1 i2 i) (st_up hb hI)
theorem Bo_node (hst : St b Mm) (hb : b < 600) (i w : Int32) : Bo xl xs b Mm 23 [some (.inr 2), some (.inl i), some (.inl w), none] 127 [some (.inr 315), some (.inl i), some (.inl w)] := by
  obtain ⟨S, M, I, R, n, hst⟩ := hst
  obtain ⟨e, hc, hm, hf, hsh, ⟨L, C, E, hI⟩, hsz, hus⟩ := id hst
  by_cases z : (nI 0 ≤ i ∧ i ≤ nI 5) ∧ (nI 0 ≤ w ∧ w ≤ nI 5)
  · obtain ⟨x, -, hx, rfl⟩ := c_le z.1.1 z.1.2 (by omega) (by omega)
    obtain ⟨w', -, hw, rfl⟩ := c_le z.2.1 z.2.2 (by omega) (by omega)
    obtain ⟨a, l, n', q1, -⟩ := Inv_nOK hI x (by omega)
    exact Bo_mk hst (kW_id hm hc (fun Q => c_K_node (d := 8) hc q1 hw)) (fun N hN Q => c_M_node (d := 8) hN q1 hw) (st_up hb hI)
  · exact Bo_mk hst (kW_id hm hc (fun Q => c_K_node_no (d := 8) hc z)) (fun N hN Q => c_M_node_no (d := 8) hN z) (st_up hb hI)
theorem Bo_clean (hst : St b Mm) (hb : b < 600) (i w : Int32) : Bo xl xs b Mm 24 [some (.inr 2), some (.inl i), some (.inl w)] 128 [some (.inr 315), some (.inl i), some (.inl w)] := by
  obtain ⟨S, M, I, R, n, hst⟩ := hst
  obtain ⟨e, hc, hm, hf, hsh, ⟨L, C, E, hI⟩, hsz, hus⟩ := id hst
  by_cases z : (nI 0 ≤ i ∧ i ≤ nI 5) ∧ (nI 0 ≤ w ∧ w ≤ nI 3)
  · obtain ⟨x, -, hx, rfl⟩ := c_le z.1.1 z.1.2 (by omega) (by omega)
    obtain ⟨w', -, hw, rfl⟩ := c_le z.2.1 z.2.2 (by omega) (by omega)
    exact Bo_mk hst (kW_id hm hc (fun Q => c_K_clean (d := 8) hc (show x < 6 by omega) (show w' < 4 by omega))) (fun N hN Q => c_M_clean (d := 8) hN (show x < 6 by omega) (show w' < 4 by omega)) (st_up hb hI)
  · exact Bo_mk hst (kW_id hm hc (fun Q => c_K_clean_no (d := 8) z)) (fun N hN Q => c_M_clean_no (d := 8) hN z) (st_up hb hI)
theorem Bo_value (hst : St b Mm) (hb : b < 600) (i w : Int32) : Bo xl xs b Mm 25 [some (.inr 2), some (.inl i), some (.inl w)] 129 [some (.inr 315), some (.inl i), some (.inl w)] := by
  obtain ⟨S, M, I, R, n, hst⟩ := hst
  obtain ⟨e, hc, hm, hf, hsh, ⟨L, C, E, hI⟩, hsz, hus⟩ := id hst
  by_cases z : (nI 0 ≤ i ∧ i ≤ nI 5) ∧ (nI 0 ≤ w ∧ w ≤ nI 3)
  · obtain ⟨x, -, hx, rfl⟩ := c_le z.1.1 z.1.2 (by omega) (by omega)
    obtain ⟨w', -, hw, rfl⟩ := c_le z.2.1 z.2.2 (by omega) (by omega)
    exact Bo_mk hst (kW_id hm hc (fun Q => c_K_value (d := 8) hc (show x < 6 by omega) (show w' < 4 by omega))) (fun N hN Q => c_M_value (d := 8) hN (show x < 6 by omega) (show w' < 4 by omega)) (st_up hb hI)
  · exact Bo_mk hst (kW_id hm hc (fun Q => c_K_value_no (d := 8) z)) (fun N hN Q => c_M_value_no (d := 8) hN z) (st_up hb hI)
theorem Bo_client (hst : St b Mm) (hb : b < 600) (i w : Int32) : Bo xl xs b Mm 26 [some (.inr 2), some (.inl i), some (.inl w), none] 130 [some (.inr 315), some (.inl i), some (.inl w)] := by
  obtain ⟨S, M, I, R, n, hst⟩ := hst
  obtain ⟨e, hc, hm, hf, hsh, ⟨L, C, E, hI⟩, hsz, hus⟩ := id hst
  by_cases z : (nI 0 ≤ i ∧ i ≤ nI 2) ∧ (nI 0 ≤ w ∧ w ≤ nI 3)
  · obtain ⟨x, -, hx, rfl⟩ := c_le z.1.1 z.1.2 (by omega) (by omega)
    obtain ⟨w', -, hw, rfl⟩ := c_le z.2.1 z.2.2 (by omega) (by omega)
    exact Bo_mk hst (kW_id hm hc (fun Q => c_K_client (d := 8) hc (show x < 3 by omega) hw)) (fun N hN Q => c_M_client (d := 8) hN (show x < 3 by omega) hw) (st_up hb hI)
  · exact Bo_mk hst (kW_id hm hc (fun Q => c_K_client_no (d := 8) hc z)) (fun N hN Q => c_M_client_no (d := 8) hN z) (st_up hb hI)
end LA
