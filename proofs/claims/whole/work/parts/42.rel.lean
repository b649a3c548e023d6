/-! ### class and reference: what it is that the class's cells (ints I, references R; kinds and lengths of M) say of the reference's ints S -/
def chR (a : Nat) : Prop := a = 253 ∨ a = 254 ∨ 345 ≤ a
/-- the chain at q: its epoch, length, nodes -/
def chRel (M : ck_M) (I : Nat → Nat → Int32) (R : Nat → Nat → Nat) (q : Nat) (ep len : Int32) (g : Nat → Int32) : Prop :=
  (q = 254 ∨ 345 ≤ q) ∧ ck_kd M q = 8 ∧ (R q 1 = 253 ∨ 345 ≤ R q 1) ∧ ck_kd M (R q 1) = 3 ∧ ck_ln M (R q 1) = 6 ∧ I q 0 = ep ∧ I q 2 = len ∧ ∃ n, n ≤ 6 ∧ len = nI n ∧ ∀ i, i < n → I (R q 1) i = g i
/-- the message at r: of each kind the fields that count -/
def gRel (M : ck_M) (I : Nat → Nat → Int32) (R : Nat → Nat → Nat) (r : Nat) (f : Nat → Int32) : Prop :=
  I r 0 = f 0 ∧ I r 1 = f 1 ∧ (f 0 = nI 1 → I r 3 = f 4 ∧ I r 4 = f 3 ∧ I r 5 = f 5 ∧ I r 6 = f 6) ∧ (f 0 = nI 2 → I r 3 = f 4 ∧ I r 4 = f 3 ∧ I r 5 = f 5) ∧ (f 0 = nI 3 → I r 2 = f 2 ∧ I r 7 = f 7 ∧ I r 5 = f 5 ∧ I r 6 = f 6 ∧ I r 3 = f 4 ∧ I r 4 = f 3) ∧ (f 0 = nI 4 → I r 2 = f 2 ∧ I r 7 = f 7) ∧
  (f 0 = nI 5 → I r 2 = f 2 ∧ I r 3 = f 4 ∧ I r 4 = f 3 ∧ I r 5 = f 5 ∧ I r 8 = f 8) ∧ (f 0 = nI 6 → I r 2 = f 2 ∧ I r 3 = f 4 ∧ I r 4 = f 3 ∧ I r 5 = f 5 ∧ I r 7 = f 7) ∧ (f 0 = nI 7 → I r 4 = f 3 ∧ I r 7 = f 7 ∧ I r 6 = f 6) ∧
  (f 0 = nI 8 → I r 2 = f 2 ∧ chRel M I R (R r 9) (f 2) (f 8) (fun i => f (9 + i))) ∧ (f 0 = nI 9 → I r 2 = f 2 ∧ I r 7 = f 7 ∧ (∀ c, c < 3 → I (r + 1) c = f (17 + c)) ∧ ∀ k, k < 4 → I (r + 2) k = f (9 + 2 * k) ∧ I (r + 3) k = f (9 + 2 * k + 1))
/-- node x -/
def nRel (M : ck_M) (S I : Nat → Nat → Int32) (R : Nat → Nat → Nat) (x : Nat) : Prop :=
  (I (257 + 9 * x) 0 = nI x ∧ I (257 + 9 * x) 1 = S 320 x ∧ I (257 + 9 * x) 2 = S 321 x ∧ I (257 + 9 * x) 3 = S 322 x) ∧ chRel M I R (R (257 + 9 * x) 4) (S 323 x) (S 324 x) (fun i => S 325 (6 * x + i)) ∧
  (I (257 + 9 * x) 5 = rBef S x ∧ I (257 + 9 * x) 6 = rBeh S x ∧ I (257 + 9 * x) 7 = if rTl S x then nI 1 else nI 0) ∧ (I (257 + 9 * x) 8 = S 326 x ∧ I (257 + 9 * x) 9 = S 327 x) ∧
  (∀ k, k < 4 → I (257 + 9 * x + 1) k = S 328 (4 * x + k) ∧ I (257 + 9 * x + 2) k = S 329 (4 * x + k)) ∧ (∀ c, c < 3 → I (257 + 9 * x + 7) c = S 330 (3 * x + c) ∧ I (257 + 9 * x + 8) c = S 331 (3 * x + c)) ∧
  ∀ i, i < lN' S x - aN S x → I (257 + 9 * x + 3) ((aN S x + 1 + i) % 8) = S 332 (8 * x + i) ∧ I (257 + 9 * x + 4) ((aN S x + 1 + i) % 8) = S 333 (8 * x + i) ∧ I (257 + 9 * x + 5) ((aN S x + 1 + i) % 8) = S 334 (8 * x + i) ∧ I (257 + 9 * x + 6) ((aN S x + 1 + i) % 8) = S 335 (8 * x + i)
def clRel (S I : Nat → Nat → Int32) (c : Nat) : Prop :=
  I (312 + c) 0 = nI c ∧ I (312 + c) 1 = S 336 c ∧ I (312 + c) 2 = S 337 c ∧ (¬ S 337 c = nI 0 → I (312 + c) 3 = if S 338 c = nI 0 then nI 1 else nI 0) ∧ I (312 + c) 4 = S 339 c ∧ I (312 + c) 5 = S 340 c ∧ I (312 + c) 6 = S 341 c ∧ I (312 + c) 7 = S 342 c ∧ I (312 + c) 8 = S 343 c ∧ I (312 + c) 9 = S 344 c
def kRel (M : ck_M) (S I : Nat → Nat → Int32) (R : Nat → Nat → Nat) : Prop := I 2 6 = S 315 1 ∧ I 2 0 = S 315 0 ∧ (∀ x, x < 6 → I 256 x = S 319 x) ∧ chRel M I R (R 2 5) (S 315 5) (S 315 6) (S 318)
def wRel (M : ck_M) (S I : Nat → Nat → Int32) (R : Nat → Nat → Nat) (n : Nat) : Prop := n ≤ 60 ∧ S 315 2 = nI n ∧ I 3 2 = nI n ∧ ((∀ i, i < 61 → isM (R 4 i)) ∧ (∀ i j, i < 61 → j < 61 → R 4 i = R 4 j → i = j) ∧ isM (R 3 1) ∧ ∀ i, i < 61 → ¬ R 4 i = R 3 1) ∧ ∀ i, i < n → gRel M I R (R 4 i) (fun f => S 316 (21 * i + f))
def cRel (M : ck_M) (S I : Nat → Nat → Int32) (R : Nat → Nat → Nat) (n : Nat) : Prop := cSh M ∧ cRf R ∧ wRel M S I R n ∧ (∀ x, x < 6 → nRel M S I R x) ∧ (∀ c, c < 3 → clRel S I c) ∧ kRel M S I R
section E1
variable {M : ck_M} {S T I J : Nat → Nat → Int32} {R P : Nat → Nat → Nat}
theorem chRel_of {q : Nat} {ep len : Int32} {g : Nat → Int32} (h : chRel M I R q ep len g) (hI : ∀ a, chR a → J a = I a) (hR : ∀ a, chR a → P a = R a) : chRel M J P q ep len g := by
  obtain ⟨h1, h2, h3, h4, h5, h6, h7, n, h8, h9, h10⟩ := h
  have e1 : P q = R q := hR q (by unfold chR; omega)
  have e2 : J q = I q := hI q (by unfold chR; omega)
  have e3 : J (R q 1) = I (R q 1) := hI _ (by unfold chR; omega)
  refine ⟨h1, h2, by rw [e1]; exact h3, by rw [e1]; exact h4, by rw [e1]; exact h5, by rw [e2]; exact h6, by rw [e2]; exact h7, n, h8, h9, fun i hi => by rw [e1, e3]; exact h10 i hi⟩
theorem chRel_g {q : Nat} {ep len ep' len' : Int32} {g g' : Nat → Int32} (h : chRel M I R q ep len g) (e1 : ep' = ep) (e2 : len' = len) (e3 : ∀ i, i < 6 → g' i = g i) : chRel M I R q ep' len' g' := by
  subst e1; subst e2
  obtain ⟨h1, h2, h3, h4, h5, h6, h7, n, h8, h9, h10⟩ := h
  exact ⟨h1, h2, h3, h4, h5, h6, h7, n, h8, h9, fun i hi => by rw [e3 i (by omega)]; exact h10 i hi⟩
theorem gRel_of {r : Nat} {f g : Nat → Int32} (h : gRel M I R r f) (hI : ∀ a, r ≤ a → a ≤ r + 3 → J a = I a) (hC : ∀ a, chR a → J a = I a) (hP : ∀ a, chR a → P a = R a) (hr : P r 9 = R r 9) (hf : ∀ j, j < 21 → g j = f j) : gRel M J P r g := by
  have e0 : J r = I r := hI r (by omega) (by omega)
  have e1 : J (r + 1) = I (r + 1) := hI _ (by omega) (by omega)
  have e2 : J (r + 2) = I (r + 2) := hI _ (by omega) (by omega)
  have e3 : J (r + 3) = I (r + 3) := hI _ (by omega) (by omega)
  unfold gRel at *
  rw [hf 0 (by omega), hf 1 (by omega), hf 2 (by omega), hf 3 (by omega), hf 4 (by omega), hf 5 (by omega), hf 6 (by omega), hf 7 (by omega), hf 8 (by omega), e0, e1, e2, e3, hr]
  obtain ⟨h1, h2, h3, h4, h5, h6, h7, h8, h9, h10, h11⟩ := h
  refine ⟨h1, h2, h3, h4, h5, h6, h7, h8, h9, fun q => ?_, fun q => ?_⟩
  · exact ⟨(h10 q).1, chRel_g (chRel_of (h10 q).2 hC hP) rfl rfl (fun i hi => hf _ (by omega))⟩
  · obtain ⟨k1, k2, k3, k4⟩ := h11 q
    exact ⟨k1, k2, fun c hc => by rw [hf _ (by omega)]; exact k3 c hc, fun k hk => by rw [hf _ (by omega), hf _ (by omega)]; exact k4 k hk⟩
theorem nRel_of {x : Nat} (h : nRel M S I R x) (hI : ∀ a, 257 + 9 * x ≤ a → a ≤ 257 + 9 * x + 8 → J a = I a) (hC : ∀ a, chR a → J a = I a) (hP : ∀ a, chR a → P a = R a) (hr : P (257 + 9 * x) 4 = R (257 + 9 * x) 4) (hS : ∀ a, 320 ≤ a → a ≤ 335 → T a = S a) : nRel M T J P x := by
  unfold nRel at *
  have ea : aN T x = aN S x := by unfold aN; rw [hS 327 (by omega) (by omega)]
  have el : lN' T x = lN' S x := by unfold lN'; rw [hS 326 (by omega) (by omega)]
  rw [ea, el, rBef_of (I := S) (hS 324 (by omega) (by omega)) (hS 325 (by omega) (by omega)), rBeh_of (I := S) (hS 324 (by omega) (by omega)) (hS 325 (by omega) (by omega)), rTl_of (I := S) (hS 324 (by omega) (by omega)) (hS 325 (by omega) (by omega)), hr]
  rw [hI (257 + 9 * x) (by omega) (by omega), hI (257 + 9 * x + 1) (by omega) (by omega), hI (257 + 9 * x + 2) (by omega) (by omega), hI (257 + 9 * x + 3) (by omega) (by omega), hI (257 + 9 * x + 4) (by omega) (by omega), hI (257 + 9 * x + 5) (by omega) (by omega), hI (257 + 9 * x + 6) (by omega) (by omega), hI (257 + 9 * x + 7) (by omega) (by omega), hI (257 + 9 * x + 8) (by omega) (by omega)]
  rw [hS 320 (by omega) (by omega), hS 321 (by omega) (by omega), hS 322 (by omega) (by omega), hS 323 (by omega) (by omega), hS 324 (by omega) (by omega), hS 325 (by omega) (by omega), hS 326 (by omega) (by omega), hS 327 (by omega) (by omega), hS 328 (by omega) (by omega), hS 329 (by omega) (by omega), hS 330 (by omega) (by omega), hS 331 (by omega) (by omega), hS 332 (by omega) (by omega), hS 333 (by omega) (by omega), hS 334 (by omega) (by omega), hS 335 (by omega) (by omega)]
  exact ⟨h.1, chRel_of h.2.1 hC hP, h.2.2⟩
theorem clRel_of {c : Nat} (h : clRel S I c) (hI : J (312 + c) = I (312 + c)) (hS : ∀ a, 336 ≤ a → a ≤ 344 → T a = S a) : clRel T J c := by
  unfold clRel at *
  rw [hI, hS 336 (by omega) (by omega), hS 337 (by omega) (by omega), hS 338 (by omega) (by omega), hS 339 (by omega) (by omega), hS 340 (by omega) (by omega), hS 341 (by omega) (by omega), hS 342 (by omega) (by omega), hS 343 (by omega) (by omega), hS 344 (by omega) (by omega)]
  exact h
theorem kRel_of (h : kRel M S I R) (h2 : J 2 = I 2) (h256 : J 256 = I 256) (hC : ∀ a, chR a → J a = I a) (hP : ∀ a, chR a → P a = R a) (hr : P 2 5 = R 2 5) (hS : ∀ j, ¬ j = 2 → T 315 j = S 315 j) (hS1 : T 318 = S 318) (hS2 : T 319 = S 319) : kRel M T J P := by
  unfold kRel at *
  rw [h2, h256, hr, hS 1 (by omega), hS 0 (by omega), hS 5 (by omega), hS 6 (by omega), hS1, hS2]
  exact ⟨h.1, h.2.1, h.2.2.1, chRel_of h.2.2.2 hC hP⟩
theorem cRf_of (h : cRf R) (h2 : ∀ j, ¬ j = 5 → P 2 j = R 2 j) (h3 : P 3 0 = R 3 0) (h255 : P 255 = R 255) (hn : ∀ x, x < 6 → ∀ j, ¬ j = 4 → P (257 + 9 * x) j = R (257 + 9 * x) j) (h311 : P 311 = R 311) (hm : ∀ r, isM r → ∀ j, ¬ j = 9 → P r j = R r j) : cRf P := by
  obtain ⟨⟨k1, k2, k3, k4, k5⟩, k6, k7, k8⟩ := h
  refine ⟨⟨by rw [h2 1 (by omega)]; exact k1, by rw [h2 2 (by omega)]; exact k2, by rw [h2 3 (by omega)]; exact k3, by rw [h2 4 (by omega)]; exact k4, by rw [h3]; exact k5⟩, fun x hx => ?_, by rw [h311]; exact k7, fun r hr => ?_⟩
  · rw [h255, hn x hx 10 (by omega), hn x hx 11 (by omega), hn x hx 12 (by omega), hn x hx 13 (by omega), hn x hx 14 (by omega), hn x hx 15 (by omega), hn x hx 16 (by omega), hn x hx 17 (by omega)]
    exact k6 x hx
  · rw [hm r hr 10 (by omega), hm r hr 11 (by omega), hm r hr 12 (by omega)]
    exact k8 r hr
end E1
theorem rSend_316 {S : Nat → Nat → Int32} {k t : Int32} {n j : Nat} (hn : n < 60) (hm : S 315 2 = nI n) : rSend S k t 316 j = if 21 * n ≤ j ∧ j < 21 * n + 21 then sw (sw S 317 0 k) 317 1 t 317 (j - 21 * n) else S 316 j := by
  unfold rSend
  rw [hm, if_neg (by rw [nI_leI (by omega) (by omega)]; omega), nI_clamp (by omega), sw_row (by omega)]
  unfold rCopyK
  by_cases h : 21 * n ≤ j ∧ j < 21 * n + 21
  · rw [if_pos ⟨rfl, h⟩, if_pos h]
  · rw [if_neg (fun q => h q.2), if_neg h, sw_row (by omega), sw_row (by omega)]
theorem rSend_full {S : Nat → Nat → Int32} {k t : Int32} (hm : S 315 2 = nI 60) : rSend S k t = sw (sw S 317 0 k) 317 1 t := by
  unfold rSend
  rw [hm, if_pos (by rw [nI_leI (by omega) (by omega)]; omega)]
theorem rSend_2 {S : Nat → Nat → Int32} {k t : Int32} {n : Nat} (hn : n < 60) (hm : S 315 2 = nI n) : rSend S k t 315 2 = nI (n + 1) := by
  unfold rSend
  rw [hm, if_neg (by rw [nI_leI (by omega) (by omega)]; omega), sw_eq, nI_add]
/-- A MESSAGE SENT: the draft's row is written, the size grows; the reference does the same -/
theorem rel_send {M : ck_M} {S T I J : Nat → Nat → Int32} {R P : Nat → Nat → Nat} {n : Nat} {k t : Int32} (h : cRel M S I R n) (hT : ∀ a, ¬ a = 317 → T a = S a) (hI : ∀ a, ¬ (a = 3 ∨ (R 4 n ≤ a ∧ a ≤ R 4 n + 3)) → J a = I a) (h3 : J 3 2 = if n < 60 then nI (n + 1) else nI n) (hP : ∀ a, ¬ a = R 4 n → P a = R a) (hP9 : ∀ j, ¬ j = 9 → P (R 4 n) j = R (R 4 n) j)
    (hg : gRel M J P (R 4 n) (fun f => sw (sw T 317 0 k) 317 1 t 317 f)) : cRel M (rSend T k t) J P (if n < 60 then n + 1 else n) := by
  obtain ⟨hs, hf, ⟨w1, w2, w3, ⟨w4, w5, w6, w7⟩, w8⟩, hn, hc, hk⟩ := h
  have hμ : isM (R 4 n) := w4 n (by omega)
  have bμ := isM_b hμ
  have T2 : T 315 2 = nI n := by rw [hT 315 (by omega)]; exact w2
  have hC : ∀ a, chR a → J a = I a := fun a ha => hI a (by unfold chR at ha; omega)
  have hPC : ∀ a, chR a → P a = R a := fun a ha => hP a (by unfold chR at ha; omega)
  have hrow : ∀ a, ¬ (a = 315 ∨ a = 316 ∨ a = 317) → rSend T k t a = S a := fun a ha => by rw [rSend_row ha, hT a (by omega)]
  have hP4 : P 4 = R 4 := hP 4 (by omega)
  have hP3 : P 3 = R 3 := hP 3 (by omega)
  have old : ∀ i, i < n → ∀ g : Nat → Int32, (∀ j, j < 21 → g j = S 316 (21 * i + j)) → gRel M J P (R 4 i) g := fun i hi g hgj => by
    have hne : ¬ R 4 i = R 4 n := fun q => by have := w5 i n (by omega) (by omega) q; omega
    have hμi := w4 i (by omega)
    have hap := isM_ne hμi hμ hne
    have bi := isM_b hμi
    exact gRel_of (w8 i hi) (fun a h1 h2 => hI a (by omega)) hC hPC (by rw [hP _ hne]) hgj
  refine ⟨hs, cRf_of hf (fun j hj => by rw [hP 2 (by omega)]) (by rw [hP3]) (hP 255 (by omega)) (fun x hx j hj => by rw [hP _ (by omega)]) (hP 311 (by omega)) (fun r hr j hj => ?_), ?_, fun x hx => nRel_of (hn x hx) (fun a h1 h2 => hI a (by omega)) hC hPC (by rw [hP _ (by omega)]) (fun a h1 h2 => hrow a (by omega)), fun c hc' => clRel_of (hc c hc') (hI _ (by omega)) (fun a h1 h2 => hrow a (by omega)), kRel_of hk (hI 2 (by omega)) (hI 256 (by omega)) hC hPC (by rw [hP 2 (by omega)]) (fun j hj => by rw [rSend_315 hj, hT 315 (by omega)]) (hrow 318 (by omega)) (hrow 319 (by omega))⟩
  · by_cases hrn : r = R 4 n
    · subst hrn; exact hP9 j hj
    · rw [hP r hrn]
  · by_cases b : n < 60
    · rw [if_pos b] at h3 ⊢
      refine ⟨by omega, rSend_2 b T2, h3, by rw [hP4, hP3]; exact ⟨w4, w5, w6, w7⟩, fun i hi => ?_⟩
      rw [hP4]
      by_cases hin : i = n
      · subst hin
        refine gRel_of hg (fun a _ _ => rfl) (fun a _ => rfl) (fun a _ => rfl) rfl (fun j hj => ?_)

        rw [rSend_316 b T2, if_pos (by omega), show 21 * i + j - 21 * i = j by omega]
      · refine old i (by omega) _ (fun j hj => ?_)

        rw [rSend_316 b T2, if_neg (by omega), hT 316 (by omega)]
    · rw [if_neg b] at h3 ⊢
      have hn60 : n = 60 := by omega
      subst hn60
      rw [rSend_full T2]
      refine ⟨by omega, by rw [sw_row (by omega), sw_row (by omega)]; exact T2, h3, by rw [hP4, hP3]; exact ⟨w4, w5, w6, w7⟩, fun i hi => ?_⟩
      rw [hP4]
      exact old i hi _ (fun j hj => by rw [sw_row (by omega), sw_row (by omega), hT 316 (by omega)])
