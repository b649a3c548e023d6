/-! ### what always holds of the reference: chains by their epochs (lengths L, nodes C), the newest epoch E, a bound B of all numbers -/
def eOK (L : Nat → Nat) (C : Nat → Nat → Int32) (E : Nat) : Prop := ∀ e, e ≤ E → L e ≤ 6 ∧ (∀ i, i < L e → ∃ y, y < 6 ∧ C e i = nI y) ∧ ∀ i j, i < L e → j < L e → C e i = C e j → i = j
/-- a message -/
def gI (L : Nat → Nat) (C : Nat → Nat → Int32) (E B : Nat) (f : Nat → Int32) : Prop := gOK f B ∧ (f 0 = nI 3 → ∃ e, e ≤ E ∧ f 2 = nI e ∧ ∃ j, j < L e ∧ f 1 = C e j) ∧ (f 0 = nI 8 → ∃ e, e ≤ E ∧ f 2 = nI e ∧ f 8 = nI (L e) ∧ (∀ j, j < L e → f (9 + j) = C e j) ∧ ∃ j, j < L e ∧ f 1 = C e j) ∧ (f 0 = nI 5 → ∃ y, y < 6 ∧ f 8 = nI y)
def iM (L : Nat → Nat) (C : Nat → Nat → Int32) (E B : Nat) (S : Nat → Nat → Int32) : Prop := ∃ n, n ≤ 60 ∧ S 315 2 = nI n ∧ ∀ i, i < n → gI L C E B (fun f => S 316 (21 * i + f))
/-- a node -/
def iN1 (L : Nat → Nat) (C : Nat → Nat → Int32) (E B : Nat) (S : Nat → Nat → Int32) (x : Nat) : Prop := ∃ a l e, e ≤ E ∧ 1 ≤ L e ∧ S 323 x = nI e ∧ (∀ i, i < L e → S 325 (6 * x + i) = C e i) ∧ rNd S x a l (L e) ∧ l ≤ B ∧ (S 321 x = nI 0 ∨ S 321 x = nI 1)
def iN (L : Nat → Nat) (C : Nat → Nat → Int32) (E B : Nat) (S : Nat → Nat → Int32) : Prop := ∀ x, x < 6 → iN1 L C E B S x
def iC (S : Nat → Nat → Int32) : Prop := ∀ c, c < 3 → ¬ S 337 c = nI 0 → ∃ k, k < 4 ∧ S 339 c = nI k
def iK (L : Nat → Nat) (C : Nat → Nat → Int32) (E : Nat) (S : Nat → Nat → Int32) : Prop := S 315 6 = nI (L E) ∧ S 315 5 = nI E ∧ (∀ i, i < L E → S 318 i = C E i) ∧ ∀ i, i < L E → ∀ y, y < 6 → S 318 i = nI y → ¬ S 319 y = nI 0
def Inv (L : Nat → Nat) (C : Nat → Nat → Int32) (E B : Nat) (S : Nat → Nat → Int32) : Prop := (E ≤ B + 1 ∧ B < 50000 ∧ eOK L C E) ∧ iM L C E B S ∧ iN L C E B S ∧ iC S ∧ iK L C E S
section I1
variable {L : Nat → Nat} {C : Nat → Nat → Int32} {E B : Nat} {S T : Nat → Nat → Int32} {n x a l n' : Nat} {f g : Nat → Int32}
theorem gI_of (h : gI L C E B f) (e : ∀ j, j < 21 → g j = f j) (h6 : ∀ e, e ≤ E → L e ≤ 6) : gI L C E B g := by
  obtain ⟨h1, h2, h3, h4⟩ := h
  refine ⟨gOK_of h1 e, fun q => ?_, fun q => ?_, fun q => ?_⟩
  · rw [e 0 (by omega)] at q
    rw [e 2 (by omega), e 1 (by omega)]; exact h2 q
  · rw [e 0 (by omega)] at q
    obtain ⟨k, k1, k2, k3, k4, k5⟩ := h3 q
    have := h6 k k1
    exact ⟨k, k1, by rw [e 2 (by omega)]; exact k2, by rw [e 8 (by omega)]; exact k3, fun j hj => by rw [e _ (by omega)]; exact k4 j hj, by rw [e 1 (by omega)]; exact k5⟩
  · rw [e 0 (by omega)] at q
    rw [e 8 (by omega)]; exact h4 q
theorem gOK_mono {B' : Nat} (h : gOK f B) (hB : B ≤ B') : gOK f B' := by
  obtain ⟨kind, g1, g2, g3, g4, g5, g6, g8, g9⟩ := h
  exact ⟨kind, g1, g2, g3, g4, g5, g6, g8, fun q => by
    obtain ⟨v, v1, v2⟩ := g9 q
    exact ⟨v, by omega, v2⟩⟩
theorem Inv_mono {B' : Nat} (h : Inv L C E B S) (hB : B ≤ B') (hB' : B' < 50000) : Inv L C E B' S := by
  obtain ⟨⟨e1, e2, e3⟩, ⟨n, m1, m2, m3⟩, hN, hC, hK⟩ := h
  exact ⟨⟨by omega, hB', e3⟩, ⟨n, m1, m2, fun i hi => ⟨gOK_mono (m3 i hi).1 hB, (m3 i hi).2⟩⟩, fun x hx => by
    obtain ⟨a, l, e, q1, q2, q3, q4, q5, q6, q7⟩ := hN x hx
    exact ⟨a, l, e, q1, q2, q3, q4, q5, by omega, q7⟩, hC, hK⟩
/-- rows that matter are the same -/
theorem iN1_of (h : iN1 L C E B S x) (h1 : T 321 = S 321) (h2 : T 323 = S 323) (h3 : T 324 = S 324) (h4 : T 325 = S 325) (h5 : T 326 = S 326) (h6 : T 327 = S 327) (h7 : T 332 = S 332) (h8 : T 334 = S 334) : iN1 L C E B T x := by
  obtain ⟨a, l, e, q1, q2, q3, q4, q5, q6, q7⟩ := h
  exact ⟨a, l, e, q1, q2, by rw [h2]; exact q3, by rw [h4]; exact q4, rNd_of q5 h3 h5 h6 h7 h8, q6, by rw [h1]; exact q7⟩
theorem iN1_eq (he : eOK L C E) (h : iN1 L C E B S x) (hE : nEq S T x) : iN1 L C E B T x := by
  obtain ⟨a, l, e, q1, q2, q3, q4, q5, q6, q7⟩ := h
  have := (he e q1).1
  obtain ⟨⟨z0, z1, z2, z3, z4, z6, z7⟩, z5, -⟩ := id hE
  exact ⟨a, l, e, q1, q2, by rw [z3]; exact q3, fun i hi => by rw [z5 i (by omega)]; exact q4 i hi, rNd_eq q5 hE, q6, by rw [z1]; exact q7⟩
theorem Inv_of (h : Inv L C E B S) (hr : ∀ a, (a = 316 ∨ a = 318 ∨ a = 319 ∨ a = 321 ∨ a = 323 ∨ a = 324 ∨ a = 325 ∨ a = 326 ∨ a = 327 ∨ a = 332 ∨ a = 334 ∨ a = 337 ∨ a = 339) → T a = S a) (h5 : ∀ j, (j = 2 ∨ j = 5 ∨ j = 6) → T 315 j = S 315 j) : Inv L C E B T := by
  obtain ⟨he, ⟨n, m1, m2, m3⟩, hN, hC, hK⟩ := h
  refine ⟨he, ⟨n, m1, by rw [h5 2 (by omega)]; exact m2, by rw [hr 316 (by omega)]; exact m3⟩, fun x hx => iN1_of (hN x hx) (hr _ (by omega)) (hr _ (by omega)) (hr _ (by omega)) (hr _ (by omega)) (hr _ (by omega)) (hr _ (by omega)) (hr _ (by omega)) (hr _ (by omega)), fun c hc => by rw [hr 337 (by omega), hr 339 (by omega)]; exact hC c hc, ?_⟩
  unfold iK
  rw [h5 5 (by omega), h5 6 (by omega), hr 318 (by omega), hr 319 (by omega)]
  exact hK
/-- a message is sent -/
theorem Inv_send (h : Inv L C E B S) (hT : ∀ a, ¬ a = 317 → T a = S a) {k t : Int32} (hg : gI L C E B (fun f => sw (sw T 317 0 k) 317 1 t 317 f)) : Inv L C E B (rSend T k t) := by
  have hT' : Inv L C E B T := Inv_of h (fun a ha => hT a (by omega)) (fun j _ => by rw [hT 315 (by omega)])
  obtain ⟨he, ⟨n, m1, m2, m3⟩, hN, hC, hK⟩ := id hT'
  have h6 := fun e he' => (he.2.2 e he').1
  have hrow : ∀ a, ¬ (a = 315 ∨ a = 316 ∨ a = 317) → rSend T k t a = T a := fun a ha => rSend_row ha
  refine ⟨he, ?_, fun x hx => iN1_of (hN x hx) (hrow _ (by omega)) (hrow _ (by omega)) (hrow _ (by omega)) (hrow _ (by omega)) (hrow _ (by omega)) (hrow _ (by omega)) (hrow _ (by omega)) (hrow _ (by omega)), fun c hc => by rw [hrow 337 (by omega), hrow 339 (by omega)]; exact hC c hc, ?_⟩
  · by_cases b : n < 60
    · refine ⟨n + 1, by omega, rSend_2 b m2, fun i hi => ?_⟩
      by_cases e : i = n
      · subst e
        refine gI_of hg (fun j hj => ?_) h6
        rw [rSend_316 b m2, if_pos (by omega), show 21 * i + j - 21 * i = j by omega]
      · refine gI_of (m3 i (by omega)) (fun j hj => ?_) h6
        rw [rSend_316 b m2, if_neg (by omega)]
    · have e : n = 60 := by omega
      subst e
      rw [rSend_full m2]
      exact ⟨60, by omega, by rw [sw_row (by omega), sw_row (by omega)]; exact m2, fun i hi => gI_of (m3 i hi) (fun j hj => by rw [sw_row (by omega), sw_row (by omega)]) h6⟩
  · unfold iK
    rw [rSend_315 (by omega), rSend_315 (by omega), hrow 318 (by omega), hrow 319 (by omega)]
    exact hK
/-- a node as deliveries want it -/
theorem iN_nOK (h : Inv L C E B S) (hx : x < 6) : ∃ a l e, e ≤ E ∧ 1 ≤ L e ∧ L e ≤ 6 ∧ S 323 x = nI e ∧ (∀ i, i < L e → S 325 (6 * x + i) = C e i) ∧ rNd S x a l (L e) ∧ l ≤ B ∧ rLen S x = L e ∧ nCh S x ∧ nDi S x ∧ (S 321 x = nI 0 ∨ S 321 x = nI 1) := by
  obtain ⟨he, -, hN, -⟩ := h
  obtain ⟨a, l, e, q1, q2, q3, q4, q5, q6, q7⟩ := hN x hx
  obtain ⟨c1, c2, c3⟩ := he.2.2 e q1
  have el : rLen S x = L e := rLen_eq c1 q5.2.2.1
  exact ⟨a, l, e, q1, q2, c1, q3, q4, q5, q6, el, fun i hi => by rw [el] at hi; rw [q4 i hi]; exact c2 i hi, fun i j hi hj z => by rw [el] at hi hj; rw [q4 i hi, q4 j hj] at z; exact c3 i j hi hj z, q7⟩
theorem Inv_nOK (h : Inv L C E B S) : ∀ x, x < 6 → nOK S B x := fun x hx => by
  obtain ⟨a, l, e, q1, q2, q3, q4, q5, q6, q7, q8, q9, q10, q11⟩ := iN_nOK h hx
  exact ⟨a, l, L e, q6, q2, q7, q9, q10, q11⟩
theorem Inv_ndA (h : Inv L C E B S) : ndA S := nOK_ndA (Inv_nOK h)
theorem Inv_q3 (h : Inv L C E B S) (hg : gI L C E B f) (h3 : f 0 = nI 3) (hx : x < 6) (h1 : f 1 = nI x) (h2 : f 2 = S 323 x) : 1 ≤ rq S x := by
  obtain ⟨a, l, e, q1, q2, q3, q4, q5, q6, q7, q8, q9, q10, q11⟩ := iN_nOK h hx
  obtain ⟨e', k1, k2, j, k3, k4⟩ := hg.2.1 h3
  have hb := h.1
  have ee : e' = e := (nI_eq (by omega) (by omega)).mp (by rw [← k2, h2, q4])
  subst ee
  unfold rq
  rw [q8]
  have := rQ_ge (S 325) x (L e') j k3 (by rw [q5 j k3, ← k4]; exact h1)
  omega
theorem Inv_q8 (h : Inv L C E B S) (hg : gI L C E B f) (h8 : f 0 = nI 8) (h1 : f 1 = nI x) : cOK f x := by
  obtain ⟨e, k1, k2, k3, k4, j, k5, k6⟩ := hg.2.2.1 h8
  obtain ⟨c1, c2, c3⟩ := h.1.2.2 e k1
  exact ⟨L e, by omega, c1, k3, fun i hi => by rw [k4 i hi]; exact c2 i hi, fun i j hi hj z => by rw [k4 i hi, k4 j hj] at z; exact c3 i j hi hj z, j, k5, by rw [k4 j k5, ← k6]; exact h1⟩
end I1
