/-! ### the reference: its object lies at 315, its arrays at 316 .. 344; its methods change ints alone -/
/-- the memory with other ints in the reference's cells -/
def rB (M : ck_M) (I : Nat → Nat → Int32) : ck_M := (M.1, M.2.1, M.2.2.1, M.2.2.2.1, fun a => if 315 ≤ a ∧ a ≤ 344 then I a else M.2.2.2.2.1 a, M.2.2.2.2.2)
def sw (I : Nat → Nat → Int32) (r k : Nat) (x : Int32) : Nat → Nat → Int32 := fun a j => if a = r ∧ j = k then x else I a j
theorem sw_row {I : Nat → Nat → Int32} {r k a : Nat} {x : Int32} (h : ¬ a = r) : sw I r k x a = I a := by
  funext j
  unfold sw
  rw [if_neg (fun q => h q.1)]
theorem sw_eq {I : Nat → Nat → Int32} {r k : Nat} {x : Int32} : sw I r k x r k = x := if_pos ⟨rfl, rfl⟩
theorem sw_ne {I : Nat → Nat → Int32} {r k j : Nat} {x : Int32} (h : ¬ j = k) : sw I r k x r j = I r j := if_neg (fun q => h q.2)
/-- the scratch message into row n -/
def rCopyK (I : Nat → Nat → Int32) (n k : Nat) : Nat → Nat → Int32 := fun a j => if a = 316 ∧ 21 * n ≤ j ∧ j < 21 * n + k then I 317 (j - 21 * n) else I a j
theorem rCopyK_row {I : Nat → Nat → Int32} {n k a : Nat} (h : ¬ a = 316) : rCopyK I n k a = I a := by
  funext j
  exact if_neg (fun q => h q.1)
/-- row n into the scratch message -/
def rTakeM (I : Nat → Nat → Int32) (n k : Nat) : Nat → Nat → Int32 := fun a j => if a = 317 ∧ j < k then I 316 (21 * n + j) else I a j
theorem rTakeM_row {I : Nat → Nat → Int32} {n k a : Nat} (h : ¬ a = 317) : rTakeM I n k a = I a := by
  funext j
  exact if_neg (fun q => h q.1)
/-- the rows behind one moved up -/
def rShift (I : Nat → Nat → Int32) (lo k : Nat) : Nat → Nat → Int32 := fun a j => if a = 316 ∧ lo ≤ j ∧ j < k then I 316 (j + 21) else I a j
theorem rShift_row {I : Nat → Nat → Int32} {lo k a : Nat} (h : ¬ a = 316) : rShift I lo k a = I a := by
  funext j
  exact if_neg (fun q => h q.1)
/-- a node's pending updates moved up -/
def rPsh (I : Nat → Nat → Int32) (x k : Nat) : Nat → Nat → Int32 := fun a j => if 332 ≤ a ∧ a ≤ 335 ∧ 8 * x ≤ j ∧ j < 8 * x + k then I a (j + 1) else I a j
theorem rPsh_row {I : Nat → Nat → Int32} {x k a : Nat} (h : ¬ (332 ≤ a ∧ a ≤ 335)) : rPsh I x k a = I a := by
  funext j
  exact if_neg (fun q => h ⟨q.1, q.2.1⟩)
theorem rB_iv {M : ck_M} {I : Nat → Nat → Int32} {r k : Nat} (h : 315 ≤ r ∧ r ≤ 344) : ck_iv (rB M I) r k = I r k := by
  show (if 315 ≤ r ∧ r ≤ 344 then I r else _) k = _
  rw [if_pos h]
theorem rB_wi {M : ck_M} {I : Nat → Nat → Int32} {r k : Nat} {x : Int32} (h : 315 ≤ r ∧ r ≤ 344) : ck_wi (rB M I) r k x = rB M (sw I r k x) := by
  have : (fun a j => if a = r ∧ j = k then x else (if 315 ≤ a ∧ a ≤ 344 then I a else M.2.2.2.2.1 a) j) = fun a => if 315 ≤ a ∧ a ≤ 344 then sw I r k x a else M.2.2.2.2.1 a := by
    funext a j
    by_cases ha : 315 ≤ a ∧ a ≤ 344
    · simp only [ha, and_self, if_true, sw]
    · have : ¬ a = r := fun q => ha (by rw [q]; exact h)
      simp only [ha, if_false, this, false_and]
  unfold rB ck_wi
  simp only [this]
theorem ri_315 {M : ck_M} {I : Nat → Nat → Int32} {k : Nat} : ck_iv (rB M I) 315 k = I 315 k := rB_iv (by omega)
theorem rw_315 {M : ck_M} {I : Nat → Nat → Int32} {k : Nat} {x : Int32} : ck_wi (rB M I) 315 k x = rB M (sw I 315 k x) := rB_wi (by omega)
theorem ri_316 {M : ck_M} {I : Nat → Nat → Int32} {k : Nat} : ck_iv (rB M I) 316 k = I 316 k := rB_iv (by omega)
theorem rw_316 {M : ck_M} {I : Nat → Nat → Int32} {k : Nat} {x : Int32} : ck_wi (rB M I) 316 k x = rB M (sw I 316 k x) := rB_wi (by omega)
theorem ri_317 {M : ck_M} {I : Nat → Nat → Int32} {k : Nat} : ck_iv (rB M I) 317 k = I 317 k := rB_iv (by omega)
theorem rw_317 {M : ck_M} {I : Nat → Nat → Int32} {k : Nat} {x : Int32} : ck_wi (rB M I) 317 k x = rB M (sw I 317 k x) := rB_wi (by omega)
theorem ri_318 {M : ck_M} {I : Nat → Nat → Int32} {k : Nat} : ck_iv (rB M I) 318 k = I 318 k := rB_iv (by omega)
theorem rw_318 {M : ck_M} {I : Nat → Nat → Int32} {k : Nat} {x : Int32} : ck_wi (rB M I) 318 k x = rB M (sw I 318 k x) := rB_wi (by omega)
theorem ri_319 {M : ck_M} {I : Nat → Nat → Int32} {k : Nat} : ck_iv (rB M I) 319 k = I 319 k := rB_iv (by omega)
theorem rw_319 {M : ck_M} {I : Nat → Nat → Int32} {k : Nat} {x : Int32} : ck_wi (rB M I) 319 k x = rB M (sw I 319 k x) := rB_wi (by omega)
theorem ri_320 {M : ck_M} {I : Nat → Nat → Int32} {k : Nat} : ck_iv (rB M I) 320 k = I 320 k := rB_iv (by omega)
theorem rw_320 {M : ck_M} {I : Nat → Nat → Int32} {k : Nat} {x : Int32} : ck_wi (rB M I) 320 k x = rB M (sw I 320 k x) := rB_wi (by omega)
theorem ri_321 {M : ck_M} {I : Nat → Nat → Int32} {k : Nat} : ck_iv (rB M I) 321 k = I 321 k := rB_iv (by omega)
theorem rw_321 {M : ck_M} {I : Nat → Nat → Int32} {k : Nat} {x : Int32} : ck_wi (rB M I) 321 k x = rB M (sw I 321 k x) := rB_wi (by omega)
theorem ri_322 {M : ck_M} {I : Nat → Nat → Int32} {k : Nat} : ck_iv (rB M I) 322 k = I 322 k := rB_iv (by omega)
theorem rw_322 {M : ck_M} {I : Nat → Nat → Int32} {k : Nat} {x : Int32} : ck_wi (rB M I) 322 k x = rB M (sw I 322 k x) := rB_wi (by omega)
theorem ri_323 {M : ck_M} {I : Nat → Nat → Int32} {k : Nat} : ck_iv (rB M I) 323 k = I 323 k := rB_iv (by omega)
theorem rw_323 {M : ck_M} {I : Nat → Nat → Int32} {k : Nat} {x : Int32} : ck_wi (rB M I) 323 k x = rB M (sw I 323 k x) := rB_wi (by omega)
theorem ri_324 {M : ck_M} {I : Nat → Nat → Int32} {k : Nat} : ck_iv (rB M I) 324 k = I 324 k := rB_iv (by omega)
theorem rw_324 {M : ck_M} {I : Nat → Nat → Int32} {k : Nat} {x : Int32} : ck_wi (rB M I) 324 k x = rB M (sw I 324 k x) := rB_wi (by omega)
theorem ri_325 {M : ck_M} {I : Nat → Nat → Int32} {k : Nat} : ck_iv (rB M I) 325 k = I 325 k := rB_iv (by omega)
theorem rw_325 {M : ck_M} {I : Nat → Nat → Int32} {k : Nat} {x : Int32} : ck_wi (rB M I) 325 k x = rB M (sw I 325 k x) := rB_wi (by omega)
theorem ri_326 {M : ck_M} {I : Nat → Nat → Int32} {k : Nat} : ck_iv (rB M I) 326 k = I 326 k := rB_iv (by omega)
theorem rw_326 {M : ck_M} {I : Nat → Nat → Int32} {k : Nat} {x : Int32} : ck_wi (rB M I) 326 k x = rB M (sw I 326 k x) := rB_wi (by omega)
theorem ri_327 {M : ck_M} {I : Nat → Nat → Int32} {k : Nat} : ck_iv (rB M I) 327 k = I 327 k := rB_iv (by omega)
theorem rw_327 {M : ck_M} {I : Nat → Nat → Int32} {k : Nat} {x : Int32} : ck_wi (rB M I) 327 k x = rB M (sw I 327 k x) := rB_wi (by omega)
theorem ri_328 {M : ck_M} {I : Nat → Nat → Int32} {k : Nat} : ck_iv (rB M I) 328 k = I 328 k := rB_iv (by omega)
theorem rw_328 {M : ck_M} {I : Nat → Nat → Int32} {k : Nat} {x : Int32} : ck_wi (rB M I) 328 k x = rB M (sw I 328 k x) := rB_wi (by omega)
theorem ri_329 {M : ck_M} {I : Nat → Nat → Int32} {k : Nat} : ck_iv (rB M I) 329 k = I 329 k := rB_iv (by omega)
theorem rw_329 {M : ck_M} {I : Nat → Nat → Int32} {k : Nat} {x : Int32} : ck_wi (rB M I) 329 k x = rB M (sw I 329 k x) := rB_wi (by omega)
theorem ri_330 {M : ck_M} {I : Nat → Nat → Int32} {k : Nat} : ck_iv (rB M I) 330 k = I 330 k := rB_iv (by omega)
theorem rw_330 {M : ck_M} {I : Nat → Nat → Int32} {k : Nat} {x : Int32} : ck_wi (rB M I) 330 k x = rB M (sw I 330 k x) := rB_wi (by omega)
theorem ri_331 {M : ck_M} {I : Nat → Nat → Int32} {k : Nat} : ck_iv (rB M I) 331 k = I 331 k := rB_iv (by omega)
theorem rw_331 {M : ck_M} {I : Nat → Nat → Int32} {k : Nat} {x : Int32} : ck_wi (rB M I) 331 k x = rB M (sw I 331 k x) := rB_wi (by omega)
theorem ri_332 {M : ck_M} {I : Nat → Nat → Int32} {k : Nat} : ck_iv (rB M I) 332 k = I 332 k := rB_iv (by omega)
theorem rw_332 {M : ck_M} {I : Nat → Nat → Int32} {k : Nat} {x : Int32} : ck_wi (rB M I) 332 k x = rB M (sw I 332 k x) := rB_wi (by omega)
theorem ri_333 {M : ck_M} {I : Nat → Nat → Int32} {k : Nat} : ck_iv (rB M I) 333 k = I 333 k := rB_iv (by omega)
theorem rw_333 {M : ck_M} {I : Nat → Nat → Int32} {k : Nat} {x : Int32} : ck_wi (rB M I) 333 k x = rB M (sw I 333 k x) := rB_wi (by omega)
theorem ri_334 {M : ck_M} {I : Nat → Nat → Int32} {k : Nat} : ck_iv (rB M I) 334 k = I 334 k := rB_iv (by omega)
theorem rw_334 {M : ck_M} {I : Nat → Nat → Int32} {k : Nat} {x : Int32} : ck_wi (rB M I) 334 k x = rB M (sw I 334 k x) := rB_wi (by omega)
theorem ri_335 {M : ck_M} {I : Nat → Nat → Int32} {k : Nat} : ck_iv (rB M I) 335 k = I 335 k := rB_iv (by omega)
theorem rw_335 {M : ck_M} {I : Nat → Nat → Int32} {k : Nat} {x : Int32} : ck_wi (rB M I) 335 k x = rB M (sw I 335 k x) := rB_wi (by omega)
theorem ri_336 {M : ck_M} {I : Nat → Nat → Int32} {k : Nat} : ck_iv (rB M I) 336 k = I 336 k := rB_iv (by omega)
theorem rw_336 {M : ck_M} {I : Nat → Nat → Int32} {k : Nat} {x : Int32} : ck_wi (rB M I) 336 k x = rB M (sw I 336 k x) := rB_wi (by omega)
theorem ri_337 {M : ck_M} {I : Nat → Nat → Int32} {k : Nat} : ck_iv (rB M I) 337 k = I 337 k := rB_iv (by omega)
theorem rw_337 {M : ck_M} {I : Nat → Nat → Int32} {k : Nat} {x : Int32} : ck_wi (rB M I) 337 k x = rB M (sw I 337 k x) := rB_wi (by omega)
theorem ri_338 {M : ck_M} {I : Nat → Nat → Int32} {k : Nat} : ck_iv (rB M I) 338 k = I 338 k := rB_iv (by omega)
theorem rw_338 {M : ck_M} {I : Nat → Nat → Int32} {k : Nat} {x : Int32} : ck_wi (rB M I) 338 k x = rB M (sw I 338 k x) := rB_wi (by omega)
theorem ri_339 {M : ck_M} {I : Nat → Nat → Int32} {k : Nat} : ck_iv (rB M I) 339 k = I 339 k := rB_iv (by omega)
theorem rw_339 {M : ck_M} {I : Nat → Nat → Int32} {k : Nat} {x : Int32} : ck_wi (rB M I) 339 k x = rB M (sw I 339 k x) := rB_wi (by omega)
theorem ri_340 {M : ck_M} {I : Nat → Nat → Int32} {k : Nat} : ck_iv (rB M I) 340 k = I 340 k := rB_iv (by omega)
theorem rw_340 {M : ck_M} {I : Nat → Nat → Int32} {k : Nat} {x : Int32} : ck_wi (rB M I) 340 k x = rB M (sw I 340 k x) := rB_wi (by omega)
theorem ri_341 {M : ck_M} {I : Nat → Nat → Int32} {k : Nat} : ck_iv (rB M I) 341 k = I 341 k := rB_iv (by omega)
theorem rw_341 {M : ck_M} {I : Nat → Nat → Int32} {k : Nat} {x : Int32} : ck_wi (rB M I) 341 k x = rB M (sw I 341 k x) := rB_wi (by omega)
theorem ri_342 {M : ck_M} {I : Nat → Nat → Int32} {k : Nat} : ck_iv (rB M I) 342 k = I 342 k := rB_iv (by omega)
theorem rw_342 {M : ck_M} {I : Nat → Nat → Int32} {k : Nat} {x : Int32} : ck_wi (rB M I) 342 k x = rB M (sw I 342 k x) := rB_wi (by omega)
theorem ri_343 {M : ck_M} {I : Nat → Nat → Int32} {k : Nat} : ck_iv (rB M I) 343 k = I 343 k := rB_iv (by omega)
theorem rw_343 {M : ck_M} {I : Nat → Nat → Int32} {k : Nat} {x : Int32} : ck_wi (rB M I) 343 k x = rB M (sw I 343 k x) := rB_wi (by omega)
theorem ri_344 {M : ck_M} {I : Nat → Nat → Int32} {k : Nat} : ck_iv (rB M I) 344 k = I 344 k := rB_iv (by omega)
theorem rw_344 {M : ck_M} {I : Nat → Nat → Int32} {k : Nat} {x : Int32} : ck_wi (rB M I) 344 k x = rB M (sw I 344 k x) := rB_wi (by omega)
theorem rB_kd {M : ck_M} {I : Nat → Nat → Int32} {r : Nat} : ck_kd (rB M I) r = ck_kd M r := rfl
theorem rB_ln {M : ck_M} {I : Nat → Nat → Int32} {r : Nat} : ck_ln (rB M I) r = ck_ln M r := rfl
theorem rB_rv {M : ck_M} {I : Nat → Nat → Int32} {r k : Nat} : ck_rv (rB M I) r k = ck_rv M r k := rfl
/-- the reference's cells: kinds, lengths, where its fields point -/
def rSh (M : ck_M) : Prop := ck_kd M 315 = 14 ∧ (ck_kd M 316 = 3 ∧ ck_ln M 316 = 1281 ∧ ck_rv M 315 3 = 316) ∧ (ck_kd M 317 = 3 ∧ ck_ln M 317 = 21 ∧ ck_rv M 315 4 = 317) ∧ (ck_kd M 318 = 3 ∧ ck_ln M 318 = 6 ∧ ck_rv M 315 7 = 318) ∧ (ck_kd M 319 = 5 ∧ ck_ln M 319 = 6 ∧ ck_rv M 315 8 = 319) ∧ (ck_kd M 320 = 5 ∧ ck_ln M 320 = 6 ∧ ck_rv M 315 9 = 320) ∧ (ck_kd M 321 = 5 ∧ ck_ln M 321 = 6 ∧ ck_rv M 315 10 = 321) ∧ (ck_kd M 322 = 5 ∧ ck_ln M 322 = 6 ∧ ck_rv M 315 11 = 322) ∧ (ck_kd M 323 = 3 ∧ ck_ln M 323 = 6 ∧ ck_rv M 315 12 = 323) ∧ (ck_kd M 324 = 3 ∧ ck_ln M 324 = 6 ∧ ck_rv M 315 13 = 324) ∧ (ck_kd M 325 = 3 ∧ ck_ln M 325 = 36 ∧ ck_rv M 315 14 = 325) ∧ (ck_kd M 326 = 3 ∧ ck_ln M 326 = 6 ∧ ck_rv M 315 15 = 326) ∧ (ck_kd M 327 = 3 ∧ ck_ln M 327 = 6 ∧ ck_rv M 315 16 = 327) ∧ (ck_kd M 328 = 3 ∧ ck_ln M 328 = 24 ∧ ck_rv M 315 17 = 328) ∧ (ck_kd M 329 = 3 ∧ ck_ln M 329 = 24 ∧ ck_rv M 315 18 = 329) ∧ (ck_kd M 330 = 3 ∧ ck_ln M 330 = 18 ∧ ck_rv M 315 19 = 330) ∧ (ck_kd M 331 = 3 ∧ ck_ln M 331 = 18 ∧ ck_rv M 315 20 = 331) ∧ (ck_kd M 332 = 3 ∧ ck_ln M 332 = 48 ∧ ck_rv M 315 21 = 332) ∧ (ck_kd M 333 = 3 ∧ ck_ln M 333 = 48 ∧ ck_rv M 315 22 = 333) ∧ (ck_kd M 334 = 3 ∧ ck_ln M 334 = 48 ∧ ck_rv M 315 23 = 334) ∧ (ck_kd M 335 = 3 ∧ ck_ln M 335 = 48 ∧ ck_rv M 315 24 = 335) ∧ (ck_kd M 336 = 3 ∧ ck_ln M 336 = 3 ∧ ck_rv M 315 25 = 336) ∧ (ck_kd M 337 = 5 ∧ ck_ln M 337 = 3 ∧ ck_rv M 315 26 = 337) ∧ (ck_kd M 338 = 5 ∧ ck_ln M 338 = 3 ∧ ck_rv M 315 27 = 338) ∧ (ck_kd M 339 = 3 ∧ ck_ln M 339 = 3 ∧ ck_rv M 315 28 = 339) ∧ (ck_kd M 340 = 3 ∧ ck_ln M 340 = 3 ∧ ck_rv M 315 29 = 340) ∧ (ck_kd M 341 = 3 ∧ ck_ln M 341 = 3 ∧ ck_rv M 315 30 = 341) ∧ (ck_kd M 342 = 3 ∧ ck_ln M 342 = 3 ∧ ck_rv M 315 31 = 342) ∧ (ck_kd M 343 = 3 ∧ ck_ln M 343 = 3 ∧ ck_rv M 315 32 = 343) ∧ (ck_kd M 344 = 3 ∧ ck_ln M 344 = 3 ∧ ck_rv M 315 33 = 344)
theorem rk_315 {M : ck_M} (h : rSh M) : ck_kd M 315 = 14 := h.1
theorem rk_316 {M : ck_M} (h : rSh M) : ck_kd M 316 = 3 := h.2.1.1
theorem rl_316 {M : ck_M} (h : rSh M) : ck_ln M 316 = 1281 := h.2.1.2.1
theorem rr_316 {M : ck_M} (h : rSh M) : ck_rv M 315 3 = 316 := h.2.1.2.2
theorem rk_317 {M : ck_M} (h : rSh M) : ck_kd M 317 = 3 := h.2.2.1.1
theorem rl_317 {M : ck_M} (h : rSh M) : ck_ln M 317 = 21 := h.2.2.1.2.1
theorem rr_317 {M : ck_M} (h : rSh M) : ck_rv M 315 4 = 317 := h.2.2.1.2.2
theorem rk_318 {M : ck_M} (h : rSh M) : ck_kd M 318 = 3 := h.2.2.2.1.1
theorem rl_318 {M : ck_M} (h : rSh M) : ck_ln M 318 = 6 := h.2.2.2.1.2.1
theorem rr_318 {M : ck_M} (h : rSh M) : ck_rv M 315 7 = 318 := h.2.2.2.1.2.2
theorem rk_319 {M : ck_M} (h : rSh M) : ck_kd M 319 = 5 := h.2.2.2.2.1.1
theorem rl_319 {M : ck_M} (h : rSh M) : ck_ln M 319 = 6 := h.2.2.2.2.1.2.1
theorem rr_319 {M : ck_M} (h : rSh M) : ck_rv M 315 8 = 319 := h.2.2.2.2.1.2.2
theorem rk_320 {M : ck_M} (h : rSh M) : ck_kd M 320 = 5 := h.2.2.2.2.2.1.1
theorem rl_320 {M : ck_M} (h : rSh M) : ck_ln M 320 = 6 := h.2.2.2.2.2.1.2.1
theorem rr_320 {M : ck_M} (h : rSh M) : ck_rv M 315 9 = 320 := h.2.2.2.2.2.1.2.2
theorem rk_321 {M : ck_M} (h : rSh M) : ck_kd M 321 = 5 := h.2.2.2.2.2.2.1.1
theorem rl_321 {M : ck_M} (h : rSh M) : ck_ln M 321 = 6 := h.2.2.2.2.2.2.1.2.1
theorem rr_321 {M : ck_M} (h : rSh M) : ck_rv M 315 10 = 321 := h.2.2.2.2.2.2.1.2.2
theorem rk_322 {M : ck_M} (h : rSh M) : ck_kd M 322 = 5 := h.2.2.2.2.2.2.2.1.1
theorem rl_322 {M : ck_M} (h : rSh M) : ck_ln M 322 = 6 := h.2.2.2.2.2.2.2.1.2.1
theorem rr_322 {M : ck_M} (h : rSh M) : ck_rv M 315 11 = 322 := h.2.2.2.2.2.2.2.1.2.2
theorem rk_323 {M : ck_M} (h : rSh M) : ck_kd M 323 = 3 := h.2.2.2.2.2.2.2.2.1.1
theorem rl_323 {M : ck_M} (h : rSh M) : ck_ln M 323 = 6 := h.2.2.2.2.2.2.2.2.1.2.1
theorem rr_323 {M : ck_M} (h : rSh M) : ck_rv M 315 12 = 323 := h.2.2.2.2.2.2.2.2.1.2.2
theorem rk_324 {M : ck_M} (h : rSh M) : ck_kd M 324 = 3 := h.2.2.2.2.2.2.2.2.2.1.1
theorem rl_324 {M : ck_M} (h : rSh M) : ck_ln M 324 = 6 := h.2.2.2.2.2.2.2.2.2.1.2.1
theorem rr_324 {M : ck_M} (h : rSh M) : ck_rv M 315 13 = 324 := h.2.2.2.2.2.2.2.2.2.1.2.2
theorem rk_325 {M : ck_M} (h : rSh M) : ck_kd M 325 = 3 := h.2.2.2.2.2.2.2.2.2.2.1.1
theorem rl_325 {M : ck_M} (h : rSh M) : ck_ln M 325 = 36 := h.2.2.2.2.2.2.2.2.2.2.1.2.1
theorem rr_325 {M : ck_M} (h : rSh M) : ck_rv M 315 14 = 325 := h.2.2.2.2.2.2.2.2.2.2.1.2.2
theorem rk_326 {M : ck_M} (h : rSh M) : ck_kd M 326 = 3 := h.2.2.2.2.2.2.2.2.2.2.2.1.1
theorem rl_326 {M : ck_M} (h : rSh M) : ck_ln M 326 = 6 := h.2.2.2.2.2.2.2.2.2.2.2.1.2.1
theorem rr_326 {M : ck_M} (h : rSh M) : ck_rv M 315 15 = 326 := h.2.2.2.2.2.2.2.2.2.2.2.1.2.2
theorem rk_327 {M : ck_M} (h : rSh M) : ck_kd M 327 = 3 := h.2.2.2.2.2.2.2.2.2.2.2.2.1.1
theorem rl_327 {M : ck_M} (h : rSh M) : ck_ln M 327 = 6 := h.2.2.2.2.2.2.2.2.2.2.2.2.1.2.1
theorem rr_327 {M : ck_M} (h : rSh M) : ck_rv M 315 16 = 327 := h.2.2.2.2.2.2.2.2.2.2.2.2.1.2.2
theorem rk_328 {M : ck_M} (h : rSh M) : ck_kd M 328 = 3 := h.2.2.2.2.2.2.2.2.2.2.2.2.2.1.1
theorem rl_328 {M : ck_M} (h : rSh M) : ck_ln M 328 = 24 := h.2.2.2.2.2.2.2.2.2.2.2.2.2.1.2.1
theorem rr_328 {M : ck_M} (h : rSh M) : ck_rv M 315 17 = 328 := h.2.2.2.2.2.2.2.2.2.2.2.2.2.1.2.2
theorem rk_329 {M : ck_M} (h : rSh M) : ck_kd M 329 = 3 := h.2.2.2.2.2.2.2.2.2.2.2.2.2.2.1.1
theorem rl_329 {M : ck_M} (h : rSh M) : ck_ln M 329 = 24 := h.2.2.2.2.2.2.2.2.2.2.2.2.2.2.1.2.1
theorem rr_329 {M : ck_M} (h : rSh M) : ck_rv M 315 18 = 329 := h.2.2.2.2.2.2.2.2.2.2.2.2.2.2.1.2.2
theorem rk_330 {M : ck_M} (h : rSh M) : ck_kd M 330 = 3 := h.2.2.2.2.2.2.2.2.2.2.2.2.2.2.2.1.1
theorem rl_330 {M : ck_M} (h : rSh M) : ck_ln M 330 = 18 := h.2.2.2.2.2.2.2.2.2.2.2.2.2.2.2.1.2.1
theorem rr_330 {M : ck_M} (h : rSh M) : ck_rv M 315 19 = 330 := h.2.2.2.2.2.2.2.2.2.2.2.2.2.2.2.1.2.2
theorem rk_331 {M : ck_M} (h : rSh M) : ck_kd M 331 = 3 := h.2.2.2.2.2.2.2.2.2.2.2.2.2.2.2.2.1.1
theorem rl_331 {M : ck_M} (h : rSh M) : ck_ln M 331 = 18 := h.2.2.2.2.2.2.2.2.2.2.2.2.2.2.2.2.1.2.1
theorem rr_331 {M : ck_M} (h : rSh M) : ck_rv M 315 20 = 331 := h.2.2.2.2.2.2.2.2.2.2.2.2.2.2.2.2.1.2.2
theorem rk_332 {M : ck_M} (h : rSh M) : ck_kd M 332 = 3 := h.2.2.2.2.2.2.2.2.2.2.2.2.2.2.2.2.2.1.1
theorem rl_332 {M : ck_M} (h : rSh M) : ck_ln M 332 = 48 := h.2.2.2.2.2.2.2.2.2.2.2.2.2.2.2.2.2.1.2.1
theorem rr_332 {M : ck_M} (h : rSh M) : ck_rv M 315 21 = 332 := h.2.2.2.2.2.2.2.2.2.2.2.2.2.2.2.2.2.1.2.2
theorem rk_333 {M : ck_M} (h : rSh M) : ck_kd M 333 = 3 := h.2.2.2.2.2.2.2.2.2.2.2.2.2.2.2.2.2.2.1.1
theorem rl_333 {M : ck_M} (h : rSh M) : ck_ln M 333 = 48 := h.2.2.2.2.2.2.2.2.2.2.2.2.2.2.2.2.2.2.1.2.1
theorem rr_333 {M : ck_M} (h : rSh M) : ck_rv M 315 22 = 333 := h.2.2.2.2.2.2.2.2.2.2.2.2.2.2.2.2.2.2.1.2.2
theorem rk_334 {M : ck_M} (h : rSh M) : ck_kd M 334 = 3 := h.2.2.2.2.2.2.2.2.2.2.2.2.2.2.2.2.2.2.2.1.1
theorem rl_334 {M : ck_M} (h : rSh M) : ck_ln M 334 = 48 := h.2.2.2.2.2.2.2.2.2.2.2.2.2.2.2.2.2.2.2.1.2.1
theorem rr_334 {M : ck_M} (h : rSh M) : ck_rv M 315 23 = 334 := h.2.2.2.2.2.2.2.2.2.2.2.2.2.2.2.2.2.2.2.1.2.2
theorem rk_335 {M : ck_M} (h : rSh M) : ck_kd M 335 = 3 := h.2.2.2.2.2.2.2.2.2.2.2.2.2.2.2.2.2.2.2.2.1.1
theorem rl_335 {M : ck_M} (h : rSh M) : ck_ln M 335 = 48 := h.2.2.2.2.2.2.2.2.2.2.2.2.2.2.2.2.2.2.2.2.1.2.1
theorem rr_335 {M : ck_M} (h : rSh M) : ck_rv M 315 24 = 335 := h.2.2.2.2.2.2.2.2.2.2.2.2.2.2.2.2.2.2.2.2.1.2.2
theorem rk_336 {M : ck_M} (h : rSh M) : ck_kd M 336 = 3 := h.2.2.2.2.2.2.2.2.2.2.2.2.2.2.2.2.2.2.2.2.2.1.1
theorem rl_336 {M : ck_M} (h : rSh M) : ck_ln M 336 = 3 := h.2.2.2.2.2.2.2.2.2.2.2.2.2.2.2.2.2.2.2.2.2.1.2.1
theorem rr_336 {M : ck_M} (h : rSh M) : ck_rv M 315 25 = 336 := h.2.2.2.2.2.2.2.2.2.2.2.2.2.2.2.2.2.2.2.2.2.1.2.2
theorem rk_337 {M : ck_M} (h : rSh M) : ck_kd M 337 = 5 := h.2.2.2.2.2.2.2.2.2.2.2.2.2.2.2.2.2.2.2.2.2.2.1.1
theorem rl_337 {M : ck_M} (h : rSh M) : ck_ln M 337 = 3 := h.2.2.2.2.2.2.2.2.2.2.2.2.2.2.2.2.2.2.2.2.2.2.1.2.1
theorem rr_337 {M : ck_M} (h : rSh M) : ck_rv M 315 26 = 337 := h.2.2.2.2.2.2.2.2.2.2.2.2.2.2.2.2.2.2.2.2.2.2.1.2.2
theorem rk_338 {M : ck_M} (h : rSh M) : ck_kd M 338 = 5 := h.2.2.2.2.2.2.2.2.2.2.2.2.2.2.2.2.2.2.2.2.2.2.2.1.1
theorem rl_338 {M : ck_M} (h : rSh M) : ck_ln M 338 = 3 := h.2.2.2.2.2.2.2.2.2.2.2.2.2.2.2.2.2.2.2.2.2.2.2.1.2.1
theorem rr_338 {M : ck_M} (h : rSh M) : ck_rv M 315 27 = 338 := h.2.2.2.2.2.2.2.2.2.2.2.2.2.2.2.2.2.2.2.2.2.2.2.1.2.2
theorem rk_339 {M : ck_M} (h : rSh M) : ck_kd M 339 = 3 := h.2.2.2.2.2.2.2.2.2.2.2.2.2.2.2.2.2.2.2.2.2.2.2.2.1.1
theorem rl_339 {M : ck_M} (h : rSh M) : ck_ln M 339 = 3 := h.2.2.2.2.2.2.2.2.2.2.2.2.2.2.2.2.2.2.2.2.2.2.2.2.1.2.1
theorem rr_339 {M : ck_M} (h : rSh M) : ck_rv M 315 28 = 339 := h.2.2.2.2.2.2.2.2.2.2.2.2.2.2.2.2.2.2.2.2.2.2.2.2.1.2.2
theorem rk_340 {M : ck_M} (h : rSh M) : ck_kd M 340 = 3 := h.2.2.2.2.2.2.2.2.2.2.2.2.2.2.2.2.2.2.2.2.2.2.2.2.2.1.1
theorem rl_340 {M : ck_M} (h : rSh M) : ck_ln M 340 = 3 := h.2.2.2.2.2.2.2.2.2.2.2.2.2.2.2.2.2.2.2.2.2.2.2.2.2.1.2.1
theorem rr_340 {M : ck_M} (h : rSh M) : ck_rv M 315 29 = 340 := h.2.2.2.2.2.2.2.2.2.2.2.2.2.2.2.2.2.2.2.2.2.2.2.2.2.1.2.2
theorem rk_341 {M : ck_M} (h : rSh M) : ck_kd M 341 = 3 := h.2.2.2.2.2.2.2.2.2.2.2.2.2.2.2.2.2.2.2.2.2.2.2.2.2.2.1.1
theorem rl_341 {M : ck_M} (h : rSh M) : ck_ln M 341 = 3 := h.2.2.2.2.2.2.2.2.2.2.2.2.2.2.2.2.2.2.2.2.2.2.2.2.2.2.1.2.1
theorem rr_341 {M : ck_M} (h : rSh M) : ck_rv M 315 30 = 341 := h.2.2.2.2.2.2.2.2.2.2.2.2.2.2.2.2.2.2.2.2.2.2.2.2.2.2.1.2.2
theorem rk_342 {M : ck_M} (h : rSh M) : ck_kd M 342 = 3 := h.2.2.2.2.2.2.2.2.2.2.2.2.2.2.2.2.2.2.2.2.2.2.2.2.2.2.2.1.1
theorem rl_342 {M : ck_M} (h : rSh M) : ck_ln M 342 = 3 := h.2.2.2.2.2.2.2.2.2.2.2.2.2.2.2.2.2.2.2.2.2.2.2.2.2.2.2.1.2.1
theorem rr_342 {M : ck_M} (h : rSh M) : ck_rv M 315 31 = 342 := h.2.2.2.2.2.2.2.2.2.2.2.2.2.2.2.2.2.2.2.2.2.2.2.2.2.2.2.1.2.2
theorem rk_343 {M : ck_M} (h : rSh M) : ck_kd M 343 = 3 := h.2.2.2.2.2.2.2.2.2.2.2.2.2.2.2.2.2.2.2.2.2.2.2.2.2.2.2.2.1.1
theorem rl_343 {M : ck_M} (h : rSh M) : ck_ln M 343 = 3 := h.2.2.2.2.2.2.2.2.2.2.2.2.2.2.2.2.2.2.2.2.2.2.2.2.2.2.2.2.1.2.1
theorem rr_343 {M : ck_M} (h : rSh M) : ck_rv M 315 32 = 343 := h.2.2.2.2.2.2.2.2.2.2.2.2.2.2.2.2.2.2.2.2.2.2.2.2.2.2.2.2.1.2.2
theorem rk_344 {M : ck_M} (h : rSh M) : ck_kd M 344 = 3 := h.2.2.2.2.2.2.2.2.2.2.2.2.2.2.2.2.2.2.2.2.2.2.2.2.2.2.2.2.2.1
theorem rl_344 {M : ck_M} (h : rSh M) : ck_ln M 344 = 3 := h.2.2.2.2.2.2.2.2.2.2.2.2.2.2.2.2.2.2.2.2.2.2.2.2.2.2.2.2.2.2.1
theorem rr_344 {M : ck_M} (h : rSh M) : ck_rv M 315 33 = 344 := h.2.2.2.2.2.2.2.2.2.2.2.2.2.2.2.2.2.2.2.2.2.2.2.2.2.2.2.2.2.2.2
theorem cin {n N : Nat} (h : n < N) (hN : N < 2 ^ 31) : ck_in (nI n) N = True := by
  refine eq_true ?_
  unfold ck_in
  rw [nI_toInt (by omega)]
  omega
theorem or_b {p : Prop} [Decidable p] : ((if p then nI 1 else nI 0) = 0 ∨ (if p then nI 1 else nI 0) = 1) = True := by
  split
  · exact z_or1
  · exact z_or0
theorem m1_lt {n : Nat} (h : n < 2 ^ 31) : ((-1 : Int32) < nI n) = True := by
  refine eq_true ?_
  rw [Int32.lt_iff_toInt_lt, nI_toInt h]
  have : (-1 : Int32).toInt = -1 := by decide +kernel
  rw [this]; omega
theorem m1_le {n : Nat} (h : n < 2 ^ 31) : ((-1 : Int32) ≤ nI n) = True := by
  refine eq_true ?_
  rw [Int32.le_iff_toInt_le, nI_toInt h]
  have : (-1 : Int32).toInt = -1 := by decide +kernel
  rw [this]; omega
theorem nle_m1 {n : Nat} (h : n < 2 ^ 31) : (nI n ≤ (-1 : Int32)) = False := by
  refine eq_false ?_
  rw [Int32.le_iff_toInt_le, nI_toInt h]
  have : (-1 : Int32).toInt = -1 := by decide +kernel
  rw [this]; omega
theorem nlt_m1 {n : Nat} (h : n < 2 ^ 31) : (nI n < (-1 : Int32)) = False := by
  refine eq_false ?_
  rw [Int32.lt_iff_toInt_lt, nI_toInt h]
  have : (-1 : Int32).toInt = -1 := by decide +kernel
  rw [this]; omega
theorem neq_m1 {n : Nat} (h : n < 2 ^ 31) : (nI n = (-1 : Int32)) = False := by
  refine eq_false fun q => ?_
  have h1 := congrArg Int32.toInt q
  rw [nI_toInt h] at h1
  have : (-1 : Int32).toInt = -1 := by decide +kernel
  rw [this] at h1; omega
theorem m1_neq {n : Nat} (h : n < 2 ^ 31) : ((-1 : Int32) = nI n) = False := by
  refine eq_false fun q => ?_
  have := neq_m1 h
  rw [q] at this
  simp at this
theorem m1_add : (-1 : Int32) + nI 1 = nI 0 := by decide +kernel
section R1
variable {xl : Nat} {xs : Nat → Int32} {d : Nat} {Q : Option ck_V → ck_M → Prop} {M : ck_M} {I : Nat → Nat → Int32}
theorem c_M_in (v lo hi : Int32) : ck_Ev ck_P xl xs d 83 0 [some (.inl v), some (.inl lo), some (.inl hi)] [] M Q = Q (some (.inl (if lo ≤ v ∧ v ≤ hi then nI 1 else nI 0))) M := by
  apply ck_det
  simp only [j_M_in_0, j_M_in_14, j_M_in_15, e_M_in_0, e_M_in_1, e_M_in_2, e_M_in_5, e_M_in_6, e_M_in_7, e_M_in_10, e_M_in_11, e_M_in_14, e_M_in_15, li_s, la_s, wp_iconst, wp_bipush, wp_sipush, wp_ldc, wp_iload, wp_iload_n, wp_aload, wp_aload_n, wp_istore, wp_istore_n, wp_astore, wp_astore_n, wp_iinc, wp_iadd, wp_isub, wp_imul, wp_iand, wp_irem, wp_dup, wp_pop, wp_goto, wp_if, wp_icmp, wp_ifnull, wp_tsw, wp_get0, wp_get2, wp_get1, wp_put0, wp_put2, wp_put1, wp_iald, wp_sald, wp_iast, wp_bald, wp_bast, wp_aald, wp_aast, wp_alen, wp_slen, wp_new, wp_newa, wp_newq, wp_cast, wp_oinit, wp_clone, wp_copy, wp_callI0, wp_callI1, wp_callI2, wp_callI3, wp_callI4, wp_callI5, wp_callV0, wp_callV1, wp_callV2, wp_callV3, wp_callV4, wp_callV5, wp_callS0, wp_callS1, wp_callS2, wp_callS3, wp_callS4, wp_iret0, wp_iret1, wp_aret, wp_ret, lg_0, lg_1, lg_2, lg_3, lg_4, lg_5, lg_6, lg_7, ls_0, ls_1, ls_2, ls_3, ls_4, ls_5, ls_6, ls_7, oi_m1, oi_0, oi_1, oi_2, oi_3, oi_4, oi_5, bp_6, bp_7, bp_8, bp_9, bp_15, bp_17, bp_18, bp_20, bp_21, bp_24, bp_36, bp_48, bp_50, bp_60, bp_61, sp_1281, sp_9999, lc_100000, lc_1000000, cc_eq, cc_ne, cc_lt, cc_ge, cc_gt, cc_le, z_or0, z_or1, true_and, and_true, Classical.not_not, Option.toList_none, Option.toList_some, List.cons_append, List.nil_append, List.length_cons, List.length_nil, Nat.reduceAdd, Nat.reduceEqDiff, Nat.reduceLeDiff, Nat.zero_le, not_false_eq_true]
  by_cases h1 : v < lo
  · have : ¬ lo ≤ v := Int32.not_le.mpr h1
    simp [h1, this]
  · have h1' : lo ≤ v := Int32.not_lt.mp h1
    by_cases h2 : hi < v
    · have : ¬ v ≤ hi := Int32.not_le.mpr h2
      simp [h1, h2, this]
    · have h2' : v ≤ hi := Int32.not_lt.mp h2
      simp [h1, h2, h1', h2']
/-- the place of x among the first n of its chain: the last one -/
def rPl (f : Nat → Int32) (x : Nat) : Nat → Int32
  | 0 => -1
  | n + 1 => if f (6 * x + n) = nI x then nI n else rPl f x n
set_option maxHeartbeats 1000000 in
theorem c_M_placeOf_l (hs : rSh M) {x n : Nat} (hx : x < 6) (hn : n ≤ 6) (hl : I 324 x = nI n) : ∀ (j i : Nat), i + j = n → ck_Ev ck_P xl xs d 93 4 [some (.inr 315), some (.inl (nI x)), some (.inl (rPl (I 325) x i)), some (.inl (nI i))] [] (rB M I) Q = Q (some (.inl (rPl (I 325) x n))) (rB M I) := by
  intro j
  induction j with
  | zero =>
    intro i hi
    rw [j_M_placeOf_4]
    simp only [j_M_placeOf_0, j_M_placeOf_33, j_M_placeOf_34, j_M_placeOf_41, e_M_placeOf_0, e_M_placeOf_1, e_M_placeOf_2, e_M_placeOf_3, e_M_placeOf_4, e_M_placeOf_5, e_M_placeOf_6, e_M_placeOf_9, e_M_placeOf_10, e_M_placeOf_11, e_M_placeOf_14, e_M_placeOf_15, e_M_placeOf_18, e_M_placeOf_20, e_M_placeOf_21, e_M_placeOf_22, e_M_placeOf_23, e_M_placeOf_24, e_M_placeOf_25, e_M_placeOf_26, e_M_placeOf_29, e_M_placeOf_30, e_M_placeOf_33, e_M_placeOf_34, e_M_placeOf_35, e_M_placeOf_38, e_M_placeOf_41, e_M_placeOf_42, li_s, la_s, wp_iconst, wp_bipush, wp_sipush, wp_ldc, wp_iload, wp_iload_n, wp_aload, wp_aload_n, wp_istore, wp_istore_n, wp_astore, wp_astore_n, wp_iinc, wp_iadd, wp_isub, wp_imul, wp_iand, wp_irem, wp_dup, wp_pop, wp_goto, wp_if, wp_icmp, wp_ifnull, wp_tsw, wp_get0, wp_get2, wp_get1, wp_put0, wp_put2, wp_put1, wp_iald, wp_sald, wp_iast, wp_bald, wp_bast, wp_aald, wp_aast, wp_alen, wp_slen, wp_new, wp_newa, wp_newq, wp_cast, wp_oinit, wp_clone, wp_copy, wp_callI0, wp_callI1, wp_callI2, wp_callI3, wp_callI4, wp_callI5, wp_callV0, wp_callV1, wp_callV2, wp_callV3, wp_callV4, wp_callV5, wp_callS0, wp_callS1, wp_callS2, wp_callS3, wp_callS4, wp_iret0, wp_iret1, wp_aret, wp_ret, lg_0, lg_1, lg_2, lg_3, lg_4, lg_5, lg_6, lg_7, ls_0, ls_1, ls_2, ls_3, ls_4, ls_5, ls_6, ls_7, oi_m1, oi_0, oi_1, oi_2, oi_3, oi_4, oi_5, bp_6, bp_7, bp_8, bp_9, bp_15, bp_17, bp_18, bp_20, bp_21, bp_24, bp_36, bp_48, bp_50, bp_60, bp_61, sp_1281, sp_9999, lc_100000, lc_1000000, cc_eq, cc_ne, cc_lt, cc_ge, cc_gt, cc_le, z_or0, z_or1, true_and, and_true, Classical.not_not, Option.toList_none, Option.toList_some, List.cons_append, List.nil_append, List.length_cons, List.length_nil, Nat.reduceAdd, Nat.reduceEqDiff, Nat.reduceLeDiff, Nat.zero_le, not_false_eq_true, rB_kd, rB_ln, rB_rv, hs, rk_315, ri_315, rw_315, ri_316, rw_316, ri_317, rw_317, ri_318, rw_318, ri_319, rw_319, ri_320, rw_320, ri_321, rw_321, ri_322, rw_322, ri_323, rw_323, ri_324, rw_324, ri_325, rw_325, ri_326, rw_326, ri_327, rw_327, ri_328, rw_328, ri_329, rw_329, ri_330, rw_330, ri_331, rw_331, ri_332, rw_332, ri_333, rw_333, ri_334, rw_334, ri_335, rw_335, ri_336, rw_336, ri_337, rw_337, ri_338, rw_338, ri_339, rw_339, ri_340, rw_340, ri_341, rw_341, ri_342, rw_342, ri_343, rw_343, ri_344, rw_344, rk_316, rl_316, rr_316, rk_317, rl_317, rr_317, rk_318, rl_318, rr_318, rk_319, rl_319, rr_319, rk_320, rl_320, rr_320, rk_321, rl_321, rr_321, rk_322, rl_322, rr_322, rk_323, rl_323, rr_323, rk_324, rl_324, rr_324, rk_325, rl_325, rr_325, rk_326, rl_326, rr_326, rk_327, rl_327, rr_327, rk_328, rl_328, rr_328, rk_329, rl_329, rr_329, rk_330, rl_330, rr_330, rk_331, rl_331, rr_331, rk_332, rl_332, rr_332, rk_333, rl_333, rr_333, rk_334, rl_334, rr_334, rk_335, rl_335, rr_335, rk_336, rl_336, rr_336, rk_337, rl_337, rr_337, rk_338, rl_338, rr_338, rk_339, rl_339, rr_339, rk_340, rl_340, rr_340, rk_341, rl_341, rr_341, rk_342, rl_342, rr_342, rk_343, rl_343, rr_343, rk_344, rl_344, rr_344]
    simp (disch := omega) only [nI_add, pk_mul, pk_sub, nI_clamp, cin, nI_leI, nI_ltI, nI_eq, m1_lt, m1_le, nle_m1, nlt_m1, neq_m1, m1_neq, m1_add, sw_row, sw_eq, sw_ne, rCopyK_row, rTakeM_row, rShift_row, rPsh_row, Nat.reduceAdd, Nat.reduceMul, Nat.reduceSub, Nat.reduceLeDiff, Nat.reduceEqDiff, true_and, and_true, Classical.not_not, implies_true, true_implies, forall_const, hl]
    have h1 : n ≤ i := by omega
    have h2 : i = n := by omega
    subst h2
    simp
  | succ j ih =>
    intro i hi
    rw [j_M_placeOf_4]
    simp only [j_M_placeOf_0, j_M_placeOf_33, j_M_placeOf_34, j_M_placeOf_41, e_M_placeOf_0, e_M_placeOf_1, e_M_placeOf_2, e_M_placeOf_3, e_M_placeOf_4, e_M_placeOf_5, e_M_placeOf_6, e_M_placeOf_9, e_M_placeOf_10, e_M_placeOf_11, e_M_placeOf_14, e_M_placeOf_15, e_M_placeOf_18, e_M_placeOf_20, e_M_placeOf_21, e_M_placeOf_22, e_M_placeOf_23, e_M_placeOf_24, e_M_placeOf_25, e_M_placeOf_26, e_M_placeOf_29, e_M_placeOf_30, e_M_placeOf_33, e_M_placeOf_34, e_M_placeOf_35, e_M_placeOf_38, e_M_placeOf_41, e_M_placeOf_42, li_s, la_s, wp_iconst, wp_bipush, wp_sipush, wp_ldc, wp_iload, wp_iload_n, wp_aload, wp_aload_n, wp_istore, wp_istore_n, wp_astore, wp_astore_n, wp_iinc, wp_iadd, wp_isub, wp_imul, wp_iand, wp_irem, wp_dup, wp_pop, wp_goto, wp_if, wp_icmp, wp_ifnull, wp_tsw, wp_get0, wp_get2, wp_get1, wp_put0, wp_put2, wp_put1, wp_iald, wp_sald, wp_iast, wp_bald, wp_bast, wp_aald, wp_aast, wp_alen, wp_slen, wp_new, wp_newa, wp_newq, wp_cast, wp_oinit, wp_clone, wp_copy, wp_callI0, wp_callI1, wp_callI2, wp_callI3, wp_callI4, wp_callI5, wp_callV0, wp_callV1, wp_callV2, wp_callV3, wp_callV4, wp_callV5, wp_callS0, wp_callS1, wp_callS2, wp_callS3, wp_callS4, wp_iret0, wp_iret1, wp_aret, wp_ret, lg_0, lg_1, lg_2, lg_3, lg_4, lg_5, lg_6, lg_7, ls_0, ls_1, ls_2, ls_3, ls_4, ls_5, ls_6, ls_7, oi_m1, oi_0, oi_1, oi_2, oi_3, oi_4, oi_5, bp_6, bp_7, bp_8, bp_9, bp_15, bp_17, bp_18, bp_20, bp_21, bp_24, bp_36, bp_48, bp_50, bp_60, bp_61, sp_1281, sp_9999, lc_100000, lc_1000000, cc_eq, cc_ne, cc_lt, cc_ge, cc_gt, cc_le, z_or0, z_or1, true_and, and_true, Classical.not_not, Option.toList_none, Option.toList_some, List.cons_append, List.nil_append, List.length_cons, List.length_nil, Nat.reduceAdd, Nat.reduceEqDiff, Nat.reduceLeDiff, Nat.zero_le, not_false_eq_true, rB_kd, rB_ln, rB_rv, hs, rk_315, ri_315, rw_315, ri_316, rw_316, ri_317, rw_317, ri_318, rw_318, ri_319, rw_319, ri_320, rw_320, ri_321, rw_321, ri_322, rw_322, ri_323, rw_323, ri_324, rw_324, ri_325, rw_325, ri_326, rw_326, ri_327, rw_327, ri_328, rw_328, ri_329, rw_329, ri_330, rw_330, ri_331, rw_331, ri_332, rw_332, ri_333, rw_333, ri_334, rw_334, ri_335, rw_335, ri_336, rw_336, ri_337, rw_337, ri_338, rw_338, ri_339, rw_339, ri_340, rw_340, ri_341, rw_341, ri_342, rw_342, ri_343, rw_343, ri_344, rw_344, rk_316, rl_316, rr_316, rk_317, rl_317, rr_317, rk_318, rl_318, rr_318, rk_319, rl_319, rr_319, rk_320, rl_320, rr_320, rk_321, rl_321, rr_321, rk_322, rl_322, rr_322, rk_323, rl_323, rr_323, rk_324, rl_324, rr_324, rk_325, rl_325, rr_325, rk_326, rl_326, rr_326, rk_327, rl_327, rr_327, rk_328, rl_328, rr_328, rk_329, rl_329, rr_329, rk_330, rl_330, rr_330, rk_331, rl_331, rr_331, rk_332, rl_332, rr_332, rk_333, rl_333, rr_333, rk_334, rl_334, rr_334, rk_335, rl_335, rr_335, rk_336, rl_336, rr_336, rk_337, rl_337, rr_337, rk_338, rl_338, rr_338, rk_339, rl_339, rr_339, rk_340, rl_340, rr_340, rk_341, rl_341, rr_341, rk_342, rl_342, rr_342, rk_343, rl_343, rr_343, rk_344, rl_344, rr_344]
    simp (disch := omega) only [nI_add, pk_mul, pk_sub, nI_clamp, cin, nI_leI, nI_ltI, nI_eq, m1_lt, m1_le, nle_m1, nlt_m1, neq_m1, m1_neq, m1_add, sw_row, sw_eq, sw_ne, rCopyK_row, rTakeM_row, rShift_row, rPsh_row, Nat.reduceAdd, Nat.reduceMul, Nat.reduceSub, Nat.reduceLeDiff, Nat.reduceEqDiff, true_and, and_true, Classical.not_not, implies_true, true_implies, forall_const, hl]
    have h1 : ¬ n ≤ i := by omega
    have h3 := ih (i + 1) (by omega)
    by_cases h2 : I 325 (6 * x + i) = nI x
    · rw [rPl, if_pos h2] at h3
      simp [h1, h2, h3]
    · rw [rPl, if_neg h2] at h3
      simp [h1, h2, h3]
theorem c_M_placeOf (hs : rSh M) {x n : Nat} (hx : x < 6) (hn : n ≤ 6) (hl : I 324 x = nI n) : ck_Ev ck_P xl xs d 93 0 [some (.inr 315), some (.inl (nI x)), none, none] [] (rB M I) Q = Q (some (.inl (rPl (I 325) x n))) (rB M I) := by
  simp only [j_M_placeOf_0, e_M_placeOf_0, e_M_placeOf_1, e_M_placeOf_2, e_M_placeOf_3, li_s, la_s, wp_iconst, wp_bipush, wp_sipush, wp_ldc, wp_iload, wp_iload_n, wp_aload, wp_aload_n, wp_istore, wp_istore_n, wp_astore, wp_astore_n, wp_iinc, wp_iadd, wp_isub, wp_imul, wp_iand, wp_irem, wp_dup, wp_pop, wp_goto, wp_if, wp_icmp, wp_ifnull, wp_tsw, wp_get0, wp_get2, wp_get1, wp_put0, wp_put2, wp_put1, wp_iald, wp_sald, wp_iast, wp_bald, wp_bast, wp_aald, wp_aast, wp_alen, wp_slen, wp_new, wp_newa, wp_newq, wp_cast, wp_oinit, wp_clone, wp_copy, wp_callI0, wp_callI1, wp_callI2, wp_callI3, wp_callI4, wp_callI5, wp_callV0, wp_callV1, wp_callV2, wp_callV3, wp_callV4, wp_callV5, wp_callS0, wp_callS1, wp_callS2, wp_callS3, wp_callS4, wp_iret0, wp_iret1, wp_aret, wp_ret, lg_0, lg_1, lg_2, lg_3, lg_4, lg_5, lg_6, lg_7, ls_0, ls_1, ls_2, ls_3, ls_4, ls_5, ls_6, ls_7, oi_m1, oi_0, oi_1, oi_2, oi_3, oi_4, oi_5, bp_6, bp_7, bp_8, bp_9, bp_15, bp_17, bp_18, bp_20, bp_21, bp_24, bp_36, bp_48, bp_50, bp_60, bp_61, sp_1281, sp_9999, lc_100000, lc_1000000, cc_eq, cc_ne, cc_lt, cc_ge, cc_gt, cc_le, z_or0, z_or1, true_and, and_true, Classical.not_not, Option.toList_none, Option.toList_some, List.cons_append, List.nil_append, List.length_cons, List.length_nil, Nat.reduceAdd, Nat.reduceEqDiff, Nat.reduceLeDiff, Nat.zero_le, not_false_eq_true]
  have := c_M_placeOf_l (xl := xl) (xs := xs) (d := d) (Q := Q) hs hx hn hl n 0 (by omega)
  rw [← this, j_M_placeOf_4]
  rfl
end R1
