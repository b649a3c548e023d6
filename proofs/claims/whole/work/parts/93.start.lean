/-! ### the start: what the tables say of the classes and arrays -/
section ST
variable {s : State} {args : Array Value}
theorem st_cls (hw : ∀ w ∈ ck_Wt, w.before args s = true) (hts : ∀ w ∈ lw_tbl, w.before args s = true) : ∀ c : Nat, ∃ (cC : ClassId) (iS : Nat → Nat), ∀ q : vw_C, ck_cls[c]? = some q → u_Kn s q.1 q.2.1 q.2.2 cC iS := by
  intro c
  match c with
  | 0 =>
    obtain ⟨cC, iS, h⟩ := u_known (n := 7) hw cf_0.2.1 (hts _ (by decide +kernel))
    exact ⟨cC, iS, fun q hq => by cases hq; exact h⟩
  | 1 =>
    obtain ⟨cC, iS, h⟩ := u_known (n := 3) hw cf_1.2.1 (hts _ (by decide +kernel))
    exact ⟨cC, iS, fun q hq => by cases hq; exact h⟩
  | 2 =>
    obtain ⟨cC, iS, h⟩ := u_known (n := 13) hw cf_2.2.1 (hts _ (by decide +kernel))
    exact ⟨cC, iS, fun q hq => by cases hq; exact h⟩
  | 3 =>
    obtain ⟨cC, iS, h⟩ := u_known (n := 3) hw cf_3.2.1 (hts _ (by decide +kernel))
    exact ⟨cC, iS, fun q hq => by cases hq; exact h⟩
  | 4 =>
    obtain ⟨cC, iS, h⟩ := u_known (n := 18) hw cf_4.2.1 (hts _ (by decide +kernel))
    exact ⟨cC, iS, fun q hq => by cases hq; exact h⟩
  | 5 =>
    obtain ⟨cC, iS, h⟩ := u_known (n := 10) hw cf_5.2.1 (hts _ (by decide +kernel))
    exact ⟨cC, iS, fun q hq => by cases hq; exact h⟩
  | 6 =>
    obtain ⟨cC, iS, h⟩ := u_known (n := 34) hw cf_6.2.1 (hts _ (by decide +kernel))
    exact ⟨cC, iS, fun q hq => by cases hq; exact h⟩
  | n + 7 => exact ⟨default, fun _ => 0, fun q hq => by cases hq⟩
theorem st_ac {ty : FieldType} (h : (Cond.arrayClass ty).before args s = true) (hty : ∀ cA, s.vm.findClass ("[" ++ ty.toString) = some cA → va_RA s cA ty) : ∃ cA : ClassId, ArrOfT s cA ty ∧ va_RA s cA ty := by
  obtain ⟨c, k, comp, h1, h2, h3⟩ := Cond.arrayClass_spec h
  exact ⟨c, fun n z => ⟨(fun _ hk => nomatch hk), k, h2, comp, h3⟩, hty c h1⟩
theorem st_ao {C : String} (h : (Cond.arrayOver (.object C)).before args s = true) : ∃ cA : ClassId, ArrOfT s cA (.object C) ∧ va_RA s cA (.object C) := by
  obtain ⟨comp, c, k, h1, -, h3, h4, h5⟩ := Cond.arrayOver_spec h
  exact ⟨c, fun n z => ⟨(fun _ hk => nomatch hk), k, h3, comp, h4⟩, k, comp, h3, h4, h1, h5⟩
theorem st_arr (hts : ∀ w ∈ lw_tbl, w.before args s = true) : ∀ t : Nat, ∃ cA : ClassId, ∀ ty : FieldType, ck_tys[t]? = some ty → ArrOfT s cA ty ∧ va_RA s cA ty := by
  intro t
  match t with
  | 0 =>
    obtain ⟨cA, h⟩ := st_ac (ty := .int) (hts _ (by decide +kernel)) (fun _ h => h)
    exact ⟨cA, fun ty q => by cases q; exact h⟩
  | 1 =>
    obtain ⟨cA, h⟩ := st_ac (ty := .boolean) (hts _ (by decide +kernel)) (fun _ h => h)
    exact ⟨cA, fun ty q => by cases q; exact h⟩
  | 2 =>
    obtain ⟨cA, h⟩ := st_ao (C := "ChainKeeper$Message") (hts _ (by decide +kernel))
    exact ⟨cA, fun ty q => by cases q; exact h⟩
  | 3 =>
    obtain ⟨cA, h⟩ := st_ao (C := "ChainKeeper$Node") (hts _ (by decide +kernel))
    exact ⟨cA, fun ty q => by cases q; exact h⟩
  | 4 =>
    obtain ⟨cA, h⟩ := st_ao (C := "ChainKeeper$Client") (hts _ (by decide +kernel))
    exact ⟨cA, fun ty q => by cases q; exact h⟩
  | n + 5 => exact ⟨default, fun q hq => by cases hq⟩
theorem st_K (hts : ∀ w ∈ lw_tbl, w.before args s = true) : ∃ (dC : Nat → ClassId) (dI : Nat → Nat → Nat) (cA : Nat → ClassId), va_K (dC, dI) ck_cls (ck_tyl cA) s := by
  have hw : ∀ w ∈ ck_Wt, w.before args s = true := fun w h => hts w (List.mem_filter.mp h).1
  have h1 := st_cls hw hts
  have h2 := st_arr hts
  refine ⟨fun c => (h1 c).choose, fun c => (h1 c).choose_spec.choose, fun t => (h2 t).choose, fun c q hq => (h1 c).choose_spec.choose_spec q hq, fun k q hk => ?_⟩
  unfold ck_tyl at hk
  rw [List.getElem?_map] at hk
  by_cases h : k < ck_tys.length
  · rw [List.getElem?_range h] at hk
    simp only [Option.map_some, Option.some.injEq] at hk
    subst hk
    have hg : ck_tys[k]? = some (ck_tys.getD k .int) := by rw [List.getD, List.getElem?_eq_getElem h]; rfl
    exact (h2 k).choose_spec _ hg
  · rw [List.getElem?_eq_none (by simpa using h)] at hk
    cases hk
theorem st_Xs (hts : ∀ w ∈ lw_tbl, w.before args s = true) : ck_Xs s :=
  ⟨va_AO.of (hts _ (by decide +kernel)), va_AO.of (hts _ (by decide +kernel)), va_AO.of (hts _ (by decide +kernel)), va_Nw.of rfl (hts _ (by decide +kernel)), va_Nw.of rfl (hts _ (by decide +kernel))⟩
theorem st_rep {dC : Nat → ClassId} {dI : Nat → Nat → Nat} {cA : Nat → ClassId} {b : Nat} : ck_rep dC dI cA s.heap.size b (cB (tM 0 0) Zi Zr) s.heap := by
  refine ⟨rfl, fun k q hk => ?_, rfl, rfl, fun r hr => if_neg (by have : 0 + 2 ≤ r := hr; omega)⟩
  rw [ck_ws_get, if_neg (by show ¬ k < 0; omega)] at hk
  cases hk
end ST
