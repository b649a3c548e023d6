/-! the small memory as the machine's heap -/
def ck_ra (base b : Nat) : Nat → Option Nat
  | 0 => none
  | 1 => some b
  | r + 2 => some (base + r)
def ck_mv (base b : Nat) : ck_V → Value
  | .inl x => .int x
  | .inr r => va_rf (ck_ra base b r)
def ck_nf (ci : Nat) : Nat := match ck_cls[ci]? with
  | some q => q.2.2
  | none => 0
/-- is the component of the t-th array type a class -/
def ck_rt? (t : Nat) : Bool := match ck_tys[t]? with
  | some (.object _) => true
  | _ => false
def ck_fs (base b : Nat) (ci : Nat) (iv : Nat → Int32) (rv : Nat → Nat) : List Value := (List.range (ck_nf ci)).map (fun k => bif Nat.beq (ck_ft ci k) 1 then va_rf (ck_ra base b (rv k)) else .int (iv k))
def ck_ce (cA : Nat → ClassId) (base b : Nat) (kd ln : Nat) (iv : Nat → Int32) (rv : Nat → Nat) : va_E :=
  bif Nat.beq (kd % 2) 0 then .inr (kd / 2 - 1, ck_fs base b (kd / 2 - 1) iv rv)
  else .inl (cA ((kd - 3) / 2), ln, bif ck_rt? ((kd - 3) / 2) then .inr (.inr (.inr (.inr (fun j => ck_ra base b (rv j))))) else .inl iv)
def ck_cell (cA : Nat → ClassId) (base b : Nat) (M : ck_M) (r : Nat) : va_E := ck_ce cA base b (ck_kd M r) (ck_ln M r) (ck_iv M r) (ck_rv M r)
def ck_ws (cA : Nat → ClassId) (base b : Nat) (M : ck_M) : va_W := (List.range (ck_sz M)).map (fun i => (base + i, ck_cell cA base b M (i + 2)))
def ck_wf (M : ck_M) : Prop := ck_kd M 0 = 0 ∧ ck_kd M 1 = 0 ∧ ∀ r, ck_sz M + 2 ≤ r → ck_kd M r = 0
def ck_rep (dC : Nat → ClassId) (dI : Nat → Nat → Nat) (cA : Nat → ClassId) (base b : Nat) (M : ck_M) (H : Heap) : Prop := H.size = base + ck_sz M ∧ va_P (dC, dI) ck_cls (ck_ws cA base b M) H ∧ ck_wf M
def ck_tyl (cA : Nat → ClassId) : List (ClassId × FieldType) := (List.range ck_tys.length).map (fun t => (cA t, ck_tys.getD t .int))
abbrev ck_A (base : Nat) : Nat → Prop := fun q => base ≤ q
section CKR
variable {cA : Nat → ClassId} {base b : Nat} {M : ck_M} {dC : Nat → ClassId} {dI : Nat → Nat → Nat}
theorem ck_ws_get (i : Nat) : (ck_ws cA base b M)[i]? = if i < ck_sz M then some (base + i, ck_cell cA base b M (i + 2)) else none := by
  unfold ck_ws
  rw [List.getElem?_map]
  by_cases h : i < ck_sz M
  · rw [if_pos h, List.getElem?_range h]; rfl
  · rw [if_neg h, List.getElem?_eq_none (by simpa using h)]; rfl
theorem ck_ws_len : (ck_ws cA base b M).length = ck_sz M := by simp [ck_ws]
theorem ck_ws_D : va_D (ck_A base) (ck_ws cA base b M) := by
  refine ⟨fun i j p q hi hj h => ?_, fun k q hk => ?_⟩
  · rw [ck_ws_get] at hi hj
    split at hi
    · split at hj
      · cases hi; cases hj; dsimp only at h; omega
      · cases hj
    · cases hi
  · rw [ck_ws_get] at hk
    split at hk
    · cases hk; exact Nat.le_add_right _ _
    · cases hk
/-- a reference of a kind is a cell -/
theorem ck_at (hw : ck_wf M) {r k : Nat} (hk : ck_kd M r = k) (h0 : k ≠ 0) : ∃ i, r = i + 2 ∧ i < ck_sz M ∧ (ck_ws cA base b M)[i]? = some (base + i, ck_cell cA base b M (i + 2)) := by
  obtain ⟨w0, w1, w2⟩ := hw
  match r, hk with
  | 0, hk => exact absurd (hk.symm.trans w0) h0
  | 1, hk => exact absurd (hk.symm.trans w1) h0
  | i + 2, hk =>
    have hi : i < ck_sz M := Nat.not_le.mp fun q => h0 (hk.symm.trans (w2 (i + 2) (by omega)))
    exact ⟨i, rfl, hi, by rw [ck_ws_get, if_pos hi]⟩
theorem ck_cell_obj {r ci : Nat} (hk : ck_kd M r = 2 * ci + 2) : ck_cell cA base b M r = .inr (ci, ck_fs base b ci (ck_iv M r) (ck_rv M r)) := by
  unfold ck_cell ck_ce
  rw [hk]
  have h1 : Nat.beq ((2 * ci + 2) % 2) 0 = true := by rw [Nat.beq_eq]; omega
  have h2 : (2 * ci + 2) / 2 - 1 = ci := by omega
  rw [h1, h2]; rfl
theorem ck_cell_arr {r t : Nat} (hk : ck_kd M r = 2 * t + 3) : ck_cell cA base b M r = .inl (cA t, ck_ln M r, bif ck_rt? t then .inr (.inr (.inr (.inr (fun j => ck_ra base b (ck_rv M r j))))) else .inl (ck_iv M r)) := by
  unfold ck_cell ck_ce
  rw [hk]
  have h1 : Nat.beq ((2 * t + 3) % 2) 0 = false := by
    cases h : Nat.beq ((2 * t + 3) % 2) 0
    · rfl
    · have := Nat.eq_of_beq_eq_true h; omega
  have h2 : (2 * t + 3 - 3) / 2 = t := by omega
  rw [h1, h2]; rfl
theorem ck_tyl_get {t : Nat} {ty : FieldType} (h : ck_tys[t]? = some ty) : (ck_tyl cA)[t]? = some (cA t, ty) := by
  obtain ⟨h1, h2⟩ := List.getElem?_eq_some_iff.mp h
  unfold ck_tyl
  rw [List.getElem?_map, List.getElem?_range h1]
  simp [List.getD, h]
theorem ck_fs_get {ci k : Nat} {iv : Nat → Int32} {rv : Nat → Nat} (hk : k < ck_nf ci) : (ck_fs base b ci iv rv)[k]? = some (bif Nat.beq (ck_ft ci k) 1 then va_rf (ck_ra base b (rv k)) else .int (iv k)) := by
  unfold ck_fs
  rw [List.getElem?_map, List.getElem?_range hk]; rfl
theorem ck_fs_len {ci : Nat} {iv : Nat → Int32} {rv : Nat → Nat} : (ck_fs base b ci iv rv).length = ck_nf ci := by simp [ck_fs]
/-- one cell changed -/
theorem ck_ws_set {M' : ck_M} {i : Nat} (hz : ck_sz M' = ck_sz M) (h : ∀ j, j ≠ i → ck_cell cA base b M' (j + 2) = ck_cell cA base b M (j + 2)) : ck_ws cA base b M' = (ck_ws cA base b M).set i (base + i, ck_cell cA base b M' (i + 2)) := by
  apply List.ext_getElem?
  intro j
  rw [ck_ws_get, hz, List.getElem?_set, ck_ws_get, ck_ws_len]
  by_cases hj : i = j
  · subst hj
    simp
  · rw [if_neg hj, h j (fun q => hj q.symm)]
/-- one cell more -/
theorem ck_ws_push {M' : ck_M} (hz : ck_sz M' = ck_sz M + 1) (h : ∀ j, j < ck_sz M → ck_cell cA base b M' (j + 2) = ck_cell cA base b M (j + 2)) : ck_ws cA base b M' = ck_ws cA base b M ++ [(base + ck_sz M, ck_cell cA base b M' (ck_sz M + 2))] := by
  apply List.ext_getElem?
  intro j
  rw [ck_ws_get, hz]
  by_cases h1 : j < ck_sz M
  · rw [if_pos (by omega), List.getElem?_append_left (by rw [ck_ws_len]; exact h1), ck_ws_get, if_pos h1, h j h1]
  · rw [List.getElem?_append_right (by rw [ck_ws_len]; omega), ck_ws_len]
    by_cases h2 : j = ck_sz M
    · subst h2; simp
    · rw [if_neg (by omega), List.getElem?_eq_none (by simp; omega)]
theorem ck_nf_of {ci : Nat} {cls : vw_C} (hc : ck_cls[ci]? = some cls) : ck_nf ci = cls.2.2 := by unfold ck_nf; rw [hc]
/-- a field written: the picture -/
theorem ck_ws_wi {ci k i : Nat} {x : Int32} (hkd : ck_kd M (i + 2) = 2 * ci + 2) (hf : Nat.beq (ck_ft ci k) 1 = false) (hk : k < ck_nf ci) : ck_ws cA base b (ck_wi M (i + 2) k x) = (ck_ws cA base b M).set i (base + i, .inr (ci, (ck_fs base b ci (ck_iv M (i + 2)) (ck_rv M (i + 2))).set k (.int x))) := by
  rw [ck_ws_set (M := M) (M' := ck_wi M (i + 2) k x) (i := i) rfl]
  · congr 2
    rw [ck_cell_obj (M := ck_wi M (i + 2) k x) (ci := ci) hkd]
    congr 2
    apply List.ext_getElem?
    intro j
    rw [List.getElem?_set, ck_fs_len]
    by_cases hj : k = j
    · subst hj
      rw [if_pos rfl, if_pos hk, ck_fs_get hk, hf]
      simp [ck_iv, ck_wi]
    · rw [if_neg hj]
      by_cases hl : j < ck_nf ci
      · rw [ck_fs_get hl, ck_fs_get hl]
        have : ck_iv (ck_wi M (i + 2) k x) (i + 2) j = ck_iv M (i + 2) j := by
          simp [ck_iv, ck_wi]; exact fun q => absurd q.symm hj
        rw [this]; rfl
      · rw [List.getElem?_eq_none (by rw [ck_fs_len]; omega), List.getElem?_eq_none (by rw [ck_fs_len]; omega)]
  · intro j hj
    have : ck_iv (ck_wi M (i + 2) k x) (j + 2) = ck_iv M (j + 2) := by
      funext q
      simp [ck_iv, ck_wi, hj]
    unfold ck_cell
    rw [this]; rfl
theorem ck_ws_wr {ci k i : Nat} {x : Nat} (hkd : ck_kd M (i + 2) = 2 * ci + 2) (hf : Nat.beq (ck_ft ci k) 1 = true) (hk : k < ck_nf ci) : ck_ws cA base b (ck_wr M (i + 2) k x) = (ck_ws cA base b M).set i (base + i, .inr (ci, (ck_fs base b ci (ck_iv M (i + 2)) (ck_rv M (i + 2))).set k (va_rf (ck_ra base b x)))) := by
  rw [ck_ws_set (M := M) (M' := ck_wr M (i + 2) k x) (i := i) rfl]
  · congr 2
    rw [ck_cell_obj (M := ck_wr M (i + 2) k x) (ci := ci) hkd]
    congr 2
    apply List.ext_getElem?
    intro j
    rw [List.getElem?_set, ck_fs_len]
    by_cases hj : k = j
    · subst hj
      rw [if_pos rfl, if_pos hk, ck_fs_get hk, hf]
      simp [ck_rv, ck_wr]
    · rw [if_neg hj]
      by_cases hl : j < ck_nf ci
      · rw [ck_fs_get hl, ck_fs_get hl]
        have : ck_rv (ck_wr M (i + 2) k x) (i + 2) j = ck_rv M (i + 2) j := by
          simp [ck_rv, ck_wr]; exact fun q => absurd q.symm hj
        rw [this]; rfl
      · rw [List.getElem?_eq_none (by rw [ck_fs_len]; omega), List.getElem?_eq_none (by rw [ck_fs_len]; omega)]
  · intro j hj
    have : ck_rv (ck_wr M (i + 2) k x) (j + 2) = ck_rv M (j + 2) := by
      funext q
      simp [ck_rv, ck_wr, hj]
    unfold ck_cell
    rw [this]; rfl
theorem ck_ws_ai {t i : Nat} {f : Nat → Int32} {M' : ck_M} (hs : ck_sz M' = ck_sz M) (hk' : ck_kd M' = ck_kd M) (hl' : ck_ln M' = ck_ln M) (hr' : ck_rv M' = ck_rv M) (ho : ∀ j, j ≠ i + 2 → ck_iv M' j = ck_iv M j) (hf : ck_iv M' (i + 2) = f) (hkd : ck_kd M (i + 2) = 2 * t + 3) (ht : ck_rt? t = false) : ck_ws cA base b M' = (ck_ws cA base b M).set i (base + i, .inl (cA t, ck_ln M (i + 2), .inl f)) := by
  rw [ck_ws_set (M := M) (M' := M') (i := i) hs]
  · congr 2
    rw [ck_cell_arr (t := t) (by rw [hk']; exact hkd), ht, hl', hf]; rfl
  · intro j hj
    unfold ck_cell
    rw [hk', hl', hr', ho (j + 2) (by omega)]
theorem ck_ws_ar {t i : Nat} {k x : Nat} (hkd : ck_kd M (i + 2) = 2 * t + 3) (ht : ck_rt? t = true) : ck_ws cA base b (ck_wr M (i + 2) k x) = (ck_ws cA base b M).set i (base + i, .inl (cA t, ck_ln M (i + 2), .inr (.inr (.inr (.inr (va_up (fun j => ck_ra base b (ck_rv M (i + 2) j)) k (ck_ra base b x))))))) := by
  rw [ck_ws_set (M := M) (M' := ck_wr M (i + 2) k x) (i := i) rfl]
  · congr 2
    rw [ck_cell_arr (M := ck_wr M (i + 2) k x) (t := t) hkd, ht]
    simp only [cond_true]
    show Sum.inl (cA t, ck_ln M (i + 2), _) = _
    refine congrArg (fun z => Sum.inl (cA t, ck_ln M (i + 2), Sum.inr (Sum.inr (Sum.inr (Sum.inr z))))) ?_
    funext j
    unfold va_up
    by_cases hj : j = k
    · subst hj; simp [ck_rv, ck_wr]
    · rw [if_neg hj]
      have : ck_rv (ck_wr M (i + 2) k x) (i + 2) j = ck_rv M (i + 2) j := by simp [ck_rv, ck_wr, hj]
      rw [this]
  · intro j hj
    have : ck_rv (ck_wr M (i + 2) k x) (j + 2) = ck_rv M (j + 2) := by
      funext q
      simp [ck_rv, ck_wr, hj]
    unfold ck_cell
    rw [this]; rfl
/-- where the next cell lies -/
theorem ck_fresh {H H1 : Heap} {locs1 : List Loc} {q : Nat} {ce : va_E} (hP1 : va_P (dC, dI) ck_cls (ck_ws cA base b M ++ [(q, ce)]) H1) (hD1 : va_D (ck_A base) (ck_ws cA base b M ++ [(q, ce)])) (hz : H1.size ≤ base + ck_sz M + 1) : q = base + ck_sz M ∧ H1.size = base + ck_sz M + 1 := by
  have hq : (ck_ws cA base b M ++ [(q, ce)])[ck_sz M]? = some (q, ce) := by
    rw [List.getElem?_append_right (by rw [ck_ws_len]; exact Nat.le_refl _), ck_ws_len]; simp
  have h1 : q < H1.size := (hP1 _ _ hq).lt
  have h2 : base ≤ q := hD1.2 _ _ hq
  have h3 : ¬ q < base + ck_sz M := fun h => by
    have hi : q - base < ck_sz M := by omega
    have h4 : (ck_ws cA base b M ++ [(q, ce)])[q - base]? = some (base + (q - base), ck_cell cA base b M (q - base + 2)) := by
      rw [List.getElem?_append_left (by rw [ck_ws_len]; exact hi), ck_ws_get, if_pos hi]
    have h5 := hD1.1 _ _ _ _ hq h4 (by show q = base + (q - base); omega)
    omega
  omega
end CKR
