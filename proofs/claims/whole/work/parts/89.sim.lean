/-! the machine follows the small machine: one instruction -/
abbrev ck_KL : Nat := 36
def ck_Ctx (dC : Nat → ClassId) (dI : Nat → Nat → Nat) (cA : Nat → ClassId) (base b xl : Nat) (xs : Nat → Int32) (p : Program) (s : State) (m : MethodId) (args : Array Value) (meth : Method) (c : Code) (y z0 : Nat) : Prop :=
  p.tables.exec = Jvm.exec ∧ c.code = ck_by y ∧ c.maxLocals = (ck_P y).1 ∧ s.vm.findClass (ck_mn y).cls = some m.cls ∧ (∀ w ∈ ck_Wt, w.before args s = true) ∧ meth.sig.returnType = ck_rt y ∧ meth.locks = false ∧ meth.name = (ck_mn y).name ∧ va_K (dC, dI) ck_cls (ck_tyl cA) s ∧ (va_X b xl xs s s.heap ∧ ck_Xs s) ∧ b < base ∧ s.heap.size = base + z0
def ck_WM (dC : Nat → ClassId) (dI : Nat → Nat → Nat) (cA : Nat → ClassId) (base b : Nat) (p : Program) (l : Launch) (e : Env) (R : Room) (s : State) (m : MethodId) (args : Array Value) (below : List Frame) (meth : Method) (c : Code) (Q : State → Prop) (y z0 u0 : Nat) (M : ck_M) (pc : Nat) (L : ck_L) (st : List ck_V) : Prop :=
  z0 ≤ ck_sz M → u0 ≤ ck_us M → ∀ (H : Heap) (locs : List Loc) (ls : Array Slot), ck_rep dC dI cA base b M H → va_S (ck_A base) s.heap H locs → ck_lr base b ls (ck_P y).1 L → W p l e R s m args below meth c H locs (ck_sz M - z0) (ck_us M - u0) Q (F0 m pc ls (st.map (ck_mv base b)))
theorem ck_sum {base b : Nat} : ∀ {st : List ck_V} {n : Nat}, st.length ≤ n → ((st.map (ck_mv base b)).map fun v => v.category).sum ≤ n := by
  intro st
  induction st with
  | nil => intro n _; exact Nat.zero_le n
  | cons v st ih =>
    intro n h
    cases n with
    | zero => cases h
    | succ n =>
      have := ih (Nat.le_of_succ_le_succ h)
      simp only [List.map_cons, List.sum_cons, ck_cat]
      omega
section CKS
variable {dC : Nat → ClassId} {dI : Nat → Nat → Nat} {cA : Nat → ClassId} {base b xl : Nat} {xs : Nat → Int32} {p : Program} {l : Launch} {e : Env} {R : Room} {s : State} {m : MethodId} {args : Array Value} {below : List Frame} {meth : Method} {c : Code} {Q : State → Prop} {y z0 u0 : Nat} {M : ck_M} {pc : Nat} {L : ck_L} {st : List ck_V}
/-- an instruction that touches the stack alone -/
theorem ck_s_go {pc' : Nat} {L' : ck_L} {st' : List ck_V} (h : ∀ (H : Heap) (locs : List Loc) (ls : Array Slot) (cells slots : Nat), ck_lr base b ls (ck_P y).1 L → (∀ ls', ck_lr base b ls' (ck_P y).1 L' → W p l e R s m args below meth c H locs cells slots Q (F0 m pc' ls' (st'.map (ck_mv base b)))) → W p l e R s m args below meth c H locs cells slots Q (F0 m pc ls (st.map (ck_mv base b)))) (k : ck_WM dC dI cA base b p l e R s m args below meth c Q y z0 u0 M pc' L' st') : ck_WM dC dI cA base b p l e R s m args below meth c Q y z0 u0 M pc L st :=
  fun z u H locs ls hr hS hl => h H locs ls _ _ hl (fun ls' hl' => k z u H locs ls' hr hS hl')
theorem ck_s_get (C : ck_Ctx dC dI cA base b xl xs p s m args meth c y z0) {r ci k idx : Nat} {cls : vw_C} {ref : String} (hc : ck_cls[ci]? = some cls) (hk : k < cls.2.2) (hin : ∀ w ∈ u_ws cls.1 cls.2.1 cls.2.2, w ∈ ck_Wt)
    (hlink : (Cond.fieldLink (ck_mn y).cls idx (cls.2.1 k).1 (cls.2.1 k).2.1 (cls.2.1 k).2.2.1 ∈ ck_Wt) ∨ ∃ host, Cond.fieldLinkNest (ck_mn y).cls idx (cls.2.1 k).1 (cls.2.1 k).2.1 (cls.2.1 k).2.2.1 host ∈ ck_Wt) (hd : decode (ck_by y) pc = .ok (.getfield idx, 3)) (hkd : ck_kd M r = 2 * ci + 2)
    (kk : ck_WM dC dI cA base b p l e R s m args below meth c Q y z0 u0 M (pc + 3) L ((bif Nat.beq (ck_ft ci k) 1 then .inr (ck_rv M r k) else .inl (ck_iv M r k)) :: st)) : ck_WM dC dI cA base b p l e R s m args below meth c Q y z0 u0 M pc L (.inr r :: st) := by
  obtain ⟨hx, hb, hml, hown, hts, -, -, -, hK, -, -, -⟩ := C
  intro z u H locs ls hr hS hl
  obtain ⟨i, rfl, hi, hws⟩ := ck_at (cA := cA) (base := base) (b := b) hr.2.2 hkd (by omega)
  rw [ck_cell_obj hkd] at hws
  have hnf : ck_nf ci = cls.2.2 := by unfold ck_nf; rw [hc]
  have hv := ck_fs_get (base := base) (b := b) (ci := ci) (iv := ck_iv M (i + 2)) (rv := ck_rv M (i + 2)) (k := k) (by rw [hnf]; exact hk)
  have kk' := kk z u H locs ls hr hS hl
  have e1 : ck_mv base b (bif Nat.beq (ck_ft ci k) 1 then .inr (ck_rv M (i + 2) k) else .inl (ck_iv M (i + 2) k)) = bif Nat.beq (ck_ft ci k) 1 then va_rf (ck_ra base b (ck_rv M (i + 2) k)) else .int (ck_iv M (i + 2) k) := by
    cases Nat.beq (ck_ft ci k) 1 <;> rfl
  rw [List.map_cons, e1] at kk'
  rcases hlink with hlink | ⟨host, hlink⟩
  · exact va_get (D := (dC, dI)) (C := cls.1) (T := cls.2.1) (N := cls.2.2) hx hb hts hin hown hK hr.2.1 i hws hc k hk (hts _ hlink) (fun _ h => h) hv hd kk'
  · exact va_getN (D := (dC, dI)) (C := cls.1) (T := cls.2.1) (N := cls.2.2) hx hb hts hin hown hK hr.2.1 i hws hc k hk (hts _ hlink) (fun _ h => h) hv hd kk'
/-- the end of each row that changes the heap -/
theorem ck_fin {M' : ck_M} {H1 : Heap} {locs1 : List Loc} {ls : Array Slot} (hh : s.heap.size = base + z0) (hp : 0 < ck_sz M') (z : z0 ≤ ck_sz M') (u : u0 ≤ ck_us M') (hw : ck_wf M') (hP : va_P (dC, dI) ck_cls (ck_ws cA base b M') H1) (hS : va_S (ck_A base) s.heap H1 locs1) (hl : ck_lr base b ls (ck_P y).1 L) (kk : ck_WM dC dI cA base b p l e R s m args below meth c Q y z0 u0 M' pc L st) : W p l e R s m args below meth c H1 locs1 (ck_sz M' - z0) (ck_us M' - u0) Q (F0 m pc ls (st.map (ck_mv base b))) := by
  refine ck_peek fun h => kk z u H1 locs1 ls ⟨?_, hP, hw⟩ hS hl
  have h1 : (ck_ws cA base b M')[ck_sz M' - 1]? = some (base + (ck_sz M' - 1), ck_cell cA base b M' (ck_sz M' - 1 + 2)) := by rw [ck_ws_get, if_pos (by omega)]
  have h2 := (hP _ _ h1).lt
  dsimp only at h2
  omega
theorem ck_s_put (C : ck_Ctx dC dI cA base b xl xs p s m args meth c y z0) {r ci k idx : Nat} {cls : vw_C} {v : ck_V} {M' : ck_M} {ty : FieldType} (ty0 : Nat → FieldType) (hty : ∀ k, k < cls.2.2 → parseFieldDescriptor (cls.2.1 k).2.2.1 = some (ty0 k)) (hnm : ∀ a, a < cls.2.2 → ∀ b, b < cls.2.2 → a ≠ b → (cls.2.1 a).2.1 ≠ (cls.2.1 b).2.1) (hc : ck_cls[ci]? = some cls) (hk : k < cls.2.2) (hin : ∀ w ∈ u_ws cls.1 cls.2.1 cls.2.2, w ∈ ck_Wt)
    (hlink : ((cls.2.1 k).2.2.2 = false ∧ Cond.fieldLink (ck_mn y).cls idx (cls.2.1 k).1 (cls.2.1 k).2.1 (cls.2.1 k).2.2.1 ∈ ck_Wt) ∨ ((cls.2.1 k).2.2.2 = true ∧ (ck_mn y).name = "<init>" ∧ (cls.2.1 k).1 = (ck_mn y).cls ∧ Cond.fieldLink (ck_mn y).cls idx (cls.2.1 k).1 (cls.2.1 k).2.1 (cls.2.1 k).2.2.1 ∈ ck_Wt) ∨ ((cls.2.1 k).2.2.2 = false ∧ ∃ host, Cond.fieldLinkNest (ck_mn y).cls idx (cls.2.1 k).1 (cls.2.1 k).2.1 (cls.2.1 k).2.2.1 host ∈ ck_Wt)) (hd : decode (ck_by y) pc = .ok (.putfield idx, 3)) (hkd : ck_kd M r = 2 * ci + 2)
    (hpd : parseFieldDescriptor (cls.2.1 k).2.2.1 = some ty) (hn : narrow ty (ck_mv base b v) = ck_mv base b v) (hfit : fits ty (ck_mv base b v) = true)
    (hM : ∀ i, r = i + 2 → ck_sz M' = ck_sz M ∧ ck_us M' = ck_us M ∧ ck_kd M' = ck_kd M ∧ ck_ws cA base b M' = (ck_ws cA base b M).set i (base + i, .inr (ci, (ck_fs base b ci (ck_iv M (i + 2)) (ck_rv M (i + 2))).set k (ck_mv base b v))))
    (kk : ck_WM dC dI cA base b p l e R s m args below meth c Q y z0 u0 M' (pc + 3) L st) : ck_WM dC dI cA base b p l e R s m args below meth c Q y z0 u0 M pc L (v :: .inr r :: st) := by
  obtain ⟨hx, hb, hml, hown, hts, -, -, hname, hK, -, -, hh⟩ := C
  intro z u H locs ls hr hS hl
  obtain ⟨i, rfl, hi, hws⟩ := ck_at (cA := cA) (base := base) (b := b) hr.2.2 hkd (by omega)
  rw [ck_cell_obj hkd] at hws
  obtain ⟨m1, m2, m3, m4⟩ := hM i rfl
  have hln : k < (ck_fs base b ci (ck_iv M (i + 2)) (ck_rv M (i + 2))).length := by rw [ck_fs_len, ck_nf_of hc]; exact hk
  have kk' : ∀ (H1 : Heap) (locs1 : List Loc), va_P (dC, dI) ck_cls ((ck_ws cA base b M).set i (base + i, .inr (ci, (ck_fs base b ci (ck_iv M (i + 2)) (ck_rv M (i + 2))).set k (ck_mv base b v)))) H1 → va_D (ck_A base) ((ck_ws cA base b M).set i (base + i, .inr (ci, (ck_fs base b ci (ck_iv M (i + 2)) (ck_rv M (i + 2))).set k (ck_mv base b v)))) → va_S (ck_A base) s.heap H1 locs1 → W p l e R s m args below meth c H1 locs1 (ck_sz M - z0) (ck_us M - u0) Q (F0 m (pc + 3) ls (st.map (ck_mv base b))) := by
    intro H1 locs1 hP1 _ hS1
    have := ck_fin (M' := M') hh (by rw [m1]; omega) (by rw [m1]; exact z) (by rw [m2]; exact u) (by unfold ck_wf; rw [m3, m1]; exact hr.2.2) (by rw [m4]; exact hP1) hS1 hl kk
    rw [m1, m2] at this
    exact this
  rcases hlink with ⟨hf, hlink⟩ | ⟨hf, hini, hdecl, hlink⟩ | ⟨hf, host, hlink⟩
  · exact va_put (D := (dC, dI)) (C := cls.1) (T := cls.2.1) (N := cls.2.2) (ty := ty) hx hb hts hin ty0 hty hnm hown hK hr.2.1 ck_ws_D hS i hws hc k hk (hts _ hlink) (fun _ h => h) hf hpd hn hfit hln hd kk'
  · exact va_putF (D := (dC, dI)) (C := cls.1) (T := cls.2.1) (N := cls.2.2) (ty := ty) hx hb hts hin ty0 hty hnm hown hK hr.2.1 ck_ws_D hS i hws hc k hk (hts _ hlink) (fun _ h => h) hf (hname.trans hini) hdecl hpd hn hfit hln hd kk'
  · exact va_putN (D := (dC, dI)) (C := cls.1) (T := cls.2.1) (N := cls.2.2) (ty := ty) hx hb hts hin ty0 hty hnm hown hK hr.2.1 ck_ws_D hS i hws hc k hk (hts _ hlink) (fun _ h => h) hf hpd hn hfit hln hd kk'
/-- arrays read -/
theorem ck_in_vp {x : Int32} {n : Nat} (h : ck_in x n) : vp_in x n := vp_in_iff.mpr h
theorem ck_s_iald (C : ck_Ctx dC dI cA base b xl xs p s m args meth c y z0) {r : Nat} {x : Int32} (ht : ck_tys[0]? = some .int) (hd : decode (ck_by y) pc = .ok (.iaload, 1)) (hkd : ck_kd M r = 3) (hi : ck_in x (ck_ln M r)) (kk : ck_WM dC dI cA base b p l e R s m args below meth c Q y z0 u0 M (pc + 1) L (.inl (ck_iv M r x.toNatClampNeg) :: st)) : ck_WM dC dI cA base b p l e R s m args below meth c Q y z0 u0 M pc L (.inl x :: .inr r :: st) := by
  obtain ⟨hx, hb, hml, hown, hts, -, -, hname, hK, -, -, hh⟩ := C
  intro z u H locs ls hr hS hl
  obtain ⟨i, rfl, hi', hws⟩ := ck_at (cA := cA) (base := base) (b := b) hr.2.2 hkd (by omega)
  rw [ck_cell_arr (t := 0) hkd, show ck_rt? 0 = false by unfold ck_rt?; rw [ht]] at hws
  exact va_iald (D := (dC, dI)) hx hb hK hr.2.1 i 0 hws (ck_tyl_get ht) (ck_in_vp hi) hd (kk z u H locs ls hr hS hl)
theorem ck_s_zald (C : ck_Ctx dC dI cA base b xl xs p s m args meth c y z0) {r : Nat} {x : Int32} (ht : ck_tys[1]? = some .boolean) (hd : decode (ck_by y) pc = .ok (.baload, 1)) (hkd : ck_kd M r = 5) (hi : ck_in x (ck_ln M r)) (kk : ck_WM dC dI cA base b p l e R s m args below meth c Q y z0 u0 M (pc + 1) L (.inl (ck_iv M r x.toNatClampNeg) :: st)) : ck_WM dC dI cA base b p l e R s m args below meth c Q y z0 u0 M pc L (.inl x :: .inr r :: st) := by
  obtain ⟨hx, hb, hml, hown, hts, -, -, hname, hK, -, -, hh⟩ := C
  intro z u H locs ls hr hS hl
  obtain ⟨i, rfl, hi', hws⟩ := ck_at (cA := cA) (base := base) (b := b) hr.2.2 hkd (by omega)
  rw [ck_cell_arr (t := 1) hkd, show ck_rt? 1 = false by unfold ck_rt?; rw [ht]] at hws
  exact va_zald (D := (dC, dI)) hx hb hK hr.2.1 i 1 hws (ck_tyl_get ht) (ck_in_vp hi) hd (kk z u H locs ls hr hS hl)
theorem ck_s_aald (C : ck_Ctx dC dI cA base b xl xs p s m args meth c y z0) {r t : Nat} {x : Int32} {cn : String} (ht : ck_tys[t]? = some (.object cn)) (hd : decode (ck_by y) pc = .ok (.aaload, 1)) (hkd : ck_kd M r = 2 * t + 3) (hi : ck_in x (ck_ln M r)) (kk : ck_WM dC dI cA base b p l e R s m args below meth c Q y z0 u0 M (pc + 1) L (.inr (ck_rv M r x.toNatClampNeg) :: st)) : ck_WM dC dI cA base b p l e R s m args below meth c Q y z0 u0 M pc L (.inl x :: .inr r :: st) := by
  obtain ⟨hx, hb, hml, hown, hts, -, -, hname, hK, -, -, hh⟩ := C
  intro z u H locs ls hr hS hl
  obtain ⟨i, rfl, hi', hws⟩ := ck_at (cA := cA) (base := base) (b := b) hr.2.2 hkd (by omega)
  rw [ck_cell_arr (t := t) hkd, show ck_rt? t = true by unfold ck_rt?; rw [ht]] at hws
  exact va_aldq (D := (dC, dI)) hx hb hK hr.2.1 i t hws (ck_tyl_get ht) (ck_in_vp hi) hd (kk z u H locs ls hr hS hl)
theorem ck_s_alen (C : ck_Ctx dC dI cA base b xl xs p s m args meth c y z0) {r t : Nat} {ty : FieldType} (ht : ck_tys[t]? = some ty) (hd : decode (ck_by y) pc = .ok (.arraylength, 1)) (hkd : ck_kd M r = 2 * t + 3) (kk : ck_WM dC dI cA base b p l e R s m args below meth c Q y z0 u0 M (pc + 1) L (.inl (nI (ck_ln M r)) :: st)) : ck_WM dC dI cA base b p l e R s m args below meth c Q y z0 u0 M pc L (.inr r :: st) := by
  obtain ⟨hx, hb, hml, hown, hts, -, -, hname, hK, -, -, hh⟩ := C
  intro z u H locs ls hr hS hl
  obtain ⟨i, rfl, hi', hws⟩ := ck_at (cA := cA) (base := base) (b := b) hr.2.2 hkd (by omega)
  rw [ck_cell_arr (t := t) hkd] at hws
  exact va_alen (D := (dC, dI)) hx hb hK hr.2.1 i t hws (ck_tyl_get ht) rfl hd (kk z u H locs ls hr hS hl)
/-- the script -/
theorem ck_s_sld (C : ck_Ctx dC dI cA base b xl xs p s m args meth c y z0) {x : Int32} (hd : decode (ck_by y) pc = .ok (.iaload, 1)) (hi : ck_in x xl) (kk : ck_WM dC dI cA base b p l e R s m args below meth c Q y z0 u0 M (pc + 1) L (.inl (xs x.toNatClampNeg) :: st)) : ck_WM dC dI cA base b p l e R s m args below meth c Q y z0 u0 M pc L (.inl x :: .inr 1 :: st) := by
  obtain ⟨hx, hb, hml, hown, hts, -, -, hname, hK, hX, hbb, hh⟩ := C
  intro z u H locs ls hr hS hl
  exact va_sld hx hb hX.1 (by omega) (by show ¬ base ≤ b; omega) hS (ck_in_vp hi) hd (kk z u H locs ls hr hS hl)
theorem ck_s_slen (C : ck_Ctx dC dI cA base b xl xs p s m args meth c y z0) (hd : decode (ck_by y) pc = .ok (.arraylength, 1)) (kk : ck_WM dC dI cA base b p l e R s m args below meth c Q y z0 u0 M (pc + 1) L (.inl (nI xl) :: st)) : ck_WM dC dI cA base b p l e R s m args below meth c Q y z0 u0 M pc L (.inr 1 :: st) := by
  obtain ⟨hx, hb, hml, hown, hts, -, -, hname, hK, hX, hbb, hh⟩ := C
  intro z u H locs ls hr hS hl
  exact va_slen hx hb hX.1 (by omega) (by show ¬ base ≤ b; omega) hS hd (kk z u H locs ls hr hS hl)
/-- arrays written -/
theorem ck_s_iast (C : ck_Ctx dC dI cA base b xl xs p s m args meth c y z0) {r : Nat} {x v : Int32} (ht : ck_tys[0]? = some .int) (hd : decode (ck_by y) pc = .ok (.iastore, 1)) (hkd : ck_kd M r = 3) (hi : ck_in x (ck_ln M r)) (kk : ck_WM dC dI cA base b p l e R s m args below meth c Q y z0 u0 (ck_wi M r x.toNatClampNeg v) (pc + 1) L st) : ck_WM dC dI cA base b p l e R s m args below meth c Q y z0 u0 M pc L (.inl v :: .inl x :: .inr r :: st) := by
  obtain ⟨hx, hb, hml, hown, hts, -, -, hname, hK, -, -, hh⟩ := C
  intro z u H locs ls hr hS hl
  obtain ⟨i, rfl, hi', hws⟩ := ck_at (cA := cA) (base := base) (b := b) hr.2.2 hkd (by omega)
  have h0 : ck_rt? 0 = false := by unfold ck_rt?; rw [ht]
  rw [ck_cell_arr (t := 0) hkd, h0] at hws
  refine va_iast (D := (dC, dI)) hx hb hK hr.2.1 ck_ws_D hS i 0 hws (ck_tyl_get ht) (ck_in_vp hi) hd (fun H1 locs1 hP1 _ hS1 => ?_)
  refine ck_fin (M' := ck_wi M (i + 2) x.toNatClampNeg v) hh (by show 0 < ck_sz M; omega) z u hr.2.2 ?_ hS1 hl kk
  rw [ck_ws_ai (M := M) (M' := ck_wi M (i + 2) x.toNatClampNeg v) (t := 0) (i := i) (f := upd (ck_iv M (i + 2)) x.toNatClampNeg v) rfl rfl rfl rfl (fun j hj => by funext q; simp [ck_iv, ck_wi, hj]) (by funext q; simp [ck_iv, ck_wi, upd]) hkd h0]
  exact hP1
theorem ck_nar01 {v : Int32} (h : v = 0 ∨ v = 1) : vp_nar .boolean v = v := by rcases h with rfl | rfl <;> decide
theorem ck_s_zast (C : ck_Ctx dC dI cA base b xl xs p s m args meth c y z0) {r : Nat} {x v : Int32} (ht : ck_tys[1]? = some .boolean) (hd : decode (ck_by y) pc = .ok (.bastore, 1)) (hkd : ck_kd M r = 5) (hi : ck_in x (ck_ln M r)) (hv : v = 0 ∨ v = 1) (kk : ck_WM dC dI cA base b p l e R s m args below meth c Q y z0 u0 (ck_wi M r x.toNatClampNeg v) (pc + 1) L st) : ck_WM dC dI cA base b p l e R s m args below meth c Q y z0 u0 M pc L (.inl v :: .inl x :: .inr r :: st) := by
  obtain ⟨hx, hb, hml, hown, hts, -, -, hname, hK, -, -, hh⟩ := C
  intro z u H locs ls hr hS hl
  obtain ⟨i, rfl, hi', hws⟩ := ck_at (cA := cA) (base := base) (b := b) hr.2.2 hkd (by omega)
  have h0 : ck_rt? 1 = false := by unfold ck_rt?; rw [ht]
  rw [ck_cell_arr (t := 1) hkd, h0] at hws
  refine va_zast (D := (dC, dI)) hx hb hK hr.2.1 ck_ws_D hS i 1 hws (ck_tyl_get ht) (ck_in_vp hi) hd (fun H1 locs1 hP1 _ hS1 => ?_)
  rw [ck_nar01 hv] at hP1
  refine ck_fin (M' := ck_wi M (i + 2) x.toNatClampNeg v) hh (by show 0 < ck_sz M; omega) z u hr.2.2 ?_ hS1 hl kk
  rw [ck_ws_ai (M := M) (M' := ck_wi M (i + 2) x.toNatClampNeg v) (t := 1) (i := i) (f := upd (ck_iv M (i + 2)) x.toNatClampNeg v) rfl rfl rfl rfl (fun j hj => by funext q; simp [ck_iv, ck_wi, hj]) (by funext q; simp [ck_iv, ck_wi, upd]) hkd h0]
  exact hP1
theorem ck_s_aast (C : ck_Ctx dC dI cA base b xl xs p s m args meth c y z0) {r t ci v : Nat} {cls : vw_C} {x : Int32} (ht : ck_tys[t]? = some (.object cls.1)) (hc : ck_cls[ci]? = some cls) (hd : decode (ck_by y) pc = .ok (.aastore, 1)) (hkd : ck_kd M r = 2 * t + 3) (hi : ck_in x (ck_ln M r)) (hv : ck_kd M v = 2 * ci + 2) (kk : ck_WM dC dI cA base b p l e R s m args below meth c Q y z0 u0 (ck_wr M r x.toNatClampNeg v) (pc + 1) L st) : ck_WM dC dI cA base b p l e R s m args below meth c Q y z0 u0 M pc L (.inr v :: .inl x :: .inr r :: st) := by
  obtain ⟨hx, hb, hml, hown, hts, -, -, hname, hK, -, -, hh⟩ := C
  intro z u H locs ls hr hS hl
  obtain ⟨i, rfl, hi', hws⟩ := ck_at (cA := cA) (base := base) (b := b) hr.2.2 hkd (by omega)
  obtain ⟨j, rfl, hj', hwv⟩ := ck_at (cA := cA) (base := base) (b := b) hr.2.2 hv (by omega)
  have h0 : ck_rt? t = true := by unfold ck_rt?; rw [ht]
  rw [ck_cell_arr (t := t) hkd, h0] at hws
  rw [ck_cell_obj hv] at hwv
  refine va_astq (D := (dC, dI)) hx hb hK hr.2.1 ck_ws_D hS i t j ci hws (ck_tyl_get ht) hwv hc (ck_in_vp hi) hd (fun H1 locs1 hP1 _ hS1 => ?_)
  refine ck_fin (M' := ck_wr M (i + 2) x.toNatClampNeg (j + 2)) hh (by show 0 < ck_sz M; omega) z u hr.2.2 ?_ hS1 hl kk
  rw [ck_ws_ar hkd h0]
  exact hP1
theorem ck_al_cell (M : ck_M) (kind len : Nat) (hw : ck_wf M) : ck_sz (ck_al M kind len) = ck_sz M + 1 ∧ ck_us (ck_al M kind len) = ck_us M + len ∧ (∀ j, j < ck_sz M → ck_cell cA base b (ck_al M kind len) (j + 2) = ck_cell cA base b M (j + 2)) ∧ ck_cell cA base b (ck_al M kind len) (ck_sz M + 2) = ck_ce cA base b kind len (fun _ => 0) (fun _ => 0) ∧ ck_wf (ck_al M kind len) := by
  refine ⟨rfl, rfl, fun j hj => ?_, ?_, ?_⟩
  · have hj' : ¬ j + 2 = M.1 + 2 := by have : ck_sz M = M.1 := rfl; omega
    unfold ck_cell
    have e1 : ck_kd (ck_al M kind len) (j + 2) = ck_kd M (j + 2) := if_neg hj'
    have e2 : ck_ln (ck_al M kind len) (j + 2) = ck_ln M (j + 2) := if_neg hj'
    have e3 : ck_iv (ck_al M kind len) (j + 2) = ck_iv M (j + 2) := by funext q; exact if_neg hj'
    have e4 : ck_rv (ck_al M kind len) (j + 2) = ck_rv M (j + 2) := by funext q; exact if_neg hj'
    rw [e1, e2, e3, e4]
  · unfold ck_cell
    have e1 : ck_kd (ck_al M kind len) (ck_sz M + 2) = kind := if_pos rfl
    have e2 : ck_ln (ck_al M kind len) (ck_sz M + 2) = len := if_pos rfl
    have e3 : ck_iv (ck_al M kind len) (ck_sz M + 2) = fun _ => 0 := by funext q; exact if_pos rfl
    have e4 : ck_rv (ck_al M kind len) (ck_sz M + 2) = fun _ => 0 := by funext q; exact if_pos rfl
    rw [e1, e2, e3, e4]
  · obtain ⟨w0, w1, w2⟩ := hw
    have hne : ∀ r, r ≠ ck_sz M + 2 → ck_kd (ck_al M kind len) r = ck_kd M r := fun r h => if_neg h
    exact ⟨by rw [hne 0 (by omega)]; exact w0, by rw [hne 1 (by omega)]; exact w1, fun r hr => by
      have hr' : ck_sz M + 1 + 2 ≤ r := hr
      rw [hne r (by omega)]; exact w2 r (by omega)⟩
/-- the end of each row that makes a cell -/
theorem ck_finN {M' : ck_M} {H1 : Heap} {locs1 : List Loc} {ls : Array Slot} {q n : Nat} {ce : va_E} (hh : s.heap.size = base + z0) (h1 : ck_sz M' = ck_sz M + 1) (h2 : ck_us M' = ck_us M + n) (h3 : ∀ j, j < ck_sz M → ck_cell cA base b M' (j + 2) = ck_cell cA base b M (j + 2)) (h4 : ck_cell cA base b M' (ck_sz M + 2) = ce) (hw : ck_wf M') (z : z0 ≤ ck_sz M) (u : u0 ≤ ck_us M) (hP : va_P (dC, dI) ck_cls (ck_ws cA base b M ++ [(q, ce)]) H1) (hD : va_D (ck_A base) (ck_ws cA base b M ++ [(q, ce)])) (hS : va_S (ck_A base) s.heap H1 locs1) (hl : ck_lr base b ls (ck_P y).1 L) (kk : ck_WM dC dI cA base b p l e R s m args below meth c Q y z0 u0 M' pc L (.inr (ck_sz M + 2) :: st)) : W p l e R s m args below meth c H1 locs1 (ck_sz M - z0 + 1) (ck_us M - u0 + n) Q (F0 m pc ls (.ref q :: st.map (ck_mv base b))) := by
  refine ck_peek fun h => ?_
  obtain ⟨hq, hz⟩ := ck_fresh (H := s.heap) (locs1 := locs1) hP hD (by omega)
  subst hq
  have := ck_fin (M' := M') hh (by omega) (by omega) (by omega) hw (by rw [ck_ws_push h1 h3, h4]; exact hP) hS hl kk
  rw [h1, h2, show ck_sz M + 1 - z0 = ck_sz M - z0 + 1 by omega, show ck_us M + n - u0 = ck_us M - u0 + n by omega] at this
  exact this
theorem ck_s_new (C : ck_Ctx dC dI cA base b xl xs p s m args meth c y z0) {ci idx : Nat} {cls : vw_C} (ty0 : Nat → FieldType) (hty : ∀ k, k < cls.2.2 → parseFieldDescriptor (cls.2.1 k).2.2.1 = some (ty0 k)) (hdv : ∀ k, k < cls.2.2 → defaultValue (ty0 k) = bif Nat.beq (ck_ft ci k) 1 then .null else .int 0) (hc : ck_cls[ci]? = some cls) (hin : ∀ w ∈ u_ws cls.1 cls.2.1 cls.2.2, w ∈ ck_Wt)
    (hw1 : Cond.classLink (ck_mn y).cls idx cls.1 ∈ ck_Wt) (hw2 : Cond.instantiable cls.1 cls.2.2 ∈ ck_Wt) (hw3 : Cond.initialized cls.1 ∈ ck_Wt) (hd : decode (ck_by y) pc = .ok (.new idx, 3)) (hR1 : ck_sz M + 1 - z0 ≤ R.cells) (hR2 : ck_us M + cls.2.2 - u0 ≤ R.slots)
    (kk : ck_WM dC dI cA base b p l e R s m args below meth c Q y z0 u0 (ck_al M (2 * ci + 2) cls.2.2) (pc + 3) L (.inr (ck_sz M + 2) :: st)) : ck_WM dC dI cA base b p l e R s m args below meth c Q y z0 u0 M pc L st := by
  obtain ⟨hx, hb, hml, hown, hts, -, -, hname, hK, -, -, hh⟩ := C
  intro z u H locs ls hr hS hl
  obtain ⟨a1, a2, a3, a4, a5⟩ := ck_al_cell (cA := cA) (base := base) (b := b) M (2 * ci + 2) cls.2.2 hr.2.2
  refine va_new (D := (dC, dI)) (ci := ci) (fs := ck_fs base b ci (fun _ => 0) (fun _ => 0)) (C := cls.1) (T := cls.2.1) (N := cls.2.2) hx hb hts hin ty0 hty hown (hts _ hw1) (hts _ hw2) (hts _ hw3) hK hr.2.1 ck_ws_D hS (fun q hq => by show base ≤ q; omega) hc (fun j hj => ?_) (by omega) (by omega) hd (fun q H1 hP1 hD1 hS1 => ?_)
  · rw [hdv j hj]
    unfold vp_V
    rw [List.getD_eq_getElem?_getD, ck_fs_get (by rw [ck_nf_of hc]; exact hj)]
    cases Nat.beq (ck_ft ci j) 1 <;> rfl
  · refine ck_finN (M' := ck_al M (2 * ci + 2) cls.2.2) hh a1 a2 a3 ?_ a5 z u hP1 hD1 hS1 hl kk
    rw [a4]
    unfold ck_ce
    have h1 : Nat.beq ((2 * ci + 2) % 2) 0 = true := by rw [Nat.beq_eq]; omega
    rw [h1, show (2 * ci + 2) / 2 - 1 = ci by omega]; rfl
theorem ck_ce_arr (t n : Nat) : ck_ce cA base b (2 * t + 3) n (fun _ => 0) (fun _ => 0) = .inl (cA t, n, bif ck_rt? t then .inr (.inr (.inr (.inr (fun _ => none)))) else .inl (fun _ => 0)) := by
  unfold ck_ce
  have h1 : Nat.beq ((2 * t + 3) % 2) 0 = false := by
    cases h : Nat.beq ((2 * t + 3) % 2) 0
    · rfl
    · have := Nat.eq_of_beq_eq_true h; omega
  rw [h1, show (2 * t + 3 - 3) / 2 = t by omega]; rfl
theorem ck_s_newa (C : ck_Ctx dC dI cA base b xl xs p s m args meth c y z0) {t : Nat} {at' : ArrayType} {n : Int32} (ht : ck_tys[t]? = some (newarray.typeOf at')) (hat : at' = .int ∨ at' = .boolean) (hw1 : Cond.arrayClass (newarray.typeOf at') ∈ ck_Wt) (hd : decode (ck_by y) pc = .ok (.newarray at', 2)) (hn : ¬ n < 0 ∧ n.toNatClampNeg ≤ 65536) (hR1 : ck_sz M + 1 - z0 ≤ R.cells) (hR2 : ck_us M + n.toNatClampNeg - u0 ≤ R.slots)
    (kk : ck_WM dC dI cA base b p l e R s m args below meth c Q y z0 u0 (ck_al M (2 * t + 3) n.toNatClampNeg) (pc + 2) L (.inr (ck_sz M + 2) :: st)) : ck_WM dC dI cA base b p l e R s m args below meth c Q y z0 u0 M pc L (.inl n :: st) := by
  obtain ⟨hx, hb, hml, hown, hts, -, -, hname, hK, -, -, hh⟩ := C
  intro z u H locs ls hr hS hl
  obtain ⟨a1, a2, a3, a4, a5⟩ := ck_al_cell (cA := cA) (base := base) (b := b) M (2 * t + 3) n.toNatClampNeg hr.2.2
  have hrt : ck_rt? t = false := by unfold ck_rt?; rw [ht]; rcases hat with rfl | rfl <;> rfl
  refine va_newa (D := (dC, dI)) (a0 := (n.toNatClampNeg, .inl (fun _ => 0))) hx hb (hts _ hw1) rfl hK hr.2.1 ck_ws_D hS (fun q hq => by show base ≤ q; omega) (fun cI => ?_) hn.1 rfl (by rcases hat with rfl | rfl <;> simp [componentBytes, newarray.typeOf] <;> omega) (by omega) (by omega) hd (fun q cI H1 hK1 hP1 hD1 hS1 => ?_)
  · rcases hat with rfl | rfl <;> rfl
  · have hcI : cI = cA t := by
      have g1 := (hK1.2 (ck_tyl cA).length (cI, newarray.typeOf at') (by rw [List.getElem?_append_right (Nat.le_refl _)]; simp)).2
      have g2 := (hK.2 t _ (ck_tyl_get ht)).2
      rcases hat with rfl | rfl <;> exact Option.some.inj (g1.symm.trans g2)
    subst hcI
    refine ck_finN (M' := ck_al M (2 * t + 3) n.toNatClampNeg) hh a1 a2 a3 ?_ a5 z u hP1 hD1 hS1 hl kk
    rw [a4, ck_ce_arr, hrt]; rfl
theorem ck_s_newq (C : ck_Ctx dC dI cA base b xl xs p s m args meth c y z0) {t idx : Nat} {cn : String} {n : Int32} (ht : ck_tys[t]? = some (.object cn)) (hw1 : Cond.classLink (ck_mn y).cls idx cn ∈ ck_Wt) (hw2 : ∀ s, ck_Xs s → va_AO cn s) (hd : decode (ck_by y) pc = .ok (.anewarray idx, 3)) (hn : ¬ n < 0 ∧ n.toNatClampNeg ≤ 65536) (hR1 : ck_sz M + 1 - z0 ≤ R.cells) (hR2 : ck_us M + n.toNatClampNeg - u0 ≤ R.slots)
    (kk : ck_WM dC dI cA base b p l e R s m args below meth c Q y z0 u0 (ck_al M (2 * t + 3) n.toNatClampNeg) (pc + 3) L (.inr (ck_sz M + 2) :: st)) : ck_WM dC dI cA base b p l e R s m args below meth c Q y z0 u0 M pc L (.inl n :: st) := by
  obtain ⟨hx, hb, hml, hown, hts, -, -, hname, hK, hX, -, hh⟩ := C
  intro z u H locs ls hr hS hl
  obtain ⟨a1, a2, a3, a4, a5⟩ := ck_al_cell (cA := cA) (base := base) (b := b) M (2 * t + 3) n.toNatClampNeg hr.2.2
  have hrt : ck_rt? t = true := by unfold ck_rt?; rw [ht]
  refine va_newq (D := (dC, dI)) hx hb hown (hts _ hw1) (hw2 _ hX.2) hK hr.2.1 ck_ws_D hS (fun q hq => by show base ≤ q; omega) hn.1 rfl (by omega) (by omega) (by omega) hd (fun q cI H1 hK1 hP1 hD1 hS1 => ?_)
  have hcI : cI = cA t := by
    obtain ⟨kA, comp, -, -, -, g1⟩ := (hK1.2 (ck_tyl cA).length (cI, .object cn) (by rw [List.getElem?_append_right (Nat.le_refl _)]; simp)).2
    obtain ⟨kA', comp', -, -, -, g2⟩ := (hK.2 t _ (ck_tyl_get ht)).2
    exact Option.some.inj (g1.symm.trans g2)
  subst hcI
  refine ck_finN (M' := ck_al M (2 * t + 3) n.toNatClampNeg) hh a1 a2 a3 ?_ a5 z u hP1 hD1 hS1 hl kk
  rw [a4, ck_ce_arr, hrt]; rfl
theorem ck_s_clone (C : ck_Ctx dC dI cA base b xl xs p s m args meth c y z0) {r idx : Nat} (ht : ck_tys[0]? = some .int) (hw1 : Cond.methodLink (ck_mn y).cls idx ⟨"[I", "clone", "()Ljava/lang/Object;"⟩ ∈ ck_Wt) (hw2 : Cond.sameMethod "[I" "java/lang/Object" "clone" "()Ljava/lang/Object;" ∈ ck_Wt) (hw3 : Cond.native ⟨"java/lang/Object", "clone", "()Ljava/lang/Object;"⟩ ∈ ck_Wt) (hw4 : Cond.instanceMethod ⟨"java/lang/Object", "clone", "()Ljava/lang/Object;"⟩ ∈ ck_Wt) (hw5 : Cond.selects "[I" ⟨"[I", "clone", "()Ljava/lang/Object;"⟩ ⟨"java/lang/Object", "clone", "()Ljava/lang/Object;"⟩ ∈ ck_Wt) (hw6 : ∀ s, ck_Xs s → va_Nw (.castable "[I" "java/lang/Cloneable") s)
    (hd : decode (ck_by y) pc = .ok (.invokevirtual idx, 3)) (hkd : ck_kd M r = 3) (hst : st.length ≤ 8) (hF : 1 ≤ R.frames) (hLo : 36 ≤ R.locals) (hR1 : ck_sz M + 1 - z0 ≤ R.cells) (hR2 : ck_us M + ck_ln M r - u0 ≤ R.slots)
    (kk : ck_WM dC dI cA base b p l e R s m args below meth c Q y z0 u0 (ck_cn M r) (pc + 3) L (.inr (ck_sz M + 2) :: st)) : ck_WM dC dI cA base b p l e R s m args below meth c Q y z0 u0 M pc L (.inr r :: st) := by
  obtain ⟨hx, hb, hml, hown, hts, -, -, hname, hK, hX, -, hh⟩ := C
  intro z u H locs ls hr hS hl
  obtain ⟨i, rfl, hi', hws⟩ := ck_at (cA := cA) (base := base) (b := b) hr.2.2 hkd (by omega)
  have h0 : ck_rt? 0 = false := by unfold ck_rt?; rw [ht]
  have hce := ck_cell_arr (cA := cA) (base := base) (b := b) (t := 0) hkd
  rw [h0] at hce
  rw [hce] at hws
  have hnm : s.vm.findClass "[I" = some (cA 0) := (hK.2 0 _ (ck_tyl_get ht)).2
  refine va_clone (D := (dC, dI)) hx hb (by rw [hml, hl.2.1]) hown (hts _ hw1) (hts _ hw2) (hts _ hw3) (hts _ hw4) (hts _ hw5) (hw6 _ hX.2) hK hr.2.1 ck_ws_D hS (fun q hq => by show base ≤ q; omega) i 0 hws (ck_tyl_get ht) hnm (fun j v hv => ?_) hF ?_ (by omega) (by show _ + ck_ln M (i + 2) ≤ _; omega) hd (fun q H1 hK1 hP1 hD1 hS1 => ?_)
  · have : v ∈ (vp_cell (cA 0) (ck_ln M (i + 2), .inl (ck_iv M (i + 2)))).slots := Array.mem_of_getElem? hv
    simp [vp_cell, arrV] at this
    obtain ⟨k, rfl⟩ := this
    rfl
  · have : ((st.map (ck_mv base b)).map fun v => v.category).sum ≤ 8 := ck_sum hst
    omega
  · have hj : ∀ j, j < ck_sz M → ¬ j + 2 = M.1 + 2 := fun j hj => by have : ck_sz M = M.1 := rfl; omega
    refine ck_finN (M' := ck_cn M (i + 2)) (n := ck_ln M (i + 2)) hh rfl rfl (fun j hj' => ?_) ?_ ?_ z u hP1 hD1 hS1 hl kk
    · unfold ck_cell
      have e1 : ck_kd (ck_cn M (i + 2)) (j + 2) = ck_kd M (j + 2) := if_neg (hj j hj')
      have e2 : ck_ln (ck_cn M (i + 2)) (j + 2) = ck_ln M (j + 2) := if_neg (hj j hj')
      have e3 : ck_iv (ck_cn M (i + 2)) (j + 2) = ck_iv M (j + 2) := by funext q; exact if_neg (hj j hj')
      have e4 : ck_rv (ck_cn M (i + 2)) (j + 2) = ck_rv M (j + 2) := by funext q; exact if_neg (hj j hj')
      rw [e1, e2, e3, e4]
    · have e1 : ck_kd (ck_cn M (i + 2)) (ck_sz M + 2) = 2 * 0 + 3 := (if_pos rfl).trans hkd
      have e2 : ck_ln (ck_cn M (i + 2)) (ck_sz M + 2) = ck_ln M (i + 2) := if_pos rfl
      have e3 : ck_iv (ck_cn M (i + 2)) (ck_sz M + 2) = ck_iv M (i + 2) := by funext q; exact if_pos rfl
      rw [ck_cell_arr (t := 0) e1, h0, e2, e3]; rfl
    · obtain ⟨w0, w1, w2⟩ := hr.2.2
      have hne : ∀ r, r ≠ ck_sz M + 2 → ck_kd (ck_cn M (i + 2)) r = ck_kd M r := fun r h => if_neg h
      exact ⟨by rw [hne 0 (by omega)]; exact w0, by rw [hne 1 (by omega)]; exact w1, fun r hr => by
        have hr' : ck_sz M + 1 + 2 ≤ r := hr
        rw [hne r (by omega)]; exact w2 r (by omega)⟩
theorem ck_s_copy (C : ck_Ctx dC dI cA base b xl xs p s m args meth c y z0) {r q idx : Nat} {n dp sp : Int32} (ht : ck_tys[0]? = some .int) (hw1 : Cond.methodLink (ck_mn y).cls idx arraycopyName ∈ ck_Wt) (hw2 : Cond.native arraycopyName ∈ ck_Wt) (hw3 : Cond.static arraycopyName ∈ ck_Wt) (hw4 : Cond.initialized "java/lang/System" ∈ ck_Wt)
    (hd : decode (ck_by y) pc = .ok (.invokestatic idx, 3)) (hkd : ck_kd M r = 3) (hkq : ck_kd M q = 3) (hst : st.length ≤ 8) (hF : 1 ≤ R.frames) (hLo : 36 ≤ R.locals) (hc : ¬ sp < 0 ∧ ¬ dp < 0 ∧ ¬ n < 0 ∧ sp.toNatClampNeg + n.toNatClampNeg ≤ ck_ln M r ∧ dp.toNatClampNeg + n.toNatClampNeg ≤ ck_ln M q)
    (kk : ck_WM dC dI cA base b p l e R s m args below meth c Q y z0 u0 (ck_cp M r sp.toNatClampNeg q dp.toNatClampNeg n.toNatClampNeg) (pc + 3) L st) : ck_WM dC dI cA base b p l e R s m args below meth c Q y z0 u0 M pc L (.inl n :: .inl dp :: .inr q :: .inl sp :: .inr r :: st) := by
  obtain ⟨hx, hb, hml, hown, hts, -, -, hname, hK, -, -, hh⟩ := C
  intro z u H locs ls hr hS hl
  obtain ⟨i, rfl, hi', hws⟩ := ck_at (cA := cA) (base := base) (b := b) hr.2.2 hkd (by omega)
  obtain ⟨j, rfl, hj', hwq⟩ := ck_at (cA := cA) (base := base) (b := b) hr.2.2 hkq (by omega)
  have h0 : ck_rt? 0 = false := by unfold ck_rt?; rw [ht]
  rw [ck_cell_arr (t := 0) hkd, h0] at hws
  rw [ck_cell_arr (t := 0) hkq, h0] at hwq
  refine va_copyi (D := (dC, dI)) hx hb (by rw [hml, hl.2.1]) hown (hts _ hw1) (hts _ hw2) (hts _ hw3) (hts _ hw4) hK hr.2.1 ck_ws_D hS i j 0 0 hws hwq (ck_tyl_get ht) (ck_tyl_get ht) rfl hc.1 hc.2.1 hc.2.2.1 hc.2.2.2.1 hc.2.2.2.2 (fun _ _ => rfl) hF ?_ hd (fun H1 locs1 hP1 _ hS1 => ?_)
  · have : ((st.map (ck_mv base b)).map fun v => v.category).sum ≤ 8 := ck_sum hst
    have h2 : nativeFrameWords "java/lang/System" "arraycopy" 5 + 11 ≤ 28 := by decide +kernel
    omega
  · refine ck_fin (M' := ck_cp M (i + 2) sp.toNatClampNeg (j + 2) dp.toNatClampNeg n.toNatClampNeg) hh (by show 0 < ck_sz M; omega) z u hr.2.2 ?_ hS1 hl kk
    rw [ck_ws_ai (M := M) (M' := ck_cp M (i + 2) sp.toNatClampNeg (j + 2) dp.toNatClampNeg n.toNatClampNeg) (t := 0) (i := j) (f := va_cpy (ck_iv M (i + 2)) (ck_iv M (j + 2)) sp.toNatClampNeg dp.toNatClampNeg n.toNatClampNeg) rfl rfl rfl rfl (fun k hk => by funext x; simp [ck_iv, ck_cp, hk]) (by funext x; simp [ck_iv, ck_cp, va_cpy]) hkq h0]
    exact hP1
theorem ck_s_oinit (C : ck_Ctx dC dI cA base b xl xs p s m args meth c y z0) {r idx : Nat} (hw1 : Cond.methodLink (ck_mn y).cls idx Lib.objectInit ∈ ck_Wt) (hw2 : Cond.instanceMethod Lib.objectInit ∈ ck_Wt) (hw3 : Cond.code Lib.objectInit ⟨#[0xb1]⟩ 1 none ∈ ck_Wt) (hd : decode (ck_by y) pc = .ok (.invokespecial idx, 3)) (hr0 : ¬ r = 0) (hst : st.length ≤ 8) (hF : 1 ≤ R.frames) (hLo : 36 ≤ R.locals)
    (kk : ck_WM dC dI cA base b p l e R s m args below meth c Q y z0 u0 M (pc + 3) L st) : ck_WM dC dI cA base b p l e R s m args below meth c Q y z0 u0 M pc L (.inr r :: st) := by
  obtain ⟨hx, hb, hml, hown, hts, -, -, hname, hK, -, -, hh⟩ := C
  intro z u H locs ls hr hS hl
  have hsum : ((st.map (ck_mv base b)).map fun v => v.category).sum ≤ 8 := ck_sum hst
  have hrm := lv_room (m := m) (pc := pc) (ls := ls) (rest := List.map (ck_mv base b) (.inr r :: st)) hsum
  have hv : ∃ a, ck_mv base b (.inr r) = .ref a := by
    match r, hr0 with
    | 1, _ => exact ⟨_, rfl⟩
    | r + 2, _ => exact ⟨_, rfl⟩
  obtain ⟨a, ha⟩ := hv
  refine W.objInit (a := a) (rest := st.map (ck_mv base b)) hx hb hown (hts _ hw1) (hts _ hw2) (hts _ hw3) rfl (by rw [hml]; exact hl.2.1) (by show _ :: _ = _; rw [ha]) hd hF (by omega) ?_
  exact kk z u H locs ls hr hS hl
theorem ck_s_castA (C : ck_Ctx dC dI cA base b xl xs p s m args meth c y z0) {r idx : Nat} (ht : ck_tys[0]? = some .int) (hw1 : Cond.classLink (ck_mn y).cls idx "[I" ∈ ck_Wt) (hd : decode (ck_by y) pc = .ok (.checkcast idx, 3)) (hkd : ck_kd M r = 3) (kk : ck_WM dC dI cA base b p l e R s m args below meth c Q y z0 u0 M (pc + 3) L (.inr r :: st)) : ck_WM dC dI cA base b p l e R s m args below meth c Q y z0 u0 M pc L (.inr r :: st) := by
  obtain ⟨hx, hb, hml, hown, hts, -, -, hname, hK, -, -, hh⟩ := C
  intro z u H locs ls hr hS hl
  obtain ⟨i, rfl, hi', hws⟩ := ck_at (cA := cA) (base := base) (b := b) hr.2.2 hkd (by omega)
  rw [ck_cell_arr (t := 0) hkd] at hws
  have hnm : s.vm.findClass "[I" = some (cA 0) := (hK.2 0 _ (ck_tyl_get ht)).2
  exact va_castA (D := (dC, dI)) hx hb hown (hts _ hw1) hr.2.1 i hws hnm hd (kk z u H locs ls hr hS hl)
end CKS
