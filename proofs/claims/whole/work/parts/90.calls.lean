/-! calls: the callee's contract, as the small machine tells it -/
def ck_wsy (y : Nat) : List Jvm.Cond := Cond.code (ck_mn y) (ck_by y) (ck_P y).1 (ck_rt y) :: ck_Wt
def ck_rm (d mc ms : Nat) : Room := { frames := d, cells := mc, slots := ms, locals := d * ck_KL }
def ck_Pc (dC : Nat → ClassId) (dI : Nat → Nat → Nat) (cA : Nat → ClassId) (base b xl : Nat) (xs : Nat → Int32) (M : ck_M) (as : List ck_V) : Array Value → State → Prop := va_Pc (as.map (ck_mv base b)) (fun U => ck_rep dC dI cA base b M U.heap ∧ va_K (dC, dI) ck_cls (ck_tyl cA) U ∧ va_X b xl xs U U.heap ∧ ck_Xs U)
def ck_Qc (dC : Nat → ClassId) (dI : Nat → Nat → Nat) (cA : Nat → ClassId) (base b : Nat) (M : ck_M) (v : Option ck_V) : Array Value → State → Outcome → State → Prop := fun _ st o t => o = .returned (v.map (ck_mv base b)) ∧ ck_rep dC dI cA base b M t.heap ∧ va_F (ck_A base) st t
section CKC
variable {dC : Nat → ClassId} {dI : Nat → Nat → Nat} {cA : Nat → ClassId} {base b xl : Nat} {xs : Nat → Int32} {p : Program} {l : Launch} {e : Env} {R : Room} {s : State} {m : MethodId} {args : Array Value} {below : List Frame} {meth : Method} {c : Code} {Q : State → Prop} {y z0 u0 : Nat} {M M1 : ck_M} {pc : Nat} {L : ck_L} {rest : List ck_V} {y' idx d' : Nat} {as : List ck_V} {v : Option ck_V}
theorem ck_good_in {y' : Nat} (h : Cond.code (ck_mn y') (ck_by y') (ck_P y').1 (ck_rt y') ∈ ck_Wt) : GoodIn ck_Wt (ck_wsy y') := by
  intro w hw
  rcases List.mem_cons.mp hw with rfl | hw
  · exact ⟨h, ck_good _ h⟩
  · exact ⟨hw, ck_good _ hw⟩
theorem ck_blind : FrameBlind (ck_Pc dC dI cA base b xl xs M as) := fun a U g mk q => by
  obtain ⟨q0, q1, q2, q3, q4⟩ := q
  exact ⟨q0, q1, va_K.moved (u := U) (U := U.calling g mk a) (Vm.Alike.refl U.vm) q2, va_X.moved (u := U) (U := U.calling g mk a) (Vm.Alike.refl U.vm) q3, ck_Xs_warm (U := U.calling g mk a) (State.WarmedH.refl U) q4⟩
/-- the callee's start -/
theorem ck_start (C : ck_Ctx dC dI cA base b xl xs p s m args meth c y z0) {H : Heap} {locs : List Loc} (hr : ck_rep dC dI cA base b M H) (hS : va_S (ck_A base) s.heap H locs) (U : State) (hU : U.heap = H) (hW : s.WarmedH U.vm) : ck_Pc dC dI cA base b xl xs M as (as.map (ck_mv base b)).toArray U := by
  obtain ⟨hx, hb, hml, hown, hts, -, -, hname, hK, hX, hbb, hh⟩ := C
  refine ⟨rfl, by rw [hU]; exact hr, va_K.moved hW.alike hK, ?_, ck_Xs_warm hW hX.2⟩
  rw [hU]
  exact va_X.moved hW.alike (hX.1.kept (hS.2.1 b (by omega) (by show ¬ base ≤ b; omega)))
/-- behind the call -/
theorem ck_behind {H : Heap} {locs : List Loc} {ls : Array Slot} {st0 : List Value} (z : z0 ≤ ck_sz M) (u : u0 ≤ ck_us M) (hz : ck_sz M ≤ ck_sz M1) (hu : ck_us M ≤ ck_us M1) (hS : va_S (ck_A base) s.heap H locs) (hl : ck_lr base b ls (ck_P y).1 L) {aa : Array Value}
    (hr : va_Run p l e R s m args below meth c H locs (ck_sz M - z0) (ck_us M - u0) (ck_sz M1 - ck_sz M) (ck_us M1 - ck_us M) (F0 m pc ls st0) (rest.map (ck_mv base b)) (ck_Qc dC dI cA base b M1 v aa) (ck_A base))
    (kk : ck_WM dC dI cA base b p l e R s m args below meth c Q y z0 u0 M1 (pc + 3) L (v.toList ++ rest)) : W p l e R s m args below meth c H locs (ck_sz M - z0) (ck_us M - u0) Q (F0 m pc ls st0) := by
  refine ck_call (B := fun H1 => ck_rep dC dI cA base b M1 H1) hr (fun st o t h => h) hS (fun H1 locs1 hr1 hS1 => ?_)
  have := kk (by omega) (by omega) H1 locs1 ls hr1 hS1 hl
  rw [show ck_sz M1 - z0 = ck_sz M - z0 + (ck_sz M1 - ck_sz M) by omega, show ck_us M1 - u0 = ck_us M - u0 + (ck_us M1 - ck_us M) by omega, List.map_append] at this
  cases v with
  | none => exact this
  | some v => exact this
theorem ck_s_callV (C : ck_Ctx dC dI cA base b xl xs p s m args meth c y z0) {r ci : Nat} {cls : vw_C} (hM : Met l (ck_mn y') (ck_wsy y') (ck_rm d' (ck_sz M1 - ck_sz M) (ck_us M1 - ck_us M)) (ck_Pc dC dI cA base b xl xs M (.inr r :: as)) (ck_Qc dC dI cA base b M1 v) (ck_sz M1 - ck_sz M) (ck_us M1 - ck_us M) (ck_A base))
    (hc : ck_cls[ci]? = some cls) (hcn : (ck_mn y').cls = cls.1) (hkd : ck_kd M r = 2 * ci + 2) (hlk : ck_Lk (ck_mn y).cls idx y') (hcw : ck_Cw y' as.length) (hi : Cond.instanceMethod (ck_mn y') ∈ ck_Wt) (hse : Cond.selects cls.1 (ck_mn y') (ck_mn y') ∈ ck_Wt) (hd : decode (ck_by y) pc = .ok (.invokevirtual idx, 3)) (hst : rest.length ≤ 8) (hF : d' + 1 ≤ R.frames) (hLo : (d' + 1) * ck_KL ≤ R.locals) (hz : ck_sz M ≤ ck_sz M1) (hu : ck_us M ≤ ck_us M1) (hR1 : ck_sz M1 - z0 ≤ R.cells) (hR2 : ck_us M1 - u0 ≤ R.slots)
    (kk : ck_WM dC dI cA base b p l e R s m args below meth c Q y z0 u0 M1 (pc + 3) L (v.toList ++ rest)) : ck_WM dC dI cA base b p l e R s m args below meth c Q y z0 u0 M pc L (as.reverse ++ .inr r :: rest) := by
  obtain ⟨hx, hb, hml, hown, hts, -, -, hname, hK, hX, hbb, hh⟩ := id C
  intro z u H locs ls hr hS hl
  obtain ⟨i, rfl, hi', hws⟩ := ck_at (cA := cA) (base := base) (b := b) hr.2.2 hkd (by omega)
  rw [ck_cell_obj hkd] at hws
  have hrv := va_recv hK hr.2.1 hc hws
  obtain ⟨w1, w2, ⟨w3, w4, w5⟩, w6⟩ := hcw
  have hroom : (ck_rm d' (ck_sz M1 - ck_sz M) (ck_us M1 - ck_us M)).frames + 1 ≤ R.frames ∧ 8 + ((ck_P y').1 + 11) + (ck_rm d' (ck_sz M1 - ck_sz M) (ck_us M1 - ck_us M)).locals ≤ R.locals := ⟨hF, by show 8 + ((ck_P y').1 + 11) + d' * ck_KL ≤ _; unfold ck_KL at *; omega⟩
  have hsum := lv_room (m := m) (pc := pc) (ls := ls) (rest := (as.reverse ++ .inr (i + 2) :: rest).map (ck_mv base b)) (ck_sum (base := base) (b := b) hst)
  have hstk : (as.reverse ++ .inr (i + 2) :: rest).map (ck_mv base b) = (as.map (ck_mv base b)).reverse ++ .ref (base + i) :: rest.map (ck_mv base b) := by
    rw [List.map_append, List.map_reverse]; rfl
  have hpre : ∀ U : State, U.heap = H → s.WarmedH U.vm → ck_Pc dC dI cA base b xl xs M (.inr (i + 2) :: as) (Value.ref (base + i) :: as.map (ck_mv base b)).toArray U := fun U hU hW => ck_start (as := .inr (i + 2) :: as) C hr hS U hU hW
  have hcells : ck_sz M - z0 + (ck_sz M1 - ck_sz M) ≤ R.cells ∧ ck_us M - u0 + (ck_us M1 - ck_us M) ≤ R.slots := ⟨by omega, by omega⟩
  rcases hlk with hlk | ⟨host, hlk⟩
  · exact ck_behind z u hz hu hS hl (va_runV (C := cls.1) (As := as.map (ck_mv base b)) ⟨hx, hb, hml, hown, hts⟩ hM ⟨callB_of as.length hts (ck_good_in w1) rfl rfl rfl (hts _ w2) (hts _ hlk) ⟨w3, w4, w5⟩ hroom, hts _ hi, hts _ hse⟩ ⟨ck_blind, hrv, hpre⟩ rfl (by simp) hl.2.1 hstk hsum hd hcells) kk
  · exact ck_behind z u hz hu hS hl (va_runVN (C := cls.1) (As := as.map (ck_mv base b)) ⟨hx, hb, hml, hown, hts⟩ hM ⟨va_cnB as.length hts (ck_good_in w1) rfl rfl rfl (hlk _ hX.2) (hts _ w2) ⟨w3, w4, w5⟩ hroom, hts _ hi, hts _ hse⟩ ⟨ck_blind, hrv, hpre⟩ rfl (by simp) hl.2.1 hstk hsum hd hcells) kk
theorem ck_s_callI (C : ck_Ctx dC dI cA base b xl xs p s m args meth c y z0) {r ci : Nat} (hM : Met l (ck_mn y') (ck_wsy y') (ck_rm d' (ck_sz M1 - ck_sz M) (ck_us M1 - ck_us M)) (ck_Pc dC dI cA base b xl xs M (.inr r :: as)) (ck_Qc dC dI cA base b M1 v) (ck_sz M1 - ck_sz M) (ck_us M1 - ck_us M) (ck_A base))
    (hkd : ck_kd M r = 2 * ci + 2) (hlk : ck_Lk (ck_mn y).cls idx y') (hcw : ck_Cw y' as.length) (hret : ck_rt y' = none) (hi : Cond.instanceMethod (ck_mn y') ∈ ck_Wt) (hin : (ck_mn y').name = "<init>") (hd : decode (ck_by y) pc = .ok (.invokespecial idx, 3)) (hst : rest.length ≤ 8) (hF : d' + 1 ≤ R.frames) (hLo : (d' + 1) * ck_KL ≤ R.locals) (hz : ck_sz M ≤ ck_sz M1) (hu : ck_us M ≤ ck_us M1) (hR1 : ck_sz M1 - z0 ≤ R.cells) (hR2 : ck_us M1 - u0 ≤ R.slots)
    (kk : ck_WM dC dI cA base b p l e R s m args below meth c Q y z0 u0 M1 (pc + 3) L (v.toList ++ rest)) : ck_WM dC dI cA base b p l e R s m args below meth c Q y z0 u0 M pc L (as.reverse ++ .inr r :: rest) := by
  obtain ⟨hx, hb, hml, hown, hts, -, -, hname, hK, hX, hbb, hh⟩ := id C
  intro z u H locs ls hr hS hl
  obtain ⟨i, rfl, hi', hws⟩ := ck_at (cA := cA) (base := base) (b := b) hr.2.2 hkd (by omega)
  obtain ⟨w1, w2, ⟨w3, w4, w5⟩, w6⟩ := hcw
  have hroom : (ck_rm d' (ck_sz M1 - ck_sz M) (ck_us M1 - ck_us M)).frames + 1 ≤ R.frames ∧ 8 + ((ck_P y').1 + 11) + (ck_rm d' (ck_sz M1 - ck_sz M) (ck_us M1 - ck_us M)).locals ≤ R.locals := ⟨hF, by show 8 + ((ck_P y').1 + 11) + d' * ck_KL ≤ _; unfold ck_KL at *; omega⟩
  have hsum := lv_room (m := m) (pc := pc) (ls := ls) (rest := (as.reverse ++ .inr (i + 2) :: rest).map (ck_mv base b)) (ck_sum (base := base) (b := b) hst)
  have hstk : (as.reverse ++ .inr (i + 2) :: rest).map (ck_mv base b) = (as.map (ck_mv base b)).reverse ++ .ref (base + i) :: rest.map (ck_mv base b) := by
    rw [List.map_append, List.map_reverse]; rfl
  have hpre : ∀ U : State, U.heap = H → s.WarmedH U.vm → ck_Pc dC dI cA base b xl xs M (.inr (i + 2) :: as) (Value.ref (base + i) :: as.map (ck_mv base b)).toArray U := fun U hU hW => ck_start (as := .inr (i + 2) :: as) C hr hS U hU hW
  have hcells : ck_sz M - z0 + (ck_sz M1 - ck_sz M) ≤ R.cells ∧ ck_us M - u0 + (ck_us M1 - ck_us M) ≤ R.slots := ⟨by omega, by omega⟩
  have w1' := w1
  rw [hret] at w1'
  have hws' : ck_wsy y' = Cond.code (ck_mn y') (ck_by y') (ck_P y').1 none :: ck_Wt := by unfold ck_wsy; rw [hret]
  rcases hlk with hlk | ⟨host, hlk⟩
  · exact ck_behind z u hz hu hS hl (va_runI (As := as.map (ck_mv base b)) ⟨hx, hb, hml, hown, hts⟩ hM ⟨callB_of as.length hts (ck_good_in w1) hws' rfl rfl (hts _ w2) (hts _ hlk) ⟨w3, w4, w5⟩ hroom, hin, hts _ hi⟩ ⟨ck_blind, hpre⟩ rfl (by simp) hl.2.1 hstk hsum hd hcells) kk
  · exact ck_behind z u hz hu hS hl (va_runIN (As := as.map (ck_mv base b)) ⟨hx, hb, hml, hown, hts⟩ hM ⟨va_cnB as.length hts (ck_good_in w1) hws' rfl rfl (hlk _ hX.2) (hts _ w2) ⟨w3, w4, w5⟩ hroom, hin, hts _ hi⟩ ⟨ck_blind, hpre⟩ rfl (by simp) hl.2.1 hstk hsum hd hcells) kk
theorem ck_s_callS (C : ck_Ctx dC dI cA base b xl xs p s m args meth c y z0) (hM : Met l (ck_mn y') (ck_wsy y') (ck_rm d' (ck_sz M1 - ck_sz M) (ck_us M1 - ck_us M)) (ck_Pc dC dI cA base b xl xs M as) (ck_Qc dC dI cA base b M1 v) (ck_sz M1 - ck_sz M) (ck_us M1 - ck_us M) (ck_A base))
    (hlk : ck_Lk (ck_mn y).cls idx y') (hcw : ck_Cw y' as.length) (hi : Cond.static (ck_mn y') ∈ ck_Wt) (hd : decode (ck_by y) pc = .ok (.invokestatic idx, 3)) (hst : rest.length ≤ 8) (hF : d' + 1 ≤ R.frames) (hLo : (d' + 1) * ck_KL ≤ R.locals) (hz : ck_sz M ≤ ck_sz M1) (hu : ck_us M ≤ ck_us M1) (hR1 : ck_sz M1 - z0 ≤ R.cells) (hR2 : ck_us M1 - u0 ≤ R.slots)
    (kk : ck_WM dC dI cA base b p l e R s m args below meth c Q y z0 u0 M1 (pc + 3) L (v.toList ++ rest)) : ck_WM dC dI cA base b p l e R s m args below meth c Q y z0 u0 M pc L (as.reverse ++ rest) := by
  obtain ⟨hx, hb, hml, hown, hts, -, -, hname, hK, hX, hbb, hh⟩ := id C
  intro z u H locs ls hr hS hl
  obtain ⟨w1, w2, ⟨w3, w4, w5⟩, w6⟩ := hcw
  have hroom : (ck_rm d' (ck_sz M1 - ck_sz M) (ck_us M1 - ck_us M)).frames + 1 ≤ R.frames ∧ 8 + ((ck_P y').1 + 11) + (ck_rm d' (ck_sz M1 - ck_sz M) (ck_us M1 - ck_us M)).locals ≤ R.locals := ⟨hF, by show 8 + ((ck_P y').1 + 11) + d' * ck_KL ≤ _; unfold ck_KL at *; omega⟩
  have hsum := lv_room (m := m) (pc := pc) (ls := ls) (rest := (as.reverse ++ rest).map (ck_mv base b)) (ck_sum (base := base) (b := b) hst)
  have hstk : (as.reverse ++ rest).map (ck_mv base b) = (as.map (ck_mv base b)).reverse ++ rest.map (ck_mv base b) := by
    rw [List.map_append, List.map_reverse]
  have hpre : ∀ U : State, U.heap = H → s.WarmedH U.vm → ck_Pc dC dI cA base b xl xs M as (as.map (ck_mv base b)).toArray U := fun U hU hW => ck_start C hr hS U hU hW
  have hcells : ck_sz M - z0 + (ck_sz M1 - ck_sz M) ≤ R.cells ∧ ck_us M - u0 + (ck_us M1 - ck_us M) ≤ R.slots := ⟨by omega, by omega⟩
  rcases hlk with hlk | ⟨host, hlk⟩
  · exact ck_behind z u hz hu hS hl (va_runS (As := as.map (ck_mv base b)) ⟨hx, hb, hml, hown, hts⟩ hM ⟨callB_of as.length hts (ck_good_in w1) rfl rfl rfl (hts _ w2) (hts _ hlk) ⟨w3, w4, w5⟩ hroom, hts _ hi⟩ ⟨ck_blind, hpre⟩ rfl (by simp) hl.2.1 hstk hsum hd hcells) kk
  · exact ck_behind z u hz hu hS hl (va_runSN (As := as.map (ck_mv base b)) ⟨hx, hb, hml, hown, hts⟩ hM ⟨va_cnB as.length hts (ck_good_in w1) rfl rfl rfl (hlk _ hX.2) (hts _ w2) ⟨w3, w4, w5⟩ hroom, hts _ hi, trivial⟩ ⟨ck_blind, hpre⟩ rfl (by simp) hl.2.1 hstk hsum hd hcells) kk
end CKC
