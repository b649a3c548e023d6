/-! a whole run: what the small machine does the machine does -/
theorem ck_K_up {xl : Nat} {xs : Nat → Int32} {nx : ck_L → List ck_V → ck_M → Prop} {jp : Nat → ck_L → List ck_V → ck_M → Prop} {cl : Nat → List ck_V → List ck_V → Prop} {rt : Option ck_V → Prop} {d pc a b c : Nat} {i : Instr} {L : ck_L} {st : List ck_V} {M : ck_M} (G : ck_M → Prop) (g0 : G M) (g1 : ∀ r k x, G (ck_wi M r k x)) (g2 : ∀ r k x, G (ck_wr M r k x)) (g3 : ∀ k n, G (ck_al M k n)) (g4 : ∀ r sp q dp n, G (ck_cp M r sp q dp n)) (g5 : ∀ r, G (ck_cn M r)) :
    ck_K ck_pand ck_pbr (fun L st M' => G M' ∧ nx L st M') (fun t L st M' => G M' ∧ jp t L st M') cl rt False xl xs d pc a b c i L st M = ck_K ck_pand ck_pbr nx jp cl rt False xl xs d pc a b c i L st M := by
  unfold ck_K
  simp only [g0, g1, g2, g3, g4, g5, true_and]
/-- all roads lead there -/
theorem ck_K_el {xl : Nat} {xs : Nat → Int32} {X : Prop} {d pc a b c : Nat} {i : Instr} {L : ck_L} {st : List ck_V} {M : ck_M} (h : ck_K ck_pand ck_pbr (fun _ _ _ => X) (fun _ _ _ _ => X) (fun _ _ _ => X) (fun _ => X) False xl xs d pc a b c i L st M) : X := by
  have z := ck_K_hom (xl := xl) (xs := xs) (ρ := { z : Prop // z → X }) (ρ' := Prop) (req := fun p z => ⟨p ∧ z.1, fun h => z.2 h.2⟩) (req' := ck_pand) (br := fun p x y => ⟨(p → x.1) ∧ (¬ p → y.1), fun h => by
    by_cases hp : p
    · exact x.2 (h.1 hp)
    · exact y.2 (h.2 hp)⟩) (br' := ck_pbr) (fun z => z.1) (fun _ _ => rfl) (fun _ _ _ => rfl)
    (fun _ _ _ => ⟨X, id⟩) (fun _ _ _ _ => ⟨X, id⟩) (fun _ _ _ => ⟨X, id⟩) (fun _ => ⟨X, id⟩) ⟨False, False.elim⟩ d pc a b c i L st M
  exact (Subtype.property (p := fun z : Prop => z → X) _) (Eq.mpr z h)
theorem ck_x_up {P : Nat → Nat × List ck_E} {xl : Nat} {xs : Nat → Int32} : ∀ (n d y pc : Nat) (L : ck_L) (st : List ck_V) (M : ck_M) (r : Option ck_V × ck_M), ck_x P xl xs n d y pc L st M = some r → ck_sz M ≤ ck_sz r.2 ∧ ck_us M ≤ ck_us r.2 := by
  intro n
  induction n with
  | zero => intro d y pc L st M r h; rw [ck_x] at h; cases h
  | succ n ih =>
    intro d y pc L st M r h
    rw [ck_x] at h
    cases hs : ck_seek pc (P y).2 with
    | nil => rw [hs] at h; cases h
    | cons e es =>
      obtain ⟨pc', i, len, a, b, c⟩ := e
      rw [hs] at h
      dsimp only at h
      rw [ck_K_some, ← ck_K_up (fun M' => ck_sz M ≤ ck_sz M' ∧ ck_us M ≤ ck_us M') ⟨Nat.le_refl _, Nat.le_refl _⟩ (fun _ _ _ => ⟨Nat.le_refl _, Nat.le_refl _⟩) (fun _ _ _ => ⟨Nat.le_refl _, Nat.le_refl _⟩) (fun _ _ => ⟨Nat.le_succ _, Nat.le_add_right _ _⟩) (fun _ _ _ _ _ => ⟨Nat.le_refl _, Nat.le_refl _⟩) (fun _ => ⟨Nat.le_succ _, Nat.le_add_right _ _⟩)] at h
      refine ck_K_el (ck_K_mono (fun L st M' q => ?_) (fun t L st M' q => ?_) (fun y' as rest q => ?_) (fun v q => ?_) h)
      · have := ih _ _ _ _ _ _ _ q.2
        exact ⟨Nat.le_trans q.1.1 this.1, Nat.le_trans q.1.2 this.2⟩
      · have := ih _ _ _ _ _ _ _ q.2
        exact ⟨Nat.le_trans q.1.1 this.1, Nat.le_trans q.1.2 this.2⟩
      · cases d with
        | zero => cases q
        | succ d =>
          dsimp only at q
          cases hl : Nat.ble as.length (P y').1 with
          | false => rw [hl] at q; cases q
          | true =>
            rw [hl] at q
            simp only [cond_true] at q
            cases h1 : ck_x P xl xs n d y' 0 (ck_ent (P y').1 as) [] M with
            | none => rw [h1] at q; cases q
            | some r1 =>
              rw [h1] at q
              have k1 := ih _ _ _ _ _ _ _ h1
              have k2 := ih _ _ _ _ _ _ _ q
              exact ⟨Nat.le_trans k1.1 k2.1, Nat.le_trans k1.2 k2.2⟩
      · cases q; exact ⟨Nat.le_refl _, Nat.le_refl _⟩
theorem ck_seek_mem : ∀ {es : List ck_E} {pc : Nat} {e : ck_E} {ts : List ck_E}, ck_seek pc es = e :: ts → e ∈ es := by
  intro es
  induction es with
  | nil => intro pc e ts h; cases h
  | cons f fs ih =>
    intro pc e ts h
    cases hb : Nat.beq f.1 pc with
    | true => simp only [ck_seek, hb, cond_true] at h; cases h; exact List.mem_cons_self
    | false => simp only [ck_seek, hb, cond_false] at h; exact List.mem_cons_of_mem _ (ih h)
theorem ck_tp_none {base b : Nat} : ∀ (k i : Nat), ck_tp base b i (List.replicate k none) = [] := by
  intro k
  induction k with
  | zero => intro i; rfl
  | succ k ih => intro i; exact ih (i + 1)
theorem ck_tp_ent {base b : Nat} (k : Nat) : ∀ (as : List ck_V) (i : Nat), ck_tp base b i (as.map some ++ List.replicate k none) = lv_args i (as.map (ck_mv base b)) := by
  intro as
  induction as with
  | nil => intro i; exact ck_tp_none k i
  | cons v as ih =>
    intro i
    simp only [List.map_cons, List.cons_append, ck_tp, lv_args, ck_cat]
    rw [ih]; rfl
theorem ck_sl_len {base b : Nat} : ∀ (as : List ck_V), (lg_sl (as.map (ck_mv base b))).length = as.length := by
  intro as
  induction as with
  | nil => rfl
  | cons v as ih =>
    have : lg_sl ((v :: as).map (ck_mv base b)) = (if (ck_mv base b v).category = 2 then [Slot.val (ck_mv base b v), .second] else [.val (ck_mv base b v)]) ++ lg_sl (as.map (ck_mv base b)) := rfl
    rw [this, ck_cat]
    simp [ih]
section CKQ
variable {dC : Nat → ClassId} {dI : Nat → Nat → Nat} {cA : Nat → ClassId} {base b xl : Nat} {xs : Nat → Int32} {l : Launch}
/-- what a run in the small machine says of the machine -/
def ck_SimOK (dC : Nat → ClassId) (dI : Nat → Nat → Nat) (cA : Nat → ClassId) (base b xl : Nat) (xs : Nat → Int32) (l : Launch) (d y pc : Nat) (L : ck_L) (st : List ck_V) (M : ck_M) (r : Option ck_V × ck_M) : Prop :=
  ∀ (p : Program) (e : Env) (R : Room) (s : State) (m : MethodId) (args : Array Value) (below : List Frame) (meth : Method) (c : Code) (Q : State → Prop) (z0 u0 : Nat), ck_Ctx dC dI cA base b xl xs p s m args meth c y z0 → d ≤ R.frames → d * ck_KL ≤ R.locals → ck_sz r.2 - z0 ≤ R.cells → ck_us r.2 - u0 ≤ R.slots →
    (∀ (pc' : Nat) (i' : Instr) (L' : ck_L), decode (ck_by y) pc' = .ok (i', 1) → ck_retok y i' r.1 → ck_WM dC dI cA base b p l e R s m args below meth c Q y z0 u0 r.2 pc' L' r.1.toList) → ck_WM dC dI cA base b p l e R s m args below meth c Q y z0 u0 M pc L st
/-- the contract of a method out of its run -/
theorem ck_met {d y : Nat} {as : List ck_V} {M : ck_M} {r : Option ck_V × ck_M} (hp : plainName (ck_mn y).cls = true) (hbb : b < base) (hn : as.length ≤ (ck_P y).1) (hup : ck_sz M ≤ ck_sz r.2 ∧ ck_us M ≤ ck_us r.2) (h : ck_SimOK dC dI cA base b xl xs l d y 0 (ck_ent (ck_P y).1 as) [] M r) : Met l (ck_mn y) (ck_wsy y) (ck_rm d (ck_sz r.2 - ck_sz M) (ck_us r.2 - ck_us M)) (ck_Pc dC dI cA base b xl xs M as) (ck_Qc dC dI cA base b r.2 r.1) (ck_sz r.2 - ck_sz M) (ck_us r.2 - ck_us M) (ck_A base) := by
  refine Met.ofW (cc := ck_by y) (maxL := (ck_P y).1) (ret := ck_rt y) hp rfl ?_
  intro p e s m args below meth c s₁ B hml hv
  obtain ⟨rfl, hr, hK, hX, hXs⟩ := hv
  have hts := atoms_spec (ws := ck_wsy y) B.pre
  have C : ck_Ctx dC dI cA base b xl xs p s m (as.map (ck_mv base b)).toArray meth c y (ck_sz M) := ⟨B.exec, B.bytes, hml, findClass_of_methodNamed B.named, fun w hw => hts w (List.mem_cons_of_mem _ hw), B.returns, B.notSynchronized, (name_of_methodNamed B.named B.method).1, hK, ⟨hX, hXs⟩, hbb, hr.1⟩
  have hl := lv_entry (as.map (ck_mv base b)) (n := (ck_P y).1) (by rw [ck_sl_len]; exact hn)
  rw [lg_entry_eq]
  generalize (lg_sl (as.map (ck_mv base b)) ++ List.replicate ((ck_P y).1 - (lg_sl (as.map (ck_mv base b))).length) Slot.unset).toArray = ls at hl ⊢
  have hl' : ck_lr base b ls (ck_P y).1 (ck_ent (ck_P y).1 as) := ⟨by unfold ck_ent; simp; omega, by unfold ck_ent; rw [ck_tp_ent]; exact hl⟩
  have key := h p e (ck_rm d (ck_sz r.2 - ck_sz M) (ck_us r.2 - ck_us M)) s m _ below meth c (MQ below (ck_Qc dC dI cA base b r.2 r.1) (as.map (ck_mv base b)).toArray s (ck_sz r.2 - ck_sz M) (ck_us r.2 - ck_us M) (ck_A base)) (ck_sz M) (ck_us M) C (Nat.le_refl _) (Nat.le_refl _) (Nat.le_refl _) (Nat.le_refl _) (fun pc' i' L' hd hok z u H locs ls hr1 hS1 hl1 => ?_) (Nat.le_refl _) (Nat.le_refl _) s.heap [] ls hr va_S.rf hl'
  · rw [Nat.sub_self, Nat.sub_self] at key
    exact key
  · have hlocks := B.notSynchronized
    have hrt := B.returns
    have hq : ∀ t : State, t.heap = H → s.WarmedH t.vm → ck_Qc dC dI cA base b r.2 r.1 (as.map (ck_mv base b)).toArray s (.returned (r.1.map (ck_mv base b))) t := fun t ht _ => ⟨rfl, by rw [ht]; exact hr1, hS1.F ht⟩
    rcases hok with ⟨rfl, x, hv, hx | ⟨hx, h01⟩⟩ | ⟨rfl, ⟨q, hv⟩, hx⟩ | ⟨rfl, hv, hx⟩
    · rw [hv] at hq ⊢
      exact W.iret B.exec B.bytes (hrt.trans hx) hq hS1.2.2 hd
    · rw [hv] at hq ⊢
      exact W.zret B.exec B.bytes (hrt.trans hx) (by rcases h01 with rfl | rfl <;> rfl) hq hS1.2.2 hd
    · rw [hv] at hq ⊢
      have hnv : ck_mv base b (.inr q) = .null ∨ ∃ a, ck_mv base b (.inr q) = .ref a := by
        match q with
        | 0 => exact Or.inl rfl
        | 1 => exact Or.inr ⟨_, rfl⟩
        | q + 2 => exact Or.inr ⟨_, rfl⟩
      rcases hx with ⟨n, hx⟩ | ⟨t, hx⟩
      · exact W.aret B.exec B.bytes (hrt.trans hx) (Or.inl ⟨n, rfl⟩) hnv hq hS1.2.2 hd
      · exact W.aret B.exec B.bytes (hrt.trans hx) (Or.inr ⟨t, rfl⟩) hnv hq hS1.2.2 hd
    · rw [hv] at hq ⊢
      exact W.vret B.exec B.bytes (hrt.trans hx) hq hS1.2.2 hd
/-- THE RUN: by induction on the fuel -/
theorem ck_sim (hbb : b < base) (hplain : ∀ y, plainName (ck_mn y).cls = true) : ∀ (n d y pc : Nat) (L : ck_L) (st : List ck_V) (M : ck_M) (r : Option ck_V × ck_M), ck_x ck_P xl xs n d y pc L st M = some r → ck_SimOK dC dI cA base b xl xs l d y pc L st M r := by
  intro n
  induction n with
  | zero => intro d y pc L st M r h; rw [ck_x] at h; cases h
  | succ n ih =>
    intro d y pc L st M r h
    rw [ck_x] at h
    cases hs : ck_seek pc (ck_P y).2 with
    | nil => rw [hs] at h; cases h
    | cons e0 es =>
      obtain ⟨pc', i, len, a, b', c'⟩ := e0
      have hp : pc' = pc := ck_seek_at hs
      subst hp
      obtain ⟨hdec, hG⟩ := ck_allgood y _ (ck_seek_mem hs)
      rw [hs] at h
      dsimp only at h hdec hG
      rw [ck_K_some] at h
      intro p e R s m args below meth c Q z0 u0 C hF hLo hRc hRs hret
      refine ck_sim1 (zE := ck_sz r.2) (uE := ck_us r.2) C hdec hG rfl rfl hF hLo hRc hRs (ck_K_mono (fun L' st' M' q => ?_) (fun t L' st' M' q => ?_) (fun y' as rest q => ?_) (fun v q hok => ?_) h)
      · exact ⟨ck_x_up _ _ _ _ _ _ _ _ q, ih _ _ _ _ _ _ _ q p e R s m args below meth c Q z0 u0 C hF hLo hRc hRs hret⟩
      · exact ih _ _ _ _ _ _ _ q p e R s m args below meth c Q z0 u0 C hF hLo hRc hRs hret
      · cases d with
        | zero => cases q
        | succ d =>
          dsimp only at q
          cases hl : Nat.ble as.length (ck_P y').1 with
          | false => rw [hl] at q; cases q
          | true =>
            rw [hl] at q
            simp only [cond_true] at q
            cases h1 : ck_x ck_P xl xs n d y' 0 (ck_ent (ck_P y').1 as) [] M with
            | none => rw [h1] at q; cases q
            | some r1 =>
              rw [h1] at q
              have k1 := ck_x_up _ _ _ _ _ _ _ _ h1
              have k2 := ck_x_up _ _ _ _ _ _ _ _ q
              exact ⟨d, r1.1, r1.2, rfl, k1.1, k1.2, k2.1, k2.2, ck_met (hplain y') hbb (Nat.le_of_ble_eq_true hl) k1 (ih _ _ _ _ _ _ _ h1), ih _ _ _ _ _ _ _ q p e R s m args below meth c Q z0 u0 C hF hLo hRc hRs hret⟩
      · cases q
        have hlen : len = 1 := by
          rcases hok with ⟨rfl, -⟩ | ⟨rfl, -⟩ | ⟨rfl, -⟩ <;> exact hG.1
        subst hlen
        exact hret _ _ _ hdec hok
end CKQ
