section CKE
variable {P : Nat → Nat × List ck_E} {xl : Nat} {xs : Nat → Int32}
def ck_pand (p q : Prop) : Prop := p ∧ q
def ck_pbr (p q r : Prop) : Prop := (p → q) ∧ (¬ p → r)
/-- from here the method ends, and Q holds of its answer and memory -/
def ck_Ev (P : Nat → Nat × List ck_E) (xl : Nat) (xs : Nat → Int32) (d y pc : Nat) (L : ck_L) (st : List ck_V) (M : ck_M) (Q : Option ck_V → ck_M → Prop) : Prop := ∃ n r, ck_x P xl xs n d y pc L st M = some r ∧ Q r.1 r.2
/-- a call's words -/
def ck_Cl (P : Nat → Nat × List ck_E) (xl : Nat) (xs : Nat → Int32) (d y' : Nat) (as : List ck_V) (M : ck_M) (Q : Option ck_V → ck_M → Prop) : Prop := match d with
  | 0 => False
  | d' + 1 => bif Nat.ble as.length (P y').1 then ck_Ev P xl xs d' y' 0 (ck_ent (P y').1 as) [] M Q else False
/-- a weaker end for each road -/
theorem ck_K_mono {nx nx' : ck_L → List ck_V → ck_M → Prop} {jp jp' : Nat → ck_L → List ck_V → ck_M → Prop} {cl cl' : Nat → List ck_V → List ck_V → Prop} {rt rt' : Option ck_V → Prop} {d pc a b c : Nat} {i : Instr} {L : ck_L} {st : List ck_V} {M : ck_M} (h1 : ∀ L st M, nx L st M → nx' L st M) (h2 : ∀ t L st M, jp t L st M → jp' t L st M) (h3 : ∀ y as r, cl y as r → cl' y as r) (h4 : ∀ v, rt v → rt' v)
    (h : ck_K ck_pand ck_pbr nx jp cl rt False xl xs d pc a b c i L st M) : ck_K ck_pand ck_pbr nx' jp' cl' rt' False xl xs d pc a b c i L st M := by
  have z := ck_K_hom (xl := xl) (xs := xs) (ρ := { z : Prop × Prop // z.1 → z.2 }) (ρ' := Prop) (req := fun p z => ⟨(p ∧ z.1.1, p ∧ z.1.2), fun h => ⟨h.1, z.2 h.2⟩⟩) (req' := ck_pand) (br := fun p x y => ⟨((p → x.1.1) ∧ (¬ p → y.1.1), (p → x.1.2) ∧ (¬ p → y.1.2)), fun h => ⟨fun q => x.2 (h.1 q), fun q => y.2 (h.2 q)⟩⟩) (br' := ck_pbr) (fun z => z.1.1) (fun _ _ => rfl) (fun _ _ _ => rfl)
    (fun L st M => ⟨(nx L st M, nx' L st M), h1 L st M⟩) (fun t L st M => ⟨(jp t L st M, jp' t L st M), h2 t L st M⟩) (fun y as r => ⟨(cl y as r, cl' y as r), h3 y as r⟩) (fun v => ⟨(rt v, rt' v), h4 v⟩) ⟨(False, False), id⟩ d pc a b c i L st M
  have z' := ck_K_hom (xl := xl) (xs := xs) (ρ := { z : Prop × Prop // z.1 → z.2 }) (ρ' := Prop) (req := fun p z => ⟨(p ∧ z.1.1, p ∧ z.1.2), fun h => ⟨h.1, z.2 h.2⟩⟩) (req' := ck_pand) (br := fun p x y => ⟨((p → x.1.1) ∧ (¬ p → y.1.1), (p → x.1.2) ∧ (¬ p → y.1.2)), fun h => ⟨fun q => x.2 (h.1 q), fun q => y.2 (h.2 q)⟩⟩) (br' := ck_pbr) (fun z => z.1.2) (fun _ _ => rfl) (fun _ _ _ => rfl)
    (fun L st M => ⟨(nx L st M, nx' L st M), h1 L st M⟩) (fun t L st M => ⟨(jp t L st M, jp' t L st M), h2 t L st M⟩) (fun y as r => ⟨(cl y as r, cl' y as r), h3 y as r⟩) (fun v => ⟨(rt v, rt' v), h4 v⟩) ⟨(False, False), id⟩ d pc a b c i L st M
  have h' := Eq.mpr z h
  exact Eq.mp z' ((Subtype.property (p := fun z : Prop × Prop => z.1 → z.2) _) h')
theorem ck_oreq_some {α : Type} (r : α) (p : Prop) (x : Option α) : (ck_oreq p x = some r) = ck_pand p (x = some r) := by
  unfold ck_oreq ck_pand
  by_cases h : p
  · rw [if_pos h]; exact propext ⟨fun q => ⟨h, q⟩, fun q => q.2⟩
  · rw [if_neg h]; exact propext ⟨fun q => (by cases q), fun q => absurd q.1 h⟩
theorem ck_obr_some {α : Type} (r : α) (p : Prop) (x y : Option α) : (ck_obr p x y = some r) = ck_pbr p (x = some r) (y = some r) := by
  unfold ck_obr ck_pbr
  by_cases h : p
  · rw [if_pos h]; exact propext ⟨fun q => ⟨fun _ => q, fun z => absurd h z⟩, fun q => q.1 h⟩
  · rw [if_neg h]; exact propext ⟨fun q => ⟨fun z => absurd z h, fun _ => q⟩, fun q => q.2 h⟩
/-- it answers so: the same in words -/
theorem ck_K_some {α : Type} (r : α) (nx : ck_L → List ck_V → ck_M → Option α) (jp : Nat → ck_L → List ck_V → ck_M → Option α) (cl : Nat → List ck_V → List ck_V → Option α) (rt : Option ck_V → Option α) (d pc a b c : Nat) (i : Instr) (L : ck_L) (st : List ck_V) (M : ck_M) :
    (ck_K ck_oreq ck_obr nx jp cl rt none xl xs d pc a b c i L st M = some r) = ck_K ck_pand ck_pbr (fun L st M => nx L st M = some r) (fun t L st M => jp t L st M = some r) (fun y as q => cl y as q = some r) (fun v => rt v = some r) False xl xs d pc a b c i L st M := by
  have z := ck_K_hom (xl := xl) (xs := xs) (req := ck_oreq) (req' := ck_pand) (br := ck_obr) (br' := ck_pbr) (fun o : Option α => o = some r) (ck_oreq_some r) (ck_obr_some r) nx jp cl rt none d pc a b c i L st M
  have hb : ((none : Option α) = some r) = False := by simp
  rw [hb] at z
  exact z
theorem ck_x_succ : ∀ (n d y pc : Nat) (L : ck_L) (st : List ck_V) (M : ck_M) (r : Option ck_V × ck_M), ck_x P xl xs n d y pc L st M = some r → ck_x P xl xs (n + 1) d y pc L st M = some r := by
  intro n
  induction n with
  | zero => intro d y pc L st M r h; rw [ck_x] at h; cases h
  | succ n ih =>
    intro d y pc L st M r h
    rw [ck_x] at h ⊢
    cases hs : ck_seek pc (P y).2 with
    | nil => rw [hs] at h; cases h
    | cons e es =>
      obtain ⟨pc', i, len, a, b, c⟩ := e
      rw [hs] at h
      dsimp only at h ⊢
      rw [ck_K_some] at h ⊢
      refine ck_K_mono (fun L st M q => ih _ _ _ _ _ _ _ q) (fun t L st M q => ih _ _ _ _ _ _ _ q) (fun y' as rest q => ?_) (fun v q => q) h
      cases d with
      | zero => cases q
      | succ d =>
        dsimp only at q ⊢
        cases hl : Nat.ble as.length (P y').1 with
        | false => rw [hl] at q; cases q
        | true =>
          rw [hl] at q
          simp only [cond_true] at q ⊢
          cases h1 : ck_x P xl xs n d y' 0 (ck_ent (P y').1 as) [] M with
          | none => rw [h1] at q; cases q
          | some r1 =>
            rw [h1] at q
            rw [ih _ _ _ _ _ _ _ h1]
            exact ih _ _ _ _ _ _ _ q
theorem ck_x_le {n k d y pc : Nat} {L : ck_L} {st : List ck_V} {M : ck_M} {r : Option ck_V × ck_M} (h : n ≤ k) (hx : ck_x P xl xs n d y pc L st M = some r) : ck_x P xl xs k d y pc L st M = some r := by
  induction h with
  | refl => exact hx
  | step _ ih => exact ck_x_succ _ _ _ _ _ _ _ _ ih
/-- one instruction -/
theorem ck_Ev_step {d y pc : Nat} {L : ck_L} {st : List ck_V} {M : ck_M} {Q : Option ck_V → ck_M → Prop} {i : Instr} {len a b c : Nat} {es : List ck_E} {pc' : Nat} (hs : ck_seek pc (P y).2 = (pc', i, len, a, b, c) :: es)
    : ck_K ck_pand ck_pbr (fun L st M => ck_Ev P xl xs d y (pc + len) L st M Q) (fun t L st M => ck_Ev P xl xs d y t L st M Q) (fun y' as rest => ck_Cl P xl xs d y' as M (fun v M1 => ck_Ev P xl xs d y (pc + len) L (v.toList ++ rest) M1 Q)) (fun v => Q v M) False xl xs d pc a b c i L st M → ck_Ev P xl xs d y pc L st M Q := by
  have hb : (∃ (n : Nat) (r : Option ck_V × ck_M), (none : Option (Option ck_V × ck_M)) = some r ∧ Q r.1 r.2) = False := by simp
  have e2 := ck_K_hom (xl := xl) (xs := xs) (ρ := Nat → Option (Option ck_V × ck_M)) (ρ' := Prop) (req := fun p f n => ck_oreq p (f n)) (req' := ck_pand) (br := fun p f g n => ck_obr p (f n) (g n)) (br' := ck_pbr) (fun f => ∃ (n : Nat) (r : Option ck_V × ck_M), f n = some r ∧ Q r.1 r.2)
    (fun p x => propext ⟨fun ⟨n, r, h, q⟩ => by rw [ck_oreq_some] at h; exact ⟨h.1, n, r, h.2, q⟩, fun ⟨hp, n, r, h, q⟩ => ⟨n, r, by rw [ck_oreq_some]; exact ⟨hp, h⟩, q⟩⟩)
    (fun p x y => propext ⟨fun ⟨n, r, h, q⟩ => by rw [ck_obr_some] at h; exact ⟨fun hp => ⟨n, r, h.1 hp, q⟩, fun hp => ⟨n, r, h.2 hp, q⟩⟩, fun h => by
      by_cases hp : p
      · obtain ⟨n, r, h1, q⟩ := h.1 hp
        exact ⟨n, r, by rw [ck_obr_some]; exact ⟨fun _ => h1, fun z => absurd hp z⟩, q⟩
      · obtain ⟨n, r, h1, q⟩ := h.2 hp
        exact ⟨n, r, by rw [ck_obr_some]; exact ⟨fun z => absurd z hp, fun _ => h1⟩, q⟩⟩)
    (fun L' st' M' n => ck_x P xl xs n d y (pc + len) L' st' M') (fun t L' st' M' n => ck_x P xl xs n d y t L' st' M')
    (fun y' as rest n => match (generalizing := false) d with
          | 0 => none
          | d' + 1 => bif Nat.ble as.length (P y').1 then (match ck_x P xl xs n d' y' 0 (ck_ent (P y').1 as) [] M with
            | none => none
            | some r => ck_x P xl xs n d y (pc + len) L (r.1.toList ++ rest) r.2) else none)
    (fun v _ => some (v, M)) (fun _ => none) d pc a b c i L st M
  have e3 := fun n : Nat => ck_K_hom (xl := xl) (xs := xs) (ρ := Nat → Option (Option ck_V × ck_M)) (ρ' := Option (Option ck_V × ck_M)) (req := fun p f n => ck_oreq p (f n)) (req' := ck_oreq) (br := fun p f g n => ck_obr p (f n) (g n)) (br' := ck_obr) (fun f => f n) (fun _ _ => rfl) (fun _ _ _ => rfl)
    (fun L' st' M' n => ck_x P xl xs n d y (pc + len) L' st' M') (fun t L' st' M' n => ck_x P xl xs n d y t L' st' M')
    (fun y' as rest n => match (generalizing := false) d with
          | 0 => none
          | d' + 1 => bif Nat.ble as.length (P y').1 then (match ck_x P xl xs n d' y' 0 (ck_ent (P y').1 as) [] M with
            | none => none
            | some r => ck_x P xl xs n d y (pc + len) L (r.1.toList ++ rest) r.2) else none)
    (fun v _ => some (v, M)) (fun _ => none) d pc a b c i L st M
  rw [hb] at e2
  intro h
  have h' := Eq.mpr e2 (ck_K_mono (fun _ _ _ q => q) (fun _ _ _ _ q => q) (fun y' as rest q => by
    cases d with
    | zero => exact absurd q id
    | succ d =>
      unfold ck_Cl at q
      dsimp only at q ⊢
      cases hl : Nat.ble as.length (P y').1 with
      | false => rw [hl] at q; exact absurd q id
      | true =>
        rw [hl] at q
        simp only [cond_true] at q ⊢
        obtain ⟨n1, r1, h1, n2, r2, h2, hQ⟩ := q
        refine ⟨max n1 n2, r2, ?_, hQ⟩
        rw [ck_x_le (Nat.le_max_left n1 n2) h1]
        exact ck_x_le (Nat.le_max_right n1 n2) h2) (fun v q => ⟨0, (v, M), rfl, q⟩) h)
  obtain ⟨n, r, hn, hQ⟩ := h'
  refine ⟨n + 1, r, ?_, hQ⟩
  rw [ck_x, hs]
  rw [← hn]
  dsimp only
  exact (e3 n).symm
/-- the words of the code from here to the next jump -/
def ck_wp (P : Nat → Nat × List ck_E) (xl : Nat) (xs : Nat → Int32) (d y : Nat) (Q : Option ck_V → ck_M → Prop) : List ck_E → ck_L → List ck_V → ck_M → Prop
  | [], _, _, _ => False
  | (pc, i, _, a, b, c) :: es, L, st, M => ck_K ck_pand ck_pbr (fun L st M => ck_wp P xl xs d y Q es L st M) (fun t L st M => ck_Ev P xl xs d y t L st M Q) (fun y' as rest => ck_Cl P xl xs d y' as M (fun v M1 => ck_wp P xl xs d y Q es L (v.toList ++ rest) M1)) (fun v => Q v M) False xl xs d pc a b c i L st M
/-- each instruction begins where the one ahead of it ends -/
def ck_row : Nat → List ck_E → Bool
  | _, [] => true
  | pc, e :: es => Nat.beq e.1 pc && Nat.blt 0 e.2.2.1 && ck_row (pc + e.2.2.1) es
theorem ck_seek_row : ∀ (es : List ck_E) (pc q : Nat), ck_row pc es = true → q < pc → ck_seek q es = [] := by
  intro es
  induction es with
  | nil => intros; rfl
  | cons e es ih =>
    intro pc q h hq
    simp only [ck_row, Bool.and_eq_true, Nat.beq_eq_true_eq, Nat.blt_eq] at h
    obtain ⟨⟨h1, h2⟩, h3⟩ := h
    have h1 := Nat.eq_of_beq_eq_true h1
    have hne : Nat.beq e.1 q = false := by
      cases hb : Nat.beq e.1 q
      · rfl
      · have := Nat.eq_of_beq_eq_true hb; omega
    simp only [ck_seek, hne, cond_false]
    exact ih _ _ h3 (by omega)
/-- behind an instruction of the code comes the rest of the code -/
theorem ck_seek_next : ∀ (es : List ck_E) (p0 pc : Nat) (e : ck_E) (ts : List ck_E), ck_row p0 es = true → ck_seek pc es = e :: ts → ts ≠ [] → e.1 = pc ∧ ck_seek (pc + e.2.2.1) es = ts := by
  intro es
  induction es with
  | nil => intro p0 pc e ts _ h; cases h
  | cons f fs ih =>
    intro p0 pc e ts hr h ht
    simp only [ck_row, Bool.and_eq_true, Nat.beq_eq_true_eq, Nat.blt_eq] at hr
    obtain ⟨⟨hr1, hr2⟩, hr3⟩ := hr
    have hr1 := Nat.eq_of_beq_eq_true hr1
    cases hb : Nat.beq f.1 pc with
    | true =>
      have hp := Nat.eq_of_beq_eq_true hb
      simp only [ck_seek, hb, cond_true] at h
      cases h
      refine ⟨hp, ?_⟩
      have hne : Nat.beq f.1 (pc + f.2.2.1) = false := by
        cases hc : Nat.beq f.1 (pc + f.2.2.1)
        · rfl
        · have := Nat.eq_of_beq_eq_true hc; omega
      simp only [ck_seek, hne, cond_false]
      cases fs with
      | nil => exact absurd rfl ht
      | cons g gs =>
        simp only [ck_row, Bool.and_eq_true, Nat.beq_eq_true_eq] at hr3
        have hr4 := Nat.eq_of_beq_eq_true hr3.1.1
        have hg : Nat.beq g.1 (pc + f.2.2.1) = true := by
          rw [Nat.beq_eq]; omega
        simp only [ck_seek, hg, cond_true]
    | false =>
      simp only [ck_seek, hb, cond_false] at h
      obtain ⟨h1, h2⟩ := ih _ _ _ _ hr3 h ht
      refine ⟨h1, ?_⟩
      have hlt : ¬ pc < p0 + f.2.2.1 := fun q => by
        rw [ck_seek_row _ _ _ hr3 q] at h; cases h
      have hne : Nat.beq f.1 (pc + e.2.2.1) = false := by
        cases hc : Nat.beq f.1 (pc + e.2.2.1)
        · rfl
        · have := Nat.eq_of_beq_eq_true hc; omega
      simp only [ck_seek, hne, cond_false]
      exact h2
theorem ck_seek_last : ∀ (es : List ck_E) (p0 pc : Nat) (e : ck_E), ck_row p0 es = true → ck_seek pc es = [e] → ck_seek (pc + e.2.2.1) es = [] := by
  intro es
  induction es with
  | nil => intro p0 pc e _ h; cases h
  | cons f fs ih =>
    intro p0 pc e hr h
    simp only [ck_row, Bool.and_eq_true, Nat.beq_eq_true_eq, Nat.blt_eq] at hr
    obtain ⟨⟨hr1, hr2⟩, hr3⟩ := hr
    have hr1 := Nat.eq_of_beq_eq_true hr1
    cases hb : Nat.beq f.1 pc with
    | true =>
      have hp := Nat.eq_of_beq_eq_true hb
      simp only [ck_seek, hb, cond_true] at h
      cases h
      have hne : Nat.beq f.1 (pc + f.2.2.1) = false := by
        cases hc : Nat.beq f.1 (pc + f.2.2.1)
        · rfl
        · have := Nat.eq_of_beq_eq_true hc; omega
      simp only [ck_seek, hne, cond_false]
    | false =>
      simp only [ck_seek, hb, cond_false] at h
      have h2 := ih _ _ _ hr3 h
      have hlt : ¬ pc < p0 + f.2.2.1 := fun q => by
        rw [ck_seek_row _ _ _ hr3 q] at h; cases h
      have hne : Nat.beq f.1 (pc + e.2.2.1) = false := by
        cases hc : Nat.beq f.1 (pc + e.2.2.1)
        · rfl
        · have := Nat.eq_of_beq_eq_true hc; omega
      simp only [ck_seek, hne, cond_false]
      exact h2
theorem ck_seek_at : ∀ {es : List ck_E} {pc : Nat} {e : ck_E} {ts : List ck_E}, ck_seek pc es = e :: ts → e.1 = pc := by
  intro es
  induction es with
  | nil => intro pc e ts h; cases h
  | cons f fs ih =>
    intro pc e ts h
    cases hb : Nat.beq f.1 pc with
    | true => simp only [ck_seek, hb, cond_true] at h; cases h; exact Nat.eq_of_beq_eq_true hb
    | false => simp only [ck_seek, hb, cond_false] at h; exact ih h
theorem ck_Ev_mono {d y pc : Nat} {L : ck_L} {st : List ck_V} {M : ck_M} {Q Q' : Option ck_V → ck_M → Prop} (hq : ∀ v M1, Q v M1 → Q' v M1) (h : ck_Ev P xl xs d y pc L st M Q) : ck_Ev P xl xs d y pc L st M Q' := by
  obtain ⟨n, r, h1, h2⟩ := h
  exact ⟨n, r, h1, hq _ _ h2⟩
theorem ck_Cl_mono {d y' : Nat} {as : List ck_V} {M : ck_M} {Q Q' : Option ck_V → ck_M → Prop} (hq : ∀ v M1, Q v M1 → Q' v M1) (h : ck_Cl P xl xs d y' as M Q) : ck_Cl P xl xs d y' as M Q' := by
  unfold ck_Cl at h ⊢
  cases d with
  | zero => exact h
  | succ d =>
    dsimp only at h ⊢
    cases hl : Nat.ble as.length (P y').1 with
    | false => rw [hl] at h; exact absurd h id
    | true => rw [hl] at h; simp only [cond_true] at h ⊢; exact ck_Ev_mono hq h
theorem ck_wp_ev {d y : Nat} {Q : Option ck_V → ck_M → Prop} (hr : ck_row 0 (P y).2 = true) : ∀ (es : List ck_E) (pc : Nat) (L : ck_L) (st : List ck_V) (M : ck_M), ck_seek pc (P y).2 = es → ck_wp P xl xs d y Q es L st M → ck_Ev P xl xs d y pc L st M Q := by
  intro es
  induction es with
  | nil => intro pc L st M _ h; exact absurd h id
  | cons e es ih =>
    intro pc L st M hs h
    obtain ⟨pc', i, len, a, b, c⟩ := e
    by_cases ht : es = []
    · subst ht
      have hp : pc' = pc := ck_seek_at hs
      subst hp
      exact ck_Ev_step hs (ck_K_mono (fun _ _ _ q => absurd q id) (fun _ _ _ _ q => q) (fun y' as rest q => ck_Cl_mono (fun v M1 z => absurd z id) q) (fun _ q => q) h)
    · obtain ⟨hp, hn⟩ := ck_seek_next _ _ _ _ _ hr hs ht
      dsimp only at hp hn
      subst hp
      exact ck_Ev_step hs (ck_K_mono (fun L st M q => ih _ _ _ _ hn q) (fun _ _ _ _ q => q) (fun y' as rest q => ck_Cl_mono (fun v M1 z => ih _ _ _ _ hn z) q) (fun _ q => q) h)
theorem ck_Ev_un {d y pc : Nat} {L : ck_L} {st : List ck_V} {M : ck_M} {Q : Option ck_V → ck_M → Prop} {i : Instr} {len a b c : Nat} {es : List ck_E} {pc' : Nat} (hs : ck_seek pc (P y).2 = (pc', i, len, a, b, c) :: es) (h : ck_Ev P xl xs d y pc L st M Q) :
    ck_K ck_pand ck_pbr (fun L st M => ck_Ev P xl xs d y (pc + len) L st M Q) (fun t L st M => ck_Ev P xl xs d y t L st M Q) (fun y' as rest => ck_Cl P xl xs d y' as M (fun v M1 => ck_Ev P xl xs d y (pc + len) L (v.toList ++ rest) M1 Q)) (fun v => Q v M) False xl xs d pc a b c i L st M := by
  obtain ⟨n, r, hx, hQ⟩ := h
  cases n with
  | zero => rw [ck_x] at hx; cases hx
  | succ n =>
    rw [ck_x, hs] at hx
    dsimp only at hx
    rw [ck_K_some] at hx
    refine ck_K_mono (fun L st M q => ⟨n, r, q, hQ⟩) (fun t L st M q => ⟨n, r, q, hQ⟩) (fun y' as rest q => ?_) (fun v q => by cases q; exact hQ) hx
    cases d with
    | zero => cases q
    | succ d =>
      unfold ck_Cl
      dsimp only at q ⊢
      cases hl : Nat.ble as.length (P y').1 with
      | false => rw [hl] at q; cases q
      | true =>
        rw [hl] at q
        simp only [cond_true] at q ⊢
        cases h1 : ck_x P xl xs n d y' 0 (ck_ent (P y').1 as) [] M with
        | none => rw [h1] at q; cases q
        | some r1 => rw [h1] at q; exact ⟨n, r1, h1, n, r, q, hQ⟩
theorem ck_ev_wp {d y : Nat} {Q : Option ck_V → ck_M → Prop} (hr : ck_row 0 (P y).2 = true) : ∀ (es : List ck_E) (pc : Nat) (L : ck_L) (st : List ck_V) (M : ck_M), ck_seek pc (P y).2 = es → ck_Ev P xl xs d y pc L st M Q → ck_wp P xl xs d y Q es L st M := by
  intro es
  induction es with
  | nil =>
    intro pc L st M hs ⟨n, r, hx, hQ⟩
    cases n with
    | zero => rw [ck_x] at hx; cases hx
    | succ n => rw [ck_x, hs] at hx; cases hx
  | cons e es ih =>
    intro pc L st M hs h
    obtain ⟨pc', i, len, a, b, c⟩ := e
    have hp : pc' = pc := ck_seek_at hs
    subst hp
    have hn : ck_seek (pc' + len) (P y).2 = es := by
      by_cases ht : es = []
      · subst ht
        exact ck_seek_last _ _ _ _ hr hs
      · exact (ck_seek_next _ _ _ _ _ hr hs ht).2
    exact ck_K_mono (fun L st M q => ih _ _ _ _ hn q) (fun _ _ _ _ q => q) (fun y' as rest q => ck_Cl_mono (fun v M1 z => ih _ _ _ _ hn z) q) (fun _ q => q) (ck_Ev_un hs h)
/-- from a place of the code on: in one word -/
theorem ck_Ev_eq {d y pc : Nat} {Q : Option ck_V → ck_M → Prop} {es : List ck_E} (hs : ck_seek pc (P y).2 = es) (hr : ck_row 0 (P y).2 = true) (L : ck_L) (st : List ck_V) (M : ck_M) : ck_Ev P xl xs d y pc L st M Q = ck_wp P xl xs d y Q es L st M := propext ⟨ck_ev_wp hr _ _ _ _ _ hs, ck_wp_ev hr _ _ _ _ _ hs⟩
end CKE
