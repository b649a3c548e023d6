theorem ck_ra_none {base b r : Nat} (h : ck_ra base b r = none) : r = 0 := by
  match r, h with
  | 0, _ => rfl
  | 1, h => cases h
  | r + 2, h => cases h
theorem ck_pop_eq : ∀ {n : Nat} {acc st as rest : List ck_V}, ck_pop n acc st = some (as, rest) → acc.reverse ++ st = as.reverse ++ rest ∧ as.length = n + acc.length := by
  intro n
  induction n with
  | zero => intro acc st as rest h; simp only [ck_pop, Option.some.injEq, Prod.mk.injEq] at h; obtain ⟨rfl, rfl⟩ := h; simp
  | succ n ih =>
    intro acc st as rest h
    cases st with
    | nil => simp [ck_pop] at h
    | cons v st =>
      simp only [ck_pop] at h
      obtain ⟨h1, h2⟩ := ih h
      refine ⟨?_, by rw [h2]; simp; omega⟩
      rw [← h1]; simp
section CKD
variable {dC : Nat → ClassId} {dI : Nat → Nat → Nat} {cA : Nat → ClassId} {base b xl : Nat} {xs : Nat → Int32} {p : Program} {l : Launch} {e : Env} {R : Room} {s : State} {m : MethodId} {args : Array Value} {below : List Frame} {meth : Method} {c : Code} {Q : State → Prop} {y z0 u0 : Nat} {M : ck_M} {pc : Nat} {L : ck_L} {st : List ck_V}
theorem ck_s_sw (C : ck_Ctx dC dI cA base b xl xs p s m args meth c y z0) {dflt lo hi : Int} {offs : Array Int} {len : Nat} {x : Int32} (hd : decode (ck_by y) pc = .ok (.tableswitch dflt lo hi offs, len)) (hok : ck_swok pc dflt lo hi offs) (h : ck_sw ck_pbr (fun t => ck_WM dC dI cA base b p l e R s m args below meth c Q y z0 u0 M t L st) pc x dflt lo offs.toList) : ck_WM dC dI cA base b p l e R s m args below meth c Q y z0 u0 M pc L (.inl x :: st) := by
  obtain ⟨hx, hb, -⟩ := C
  obtain ⟨k1, k2, k3, k4, k5, k6⟩ := hok
  intro z u H locs ls hr hS hl
  have jt : ∀ o : Int, 0 ≤ (pc : Int) + o → (pc : Int) + o = (ck_jt pc o : Int) := fun o ho => by unfold ck_jt; omega
  have key : ∀ (os : List Int) (lo' : Int), (∀ o ∈ os, 0 ≤ (pc : Int) + o) → -2147483648 ≤ lo' → lo' + os.length ≤ 2147483648 → ck_sw ck_pbr (fun t => ck_WM dC dI cA base b p l e R s m args below meth c Q y z0 u0 M t L st) pc x dflt lo' os → (∃ o, os[(x.toInt - lo').toNat]? = some o ∧ ¬ x.toInt < lo' ∧ x.toInt < lo' + os.length ∧ ck_WM dC dI cA base b p l e R s m args below meth c Q y z0 u0 M (ck_jt pc o) L st) ∨ ((x.toInt < lo' ∨ lo' + os.length ≤ x.toInt) ∧ ck_WM dC dI cA base b p l e R s m args below meth c Q y z0 u0 M (ck_jt pc dflt) L st) := by
    intro os
    induction os with
    | nil => intro lo' _ _ _ h; exact Or.inr ⟨by simp; omega, h⟩
    | cons o os ih =>
      intro lo' ho hl1 hl2 h
      simp only [List.length_cons, Int.natCast_add, Int.natCast_one] at hl2
      by_cases hxe : x = Int32.ofInt lo'
      · have hxi : x.toInt = lo' := by rw [hxe]; exact Int32.toInt_ofInt_of_le (by simpa using hl1) (by simp; omega)
        refine Or.inl ⟨o, by rw [hxi]; simp, by omega, by simp; omega, h.1 hxe⟩
      · have hne : x.toInt ≠ lo' := fun q => hxe (by rw [← q]; exact (Int32.ofInt_toInt x).symm)
        rcases ih (lo' + 1) (fun q hq => ho q (List.mem_cons_of_mem _ hq)) (by omega) (by omega) (h.2 hxe) with ⟨o', g1, g2, g3, g4⟩ | ⟨g1, g2⟩
        · refine Or.inl ⟨o', ?_, by omega, by simp; omega, g4⟩
          rw [show (x.toInt - lo').toNat = (x.toInt - (lo' + 1)).toNat + 1 by omega]
          simpa using g1
        · exact Or.inr ⟨by simp; omega, g2⟩
  rcases key offs.toList lo k2 k4 (by simp; omega) h with ⟨o, g1, g2, g3, g4⟩ | ⟨g1, g2⟩
  · have g3' : ¬ hi < x.toInt := by simp at g3; omega
    exact lv_tableIn hx hb hd g2 g3' (by simpa using g1) (jt o (k2 o (List.mem_of_getElem? g1))) (g4 z u H locs ls hr hS hl)
  · exact lv_tableOut hx hb hd (by simp at g1; omega) (jt dflt k1) (g2 z u H locs ls hr hS hl)
set_option maxHeartbeats 8000000 in
set_option maxRecDepth 100000 in
theorem ck_sim1 {zE uE d len a b' c' : Nat} {i : Instr} (C : ck_Ctx dC dI cA base b xl xs p s m args meth c y z0) (hdec : decode (ck_by y) pc = .ok (i, len)) (hG : ck_G (ck_mn y).cls (ck_mn y).name (ck_P y).1 (ck_rt y) pc len a b' c' i) (t0 : ck_tys[0]? = some .int) (t1 : ck_tys[1]? = some .boolean) (hF : d ≤ R.frames) (hLo : d * ck_KL ≤ R.locals) (hRc : zE - z0 ≤ R.cells) (hRs : uE - u0 ≤ R.slots)
    (h : ck_K ck_pand ck_pbr (fun L st M' => (ck_sz M' ≤ zE ∧ ck_us M' ≤ uE) ∧ ck_WM dC dI cA base b p l e R s m args below meth c Q y z0 u0 M' (pc + len) L st) (fun t L st M' => ck_WM dC dI cA base b p l e R s m args below meth c Q y z0 u0 M' t L st)
      (fun y' as rest => ∃ (d' : Nat) (v : Option ck_V) (M1 : ck_M), d = d' + 1 ∧ ck_sz M ≤ ck_sz M1 ∧ ck_us M ≤ ck_us M1 ∧ ck_sz M1 ≤ zE ∧ ck_us M1 ≤ uE ∧ Met l (ck_mn y') (ck_wsy y') (ck_rm d' (ck_sz M1 - ck_sz M) (ck_us M1 - ck_us M)) (ck_Pc dC dI cA base b xl xs M as) (ck_Qc dC dI cA base b M1 v) (ck_sz M1 - ck_sz M) (ck_us M1 - ck_us M) (ck_A base) ∧ ck_WM dC dI cA base b p l e R s m args below meth c Q y z0 u0 M1 (pc + len) L (v.toList ++ rest))
      (fun v => ck_retok y i v → ck_WM dC dI cA base b p l e R s m args below meth c Q y z0 u0 M pc L v.toList) False xl xs d pc a b' c' i L st M) : ck_WM dC dI cA base b p l e R s m args below meth c Q y z0 u0 M pc L st := by
  obtain ⟨hx, hb, -⟩ := id C
  cases i
  case iconst n => obtain rfl := hG; exact ck_s_go (fun H locs ls cells slots hl k => lv_iconst hx hb hdec rfl (k ls hl)) h.2
  case bipush n => obtain rfl := hG; exact ck_s_go (fun H locs ls cells slots hl k => lv_bipush hx hb hdec rfl (k ls hl)) h.2
  case sipush n => obtain rfl := hG; exact ck_s_go (fun H locs ls cells slots hl k => lv_sipush hx hb hdec rfl (k ls hl)) h.2
  case ldc idx =>
    obtain ⟨rfl, hw⟩ := hG
    obtain ⟨-, -, -, hown, hts, -⟩ := C
    exact ck_s_go (fun H locs ls cells slots hl k => lv_ldc hx hb hown (hts _ hw) hdec (k ls hl)) h.2
  case aconst_null => obtain rfl := hG; exact ck_s_go (fun H locs ls cells slots hl k => lv_null hx hb hdec (k ls hl)) h.2
  case iload k =>
    obtain ⟨rfl, rfl⟩ := hG
    cases hg : ck_lg L k with
    | none => simp only [ck_K, hg] at h
    | some v => cases v with
      | inr x => simp only [ck_K, hg] at h
      | inl x =>
        simp only [ck_K, hg] at h
        exact ck_s_go (fun H locs ls cells slots hl k => lv_iload hx hb hdec (ck_lr_get hl (ck_lg_get hg)) (k ls hl)) h.2
  case iload_n k =>
    obtain ⟨rfl, rfl⟩ := hG
    cases hg : ck_lg L k.val with
    | none => simp only [ck_K, hg] at h
    | some v => cases v with
      | inr x => simp only [ck_K, hg] at h
      | inl x =>
        simp only [ck_K, hg] at h
        exact ck_s_go (fun H locs ls cells slots hl k => lv_iload_n hx hb hdec rfl (ck_lr_get hl (ck_lg_get hg)) (k ls hl)) h.2
  case aload k =>
    obtain ⟨rfl, rfl⟩ := hG
    cases hg : ck_lg L k with
    | none => simp only [ck_K, hg] at h
    | some v => cases v with
      | inl x => simp only [ck_K, hg] at h
      | inr x =>
        simp only [ck_K, hg] at h
        exact ck_s_go (fun H locs ls cells slots hl k => ck_aload hx hb hdec (ck_lr_get hl (ck_lg_get hg)) (k ls hl)) h.2
  case aload_n k =>
    obtain ⟨rfl, rfl⟩ := hG
    cases hg : ck_lg L k.val with
    | none => simp only [ck_K, hg] at h
    | some v => cases v with
      | inl x => simp only [ck_K, hg] at h
      | inr x =>
        simp only [ck_K, hg] at h
        exact ck_s_go (fun H locs ls cells slots hl k => ck_aload_n hx hb hdec (ck_lr_get hl (ck_lg_get hg)) (k ls hl)) h.2
  case istore k =>
    obtain ⟨rfl, rfl, hlt⟩ := hG
    rcases st with _ | ⟨x | r, st⟩
    · exact False.elim h
    · refine ck_s_go (fun H locs ls cells slots hl k' => lv_istore hx hb hdec hl.2 hlt rfl (fun ls' hl' => k' ls' ?_)) h.2
      rw [ck_ls_set]; exact ck_lr_set hl.1 hlt hl'
    · exact False.elim h
  case istore_n k =>
    obtain ⟨rfl, rfl, hlt⟩ := hG
    rcases st with _ | ⟨x | r, st⟩
    · exact False.elim h
    · refine ck_s_go (fun H locs ls cells slots hl k' => lv_istore_n hx hb hdec rfl hl.2 hlt rfl (fun ls' hl' => k' ls' ?_)) h.2
      rw [ck_ls_set]; exact ck_lr_set hl.1 hlt hl'
    · exact False.elim h
  case astore k =>
    obtain ⟨rfl, rfl, hlt⟩ := hG
    rcases st with _ | ⟨x | r, st⟩
    · exact False.elim h
    · exact False.elim h
    · refine ck_s_go (fun H locs ls cells slots hl k' => ck_astore hx hb hdec hl.2 hlt (fun ls' hl' => k' ls' ?_)) h.2
      rw [ck_ls_set]; exact ck_lr_set (v := .inr r) hl.1 hlt hl'
  case astore_n k =>
    obtain ⟨rfl, rfl, hlt⟩ := hG
    rcases st with _ | ⟨x | r, st⟩
    · exact False.elim h
    · exact False.elim h
    · refine ck_s_go (fun H locs ls cells slots hl k' => ck_astore_n hx hb hdec hl.2 hlt (fun ls' hl' => k' ls' ?_)) h.2
      rw [ck_ls_set]; exact ck_lr_set (v := .inr r) hl.1 hlt hl'
  case iinc k n =>
    obtain ⟨rfl, rfl, hlt⟩ := hG
    cases hg : ck_lg L k with
    | none => simp only [ck_K, hg] at h
    | some v => cases v with
      | inr x => simp only [ck_K, hg] at h
      | inl x =>
        simp only [ck_K, hg] at h
        refine ck_s_go (fun H locs ls cells slots hl k' => ?_) h.2
        obtain ⟨q, hq⟩ := List.getElem?_of_mem ((ck_tp_mem (base := base) (b := b) L 0 (k, ck_mv base b (.inl x))).mpr ⟨k, .inl x, (Nat.zero_add k).symm, ck_lg_get hg, rfl⟩)
        refine lv_iinc hx hb hdec hl.2 (k := q) hq rfl hlt rfl (fun ls' hl' => k' ls' ?_)
        rw [ck_ls_set]; exact ck_lr_set (v := .inl (x + Int32.ofInt n)) hl.1 hlt hl'
  case iadd =>
    obtain rfl := hG
    rcases st with _ | ⟨y1 | r, _ | ⟨x1 | r1, st⟩⟩
    · exact False.elim h
    · exact False.elim h
    · exact ck_s_go (fun H locs ls cells slots hl k => lv_iadd hx hb hdec (k ls hl)) h.2
    · exact False.elim h
    · exact False.elim h
    · exact False.elim h
    · exact False.elim h
  case isub =>
    obtain rfl := hG
    rcases st with _ | ⟨y1 | r, _ | ⟨x1 | r1, st⟩⟩
    · exact False.elim h
    · exact False.elim h
    · exact ck_s_go (fun H locs ls cells slots hl k => lv_isub hx hb hdec (k ls hl)) h.2
    · exact False.elim h
    · exact False.elim h
    · exact False.elim h
    · exact False.elim h
  case imul =>
    obtain rfl := hG
    rcases st with _ | ⟨y1 | r, _ | ⟨x1 | r1, st⟩⟩
    · exact False.elim h
    · exact False.elim h
    · exact ck_s_go (fun H locs ls cells slots hl k => lv_imul hx hb hdec (k ls hl)) h.2
    · exact False.elim h
    · exact False.elim h
    · exact False.elim h
    · exact False.elim h
  case iand =>
    obtain rfl := hG
    rcases st with _ | ⟨y1 | r, _ | ⟨x1 | r1, st⟩⟩
    · exact False.elim h
    · exact False.elim h
    · exact ck_s_go (fun H locs ls cells slots hl k => lv_iand hx hb hdec (k ls hl)) h.2
    · exact False.elim h
    · exact False.elim h
    · exact False.elim h
    · exact False.elim h
  case ior =>
    obtain rfl := hG
    rcases st with _ | ⟨y1 | r, _ | ⟨x1 | r1, st⟩⟩
    · exact False.elim h
    · exact False.elim h
    · exact ck_s_go (fun H locs ls cells slots hl k => lv_ior hx hb hdec (k ls hl)) h.2
    · exact False.elim h
    · exact False.elim h
    · exact False.elim h
    · exact False.elim h
  case ixor =>
    obtain rfl := hG
    rcases st with _ | ⟨y1 | r, _ | ⟨x1 | r1, st⟩⟩
    · exact False.elim h
    · exact False.elim h
    · exact ck_s_go (fun H locs ls cells slots hl k => lv_ixor hx hb hdec (k ls hl)) h.2
    · exact False.elim h
    · exact False.elim h
    · exact False.elim h
    · exact False.elim h
  case ishl =>
    obtain rfl := hG
    rcases st with _ | ⟨y1 | r, _ | ⟨x1 | r1, st⟩⟩
    · exact False.elim h
    · exact False.elim h
    · exact ck_s_go (fun H locs ls cells slots hl k => lv_ishl hx hb hdec (k ls hl)) h.2
    · exact False.elim h
    · exact False.elim h
    · exact False.elim h
    · exact False.elim h
  case ishr =>
    obtain rfl := hG
    rcases st with _ | ⟨y1 | r, _ | ⟨x1 | r1, st⟩⟩
    · exact False.elim h
    · exact False.elim h
    · exact ck_s_go (fun H locs ls cells slots hl k => lv_ishr hx hb hdec (k ls hl)) h.2
    · exact False.elim h
    · exact False.elim h
    · exact False.elim h
    · exact False.elim h
  case idiv =>
    obtain rfl := hG
    rcases st with _ | ⟨y1 | r, _ | ⟨x1 | r1, st⟩⟩
    · exact False.elim h
    · exact False.elim h
    · exact ck_s_go (fun H locs ls cells slots hl k => lv_idiv hx hb hdec h.1 (k ls hl)) h.2.2
    · exact False.elim h
    · exact False.elim h
    · exact False.elim h
    · exact False.elim h
  case irem =>
    obtain rfl := hG
    rcases st with _ | ⟨y1 | r, _ | ⟨x1 | r1, st⟩⟩
    · exact False.elim h
    · exact False.elim h
    · exact ck_s_go (fun H locs ls cells slots hl k => lv_irem hx hb hdec h.1 (k ls hl)) h.2.2
    · exact False.elim h
    · exact False.elim h
    · exact False.elim h
    · exact False.elim h
  case ineg =>
    obtain rfl := hG
    rcases st with _ | ⟨y1 | r, st⟩
    · exact False.elim h
    · exact ck_s_go (fun H locs ls cells slots hl k => lv_ineg hx hb hdec (k ls hl)) h.2
    · exact False.elim h
  case dup =>
    obtain rfl := hG
    rcases st with _ | ⟨v, st⟩
    · exact False.elim h
    · exact ck_s_go (fun H locs ls cells slots hl k => lv_dup hx hb hdec (ck_cat _ _ _) (k ls hl)) h.2
  case dup_x1 =>
    obtain rfl := hG
    rcases st with _ | ⟨v, _ | ⟨w, st⟩⟩
    · exact False.elim h
    · exact False.elim h
    · exact ck_s_go (fun H locs ls cells slots hl k => lv_dup_x1 hx hb hdec (ck_cat _ _ _) (ck_cat _ _ _) (k ls hl)) h.2
  case dup_x2 =>
    obtain rfl := hG
    rcases st with _ | ⟨v, _ | ⟨w, _ | ⟨x, st⟩⟩⟩
    · exact False.elim h
    · exact False.elim h
    · exact False.elim h
    · exact ck_s_go (fun H locs ls cells slots hl k => lv_dup_x2 hx hb hdec (ck_cat _ _ _) (ck_cat _ _ _) (ck_cat _ _ _) (k ls hl)) h.2
  case dup2 =>
    obtain rfl := hG
    rcases st with _ | ⟨v, _ | ⟨w, st⟩⟩
    · exact False.elim h
    · exact False.elim h
    · exact ck_s_go (fun H locs ls cells slots hl k => lv_dup2_11 hx hb hdec (ck_cat _ _ _) (ck_cat _ _ _) (k ls hl)) h.2
  case pop =>
    obtain rfl := hG
    rcases st with _ | ⟨v, st⟩
    · exact False.elim h
    · exact ck_s_go (fun H locs ls cells slots hl k => lv_pop hx hb hdec (ck_cat _ _ _) (k ls hl)) h.2
  case goto off => obtain ⟨rfl, ht⟩ := hG; exact ck_s_go (fun H locs ls cells slots hl k => lv_goto hx hb hdec ht (k ls hl)) h
  case ifCond q off =>
    obtain ⟨rfl, ht⟩ := hG
    rcases st with _ | ⟨x1 | r, st⟩
    · exact False.elim h
    · intro z u H locs ls hr hS hl
      have h1 := fun q => h.1 q z u H locs ls hr hS hl
      have h2 := fun q => (h.2 q).2 z u H locs ls hr hS hl
      cases q
      · exact lv_if_eq hx hb hdec ht h1 h2
      · exact lv_if_ne hx hb hdec ht h1 (fun q => h2 (fun z => z q))
      · exact lv_if_lt hx hb hdec ht h1 h2
      · exact lv_if_ge hx hb hdec ht h1 h2
      · exact lv_if_gt hx hb hdec ht h1 h2
      · exact lv_if_le hx hb hdec ht h1 h2
    · exact False.elim h
  case if_icmp q off =>
    obtain ⟨rfl, ht⟩ := hG
    rcases st with _ | ⟨y1 | r, _ | ⟨x1 | r1, st⟩⟩
    · exact False.elim h
    · exact False.elim h
    · intro z u H locs ls hr hS hl
      have h1 := fun q => h.1 q z u H locs ls hr hS hl
      have h2 := fun q => (h.2 q).2 z u H locs ls hr hS hl
      cases q
      · exact lv_icmp_eq hx hb hdec ht h1 h2
      · exact lv_icmp_ne hx hb hdec ht h1 (fun q => h2 (fun z => z q))
      · exact lv_icmp_lt hx hb hdec ht h1 h2
      · exact lv_icmp_ge hx hb hdec ht h1 h2
      · exact lv_icmp_gt hx hb hdec ht h1 h2
      · exact lv_icmp_le hx hb hdec ht h1 h2
    · exact False.elim h
    · exact False.elim h
    · exact False.elim h
    · exact False.elim h
  case ifnull off =>
    obtain ⟨rfl, ht⟩ := hG
    rcases st with _ | ⟨x1 | r, st⟩
    · exact False.elim h
    · exact False.elim h
    · intro z u H locs ls hr hS hl
      refine ck_ifnull hx hb hdec ht (fun q => h.1 ?_ z u H locs ls hr hS hl) (fun q => (h.2 ?_).2 z u H locs ls hr hS hl)
      · exact ck_ra_none q
      · rintro rfl; exact q rfl
  case ifnonnull off =>
    obtain ⟨rfl, ht⟩ := hG
    rcases st with _ | ⟨x1 | r, st⟩
    · exact False.elim h
    · exact False.elim h
    · intro z u H locs ls hr hS hl
      refine ck_ifnonnull hx hb hdec ht (fun q => h.1 ?_ z u H locs ls hr hS hl) (fun q => (h.2 ?_).2 z u H locs ls hr hS hl)
      · rintro rfl; exact q rfl
      · exact fun hne => hne (ck_ra_none q)
  case tableswitch dflt lo hi offs =>
    rcases st with _ | ⟨x1 | r, st⟩
    · exact False.elim h
    · exact ck_s_sw C hdec hG h
    · exact False.elim h
  case getfield idx =>
    obtain ⟨rfl, ci, cls, rfl, ⟨f1, f2, f3, f4⟩, ⟨g1, g2⟩, g3⟩ := hG
    rcases st with _ | ⟨x1 | r, st⟩
    · exact False.elim h
    · exact False.elim h
    · have h' : ck_kd M r = 2 * ci + 2 ∧ (ck_sz M ≤ zE ∧ ck_us M ≤ uE) ∧ ck_WM dC dI cA base b p l e R s m args below meth c Q y z0 u0 M (pc + 3) L ((bif Nat.beq c' 1 then .inr (ck_rv M r b') else .inl (ck_iv M r b')) :: st) := h
      rw [g3] at h'
      exact ck_s_get (ref := "") C f1 g1 f2 g2 hdec h'.1 h'.2.2
  case putfield idx =>
    obtain ⟨rfl, ci, cls, rfl, ⟨f1, f2, f3, ty0, f4, f5⟩, ⟨g1, g2⟩, g3, g4⟩ := hG
    have hnf := ck_nf_of f1
    rcases st with _ | ⟨x1 | r1, _ | ⟨x2 | r, st⟩⟩
    · exact False.elim h
    · exact False.elim h
    · exact False.elim h
    · match c', g3, g4, h with
      | 0, g3, g4, h =>
        have h' : ck_kd M r = 2 * ci + 2 ∧ (ck_sz M ≤ zE ∧ ck_us M ≤ uE) ∧ ck_WM dC dI cA base b p l e R s m args below meth c Q y z0 u0 (ck_wi M r b' x1) (pc + 3) L st := h
        exact ck_s_put (v := .inl x1) (M' := ck_wi M r b' x1) (ty := .int) C ty0 f4 f3 f1 g1 f2 g2 hdec h'.1 g4 rfl rfl (fun i hi => by subst hi; exact ⟨rfl, rfl, rfl, ck_ws_wi h'.1 g3.symm (by rw [hnf]; exact g1)⟩) h'.2.2
      | 1, g3, g4, h => exact False.elim h
      | 2, g3, g4, h =>
        have h' : ck_kd M r = 2 * ci + 2 ∧ (x1 = 0 ∨ x1 = 1) ∧ (ck_sz M ≤ zE ∧ ck_us M ≤ uE) ∧ ck_WM dC dI cA base b p l e R s m args below meth c Q y z0 u0 (ck_wi M r b' x1) (pc + 3) L st := h
        exact ck_s_put (v := .inl x1) (M' := ck_wi M r b' x1) (ty := .boolean) C ty0 f4 f3 f1 g1 f2 g2 hdec h'.1 g4 (by rcases h'.2.1 with rfl | rfl <;> rfl) (by rcases h'.2.1 with rfl | rfl <;> rfl) (fun i hi => by subst hi; exact ⟨rfl, rfl, rfl, ck_ws_wi h'.1 g3.symm (by rw [hnf]; exact g1)⟩) h'.2.2.2
      | n + 3, g3, g4, h => exact False.elim h
    · exact False.elim h
    · exact False.elim h
    · match c', g3, g4, h with
      | 0, g3, g4, h => exact False.elim h
      | 1, g3, g4, h =>
        have h' : ck_kd M r = 2 * ci + 2 ∧ (ck_sz M ≤ zE ∧ ck_us M ≤ uE) ∧ ck_WM dC dI cA base b p l e R s m args below meth c Q y z0 u0 (ck_wr M r b' r1) (pc + 3) L st := h
        have hv : ck_mv base b (.inr r1) = .null ∨ ∃ a, ck_mv base b (.inr r1) = .ref a := by
          match r1 with
          | 0 => exact Or.inl rfl
          | 1 => exact Or.inr ⟨_, rfl⟩
          | q + 2 => exact Or.inr ⟨_, rfl⟩
        rcases g4 with ⟨n, g4⟩ | ⟨t, g4⟩
        · exact ck_s_put (v := .inr r1) (M' := ck_wr M r b' r1) (ty := .object n) C ty0 f4 f3 f1 g1 f2 g2 hdec h'.1 g4 (by rcases hv with hv | ⟨q, hv⟩ <;> rw [hv] <;> rfl) (by rcases hv with hv | ⟨q, hv⟩ <;> rw [hv] <;> rfl) (fun i hi => by subst hi; exact ⟨rfl, rfl, rfl, ck_ws_wr h'.1 g3.symm (by rw [hnf]; exact g1)⟩) h'.2.2
        · exact ck_s_put (v := .inr r1) (M' := ck_wr M r b' r1) (ty := .array t) C ty0 f4 f3 f1 g1 f2 g2 hdec h'.1 g4 (by rcases hv with hv | ⟨q, hv⟩ <;> rw [hv] <;> rfl) (by rcases hv with hv | ⟨q, hv⟩ <;> rw [hv] <;> rfl) (fun i hi => by subst hi; exact ⟨rfl, rfl, rfl, ck_ws_wr h'.1 g3.symm (by rw [hnf]; exact g1)⟩) h'.2.2
      | n + 2, g3, g4, h => exact False.elim h
  case iaload =>
    obtain rfl := hG
    rcases st with _ | ⟨x1 | r1, _ | ⟨x2 | r, st⟩⟩
    · exact False.elim h
    · exact False.elim h
    · exact False.elim h
    · simp only [ck_K] at h
      cases ha : Nat.beq a 1 with
      | true =>
        rw [ha] at h
        obtain ⟨⟨rfl, h1⟩, -, h2⟩ := h
        exact ck_s_sld C hdec h1 h2
      | false =>
        rw [ha] at h
        obtain ⟨h1, h2, -, h3⟩ := h
        exact ck_s_iald C t0 hdec h1 h2 h3
    · exact False.elim h
    · exact False.elim h
    · exact False.elim h
  case baload =>
    obtain rfl := hG
    rcases st with _ | ⟨x1 | r1, _ | ⟨x2 | r, st⟩⟩
    · exact False.elim h
    · exact False.elim h
    · exact False.elim h
    · obtain ⟨h1, h2, -, h3⟩ := h
      exact ck_s_zald C t1 hdec h1 h2 h3
    · exact False.elim h
    · exact False.elim h
    · exact False.elim h
  case aaload =>
    obtain ⟨rfl, t, cn, rfl, ht⟩ := hG
    rcases st with _ | ⟨x1 | r1, _ | ⟨x2 | r, st⟩⟩
    · exact False.elim h
    · exact False.elim h
    · exact False.elim h
    · obtain ⟨h1, h2, -, h3⟩ := h
      exact ck_s_aald C ht hdec h1 h2 h3
    · exact False.elim h
    · exact False.elim h
    · exact False.elim h
  case iastore =>
    obtain rfl := hG
    rcases st with _ | ⟨x1 | r1, _ | ⟨x2 | r2, _ | ⟨x3 | r3, st⟩⟩⟩ <;> first | exact False.elim h | skip
    obtain ⟨h1, h2, -, h3⟩ := h
    exact ck_s_iast C t0 hdec h1 h2 h3
  case bastore =>
    obtain rfl := hG
    rcases st with _ | ⟨x1 | r1, _ | ⟨x2 | r2, _ | ⟨x3 | r3, st⟩⟩⟩ <;> first | exact False.elim h | skip
    obtain ⟨h1, h2, h4, -, h3⟩ := h
    exact ck_s_zast C t1 hdec h1 h2 h4 h3
  case aastore =>
    obtain ⟨rfl, t, ci, cls, rfl, rfl, hc, ht⟩ := hG
    rcases st with _ | ⟨x1 | r1, _ | ⟨x2 | r2, _ | ⟨x3 | r3, st⟩⟩⟩ <;> first | exact False.elim h | skip
    obtain ⟨h1, h2, h4, -, h3⟩ := h
    exact ck_s_aast C ht hc hdec h1 h2 h4 h3
  case arraylength =>
    obtain ⟨rfl, hG⟩ := hG
    rcases st with _ | ⟨x1 | r, st⟩
    · exact False.elim h
    · exact False.elim h
    · simp only [ck_K] at h
      cases ha : Nat.beq a 1 with
      | true =>
        rw [ha] at h
        obtain ⟨rfl, -, h2⟩ := h
        exact ck_s_slen C hdec h2
      | false =>
        rw [ha] at h
        obtain ⟨h1, -, h2⟩ := h
        rcases hG with rfl | ⟨t, ty, rfl, ht⟩
        · cases ha
        · exact ck_s_alen C ht hdec h1 h2
  case new idx =>
    obtain ⟨rfl, ci, cls, rfl, ⟨f1, f2, f3, ty0, f4, f5⟩, rfl, g1, g2, g3⟩ := hG
    obtain ⟨⟨h1, h2⟩, h3⟩ := h
    exact ck_s_new C ty0 f4 f5 f1 f2 g1 g2 g3 hdec (by have : ck_sz M + 1 ≤ zE := h1; omega) (by have : ck_us M + cls.2.2 ≤ uE := h2; omega) h3
  case newarray at' =>
    obtain ⟨rfl, t, rfl, g1, g2, g3⟩ := hG
    rcases st with _ | ⟨n | r, st⟩
    · exact False.elim h
    · obtain ⟨h0, ⟨h1, h2⟩, h3⟩ := h
      exact ck_s_newa C g1 g2 g3 hdec h0 (by have : ck_sz M + 1 ≤ zE := h1; omega) (by have : ck_us M + n.toNatClampNeg ≤ uE := h2; omega) h3
    · exact False.elim h
  case anewarray idx =>
    obtain ⟨rfl, t, cn, rfl, g1, g2, g3⟩ := hG
    rcases st with _ | ⟨n | r, st⟩
    · exact False.elim h
    · obtain ⟨h0, ⟨h1, h2⟩, h3⟩ := h
      exact ck_s_newq C g1 g2 g3 hdec h0 (by have : ck_sz M + 1 ≤ zE := h1; omega) (by have : ck_us M + n.toNatClampNeg ≤ uE := h2; omega) h3
    · exact False.elim h
  case checkcast idx =>
    obtain ⟨rfl, rfl, g1⟩ := hG
    rcases st with _ | ⟨n | r, st⟩
    · exact False.elim h
    · exact False.elim h
    · exact ck_s_castA C t0 g1 hdec h.1 h.2.2
  case ireturn =>
    obtain ⟨rfl, hG⟩ := hG
    rcases st with _ | ⟨x1 | r1, _ | ⟨v2, st⟩⟩ <;> first | exact False.elim h | skip
    rcases hG with ⟨rfl, hG⟩ | ⟨rfl, hG⟩
    · exact h (Or.inl ⟨rfl, x1, rfl, Or.inl hG⟩)
    · exact h.2 (Or.inl ⟨rfl, x1, rfl, Or.inr ⟨hG, h.1⟩⟩)
  case areturn =>
    obtain ⟨rfl, hG⟩ := hG
    rcases st with _ | ⟨x1 | r1, _ | ⟨v2, st⟩⟩ <;> first | exact False.elim h | skip
    exact h (Or.inr (Or.inl ⟨rfl, ⟨r1, rfl⟩, hG⟩))
  case return_ =>
    obtain ⟨rfl, hG⟩ := hG
    rcases st with _ | ⟨v2, st⟩ <;> first | exact False.elim h | skip
    exact h (Or.inr (Or.inr ⟨rfl, rfl, hG⟩))
  case invokespecial idx =>
    obtain ⟨rfl, ⟨rfl, g1, g2, g3⟩ | ⟨ci, rfl, g1, g2, g3, g4, g5⟩⟩ := hG
    · rcases st with _ | ⟨x1 | r, st⟩
      · exact False.elim h
      · exact False.elim h
      · simp only [ck_K] at h
        cases hb8 : Nat.ble st.length 8 with
        | false => rw [hb8] at h; exact False.elim h
        | true =>
          rw [hb8] at h
          obtain ⟨⟨h1, h2⟩, -, h3⟩ := h
          exact ck_s_oinit C g1 g2 g3 hdec h1 (Nat.le_of_ble_eq_true hb8) (by omega) (by unfold ck_KL at hLo; omega) h3
    · simp only [ck_K, show Nat.beq (2 * ci + 2) 0 = false from rfl, cond_false] at h
      split at h
      · rename_i r as rest hp
        obtain ⟨hst, hn⟩ := ck_pop_eq hp
        cases hb8 : Nat.ble rest.length 8 with
        | false => rw [hb8] at h; exact False.elim h
        | true =>
          rw [hb8] at h
          obtain ⟨h1, d', v, M1, rfl, k1, k2, k3, k4, k5, k6⟩ := h
          have hn' : as.length = c' := by simpa using hn
          subst hn'
          rw [show st = as.reverse ++ .inr r :: rest by simpa using hst]
          exact ck_s_callI C k5 h1 g1 g2 g3 g4 g5 hdec (Nat.le_of_ble_eq_true hb8) hF hLo k1 k2 (by omega) (by omega) k6
      · exact False.elim h
  case invokevirtual idx =>
    obtain ⟨rfl, ⟨rfl, g1, g2, g3, g4, g5, g6⟩ | ⟨ci, cls, rfl, g1, g2, g3, g4, g5, g6⟩⟩ := hG
    · rcases st with _ | ⟨x1 | r, st⟩
      · exact False.elim h
      · exact False.elim h
      · simp only [ck_K] at h
        cases hb8 : Nat.ble st.length 8 with
        | false => rw [hb8] at h; exact False.elim h
        | true =>
          rw [hb8] at h
          obtain ⟨⟨h1, h2⟩, ⟨h4, h5⟩, h3⟩ := h
          exact ck_s_clone C t0 g1 g2 g3 g4 g5 g6 hdec h1 (Nat.le_of_ble_eq_true hb8) (by omega) (by unfold ck_KL at hLo; omega) (by have : ck_sz M + 1 ≤ zE := h4; omega) (by have : ck_us M + ck_ln M r ≤ uE := h5; omega) h3
    · simp only [ck_K, show Nat.beq (2 * ci + 2) 0 = false from rfl, cond_false] at h
      split at h
      · rename_i r as rest hp
        obtain ⟨hst, hn⟩ := ck_pop_eq hp
        cases hb8 : Nat.ble rest.length 8 with
        | false => rw [hb8] at h; exact False.elim h
        | true =>
          rw [hb8] at h
          obtain ⟨h1, d', v, M1, rfl, k1, k2, k3, k4, k5, k6⟩ := h
          have hn' : as.length = c' := by simpa using hn
          subst hn'
          rw [show st = as.reverse ++ .inr r :: rest by simpa using hst]
          exact ck_s_callV C k5 g1 g2 h1 g3 g4 g5 g6 hdec (Nat.le_of_ble_eq_true hb8) hF hLo k1 k2 (by omega) (by omega) k6
      · exact False.elim h
  case invokestatic idx =>
    obtain ⟨rfl, ⟨rfl, g1, g2, g3, g4⟩ | ⟨rfl, g1, g2, g3⟩⟩ := hG
    · simp only [ck_K, show Nat.beq 0 0 = true from rfl, cond_true] at h
      split at h
      · rename_i n dp q sp r st'
        cases hb8 : Nat.ble st'.length 8 with
        | false => rw [hb8] at h; exact False.elim h
        | true =>
          rw [hb8] at h
          obtain ⟨⟨h1, h2, h3⟩, h4, -, h5⟩ := h
          exact ck_s_copy C t0 g1 g2 g3 g4 hdec h1 h2 (Nat.le_of_ble_eq_true hb8) (by omega) (by unfold ck_KL at hLo; omega) h4 h5
      · exact False.elim h
    · simp only [ck_K, show Nat.beq 1 0 = false from rfl, cond_false] at h
      split at h
      · rename_i as rest hp
        obtain ⟨hst, hn⟩ := ck_pop_eq hp
        cases hb8 : Nat.ble rest.length 8 with
        | false => rw [hb8] at h; exact False.elim h
        | true =>
          rw [hb8] at h
          obtain ⟨d', v, M1, rfl, k1, k2, k3, k4, k5, k6⟩ := h
          have hn' : as.length = c' := by simpa using hn
          subst hn'
          rw [show st = as.reverse ++ rest by simpa using hst]
          exact ck_s_callS C k5 g1 g2 g3 hdec (Nat.le_of_ble_eq_true hb8) hF hLo k1 k2 (by omega) (by omega) k6
      · exact False.elim h
  case if_acmp => exact False.elim hG
  case lookupswitch => exact False.elim hG
  all_goals exact False.elim h
end CKD
