/-! the locals -/
def ck_tp (base b : Nat) : Nat → ck_L → List (Nat × Value)
  | _, [] => []
  | i, none :: t => ck_tp base b (i + 1) t
  | i, some v :: t => (i, ck_mv base b v) :: ck_tp base b (i + 1) t
def ck_lr (base b : Nat) (ls : Array Slot) (n : Nat) (L : ck_L) : Prop := L.length = n ∧ lv_has ls n (ck_tp base b 0 L)
theorem ck_cat (base b : Nat) (v : ck_V) : (ck_mv base b v).category = 1 := by
  cases v with
  | inl x => rfl
  | inr r => match r with
    | 0 => rfl
    | 1 => rfl
    | r + 2 => rfl
theorem ck_tp_mem {base b : Nat} : ∀ (L : ck_L) (i : Nat) (q : Nat × Value), q ∈ ck_tp base b i L ↔ ∃ (j : Nat) (v : ck_V), q.1 = i + j ∧ L[j]? = some (some v) ∧ q.2 = ck_mv base b v := by
  intro L
  induction L with
  | nil => intro i q; simp [ck_tp]
  | cons o t ih =>
    intro i q
    have up : (∃ (j : Nat) (v : ck_V), q.1 = i + 1 + j ∧ t[j]? = some (some v) ∧ q.2 = ck_mv base b v) ↔ ∃ (j : Nat) (v : ck_V), q.1 = i + (j + 1) ∧ (o :: t)[j + 1]? = some (some v) ∧ q.2 = ck_mv base b v := by
      constructor
      · rintro ⟨j, v, h1, h2, h3⟩; exact ⟨j, v, by omega, by simpa using h2, h3⟩
      · rintro ⟨j, v, h1, h2, h3⟩; exact ⟨j, v, by omega, by simpa using h2, h3⟩
    cases o with
    | none =>
      simp only [ck_tp]
      rw [ih, up]
      constructor
      · rintro ⟨j, v, h⟩; exact ⟨j + 1, v, h⟩
      · rintro ⟨j, v, h1, h2, h3⟩
        cases j with
        | zero => simp at h2
        | succ j => exact ⟨j, v, h1, h2, h3⟩
    | some w =>
      simp only [ck_tp, List.mem_cons]
      rw [ih, up]
      constructor
      · rintro (rfl | ⟨j, v, h⟩)
        · exact ⟨0, w, rfl, rfl, rfl⟩
        · exact ⟨j + 1, v, h⟩
      · rintro ⟨j, v, h1, h2, h3⟩
        cases j with
        | zero =>
          simp only [List.getElem?_cons_zero, Option.some.injEq] at h2
          subst h2
          exact Or.inl (Prod.ext h1 h3)
        | succ j => exact Or.inr ⟨j, v, h1, h2, h3⟩
theorem ck_lr_get {base b n k : Nat} {ls : Array Slot} {L : ck_L} {v : ck_V} (h : ck_lr base b ls n L) (hk : L[k]? = some (some v)) : ls[k]? = some (.val (ck_mv base b v)) :=
  h.2.2.2 (k, ck_mv base b v) ((ck_tp_mem L 0 _).mpr ⟨k, v, (Nat.zero_add k).symm, hk, rfl⟩)
theorem ck_lr_set {base b n i : Nat} {ls' : Array Slot} {L : ck_L} {v : ck_V} (hn : L.length = n) (hi : i < n) (h : lv_has ls' n ((i, ck_mv base b v) :: (ck_tp base b 0 L).filter (fun q => !(q.1 == i) && !(q.1 + 1 == i && q.2.category == 2)))) : ck_lr base b ls' n (L.set i (some v)) := by
  refine ⟨by simpa using hn, h.1, h.2.1, fun q hq => ?_⟩
  obtain ⟨j, w, h1, h2, h3⟩ := (ck_tp_mem _ _ _).mp hq
  rw [Nat.zero_add] at h1
  apply h.2.2
  by_cases hj : j = i
  · subst hj
    rw [List.getElem?_set_self (by rw [hn]; exact hi)] at h2
    cases h2
    exact List.mem_cons.mpr (Or.inl (Prod.ext h1 h3))
  · rw [List.getElem?_set_ne (fun z => hj z.symm)] at h2
    refine List.mem_cons.mpr (Or.inr (List.mem_filter.mpr ⟨(ck_tp_mem _ _ _).mpr ⟨j, w, by omega, h2, h3⟩, ?_⟩))
    have e1 : (q.1 == i) = false := by rw [h1]; simpa using hj
    have e2 : (q.2.category == 2) = false := by rw [h3, ck_cat]; rfl
    rw [e1, e2]; simp
theorem ck_lg_get : ∀ {L : ck_L} {k : Nat} {v : ck_V}, ck_lg L k = some v → L[k]? = some (some v) := by
  intro L
  induction L with
  | nil => intro k v h; cases h
  | cons o t ih =>
    intro k v h
    cases k with
    | zero => simp only [ck_lg] at h; simp [h]
    | succ k => simp only [ck_lg] at h; simpa using ih h
theorem ck_ls_set : ∀ (L : ck_L) (k : Nat) (v : ck_V), ck_ls L k v = L.set k (some v) := by
  intro L
  induction L with
  | nil => intro k v; rfl
  | cons o t ih =>
    intro k v
    cases k with
    | zero => rfl
    | succ k => simp only [ck_ls, List.set_cons_succ, ih]
section CKW
variable {p : Program} {l : Launch} {e : Env} {R : Room} {s : State} {m : MethodId} {args : Array Value} {below : List Frame} {meth : Method} {c : Code} {H : Heap} {locs : List Loc} {cells slots : Nat} {Q : State → Prop}
variable {cc : ByteArray} {pc : Nat} {ls : Array Slot} {rest : List Value}
theorem ck_aload (hx : p.tables.exec = Jvm.exec) (hb : c.code = cc) {i : Nat} {r : Option Nat} (hdg : decode cc pc = .ok (.aload i, 2)) (hl : ls[i]? = some (.val (va_rf r))) (k : W p l e R s m args below meth c H locs cells slots Q (F0 m (pc + 2) ls (va_rf r :: rest))) : W p l e R s m args below meth c H locs cells slots Q (F0 m pc ls rest) := by
  cases r with
  | none => exact lv_aloadN hx hb hdg hl k
  | some a => exact lv_aload hx hb hdg hl k
theorem ck_aload_n (hx : p.tables.exec = Jvm.exec) (hb : c.code = cc) {i : Fin 4} {r : Option Nat} (hdg : decode cc pc = .ok (.aload_n i, 1)) (hl : ls[i.val]? = some (.val (va_rf r))) (k : W p l e R s m args below meth c H locs cells slots Q (F0 m (pc + 1) ls (va_rf r :: rest))) : W p l e R s m args below meth c H locs cells slots Q (F0 m pc ls rest) := by
  cases r with
  | none => exact lv_aload_nN hx hb hdg rfl hl k
  | some a => exact lv_aload_n hx hb hdg rfl hl k
theorem ck_astore (hx : p.tables.exec = Jvm.exec) (hb : c.code = cc) {i nL : Nat} {r : Option Nat} {lv : List (Nat × Value)} (hdg : decode cc pc = .ok (.astore i, 2)) (h : lv_has ls nL lv) (hn : i < nL) (kk : ∀ ls' : Array Slot, lv_has ls' nL ((i, va_rf r) :: lv.filter (fun q => !(q.1 == i) && !(q.1 + 1 == i && q.2.category == 2))) → W p l e R s m args below meth c H locs cells slots Q (F0 m (pc + 2) ls' rest)) : W p l e R s m args below meth c H locs cells slots Q (F0 m pc ls (va_rf r :: rest)) := by
  cases r with
  | none => exact lv_astoreN hx hb hdg h hn rfl kk
  | some a => exact lv_astore hx hb hdg h hn rfl kk
theorem ck_astore_n (hx : p.tables.exec = Jvm.exec) (hb : c.code = cc) {i : Fin 4} {nL : Nat} {r : Option Nat} {lv : List (Nat × Value)} (hdg : decode cc pc = .ok (.astore_n i, 1)) (h : lv_has ls nL lv) (hn : i.val < nL) (kk : ∀ ls' : Array Slot, lv_has ls' nL ((i.val, va_rf r) :: lv.filter (fun q => !(q.1 == i.val) && !(q.1 + 1 == i.val && q.2.category == 2))) → W p l e R s m args below meth c H locs cells slots Q (F0 m (pc + 1) ls' rest)) : W p l e R s m args below meth c H locs cells slots Q (F0 m pc ls (va_rf r :: rest)) := by
  cases r with
  | none => exact lv_astore_nN hx hb hdg rfl h hn rfl kk
  | some a => exact lv_astore_n hx hb hdg rfl h hn rfl kk
theorem ck_ifnull (hx : p.tables.exec = Jvm.exec) (hb : c.code = cc) {r : Option Nat} {off : Int} {tgt : Nat} (hdg : decode cc pc = .ok (.ifnull off, 3)) (ht : (pc : Int) + off = (tgt : Int)) (kt : r = none → W p l e R s m args below meth c H locs cells slots Q (F0 m tgt ls rest)) (kf : ¬ r = none → W p l e R s m args below meth c H locs cells slots Q (F0 m (pc + 3) ls rest)) : W p l e R s m args below meth c H locs cells slots Q (F0 m pc ls (va_rf r :: rest)) := by
  cases r with
  | none => exact lv_ifnullN hx hb hdg ht (kt rfl)
  | some a => exact lv_ifnull hx hb hdg (kf (by simp))
theorem ck_ifnonnull (hx : p.tables.exec = Jvm.exec) (hb : c.code = cc) {r : Option Nat} {off : Int} {tgt : Nat} (hdg : decode cc pc = .ok (.ifnonnull off, 3)) (ht : (pc : Int) + off = (tgt : Int)) (kt : ¬ r = none → W p l e R s m args below meth c H locs cells slots Q (F0 m tgt ls rest)) (kf : r = none → W p l e R s m args below meth c H locs cells slots Q (F0 m (pc + 3) ls rest)) : W p l e R s m args below meth c H locs cells slots Q (F0 m pc ls (va_rf r :: rest)) := by
  cases r with
  | none => exact lv_ifnonnullN hx hb hdg (kf rfl)
  | some a => exact lv_ifnonnull hx hb hdg ht (kt (by simp))
/-- what the machine knows of the heap's size -/
theorem ck_peek {g : JFrame} (h : H.size ≤ s.heap.size + cells → W p l e R s m args below meth c H locs cells slots Q g) : W p l e R s m args below meth c H locs cells slots Q g := fun T hT X => h (by rw [← hT]; exact X.heapSize) T hT X
/-- behind a call, whatever it answers -/
theorem ck_call {mc ms : Nat} {st0 : List Value} {v : Option Value} {A : Nat → Prop} {H0 : Heap} {B : Heap → Prop} {Qa : State → Outcome → State → Prop} (hr : va_Run p l e R s m args below meth c H locs cells slots mc ms (F0 m pc ls st0) rest Qa A) (hq : ∀ st o t, Qa st o t → o = .returned v ∧ B t.heap ∧ va_F A st t) (hS : va_S A H0 H locs)
    (kk : ∀ (H1 : Heap) (locs1 : List Loc), B H1 → va_S A H0 H1 locs1 → W p l e R s m args below meth c H1 locs1 (cells + mc) (slots + ms) Q (F0 m (pc + 3) ls (v.toList ++ rest))) : W p l e R s m args below meth c H locs cells slots Q (F0 m pc ls st0) := by
  intro T hT X
  obtain ⟨v', st₀, t, T', L, h0, X', hL, e1, e2, hqa, st⟩ := hr T hT X
  obtain ⟨hv, hB, hz, hk⟩ := hq _ _ _ hqa
  cases hv
  rw [h0] at hz hk
  obtain ⟨t2, a1, b1⟩ := kk T'.heap (locs ++ L) (by rw [e1]; exact hB)
    ⟨Nat.le_trans hS.1 (by rw [e1]; exact hz), fun q h1 h2 => by rw [e1, hk q (Nat.lt_of_lt_of_le h1 hS.1) h2]; exact hS.2.1 q h1 h2, fun q hq => by
      rcases List.mem_append.mp hq with h | h
      · exact hS.2.2 q h
      · exact hL q h⟩ T' rfl X'
  exact ⟨t2, st t2 a1, b1⟩
end CKW
