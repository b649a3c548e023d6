/-! the whole run of a method in the small machine, with fuel; the judgement 'it ends so' (ck_Ev), and the words for one straight piece of code (ck_wp) -/
def ck_seek (pc : Nat) : List ck_E → List ck_E
  | [] => []
  | e :: es => bif Nat.beq e.1 pc then e :: es else ck_seek pc es
def ck_ent (n : Nat) (as : List ck_V) : ck_L := as.map some ++ List.replicate (n - as.length) none
section CKX
variable {P : Nat → Nat × List ck_E} {xl : Nat} {xs : Nat → Int32}
noncomputable def ck_oreq {α : Type} (p : Prop) (x : Option α) : Option α := @ite _ p (Classical.propDecidable p) x none
noncomputable def ck_obr {α : Type} (p : Prop) (x y : Option α) : Option α := @ite _ p (Classical.propDecidable p) x y
noncomputable def ck_x (P : Nat → Nat × List ck_E) (xl : Nat) (xs : Nat → Int32) : Nat → Nat → Nat → Nat → ck_L → List ck_V → ck_M → Option (Option ck_V × ck_M)
  | 0, _, _, _, _, _, _ => none
  | n + 1, d, y, pc, L, st, M => match ck_seek pc (P y).2 with
    | [] => none
    | (_, i, len, a, b, c) :: _ => ck_K ck_oreq ck_obr (fun L' st' M' => ck_x P xl xs n d y (pc + len) L' st' M') (fun t L' st' M' => ck_x P xl xs n d y t L' st' M')
        (fun y' as rest => match d with
          | 0 => none
          | d' + 1 => bif Nat.ble as.length (P y').1 then (match ck_x P xl xs n d' y' 0 (ck_ent (P y').1 as) [] M with
            | none => none
            | some r => ck_x P xl xs n d y (pc + len) L (r.1.toList ++ rest) r.2) else none)
        (fun v => some (v, M)) none xl xs d pc a b c i L st M
/-- the words go over to another meaning -/
theorem ck_sw_hom {ρ ρ' : Sort _} {br : Prop → ρ → ρ → ρ} {br' : Prop → ρ' → ρ' → ρ'} (φ : ρ → ρ') (hb : ∀ p x y, φ (br p x y) = br' p (φ x) (φ y)) (jp : Nat → ρ) (pc : Nat) (x : Int32) (dflt : Int) : ∀ (os : List Int) (lo : Int), φ (ck_sw br jp pc x dflt lo os) = ck_sw br' (fun t => φ (jp t)) pc x dflt lo os := by
  intro os
  induction os with
  | nil => intro lo; rfl
  | cons o os ih => intro lo; simp only [ck_sw, hb, ih]
theorem ck_lk_hom {ρ ρ' : Sort _} {br : Prop → ρ → ρ → ρ} {br' : Prop → ρ' → ρ' → ρ'} (φ : ρ → ρ') (hb : ∀ p x y, φ (br p x y) = br' p (φ x) (φ y)) (jp : Nat → ρ) (pc : Nat) (x : Int32) (dflt : Int) : ∀ (os : List (Int × Int)), φ (ck_lk br jp pc x dflt os) = ck_lk br' (fun t => φ (jp t)) pc x dflt os := by
  intro os
  induction os with
  | nil => rfl
  | cons o os ih => simp only [ck_lk, hb, ih]
theorem ck_K_hom {ρ ρ' : Sort _} {req : Prop → ρ → ρ} {req' : Prop → ρ' → ρ'} {br : Prop → ρ → ρ → ρ} {br' : Prop → ρ' → ρ' → ρ'} (φ : ρ → ρ') (hq : ∀ p x, φ (req p x) = req' p (φ x)) (hb : ∀ p x y, φ (br p x y) = br' p (φ x) (φ y)) (nx : ck_L → List ck_V → ck_M → ρ) (jp : Nat → ck_L → List ck_V → ck_M → ρ) (cl : Nat → List ck_V → List ck_V → ρ) (rt : Option ck_V → ρ) (bad : ρ) (d pc a b c : Nat) (i : Instr) (L : ck_L) (st : List ck_V) (M : ck_M) :
    φ (ck_K req br nx jp cl rt bad xl xs d pc a b c i L st M) = ck_K req' br' (fun L st M => φ (nx L st M)) (fun t L st M => φ (jp t L st M)) (fun y as r => φ (cl y as r)) (fun v => φ (rt v)) (φ bad) xl xs d pc a b c i L st M := by
  have hc : ∀ (z : Bool) (x y : ρ), φ (bif z then x else y) = bif z then φ x else φ y := fun z x y => by cases z <;> rfl
  unfold ck_K
  split <;> (first | rfl | exact ck_sw_hom φ hb _ _ _ _ _ _ | skip) <;> (repeat' split) <;> (first | rfl | exact ck_sw_hom φ hb _ _ _ _ _ _ | exact ck_lk_hom φ hb _ _ _ _ _ | (simp only [hc, hq, hb])) <;> (try (repeat' split) <;> (first | rfl | simp only [hc, hq, hb]))
end CKX
