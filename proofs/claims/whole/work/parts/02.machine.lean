/-! THE SMALL MACHINE: a pure picture of the methods' bytecode over a pure memory. Values: an int, or a reference (0 null, 1 the script, r + 2 the r-th cell made since the law began). -/
abbrev ck_V : Type := Int32 ⊕ Nat
abbrev ck_L : Type := List (Option ck_V)
/-- cells, slots used, kind, length, ints, references -/
abbrev ck_M : Type := Nat × Nat × (Nat → Nat) × (Nat → Nat) × (Nat → Nat → Int32) × (Nat → Nat → Nat)
/-- pc, instruction, its length, three numbers that the program's tables fix -/
abbrev ck_E : Type := Nat × Instr × Nat × Nat × Nat × Nat
def ck_sz (M : ck_M) : Nat := M.1
def ck_us (M : ck_M) : Nat := M.2.1
def ck_kd (M : ck_M) (r : Nat) : Nat := M.2.2.1 r
def ck_ln (M : ck_M) (r : Nat) : Nat := M.2.2.2.1 r
def ck_iv (M : ck_M) (r k : Nat) : Int32 := M.2.2.2.2.1 r k
def ck_rv (M : ck_M) (r k : Nat) : Nat := M.2.2.2.2.2 r k
/-- an int written, a reference written -/
def ck_wi (M : ck_M) (r k : Nat) (x : Int32) : ck_M := (M.1, M.2.1, M.2.2.1, M.2.2.2.1, fun a j => if a = r ∧ j = k then x else M.2.2.2.2.1 a j, M.2.2.2.2.2)
def ck_wr (M : ck_M) (r k : Nat) (x : Nat) : ck_M := (M.1, M.2.1, M.2.2.1, M.2.2.2.1, M.2.2.2.2.1, fun a j => if a = r ∧ j = k then x else M.2.2.2.2.2 a j)
/-- a cell made: its kind, how many slots -/
def ck_al (M : ck_M) (kind len : Nat) : ck_M := (M.1 + 1, M.2.1 + len, fun a => if a = M.1 + 2 then kind else M.2.2.1 a, fun a => if a = M.1 + 2 then len else M.2.2.2.1 a, fun a j => if a = M.1 + 2 then 0 else M.2.2.2.2.1 a j, fun a j => if a = M.1 + 2 then 0 else M.2.2.2.2.2 a j)
/-- ints copied from one array to another -/
def ck_cp (M : ck_M) (r sp q dp n : Nat) : ck_M := (M.1, M.2.1, M.2.2.1, M.2.2.2.1, fun a j => if a = q ∧ dp ≤ j ∧ j < dp + n then M.2.2.2.2.1 r (sp + (j - dp)) else M.2.2.2.2.1 a j, M.2.2.2.2.2)
/-- an array of ints made like another -/
def ck_cn (M : ck_M) (r : Nat) : ck_M := (M.1 + 1, M.2.1 + M.2.2.2.1 r, fun a => if a = M.1 + 2 then M.2.2.1 r else M.2.2.1 a, fun a => if a = M.1 + 2 then M.2.2.2.1 r else M.2.2.2.1 a, fun a j => if a = M.1 + 2 then M.2.2.2.2.1 r j else M.2.2.2.2.1 a j, fun a j => if a = M.1 + 2 then 0 else M.2.2.2.2.2 a j)
/-- n values off the stack, the deepest first -/
def ck_pop : Nat → List ck_V → List ck_V → Option (List ck_V × List ck_V)
  | 0, acc, st => some (acc, st)
  | _ + 1, _, [] => none
  | n + 1, acc, v :: st => ck_pop n (v :: acc) st
/-- is the place in the array -/
def ck_in (x : Int32) (n : Nat) : Prop := 0 ≤ x.toInt ∧ x.toInt < n
def ck_jt (pc : Nat) (off : Int) : Nat := ((pc : Int) + off).toNat
/-- a table switch -/
def ck_sw {ρ : Sort _} (br : Prop → ρ → ρ → ρ) (jp : Nat → ρ) (pc : Nat) (x : Int32) (dflt : Int) : Int → List Int → ρ
  | _, [] => jp (ck_jt pc dflt)
  | lo, o :: os => br (x = Int32.ofInt lo) (jp (ck_jt pc o)) (ck_sw br jp pc x dflt (lo + 1) os)
def ck_lk {ρ : Sort _} (br : Prop → ρ → ρ → ρ) (jp : Nat → ρ) (pc : Nat) (x : Int32) (dflt : Int) : List (Int × Int) → ρ
  | [] => jp (ck_jt pc dflt)
  | q :: os => br (x = Int32.ofInt q.1) (jp (ck_jt pc q.2)) (ck_lk br jp pc x dflt os)
def ck_cc (c : Jvm.ClassFile.Cond) (x y : Int32) : Prop := match c with
  | .eq => x = y
  | .ne => ¬ x = y
  | .lt => x < y
  | .ge => y ≤ x
  | .gt => y < x
  | .le => x ≤ y
/-- a local read, a local written -/
def ck_lg : ck_L → Nat → Option ck_V
  | [], _ => none
  | o :: _, 0 => o
  | _ :: t, n + 1 => ck_lg t n
def ck_ls : ck_L → Nat → ck_V → ck_L
  | [], _, _ => []
  | _ :: t, 0, v => some v :: t
  | o :: t, n + 1, v => o :: ck_ls t n v
/-- ONE INSTRUCTION, told once for all uses: what must hold (req), a fork (br), the next instruction (nx), a jump (jp), a call (cl: which method, its arguments, the stack below), a return (rt); d: how many frames may still be opened -/
def ck_K {ρ : Sort _} (req : Prop → ρ → ρ) (br : Prop → ρ → ρ → ρ) (nx : ck_L → List ck_V → ck_M → ρ) (jp : Nat → ck_L → List ck_V → ck_M → ρ) (cl : Nat → List ck_V → List ck_V → ρ) (rt : Option ck_V → ρ) (bad : ρ) (xl : Nat) (xs : Nat → Int32) (d pc a b c : Nat) (i : Instr) (L : ck_L) (st : List ck_V) (M : ck_M) : ρ :=
  match i with
  | .iconst n => nx L (.inl (Int32.ofInt n) :: st) M
  | .bipush n => nx L (.inl (Int8.ofInt n).toInt32 :: st) M
  | .sipush n => nx L (.inl (Int16.ofInt n).toInt32 :: st) M
  | .ldc _ => nx L (.inl (Int32.ofNat a) :: st) M
  | .aconst_null => nx L (.inr 0 :: st) M
  | .iload _ => match ck_lg L a with | some (.inl x) => nx L (.inl x :: st) M | _ => bad
  | .iload_n _ => match ck_lg L a with | some (.inl x) => nx L (.inl x :: st) M | _ => bad
  | .aload _ => match ck_lg L a with | some (.inr x) => nx L (.inr x :: st) M | _ => bad
  | .aload_n _ => match ck_lg L a with | some (.inr x) => nx L (.inr x :: st) M | _ => bad
  | .istore _ => match st with | .inl x :: st => nx (ck_ls L a (.inl x)) st M | _ => bad
  | .istore_n _ => match st with | .inl x :: st => nx (ck_ls L a (.inl x)) st M | _ => bad
  | .astore _ => match st with | .inr x :: st => nx (ck_ls L a (.inr x)) st M | _ => bad
  | .astore_n _ => match st with | .inr x :: st => nx (ck_ls L a (.inr x)) st M | _ => bad
  | .iinc _ n => match ck_lg L a with | some (.inl x) => nx (ck_ls L a (.inl (x + Int32.ofInt n))) st M | _ => bad
  | .iadd => match st with | .inl y :: .inl x :: st => nx L (.inl (x + y) :: st) M | _ => bad
  | .isub => match st with | .inl y :: .inl x :: st => nx L (.inl (x - y) :: st) M | _ => bad
  | .imul => match st with | .inl y :: .inl x :: st => nx L (.inl (x * y) :: st) M | _ => bad
  | .iand => match st with | .inl y :: .inl x :: st => nx L (.inl (x &&& y) :: st) M | _ => bad
  | .ior => match st with | .inl y :: .inl x :: st => nx L (.inl (x ||| y) :: st) M | _ => bad
  | .ixor => match st with | .inl y :: .inl x :: st => nx L (.inl (x ^^^ y) :: st) M | _ => bad
  | .ishl => match st with | .inl y :: .inl x :: st => nx L (.inl (x <<< (y &&& 31)) :: st) M | _ => bad
  | .ishr => match st with | .inl y :: .inl x :: st => nx L (.inl (x >>> (y &&& 31)) :: st) M | _ => bad
  | .idiv => match st with | .inl y :: .inl x :: st => req (¬ y = 0) (nx L (.inl (x / y) :: st) M) | _ => bad
  | .irem => match st with | .inl y :: .inl x :: st => req (¬ y = 0) (nx L (.inl (x - x / y * y) :: st) M) | _ => bad
  | .ineg => match st with | .inl x :: st => nx L (.inl (-x) :: st) M | _ => bad
  | .dup => match st with | v :: st => nx L (v :: v :: st) M | _ => bad
  | .dup_x1 => match st with | v :: w :: st => nx L (v :: w :: v :: st) M | _ => bad
  | .dup_x2 => match st with | v :: w :: u :: st => nx L (v :: w :: u :: v :: st) M | _ => bad
  | .dup2 => match st with | v :: w :: st => nx L (v :: w :: v :: w :: st) M | _ => bad
  | .pop => match st with | _ :: st => nx L st M | _ => bad
  | .goto _ => jp a L st M
  | .ifCond q _ => match st with | .inl x :: st => br (ck_cc q x 0) (jp a L st M) (nx L st M) | _ => bad
  | .if_icmp q _ => match st with | .inl y :: .inl x :: st => br (ck_cc q x y) (jp a L st M) (nx L st M) | _ => bad
  | .if_acmp .eq _ => match st with | .inr y :: .inr x :: st => br (x = y) (jp a L st M) (nx L st M) | _ => bad
  | .if_acmp .ne _ => match st with | .inr y :: .inr x :: st => br (¬ x = y) (jp a L st M) (nx L st M) | _ => bad
  | .ifnull _ => match st with | .inr x :: st => br (x = 0) (jp a L st M) (nx L st M) | _ => bad
  | .ifnonnull _ => match st with | .inr x :: st => br (¬ x = 0) (jp a L st M) (nx L st M) | _ => bad
  | .tableswitch dflt lo _ offs => match st with | .inl x :: st => ck_sw br (fun t => jp t L st M) pc x dflt lo offs.toList | _ => bad
  | .lookupswitch dflt ps => match st with | .inl x :: st => ck_lk br (fun t => jp t L st M) pc x dflt ps.toList | _ => bad
  | .getfield _ => match st with | .inr r :: st => req (ck_kd M r = a) (nx L ((bif Nat.beq c 1 then .inr (ck_rv M r b) else .inl (ck_iv M r b)) :: st) M) | _ => bad
  | .putfield _ => match st with
    | .inr x :: .inr r :: st => (bif Nat.beq c 1 then req (ck_kd M r = a) (nx L st (ck_wr M r b x)) else bad)
    | .inl x :: .inr r :: st => (bif Nat.beq c 0 then req (ck_kd M r = a) (nx L st (ck_wi M r b x)) else bif Nat.beq c 2 then req (ck_kd M r = a) (req (x = 0 ∨ x = 1) (nx L st (ck_wi M r b x))) else bad)
    | _ => bad
  | .iaload => match st with
    | .inl x :: .inr r :: st => (bif Nat.beq a 1 then req (r = 1 ∧ ck_in x xl) (nx L (.inl (xs x.toNatClampNeg) :: st) M) else req (ck_kd M r = 3) (req (ck_in x (ck_ln M r)) (nx L (.inl (ck_iv M r x.toNatClampNeg) :: st) M)))
    | _ => bad
  | .iastore => match st with | .inl v :: .inl x :: .inr r :: st => req (ck_kd M r = 3) (req (ck_in x (ck_ln M r)) (nx L st (ck_wi M r x.toNatClampNeg v))) | _ => bad
  | .baload => match st with | .inl x :: .inr r :: st => req (ck_kd M r = 5) (req (ck_in x (ck_ln M r)) (nx L (.inl (ck_iv M r x.toNatClampNeg) :: st) M)) | _ => bad
  | .bastore => match st with | .inl v :: .inl x :: .inr r :: st => req (ck_kd M r = 5) (req (ck_in x (ck_ln M r)) (req (v = 0 ∨ v = 1) (nx L st (ck_wi M r x.toNatClampNeg v)))) | _ => bad
  | .aaload => match st with | .inl x :: .inr r :: st => req (ck_kd M r = a) (req (ck_in x (ck_ln M r)) (nx L (.inr (ck_rv M r x.toNatClampNeg) :: st) M)) | _ => bad
  | .aastore => match st with | .inr v :: .inl x :: .inr r :: st => req (ck_kd M r = a) (req (ck_in x (ck_ln M r)) (req (ck_kd M v = b) (nx L st (ck_wr M r x.toNatClampNeg v)))) | _ => bad
  | .arraylength => match st with | .inr r :: st => (bif Nat.beq a 1 then req (r = 1) (nx L (.inl (nI xl) :: st) M) else req (ck_kd M r = a) (nx L (.inl (nI (ck_ln M r)) :: st) M)) | _ => bad
  | .new _ => nx L (.inr (ck_sz M + 2) :: st) (ck_al M a b)
  | .newarray _ => match st with | .inl n :: st => req (¬ n < 0 ∧ n.toNatClampNeg ≤ 65536) (nx L (.inr (ck_sz M + 2) :: st) (ck_al M a n.toNatClampNeg)) | _ => bad
  | .anewarray _ => match st with | .inl n :: st => req (¬ n < 0 ∧ n.toNatClampNeg ≤ 65536) (nx L (.inr (ck_sz M + 2) :: st) (ck_al M a n.toNatClampNeg)) | _ => bad
  | .checkcast _ => match st with | .inr r :: st => req (ck_kd M r = a) (nx L (.inr r :: st) M) | _ => bad
  | .invokespecial _ => bif Nat.beq a 0 then (match st with | .inr r :: st => (bif Nat.ble st.length 8 then req (¬ r = 0 ∧ 1 ≤ d) (nx L st M) else bad) | _ => bad)
    else (match ck_pop (c + 1) [] st with | some (.inr r :: as, rest) => (bif Nat.ble rest.length 8 then req (ck_kd M r = a) (cl b (.inr r :: as) rest) else bad) | _ => bad)
  | .invokevirtual _ => bif Nat.beq a 0 then (match st with | .inr r :: st => (bif Nat.ble st.length 8 then req (ck_kd M r = 3 ∧ 1 ≤ d) (nx L (.inr (ck_sz M + 2) :: st) (ck_cn M r)) else bad) | _ => bad)
    else (match ck_pop (c + 1) [] st with | some (.inr r :: as, rest) => (bif Nat.ble rest.length 8 then req (ck_kd M r = a) (cl b (.inr r :: as) rest) else bad) | _ => bad)
  | .invokestatic _ => bif Nat.beq a 0 then (match st with
      | .inl n :: .inl dp :: .inr q :: .inl sp :: .inr r :: st => (bif Nat.ble st.length 8 then req (ck_kd M r = 3 ∧ ck_kd M q = 3 ∧ 1 ≤ d) (req (¬ sp < 0 ∧ ¬ dp < 0 ∧ ¬ n < 0 ∧ sp.toNatClampNeg + n.toNatClampNeg ≤ ck_ln M r ∧ dp.toNatClampNeg + n.toNatClampNeg ≤ ck_ln M q) (nx L st (ck_cp M r sp.toNatClampNeg q dp.toNatClampNeg n.toNatClampNeg))) else bad)
      | _ => bad)
    else (match ck_pop c [] st with | some (as, rest) => (bif Nat.ble rest.length 8 then cl b as rest else bad) | _ => bad)
  | .ireturn => match st with | [.inl x] => (bif Nat.beq a 1 then req (x = 0 ∨ x = 1) (rt (some (.inl x))) else rt (some (.inl x))) | _ => bad
  | .areturn => match st with | [.inr r] => rt (some (.inr r)) | _ => bad
  | .return_ => match st with | [] => rt none | _ => bad
  | _ => bad
