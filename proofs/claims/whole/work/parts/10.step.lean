/-! words of the tables that go with the state by rules of their own -/
def ck_Xs (s : State) : Prop := va_AO "ChainKeeper$Message" s ∧ va_AO "ChainKeeper$Node" s ∧ va_AO "ChainKeeper$Client" s ∧ va_Nw (.methodLinkNest "ChainKeeper$Wire" 17 ⟨"ChainKeeper$Message", "<init>", "()V"⟩ "ChainKeeper") s ∧ va_Nw (.castable "[I" "java/lang/Cloneable") s
theorem ck_Xs_warm {s U : State} (hW : s.WarmedH U.vm) (h : ck_Xs s) : ck_Xs U := ⟨h.1.moved hW.alike, h.2.1.moved hW.alike, h.2.2.1.moved hW.alike, va_Nw.warmM hW h.2.2.2.1, va_Nw.warmC hW h.2.2.2.2⟩
/-- what a call of y' from y needs of the tables -/
def ck_Lk (own : String) (idx : Nat) (y' : Nat) : Prop := Cond.methodLink own idx (ck_mn y') ∈ ck_Wt ∨ ∃ host, ∀ s, ck_Xs s → va_Nw (.methodLinkNest own idx (ck_mn y') host) s
def ck_Cw (y' n : Nat) : Prop := Cond.code (ck_mn y') (ck_by y') (ck_P y').1 (ck_rt y') ∈ ck_Wt ∧ Cond.initialized (ck_mn y').cls ∈ ck_Wt ∧ ((ck_mn y').cls ≠ "java/lang/invoke/MethodHandle" ∧ (ck_mn y').cls ≠ "java/lang/invoke/VarHandle" ∧ (parseMethodDescriptor (ck_mn y').desc).map (fun d => d.parameters.length) = some n) ∧ (ck_P y').1 ≤ 17
/-! which facts of the tables each instruction rests on -/
def ck_CF (ci : Nat) (cls : vw_C) : Prop := ck_cls[ci]? = some cls ∧ (∀ w ∈ u_ws cls.1 cls.2.1 cls.2.2, w ∈ ck_Wt) ∧ (∀ a, a < cls.2.2 → ∀ b, b < cls.2.2 → a ≠ b → (cls.2.1 a).2.1 ≠ (cls.2.1 b).2.1) ∧ ∃ ty0 : Nat → FieldType, (∀ k, k < cls.2.2 → parseFieldDescriptor (cls.2.1 k).2.2.1 = some (ty0 k)) ∧ ∀ k, k < cls.2.2 → defaultValue (ty0 k) = bif Nat.beq (ck_ft ci k) 1 then .null else .int 0
def ck_Gf (own : String) (idx k : Nat) (cls : vw_C) : Prop := k < cls.2.2 ∧ ((Cond.fieldLink own idx (cls.2.1 k).1 (cls.2.1 k).2.1 (cls.2.1 k).2.2.1 ∈ ck_Wt) ∨ ∃ host, Cond.fieldLinkNest own idx (cls.2.1 k).1 (cls.2.1 k).2.1 (cls.2.1 k).2.2.1 host ∈ ck_Wt)
def ck_Gp (own nm : String) (idx k : Nat) (cls : vw_C) : Prop := k < cls.2.2 ∧ (((cls.2.1 k).2.2.2 = false ∧ Cond.fieldLink own idx (cls.2.1 k).1 (cls.2.1 k).2.1 (cls.2.1 k).2.2.1 ∈ ck_Wt) ∨ ((cls.2.1 k).2.2.2 = true ∧ nm = "<init>" ∧ (cls.2.1 k).1 = own ∧ Cond.fieldLink own idx (cls.2.1 k).1 (cls.2.1 k).2.1 (cls.2.1 k).2.2.1 ∈ ck_Wt) ∨ ((cls.2.1 k).2.2.2 = false ∧ ∃ host, Cond.fieldLinkNest own idx (cls.2.1 k).1 (cls.2.1 k).2.1 (cls.2.1 k).2.2.1 host ∈ ck_Wt))
/-- the type of a field, by its number: 0 int, 1 a reference, 2 boolean -/
def ck_Gt (d : String) (c : Nat) : Prop := match c with
  | 0 => parseFieldDescriptor d = some .int
  | 1 => (∃ n, parseFieldDescriptor d = some (.object n)) ∨ ∃ t, parseFieldDescriptor d = some (.array t)
  | _ => parseFieldDescriptor d = some .boolean
def ck_swok (pc : Nat) (dflt lo hi : Int) (offs : Array Int) : Prop := 0 ≤ (pc : Int) + dflt ∧ (∀ o ∈ offs.toList, 0 ≤ (pc : Int) + o) ∧ hi = lo + offs.size - 1 ∧ -2147483648 ≤ lo ∧ hi ≤ 2147483647 ∧ offs.size < 1000
def ck_G (own nm : String) (mL : Nat) (rt : Option FieldType) (pc len a b c : Nat) (i : Instr) : Prop := match i with
  | .iconst _ => len = 1
  | .bipush _ => len = 2
  | .sipush _ => len = 3
  | .ldc idx => len = 2 ∧ Cond.constant own idx (Int32.ofNat a) ∈ ck_Wt
  | .aconst_null => len = 1
  | .iload k => len = 2 ∧ k = a
  | .aload k => len = 2 ∧ k = a
  | .iload_n k => len = 1 ∧ k.val = a
  | .aload_n k => len = 1 ∧ k.val = a
  | .istore k => len = 2 ∧ k = a ∧ a < mL
  | .astore k => len = 2 ∧ k = a ∧ a < mL
  | .istore_n k => len = 1 ∧ k.val = a ∧ a < mL
  | .astore_n k => len = 1 ∧ k.val = a ∧ a < mL
  | .iinc k _ => len = 3 ∧ k = a ∧ a < mL
  | .goto off => len = 3 ∧ (pc : Int) + off = (a : Int)
  | .ifCond _ off => len = 3 ∧ (pc : Int) + off = (a : Int)
  | .if_icmp _ off => len = 3 ∧ (pc : Int) + off = (a : Int)
  | .if_acmp _ _ => False
  | .lookupswitch _ _ => False
  | .ifnull off => len = 3 ∧ (pc : Int) + off = (a : Int)
  | .ifnonnull off => len = 3 ∧ (pc : Int) + off = (a : Int)
  | .tableswitch dflt lo hi offs => ck_swok pc dflt lo hi offs
  | .getfield idx => len = 3 ∧ ∃ ci cls, a = 2 * ci + 2 ∧ ck_CF ci cls ∧ ck_Gf own idx b cls ∧ Nat.beq c 1 = Nat.beq (ck_ft ci b) 1
  | .putfield idx => len = 3 ∧ ∃ ci cls, a = 2 * ci + 2 ∧ ck_CF ci cls ∧ ck_Gp own nm idx b cls ∧ Nat.beq c 1 = Nat.beq (ck_ft ci b) 1 ∧ ck_Gt (cls.2.1 b).2.2.1 c
  | .iaload => len = 1
  | .iastore => len = 1
  | .baload => len = 1
  | .bastore => len = 1
  | .aaload => len = 1 ∧ ∃ t cn, a = 2 * t + 3 ∧ ck_tys[t]? = some (.object cn)
  | .aastore => len = 1 ∧ ∃ t ci cls, a = 2 * t + 3 ∧ b = 2 * ci + 2 ∧ ck_cls[ci]? = some cls ∧ ck_tys[t]? = some (.object cls.1)
  | .arraylength => len = 1 ∧ (a = 1 ∨ ∃ t ty, a = 2 * t + 3 ∧ ck_tys[t]? = some ty)
  | .new idx => len = 3 ∧ ∃ ci cls, a = 2 * ci + 2 ∧ ck_CF ci cls ∧ b = cls.2.2 ∧ Cond.classLink own idx cls.1 ∈ ck_Wt ∧ Cond.instantiable cls.1 cls.2.2 ∈ ck_Wt ∧ Cond.initialized cls.1 ∈ ck_Wt
  | .newarray at' => len = 2 ∧ ∃ t, a = 2 * t + 3 ∧ ck_tys[t]? = some (newarray.typeOf at') ∧ (at' = .int ∨ at' = .boolean) ∧ Cond.arrayClass (newarray.typeOf at') ∈ ck_Wt
  | .anewarray idx => len = 3 ∧ ∃ t cn, a = 2 * t + 3 ∧ ck_tys[t]? = some (.object cn) ∧ Cond.classLink own idx cn ∈ ck_Wt ∧ ∀ s, ck_Xs s → va_AO cn s
  | .checkcast idx => len = 3 ∧ a = 3 ∧ Cond.classLink own idx "[I" ∈ ck_Wt
  | .invokespecial idx => len = 3 ∧ ((a = 0 ∧ Cond.methodLink own idx Lib.objectInit ∈ ck_Wt ∧ Cond.instanceMethod Lib.objectInit ∈ ck_Wt ∧ Cond.code Lib.objectInit ⟨#[0xb1]⟩ 1 none ∈ ck_Wt) ∨ (∃ ci, a = 2 * ci + 2 ∧ ck_Lk own idx b ∧ ck_Cw b c ∧ ck_rt b = none ∧ Cond.instanceMethod (ck_mn b) ∈ ck_Wt ∧ (ck_mn b).name = "<init>"))
  | .invokevirtual idx => len = 3 ∧ ((a = 0 ∧ Cond.methodLink own idx ⟨"[I", "clone", "()Ljava/lang/Object;"⟩ ∈ ck_Wt ∧ Cond.sameMethod "[I" "java/lang/Object" "clone" "()Ljava/lang/Object;" ∈ ck_Wt ∧ Cond.native ⟨"java/lang/Object", "clone", "()Ljava/lang/Object;"⟩ ∈ ck_Wt ∧ Cond.instanceMethod ⟨"java/lang/Object", "clone", "()Ljava/lang/Object;"⟩ ∈ ck_Wt ∧ Cond.selects "[I" ⟨"[I", "clone", "()Ljava/lang/Object;"⟩ ⟨"java/lang/Object", "clone", "()Ljava/lang/Object;"⟩ ∈ ck_Wt ∧ ∀ s, ck_Xs s → va_Nw (.castable "[I" "java/lang/Cloneable") s) ∨ (∃ ci cls, a = 2 * ci + 2 ∧ ck_cls[ci]? = some cls ∧ (ck_mn b).cls = cls.1 ∧ ck_Lk own idx b ∧ ck_Cw b c ∧ Cond.instanceMethod (ck_mn b) ∈ ck_Wt ∧ Cond.selects cls.1 (ck_mn b) (ck_mn b) ∈ ck_Wt))
  | .invokestatic idx => len = 3 ∧ ((a = 0 ∧ Cond.methodLink own idx arraycopyName ∈ ck_Wt ∧ Cond.native arraycopyName ∈ ck_Wt ∧ Cond.static arraycopyName ∈ ck_Wt ∧ Cond.initialized "java/lang/System" ∈ ck_Wt) ∨ (a = 1 ∧ ck_Lk own idx b ∧ ck_Cw b c ∧ Cond.static (ck_mn b) ∈ ck_Wt))
  | .ireturn => len = 1 ∧ ((a = 0 ∧ rt = some .int) ∨ (a = 1 ∧ rt = some .boolean))
  | .areturn => len = 1 ∧ ((∃ n, rt = some (.object n)) ∨ ∃ t, rt = some (.array t))
  | .return_ => len = 1 ∧ rt = none
  | _ => len = 1
def ck_all (own nm : String) (mL : Nat) (rt : Option FieldType) : List ck_E → Prop
  | [] => True
  | e :: es => ck_G own nm mL rt e.1 e.2.2.1 e.2.2.2.1 e.2.2.2.2.1 e.2.2.2.2.2 e.2.1 ∧ ck_all own nm mL rt es
/-- a return that fits the method -/
def ck_retok (y : Nat) (i : Instr) (v : Option ck_V) : Prop := (i = .ireturn ∧ ∃ x, v = some (.inl x) ∧ (ck_rt y = some .int ∨ (ck_rt y = some .boolean ∧ (x = 0 ∨ x = 1)))) ∨ (i = .areturn ∧ (∃ r, v = some (.inr r)) ∧ ((∃ n, ck_rt y = some (.object n)) ∨ ∃ t, ck_rt y = some (.array t))) ∨ (i = .return_ ∧ v = none ∧ ck_rt y = none)
