/-! the words of the code, instruction by instruction: rows to rewrite with -/
def ck_li (o : Option ck_V) (k : Int32 → Prop) : Prop := match o with
  | some (.inl x) => k x
  | _ => False
def ck_la (o : Option ck_V) (k : Nat → Prop) : Prop := match o with
  | some (.inr x) => k x
  | _ => False
theorem li_s {x : Int32} {k : Int32 → Prop} : ck_li (some (.inl x)) k = k x := rfl
theorem la_s {x : Nat} {k : Nat → Prop} : ck_la (some (.inr x)) k = k x := rfl
theorem ck_ble {a b : Nat} (h : a ≤ b) : Nat.ble a b = true := Nat.ble_eq_true_of_le h
theorem ck_bne {a b : Nat} (h : ¬ a = b) : Nat.beq a b = false := by
  cases hb : Nat.beq a b
  · rfl
  · exact absurd (Nat.eq_of_beq_eq_true hb) h
section CKP
variable {xl : Nat} {xs : Nat → Int32} {d y : Nat} {Q : Option ck_V → ck_M → Prop} {es : List ck_E} {L : ck_L} {st : List ck_V} {M : ck_M} {pc len a b c : Nat}
theorem wp_iconst {n : Int} : ck_wp ck_P xl xs d y Q ((pc, .iconst n, len, a, b, c) :: es) L st M = ck_wp ck_P xl xs d y Q es L (.inl (Int32.ofInt n) :: st) M := rfl
theorem wp_bipush {n : Int} : ck_wp ck_P xl xs d y Q ((pc, .bipush n, len, a, b, c) :: es) L st M = ck_wp ck_P xl xs d y Q es L (.inl (Int8.ofInt n).toInt32 :: st) M := rfl
theorem wp_sipush {n : Int} : ck_wp ck_P xl xs d y Q ((pc, .sipush n, len, a, b, c) :: es) L st M = ck_wp ck_P xl xs d y Q es L (.inl (Int16.ofInt n).toInt32 :: st) M := rfl
theorem wp_ldc {n : Nat} : ck_wp ck_P xl xs d y Q ((pc, .ldc n, len, a, b, c) :: es) L st M = ck_wp ck_P xl xs d y Q es L (.inl (Int32.ofNat a) :: st) M := rfl
theorem wp_iload {k : Nat} : ck_wp ck_P xl xs d y Q ((pc, .iload k, len, a, b, c) :: es) L st M = ck_li (ck_lg L a) (fun x => ck_wp ck_P xl xs d y Q es L (.inl x :: st) M) := by simp only [ck_wp, ck_K, ck_li]; rcases ck_lg L a with _ | ⟨x | x⟩ <;> rfl
theorem wp_iload_n {k : Fin 4} : ck_wp ck_P xl xs d y Q ((pc, .iload_n k, len, a, b, c) :: es) L st M = ck_li (ck_lg L a) (fun x => ck_wp ck_P xl xs d y Q es L (.inl x :: st) M) := by simp only [ck_wp, ck_K, ck_li]; rcases ck_lg L a with _ | ⟨x | x⟩ <;> rfl
theorem wp_aload {k : Nat} : ck_wp ck_P xl xs d y Q ((pc, .aload k, len, a, b, c) :: es) L st M = ck_la (ck_lg L a) (fun x => ck_wp ck_P xl xs d y Q es L (.inr x :: st) M) := by simp only [ck_wp, ck_K, ck_la]; rcases ck_lg L a with _ | ⟨x | x⟩ <;> rfl
theorem wp_aload_n {k : Fin 4} : ck_wp ck_P xl xs d y Q ((pc, .aload_n k, len, a, b, c) :: es) L st M = ck_la (ck_lg L a) (fun x => ck_wp ck_P xl xs d y Q es L (.inr x :: st) M) := by simp only [ck_wp, ck_K, ck_la]; rcases ck_lg L a with _ | ⟨x | x⟩ <;> rfl
theorem wp_istore {k : Nat} {x : Int32} : ck_wp ck_P xl xs d y Q ((pc, .istore k, len, a, b, c) :: es) L (.inl x :: st) M = ck_wp ck_P xl xs d y Q es (ck_ls L a (.inl x)) st M := rfl
theorem wp_istore_n {k : Fin 4} {x : Int32} : ck_wp ck_P xl xs d y Q ((pc, .istore_n k, len, a, b, c) :: es) L (.inl x :: st) M = ck_wp ck_P xl xs d y Q es (ck_ls L a (.inl x)) st M := rfl
theorem wp_astore {k : Nat} {x : Nat} : ck_wp ck_P xl xs d y Q ((pc, .astore k, len, a, b, c) :: es) L (.inr x :: st) M = ck_wp ck_P xl xs d y Q es (ck_ls L a (.inr x)) st M := rfl
theorem wp_astore_n {k : Fin 4} {x : Nat} : ck_wp ck_P xl xs d y Q ((pc, .astore_n k, len, a, b, c) :: es) L (.inr x :: st) M = ck_wp ck_P xl xs d y Q es (ck_ls L a (.inr x)) st M := rfl
theorem wp_iinc {k : Nat} {n : Int} : ck_wp ck_P xl xs d y Q ((pc, .iinc k n, len, a, b, c) :: es) L st M = ck_li (ck_lg L a) (fun x => ck_wp ck_P xl xs d y Q es (ck_ls L a (.inl (x + Int32.ofInt n))) st M) := by simp only [ck_wp, ck_K, ck_li]; rcases ck_lg L a with _ | ⟨x | x⟩ <;> rfl
theorem wp_iadd {x z : Int32} : ck_wp ck_P xl xs d y Q ((pc, .iadd, len, a, b, c) :: es) L (.inl z :: .inl x :: st) M = ck_wp ck_P xl xs d y Q es L (.inl (x + z) :: st) M := rfl
theorem wp_isub {x z : Int32} : ck_wp ck_P xl xs d y Q ((pc, .isub, len, a, b, c) :: es) L (.inl z :: .inl x :: st) M = ck_wp ck_P xl xs d y Q es L (.inl (x - z) :: st) M := rfl
theorem wp_imul {x z : Int32} : ck_wp ck_P xl xs d y Q ((pc, .imul, len, a, b, c) :: es) L (.inl z :: .inl x :: st) M = ck_wp ck_P xl xs d y Q es L (.inl (x * z) :: st) M := rfl
theorem wp_iand {x z : Int32} : ck_wp ck_P xl xs d y Q ((pc, .iand, len, a, b, c) :: es) L (.inl z :: .inl x :: st) M = ck_wp ck_P xl xs d y Q es L (.inl (x &&& z) :: st) M := rfl
theorem wp_irem {x z : Int32} : ck_wp ck_P xl xs d y Q ((pc, .irem, len, a, b, c) :: es) L (.inl z :: .inl x :: st) M = (¬ z = 0 ∧ ck_wp ck_P xl xs d y Q es L (.inl (x - x / z * z) :: st) M) := rfl
theorem wp_dup {v : ck_V} : ck_wp ck_P xl xs d y Q ((pc, .dup, len, a, b, c) :: es) L (v :: st) M = ck_wp ck_P xl xs d y Q es L (v :: v :: st) M := rfl
theorem wp_pop {v : ck_V} : ck_wp ck_P xl xs d y Q ((pc, .pop, len, a, b, c) :: es) L (v :: st) M = ck_wp ck_P xl xs d y Q es L st M := rfl
theorem wp_goto {o : Int} : ck_wp ck_P xl xs d y Q ((pc, .goto o, len, a, b, c) :: es) L st M = ck_Ev ck_P xl xs d y a L st M Q := rfl
theorem wp_if {q : Jvm.ClassFile.Cond} {o : Int} {x : Int32} : ck_wp ck_P xl xs d y Q ((pc, .ifCond q o, len, a, b, c) :: es) L (.inl x :: st) M = ((ck_cc q x (nI 0) → ck_Ev ck_P xl xs d y a L st M Q) ∧ (¬ ck_cc q x (nI 0) → ck_wp ck_P xl xs d y Q es L st M)) := by rw [nI_0]; rfl
theorem wp_icmp {q : Jvm.ClassFile.Cond} {o : Int} {x z : Int32} : ck_wp ck_P xl xs d y Q ((pc, .if_icmp q o, len, a, b, c) :: es) L (.inl z :: .inl x :: st) M = ((ck_cc q x z → ck_Ev ck_P xl xs d y a L st M Q) ∧ (¬ ck_cc q x z → ck_wp ck_P xl xs d y Q es L st M)) := rfl
theorem wp_ifnull {o : Int} {x : Nat} : ck_wp ck_P xl xs d y Q ((pc, .ifnull o, len, a, b, c) :: es) L (.inr x :: st) M = ((x = 0 → ck_Ev ck_P xl xs d y a L st M Q) ∧ (¬ x = 0 → ck_wp ck_P xl xs d y Q es L st M)) := rfl
theorem wp_tsw {df lo hi : Int} {offs : Array Int} {x : Int32} : ck_wp ck_P xl xs d y Q ((pc, .tableswitch df lo hi offs, len, a, b, c) :: es) L (.inl x :: st) M = ck_sw ck_pbr (fun t => ck_Ev ck_P xl xs d y t L st M Q) pc x df lo offs.toList := rfl
theorem wp_get0 {k : Nat} {r : Nat} : ck_wp ck_P xl xs d y Q ((pc, .getfield k, len, a, b, 0) :: es) L (.inr r :: st) M = (ck_kd M r = a ∧ ck_wp ck_P xl xs d y Q es L (.inl (ck_iv M r b) :: st) M) := rfl
theorem wp_get2 {k : Nat} {r : Nat} : ck_wp ck_P xl xs d y Q ((pc, .getfield k, len, a, b, 2) :: es) L (.inr r :: st) M = (ck_kd M r = a ∧ ck_wp ck_P xl xs d y Q es L (.inl (ck_iv M r b) :: st) M) := rfl
theorem wp_get1 {k : Nat} {r : Nat} : ck_wp ck_P xl xs d y Q ((pc, .getfield k, len, a, b, 1) :: es) L (.inr r :: st) M = (ck_kd M r = a ∧ ck_wp ck_P xl xs d y Q es L (.inr (ck_rv M r b) :: st) M) := rfl
theorem wp_put0 {k : Nat} {r : Nat} {x : Int32} : ck_wp ck_P xl xs d y Q ((pc, .putfield k, len, a, b, 0) :: es) L (.inl x :: .inr r :: st) M = (ck_kd M r = a ∧ ck_wp ck_P xl xs d y Q es L st (ck_wi M r b x)) := rfl
theorem wp_put2 {k : Nat} {r : Nat} {x : Int32} : ck_wp ck_P xl xs d y Q ((pc, .putfield k, len, a, b, 2) :: es) L (.inl x :: .inr r :: st) M = (ck_kd M r = a ∧ (x = 0 ∨ x = 1) ∧ ck_wp ck_P xl xs d y Q es L st (ck_wi M r b x)) := rfl
theorem wp_put1 {k : Nat} {r z : Nat} : ck_wp ck_P xl xs d y Q ((pc, .putfield k, len, a, b, 1) :: es) L (.inr z :: .inr r :: st) M = (ck_kd M r = a ∧ ck_wp ck_P xl xs d y Q es L st (ck_wr M r b z)) := rfl
theorem wp_iald {x : Int32} {r : Nat} : ck_wp ck_P xl xs d y Q ((pc, .iaload, len, 0, b, c) :: es) L (.inl x :: .inr r :: st) M = (ck_kd M r = 3 ∧ ck_in x (ck_ln M r) ∧ ck_wp ck_P xl xs d y Q es L (.inl (ck_iv M r x.toNatClampNeg) :: st) M) := rfl
theorem wp_sald {x : Int32} {r : Nat} : ck_wp ck_P xl xs d y Q ((pc, .iaload, len, 1, b, c) :: es) L (.inl x :: .inr r :: st) M = ((r = 1 ∧ ck_in x xl) ∧ ck_wp ck_P xl xs d y Q es L (.inl (xs x.toNatClampNeg) :: st) M) := rfl
theorem wp_iast {x v : Int32} {r : Nat} : ck_wp ck_P xl xs d y Q ((pc, .iastore, len, a, b, c) :: es) L (.inl v :: .inl x :: .inr r :: st) M = (ck_kd M r = 3 ∧ ck_in x (ck_ln M r) ∧ ck_wp ck_P xl xs d y Q es L st (ck_wi M r x.toNatClampNeg v)) := rfl
theorem wp_bald {x : Int32} {r : Nat} : ck_wp ck_P xl xs d y Q ((pc, .baload, len, a, b, c) :: es) L (.inl x :: .inr r :: st) M = (ck_kd M r = 5 ∧ ck_in x (ck_ln M r) ∧ ck_wp ck_P xl xs d y Q es L (.inl (ck_iv M r x.toNatClampNeg) :: st) M) := rfl
theorem wp_bast {x v : Int32} {r : Nat} : ck_wp ck_P xl xs d y Q ((pc, .bastore, len, a, b, c) :: es) L (.inl v :: .inl x :: .inr r :: st) M = (ck_kd M r = 5 ∧ ck_in x (ck_ln M r) ∧ (v = 0 ∨ v = 1) ∧ ck_wp ck_P xl xs d y Q es L st (ck_wi M r x.toNatClampNeg v)) := rfl
theorem wp_aald {x : Int32} {r : Nat} : ck_wp ck_P xl xs d y Q ((pc, .aaload, len, a, b, c) :: es) L (.inl x :: .inr r :: st) M = (ck_kd M r = a ∧ ck_in x (ck_ln M r) ∧ ck_wp ck_P xl xs d y Q es L (.inr (ck_rv M r x.toNatClampNeg) :: st) M) := rfl
theorem wp_aast {x : Int32} {r v : Nat} : ck_wp ck_P xl xs d y Q ((pc, .aastore, len, a, b, c) :: es) L (.inr v :: .inl x :: .inr r :: st) M = (ck_kd M r = a ∧ ck_in x (ck_ln M r) ∧ ck_kd M v = b ∧ ck_wp ck_P xl xs d y Q es L st (ck_wr M r x.toNatClampNeg v)) := rfl
theorem wp_alen {r : Nat} (ha : ¬ a = 1) : ck_wp ck_P xl xs d y Q ((pc, .arraylength, len, a, b, c) :: es) L (.inr r :: st) M = (ck_kd M r = a ∧ ck_wp ck_P xl xs d y Q es L (.inl (nI (ck_ln M r)) :: st) M) := by simp only [ck_wp, ck_K, ck_bne ha]; rfl
theorem wp_slen {r : Nat} : ck_wp ck_P xl xs d y Q ((pc, .arraylength, len, 1, b, c) :: es) L (.inr r :: st) M = (r = 1 ∧ ck_wp ck_P xl xs d y Q es L (.inl (nI xl) :: st) M) := rfl
theorem wp_new {k : Nat} : ck_wp ck_P xl xs d y Q ((pc, .new k, len, a, b, c) :: es) L st M = ck_wp ck_P xl xs d y Q es L (.inr (ck_sz M + 2) :: st) (ck_al M a b) := rfl
theorem wp_newa {t : ArrayType} {n : Int32} : ck_wp ck_P xl xs d y Q ((pc, .newarray t, len, a, b, c) :: es) L (.inl n :: st) M = ((¬ n < 0 ∧ n.toNatClampNeg ≤ 65536) ∧ ck_wp ck_P xl xs d y Q es L (.inr (ck_sz M + 2) :: st) (ck_al M a n.toNatClampNeg)) := rfl
theorem wp_newq {k : Nat} {n : Int32} : ck_wp ck_P xl xs d y Q ((pc, .anewarray k, len, a, b, c) :: es) L (.inl n :: st) M = ((¬ n < 0 ∧ n.toNatClampNeg ≤ 65536) ∧ ck_wp ck_P xl xs d y Q es L (.inr (ck_sz M + 2) :: st) (ck_al M a n.toNatClampNeg)) := rfl
theorem wp_cast {k r : Nat} : ck_wp ck_P xl xs d y Q ((pc, .checkcast k, len, a, b, c) :: es) L (.inr r :: st) M = (ck_kd M r = a ∧ ck_wp ck_P xl xs d y Q es L (.inr r :: st) M) := rfl
theorem wp_oinit {k r : Nat} (h8 : st.length ≤ 8) : ck_wp ck_P xl xs d y Q ((pc, .invokespecial k, len, 0, b, c) :: es) L (.inr r :: st) M = ((¬ r = 0 ∧ 1 ≤ d) ∧ ck_wp ck_P xl xs d y Q es L st M) := by simp only [ck_wp, ck_K, ck_ble h8]; rfl
theorem wp_clone {k r : Nat} (h8 : st.length ≤ 8) : ck_wp ck_P xl xs d y Q ((pc, .invokevirtual k, len, 0, b, c) :: es) L (.inr r :: st) M = ((ck_kd M r = 3 ∧ 1 ≤ d) ∧ ck_wp ck_P xl xs d y Q es L (.inr (ck_sz M + 2) :: st) (ck_cn M r)) := by simp only [ck_wp, ck_K, ck_ble h8]; rfl
theorem wp_copy {k r q : Nat} {n dp sp : Int32} (h8 : st.length ≤ 8) : ck_wp ck_P xl xs d y Q ((pc, .invokestatic k, len, 0, b, c) :: es) L (.inl n :: .inl dp :: .inr q :: .inl sp :: .inr r :: st) M = ((ck_kd M r = 3 ∧ ck_kd M q = 3 ∧ 1 ≤ d) ∧ (¬ sp < 0 ∧ ¬ dp < 0 ∧ ¬ n < 0 ∧ sp.toNatClampNeg + n.toNatClampNeg ≤ ck_ln M r ∧ dp.toNatClampNeg + n.toNatClampNeg ≤ ck_ln M q) ∧ ck_wp ck_P xl xs d y Q es L st (ck_cp M r sp.toNatClampNeg q dp.toNatClampNeg n.toNatClampNeg)) := by simp only [ck_wp, ck_K, ck_ble h8]; rfl
theorem wp_callI0 {k r : Nat} (ha : ¬ a = 0) (h8 : st.length ≤ 8) : ck_wp ck_P xl xs d y Q ((pc, .invokespecial k, len, a, b, 0) :: es) L (.inr r :: st) M = (ck_kd M r = a ∧ ck_Cl ck_P xl xs d b [.inr r] M (fun v M1 => ck_wp ck_P xl xs d y Q es L (v.toList ++ st) M1)) := by simp only [ck_wp, ck_K, ck_pop, ck_bne ha, ck_ble h8]; rfl
theorem wp_callI1 {k r : Nat} {v1 : ck_V} (ha : ¬ a = 0) (h8 : st.length ≤ 8) : ck_wp ck_P xl xs d y Q ((pc, .invokespecial k, len, a, b, 1) :: es) L (v1 :: .inr r :: st) M = (ck_kd M r = a ∧ ck_Cl ck_P xl xs d b [.inr r, v1] M (fun v M1 => ck_wp ck_P xl xs d y Q es L (v.toList ++ st) M1)) := by simp only [ck_wp, ck_K, ck_pop, ck_bne ha, ck_ble h8]; rfl
theorem wp_callI2 {k r : Nat} {v1 v2 : ck_V} (ha : ¬ a = 0) (h8 : st.length ≤ 8) : ck_wp ck_P xl xs d y Q ((pc, .invokespecial k, len, a, b, 2) :: es) L (v2 :: v1 :: .inr r :: st) M = (ck_kd M r = a ∧ ck_Cl ck_P xl xs d b [.inr r, v1, v2] M (fun v M1 => ck_wp ck_P xl xs d y Q es L (v.toList ++ st) M1)) := by simp only [ck_wp, ck_K, ck_pop, ck_bne ha, ck_ble h8]; rfl
theorem wp_callI3 {k r : Nat} {v1 v2 v3 : ck_V} (ha : ¬ a = 0) (h8 : st.length ≤ 8) : ck_wp ck_P xl xs d y Q ((pc, .invokespecial k, len, a, b, 3) :: es) L (v3 :: v2 :: v1 :: .inr r :: st) M = (ck_kd M r = a ∧ ck_Cl ck_P xl xs d b [.inr r, v1, v2, v3] M (fun v M1 => ck_wp ck_P xl xs d y Q es L (v.toList ++ st) M1)) := by simp only [ck_wp, ck_K, ck_pop, ck_bne ha, ck_ble h8]; rfl
theorem wp_callI4 {k r : Nat} {v1 v2 v3 v4 : ck_V} (ha : ¬ a = 0) (h8 : st.length ≤ 8) : ck_wp ck_P xl xs d y Q ((pc, .invokespecial k, len, a, b, 4) :: es) L (v4 :: v3 :: v2 :: v1 :: .inr r :: st) M = (ck_kd M r = a ∧ ck_Cl ck_P xl xs d b [.inr r, v1, v2, v3, v4] M (fun v M1 => ck_wp ck_P xl xs d y Q es L (v.toList ++ st) M1)) := by simp only [ck_wp, ck_K, ck_pop, ck_bne ha, ck_ble h8]; rfl
theorem wp_callI5 {k r : Nat} {v1 v2 v3 v4 v5 : ck_V} (ha : ¬ a = 0) (h8 : st.length ≤ 8) : ck_wp ck_P xl xs d y Q ((pc, .invokespecial k, len, a, b, 5) :: es) L (v5 :: v4 :: v3 :: v2 :: v1 :: .inr r :: st) M = (ck_kd M r = a ∧ ck_Cl ck_P xl xs d b [.inr r, v1, v2, v3, v4, v5] M (fun v M1 => ck_wp ck_P xl xs d y Q es L (v.toList ++ st) M1)) := by simp only [ck_wp, ck_K, ck_pop, ck_bne ha, ck_ble h8]; rfl
theorem wp_callV0 {k r : Nat} (ha : ¬ a = 0) (h8 : st.length ≤ 8) : ck_wp ck_P xl xs d y Q ((pc, .invokevirtual k, len, a, b, 0) :: es) L (.inr r :: st) M = (ck_kd M r = a ∧ ck_Cl ck_P xl xs d b [.inr r] M (fun v M1 => ck_wp ck_P xl xs d y Q es L (v.toList ++ st) M1)) := by simp only [ck_wp, ck_K, ck_pop, ck_bne ha, ck_ble h8]; rfl
theorem wp_callV1 {k r : Nat} {v1 : ck_V} (ha : ¬ a = 0) (h8 : st.length ≤ 8) : ck_wp ck_P xl xs d y Q ((pc, .invokevirtual k, len, a, b, 1) :: es) L (v1 :: .inr r :: st) M = (ck_kd M r = a ∧ ck_Cl ck_P xl xs d b [.inr r, v1] M (fun v M1 => ck_wp ck_P xl xs d y Q es L (v.toList ++ st) M1)) := by simp only [ck_wp, ck_K, ck_pop, ck_bne ha, ck_ble h8]; rfl
theorem wp_callV2 {k r : Nat} {v1 v2 : ck_V} (ha : ¬ a = 0) (h8 : st.length ≤ 8) : ck_wp ck_P xl xs d y Q ((pc, .invokevirtual k, len, a, b, 2) :: es) L (v2 :: v1 :: .inr r :: st) M = (ck_kd M r = a ∧ ck_Cl ck_P xl xs d b [.inr r, v1, v2] M (fun v M1 => ck_wp ck_P xl xs d y Q es L (v.toList ++ st) M1)) := by simp only [ck_wp, ck_K, ck_pop, ck_bne ha, ck_ble h8]; rfl
theorem wp_callV3 {k r : Nat} {v1 v2 v3 : ck_V} (ha : ¬ a = 0) (h8 : st.length ≤ 8) : ck_wp ck_P xl xs d y Q ((pc, .invokevirtual k, len, a, b, 3) :: es) L (v3 :: v2 :: v1 :: .inr r :: st) M = (ck_kd M r = a ∧ ck_Cl ck_P xl xs d b [.inr r, v1, v2, v3] M (fun v M1 => ck_wp ck_P xl xs d y Q es L (v.toList ++ st) M1)) := by simp only [ck_wp, ck_K, ck_pop, ck_bne ha, ck_ble h8]; rfl
theorem wp_callV4 {k r : Nat} {v1 v2 v3 v4 : ck_V} (ha : ¬ a = 0) (h8 : st.length ≤ 8) : ck_wp ck_P xl xs d y Q ((pc, .invokevirtual k, len, a, b, 4) :: es) L (v4 :: v3 :: v2 :: v1 :: .inr r :: st) M = (ck_kd M r = a ∧ ck_Cl ck_P xl xs d b [.inr r, v1, v2, v3, v4] M (fun v M1 => ck_wp ck_P xl xs d y Q es L (v.toList ++ st) M1)) := by simp only [ck_wp, ck_K, ck_pop, ck_bne ha, ck_ble h8]; rfl
theorem wp_callV5 {k r : Nat} {v1 v2 v3 v4 v5 : ck_V} (ha : ¬ a = 0) (h8 : st.length ≤ 8) : ck_wp ck_P xl xs d y Q ((pc, .invokevirtual k, len, a, b, 5) :: es) L (v5 :: v4 :: v3 :: v2 :: v1 :: .inr r :: st) M = (ck_kd M r = a ∧ ck_Cl ck_P xl xs d b [.inr r, v1, v2, v3, v4, v5] M (fun v M1 => ck_wp ck_P xl xs d y Q es L (v.toList ++ st) M1)) := by simp only [ck_wp, ck_K, ck_pop, ck_bne ha, ck_ble h8]; rfl
theorem wp_callS0 {k : Nat} (h8 : st.length ≤ 8) : ck_wp ck_P xl xs d y Q ((pc, .invokestatic k, len, 1, b, 0) :: es) L (st) M = ck_Cl ck_P xl xs d b [] M (fun v M1 => ck_wp ck_P xl xs d y Q es L (v.toList ++ st) M1) := by simp only [ck_wp, ck_K, ck_pop, ck_ble h8]; rfl
theorem wp_callS1 {k : Nat} {v1 : ck_V} (h8 : st.length ≤ 8) : ck_wp ck_P xl xs d y Q ((pc, .invokestatic k, len, 1, b, 1) :: es) L (v1 :: st) M = ck_Cl ck_P xl xs d b [v1] M (fun v M1 => ck_wp ck_P xl xs d y Q es L (v.toList ++ st) M1) := by simp only [ck_wp, ck_K, ck_pop, ck_ble h8]; rfl
theorem wp_callS2 {k : Nat} {v1 v2 : ck_V} (h8 : st.length ≤ 8) : ck_wp ck_P xl xs d y Q ((pc, .invokestatic k, len, 1, b, 2) :: es) L (v2 :: v1 :: st) M = ck_Cl ck_P xl xs d b [v1, v2] M (fun v M1 => ck_wp ck_P xl xs d y Q es L (v.toList ++ st) M1) := by simp only [ck_wp, ck_K, ck_pop, ck_ble h8]; rfl
theorem wp_callS3 {k : Nat} {v1 v2 v3 : ck_V} (h8 : st.length ≤ 8) : ck_wp ck_P xl xs d y Q ((pc, .invokestatic k, len, 1, b, 3) :: es) L (v3 :: v2 :: v1 :: st) M = ck_Cl ck_P xl xs d b [v1, v2, v3] M (fun v M1 => ck_wp ck_P xl xs d y Q es L (v.toList ++ st) M1) := by simp only [ck_wp, ck_K, ck_pop, ck_ble h8]; rfl
theorem wp_callS4 {k : Nat} {v1 v2 v3 v4 : ck_V} (h8 : st.length ≤ 8) : ck_wp ck_P xl xs d y Q ((pc, .invokestatic k, len, 1, b, 4) :: es) L (v4 :: v3 :: v2 :: v1 :: st) M = ck_Cl ck_P xl xs d b [v1, v2, v3, v4] M (fun v M1 => ck_wp ck_P xl xs d y Q es L (v.toList ++ st) M1) := by simp only [ck_wp, ck_K, ck_pop, ck_ble h8]; rfl
theorem wp_iret0 {x : Int32} : ck_wp ck_P xl xs d y Q ((pc, .ireturn, len, 0, b, c) :: es) L [.inl x] M = Q (some (.inl x)) M := rfl
theorem wp_iret1 {x : Int32} : ck_wp ck_P xl xs d y Q ((pc, .ireturn, len, 1, b, c) :: es) L [.inl x] M = ((x = 0 ∨ x = 1) ∧ Q (some (.inl x)) M) := rfl
theorem wp_aret {r : Nat} : ck_wp ck_P xl xs d y Q ((pc, .areturn, len, a, b, c) :: es) L [.inr r] M = Q (some (.inr r)) M := rfl
theorem wp_ret : ck_wp ck_P xl xs d y Q ((pc, .return_, len, a, b, c) :: es) L [] M = Q none M := rfl
end CKP
theorem lg_0 {o : Option ck_V} {t : ck_L} : ck_lg (o :: t) 0 = o := rfl
theorem lg_1 {a o : Option ck_V} {t : ck_L} : ck_lg (a :: o :: t) 1 = o := rfl
theorem lg_2 {a b o : Option ck_V} {t : ck_L} : ck_lg (a :: b :: o :: t) 2 = o := rfl
theorem lg_3 {a b c o : Option ck_V} {t : ck_L} : ck_lg (a :: b :: c :: o :: t) 3 = o := rfl
theorem lg_4 {a b c d o : Option ck_V} {t : ck_L} : ck_lg (a :: b :: c :: d :: o :: t) 4 = o := rfl
theorem lg_5 {a b c d e o : Option ck_V} {t : ck_L} : ck_lg (a :: b :: c :: d :: e :: o :: t) 5 = o := rfl
theorem lg_6 {a b c d e f o : Option ck_V} {t : ck_L} : ck_lg (a :: b :: c :: d :: e :: f :: o :: t) 6 = o := rfl
theorem lg_7 {a b c d e f g o : Option ck_V} {t : ck_L} : ck_lg (a :: b :: c :: d :: e :: f :: g :: o :: t) 7 = o := rfl
theorem ls_0 {o : Option ck_V} {t : ck_L} {v : ck_V} : ck_ls (o :: t) 0 v = some v :: t := rfl
theorem ls_1 {a o : Option ck_V} {t : ck_L} {v : ck_V} : ck_ls (a :: o :: t) 1 v = a :: some v :: t := rfl
theorem ls_2 {a b o : Option ck_V} {t : ck_L} {v : ck_V} : ck_ls (a :: b :: o :: t) 2 v = a :: b :: some v :: t := rfl
theorem ls_3 {a b c o : Option ck_V} {t : ck_L} {v : ck_V} : ck_ls (a :: b :: c :: o :: t) 3 v = a :: b :: c :: some v :: t := rfl
theorem ls_4 {a b c d o : Option ck_V} {t : ck_L} {v : ck_V} : ck_ls (a :: b :: c :: d :: o :: t) 4 v = a :: b :: c :: d :: some v :: t := rfl
theorem ls_5 {a b c d e o : Option ck_V} {t : ck_L} {v : ck_V} : ck_ls (a :: b :: c :: d :: e :: o :: t) 5 v = a :: b :: c :: d :: e :: some v :: t := rfl
theorem ls_6 {a b c d e f o : Option ck_V} {t : ck_L} {v : ck_V} : ck_ls (a :: b :: c :: d :: e :: f :: o :: t) 6 v = a :: b :: c :: d :: e :: f :: some v :: t := rfl
theorem ls_7 {a b c d e f g o : Option ck_V} {t : ck_L} {v : ck_V} : ck_ls (a :: b :: c :: d :: e :: f :: g :: o :: t) 7 v = a :: b :: c :: d :: e :: f :: g :: some v :: t := rfl
theorem pop_0 {acc st : List ck_V} : ck_pop 0 acc st = some (acc, st) := rfl
theorem pop_s {n : Nat} {acc st : List ck_V} {v : ck_V} : ck_pop (n + 1) acc (v :: st) = ck_pop n (v :: acc) st := rfl
/-- one end: then any end -/
theorem ck_x_det {P : Nat → Nat × List ck_E} {xl : Nat} {xs : Nat → Int32} {n k d y pc : Nat} {L : ck_L} {st : List ck_V} {M : ck_M} {r r' : Option ck_V × ck_M} (h : ck_x P xl xs n d y pc L st M = some r) (h' : ck_x P xl xs k d y pc L st M = some r') : r = r' := by
  have h1 := ck_x_le (Nat.le_max_left n k) h
  have h2 := ck_x_le (Nat.le_max_right n k) h'
  rw [h1] at h2
  exact Option.some.inj h2
theorem ck_det {P : Nat → Nat × List ck_E} {xl : Nat} {xs : Nat → Int32} {d y pc : Nat} {L : ck_L} {st : List ck_V} {M M1 : ck_M} {v : Option ck_V} (h : ck_Ev P xl xs d y pc L st M (fun w M2 => w = v ∧ M2 = M1)) (Q : Option ck_V → ck_M → Prop) : ck_Ev P xl xs d y pc L st M Q = Q v M1 := by
  obtain ⟨n, r, h1, h2, h3⟩ := h
  apply propext
  constructor
  · rintro ⟨k, r', h4, h5⟩
    have := ck_x_det h1 h4
    subst this
    rw [h2, h3] at h5
    exact h5
  · intro hq
    exact ⟨n, r, h1, by rw [h2, h3]; exact hq⟩
