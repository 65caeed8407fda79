/-! THE READER: instructions with their links and targets resolved, a step as a predicate transformer, some steps at once -/
/-- a class's table: its name; its field links (index, class, place, final); its call links (index, method's number); its constants -/
abbrev mm_T : Type := String × List (Nat × Nat × Nat × Bool) × List (Nat × Nat) × List (Nat × Int32) × List (Nat × Int64)
def mm_ff (tb : mm_T) (j : Nat) : Option (Nat × Nat × Bool) := (tb.2.1.find? (fun q => q.1 == j)).map (fun q => q.2)
def mm_fc (tb : mm_T) (j : Nat) : Option Nat := (tb.2.2.1.find? (fun q => q.1 == j)).map (fun q => q.2)
def mm_fk (tb : mm_T) (j : Nat) : Option Int32 := (tb.2.2.2.1.find? (fun q => q.1 == j)).map (fun q => q.2)
def mm_fk2 (tb : mm_T) (j : Nat) : Option Int64 := (tb.2.2.2.2.find? (fun q => q.1 == j)).map (fun q => q.2)
/-- static arrays by class and place in the pool; texts; arraycopy -/
def mm_gsl : List (String × Nat × Nat) := [("BeatenAfternoon$EstateReader", 84, 0), ("BeatenAfternoon$EstateReader", 48, 1), ("BeatenAfternoon$EstateReader", 99, 2), ("BeatenAfternoon$EstateReader", 102, 3), ("BeatenAfternoon$EstateReader", 122, 4), ("BeatenAfternoon$EstateReader", 125, 5)]
def mm_acl : List (String × Nat) := [("BeatenAfternoon$Estate", 34), ("BeatenAfternoon$EstateReader", 134), ("BeatenAfternoon$Past", 51), ("BeatenAfternoon$Season", 40), ("java/util/Arrays", 150)]
def mm_fs (tb : mm_T) (j : Nat) : Option (String × Nat × Nat) := mm_gsl.find? (fun q => q.1 == tb.1 && q.2.1 == j)
def mm_fr (tb : mm_T) (j : Nat) : Option (String × Nat × String × Nat) := mm_xr.find? (fun q => q.1 == tb.1 && q.2.1 == j)
def mm_fa (tb : mm_T) (j : Nat) : Option (String × Nat) := mm_acl.find? (fun q => q.1 == tb.1 && q.2 == j)
def mm_res (tb : mm_T) (nL : Nat) (ret : Option FieldType) (pc : Nat) (i : Instr) (len : Nat) : Option (Instr × Nat) := match i, len with
  | .iconst j, 1 => some (.iconst j, pc + 1)
  | .bipush j, 2 => if (Int8.ofInt j).toInt32 = Int32.ofInt j then some (.iconst j, pc + 2) else none
  | .sipush j, 3 => if (Int16.ofInt j).toInt32 = Int32.ofInt j then some (.iconst j, pc + 3) else none
  | .ldc j, 2 => match mm_fk tb j with
    | some v => some (.iconst v.toInt, pc + 2)
    | none => match mm_fr tb j with
      | some q => some (.getstatic q.2.2.2, pc + 2)
      | none => none
  | .ldc_w j, 3 => (mm_fk tb j).map (fun v => (.iconst v.toInt, pc + 3))
  | .ldc2_w j, 3 => (mm_fk2 tb j).map (fun v => (.sipush v.toInt, pc + 3))
  | .lconst j, 1 => some (.sipush (j : Nat), pc + 1)
  | .aconst_null, 1 => some (.aconst_null, pc + 1)
  | .iload_n j, 1 => some (.iload j, pc + 1)
  | .iload j, 2 => some (.iload j, pc + 2)
  | .lload_n j, 1 => some (.lload j, pc + 1)
  | .lload j, 2 => some (.lload j, pc + 2)
  | .aload_n j, 1 => some (.aload j, pc + 1)
  | .aload j, 2 => some (.aload j, pc + 2)
  | .istore_n j, 1 => if (j : Nat) < nL then some (.istore j, pc + 1) else none
  | .istore j, 2 => if j < nL then some (.istore j, pc + 2) else none
  | .lstore_n j, 1 => if (j : Nat) + 1 < nL then some (.lstore j, pc + 1) else none
  | .lstore j, 2 => if j + 1 < nL then some (.lstore j, pc + 2) else none
  | .astore_n j, 1 => if (j : Nat) < nL then some (.astore j, pc + 1) else none
  | .astore j, 2 => if j < nL then some (.astore j, pc + 2) else none
  | .iinc j z, 3 => some (.iinc j z, pc + 3)
  | .iadd, 1 => some (.iadd, pc + 1)
  | .isub, 1 => some (.isub, pc + 1)
  | .imul, 1 => some (.imul, pc + 1)
  | .iand, 1 => some (.iand, pc + 1)
  | .ior, 1 => some (.ior, pc + 1)
  | .ixor, 1 => some (.ixor, pc + 1)
  | .ishl, 1 => some (.ishl, pc + 1)
  | .ishr, 1 => some (.ishr, pc + 1)
  | .iushr, 1 => some (.iushr, pc + 1)
  | .idiv, 1 => some (.idiv, pc + 1)
  | .irem, 1 => some (.irem, pc + 1)
  | .ineg, 1 => some (.ineg, pc + 1)
  | .ladd, 1 => some (.ladd, pc + 1)
  | .lsub, 1 => some (.lsub, pc + 1)
  | .lmul, 1 => some (.lmul, pc + 1)
  | .land, 1 => some (.land, pc + 1)
  | .lor, 1 => some (.lor, pc + 1)
  | .ldiv, 1 => some (.ldiv, pc + 1)
  | .lrem, 1 => some (.lrem, pc + 1)
  | .lcmp, 1 => some (.lcmp, pc + 1)
  | .lushr, 1 => some (.lushr, pc + 1)
  | .lshl, 1 => some (.lshl, pc + 1)
  | .i2l, 1 => some (.i2l, pc + 1)
  | .l2i, 1 => some (.l2i, pc + 1)
  | .i2c, 1 => some (.i2c, pc + 1)
  | .i2b, 1 => some (.i2b, pc + 1)
  | .dup, 1 => some (.dup, pc + 1)
  | .pop, 1 => some (.pop, pc + 1)
  | .dup2, 1 => some (.dup2, pc + 1)
  | .ifCond c off, 3 => if 0 ≤ (pc : Int) + off then some (.ifCond c ((pc : Int) + off), pc + 3) else none
  | .if_icmp c off, 3 => if 0 ≤ (pc : Int) + off then some (.if_icmp c ((pc : Int) + off), pc + 3) else none
  | .goto off, 3 => if 0 ≤ (pc : Int) + off then some (.goto ((pc : Int) + off), pc + 3) else none
  | .ifnonnull off, 3 => if 0 ≤ (pc : Int) + off then some (.ifnonnull ((pc : Int) + off), pc + 3) else none
  | .getfield j, 3 => match mm_ff tb j with
    | some q => some (.getfield (100 * q.1 + q.2.1), pc + 3)
    | none => if tb.1 = "java/lang/String" ∧ j = 9 then some (.instanceof 0, pc + 3) else if tb.1 = "java/lang/String" ∧ j = 15 then some (.checkcast 0, pc + 3) else none
  | .getstatic j, 3 => match mm_fs tb j with
    | some q => some (.getstatic (1000 + q.2.2), pc + 3)
    | none => if tb.1 = "java/lang/String" ∧ j = 38 then some (.iconst 1, pc + 3) else none
  | .putfield j, 3 => match mm_ff tb j with
    | some (ci, k, false) => some (.putfield (100 * ci + k), pc + 3)
    | _ => none
  | .arraylength, 1 => some (.arraylength, pc + 1)
  | .iaload, 1 => some (.iaload, pc + 1)
  | .caload, 1 => some (.caload, pc + 1)
  | .baload, 1 => some (.baload, pc + 1)
  | .iastore, 1 => some (.iastore, pc + 1)
  | .castore, 1 => some (.castore, pc + 1)
  | .bastore, 1 => some (.bastore, pc + 1)
  | .aaload, 1 => some (.aaload, pc + 1)
  | .ireturn, 1 => match ret with
    | some .int => some (.ireturn, 0)
    | some .boolean => some (.ireturn, 1)
    | some .byte => some (.ireturn, 2)
    | _ => none
  | .return_, 1 => if ret = none then some (.return_, 0) else none
  | .lreturn, 1 => if ret = some .long then some (.lreturn, 0) else none
  | .areturn, 1 => match ret with
    | some (.object _) => some (.areturn, 0)
    | _ => none
  | .invokevirtual j, 3 => (mm_fc tb j).map (fun q => (.invokevirtual q, pc + 3))
  | .invokestatic j, 3 => match mm_fc tb j with
    | some q => some (.invokestatic q, pc + 3)
    | none => match mm_fa tb j with
      | some _ => some (.invokespecial 0, pc + 3)
      | none => none
  | .tableswitch dflt lo hi offs, _ => if hi = lo + offs.size - 1 ∧ 0 ≤ (pc : Int) + dflt ∧ (∀ o ∈ offs.toList, 0 ≤ (pc : Int) + o) then some (.tableswitch ((pc : Int) + dflt) lo hi (offs.map (fun o => (pc : Int) + o)), 0) else none
  | .lookupswitch dflt ps, _ => if (ps.toList.zip (ps.toList.drop 1)).all (fun (a, next) => a.1 < next.1) = true ∧ 0 ≤ (pc : Int) + dflt ∧ (∀ o ∈ ps.toList, 0 ≤ (pc : Int) + o.2) then some (.lookupswitch ((pc : Int) + dflt) (ps.map (fun o => (o.1, (pc : Int) + o.2))), 0) else none
  | _, _ => none
def mm_dec (tb : mm_T) (M : mm_M) (pc : Nat) : Option (Instr × Nat) := match decode M.2.1 pc with
  | .ok (i, len) => mm_res tb M.2.2.1 M.2.2.2 pc i len
  | _ => none
def mm_pop : Nat → List Value → List Value → Option (List Value × List Value)
  | 0, acc, st => some (acc, st)
  | _ + 1, _, [] => none
  | k + 1, acc, v :: st => mm_pop k (v :: acc) st
def mm_tsw (K : Nat → Prop) (x : Int32) (dflt : Int) : Int → List Int → Prop
  | _, [] => K dflt.toNat
  | j, o :: os => (x.toInt = j → K o.toNat) ∧ (¬ x.toInt = j → mm_tsw K x dflt (j + 1) os)
def mm_lsw (K : Nat → Prop) (x : Int32) (dflt : Int) : List (Int × Int) → Prop
  | [] => K dflt.toNat
  | (j, o) :: os => (x.toInt = j → K o.toNat) ∧ (¬ x.toInt = j → mm_lsw K x dflt os)
/-- a field that holds whole numbers or references: what may be put there -/
def mm_fit (ci k : Nat) (v : Value) : Prop := match mm_cl[ci]? with
  | some q => match parseFieldDescriptor (q.2.1 k).2.2.1 with
    | some ty => narrow ty v = v ∧ fits ty v = true
    | none => False
  | none => False
abbrev mm_Q0 : Type := Option Value → mm_H → Prop
/-- a step: Bd, a call; B, what follows a call; K, what follows else; Q, the end; tab, the methods by number (the method; 0: on an object, 1: static, 2: max, 3: min, 4: abs; how many arguments; the class of the object) -/
def mm_step (tab : Nat → Option (mm_M × Nat × Nat × Nat)) (Bd : mm_M → List Value → mm_H → mm_Q0 → Prop) (B K : Nat → List Value → List Value → mm_H → Prop) (Q : mm_Q0) (i : Instr) (nx : Nat) (lv st : List Value) (h : mm_H) : Prop := match i with
  | .iconst j => K nx lv (.int (Int32.ofInt j) :: st) h
  | .sipush j => K nx lv (.long (Int64.ofInt j) :: st) h
  | .aconst_null => K nx lv (.null :: st) h
  | .iload j => match lv[j]? with
    | some (.int x) => K nx lv (.int x :: st) h
    | _ => False
  | .lload j => match lv[j]? with
    | some (.long x) => K nx lv (.long x :: st) h
    | _ => False
  | .aload j => match lv[j]? with
    | some (.ref x) => K nx lv (.ref x :: st) h
    | _ => False
  | .istore j => match st with
    | .int x :: st => K nx (mm_set lv j (.int x)) st h
    | _ => False
  | .lstore j => match st with
    | .long x :: st => K nx (mm_set2 lv j (.long x)) st h
    | _ => False
  | .astore j => match st with
    | .ref x :: st => K nx (mm_set lv j (.ref x)) st h
    | _ => False
  | .iinc j z => match lv[j]? with
    | some (.int x) => K nx (mm_set lv j (.int (x + Int32.ofInt z))) st h
    | _ => False
  | .iadd => match st with
    | .int y :: .int x :: st => K nx lv (.int (x + y) :: st) h
    | _ => False
  | .isub => match st with
    | .int y :: .int x :: st => K nx lv (.int (x - y) :: st) h
    | _ => False
  | .imul => match st with
    | .int y :: .int x :: st => K nx lv (.int (x * y) :: st) h
    | _ => False
  | .iand => match st with
    | .int y :: .int x :: st => K nx lv (.int (x &&& y) :: st) h
    | _ => False
  | .ior => match st with
    | .int y :: .int x :: st => K nx lv (.int (x ||| y) :: st) h
    | _ => False
  | .ixor => match st with
    | .int y :: .int x :: st => K nx lv (.int (x ^^^ y) :: st) h
    | _ => False
  | .ishl => match st with
    | .int y :: .int x :: st => K nx lv (.int (x <<< (y &&& 31)) :: st) h
    | _ => False
  | .ishr => match st with
    | .int y :: .int x :: st => K nx lv (.int (x >>> (y &&& 31)) :: st) h
    | _ => False
  | .iushr => match st with
    | .int y :: .int x :: st => K nx lv (.int (x.toUInt32 >>> (y.toUInt32 &&& Int32.toUInt32 31)).toInt32 :: st) h
    | _ => False
  | .idiv => match st with
    | .int y :: .int x :: st => ¬ y = 0 ∧ K nx lv (.int (x / y) :: st) h
    | _ => False
  | .irem => match st with
    | .int y :: .int x :: st => ¬ y = 0 ∧ K nx lv (.int (x - x / y * y) :: st) h
    | _ => False
  | .ineg => match st with
    | .int x :: st => K nx lv (.int (-x) :: st) h
    | _ => False
  | .ladd => match st with
    | .long y :: .long x :: st => K nx lv (.long (x + y) :: st) h
    | _ => False
  | .lsub => match st with
    | .long y :: .long x :: st => K nx lv (.long (x - y) :: st) h
    | _ => False
  | .lmul => match st with
    | .long y :: .long x :: st => K nx lv (.long (x * y) :: st) h
    | _ => False
  | .land => match st with
    | .long y :: .long x :: st => K nx lv (.long (x &&& y) :: st) h
    | _ => False
  | .lor => match st with
    | .long y :: .long x :: st => K nx lv (.long (x ||| y) :: st) h
    | _ => False
  | .ldiv => match st with
    | .long y :: .long x :: st => ¬ y = 0 ∧ K nx lv (.long (x / y) :: st) h
    | _ => False
  | .lrem => match st with
    | .long y :: .long x :: st => ¬ y = 0 ∧ K nx lv (.long (x - x / y * y) :: st) h
    | _ => False
  | .lcmp => match st with
    | .long y :: .long x :: st => K nx lv (.int (lg_cmp x y) :: st) h
    | _ => False
  | .lushr => match st with
    | .int y :: .long x :: st => K nx lv (.long (x.toUInt64 >>> (y.toInt64.toUInt64 &&& Int64.toUInt64 63)).toInt64 :: st) h
    | _ => False
  | .lshl => match st with
    | .int y :: .long x :: st => K nx lv (.long (x <<< (y.toInt64 &&& 63)) :: st) h
    | _ => False
  | .i2l => match st with
    | .int x :: st => K nx lv (.long x.toInt64 :: st) h
    | _ => False
  | .l2i => match st with
    | .long x :: st => K nx lv (.int x.toInt32 :: st) h
    | _ => False
  | .i2c => match st with
    | .int x :: st => K nx lv (.int (x.toUInt32 % 65536).toInt32 :: st) h
    | _ => False
  | .i2b => match st with
    | .int x :: st => K nx lv (.int x.toInt8.toInt32 :: st) h
    | _ => False
  | .dup => match st with
    | .int x :: st => K nx lv (.int x :: .int x :: st) h
    | .ref x :: st => K nx lv (.ref x :: .ref x :: st) h
    | _ => False
  | .pop => match st with
    | .int _ :: st => K nx lv st h
    | .ref _ :: st => K nx lv st h
    | _ => False
  | .dup2 => match st with
    | .int x :: .ref y :: st => K nx lv (.int x :: .ref y :: .int x :: .ref y :: st) h
    | _ => False
  | .ifCond c t => match st with
    | .int x :: st => match c with
      | .eq => (x = 0 → K t.toNat lv st h) ∧ (¬ x = 0 → K nx lv st h)
      | .ne => (¬ x = 0 → K t.toNat lv st h) ∧ (x = 0 → K nx lv st h)
      | .lt => (x < 0 → K t.toNat lv st h) ∧ (¬ x < 0 → K nx lv st h)
      | .ge => (0 ≤ x → K t.toNat lv st h) ∧ (¬ 0 ≤ x → K nx lv st h)
      | .gt => (0 < x → K t.toNat lv st h) ∧ (¬ 0 < x → K nx lv st h)
      | .le => (x ≤ 0 → K t.toNat lv st h) ∧ (¬ x ≤ 0 → K nx lv st h)
    | _ => False
  | .if_icmp c t => match st with
    | .int y :: .int x :: st => match c with
      | .eq => (x = y → K t.toNat lv st h) ∧ (¬ x = y → K nx lv st h)
      | .ne => (¬ x = y → K t.toNat lv st h) ∧ (x = y → K nx lv st h)
      | .lt => (x < y → K t.toNat lv st h) ∧ (¬ x < y → K nx lv st h)
      | .ge => (y ≤ x → K t.toNat lv st h) ∧ (¬ y ≤ x → K nx lv st h)
      | .gt => (y < x → K t.toNat lv st h) ∧ (¬ y < x → K nx lv st h)
      | .le => (x ≤ y → K t.toNat lv st h) ∧ (¬ x ≤ y → K nx lv st h)
    | _ => False
  | .goto t => K t.toNat lv st h
  | .ifnonnull t => match st with
    | .ref _ :: st => K t.toNat lv st h
    | .null :: st => K nx lv st h
    | _ => False
  | .getstatic j => K nx lv (.ref j :: st) h
  | .getfield j => match st with
    | .ref r :: st => match h r with
      | some (.inr (ci, fs)) => match fs[j % 100]? with
        | some v => ci = j / 100 ∧ K nx lv (v :: st) h
        | none => False
      | _ => False
    | _ => False
  | .instanceof _ => match st with
    | .ref r :: st => match mm_ext r with
      | some (.inr v) => K nx lv (.ref v :: st) h
      | _ => False
    | _ => False
  | .checkcast _ => match st with
    | .ref r :: st => match mm_ext r with
      | some (.inr _) => K nx lv (.int 0 :: st) h
      | _ => False
    | _ => False
  | .putfield j => match st with
    | v :: .ref r :: st => match h r with
      | some (.inr (ci, fs)) => ci = j / 100 ∧ j % 100 < fs.length ∧ mm_fit (j / 100) (j % 100) v ∧ K nx lv st (va_up h r (some (.inr (ci, fs.set (j % 100) v))))
      | _ => False
    | _ => False
  | .arraylength => match st with
    | .ref r :: st => match h r with
      | some (.inl a) => K nx lv (.int (Int32.ofNat a.2.1) :: st) h
      | some _ => False
      | none => match mm_ext r with
        | some (.inl (_, w)) => K nx lv (.int (Int32.ofNat w.length) :: st) h
        | _ => False
    | _ => False
  | .iaload => match st with
    | .int i :: .ref r :: st => match h r with
      | some (.inl (.int, k, .inl f)) => vp_in i k ∧ K nx lv (.int (f i.toNatClampNeg) :: st) h
      | some _ => False
      | none => match mm_ext r with
        | some (.inl (.int, w)) => vp_in i w.length ∧ K nx lv (.int (w.getD i.toNatClampNeg 0) :: st) h
        | _ => False
    | _ => False
  | .caload => match st with
    | .int i :: .ref r :: st => match h r with
      | some (.inl (.char, k, .inl f)) => vp_in i k ∧ K nx lv (.int (f i.toNatClampNeg) :: st) h
      | _ => False
    | _ => False
  | .baload => match st with
    | .int i :: .ref r :: st => match h r with
      | some (.inl (.boolean, k, .inl f)) => vp_in i k ∧ K nx lv (.int (f i.toNatClampNeg) :: st) h
      | some _ => False
      | none => match mm_ext r with
        | some (.inl (.byte, w)) => vp_in i w.length ∧ K nx lv (.int (w.getD i.toNatClampNeg 0) :: st) h
        | _ => False
    | _ => False
  | .aaload => match st with
    | .int i :: .ref r :: st => match h r with
      | some (.inl (.object _, k, .inr (.inr (.inr (.inr f))))) => vp_in i k ∧ K nx lv (va_rf (f i.toNatClampNeg) :: st) h
      | _ => False
    | _ => False
  | .iastore => match st with
    | .int x :: .int i :: .ref r :: st => match h r with
      | some (.inl (.int, k, .inl f)) => vp_in i k ∧ K nx lv st (va_up h r (some (.inl (.int, k, .inl (upd f i.toNatClampNeg x)))))
      | _ => False
    | _ => False
  | .castore => match st with
    | .int x :: .int i :: .ref r :: st => match h r with
      | some (.inl (.char, k, .inl f)) => vp_in i k ∧ K nx lv st (va_up h r (some (.inl (.char, k, .inl (upd f i.toNatClampNeg (vp_nar .char x))))))
      | _ => False
    | _ => False
  | .bastore => match st with
    | .int x :: .int i :: .ref r :: st => match h r with
      | some (.inl (.boolean, k, .inl f)) => vp_in i k ∧ K nx lv st (va_up h r (some (.inl (.boolean, k, .inl (upd f i.toNatClampNeg (vp_nar .boolean x))))))
      | _ => False
    | _ => False
  | .ireturn => match st with
    | [.int v] => match nx with
      | 0 => Q (some (.int v)) h
      | 1 => narrow .boolean (.int v) = .int v ∧ Q (some (.int v)) h
      | _ => narrow .byte (.int v) = .int v ∧ Q (some (.int v)) h
    | _ => False
  | .return_ => match st with
    | [] => Q none h
    | _ => False
  | .lreturn => match st with
    | [.long v] => Q (some (.long v)) h
    | _ => False
  | .areturn => match st with
    | [.ref v] => Q (some (.ref v)) h
    | _ => False
  | .invokevirtual j => match tab j with
    | some (M', 0, k, ci) => match mm_pop k [] st with
      | some (As, .ref r :: st) => match h r with
        | some (.inr (ci', _)) => ci' = ci ∧ (st.map fun v => v.category).sum ≤ 8 ∧ Bd M' (.ref r :: As) h (fun v h' => B nx lv (v.toList ++ st) h')
        | _ => False
      | _ => False
    | some (M', 5, k, _) => match mm_pop k [] st with
      | some (As, .ref r :: st) => match mm_ext r with
        | some (.inr _) => (st.map fun v => v.category).sum ≤ 8 ∧ Bd M' (.ref r :: As) h (fun v h' => B nx lv (v.toList ++ st) h')
        | _ => False
      | _ => False
    | _ => False
  | .invokespecial _ => match st with
    | .int k :: .int dp :: .ref r1 :: .int sp :: .ref r0 :: st => match h r1 with
      | some (.inl (.int, n1, .inl g)) => match h r0 with
        | some (.inl (.int, n0, .inl f)) => ¬ sp < 0 ∧ ¬ dp < 0 ∧ ¬ k < 0 ∧ sp.toNatClampNeg + k.toNatClampNeg ≤ n0 ∧ dp.toNatClampNeg + k.toNatClampNeg ≤ n1 ∧ (st.map fun v => v.category).sum ≤ 8 ∧ K nx lv st (va_up h r1 (some (.inl (.int, n1, .inl (va_cpy f g sp.toNatClampNeg dp.toNatClampNeg k.toNatClampNeg)))))
        | some _ => False
        | none => match mm_ext r0 with
          | some (.inl (.int, w)) => ¬ sp < 0 ∧ ¬ dp < 0 ∧ ¬ k < 0 ∧ sp.toNatClampNeg + k.toNatClampNeg ≤ w.length ∧ dp.toNatClampNeg + k.toNatClampNeg ≤ n1 ∧ (st.map fun v => v.category).sum ≤ 8 ∧ K nx lv st (va_up h r1 (some (.inl (.int, n1, .inl (va_cpy (fun i => w.getD i 0) g sp.toNatClampNeg dp.toNatClampNeg k.toNatClampNeg)))))
          | _ => False
      | _ => False
    | _ => False
  | .invokestatic j => match tab j with
    | some (M', 1, k, _) => match mm_pop k [] st with
      | some (As, st) => (st.map fun v => v.category).sum ≤ 8 ∧ Bd M' As h (fun v h' => B nx lv (v.toList ++ st) h')
      | none => False
    | some (_, 2, _, _) => match st with
      | .int y :: .int x :: st => (st.map fun v => v.category).sum ≤ 8 ∧ K nx lv (.int (if x < y then y else x) :: st) h
      | _ => False
    | some (_, 3, _, _) => match st with
      | .int y :: .int x :: st => (st.map fun v => v.category).sum ≤ 8 ∧ K nx lv (.int (if y < x then y else x) :: st) h
      | _ => False
    | some (_, 4, _, _) => match st with
      | .int x :: st => (st.map fun v => v.category).sum ≤ 8 ∧ K nx lv (.int (if 0 ≤ x then x else 0 - x) :: st) h
      | _ => False
    | _ => False
  | .tableswitch dflt lo _ offs => match st with
    | .int x :: st => mm_tsw (fun t => K t lv st h) x dflt lo offs.toList
    | _ => False
  | .lookupswitch dflt ps => match st with
    | .int x :: st => mm_lsw (fun t => K t lv st h) x dflt ps.toList
    | _ => False
  | _ => False
def mm_cut (cut : Nat → Bool) (B W : Nat → List Value → List Value → mm_H → Prop) (pc : Nat) (lv st : List Value) (h : mm_H) : Prop := bif cut pc then B pc lv st h else W pc lv st h
def mw (tb : mm_T) (M : mm_M) (tab : Nat → Option (mm_M × Nat × Nat × Nat)) (Bd : mm_M → List Value → mm_H → mm_Q0 → Prop) (B : Nat → List Value → List Value → mm_H → Prop) (Q : mm_Q0) (cut : Nat → Bool) : Nat → Nat → List Value → List Value → mm_H → Prop
  | 0, pc, lv, st, h => B pc lv st h
  | n + 1, pc, lv, st, h => match mm_dec tb M pc with
    | some (i, nx) => mm_step tab Bd B (mm_cut cut B (mw tb M tab Bd B Q cut n)) Q i nx lv st h
    | none => False
/-- a step at a known instruction -/
abbrev mm_E (tb : mm_T) (M : mm_M) (pc : Nat) (i : Instr) (nx : Nat) : Prop := ∀ (tab : Nat → Option (mm_M × Nat × Nat × Nat)) (Bd : mm_M → List Value → mm_H → mm_Q0 → Prop) (B : Nat → List Value → List Value → mm_H → Prop) (Q : mm_Q0) (cut : Nat → Bool) (n : Nat) (lv st : List Value) (h : mm_H), mw tb M tab Bd B Q cut (n + 1) pc lv st h = mm_step tab Bd B (mm_cut cut B (mw tb M tab Bd B Q cut n)) Q i nx lv st h
theorem mm_E_of {tb : mm_T} {M : mm_M} {pc : Nat} {i : Instr} {nx : Nat} (hd : mm_dec tb M pc = some (i, nx)) : mm_E tb M pc i nx := fun tab Bd B Q cut n lv st h => by
  rw [mw, hd]
