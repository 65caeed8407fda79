section ST
variable {tab : Nat → Option (mm_M × Nat × Nat × Nat)} {Bd : mm_M → List Value → mm_H → mm_Q0 → Prop} {B K : Nat → List Value → List Value → mm_H → Prop} {Q : mm_Q0} {nx : Nat} {lv st : List Value} {h : mm_H}
theorem st_iconst {j : Int} : mm_step tab Bd B K Q (.iconst j) nx lv st h = (K nx lv (.int (Int32.ofInt j) :: st) h) := rfl
theorem st_lconst {j : Int} : mm_step tab Bd B K Q (.sipush j) nx lv st h = (K nx lv (.long (Int64.ofInt j) :: st) h) := rfl
theorem st_anull  : mm_step tab Bd B K Q (.aconst_null) nx lv st h = (K nx lv (.null :: st) h) := rfl
theorem st_iload {j : Nat} : mm_step tab Bd B K Q (.iload j) nx lv st h = (match lv[j]? with | some (.int x) => K nx lv (.int x :: st) h | _ => False) := rfl
theorem st_istore {j : Nat} {x : Int32} : mm_step tab Bd B K Q (.istore j) nx lv (.int x :: st) h = (K nx (mm_set lv j (.int x)) st h) := rfl
theorem st_lload {j : Nat} : mm_step tab Bd B K Q (.lload j) nx lv st h = (match lv[j]? with | some (.long x) => K nx lv (.long x :: st) h | _ => False) := rfl
theorem st_lstore {j : Nat} {x : Int64} : mm_step tab Bd B K Q (.lstore j) nx lv (.long x :: st) h = (K nx (mm_set2 lv j (.long x)) st h) := rfl
theorem st_aload {j : Nat} : mm_step tab Bd B K Q (.aload j) nx lv st h = (match lv[j]? with | some (.ref x) => K nx lv (.ref x :: st) h | _ => False) := rfl
theorem st_astore {j : Nat} {x : Nat} : mm_step tab Bd B K Q (.astore j) nx lv (.ref x :: st) h = (K nx (mm_set lv j (.ref x)) st h) := rfl
theorem st_iinc {j : Nat} {z : Int} : mm_step tab Bd B K Q (.iinc j z) nx lv st h = (match lv[j]? with | some (.int x) => K nx (mm_set lv j (.int (x + Int32.ofInt z))) st h | _ => False) := rfl
theorem st_iadd {x y : Int32} : mm_step tab Bd B K Q (.iadd) nx lv (.int y :: .int x :: st) h = (K nx lv (.int (x + y) :: st) h) := rfl
theorem st_isub {x y : Int32} : mm_step tab Bd B K Q (.isub) nx lv (.int y :: .int x :: st) h = (K nx lv (.int (x - y) :: st) h) := rfl
theorem st_imul {x y : Int32} : mm_step tab Bd B K Q (.imul) nx lv (.int y :: .int x :: st) h = (K nx lv (.int (x * y) :: st) h) := rfl
theorem st_iand {x y : Int32} : mm_step tab Bd B K Q (.iand) nx lv (.int y :: .int x :: st) h = (K nx lv (.int (x &&& y) :: st) h) := rfl
theorem st_ior {x y : Int32} : mm_step tab Bd B K Q (.ior) nx lv (.int y :: .int x :: st) h = (K nx lv (.int (x ||| y) :: st) h) := rfl
theorem st_ixor {x y : Int32} : mm_step tab Bd B K Q (.ixor) nx lv (.int y :: .int x :: st) h = (K nx lv (.int (x ^^^ y) :: st) h) := rfl
theorem st_ishl {x y : Int32} : mm_step tab Bd B K Q (.ishl) nx lv (.int y :: .int x :: st) h = (K nx lv (.int (x <<< (y &&& 31)) :: st) h) := rfl
theorem st_ishr {x y : Int32} : mm_step tab Bd B K Q (.ishr) nx lv (.int y :: .int x :: st) h = (K nx lv (.int (x >>> (y &&& 31)) :: st) h) := rfl
theorem st_iushr {x y : Int32} : mm_step tab Bd B K Q (.iushr) nx lv (.int y :: .int x :: st) h = (K nx lv (.int ((x.toUInt32 >>> (y.toUInt32 &&& Int32.toUInt32 31)).toInt32) :: st) h) := rfl
theorem st_idiv {x y : Int32} : mm_step tab Bd B K Q (.idiv) nx lv (.int y :: .int x :: st) h = (¬ y = 0 ∧ K nx lv (.int (x / y) :: st) h) := rfl
theorem st_irem {x y : Int32} : mm_step tab Bd B K Q (.irem) nx lv (.int y :: .int x :: st) h = (¬ y = 0 ∧ K nx lv (.int (x - x / y * y) :: st) h) := rfl
theorem st_ineg {x : Int32} : mm_step tab Bd B K Q (.ineg) nx lv (.int x :: st) h = (K nx lv (.int (-x) :: st) h) := rfl
theorem st_ladd {x y : Int64} : mm_step tab Bd B K Q (.ladd) nx lv (.long y :: .long x :: st) h = (K nx lv (.long (x + y) :: st) h) := rfl
theorem st_lsub {x y : Int64} : mm_step tab Bd B K Q (.lsub) nx lv (.long y :: .long x :: st) h = (K nx lv (.long (x - y) :: st) h) := rfl
theorem st_lmul {x y : Int64} : mm_step tab Bd B K Q (.lmul) nx lv (.long y :: .long x :: st) h = (K nx lv (.long (x * y) :: st) h) := rfl
theorem st_land {x y : Int64} : mm_step tab Bd B K Q (.land) nx lv (.long y :: .long x :: st) h = (K nx lv (.long (x &&& y) :: st) h) := rfl
theorem st_lor {x y : Int64} : mm_step tab Bd B K Q (.lor) nx lv (.long y :: .long x :: st) h = (K nx lv (.long (x ||| y) :: st) h) := rfl
theorem st_ldiv {x y : Int64} : mm_step tab Bd B K Q (.ldiv) nx lv (.long y :: .long x :: st) h = (¬ y = 0 ∧ K nx lv (.long (x / y) :: st) h) := rfl
theorem st_lrem {x y : Int64} : mm_step tab Bd B K Q (.lrem) nx lv (.long y :: .long x :: st) h = (¬ y = 0 ∧ K nx lv (.long (x - x / y * y) :: st) h) := rfl
theorem st_lcmp {x y : Int64} : mm_step tab Bd B K Q (.lcmp) nx lv (.long y :: .long x :: st) h = (K nx lv (.int (lg_cmp x y) :: st) h) := rfl
theorem st_lushr {x : Int64} {y : Int32} : mm_step tab Bd B K Q (.lushr) nx lv (.int y :: .long x :: st) h = (K nx lv (.long (x.toUInt64 >>> (y.toInt64.toUInt64 &&& Int64.toUInt64 63)).toInt64 :: st) h) := rfl
theorem st_lshl {x : Int64} {y : Int32} : mm_step tab Bd B K Q (.lshl) nx lv (.int y :: .long x :: st) h = (K nx lv (.long (x <<< (y.toInt64 &&& 63)) :: st) h) := rfl
theorem st_i2l {x : Int32} : mm_step tab Bd B K Q (.i2l) nx lv (.int x :: st) h = (K nx lv (.long x.toInt64 :: st) h) := rfl
theorem st_l2i {x : Int64} : mm_step tab Bd B K Q (.l2i) nx lv (.long x :: st) h = (K nx lv (.int x.toInt32 :: st) h) := rfl
theorem st_i2c {x : Int32} : mm_step tab Bd B K Q (.i2c) nx lv (.int x :: st) h = (K nx lv (.int (x.toUInt32 % 65536).toInt32 :: st) h) := rfl
theorem st_i2b {x : Int32} : mm_step tab Bd B K Q (.i2b) nx lv (.int x :: st) h = (K nx lv (.int x.toInt8.toInt32 :: st) h) := rfl
theorem st_dupi {x : Int32} : mm_step tab Bd B K Q (.dup) nx lv (.int x :: st) h = (K nx lv (.int x :: .int x :: st) h) := rfl
theorem st_dupr {x : Nat} : mm_step tab Bd B K Q (.dup) nx lv (.ref x :: st) h = (K nx lv (.ref x :: .ref x :: st) h) := rfl
theorem st_popi {x : Int32} : mm_step tab Bd B K Q (.pop) nx lv (.int x :: st) h = (K nx lv st h) := rfl
theorem st_popr {x : Nat} : mm_step tab Bd B K Q (.pop) nx lv (.ref x :: st) h = (K nx lv st h) := rfl
theorem st_dup2 {x : Int32} {y : Nat} : mm_step tab Bd B K Q (.dup2) nx lv (.int x :: .ref y :: st) h = (K nx lv (.int x :: .ref y :: .int x :: .ref y :: st) h) := rfl
theorem st_if_eq {t : Int} {x : Int32} : mm_step tab Bd B K Q (.ifCond .eq t) nx lv (.int x :: st) h = ((x = 0 → K t.toNat lv st h) ∧ (¬ x = 0 → K nx lv st h)) := rfl
theorem st_if_ne {t : Int} {x : Int32} : mm_step tab Bd B K Q (.ifCond .ne t) nx lv (.int x :: st) h = ((¬ x = 0 → K t.toNat lv st h) ∧ (x = 0 → K nx lv st h)) := rfl
theorem st_if_lt {t : Int} {x : Int32} : mm_step tab Bd B K Q (.ifCond .lt t) nx lv (.int x :: st) h = ((x < 0 → K t.toNat lv st h) ∧ (¬ x < 0 → K nx lv st h)) := rfl
theorem st_if_ge {t : Int} {x : Int32} : mm_step tab Bd B K Q (.ifCond .ge t) nx lv (.int x :: st) h = ((0 ≤ x → K t.toNat lv st h) ∧ (¬ 0 ≤ x → K nx lv st h)) := rfl
theorem st_if_gt {t : Int} {x : Int32} : mm_step tab Bd B K Q (.ifCond .gt t) nx lv (.int x :: st) h = ((0 < x → K t.toNat lv st h) ∧ (¬ 0 < x → K nx lv st h)) := rfl
theorem st_if_le {t : Int} {x : Int32} : mm_step tab Bd B K Q (.ifCond .le t) nx lv (.int x :: st) h = ((x ≤ 0 → K t.toNat lv st h) ∧ (¬ x ≤ 0 → K nx lv st h)) := rfl
theorem st_ic_eq {t : Int} {x y : Int32} : mm_step tab Bd B K Q (.if_icmp .eq t) nx lv (.int y :: .int x :: st) h = ((x = y → K t.toNat lv st h) ∧ (¬ x = y → K nx lv st h)) := rfl
theorem st_ic_ne {t : Int} {x y : Int32} : mm_step tab Bd B K Q (.if_icmp .ne t) nx lv (.int y :: .int x :: st) h = ((¬ x = y → K t.toNat lv st h) ∧ (x = y → K nx lv st h)) := rfl
theorem st_ic_lt {t : Int} {x y : Int32} : mm_step tab Bd B K Q (.if_icmp .lt t) nx lv (.int y :: .int x :: st) h = ((x < y → K t.toNat lv st h) ∧ (¬ x < y → K nx lv st h)) := rfl
theorem st_ic_ge {t : Int} {x y : Int32} : mm_step tab Bd B K Q (.if_icmp .ge t) nx lv (.int y :: .int x :: st) h = ((y ≤ x → K t.toNat lv st h) ∧ (¬ y ≤ x → K nx lv st h)) := rfl
theorem st_ic_gt {t : Int} {x y : Int32} : mm_step tab Bd B K Q (.if_icmp .gt t) nx lv (.int y :: .int x :: st) h = ((y < x → K t.toNat lv st h) ∧ (¬ y < x → K nx lv st h)) := rfl
theorem st_ic_le {t : Int} {x y : Int32} : mm_step tab Bd B K Q (.if_icmp .le t) nx lv (.int y :: .int x :: st) h = ((x ≤ y → K t.toNat lv st h) ∧ (¬ x ≤ y → K nx lv st h)) := rfl
theorem st_goto {t : Int} : mm_step tab Bd B K Q (.goto t) nx lv st h = (K t.toNat lv st h) := rfl
theorem st_nonnull {t : Int} {r : Nat} : mm_step tab Bd B K Q (.ifnonnull t) nx lv (.ref r :: st) h = (K t.toNat lv st h) := rfl
theorem st_nonnullN {t : Int} : mm_step tab Bd B K Q (.ifnonnull t) nx lv (.null :: st) h = (K nx lv st h) := rfl
theorem st_getf {j r : Nat} : mm_step tab Bd B K Q (.getfield j) nx lv (.ref r :: st) h = (match h r with | some (.inr (ci, fs)) => (match fs[j % 100]? with | some v => ci = j / 100 ∧ K nx lv (v :: st) h | none => False) | _ => False) := rfl
theorem st_putf {j r : Nat} {v : Value} : mm_step tab Bd B K Q (.putfield j) nx lv (v :: .ref r :: st) h = (match h r with | some (.inr (ci, fs)) => ci = j / 100 ∧ j % 100 < fs.length ∧ mm_fit (j / 100) (j % 100) v ∧ K nx lv st (va_up h r (some (.inr (ci, fs.set (j % 100) v)))) | _ => False) := rfl
theorem st_alen {r : Nat} : mm_step tab Bd B K Q (.arraylength) nx lv (.ref r :: st) h = (match h r with | some (.inl a) => K nx lv (.int (Int32.ofNat a.2.1) :: st) h | some _ => False | none => (match mm_ext r with | some (.inl (_, w)) => K nx lv (.int (Int32.ofNat w.length) :: st) h | _ => False)) := rfl
theorem st_iald {i : Int32} {r : Nat} : mm_step tab Bd B K Q (.iaload) nx lv (.int i :: .ref r :: st) h = (match h r with | some (.inl (.int, k, .inl f)) => vp_in i k ∧ K nx lv (.int (f i.toNatClampNeg) :: st) h | some _ => False | none => (match mm_ext r with | some (.inl (.int, w)) => vp_in i w.length ∧ K nx lv (.int (w.getD i.toNatClampNeg 0) :: st) h | _ => False)) := rfl
theorem st_cald {i : Int32} {r : Nat} : mm_step tab Bd B K Q (.caload) nx lv (.int i :: .ref r :: st) h = (match h r with | some (.inl (.char, k, .inl f)) => vp_in i k ∧ K nx lv (.int (f i.toNatClampNeg) :: st) h | _ => False) := rfl
theorem st_zald {i : Int32} {r : Nat} : mm_step tab Bd B K Q (.baload) nx lv (.int i :: .ref r :: st) h = (match h r with | some (.inl (.boolean, k, .inl f)) => vp_in i k ∧ K nx lv (.int (f i.toNatClampNeg) :: st) h | some _ => False | none => (match mm_ext r with | some (.inl (.byte, w)) => vp_in i w.length ∧ K nx lv (.int (w.getD i.toNatClampNeg 0) :: st) h | _ => False)) := rfl
theorem st_aald {i : Int32} {r : Nat} : mm_step tab Bd B K Q (.aaload) nx lv (.int i :: .ref r :: st) h = (match h r with | some (.inl (.object _, k, .inr (.inr (.inr (.inr f))))) => vp_in i k ∧ K nx lv (va_rf (f i.toNatClampNeg) :: st) h | _ => False) := rfl
theorem st_iast {x i : Int32} {r : Nat} : mm_step tab Bd B K Q (.iastore) nx lv (.int x :: .int i :: .ref r :: st) h = (match h r with | some (.inl (.int, k, .inl f)) => vp_in i k ∧ K nx lv st (va_up h r (some (.inl (.int, k, .inl (upd f i.toNatClampNeg x))))) | _ => False) := rfl
theorem st_cast {x i : Int32} {r : Nat} : mm_step tab Bd B K Q (.castore) nx lv (.int x :: .int i :: .ref r :: st) h = (match h r with | some (.inl (.char, k, .inl f)) => vp_in i k ∧ K nx lv st (va_up h r (some (.inl (.char, k, .inl (upd f i.toNatClampNeg (vp_nar .char x)))))) | _ => False) := rfl
theorem st_zast {x i : Int32} {r : Nat} : mm_step tab Bd B K Q (.bastore) nx lv (.int x :: .int i :: .ref r :: st) h = (match h r with | some (.inl (.boolean, k, .inl f)) => vp_in i k ∧ K nx lv st (va_up h r (some (.inl (.boolean, k, .inl (upd f i.toNatClampNeg (vp_nar .boolean x)))))) | _ => False) := rfl
theorem st_iret {v : Int32} : mm_step tab Bd B K Q .ireturn 0 lv [.int v] h = Q (some (.int v)) h := rfl
theorem st_zret {v : Int32} : mm_step tab Bd B K Q .ireturn 1 lv [.int v] h = (narrow .boolean (.int v) = .int v ∧ Q (some (.int v)) h) := rfl
theorem st_bret {v : Int32} : mm_step tab Bd B K Q .ireturn 2 lv [.int v] h = (narrow .byte (.int v) = .int v ∧ Q (some (.int v)) h) := rfl
theorem st_ret  : mm_step tab Bd B K Q (.return_) nx lv [] h = (Q none h) := rfl
theorem st_lret {v : Int64} : mm_step tab Bd B K Q (.lreturn) nx lv [.long v] h = (Q (some (.long v)) h) := rfl
theorem st_aret {v : Nat} : mm_step tab Bd B K Q (.areturn) nx lv [.ref v] h = (Q (some (.ref v)) h) := rfl
theorem st_inv {j : Nat} : mm_step tab Bd B K Q (.invokevirtual j) nx lv st h = (match tab j with | some (M', 0, k, ci) => (match mm_pop k [] st with | some (As, .ref r :: st) => (match h r with | some (.inr (ci', _)) => ci' = ci ∧ (st.map fun v => v.category).sum ≤ 8 ∧ Bd M' (.ref r :: As) h (fun v h' => B nx lv (v.toList ++ st) h') | _ => False) | _ => False) | some (M', 5, k, _) => (match mm_pop k [] st with | some (As, .ref r :: st) => (match mm_ext r with | some (.inr _) => (st.map fun v => v.category).sum ≤ 8 ∧ Bd M' (.ref r :: As) h (fun v h' => B nx lv (v.toList ++ st) h') | _ => False) | _ => False) | _ => False) := rfl
theorem st_ins {j : Nat} : mm_step tab Bd B K Q (.invokestatic j) nx lv st h = (match tab j with | some (M', 1, k, _) => (match mm_pop k [] st with | some (As, st) => (st.map fun v => v.category).sum ≤ 8 ∧ Bd M' As h (fun v h' => B nx lv (v.toList ++ st) h') | none => False) | some (_, 2, _, _) => (match st with | .int y :: .int x :: st => (st.map fun v => v.category).sum ≤ 8 ∧ K nx lv (.int (if x < y then y else x) :: st) h | _ => False) | some (_, 3, _, _) => (match st with | .int y :: .int x :: st => (st.map fun v => v.category).sum ≤ 8 ∧ K nx lv (.int (if y < x then y else x) :: st) h | _ => False) | some (_, 4, _, _) => (match st with | .int x :: st => (st.map fun v => v.category).sum ≤ 8 ∧ K nx lv (.int (if 0 ≤ x then x else 0 - x) :: st) h | _ => False) | _ => False) := rfl
theorem st_gets {j : Nat} : mm_step tab Bd B K Q (.getstatic j) nx lv st h = (K nx lv (.ref j :: st) h) := rfl
theorem st_strV {j r : Nat} : mm_step tab Bd B K Q (.instanceof j) nx lv (.ref r :: st) h = (match mm_ext r with | some (.inr v) => K nx lv (.ref v :: st) h | _ => False) := rfl
theorem st_strC {j r : Nat} : mm_step tab Bd B K Q (.checkcast j) nx lv (.ref r :: st) h = (match mm_ext r with | some (.inr _) => K nx lv (.int 0 :: st) h | _ => False) := rfl
theorem st_copy {j r0 r1 : Nat} {k dp sp : Int32} : mm_step tab Bd B K Q (.invokespecial j) nx lv (.int k :: .int dp :: .ref r1 :: .int sp :: .ref r0 :: st) h = (match h r1 with | some (.inl (.int, n1, .inl g)) => (match h r0 with | some (.inl (.int, n0, .inl f)) => ¬ sp < 0 ∧ ¬ dp < 0 ∧ ¬ k < 0 ∧ sp.toNatClampNeg + k.toNatClampNeg ≤ n0 ∧ dp.toNatClampNeg + k.toNatClampNeg ≤ n1 ∧ (st.map fun v => v.category).sum ≤ 8 ∧ K nx lv st (va_up h r1 (some (.inl (.int, n1, .inl (va_cpy f g sp.toNatClampNeg dp.toNatClampNeg k.toNatClampNeg))))) | some _ => False | none => (match mm_ext r0 with | some (.inl (.int, w)) => ¬ sp < 0 ∧ ¬ dp < 0 ∧ ¬ k < 0 ∧ sp.toNatClampNeg + k.toNatClampNeg ≤ w.length ∧ dp.toNatClampNeg + k.toNatClampNeg ≤ n1 ∧ (st.map fun v => v.category).sum ≤ 8 ∧ K nx lv st (va_up h r1 (some (.inl (.int, n1, .inl (va_cpy (fun i => w.getD i 0) g sp.toNatClampNeg dp.toNatClampNeg k.toNatClampNeg))))) | _ => False)) | _ => False) := rfl
theorem st_tsw {d lo hi : Int} {os : Array Int} {x : Int32} : mm_step tab Bd B K Q (.tableswitch d lo hi os) nx lv (.int x :: st) h = (mm_tsw (fun t => K t lv st h) x d lo os.toList) := rfl
theorem st_lsw {d : Int} {ps : Array (Int × Int)} {x : Int32} : mm_step tab Bd B K Q (.lookupswitch d ps) nx lv (.int x :: st) h = (mm_lsw (fun t => K t lv st h) x d ps.toList) := rfl
end ST
