section SN
variable {d mc ms : Nat} {M : mm_M} {cl sl : Nat} {Q : mm_Q} {pc : Nat} {lv st : List Value} {n : Nat} {h : mm_H}
def mm_tg (pc : Nat) (off : Int) : Nat := ((pc : Int) + off).toNat
theorem mm_tg_eq {pc : Nat} {off : Int} (h : 0 ≤ (pc : Int) + off) : (pc : Int) + off = (mm_tg pc off : Int) := (Int.toNat_of_nonneg h).symm
theorem sn_iconst {j : Int} (hd : decode M.2.1 pc = .ok (.iconst j, 1))  (k : G d mc ms M cl sl Q (pc + 1) lv (.int (Int32.ofInt j) :: st) n h) : G d mc ms M cl sl Q pc lv st n h := by
  intro l D p e s m args below meth c H locs ls ad ad0 ac A n0 hA hS hAA hSim hlv hn0 had hcl hsl
  exact lv_iconst hA.1 hA.2.1 hd rfl (k l D p e s m args below meth c H locs ls ad ad0 ac A n0 hA hS hAA hSim hlv hn0 had hcl hsl)
theorem sn_bipush {j : Int} (hd : decode M.2.1 pc = .ok (.bipush j, 2))  (k : G d mc ms M cl sl Q (pc + 2) lv (.int (Int8.ofInt j).toInt32 :: st) n h) : G d mc ms M cl sl Q pc lv st n h := by
  intro l D p e s m args below meth c H locs ls ad ad0 ac A n0 hA hS hAA hSim hlv hn0 had hcl hsl
  exact lv_bipush hA.1 hA.2.1 hd rfl (k l D p e s m args below meth c H locs ls ad ad0 ac A n0 hA hS hAA hSim hlv hn0 had hcl hsl)
theorem sn_sipush {j : Int} (hd : decode M.2.1 pc = .ok (.sipush j, 3))  (k : G d mc ms M cl sl Q (pc + 3) lv (.int (Int16.ofInt j).toInt32 :: st) n h) : G d mc ms M cl sl Q pc lv st n h := by
  intro l D p e s m args below meth c H locs ls ad ad0 ac A n0 hA hS hAA hSim hlv hn0 had hcl hsl
  exact lv_sipush hA.1 hA.2.1 hd rfl (k l D p e s m args below meth c H locs ls ad ad0 ac A n0 hA hS hAA hSim hlv hn0 had hcl hsl)
theorem sn_lconst {j : Fin 2} (hd : decode M.2.1 pc = .ok (.lconst j, 1))  (k : G d mc ms M cl sl Q (pc + 1) lv (.long (Int64.ofNat (j : Nat)) :: st) n h) : G d mc ms M cl sl Q pc lv st n h := by
  intro l D p e s m args below meth c H locs ls ad ad0 ac A n0 hA hS hAA hSim hlv hn0 had hcl hsl
  exact lv_lconst hA.1 hA.2.1 hd rfl (k l D p e s m args below meth c H locs ls ad ad0 ac A n0 hA hS hAA hSim hlv hn0 had hcl hsl)
theorem sn_anull  (hd : decode M.2.1 pc = .ok (.aconst_null, 1))  (k : G d mc ms M cl sl Q (pc + 1) lv (.null :: st) n h) : G d mc ms M cl sl Q pc lv st n h := by
  intro l D p e s m args below meth c H locs ls ad ad0 ac A n0 hA hS hAA hSim hlv hn0 had hcl hsl
  exact lv_null hA.1 hA.2.1 hd (k l D p e s m args below meth c H locs ls ad ad0 ac A n0 hA hS hAA hSim hlv hn0 had hcl hsl)
theorem sn_iload_n {j : Fin 4} {x : Int32} (hd : decode M.2.1 pc = .ok (.iload_n j, 1)) (hl : lv[(j : Nat)]? = some (.int x)) (k : G d mc ms M cl sl Q (pc + 1) lv (.int x :: st) n h) : G d mc ms M cl sl Q pc lv st n h := by
  intro l D p e s m args below meth c H locs ls ad ad0 ac A n0 hA hS hAA hSim hlv hn0 had hcl hsl
  exact lv_iload_n hA.1 hA.2.1 hd rfl (hlv.2.2.2 j _ hl (by intro z; cases z)) (k l D p e s m args below meth c H locs ls ad ad0 ac A n0 hA hS hAA hSim hlv hn0 had hcl hsl)
theorem sn_iload {j : Nat} {x : Int32} (hd : decode M.2.1 pc = .ok (.iload j, 2)) (hl : lv[j]? = some (.int x)) (k : G d mc ms M cl sl Q (pc + 2) lv (.int x :: st) n h) : G d mc ms M cl sl Q pc lv st n h := by
  intro l D p e s m args below meth c H locs ls ad ad0 ac A n0 hA hS hAA hSim hlv hn0 had hcl hsl
  exact lv_iload hA.1 hA.2.1 hd (hlv.2.2.2 j _ hl (by intro z; cases z)) (k l D p e s m args below meth c H locs ls ad ad0 ac A n0 hA hS hAA hSim hlv hn0 had hcl hsl)
theorem sn_lload_n {j : Fin 4} {x : Int64} (hd : decode M.2.1 pc = .ok (.lload_n j, 1)) (hl : lv[(j : Nat)]? = some (.long x)) (k : G d mc ms M cl sl Q (pc + 1) lv (.long x :: st) n h) : G d mc ms M cl sl Q pc lv st n h := by
  intro l D p e s m args below meth c H locs ls ad ad0 ac A n0 hA hS hAA hSim hlv hn0 had hcl hsl
  exact lv_lload_n hA.1 hA.2.1 hd rfl (hlv.2.2.2 j _ hl (by intro z; cases z)) (k l D p e s m args below meth c H locs ls ad ad0 ac A n0 hA hS hAA hSim hlv hn0 had hcl hsl)
theorem sn_lload {j : Nat} {x : Int64} (hd : decode M.2.1 pc = .ok (.lload j, 2)) (hl : lv[j]? = some (.long x)) (k : G d mc ms M cl sl Q (pc + 2) lv (.long x :: st) n h) : G d mc ms M cl sl Q pc lv st n h := by
  intro l D p e s m args below meth c H locs ls ad ad0 ac A n0 hA hS hAA hSim hlv hn0 had hcl hsl
  exact lv_lload hA.1 hA.2.1 hd (hlv.2.2.2 j _ hl (by intro z; cases z)) (k l D p e s m args below meth c H locs ls ad ad0 ac A n0 hA hS hAA hSim hlv hn0 had hcl hsl)
theorem sn_aload_n {j : Fin 4} {x : Nat} (hd : decode M.2.1 pc = .ok (.aload_n j, 1)) (hl : lv[(j : Nat)]? = some (.ref x)) (k : G d mc ms M cl sl Q (pc + 1) lv (.ref x :: st) n h) : G d mc ms M cl sl Q pc lv st n h := by
  intro l D p e s m args below meth c H locs ls ad ad0 ac A n0 hA hS hAA hSim hlv hn0 had hcl hsl
  exact lv_aload_n hA.1 hA.2.1 hd rfl (hlv.2.2.2 j _ hl (by intro z; cases z)) (k l D p e s m args below meth c H locs ls ad ad0 ac A n0 hA hS hAA hSim hlv hn0 had hcl hsl)
theorem sn_aload {j : Nat} {x : Nat} (hd : decode M.2.1 pc = .ok (.aload j, 2)) (hl : lv[j]? = some (.ref x)) (k : G d mc ms M cl sl Q (pc + 2) lv (.ref x :: st) n h) : G d mc ms M cl sl Q pc lv st n h := by
  intro l D p e s m args below meth c H locs ls ad ad0 ac A n0 hA hS hAA hSim hlv hn0 had hcl hsl
  exact lv_aload hA.1 hA.2.1 hd (hlv.2.2.2 j _ hl (by intro z; cases z)) (k l D p e s m args below meth c H locs ls ad ad0 ac A n0 hA hS hAA hSim hlv hn0 had hcl hsl)
theorem sn_istore_n {j : Fin 4} {x : Int32} (hd : decode M.2.1 pc = .ok (.istore_n j, 1)) (hj : (j : Nat) < M.2.2.1) (k : G d mc ms M cl sl Q (pc + 1) (mm_set lv (j : Nat) (.int x)) st n h) : G d mc ms M cl sl Q pc lv (.int x :: st) n h := by
  intro l D p e s m args below meth c H locs ls ad ad0 ac A n0 hA hS hAA hSim hlv hn0 had hcl hsl
  exact lv_istore_n hA.1 hA.2.1 hd rfl (mm_lv_has hlv) hj rfl (fun ls1 hl1 => (k l D p e s m args below meth c H locs ls1 ad ad0 ac A n0 hA hS hAA hSim (mm_lv_st1 (v := .int x) hlv hl1) hn0 had hcl hsl))
theorem sn_istore {j : Nat} {x : Int32} (hd : decode M.2.1 pc = .ok (.istore j, 2)) (hj : j < M.2.2.1) (k : G d mc ms M cl sl Q (pc + 2) (mm_set lv j (.int x)) st n h) : G d mc ms M cl sl Q pc lv (.int x :: st) n h := by
  intro l D p e s m args below meth c H locs ls ad ad0 ac A n0 hA hS hAA hSim hlv hn0 had hcl hsl
  exact lv_istore hA.1 hA.2.1 hd (mm_lv_has hlv) hj rfl (fun ls1 hl1 => (k l D p e s m args below meth c H locs ls1 ad ad0 ac A n0 hA hS hAA hSim (mm_lv_st1 (v := .int x) hlv hl1) hn0 had hcl hsl))
theorem sn_lstore_n {j : Fin 4} {x : Int64} (hd : decode M.2.1 pc = .ok (.lstore_n j, 1)) (hj : (j : Nat) + 1 < M.2.2.1) (k : G d mc ms M cl sl Q (pc + 1) (mm_set2 lv (j : Nat) (.long x)) st n h) : G d mc ms M cl sl Q pc lv (.long x :: st) n h := by
  intro l D p e s m args below meth c H locs ls ad ad0 ac A n0 hA hS hAA hSim hlv hn0 had hcl hsl
  exact lv_lstore_n hA.1 hA.2.1 hd rfl (mm_lv_has hlv) hj rfl (fun ls1 hl1 => (k l D p e s m args below meth c H locs ls1 ad ad0 ac A n0 hA hS hAA hSim (mm_lv_st2 (v := .long x) hlv hl1) hn0 had hcl hsl))
theorem sn_lstore {j : Nat} {x : Int64} (hd : decode M.2.1 pc = .ok (.lstore j, 2)) (hj : j + 1 < M.2.2.1) (k : G d mc ms M cl sl Q (pc + 2) (mm_set2 lv j (.long x)) st n h) : G d mc ms M cl sl Q pc lv (.long x :: st) n h := by
  intro l D p e s m args below meth c H locs ls ad ad0 ac A n0 hA hS hAA hSim hlv hn0 had hcl hsl
  exact lv_lstore hA.1 hA.2.1 hd (mm_lv_has hlv) hj rfl (fun ls1 hl1 => (k l D p e s m args below meth c H locs ls1 ad ad0 ac A n0 hA hS hAA hSim (mm_lv_st2 (v := .long x) hlv hl1) hn0 had hcl hsl))
theorem sn_astore_n {j : Fin 4} {x : Nat} (hd : decode M.2.1 pc = .ok (.astore_n j, 1)) (hj : (j : Nat) < M.2.2.1) (k : G d mc ms M cl sl Q (pc + 1) (mm_set lv (j : Nat) (.ref x)) st n h) : G d mc ms M cl sl Q pc lv (.ref x :: st) n h := by
  intro l D p e s m args below meth c H locs ls ad ad0 ac A n0 hA hS hAA hSim hlv hn0 had hcl hsl
  exact lv_astore_n hA.1 hA.2.1 hd rfl (mm_lv_has hlv) hj rfl (fun ls1 hl1 => (k l D p e s m args below meth c H locs ls1 ad ad0 ac A n0 hA hS hAA hSim (mm_lv_st1 (v := .ref x) hlv hl1) hn0 had hcl hsl))
theorem sn_astore {j : Nat} {x : Nat} (hd : decode M.2.1 pc = .ok (.astore j, 2)) (hj : j < M.2.2.1) (k : G d mc ms M cl sl Q (pc + 2) (mm_set lv j (.ref x)) st n h) : G d mc ms M cl sl Q pc lv (.ref x :: st) n h := by
  intro l D p e s m args below meth c H locs ls ad ad0 ac A n0 hA hS hAA hSim hlv hn0 had hcl hsl
  exact lv_astore hA.1 hA.2.1 hd (mm_lv_has hlv) hj rfl (fun ls1 hl1 => (k l D p e s m args below meth c H locs ls1 ad ad0 ac A n0 hA hS hAA hSim (mm_lv_st1 (v := .ref x) hlv hl1) hn0 had hcl hsl))
theorem sn_iinc {j : Nat} {z : Int} {x : Int32} (hd : decode M.2.1 pc = .ok (.iinc j z, 3)) (hl : lv[j]? = some (.int x)) (k : G d mc ms M cl sl Q (pc + 3) (mm_set lv j (.int (x + Int32.ofInt z))) st n h) : G d mc ms M cl sl Q pc lv st n h := by
  intro l D p e s m args below meth c H locs ls ad ad0 ac A n0 hA hS hAA hSim hlv hn0 had hcl hsl
  obtain ⟨i, hi⟩ := List.getElem?_of_mem (mm_al_mem (ad := ad) hl (by intro z; cases z))
  exact lv_iinc hA.1 hA.2.1 hd (mm_lv_has hlv) hi rfl (by rw [← hlv.2.2.1]; exact (List.getElem?_eq_some_iff.mp hl).1) rfl (fun ls1 hl1 => (k l D p e s m args below meth c H locs ls1 ad ad0 ac A n0 hA hS hAA hSim (mm_lv_st1 (v := .int (x + Int32.ofInt z)) hlv hl1) hn0 had hcl hsl))
theorem sn_iadd {x y : Int32} (hd : decode M.2.1 pc = .ok (.iadd, 1))  (k : G d mc ms M cl sl Q (pc + 1) lv (.int (x + y) :: st) n h) : G d mc ms M cl sl Q pc lv (.int y :: .int x :: st) n h := by
  intro l D p e s m args below meth c H locs ls ad ad0 ac A n0 hA hS hAA hSim hlv hn0 had hcl hsl
  exact lv_iadd hA.1 hA.2.1 hd (k l D p e s m args below meth c H locs ls ad ad0 ac A n0 hA hS hAA hSim hlv hn0 had hcl hsl)
theorem sn_isub {x y : Int32} (hd : decode M.2.1 pc = .ok (.isub, 1))  (k : G d mc ms M cl sl Q (pc + 1) lv (.int (x - y) :: st) n h) : G d mc ms M cl sl Q pc lv (.int y :: .int x :: st) n h := by
  intro l D p e s m args below meth c H locs ls ad ad0 ac A n0 hA hS hAA hSim hlv hn0 had hcl hsl
  exact lv_isub hA.1 hA.2.1 hd (k l D p e s m args below meth c H locs ls ad ad0 ac A n0 hA hS hAA hSim hlv hn0 had hcl hsl)
theorem sn_imul {x y : Int32} (hd : decode M.2.1 pc = .ok (.imul, 1))  (k : G d mc ms M cl sl Q (pc + 1) lv (.int (x * y) :: st) n h) : G d mc ms M cl sl Q pc lv (.int y :: .int x :: st) n h := by
  intro l D p e s m args below meth c H locs ls ad ad0 ac A n0 hA hS hAA hSim hlv hn0 had hcl hsl
  exact lv_imul hA.1 hA.2.1 hd (k l D p e s m args below meth c H locs ls ad ad0 ac A n0 hA hS hAA hSim hlv hn0 had hcl hsl)
theorem sn_iand {x y : Int32} (hd : decode M.2.1 pc = .ok (.iand, 1))  (k : G d mc ms M cl sl Q (pc + 1) lv (.int (x &&& y) :: st) n h) : G d mc ms M cl sl Q pc lv (.int y :: .int x :: st) n h := by
  intro l D p e s m args below meth c H locs ls ad ad0 ac A n0 hA hS hAA hSim hlv hn0 had hcl hsl
  exact lv_iand hA.1 hA.2.1 hd (k l D p e s m args below meth c H locs ls ad ad0 ac A n0 hA hS hAA hSim hlv hn0 had hcl hsl)
theorem sn_ior {x y : Int32} (hd : decode M.2.1 pc = .ok (.ior, 1))  (k : G d mc ms M cl sl Q (pc + 1) lv (.int (x ||| y) :: st) n h) : G d mc ms M cl sl Q pc lv (.int y :: .int x :: st) n h := by
  intro l D p e s m args below meth c H locs ls ad ad0 ac A n0 hA hS hAA hSim hlv hn0 had hcl hsl
  exact lv_ior hA.1 hA.2.1 hd (k l D p e s m args below meth c H locs ls ad ad0 ac A n0 hA hS hAA hSim hlv hn0 had hcl hsl)
theorem sn_ixor {x y : Int32} (hd : decode M.2.1 pc = .ok (.ixor, 1))  (k : G d mc ms M cl sl Q (pc + 1) lv (.int (x ^^^ y) :: st) n h) : G d mc ms M cl sl Q pc lv (.int y :: .int x :: st) n h := by
  intro l D p e s m args below meth c H locs ls ad ad0 ac A n0 hA hS hAA hSim hlv hn0 had hcl hsl
  exact lv_ixor hA.1 hA.2.1 hd (k l D p e s m args below meth c H locs ls ad ad0 ac A n0 hA hS hAA hSim hlv hn0 had hcl hsl)
theorem sn_ishl {x y : Int32} (hd : decode M.2.1 pc = .ok (.ishl, 1))  (k : G d mc ms M cl sl Q (pc + 1) lv (.int (x <<< (y &&& 31)) :: st) n h) : G d mc ms M cl sl Q pc lv (.int y :: .int x :: st) n h := by
  intro l D p e s m args below meth c H locs ls ad ad0 ac A n0 hA hS hAA hSim hlv hn0 had hcl hsl
  exact lv_ishl hA.1 hA.2.1 hd (k l D p e s m args below meth c H locs ls ad ad0 ac A n0 hA hS hAA hSim hlv hn0 had hcl hsl)
theorem sn_ishr {x y : Int32} (hd : decode M.2.1 pc = .ok (.ishr, 1))  (k : G d mc ms M cl sl Q (pc + 1) lv (.int (x >>> (y &&& 31)) :: st) n h) : G d mc ms M cl sl Q pc lv (.int y :: .int x :: st) n h := by
  intro l D p e s m args below meth c H locs ls ad ad0 ac A n0 hA hS hAA hSim hlv hn0 had hcl hsl
  exact lv_ishr hA.1 hA.2.1 hd (k l D p e s m args below meth c H locs ls ad ad0 ac A n0 hA hS hAA hSim hlv hn0 had hcl hsl)
theorem sn_iushr {x y : Int32} (hd : decode M.2.1 pc = .ok (.iushr, 1))  (k : G d mc ms M cl sl Q (pc + 1) lv (.int (x.toUInt32 >>> (y.toUInt32 &&& Int32.toUInt32 31)).toInt32 :: st) n h) : G d mc ms M cl sl Q pc lv (.int y :: .int x :: st) n h := by
  intro l D p e s m args below meth c H locs ls ad ad0 ac A n0 hA hS hAA hSim hlv hn0 had hcl hsl
  exact lv_iushr hA.1 hA.2.1 hd rfl (k l D p e s m args below meth c H locs ls ad ad0 ac A n0 hA hS hAA hSim hlv hn0 had hcl hsl)
theorem sn_idiv {x y : Int32} (hd : decode M.2.1 pc = .ok (.idiv, 1)) (hy : ¬ y = 0) (k : G d mc ms M cl sl Q (pc + 1) lv (.int (x / y) :: st) n h) : G d mc ms M cl sl Q pc lv (.int y :: .int x :: st) n h := by
  intro l D p e s m args below meth c H locs ls ad ad0 ac A n0 hA hS hAA hSim hlv hn0 had hcl hsl
  exact lv_idiv hA.1 hA.2.1 hd hy (k l D p e s m args below meth c H locs ls ad ad0 ac A n0 hA hS hAA hSim hlv hn0 had hcl hsl)
theorem sn_irem {x y : Int32} (hd : decode M.2.1 pc = .ok (.irem, 1)) (hy : ¬ y = 0) (k : G d mc ms M cl sl Q (pc + 1) lv (.int (x - x / y * y) :: st) n h) : G d mc ms M cl sl Q pc lv (.int y :: .int x :: st) n h := by
  intro l D p e s m args below meth c H locs ls ad ad0 ac A n0 hA hS hAA hSim hlv hn0 had hcl hsl
  exact lv_irem hA.1 hA.2.1 hd hy (k l D p e s m args below meth c H locs ls ad ad0 ac A n0 hA hS hAA hSim hlv hn0 had hcl hsl)
theorem sn_ineg {x : Int32} (hd : decode M.2.1 pc = .ok (.ineg, 1))  (k : G d mc ms M cl sl Q (pc + 1) lv (.int (-x) :: st) n h) : G d mc ms M cl sl Q pc lv (.int x :: st) n h := by
  intro l D p e s m args below meth c H locs ls ad ad0 ac A n0 hA hS hAA hSim hlv hn0 had hcl hsl
  exact lv_ineg hA.1 hA.2.1 hd (k l D p e s m args below meth c H locs ls ad ad0 ac A n0 hA hS hAA hSim hlv hn0 had hcl hsl)
theorem sn_ladd {x y : Int64} (hd : decode M.2.1 pc = .ok (.ladd, 1))  (k : G d mc ms M cl sl Q (pc + 1) lv (.long (x + y) :: st) n h) : G d mc ms M cl sl Q pc lv (.long y :: .long x :: st) n h := by
  intro l D p e s m args below meth c H locs ls ad ad0 ac A n0 hA hS hAA hSim hlv hn0 had hcl hsl
  exact lv_ladd hA.1 hA.2.1 hd (k l D p e s m args below meth c H locs ls ad ad0 ac A n0 hA hS hAA hSim hlv hn0 had hcl hsl)
theorem sn_lsub {x y : Int64} (hd : decode M.2.1 pc = .ok (.lsub, 1))  (k : G d mc ms M cl sl Q (pc + 1) lv (.long (x - y) :: st) n h) : G d mc ms M cl sl Q pc lv (.long y :: .long x :: st) n h := by
  intro l D p e s m args below meth c H locs ls ad ad0 ac A n0 hA hS hAA hSim hlv hn0 had hcl hsl
  exact lv_lsub hA.1 hA.2.1 hd (k l D p e s m args below meth c H locs ls ad ad0 ac A n0 hA hS hAA hSim hlv hn0 had hcl hsl)
theorem sn_lmul {x y : Int64} (hd : decode M.2.1 pc = .ok (.lmul, 1))  (k : G d mc ms M cl sl Q (pc + 1) lv (.long (x * y) :: st) n h) : G d mc ms M cl sl Q pc lv (.long y :: .long x :: st) n h := by
  intro l D p e s m args below meth c H locs ls ad ad0 ac A n0 hA hS hAA hSim hlv hn0 had hcl hsl
  exact lv_lmul hA.1 hA.2.1 hd (k l D p e s m args below meth c H locs ls ad ad0 ac A n0 hA hS hAA hSim hlv hn0 had hcl hsl)
theorem sn_land {x y : Int64} (hd : decode M.2.1 pc = .ok (.land, 1))  (k : G d mc ms M cl sl Q (pc + 1) lv (.long (x &&& y) :: st) n h) : G d mc ms M cl sl Q pc lv (.long y :: .long x :: st) n h := by
  intro l D p e s m args below meth c H locs ls ad ad0 ac A n0 hA hS hAA hSim hlv hn0 had hcl hsl
  exact lv_land hA.1 hA.2.1 hd (k l D p e s m args below meth c H locs ls ad ad0 ac A n0 hA hS hAA hSim hlv hn0 had hcl hsl)
theorem sn_lor {x y : Int64} (hd : decode M.2.1 pc = .ok (.lor, 1))  (k : G d mc ms M cl sl Q (pc + 1) lv (.long (x ||| y) :: st) n h) : G d mc ms M cl sl Q pc lv (.long y :: .long x :: st) n h := by
  intro l D p e s m args below meth c H locs ls ad ad0 ac A n0 hA hS hAA hSim hlv hn0 had hcl hsl
  exact lv_lor hA.1 hA.2.1 hd (k l D p e s m args below meth c H locs ls ad ad0 ac A n0 hA hS hAA hSim hlv hn0 had hcl hsl)
theorem sn_ldiv {x y : Int64} (hd : decode M.2.1 pc = .ok (.ldiv, 1)) (hy : ¬ y = 0) (k : G d mc ms M cl sl Q (pc + 1) lv (.long (x / y) :: st) n h) : G d mc ms M cl sl Q pc lv (.long y :: .long x :: st) n h := by
  intro l D p e s m args below meth c H locs ls ad ad0 ac A n0 hA hS hAA hSim hlv hn0 had hcl hsl
  exact lv_ldiv hA.1 hA.2.1 hd hy (k l D p e s m args below meth c H locs ls ad ad0 ac A n0 hA hS hAA hSim hlv hn0 had hcl hsl)
theorem sn_lrem {x y : Int64} (hd : decode M.2.1 pc = .ok (.lrem, 1)) (hy : ¬ y = 0) (k : G d mc ms M cl sl Q (pc + 1) lv (.long (x - x / y * y) :: st) n h) : G d mc ms M cl sl Q pc lv (.long y :: .long x :: st) n h := by
  intro l D p e s m args below meth c H locs ls ad ad0 ac A n0 hA hS hAA hSim hlv hn0 had hcl hsl
  exact lv_lrem hA.1 hA.2.1 hd hy (k l D p e s m args below meth c H locs ls ad ad0 ac A n0 hA hS hAA hSim hlv hn0 had hcl hsl)
theorem sn_lcmp {x y : Int64} (hd : decode M.2.1 pc = .ok (.lcmp, 1))  (k : G d mc ms M cl sl Q (pc + 1) lv (.int (lg_cmp x y) :: st) n h) : G d mc ms M cl sl Q pc lv (.long y :: .long x :: st) n h := by
  intro l D p e s m args below meth c H locs ls ad ad0 ac A n0 hA hS hAA hSim hlv hn0 had hcl hsl
  exact W.lcmp hA.1 hA.2.1 hd (k l D p e s m args below meth c H locs ls ad ad0 ac A n0 hA hS hAA hSim hlv hn0 had hcl hsl)
theorem sn_lushr {x : Int64} {y : Int32} (hd : decode M.2.1 pc = .ok (.lushr, 1))  (k : G d mc ms M cl sl Q (pc + 1) lv (.long (x.toUInt64 >>> (y.toInt64.toUInt64 &&& Int64.toUInt64 63)).toInt64 :: st) n h) : G d mc ms M cl sl Q pc lv (.int y :: .long x :: st) n h := by
  intro l D p e s m args below meth c H locs ls ad ad0 ac A n0 hA hS hAA hSim hlv hn0 had hcl hsl
  exact lv_lushr hA.1 hA.2.1 hd rfl (k l D p e s m args below meth c H locs ls ad ad0 ac A n0 hA hS hAA hSim hlv hn0 had hcl hsl)
theorem sn_lshl {x : Int64} {y : Int32} (hd : decode M.2.1 pc = .ok (.lshl, 1))  (k : G d mc ms M cl sl Q (pc + 1) lv (.long (x <<< (y.toInt64 &&& 63)) :: st) n h) : G d mc ms M cl sl Q pc lv (.int y :: .long x :: st) n h := by
  intro l D p e s m args below meth c H locs ls ad ad0 ac A n0 hA hS hAA hSim hlv hn0 had hcl hsl
  exact lv_lshl hA.1 hA.2.1 hd rfl (k l D p e s m args below meth c H locs ls ad ad0 ac A n0 hA hS hAA hSim hlv hn0 had hcl hsl)
theorem sn_i2l {x : Int32} (hd : decode M.2.1 pc = .ok (.i2l, 1))  (k : G d mc ms M cl sl Q (pc + 1) lv (.long x.toInt64 :: st) n h) : G d mc ms M cl sl Q pc lv (.int x :: st) n h := by
  intro l D p e s m args below meth c H locs ls ad ad0 ac A n0 hA hS hAA hSim hlv hn0 had hcl hsl
  exact lv_i2l hA.1 hA.2.1 hd rfl (k l D p e s m args below meth c H locs ls ad ad0 ac A n0 hA hS hAA hSim hlv hn0 had hcl hsl)
theorem sn_l2i {x : Int64} (hd : decode M.2.1 pc = .ok (.l2i, 1))  (k : G d mc ms M cl sl Q (pc + 1) lv (.int x.toInt32 :: st) n h) : G d mc ms M cl sl Q pc lv (.long x :: st) n h := by
  intro l D p e s m args below meth c H locs ls ad ad0 ac A n0 hA hS hAA hSim hlv hn0 had hcl hsl
  exact lv_l2i hA.1 hA.2.1 hd rfl (k l D p e s m args below meth c H locs ls ad ad0 ac A n0 hA hS hAA hSim hlv hn0 had hcl hsl)
theorem sn_i2c {x : Int32} (hd : decode M.2.1 pc = .ok (.i2c, 1))  (k : G d mc ms M cl sl Q (pc + 1) lv (.int (x.toUInt32 % 65536).toInt32 :: st) n h) : G d mc ms M cl sl Q pc lv (.int x :: st) n h := by
  intro l D p e s m args below meth c H locs ls ad ad0 ac A n0 hA hS hAA hSim hlv hn0 had hcl hsl
  exact lv_i2c hA.1 hA.2.1 hd rfl (k l D p e s m args below meth c H locs ls ad ad0 ac A n0 hA hS hAA hSim hlv hn0 had hcl hsl)
theorem sn_i2b {x : Int32} (hd : decode M.2.1 pc = .ok (.i2b, 1))  (k : G d mc ms M cl sl Q (pc + 1) lv (.int x.toInt8.toInt32 :: st) n h) : G d mc ms M cl sl Q pc lv (.int x :: st) n h := by
  intro l D p e s m args below meth c H locs ls ad ad0 ac A n0 hA hS hAA hSim hlv hn0 had hcl hsl
  exact lv_i2b hA.1 hA.2.1 hd rfl (k l D p e s m args below meth c H locs ls ad ad0 ac A n0 hA hS hAA hSim hlv hn0 had hcl hsl)
theorem sn_dup {a : Value} (hd : decode M.2.1 pc = .ok (.dup, 1)) (ha : a.category = 1) (k : G d mc ms M cl sl Q (pc + 1) lv (a :: a :: st) n h) : G d mc ms M cl sl Q pc lv (a :: st) n h := by
  intro l D p e s m args below meth c H locs ls ad ad0 ac A n0 hA hS hAA hSim hlv hn0 had hcl hsl
  exact lv_dup hA.1 hA.2.1 hd (by rw [mm_t_cat]; exact ha) (k l D p e s m args below meth c H locs ls ad ad0 ac A n0 hA hS hAA hSim hlv hn0 had hcl hsl)
theorem sn_pop {a : Value} (hd : decode M.2.1 pc = .ok (.pop, 1)) (ha : a.category = 1) (k : G d mc ms M cl sl Q (pc + 1) lv st n h) : G d mc ms M cl sl Q pc lv (a :: st) n h := by
  intro l D p e s m args below meth c H locs ls ad ad0 ac A n0 hA hS hAA hSim hlv hn0 had hcl hsl
  exact lv_pop hA.1 hA.2.1 hd (by rw [mm_t_cat]; exact ha) (k l D p e s m args below meth c H locs ls ad ad0 ac A n0 hA hS hAA hSim hlv hn0 had hcl hsl)
theorem sn_dup2_11 {a b : Value} (hd : decode M.2.1 pc = .ok (.dup2, 1)) (ha : a.category = 1) (hb : b.category = 1) (k : G d mc ms M cl sl Q (pc + 1) lv (a :: b :: a :: b :: st) n h) : G d mc ms M cl sl Q pc lv (a :: b :: st) n h := by
  intro l D p e s m args below meth c H locs ls ad ad0 ac A n0 hA hS hAA hSim hlv hn0 had hcl hsl
  exact lv_dup2_11 hA.1 hA.2.1 hd (by rw [mm_t_cat]; exact ha) (by rw [mm_t_cat]; exact hb) (k l D p e s m args below meth c H locs ls ad ad0 ac A n0 hA hS hAA hSim hlv hn0 had hcl hsl)
theorem sn_dup2_2 {a : Value} (hd : decode M.2.1 pc = .ok (.dup2, 1)) (ha : a.category = 2) (k : G d mc ms M cl sl Q (pc + 1) lv (a :: a :: st) n h) : G d mc ms M cl sl Q pc lv (a :: st) n h := by
  intro l D p e s m args below meth c H locs ls ad ad0 ac A n0 hA hS hAA hSim hlv hn0 had hcl hsl
  exact lv_dup2_2 hA.1 hA.2.1 hd (by rw [mm_t_cat]; exact ha) (k l D p e s m args below meth c H locs ls ad ad0 ac A n0 hA hS hAA hSim hlv hn0 had hcl hsl)
theorem sn_if_eq {x : Int32} {off : Int} (hd : decode M.2.1 pc = .ok (.ifCond .eq off, 3)) (ht : 0 ≤ (pc : Int) + off) (kt : x = 0 → G d mc ms M cl sl Q (mm_tg pc off) lv st n h) (kf : ¬ (x = 0) → G d mc ms M cl sl Q (pc + 3) lv st n h) : G d mc ms M cl sl Q pc lv (.int x :: st) n h := by
  intro l D p e s m args below meth c H locs ls ad ad0 ac A n0 hA hS hAA hSim hlv hn0 had hcl hsl
  exact lv_if_eq hA.1 hA.2.1 hd (mm_tg_eq ht) (fun z => ((kt z) l D p e s m args below meth c H locs ls ad ad0 ac A n0 hA hS hAA hSim hlv hn0 had hcl hsl)) (fun z => ((kf z) l D p e s m args below meth c H locs ls ad ad0 ac A n0 hA hS hAA hSim hlv hn0 had hcl hsl))
theorem sn_if_ne {x : Int32} {off : Int} (hd : decode M.2.1 pc = .ok (.ifCond .ne off, 3)) (ht : 0 ≤ (pc : Int) + off) (kt : ¬ x = 0 → G d mc ms M cl sl Q (mm_tg pc off) lv st n h) (kf : x = 0 → G d mc ms M cl sl Q (pc + 3) lv st n h) : G d mc ms M cl sl Q pc lv (.int x :: st) n h := by
  intro l D p e s m args below meth c H locs ls ad ad0 ac A n0 hA hS hAA hSim hlv hn0 had hcl hsl
  exact lv_if_ne hA.1 hA.2.1 hd (mm_tg_eq ht) (fun z => ((kt z) l D p e s m args below meth c H locs ls ad ad0 ac A n0 hA hS hAA hSim hlv hn0 had hcl hsl)) (fun z => ((kf z) l D p e s m args below meth c H locs ls ad ad0 ac A n0 hA hS hAA hSim hlv hn0 had hcl hsl))
theorem sn_if_lt {x : Int32} {off : Int} (hd : decode M.2.1 pc = .ok (.ifCond .lt off, 3)) (ht : 0 ≤ (pc : Int) + off) (kt : x < 0 → G d mc ms M cl sl Q (mm_tg pc off) lv st n h) (kf : ¬ (x < 0) → G d mc ms M cl sl Q (pc + 3) lv st n h) : G d mc ms M cl sl Q pc lv (.int x :: st) n h := by
  intro l D p e s m args below meth c H locs ls ad ad0 ac A n0 hA hS hAA hSim hlv hn0 had hcl hsl
  exact lv_if_lt hA.1 hA.2.1 hd (mm_tg_eq ht) (fun z => ((kt z) l D p e s m args below meth c H locs ls ad ad0 ac A n0 hA hS hAA hSim hlv hn0 had hcl hsl)) (fun z => ((kf z) l D p e s m args below meth c H locs ls ad ad0 ac A n0 hA hS hAA hSim hlv hn0 had hcl hsl))
theorem sn_if_ge {x : Int32} {off : Int} (hd : decode M.2.1 pc = .ok (.ifCond .ge off, 3)) (ht : 0 ≤ (pc : Int) + off) (kt : 0 ≤ x → G d mc ms M cl sl Q (mm_tg pc off) lv st n h) (kf : ¬ (0 ≤ x) → G d mc ms M cl sl Q (pc + 3) lv st n h) : G d mc ms M cl sl Q pc lv (.int x :: st) n h := by
  intro l D p e s m args below meth c H locs ls ad ad0 ac A n0 hA hS hAA hSim hlv hn0 had hcl hsl
  exact lv_if_ge hA.1 hA.2.1 hd (mm_tg_eq ht) (fun z => ((kt z) l D p e s m args below meth c H locs ls ad ad0 ac A n0 hA hS hAA hSim hlv hn0 had hcl hsl)) (fun z => ((kf z) l D p e s m args below meth c H locs ls ad ad0 ac A n0 hA hS hAA hSim hlv hn0 had hcl hsl))
theorem sn_if_gt {x : Int32} {off : Int} (hd : decode M.2.1 pc = .ok (.ifCond .gt off, 3)) (ht : 0 ≤ (pc : Int) + off) (kt : 0 < x → G d mc ms M cl sl Q (mm_tg pc off) lv st n h) (kf : ¬ (0 < x) → G d mc ms M cl sl Q (pc + 3) lv st n h) : G d mc ms M cl sl Q pc lv (.int x :: st) n h := by
  intro l D p e s m args below meth c H locs ls ad ad0 ac A n0 hA hS hAA hSim hlv hn0 had hcl hsl
  exact lv_if_gt hA.1 hA.2.1 hd (mm_tg_eq ht) (fun z => ((kt z) l D p e s m args below meth c H locs ls ad ad0 ac A n0 hA hS hAA hSim hlv hn0 had hcl hsl)) (fun z => ((kf z) l D p e s m args below meth c H locs ls ad ad0 ac A n0 hA hS hAA hSim hlv hn0 had hcl hsl))
theorem sn_if_le {x : Int32} {off : Int} (hd : decode M.2.1 pc = .ok (.ifCond .le off, 3)) (ht : 0 ≤ (pc : Int) + off) (kt : x ≤ 0 → G d mc ms M cl sl Q (mm_tg pc off) lv st n h) (kf : ¬ (x ≤ 0) → G d mc ms M cl sl Q (pc + 3) lv st n h) : G d mc ms M cl sl Q pc lv (.int x :: st) n h := by
  intro l D p e s m args below meth c H locs ls ad ad0 ac A n0 hA hS hAA hSim hlv hn0 had hcl hsl
  exact lv_if_le hA.1 hA.2.1 hd (mm_tg_eq ht) (fun z => ((kt z) l D p e s m args below meth c H locs ls ad ad0 ac A n0 hA hS hAA hSim hlv hn0 had hcl hsl)) (fun z => ((kf z) l D p e s m args below meth c H locs ls ad ad0 ac A n0 hA hS hAA hSim hlv hn0 had hcl hsl))
theorem sn_icmp_eq {x y : Int32} {off : Int} (hd : decode M.2.1 pc = .ok (.if_icmp .eq off, 3)) (ht : 0 ≤ (pc : Int) + off) (kt : x = y → G d mc ms M cl sl Q (mm_tg pc off) lv st n h) (kf : ¬ (x = y) → G d mc ms M cl sl Q (pc + 3) lv st n h) : G d mc ms M cl sl Q pc lv (.int y :: .int x :: st) n h := by
  intro l D p e s m args below meth c H locs ls ad ad0 ac A n0 hA hS hAA hSim hlv hn0 had hcl hsl
  exact lv_icmp_eq hA.1 hA.2.1 hd (mm_tg_eq ht) (fun z => (kt z l D p e s m args below meth c H locs ls ad ad0 ac A n0 hA hS hAA hSim hlv hn0 had hcl hsl)) (fun z => (kf z l D p e s m args below meth c H locs ls ad ad0 ac A n0 hA hS hAA hSim hlv hn0 had hcl hsl))
theorem sn_icmp_ne {x y : Int32} {off : Int} (hd : decode M.2.1 pc = .ok (.if_icmp .ne off, 3)) (ht : 0 ≤ (pc : Int) + off) (kt : ¬ x = y → G d mc ms M cl sl Q (mm_tg pc off) lv st n h) (kf : x = y → G d mc ms M cl sl Q (pc + 3) lv st n h) : G d mc ms M cl sl Q pc lv (.int y :: .int x :: st) n h := by
  intro l D p e s m args below meth c H locs ls ad ad0 ac A n0 hA hS hAA hSim hlv hn0 had hcl hsl
  exact lv_icmp_ne hA.1 hA.2.1 hd (mm_tg_eq ht) (fun z => (kt z l D p e s m args below meth c H locs ls ad ad0 ac A n0 hA hS hAA hSim hlv hn0 had hcl hsl)) (fun z => (kf z l D p e s m args below meth c H locs ls ad ad0 ac A n0 hA hS hAA hSim hlv hn0 had hcl hsl))
theorem sn_icmp_lt {x y : Int32} {off : Int} (hd : decode M.2.1 pc = .ok (.if_icmp .lt off, 3)) (ht : 0 ≤ (pc : Int) + off) (kt : x < y → G d mc ms M cl sl Q (mm_tg pc off) lv st n h) (kf : ¬ (x < y) → G d mc ms M cl sl Q (pc + 3) lv st n h) : G d mc ms M cl sl Q pc lv (.int y :: .int x :: st) n h := by
  intro l D p e s m args below meth c H locs ls ad ad0 ac A n0 hA hS hAA hSim hlv hn0 had hcl hsl
  exact lv_icmp_lt hA.1 hA.2.1 hd (mm_tg_eq ht) (fun z => (kt z l D p e s m args below meth c H locs ls ad ad0 ac A n0 hA hS hAA hSim hlv hn0 had hcl hsl)) (fun z => (kf z l D p e s m args below meth c H locs ls ad ad0 ac A n0 hA hS hAA hSim hlv hn0 had hcl hsl))
theorem sn_icmp_ge {x y : Int32} {off : Int} (hd : decode M.2.1 pc = .ok (.if_icmp .ge off, 3)) (ht : 0 ≤ (pc : Int) + off) (kt : y ≤ x → G d mc ms M cl sl Q (mm_tg pc off) lv st n h) (kf : ¬ (y ≤ x) → G d mc ms M cl sl Q (pc + 3) lv st n h) : G d mc ms M cl sl Q pc lv (.int y :: .int x :: st) n h := by
  intro l D p e s m args below meth c H locs ls ad ad0 ac A n0 hA hS hAA hSim hlv hn0 had hcl hsl
  exact lv_icmp_ge hA.1 hA.2.1 hd (mm_tg_eq ht) (fun z => (kt z l D p e s m args below meth c H locs ls ad ad0 ac A n0 hA hS hAA hSim hlv hn0 had hcl hsl)) (fun z => (kf z l D p e s m args below meth c H locs ls ad ad0 ac A n0 hA hS hAA hSim hlv hn0 had hcl hsl))
theorem sn_icmp_gt {x y : Int32} {off : Int} (hd : decode M.2.1 pc = .ok (.if_icmp .gt off, 3)) (ht : 0 ≤ (pc : Int) + off) (kt : y < x → G d mc ms M cl sl Q (mm_tg pc off) lv st n h) (kf : ¬ (y < x) → G d mc ms M cl sl Q (pc + 3) lv st n h) : G d mc ms M cl sl Q pc lv (.int y :: .int x :: st) n h := by
  intro l D p e s m args below meth c H locs ls ad ad0 ac A n0 hA hS hAA hSim hlv hn0 had hcl hsl
  exact lv_icmp_gt hA.1 hA.2.1 hd (mm_tg_eq ht) (fun z => (kt z l D p e s m args below meth c H locs ls ad ad0 ac A n0 hA hS hAA hSim hlv hn0 had hcl hsl)) (fun z => (kf z l D p e s m args below meth c H locs ls ad ad0 ac A n0 hA hS hAA hSim hlv hn0 had hcl hsl))
theorem sn_icmp_le {x y : Int32} {off : Int} (hd : decode M.2.1 pc = .ok (.if_icmp .le off, 3)) (ht : 0 ≤ (pc : Int) + off) (kt : x ≤ y → G d mc ms M cl sl Q (mm_tg pc off) lv st n h) (kf : ¬ (x ≤ y) → G d mc ms M cl sl Q (pc + 3) lv st n h) : G d mc ms M cl sl Q pc lv (.int y :: .int x :: st) n h := by
  intro l D p e s m args below meth c H locs ls ad ad0 ac A n0 hA hS hAA hSim hlv hn0 had hcl hsl
  exact lv_icmp_le hA.1 hA.2.1 hd (mm_tg_eq ht) (fun z => (kt z l D p e s m args below meth c H locs ls ad ad0 ac A n0 hA hS hAA hSim hlv hn0 had hcl hsl)) (fun z => (kf z l D p e s m args below meth c H locs ls ad ad0 ac A n0 hA hS hAA hSim hlv hn0 had hcl hsl))
theorem sn_goto {off : Int} (hd : decode M.2.1 pc = .ok (.goto off, 3)) (ht : 0 ≤ (pc : Int) + off) (k : G d mc ms M cl sl Q (mm_tg pc off) lv st n h) : G d mc ms M cl sl Q pc lv st n h := by
  intro l D p e s m args below meth c H locs ls ad ad0 ac A n0 hA hS hAA hSim hlv hn0 had hcl hsl
  exact lv_goto hA.1 hA.2.1 hd (mm_tg_eq ht) (k l D p e s m args below meth c H locs ls ad ad0 ac A n0 hA hS hAA hSim hlv hn0 had hcl hsl)
theorem sn_ifnonnull {x : Nat} {off : Int} (hd : decode M.2.1 pc = .ok (.ifnonnull off, 3)) (ht : 0 ≤ (pc : Int) + off) (k : G d mc ms M cl sl Q (mm_tg pc off) lv st n h) : G d mc ms M cl sl Q pc lv (.ref x :: st) n h := by
  intro l D p e s m args below meth c H locs ls ad ad0 ac A n0 hA hS hAA hSim hlv hn0 had hcl hsl
  exact lv_ifnonnull hA.1 hA.2.1 hd (mm_tg_eq ht) (k l D p e s m args below meth c H locs ls ad ad0 ac A n0 hA hS hAA hSim hlv hn0 had hcl hsl)
theorem sn_ifnonnullN {off : Int} (hd : decode M.2.1 pc = .ok (.ifnonnull off, 3)) (k : G d mc ms M cl sl Q (pc + 3) lv st n h) : G d mc ms M cl sl Q pc lv (.null :: st) n h := by
  intro l D p e s m args below meth c H locs ls ad ad0 ac A n0 hA hS hAA hSim hlv hn0 had hcl hsl
  exact lv_ifnonnullN hA.1 hA.2.1 hd (k l D p e s m args below meth c H locs ls ad ad0 ac A n0 hA hS hAA hSim hlv hn0 had hcl hsl)
theorem sn_ldc {own : String} {j : Nat} {v : Int32} (ho : M.1.cls = own) (hw : Cond.constant own j v ∈ mm_gw) (hd : decode M.2.1 pc = .ok (.ldc j, 2)) (k : G d mc ms M cl sl Q (pc + 2) lv (.int v :: st) n h) : G d mc ms M cl sl Q pc lv st n h := by
  intro l D p e s m args below meth c H locs ls ad ad0 ac A n0 hA hS hAA hSim hlv hn0 had hcl hsl
  subst ho; exact lv_ldc hA.1 hA.2.1 hA.2.2.2.2.1 (hA.2.2.2.2.2.1 _ (List.mem_cons_of_mem _ hw)) hd (k l D p e s m args below meth c H locs ls ad ad0 ac A n0 hA hS hAA hSim hlv hn0 had hcl hsl)
theorem sn_ldcw {own : String} {j : Nat} {v : Int32} (ho : M.1.cls = own) (hw : Cond.constant own j v ∈ mm_gw) (hd : decode M.2.1 pc = .ok (.ldc_w j, 3)) (k : G d mc ms M cl sl Q (pc + 3) lv (.int v :: st) n h) : G d mc ms M cl sl Q pc lv st n h := by
  intro l D p e s m args below meth c H locs ls ad ad0 ac A n0 hA hS hAA hSim hlv hn0 had hcl hsl
  subst ho; exact lv_ldcw hA.1 hA.2.1 hA.2.2.2.2.1 (hA.2.2.2.2.2.1 _ (List.mem_cons_of_mem _ hw)) hd (k l D p e s m args below meth c H locs ls ad ad0 ac A n0 hA hS hAA hSim hlv hn0 had hcl hsl)
theorem sn_ldc2 {own : String} {j : Nat} {v : Int64} (ho : M.1.cls = own) (hw : Cond.constantLong own j v ∈ mm_gw) (hd : decode M.2.1 pc = .ok (.ldc2_w j, 3)) (k : G d mc ms M cl sl Q (pc + 3) lv (.long v :: st) n h) : G d mc ms M cl sl Q pc lv st n h := by
  intro l D p e s m args below meth c H locs ls ad ad0 ac A n0 hA hS hAA hSim hlv hn0 had hcl hsl
  subst ho; exact lv_ldc2 hA.1 hA.2.1 hA.2.2.2.2.1 (hA.2.2.2.2.2.1 _ (List.mem_cons_of_mem _ hw)) hd (k l D p e s m args below meth c H locs ls ad ad0 ac A n0 hA hS hAA hSim hlv hn0 had hcl hsl)
end SN
