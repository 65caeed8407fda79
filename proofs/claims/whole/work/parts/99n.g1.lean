/-! A BODY SEEN FROM ITS FRAME: any end, any room; for the law's own methods and for those that throw -/
abbrev mm_Γ : Type := (Launch) × (va_G) × (Program) × (Env) × (State) × (MethodId) × (Array Value) × (List Frame) × (Method) × (Code) × (Nat → Prop) × (Room) × (State → Prop) × (Nat → Nat) × (Nat)
abbrev mm_Γ.l (Γ : mm_Γ) : Launch := Γ.1
abbrev mm_Γ.D (Γ : mm_Γ) : va_G := Γ.2.1
abbrev mm_Γ.p (Γ : mm_Γ) : Program := Γ.2.2.1
abbrev mm_Γ.e (Γ : mm_Γ) : Env := Γ.2.2.2.1
abbrev mm_Γ.s (Γ : mm_Γ) : State := Γ.2.2.2.2.1
abbrev mm_Γ.m (Γ : mm_Γ) : MethodId := Γ.2.2.2.2.2.1
abbrev mm_Γ.args (Γ : mm_Γ) : Array Value := Γ.2.2.2.2.2.2.1
abbrev mm_Γ.below (Γ : mm_Γ) : List Frame := Γ.2.2.2.2.2.2.2.1
abbrev mm_Γ.meth (Γ : mm_Γ) : Method := Γ.2.2.2.2.2.2.2.2.1
abbrev mm_Γ.c (Γ : mm_Γ) : Code := Γ.2.2.2.2.2.2.2.2.2.1
abbrev mm_Γ.A (Γ : mm_Γ) : Nat → Prop := Γ.2.2.2.2.2.2.2.2.2.2.1
abbrev mm_Γ.R (Γ : mm_Γ) : Room := Γ.2.2.2.2.2.2.2.2.2.2.2.1
abbrev mm_Γ.P (Γ : mm_Γ) : State → Prop := Γ.2.2.2.2.2.2.2.2.2.2.2.2.1
abbrev mm_Γ.ad0 (Γ : mm_Γ) : Nat → Nat := Γ.2.2.2.2.2.2.2.2.2.2.2.2.2.1
abbrev mm_Γ.n0 (Γ : mm_Γ) : Nat := Γ.2.2.2.2.2.2.2.2.2.2.2.2.2.2
def mm_AtZ (p : Program) (s : State) (m : MethodId) (args : Array Value) (meth : Method) (c : Code) (M : mm_M) : Prop :=
  p.tables.exec = Jvm.exec ∧ c.code = M.2.1 ∧ meth.sig.returnType = M.2.2.2 ∧ c.maxLocals = M.2.2.1 ∧ s.vm.findClass M.1.cls = some m.cls ∧ (∀ w ∈ mm_gw, w.before args s = true) ∧ meth.locks = false
def GZ (Γ : mm_Γ) (M : mm_M) (cl sl : Nat) (pc : Nat) (lv st : List Value) (n : Nat) (h : mm_H) : Prop :=
  ∀ (H : Heap) (locs : List Loc) (ls : Array Slot) (ad : Nat → Nat) (ac : Nat → ClassId),
    mm_AtZ Γ.p Γ.s Γ.m Γ.args Γ.meth Γ.c M → va_S Γ.A Γ.s.heap H locs → (∀ q : Nat, Γ.s.heap.size ≤ q → Γ.A q) → mm_Sim Γ.D ad ac n h Γ.A Γ.s H → mm_lv ad lv ls M.2.2.1 → Γ.n0 ≤ n → (∀ k, k < Γ.n0 ∨ n ≤ k → ad k = Γ.ad0 k) →
    W Γ.p Γ.l Γ.e Γ.R Γ.s Γ.m Γ.args Γ.below Γ.meth Γ.c H locs cl sl Γ.P (F0 Γ.m pc ls (st.map (mm_t ad)))
section GZ1
variable {Γ : mm_Γ} {M : mm_M} {cl sl : Nat} {pc : Nat} {lv st : List Value} {n : Nat} {h : mm_H}
theorem gz_iconst {j : Int} (hd : decode M.2.1 pc = .ok (.iconst j, 1))  (k : GZ Γ M cl sl (pc + 1) lv (.int (Int32.ofInt j) :: st) n h) : GZ Γ M cl sl pc lv st n h := by
  intro H locs ls ad ac hA hS hAA hSim hlv hn0 had
  exact lv_iconst hA.1 hA.2.1 hd rfl (k H locs ls ad ac hA hS hAA hSim hlv hn0 had)
theorem gz_bipush {j : Int} (hd : decode M.2.1 pc = .ok (.bipush j, 2))  (k : GZ Γ M cl sl (pc + 2) lv (.int (Int8.ofInt j).toInt32 :: st) n h) : GZ Γ M cl sl pc lv st n h := by
  intro H locs ls ad ac hA hS hAA hSim hlv hn0 had
  exact lv_bipush hA.1 hA.2.1 hd rfl (k H locs ls ad ac hA hS hAA hSim hlv hn0 had)
theorem gz_sipush {j : Int} (hd : decode M.2.1 pc = .ok (.sipush j, 3))  (k : GZ Γ M cl sl (pc + 3) lv (.int (Int16.ofInt j).toInt32 :: st) n h) : GZ Γ M cl sl pc lv st n h := by
  intro H locs ls ad ac hA hS hAA hSim hlv hn0 had
  exact lv_sipush hA.1 hA.2.1 hd rfl (k H locs ls ad ac hA hS hAA hSim hlv hn0 had)
theorem gz_aload_n {j : Fin 4} {x : Nat} (hd : decode M.2.1 pc = .ok (.aload_n j, 1)) (hl : lv[(j : Nat)]? = some (.ref x)) (k : GZ Γ M cl sl (pc + 1) lv (.ref x :: st) n h) : GZ Γ M cl sl pc lv st n h := by
  intro H locs ls ad ac hA hS hAA hSim hlv hn0 had
  exact lv_aload_n hA.1 hA.2.1 hd rfl (hlv.2.2.2 j _ hl (by intro z; cases z)) (k H locs ls ad ac hA hS hAA hSim hlv hn0 had)
theorem gz_aload {j : Nat} {x : Nat} (hd : decode M.2.1 pc = .ok (.aload j, 2)) (hl : lv[j]? = some (.ref x)) (k : GZ Γ M cl sl (pc + 2) lv (.ref x :: st) n h) : GZ Γ M cl sl pc lv st n h := by
  intro H locs ls ad ac hA hS hAA hSim hlv hn0 had
  exact lv_aload hA.1 hA.2.1 hd (hlv.2.2.2 j _ hl (by intro z; cases z)) (k H locs ls ad ac hA hS hAA hSim hlv hn0 had)
theorem gz_iload_n {j : Fin 4} {x : Int32} (hd : decode M.2.1 pc = .ok (.iload_n j, 1)) (hl : lv[(j : Nat)]? = some (.int x)) (k : GZ Γ M cl sl (pc + 1) lv (.int x :: st) n h) : GZ Γ M cl sl pc lv st n h := by
  intro H locs ls ad ac hA hS hAA hSim hlv hn0 had
  exact lv_iload_n hA.1 hA.2.1 hd rfl (hlv.2.2.2 j _ hl (by intro z; cases z)) (k H locs ls ad ac hA hS hAA hSim hlv hn0 had)
theorem gz_iload {j : Nat} {x : Int32} (hd : decode M.2.1 pc = .ok (.iload j, 2)) (hl : lv[j]? = some (.int x)) (k : GZ Γ M cl sl (pc + 2) lv (.int x :: st) n h) : GZ Γ M cl sl pc lv st n h := by
  intro H locs ls ad ac hA hS hAA hSim hlv hn0 had
  exact lv_iload hA.1 hA.2.1 hd (hlv.2.2.2 j _ hl (by intro z; cases z)) (k H locs ls ad ac hA hS hAA hSim hlv hn0 had)
theorem gz_istore_n {j : Fin 4} {x : Int32} (hd : decode M.2.1 pc = .ok (.istore_n j, 1)) (hj : (j : Nat) < M.2.2.1) (k : GZ Γ M cl sl (pc + 1) (mm_set lv (j : Nat) (.int x)) st n h) : GZ Γ M cl sl pc lv (.int x :: st) n h := by
  intro H locs ls ad ac hA hS hAA hSim hlv hn0 had
  exact lv_istore_n hA.1 hA.2.1 hd rfl (mm_lv_has hlv) hj rfl (fun ls1 hl1 => (k H locs ls1 ad ac hA hS hAA hSim (mm_lv_st1 (v := .int x) hlv hl1) hn0 had))
theorem gz_istore {j : Nat} {x : Int32} (hd : decode M.2.1 pc = .ok (.istore j, 2)) (hj : j < M.2.2.1) (k : GZ Γ M cl sl (pc + 2) (mm_set lv j (.int x)) st n h) : GZ Γ M cl sl pc lv (.int x :: st) n h := by
  intro H locs ls ad ac hA hS hAA hSim hlv hn0 had
  exact lv_istore hA.1 hA.2.1 hd (mm_lv_has hlv) hj rfl (fun ls1 hl1 => (k H locs ls1 ad ac hA hS hAA hSim (mm_lv_st1 (v := .int x) hlv hl1) hn0 had))
theorem gz_astore_n {j : Fin 4} {x : Nat} (hd : decode M.2.1 pc = .ok (.astore_n j, 1)) (hj : (j : Nat) < M.2.2.1) (k : GZ Γ M cl sl (pc + 1) (mm_set lv (j : Nat) (.ref x)) st n h) : GZ Γ M cl sl pc lv (.ref x :: st) n h := by
  intro H locs ls ad ac hA hS hAA hSim hlv hn0 had
  exact lv_astore_n hA.1 hA.2.1 hd rfl (mm_lv_has hlv) hj rfl (fun ls1 hl1 => (k H locs ls1 ad ac hA hS hAA hSim (mm_lv_st1 (v := .ref x) hlv hl1) hn0 had))
theorem gz_astore {j : Nat} {x : Nat} (hd : decode M.2.1 pc = .ok (.astore j, 2)) (hj : j < M.2.2.1) (k : GZ Γ M cl sl (pc + 2) (mm_set lv j (.ref x)) st n h) : GZ Γ M cl sl pc lv (.ref x :: st) n h := by
  intro H locs ls ad ac hA hS hAA hSim hlv hn0 had
  exact lv_astore hA.1 hA.2.1 hd (mm_lv_has hlv) hj rfl (fun ls1 hl1 => (k H locs ls1 ad ac hA hS hAA hSim (mm_lv_st1 (v := .ref x) hlv hl1) hn0 had))
theorem gz_iinc {j : Nat} {z : Int} {x : Int32} (hd : decode M.2.1 pc = .ok (.iinc j z, 3)) (hl : lv[j]? = some (.int x)) (k : GZ Γ M cl sl (pc + 3) (mm_set lv j (.int (x + Int32.ofInt z))) st n h) : GZ Γ M cl sl pc lv st n h := by
  intro H locs ls ad ac hA hS hAA hSim hlv hn0 had
  obtain ⟨i, hi⟩ := List.getElem?_of_mem (mm_al_mem (ad := ad) hl (by intro z; cases z))
  exact lv_iinc hA.1 hA.2.1 hd (mm_lv_has hlv) hi rfl (by rw [← hlv.2.2.1]; exact (List.getElem?_eq_some_iff.mp hl).1) rfl (fun ls1 hl1 => (k H locs ls1 ad ac hA hS hAA hSim (mm_lv_st1 (v := .int (x + Int32.ofInt z)) hlv hl1) hn0 had))
theorem gz_iadd {x y : Int32} (hd : decode M.2.1 pc = .ok (.iadd, 1))  (k : GZ Γ M cl sl (pc + 1) lv (.int (x + y) :: st) n h) : GZ Γ M cl sl pc lv (.int y :: .int x :: st) n h := by
  intro H locs ls ad ac hA hS hAA hSim hlv hn0 had
  exact lv_iadd hA.1 hA.2.1 hd (k H locs ls ad ac hA hS hAA hSim hlv hn0 had)
theorem gz_isub {x y : Int32} (hd : decode M.2.1 pc = .ok (.isub, 1))  (k : GZ Γ M cl sl (pc + 1) lv (.int (x - y) :: st) n h) : GZ Γ M cl sl pc lv (.int y :: .int x :: st) n h := by
  intro H locs ls ad ac hA hS hAA hSim hlv hn0 had
  exact lv_isub hA.1 hA.2.1 hd (k H locs ls ad ac hA hS hAA hSim hlv hn0 had)
theorem gz_iand {x y : Int32} (hd : decode M.2.1 pc = .ok (.iand, 1))  (k : GZ Γ M cl sl (pc + 1) lv (.int (x &&& y) :: st) n h) : GZ Γ M cl sl pc lv (.int y :: .int x :: st) n h := by
  intro H locs ls ad ac hA hS hAA hSim hlv hn0 had
  exact lv_iand hA.1 hA.2.1 hd (k H locs ls ad ac hA hS hAA hSim hlv hn0 had)
theorem gz_i2l {x : Int32} (hd : decode M.2.1 pc = .ok (.i2l, 1))  (k : GZ Γ M cl sl (pc + 1) lv (.long x.toInt64 :: st) n h) : GZ Γ M cl sl pc lv (.int x :: st) n h := by
  intro H locs ls ad ac hA hS hAA hSim hlv hn0 had
  exact lv_i2l hA.1 hA.2.1 hd rfl (k H locs ls ad ac hA hS hAA hSim hlv hn0 had)
theorem gz_lcmp {x y : Int64} (hd : decode M.2.1 pc = .ok (.lcmp, 1))  (k : GZ Γ M cl sl (pc + 1) lv (.int (lg_cmp x y) :: st) n h) : GZ Γ M cl sl pc lv (.long y :: .long x :: st) n h := by
  intro H locs ls ad ac hA hS hAA hSim hlv hn0 had
  exact W.lcmp hA.1 hA.2.1 hd (k H locs ls ad ac hA hS hAA hSim hlv hn0 had)
theorem gz_dup {a : Value} (hd : decode M.2.1 pc = .ok (.dup, 1)) (ha : a.category = 1) (k : GZ Γ M cl sl (pc + 1) lv (a :: a :: st) n h) : GZ Γ M cl sl pc lv (a :: st) n h := by
  intro H locs ls ad ac hA hS hAA hSim hlv hn0 had
  exact lv_dup hA.1 hA.2.1 hd (by rw [mm_t_cat]; exact ha) (k H locs ls ad ac hA hS hAA hSim hlv hn0 had)
theorem gz_pop {a : Value} (hd : decode M.2.1 pc = .ok (.pop, 1)) (ha : a.category = 1) (k : GZ Γ M cl sl (pc + 1) lv st n h) : GZ Γ M cl sl pc lv (a :: st) n h := by
  intro H locs ls ad ac hA hS hAA hSim hlv hn0 had
  exact lv_pop hA.1 hA.2.1 hd (by rw [mm_t_cat]; exact ha) (k H locs ls ad ac hA hS hAA hSim hlv hn0 had)
theorem gz_if_eq {x : Int32} {off : Int} (hd : decode M.2.1 pc = .ok (.ifCond .eq off, 3)) (ht : 0 ≤ (pc : Int) + off) (kt : x = 0 → GZ Γ M cl sl (mm_tg pc off) lv st n h) (kf : ¬ (x = 0) → GZ Γ M cl sl (pc + 3) lv st n h) : GZ Γ M cl sl pc lv (.int x :: st) n h := by
  intro H locs ls ad ac hA hS hAA hSim hlv hn0 had
  exact lv_if_eq hA.1 hA.2.1 hd (mm_tg_eq ht) (fun z => ((kt z) H locs ls ad ac hA hS hAA hSim hlv hn0 had)) (fun z => ((kf z) H locs ls ad ac hA hS hAA hSim hlv hn0 had))
theorem gz_if_ne {x : Int32} {off : Int} (hd : decode M.2.1 pc = .ok (.ifCond .ne off, 3)) (ht : 0 ≤ (pc : Int) + off) (kt : ¬ x = 0 → GZ Γ M cl sl (mm_tg pc off) lv st n h) (kf : x = 0 → GZ Γ M cl sl (pc + 3) lv st n h) : GZ Γ M cl sl pc lv (.int x :: st) n h := by
  intro H locs ls ad ac hA hS hAA hSim hlv hn0 had
  exact lv_if_ne hA.1 hA.2.1 hd (mm_tg_eq ht) (fun z => ((kt z) H locs ls ad ac hA hS hAA hSim hlv hn0 had)) (fun z => ((kf z) H locs ls ad ac hA hS hAA hSim hlv hn0 had))
theorem gz_if_lt {x : Int32} {off : Int} (hd : decode M.2.1 pc = .ok (.ifCond .lt off, 3)) (ht : 0 ≤ (pc : Int) + off) (kt : x < 0 → GZ Γ M cl sl (mm_tg pc off) lv st n h) (kf : ¬ (x < 0) → GZ Γ M cl sl (pc + 3) lv st n h) : GZ Γ M cl sl pc lv (.int x :: st) n h := by
  intro H locs ls ad ac hA hS hAA hSim hlv hn0 had
  exact lv_if_lt hA.1 hA.2.1 hd (mm_tg_eq ht) (fun z => ((kt z) H locs ls ad ac hA hS hAA hSim hlv hn0 had)) (fun z => ((kf z) H locs ls ad ac hA hS hAA hSim hlv hn0 had))
theorem gz_if_ge {x : Int32} {off : Int} (hd : decode M.2.1 pc = .ok (.ifCond .ge off, 3)) (ht : 0 ≤ (pc : Int) + off) (kt : 0 ≤ x → GZ Γ M cl sl (mm_tg pc off) lv st n h) (kf : ¬ (0 ≤ x) → GZ Γ M cl sl (pc + 3) lv st n h) : GZ Γ M cl sl pc lv (.int x :: st) n h := by
  intro H locs ls ad ac hA hS hAA hSim hlv hn0 had
  exact lv_if_ge hA.1 hA.2.1 hd (mm_tg_eq ht) (fun z => ((kt z) H locs ls ad ac hA hS hAA hSim hlv hn0 had)) (fun z => ((kf z) H locs ls ad ac hA hS hAA hSim hlv hn0 had))
theorem gz_icmp_eq {x y : Int32} {off : Int} (hd : decode M.2.1 pc = .ok (.if_icmp .eq off, 3)) (ht : 0 ≤ (pc : Int) + off) (kt : x = y → GZ Γ M cl sl (mm_tg pc off) lv st n h) (kf : ¬ (x = y) → GZ Γ M cl sl (pc + 3) lv st n h) : GZ Γ M cl sl pc lv (.int y :: .int x :: st) n h := by
  intro H locs ls ad ac hA hS hAA hSim hlv hn0 had
  exact lv_icmp_eq hA.1 hA.2.1 hd (mm_tg_eq ht) (fun z => (kt z H locs ls ad ac hA hS hAA hSim hlv hn0 had)) (fun z => (kf z H locs ls ad ac hA hS hAA hSim hlv hn0 had))
theorem gz_icmp_ne {x y : Int32} {off : Int} (hd : decode M.2.1 pc = .ok (.if_icmp .ne off, 3)) (ht : 0 ≤ (pc : Int) + off) (kt : ¬ x = y → GZ Γ M cl sl (mm_tg pc off) lv st n h) (kf : x = y → GZ Γ M cl sl (pc + 3) lv st n h) : GZ Γ M cl sl pc lv (.int y :: .int x :: st) n h := by
  intro H locs ls ad ac hA hS hAA hSim hlv hn0 had
  exact lv_icmp_ne hA.1 hA.2.1 hd (mm_tg_eq ht) (fun z => (kt z H locs ls ad ac hA hS hAA hSim hlv hn0 had)) (fun z => (kf z H locs ls ad ac hA hS hAA hSim hlv hn0 had))
theorem gz_icmp_gt {x y : Int32} {off : Int} (hd : decode M.2.1 pc = .ok (.if_icmp .gt off, 3)) (ht : 0 ≤ (pc : Int) + off) (kt : y < x → GZ Γ M cl sl (mm_tg pc off) lv st n h) (kf : ¬ (y < x) → GZ Γ M cl sl (pc + 3) lv st n h) : GZ Γ M cl sl pc lv (.int y :: .int x :: st) n h := by
  intro H locs ls ad ac hA hS hAA hSim hlv hn0 had
  exact lv_icmp_gt hA.1 hA.2.1 hd (mm_tg_eq ht) (fun z => (kt z H locs ls ad ac hA hS hAA hSim hlv hn0 had)) (fun z => (kf z H locs ls ad ac hA hS hAA hSim hlv hn0 had))
theorem gz_icmp_le {x y : Int32} {off : Int} (hd : decode M.2.1 pc = .ok (.if_icmp .le off, 3)) (ht : 0 ≤ (pc : Int) + off) (kt : x ≤ y → GZ Γ M cl sl (mm_tg pc off) lv st n h) (kf : ¬ (x ≤ y) → GZ Γ M cl sl (pc + 3) lv st n h) : GZ Γ M cl sl pc lv (.int y :: .int x :: st) n h := by
  intro H locs ls ad ac hA hS hAA hSim hlv hn0 had
  exact lv_icmp_le hA.1 hA.2.1 hd (mm_tg_eq ht) (fun z => (kt z H locs ls ad ac hA hS hAA hSim hlv hn0 had)) (fun z => (kf z H locs ls ad ac hA hS hAA hSim hlv hn0 had))
theorem gz_icmp_lt {x y : Int32} {off : Int} (hd : decode M.2.1 pc = .ok (.if_icmp .lt off, 3)) (ht : 0 ≤ (pc : Int) + off) (kt : x < y → GZ Γ M cl sl (mm_tg pc off) lv st n h) (kf : ¬ (x < y) → GZ Γ M cl sl (pc + 3) lv st n h) : GZ Γ M cl sl pc lv (.int y :: .int x :: st) n h := by
  intro H locs ls ad ac hA hS hAA hSim hlv hn0 had
  exact lv_icmp_lt hA.1 hA.2.1 hd (mm_tg_eq ht) (fun z => (kt z H locs ls ad ac hA hS hAA hSim hlv hn0 had)) (fun z => (kf z H locs ls ad ac hA hS hAA hSim hlv hn0 had))
theorem gz_icmp_ge {x y : Int32} {off : Int} (hd : decode M.2.1 pc = .ok (.if_icmp .ge off, 3)) (ht : 0 ≤ (pc : Int) + off) (kt : y ≤ x → GZ Γ M cl sl (mm_tg pc off) lv st n h) (kf : ¬ (y ≤ x) → GZ Γ M cl sl (pc + 3) lv st n h) : GZ Γ M cl sl pc lv (.int y :: .int x :: st) n h := by
  intro H locs ls ad ac hA hS hAA hSim hlv hn0 had
  exact lv_icmp_ge hA.1 hA.2.1 hd (mm_tg_eq ht) (fun z => (kt z H locs ls ad ac hA hS hAA hSim hlv hn0 had)) (fun z => (kf z H locs ls ad ac hA hS hAA hSim hlv hn0 had))
theorem gz_goto {off : Int} (hd : decode M.2.1 pc = .ok (.goto off, 3)) (ht : 0 ≤ (pc : Int) + off) (k : GZ Γ M cl sl (mm_tg pc off) lv st n h) : GZ Γ M cl sl pc lv st n h := by
  intro H locs ls ad ac hA hS hAA hSim hlv hn0 had
  exact lv_goto hA.1 hA.2.1 hd (mm_tg_eq ht) (k H locs ls ad ac hA hS hAA hSim hlv hn0 had)
theorem gz_land {x y : Int64} (hd : decode M.2.1 pc = .ok (.land, 1))  (k : GZ Γ M cl sl (pc + 1) lv (.long (x &&& y) :: st) n h) : GZ Γ M cl sl pc lv (.long y :: .long x :: st) n h := by
  intro H locs ls ad ac hA hS hAA hSim hlv hn0 had
  exact lv_land hA.1 hA.2.1 hd (k H locs ls ad ac hA hS hAA hSim hlv hn0 had)
theorem gz_lor {x y : Int64} (hd : decode M.2.1 pc = .ok (.lor, 1))  (k : GZ Γ M cl sl (pc + 1) lv (.long (x ||| y) :: st) n h) : GZ Γ M cl sl pc lv (.long y :: .long x :: st) n h := by
  intro H locs ls ad ac hA hS hAA hSim hlv hn0 had
  exact lv_lor hA.1 hA.2.1 hd (k H locs ls ad ac hA hS hAA hSim hlv hn0 had)
theorem gz_lshl {x : Int64} {y : Int32} (hd : decode M.2.1 pc = .ok (.lshl, 1))  (k : GZ Γ M cl sl (pc + 1) lv (.long (x <<< (y.toInt64 &&& 63)) :: st) n h) : GZ Γ M cl sl pc lv (.int y :: .long x :: st) n h := by
  intro H locs ls ad ac hA hS hAA hSim hlv hn0 had
  exact lv_lshl hA.1 hA.2.1 hd rfl (k H locs ls ad ac hA hS hAA hSim hlv hn0 had)
theorem gz_ldc2 {own : String} {j : Nat} {v : Int64} (ho : M.1.cls = own) (hw : Cond.constantLong own j v ∈ mm_gw) (hd : decode M.2.1 pc = .ok (.ldc2_w j, 3)) (k : GZ Γ M cl sl (pc + 3) lv (.long v :: st) n h) : GZ Γ M cl sl pc lv st n h := by
  intro H locs ls ad ac hA hS hAA hSim hlv hn0 had
  subst ho; exact lv_ldc2 hA.1 hA.2.1 hA.2.2.2.2.1 (hA.2.2.2.2.2.1 _ hw) hd (k H locs ls ad ac hA hS hAA hSim hlv hn0 had)
theorem gz_alen {r : Nat} {a : FieldType × vp_A} (hr : h r = some (.inl a)) (hd : decode M.2.1 pc = .ok (.arraylength, 1)) (kk : GZ Γ M cl sl (pc + 1) lv (.int (Int32.ofNat a.2.1) :: st) n h) : GZ Γ M cl sl pc lv (.ref r :: st) n h := by
  intro H locs ls ad ac hA hS hAA hSim hlv hn0 had
  exact va_alen (ws := mm_ws ad ac n h) (cl := mm_cl) (a := ad r) hA.1 hA.2.1 (mm_K1 hSim hr) hSim.2.1 r 0 (mm_ws_get (mm_lt hSim hr) hr) rfl rfl hd (kk H locs ls ad ac hA hS hAA hSim hlv hn0 had)
theorem gz_iald {r k : Nat} {f : Nat → Int32} {i : Int32} (hr : h r = some (.inl (.int, k, .inl f))) (hi : vp_in i k) (hd : decode M.2.1 pc = .ok (.iaload, 1)) (kk : GZ Γ M cl sl (pc + 1) lv (.int (f i.toNatClampNeg) :: st) n h) : GZ Γ M cl sl pc lv (.int i :: .ref r :: st) n h := by
  intro H locs ls ad ac hA hS hAA hSim hlv hn0 had
  exact va_iald (ws := mm_ws ad ac n h) (cl := mm_cl) (a := ad r) (n := k) (f := f) hA.1 hA.2.1 (mm_K1 hSim hr) hSim.2.1 r 0 (mm_ws_get (mm_lt hSim hr) hr) rfl hi hd (kk H locs ls ad ac hA hS hAA hSim hlv hn0 had)
theorem gz_lald {r k : Nat} {f : Nat → Int64} {i : Int32} (hr : h r = some (.inl (.long, k, .inr (.inl f)))) (hi : vp_in i k) (hd : decode M.2.1 pc = .ok (.laload, 1)) (kk : GZ Γ M cl sl (pc + 1) lv (.long (f i.toNatClampNeg) :: st) n h) : GZ Γ M cl sl pc lv (.int i :: .ref r :: st) n h := by
  intro H locs ls ad ac hA hS hAA hSim hlv hn0 had
  exact va_lald (ws := mm_ws ad ac n h) (cl := mm_cl) (a := ad r) (n := k) (f := f) hA.1 hA.2.1 (mm_K1 hSim hr) hSim.2.1 r 0 (mm_ws_get (mm_lt hSim hr) hr) rfl hi hd (kk H locs ls ad ac hA hS hAA hSim hlv hn0 had)
theorem gz_last {r k : Nat} {f : Nat → Int64} {i : Int32} {x : Int64} (hr : h r = some (.inl (.long, k, .inr (.inl f)))) (hi : vp_in i k) (hd : decode M.2.1 pc = .ok (.lastore, 1)) (kk : GZ Γ M cl sl (pc + 1) lv st n (va_up h r (some (.inl (.long, k, .inr (.inl (vp_updL f i.toNatClampNeg x))))))) : GZ Γ M cl sl pc lv (.long x :: .int i :: .ref r :: st) n h := by
  intro H locs ls ad ac hA hS hAA hSim hlv hn0 had
  exact va_last (ws := mm_ws ad ac n h) (cl := mm_cl) (a := ad r) (n := k) (f := f) hA.1 hA.2.1 (mm_K1 hSim hr) hSim.2.1 hSim.2.2.1 hS r 0 (mm_ws_get (mm_lt hSim hr) hr) rfl hi hd (fun H1 locs1 hP1 hD1 hS1 => kk H1 locs1 ls ad ac hA hS1 hAA (mm_up hSim hr (c' := .inl (.long, k, .inr (.inl (vp_updL f i.toNatClampNeg x)))) hP1 hD1 (fun a ha => ⟨_, rfl, by cases ha; rfl⟩) (mm_kept hAA hS hS1)) hlv hn0 had)
theorem mm_bz {p : Program} {s : State} {m : MethodId} {args : Array Value} {meth : Method} {c : Code} (hA : mm_AtZ p s m args meth c M) {w : Cond} (hw : w ∈ mm_gw) : w.before args s = true := hA.2.2.2.2.2.1 _ hw
theorem gz_widen {cl' sl' : Nat} (h1 : cl ≤ cl') (h2 : sl ≤ sl') (k : GZ Γ M cl' sl' pc lv st n h) : GZ Γ M cl sl pc lv st n h := by
  intro H locs ls ad ac hA hS hAA hSim hlv hn0 had
  exact W.widen h1 h2 (k H locs ls ad ac hA hS hAA hSim hlv hn0 had)
theorem gz_newa {atype : ArrayType} {ty : FieldType} (hw : Cond.arrayClass (newarray.typeOf atype) ∈ mm_gw) (hty : newarray.typeOf atype = ty) (hn : n < 1000) (hno : ∀ k x, h k = some x → mm_nor n x) (hlvn : ∀ v ∈ lv, v ≠ .ref n) (hstn : ∀ v ∈ st, v ≠ .ref n) {i : Int32} {N : Nat} {a0 : vp_A} (ha : ∀ cA : ClassId, vp_cell cA a0 = arrV cA N (fun _ => defaultValue ty)) (ha0 : ∀ ad, mm_tA ad a0 = a0) (hi : ¬ i < 0) (hN : i.toNatClampNeg = N) (hbytes : N * componentBytes ty ≤ 536870912) (hcl : cl + 1 ≤ Γ.R.cells) (hsl : sl + N ≤ Γ.R.slots) (hd : decode M.2.1 pc = .ok (.newarray atype, 2))
    (kk : GZ Γ M (cl + 1) (sl + N) (pc + 2) lv (.ref n :: st) (n + 1) (va_up h n (some (.inl (ty, a0))))) : GZ Γ M cl sl pc lv (.int i :: st) n h := by
  intro H locs ls ad ac hA hS hAA hSim hlv hn0 had
  refine va_newa (ws := mm_ws ad ac n h) (cl := mm_cl) (tys := []) (D := Γ.D) hA.1 hA.2.1 (mm_bz hA hw) hty hSim.2.2.2.1 hSim.2.1 hSim.2.2.1 hS hAA ha hi hN hbytes hcl hsl hd (fun q cA H1 hK1 hP1 hD1 hS1 => ?_)
  have e1 : mm_tC (va_up ad n q) (va_up ac n cA) n (.inl (ty, a0)) = .inl (cA, a0) := by
    simp only [mm_tC, ha0]
    simp [va_up]
  have hS' := mm_push (q := q) (cA := cA) (c := .inl (ty, a0)) (H1 := H1) hSim hn hno (by rw [e1]; exact hP1) (by rw [e1]; exact hD1) (fun a ha => by cases ha; exact hK1.2 0 _ rfl) (mm_kept hAA hS hS1)
  have := kk H1 locs ls (va_up ad n q) (va_up ac n cA) hA hS1 hAA hS' (mm_lv_up hlv hlvn) (by omega) (fun k hk => by
    rw [show va_up ad n q k = ad k by simp [va_up, show k ≠ n by omega]]
    exact had k (by omega))
  rw [List.map_cons, mm_st_up hstn, show mm_t (va_up ad n q) (.ref n) = .ref q by simp [mm_t, va_up]] at this
  exact this
theorem gz_new {own : String} {q : vw_C} {ci index : Nat} (hq : mm_cl[ci]? = some q) (hok : mm_okc q) (ho : M.1.cls = own) (hlk : Cond.classLink own index q.1 ∈ mm_gw) (hinst : Cond.instantiable q.1 q.2.2 ∈ mm_gw) (hini : Cond.initialized q.1 ∈ mm_gw) (hn : n < 1000) (hno : ∀ k x, h k = some x → mm_nor n x) (hlvn : ∀ v ∈ lv, v ≠ .ref n) (hstn : ∀ v ∈ st, v ≠ .ref n) {fs : List Value} (ty : Nat → FieldType) (hty : ∀ k, k < q.2.2 → parseFieldDescriptor (q.2.1 k).2.2.1 = some (ty k)) (hfs : ∀ j, j < q.2.2 → defaultValue (ty j) = vp_V fs j) (hfr : ∀ v ∈ fs, ∀ k, v ≠ .ref k) (hcl : cl + 1 ≤ Γ.R.cells) (hsl : sl + q.2.2 ≤ Γ.R.slots) (hd : decode M.2.1 pc = .ok (.new index, 3))
    (kk : GZ Γ M (cl + 1) (sl + q.2.2) (pc + 3) lv (.ref n :: st) (n + 1) (va_up h n (some (.inr (ci, fs))))) : GZ Γ M cl sl pc lv st n h := by
  subst ho
  intro H locs ls ad ac hA hS hAA hSim hlv hn0 had
  refine va_new (ws := mm_ws ad ac n h) (cl := mm_cl) (tys := []) (D := Γ.D) (C := q.1) (T := q.2.1) (N := q.2.2) (ci := ci) (Ts := mm_gw) (fs := fs) hA.1 hA.2.1 (fun w hw => mm_bz hA hw) hok.1 ty hty hA.2.2.2.2.1 (mm_bz hA hlk) (mm_bz hA hinst) (mm_bz hA hini) hSim.2.2.2.1 hSim.2.1 hSim.2.2.1 hS hAA hq hfs hcl hsl hd (fun x H1 hP1 hD1 hS1 => ?_)
  have e1 : mm_tC (va_up ad n x) (va_up ac n (ac n)) n (.inr (ci, fs)) = .inr (ci, fs) := by
    simp only [mm_tC]
    congr 2
    have : fs.map (mm_t (va_up ad n x)) = fs.map id := List.map_congr_left (fun v hv => by
      have := hfr v hv
      cases v with
      | ref k => exact absurd rfl (this k)
      | _ => rfl)
    rw [this, List.map_id]
  have hS' := mm_push (q := x) (cA := ac n) (c := .inr (ci, fs)) (H1 := H1) hSim hn hno (by rw [e1]; exact hP1) (by rw [e1]; exact hD1) (fun a ha => by cases ha) (mm_kept hAA hS hS1)
  have := kk H1 locs ls (va_up ad n x) (va_up ac n (ac n)) hA hS1 hAA hS' (mm_lv_up hlv hlvn) (by omega) (fun k hk => by
    rw [show va_up ad n x k = ad k by simp [va_up, show k ≠ n by omega]]
    exact had k (by omega))
  rw [List.map_cons, mm_st_up hstn, show mm_t (va_up ad n x) (.ref n) = .ref x by simp [mm_t, va_up]] at this
  exact this
/-- behind a call -/
theorem gz_after {Q1 : mm_Q} {H : Heap} {locs : List Loc} {ls : Array Slot} {ad : Nat → Nat} {ac : Nat → ClassId} {mc' ms' : Nat} {a : Array Value} {st0 : List Value}
    (hA : mm_AtZ Γ.p Γ.s Γ.m Γ.args Γ.meth Γ.c M) (hS : va_S Γ.A Γ.s.heap H locs) (hAA : ∀ q : Nat, Γ.s.heap.size ≤ q → Γ.A q) (hSim : mm_Sim Γ.D ad ac n h Γ.A Γ.s H) (hlv : mm_lv ad lv ls M.2.2.1) (hn0 : Γ.n0 ≤ n) (had : ∀ k, k < Γ.n0 ∨ n ≤ k → ad k = Γ.ad0 k)
    (hQ1 : ∀ v n' h', Q1 v n' h' → (n' ≤ 1000 ∧ ∀ k, (h' k).isSome = true ↔ k < n') → (∀ ad' : Nat → Nat, (∀ k, k < n ∨ n' ≤ k → ad' k = ad k) → lv.map (mm_t ad') = lv.map (mm_t ad) ∧ st.map (mm_t ad') = st.map (mm_t ad)) ∧ GZ Γ M (cl + mc') (sl + ms') (pc + 3) lv (v.toList ++ st) n' h')
    (hrun : va_Run Γ.p Γ.l Γ.e Γ.R Γ.s Γ.m Γ.args Γ.below Γ.meth Γ.c H locs cl sl mc' ms' (F0 Γ.m pc ls st0) (st.map (mm_t ad)) (mm_Qc Γ.D ad n (va_A (mm_ws ad ac n h) H.size) Q1 a) (va_A (mm_ws ad ac n h) H.size)) :
    W Γ.p Γ.l Γ.e Γ.R Γ.s Γ.m Γ.args Γ.below Γ.meth Γ.c H locs cl sl Γ.P (F0 Γ.m pc ls st0) := by
  intro T hT X
  obtain ⟨v, st₀, t, T', L, h0, X', hL, e1, e2, ⟨⟨r, n', h', ad', ac', hv, hq1, hnn, had', hSim'⟩, hz, hk⟩, stp⟩ := hrun T hT X
  obtain ⟨hlvst, hG⟩ := hQ1 _ _ _ hq1 hSim'.1
  cases hv
  have hsub := mm_A_sub hS hAA hSim
  rw [h0] at hz hk
  have hvm : Γ.s.vm.Alike t.vm := by rw [← e2]; exact X'.warmed.alike
  have hS1 : va_S Γ.A Γ.s.heap t.heap (locs ++ L) := ⟨Nat.le_trans hS.1 hz, fun q h1 h2 => by
      rw [hk q (Nat.lt_of_lt_of_le h1 hS.1) (fun z => h2 (hsub q z))]; exact hS.2.1 q h1 h2, fun q hq => by
      rcases List.mem_append.mp hq with z | z
      · exact hS.2.2 q z
      · exact hsub _ (hL q z)⟩
  have hSim2 : mm_Sim Γ.D ad' ac' n' h' Γ.A Γ.s t.heap := by
    refine ⟨hSim'.1, hSim'.2.1, hSim'.2.2.1.weaken (fun k q _ z => hsub q.1 z), va_K.moved hvm.symm hSim'.2.2.2.1, fun k a ha => ⟨arrOfT_moved hvm.symm (hSim'.2.2.2.2.1 k a ha).1, (hSim'.2.2.2.2.1 k a ha).2.moved hvm.symm⟩, ?_⟩
    exact mm_Z_ad (fun k hk => had' k (Or.inr (Nat.le_trans hSim'.1.1 hk))) (mm_Z_kept (fun q h1 h2 => hk q h1 (fun z => h2 (hsub q z))) hSim.2.2.2.2.2)
  obtain ⟨hl1, hl2⟩ := hlvst ad' had'
  have hlv2 : mm_lv ad' lv ls M.2.2.1 := by
    refine ⟨hlv.1, hlv.2.1, hlv.2.2.1, fun i w hi hw => ?_⟩
    have h1 : (lv.map (mm_t ad'))[i]? = (lv.map (mm_t ad))[i]? := by rw [hl1]
    rw [List.getElem?_map, List.getElem?_map, hi] at h1
    have h2 : mm_t ad' w = mm_t ad w := Option.some.inj h1
    rw [h2]
    exact hlv.2.2.2 i w hi hw
  have hW := hG t.heap (locs ++ L) ls ad' ac' hA hS1 hAA hSim2 hlv2 (Nat.le_trans hn0 hnn) (fun k hk => (had' k (by omega)).trans (had k (by omega)))
  obtain ⟨t2, a1, b1⟩ := hW T' e1 X'
  refine ⟨t2, stp t2 ?_, b1⟩
  rw [List.map_append, hl2] at a1
  cases r <;> exact a1
theorem mm_goodZ {ws : List Cond} (hw : ∀ w ∈ ws, w ∈ mm_gw) : GoodIn mm_gw ws := fun w z => ⟨hw w z, good_of_word (List.mem_filter.mp (hw w z)).2⟩
theorem gz_room {d k mc' ms' : Nat} {R : Room} (h : k ≤ 21) (hR : d + 2 ≤ R.frames ∧ 40 * (d + 2) ≤ R.locals) : (mm_R d mc' ms').frames + 1 ≤ R.frames ∧ 8 + (k + 11) + (mm_R d mc' ms').locals ≤ R.locals := by
  refine ⟨hR.1, ?_⟩
  show 8 + (k + 11) + 40 * (d + 1) ≤ R.locals
  omega
theorem gz_callV {M' : mm_M} {Q1 : mm_Q} {d j r ci mc' ms' : Nat} {q : vw_C} {As fs : List Value} (hm : mm_okM M' As.length) (hlk : Cond.methodLink M.1.cls j M'.1 ∈ mm_gw) (hin : Cond.instanceMethod M'.1 ∈ mm_gw) (hse : Cond.selects M'.1.cls M'.1 M'.1 ∈ mm_gw) (hr : h r = some (.inr (ci, fs))) (hq : mm_cl[ci]? = some q) (hqc : q.1 = M'.1.cls) (hcat : (st.map fun v => v.category).sum ≤ 8) (hd : decode M.2.1 pc = .ok (.invokevirtual j, 3)) (hR : d + 2 ≤ Γ.R.frames ∧ 40 * (d + 2) ≤ Γ.R.locals) (hcl : cl + mc' ≤ Γ.R.cells) (hsl : sl + ms' ≤ Γ.R.slots)
    (hB : Body d mc' ms' M' (.ref r :: As) n h Q1)
    (hQ1 : ∀ v n' h', Q1 v n' h' → (n' ≤ 1000 ∧ ∀ k, (h' k).isSome = true ↔ k < n') → (∀ ad ad' : Nat → Nat, (∀ k, k < n ∨ n' ≤ k → ad' k = ad k) → lv.map (mm_t ad') = lv.map (mm_t ad) ∧ st.map (mm_t ad') = st.map (mm_t ad)) ∧ GZ Γ M (cl + mc') (sl + ms') (pc + 3) lv (v.toList ++ st) n' h') :
    GZ Γ M cl sl pc lv (As.reverse ++ .ref r :: st) n h := by
  intro H locs ls ad ac hA hS hAA hSim hlv hn0 had
  have hts := hA.2.2.2.2.2.1
  have hP := mm_preS (l := Γ.l) hS hAA hSim (.ref r :: As)
  refine gz_after hA hS hAA hSim hlv hn0 had (fun v n' h' z z2 => ⟨(hQ1 v n' h' z z2).1 ad, (hQ1 v n' h' z z2).2⟩) ?_ (a := ((.ref r :: As).map (mm_t ad)).toArray)
  exact va_runV (C := M'.1.cls) (As := As.map (mm_t ad)) (rest := st.map (mm_t ad)) (index := j) (bytes := M'.2.1) (maxL := M'.2.2.1) (ret := M'.2.2.2) (n := As.length) ⟨hA.1, hA.2.1, hA.2.2.2.1, hA.2.2.2.2.1, hts⟩ (hB Γ.l Γ.D ad ac H.size)
      ⟨callB_of As.length hts (mm_goodZ (mm_okM_ws hm)) rfl rfl rfl (hts _ hm.2.1) (hts _ hlk) hm.2.2.1 (gz_room hm.2.2.2 hR), hts _ hin, hts _ hse⟩
      ⟨hP.1, by rw [← hqc]; exact va_recv hSim.2.2.2.1 hSim.2.1 hq (mm_ws_get (mm_lt hSim hr) hr), hP.2⟩ rfl (by rw [List.length_map]) hlv.1 (mm_stk ad As r st) (lv_room (mm_cats ad hcat)) hd ⟨hcl, hsl⟩
theorem gz_callI {M' : mm_M} {Q1 : mm_Q} {d j r mc' ms' : Nat} {As : List Value} (hm : mm_okM M' As.length) (hret : M'.2.2.2 = none) (hlk : Cond.methodLink M.1.cls j M'.1 ∈ mm_gw) (hin : Cond.instanceMethod M'.1 ∈ mm_gw) (hnm : M'.1.name = "<init>") (hcat : (st.map fun v => v.category).sum ≤ 8) (hd : decode M.2.1 pc = .ok (.invokespecial j, 3)) (hR : d + 2 ≤ Γ.R.frames ∧ 40 * (d + 2) ≤ Γ.R.locals) (hcl : cl + mc' ≤ Γ.R.cells) (hsl : sl + ms' ≤ Γ.R.slots)
    (hB : Body d mc' ms' M' (.ref r :: As) n h Q1)
    (hQ1 : ∀ v n' h', Q1 v n' h' → (n' ≤ 1000 ∧ ∀ k, (h' k).isSome = true ↔ k < n') → (∀ ad ad' : Nat → Nat, (∀ k, k < n ∨ n' ≤ k → ad' k = ad k) → lv.map (mm_t ad') = lv.map (mm_t ad) ∧ st.map (mm_t ad') = st.map (mm_t ad)) ∧ GZ Γ M (cl + mc') (sl + ms') (pc + 3) lv (v.toList ++ st) n' h') :
    GZ Γ M cl sl pc lv (As.reverse ++ .ref r :: st) n h := by
  intro H locs ls ad ac hA hS hAA hSim hlv hn0 had
  have hts := hA.2.2.2.2.2.1
  have hP := mm_preS (l := Γ.l) hS hAA hSim (.ref r :: As)
  obtain ⟨y, bytes, maxL, ret⟩ := M'
  cases hret
  refine gz_after hA hS hAA hSim hlv hn0 had (fun v n' h' z z2 => ⟨(hQ1 v n' h' z z2).1 ad, (hQ1 v n' h' z z2).2⟩) ?_ (a := ((.ref r :: As).map (mm_t ad)).toArray)
  exact va_runI (As := As.map (mm_t ad)) (rest := st.map (mm_t ad)) (index := j) (bytes := bytes) (maxL := maxL) (n := As.length) ⟨hA.1, hA.2.1, hA.2.2.2.1, hA.2.2.2.2.1, hts⟩ (hB Γ.l Γ.D ad ac H.size)
      ⟨callB_of As.length hts (mm_goodZ (mm_okM_ws hm)) rfl rfl rfl (hts _ hm.2.1) (hts _ hlk) hm.2.2.1 (gz_room hm.2.2.2 hR), hnm, hts _ hin⟩
      hP rfl (by rw [List.length_map]) hlv.1 (mm_stk ad As r st) (lv_room (mm_cats ad hcat)) hd ⟨hcl, hsl⟩
/-- the script -/
def mm_scr (Γ : mm_Γ) (L : Nat) (xs : Nat → Int32) : Prop := va_X (Γ.ad0 1030) L xs Γ.s Γ.s.heap ∧ Γ.ad0 1030 < Γ.s.heap.size ∧ ¬ Γ.A (Γ.ad0 1030)
theorem gz_slen {L : Nat} {xs : Nat → Int32} (hX : mm_scr Γ L xs) (hd : decode M.2.1 pc = .ok (.arraylength, 1)) (kk : GZ Γ M cl sl (pc + 1) lv (.int (Int32.ofNat L) :: st) n h) : GZ Γ M cl sl pc lv (.ref 1030 :: st) n h := by
  intro H locs ls ad ac hA hS hAA hSim hlv hn0 had
  rw [List.map_cons, show mm_t ad (.ref 1030) = .ref (Γ.ad0 1030) by rw [← had 1030 (Or.inr (by have := hSim.1.1; omega))]; rfl]
  exact va_slen hA.1 hA.2.1 hX.1 hX.2.1 hX.2.2 hS hd (kk H locs ls ad ac hA hS hAA hSim hlv hn0 had)
theorem gz_sld {L : Nat} {xs : Nat → Int32} {i : Int32} (hX : mm_scr Γ L xs) (hi : vp_in i L) (hd : decode M.2.1 pc = .ok (.iaload, 1)) (kk : GZ Γ M cl sl (pc + 1) lv (.int (xs i.toNatClampNeg) :: st) n h) : GZ Γ M cl sl pc lv (.int i :: .ref 1030 :: st) n h := by
  intro H locs ls ad ac hA hS hAA hSim hlv hn0 had
  rw [List.map_cons, List.map_cons, show mm_t ad (.ref 1030) = .ref (Γ.ad0 1030) by rw [← had 1030 (Or.inr (by have := hSim.1.1; omega))]; rfl]
  exact va_sld hA.1 hA.2.1 hX.1 hX.2.1 hX.2.2 hS hi hd (kk H locs ls ad ac hA hS hAA hSim hlv hn0 had)
theorem gz_tabO {dflt lo hi : Int} {offs : Array Int} {len : Nat} {x : Int32} (hd : decode M.2.1 pc = .ok (.tableswitch dflt lo hi offs, len)) (hx : x.toInt < lo ∨ hi < x.toInt) (ht : 0 ≤ (pc : Int) + dflt) (kk : GZ Γ M cl sl (mm_tg pc dflt) lv st n h) : GZ Γ M cl sl pc lv (.int x :: st) n h := by
  intro H locs ls ad ac hA hS hAA hSim hlv hn0 had
  exact lv_tableOut hA.1 hA.2.1 hd hx (mm_tg_eq ht) (kk H locs ls ad ac hA hS hAA hSim hlv hn0 had)
theorem gz_tabI {dflt lo hi : Int} {offs : Array Int} {len : Nat} {x : Int32} {off : Int} (hd : decode M.2.1 pc = .ok (.tableswitch dflt lo hi offs, len)) (h1 : ¬ x.toInt < lo) (h2 : ¬ hi < x.toInt) (ho : offs[(x.toInt - lo).toNat]? = some off) (ht : 0 ≤ (pc : Int) + off) (kk : GZ Γ M cl sl (mm_tg pc off) lv st n h) : GZ Γ M cl sl pc lv (.int x :: st) n h := by
  intro H locs ls ad ac hA hS hAA hSim hlv hn0 had
  exact lv_tableIn hA.1 hA.2.1 hd h1 h2 ho (mm_tg_eq ht) (kk H locs ls ad ac hA hS hAA hSim hlv hn0 had)
end GZ1
