/-! THE LITTLE MACHINE. A heap of cells by small numbers (a reference is a number), locals by their places; each method is read as a predicate transformer over it; here: its words, and what it has to do with the machine of the Statement. -/
abbrev mm_C : Type := (FieldType × vp_A) ⊕ (Nat × List Value)
abbrev mm_H : Type := Nat → Option mm_C
abbrev mm_Q : Type := Option Value → Nat → mm_H → Prop
/-- a method: its name, its bytes, its locals, its answer's type -/
abbrev mm_M : Type := MethodName × ByteArray × Nat × Option FieldType
/-- references: from the little machine's numbers to addresses -/
def mm_t (ad : Nat → Nat) (v : Value) : Value := match v with
  | .ref k => .ref (ad k)
  | w => w
def mm_tA (ad : Nat → Nat) (a : vp_A) : vp_A := (a.1, match a.2 with
  | .inr (.inr (.inr (.inr f))) => .inr (.inr (.inr (.inr fun i => (f i).map ad)))
  | w => w)
def mm_tC (ad : Nat → Nat) (ac : Nat → ClassId) (k : Nat) (c : mm_C) : va_E := match c with
  | .inl a => .inl (ac k, mm_tA ad a.2)
  | .inr o => .inr (o.1, o.2.map (mm_t ad))
def mm_ws (ad : Nat → Nat) (ac : Nat → ClassId) (n : Nat) (h : mm_H) : va_W := (List.range n).map fun k => (ad k, mm_tC ad ac k ((h k).getD (.inr (0, []))))
/-- the classes whose objects the heap holds -/
def mm_cl : List vw_C := [(RX0, TX0, 3), (RX1, TX1, 2), (RX2, TX2, 7), (RX3, TX3, 4), (RX4, TX4, 14), (RX5, TX5, 2), (RX6, TX6, 2), (RX7, TX7, 7), (RX8, TX8, 9), (RX9, TX9, 5), (RX10, TX10, 3), (RX11, TX11, 14), (RX12, TX12, 52)]
def mm_gw : List Cond := lw_tbl.filter goodWord
def mm_w (M : mm_M) : List Cond := .code M.1 M.2.1 M.2.2.1 M.2.2.2 :: mm_gw
def mm_R (d mc ms : Nat) : Room := { frames := d + 1, cells := mc, slots := ms, locals := 40 * (d + 1) }
/-- links among nest mates: words that stay when the tables warm -/
def mm_nst : List Cond := [.methodLinkNest "BeatenAfternoon" 9 ⟨"BeatenAfternoon$Tape", "<init>", "()V"⟩ "BeatenAfternoon", .methodLinkNest "BeatenAfternoon" 18 ⟨"BeatenAfternoon$EstateReader", "<init>", "()V"⟩ "BeatenAfternoon", .methodLinkNest "BeatenAfternoon$EstateReader" 11 ⟨"BeatenAfternoon$Estate", "<init>", "()V"⟩ "BeatenAfternoon", .methodLinkNest "BeatenAfternoon$EstateReader" 20 ⟨"BeatenAfternoon$Season", "<init>", "()V"⟩ "BeatenAfternoon", .methodLinkNest "BeatenAfternoon" 25 ⟨"BeatenAfternoon$LawReader", "<init>", "()V"⟩ "BeatenAfternoon", .methodLinkNest "BeatenAfternoon" 32 ⟨"BeatenAfternoon$Ground", "<init>", "()V"⟩ "BeatenAfternoon", .methodLinkNest "BeatenAfternoon$Ground" 11 ⟨"BeatenAfternoon$Estate", "<init>", "()V"⟩ "BeatenAfternoon", .methodLinkNest "BeatenAfternoon$Ground" 20 ⟨"BeatenAfternoon$Season", "<init>", "()V"⟩ "BeatenAfternoon", .methodLinkNest "BeatenAfternoon" 63 ⟨"BeatenAfternoon$Past", "<init>", "()V"⟩ "BeatenAfternoon", .methodLinkNest "BeatenAfternoon" 70 ⟨"BeatenAfternoon$Sightings", "<init>", "()V"⟩ "BeatenAfternoon", .methodLinkNest "BeatenAfternoon" 77 ⟨"BeatenAfternoon$Claims", "<init>", "()V"⟩ "BeatenAfternoon", .methodLinkNest "BeatenAfternoon" 84 ⟨"BeatenAfternoon$Duel", "<init>", "()V"⟩ "BeatenAfternoon", .methodLinkNest "BeatenAfternoon$Ground" 118 ⟨"BeatenAfternoon", "isColumn", "(I)Z"⟩ "BeatenAfternoon", .methodLinkNest "BeatenAfternoon$Claims" 53 ⟨"BeatenAfternoon", "isColumn", "(I)Z"⟩ "BeatenAfternoon"]
theorem mm_nst_is : ∀ w ∈ mm_nst, ∃ a i x h, w = .methodLinkNest a i x h := by
  intro w hw
  simp only [mm_nst, List.mem_cons, List.not_mem_nil, or_false] at hw
  rcases hw with rfl | rfl | rfl | rfl | rfl | rfl | rfl | rfl | rfl | rfl | rfl | rfl | rfl | rfl <;> exact ⟨_, _, _, _, rfl⟩
/-- constant arrays of EstateReader, as references 1000 on; texts: 1010 on, their bytes 1020 on -/
def mm_xa : List (String × List Int32) := [("RULE_MOST", [8, 99, 9, 9]), ("RULE_WITHOUT", [4, 20, 0, 9]), ("THING_MOST", [9, 9, 8, 9, 3]), ("THING_WITHOUT", [0, 0, 4, 3, 0]), ("GUN_MOST", [9, 9]), ("GUN_WITHOUT", [0, 5])]
def mm_xs : List (List Int32) := [[119, 99, 108, 114], [120, 121, 102, 118, 107], [120, 115], [118, 107, 100, 115, 109, 110]]
/-- texts in the pools: class, place, text, reference -/
def mm_xr : List (String × Nat × String × Nat) := [("BeatenAfternoon$EstateReader", 82, "wclr", 1010), ("BeatenAfternoon$EstateReader", 97, "xyfvk", 1011), ("BeatenAfternoon$EstateReader", 120, "xs", 1012), ("BeatenAfternoon$LawReader", 79, "vkdsmn", 1013), ("BeatenAfternoon", 139, "no such thing, or nothing of it", 1014)]
/-- what is read there: an array, or a text by its bytes -/
def mm_ext (r : Nat) : Option ((FieldType × List Int32) ⊕ Nat) := match r with
  | 1000 => some (.inl (.int, [8, 99, 9, 9]))
  | 1001 => some (.inl (.int, [4, 20, 0, 9]))
  | 1002 => some (.inl (.int, [9, 9, 8, 9, 3]))
  | 1003 => some (.inl (.int, [0, 0, 4, 3, 0]))
  | 1004 => some (.inl (.int, [9, 9]))
  | 1005 => some (.inl (.int, [0, 5]))
  | 1010 => some (.inr 1020)
  | 1011 => some (.inr 1021)
  | 1012 => some (.inr 1022)
  | 1013 => some (.inr 1023)
  | 1020 => some (.inl (.byte, [119, 99, 108, 114]))
  | 1021 => some (.inl (.byte, [120, 121, 102, 118, 107]))
  | 1022 => some (.inl (.byte, [120, 115]))
  | 1023 => some (.inl (.byte, [118, 107, 100, 115, 109, 110]))
  | _ => none
/-- words on casts and declarations that an instruction asks for, and the array of laws -/
def mm_cst : List Cond := [.castable "[I" "java/lang/Cloneable", .castable "java/util/NoSuchElementException" "java/util/NoSuchElementException", .declares ⟨"java/lang/RuntimeException", "<init>", "()V"⟩, .declares ⟨"java/lang/RuntimeException", "<init>", "(Ljava/lang/String;)V"⟩, .declares ⟨"java/lang/Exception", "<init>", "()V"⟩, .declares ⟨"java/lang/Exception", "<init>", "(Ljava/lang/String;)V"⟩, .declares ⟨"java/lang/Throwable", "<init>", "()V"⟩, .declares ⟨"java/lang/Throwable", "<init>", "(Ljava/lang/String;)V"⟩]
theorem mm_cst_is : ∀ w ∈ mm_cst, (∃ a b, w = .castable a b) ∨ ∃ x, w = .declares x := by
  intro w hw
  simp only [mm_cst, List.mem_cons, List.not_mem_nil, or_false] at hw
  rcases hw with rfl | rfl | rfl | rfl | rfl | rfl | rfl | rfl
  · exact Or.inl ⟨_, _, rfl⟩
  · exact Or.inl ⟨_, _, rfl⟩
  all_goals exact Or.inr ⟨_, rfl⟩
def mm_Zc (U : State) : Prop := (∀ w ∈ mm_cst, va_Nw w U) ∧ va_AO "BeatenAfternoon$Law" U
theorem mm_Zc_al {u U : State} (hvm : u.vm.Alike U.vm) (h : mm_Zc u) : mm_Zc U := ⟨fun w hw => by
  have h1 := h.1 w hw
  rcases mm_cst_is w hw with ⟨a, b, rfl⟩ | ⟨x, rfl⟩
  · exact va_tabs rfl (rfl : (u.setVm U.vm).vm = U.vm) (by rw [Cond.castable_setVm hvm]; exact h1)
  · exact va_tabs rfl (rfl : (u.setVm U.vm).vm = U.vm) (by rw [Cond.declares_setVm hvm]; exact h1), va_AO.moved hvm h.2⟩
/-- what lies outside and is only read: constant arrays, texts, what a throw reads -/
def mm_Zx (ad : Nat → Nat) (A : Nat → Prop) (U : State) (H : Heap) : Prop :=
  (∀ i q, mm_xa[i]? = some q → va_Z "BeatenAfternoon$EstateReader" q.1 "[I" (.ref (ad (1000 + i))) A U H ∧ va_T .int (ad (1000 + i)) q.2.length (fun j => .int (q.2.getD j 0)) A U H) ∧
  va_Z "java/lang/String" "COMPACT_STRINGS" "Z" (.int 1) A U H ∧ vk_S 4 (mm_xs.map List.length) mm_xs (fun i => ad (1010 + i)) (fun i => ad (1020 + i)) A U H ∧
  (∀ q ∈ mm_xr, vk_R q.1 q.2.1 q.2.2.1 (ad q.2.2.2) U) ∧ vx_Zq Bundle.tN "UNASSIGNED_STACK" Bundle.steD A U H ∧ vx_Zq Bundle.tN "SUPPRESSED_SENTINEL" Bundle.listD A U H ∧ mm_Zc U
theorem mm_Zx_al {ad : Nat → Nat} {A : Nat → Prop} {u U : State} {H : Heap} (hvm : u.vm.Alike U.vm) (hR : ∀ own k tx a, vk_R own k tx a u → vk_R own k tx a U) (h : mm_Zx ad A u H) : mm_Zx ad A U H :=
  ⟨fun i q hq => ⟨va_Z.moved hvm (h.1 i q hq).1, va_T.moved hvm (h.1 i q hq).2⟩, va_Z.moved hvm h.2.1, vk_S.moved hvm h.2.2.1, fun q hq => hR _ _ _ _ (h.2.2.2.1 q hq), vx_Zq.moved hvm h.2.2.2.2.1, vx_Zq.moved hvm h.2.2.2.2.2.1, mm_Zc_al hvm h.2.2.2.2.2.2⟩
theorem mm_Zx_kept {ad : Nat → Nat} {A : Nat → Prop} {u : State} {H H1 : Heap} (hk : ∀ q : Nat, q < H.size → ¬ A q → H1[q]? = H[q]?) (h : mm_Zx ad A u H) : mm_Zx ad A u H1 :=
  ⟨fun i q hq => ⟨(h.1 i q hq).1.kept hk, (h.1 i q hq).2.kept hk⟩, h.2.1.kept hk, h.2.2.1.kept hk, h.2.2.2.1, h.2.2.2.2.1.kept hk, h.2.2.2.2.2.1.kept hk, h.2.2.2.2.2.2⟩
theorem mm_Zx_sub {ad : Nat → Nat} {A B : Nat → Prop} {u : State} {H : Heap} (hk : ∀ q : Nat, B q → A q) (h : mm_Zx ad A u H) : mm_Zx ad B u H :=
  ⟨fun i q hq => ⟨(h.1 i q hq).1.narrow hk, (h.1 i q hq).2.narrow hk⟩, h.2.1.narrow hk, h.2.2.1.narrow hk, h.2.2.2.1, h.2.2.2.2.1.narrow hk, h.2.2.2.2.2.1.narrow hk, h.2.2.2.2.2.2⟩
theorem mm_xr_hi : ∀ q ∈ mm_xr, 1000 ≤ q.2.2.2 := by decide
theorem mm_Zx_ad {ad ad' : Nat → Nat} {A : Nat → Prop} {u : State} {H : Heap} (hk : ∀ k : Nat, 1000 ≤ k → ad' k = ad k) (h : mm_Zx ad A u H) : mm_Zx ad' A u H := by
  have e1 : (fun i => ad' (1010 + i)) = fun i => ad (1010 + i) := funext fun i => hk _ (by omega)
  have e2 : (fun i => ad' (1020 + i)) = fun i => ad (1020 + i) := funext fun i => hk _ (by omega)
  refine ⟨fun i q hq => ?_, h.2.1, ?_, fun q hq => ?_, h.2.2.2.2⟩
  · rw [hk _ (by omega)]; exact h.1 i q hq
  · rw [e1, e2]; exact h.2.2.1
  · rw [hk _ (mm_xr_hi q hq)]; exact h.2.2.2.1 q hq
/-- .. and links among nest mates -/
def mm_Z (ad : Nat → Nat) (A : Nat → Prop) (U : State) (H : Heap) : Prop := (∀ w ∈ mm_nst, va_Nw w U) ∧ mm_Zx ad A U H
theorem mm_Z_warm {ad : Nat → Nat} {A : Nat → Prop} {u U : State} {H : Heap} (hW : u.WarmedH U.vm) (h : mm_Z ad A u H) : mm_Z ad A U H := ⟨fun w hw => by
  obtain ⟨a, i, x, k, rfl⟩ := mm_nst_is w hw
  exact va_Nw.warmM hW (h.1 _ hw), mm_Zx_al hW.alike (fun _ _ _ _ z => vk_R.warm hW z) h.2⟩
theorem mm_Z_same {ad : Nat → Nat} {A : Nat → Prop} {u U : State} {H : Heap} (hv : u.vm = U.vm) (h : mm_Z ad A u H) : mm_Z ad A U H := ⟨fun w hw => by
  obtain ⟨a, i, x, k, rfl⟩ := mm_nst_is w hw
  exact va_Nw.same rfl hv (h.1 _ hw), mm_Zx_al (by rw [← hv]; exact (State.WarmedH.refl u).alike) (fun _ _ _ _ z => vk_R.same hv.symm z) h.2⟩
theorem mm_Z_kept {ad : Nat → Nat} {A : Nat → Prop} {u : State} {H H1 : Heap} (hk : ∀ q : Nat, q < H.size → ¬ A q → H1[q]? = H[q]?) (h : mm_Z ad A u H) : mm_Z ad A u H1 := ⟨h.1, mm_Zx_kept hk h.2⟩
theorem mm_Z_sub {ad : Nat → Nat} {A B : Nat → Prop} {u : State} {H : Heap} (hk : ∀ q : Nat, B q → A q) (h : mm_Z ad A u H) : mm_Z ad B u H := ⟨h.1, mm_Zx_sub hk h.2⟩
theorem mm_Z_ad {ad ad' : Nat → Nat} {A : Nat → Prop} {u : State} {H : Heap} (hk : ∀ k : Nat, 1000 ≤ k → ad' k = ad k) (h : mm_Z ad A u H) : mm_Z ad' A u H := ⟨h.1, mm_Zx_ad hk h.2⟩
/-- the little heap and the machine's -/
def mm_Sim (D : va_G) (ad : Nat → Nat) (ac : Nat → ClassId) (n : Nat) (h : mm_H) (A : Nat → Prop) (U : State) (H : Heap) : Prop :=
  (n ≤ 1000 ∧ ∀ k, (h k).isSome = true ↔ k < n) ∧ va_P D mm_cl (mm_ws ad ac n h) H ∧ va_D A (mm_ws ad ac n h) ∧ va_K D mm_cl [] U ∧ (∀ k a, h k = some (.inl a) → ArrOfT U (ac k) a.1 ∧ va_RA U (ac k) a.1) ∧ mm_Z ad A U H
def mm_lv (ad : Nat → Nat) (lv : List Value) (ls : Array Slot) (nL : Nat) : Prop := ls.size = nL ∧ lv_wf ls ∧ lv.length = nL ∧ ∀ (i : Nat) (v : Value), lv[i]? = some v → v ≠ .null → ls[i]? = some (.val (mm_t ad v))
/-- a method's end, told from its start (n0, ad0) -/
def mm_Qc (D : va_G) (ad0 : Nat → Nat) (n0 : Nat) (A : Nat → Prop) (Q : mm_Q) : Array Value → State → Outcome → State → Prop := fun _ st oc t =>
  (∃ (r : Option Value) (n' : Nat) (h' : mm_H) (ad' : Nat → Nat) (ac' : Nat → ClassId), oc = .returned (r.map (mm_t ad')) ∧ Q r n' h' ∧ n0 ≤ n' ∧ (∀ k, k < n0 ∨ n' ≤ k → ad' k = ad0 k) ∧ mm_Sim D ad' ac' n' h' A t t.heap) ∧ va_F A st t
/-- METHOD M, CALLED WITH av IN THE HEAP h: it returns, with Q -/
def Body (d mc ms : Nat) (M : mm_M) (av : List Value) (n : Nat) (h : mm_H) (Q : mm_Q) : Prop :=
  ∀ (l : Launch) (D : va_G) (ad : Nat → Nat) (ac : Nat → ClassId) (sz : Nat),
    Met l M.1 (mm_w M) (mm_R d mc ms) (va_Pc (av.map (mm_t ad)) (fun U => U.heap.size = sz ∧ mm_Sim D ad ac n h (va_A (mm_ws ad ac n h) sz) U U.heap))
      (mm_Qc D ad n (va_A (mm_ws ad ac n h) sz) Q) mc ms (va_A (mm_ws ad ac n h) sz)
/-- what holds in a body, wherever it stands -/
def mm_At (p : Program) (s : State) (m : MethodId) (args : Array Value) (meth : Method) (c : Code) (M : mm_M) : Prop :=
  p.tables.exec = Jvm.exec ∧ c.code = M.2.1 ∧ meth.sig.returnType = M.2.2.2 ∧ c.maxLocals = M.2.2.1 ∧ s.vm.findClass M.1.cls = some m.cls ∧ (∀ w ∈ mm_w M, w.before args s = true) ∧ meth.locks = false ∧ meth.name = M.1.name
/-- IN M'S BODY, at pc, with these locals, stack and heap: it comes to its return, with Q -/
def G (d mc ms : Nat) (M : mm_M) (cl sl : Nat) (Q : mm_Q) (pc : Nat) (lv st : List Value) (n : Nat) (h : mm_H) : Prop :=
  ∀ (l : Launch) (D : va_G) (p : Program) (e : Env) (s : State) (m : MethodId) (args : Array Value) (below : List Frame) (meth : Method) (c : Code) (H : Heap) (locs : List Loc) (ls : Array Slot) (ad ad0 : Nat → Nat) (ac : Nat → ClassId) (A : Nat → Prop) (n0 : Nat),
    mm_At p s m args meth c M → va_S A s.heap H locs → (∀ q : Nat, s.heap.size ≤ q → A q) → mm_Sim D ad ac n h A s H → mm_lv ad lv ls M.2.2.1 → n0 ≤ n → (∀ k, k < n0 ∨ n ≤ k → ad k = ad0 k) → cl ≤ mc → sl ≤ ms →
    W p l e (mm_R d mc ms) s m args below meth c H locs cl sl (MQ below (mm_Qc D ad0 n0 A Q) args s mc ms A) (F0 m pc ls (st.map (mm_t ad)))
-- the world's list
theorem mm_ws_get {ad : Nat → Nat} {ac : Nat → ClassId} {n : Nat} {h : mm_H} {k : Nat} {c : mm_C} (hk : k < n) (hc : h k = some c) : (mm_ws ad ac n h)[k]? = some (ad k, mm_tC ad ac k c) := by
  simp [mm_ws, hk, hc]
theorem mm_ws_set {ad : Nat → Nat} {ac : Nat → ClassId} {n : Nat} {h : mm_H} {k : Nat} {c : mm_C} : (mm_ws ad ac n h).set k (ad k, mm_tC ad ac k c) = mm_ws ad ac n (va_up h k (some c)) := by
  apply List.ext_getElem?
  intro i
  by_cases hi : i < n
  · by_cases hik : k = i
    · subst hik
      rw [List.getElem?_set_self (by simp [mm_ws, hi]), mm_ws_get hi (c := c) (by simp [va_up])]
    · rw [List.getElem?_set_ne hik]
      simp [mm_ws, hi, va_up, Ne.symm hik, show ¬ i = k from fun e => hik e.symm]
  · rw [List.getElem?_eq_none (by simp [mm_ws]; omega), List.getElem?_eq_none (by simp [mm_ws]; omega)]
theorem mm_lt {D : va_G} {ad : Nat → Nat} {ac : Nat → ClassId} {n : Nat} {h : mm_H} {A : Nat → Prop} {U : State} {H : Heap} (S : mm_Sim D ad ac n h A U H) {k : Nat} {c : mm_C} (hc : h k = some c) : k < n := (S.1.2 k).mp (by rw [hc]; rfl)
theorem mm_up {D : va_G} {ad : Nat → Nat} {ac : Nat → ClassId} {n : Nat} {h : mm_H} {A : Nat → Prop} {U : State} {H H1 : Heap} (S : mm_Sim D ad ac n h A U H) {k : Nat} {c c' : mm_C} (hc : h k = some c)
    (hP : va_P D mm_cl ((mm_ws ad ac n h).set k (ad k, mm_tC ad ac k c')) H1) (hD : va_D A ((mm_ws ad ac n h).set k (ad k, mm_tC ad ac k c'))) (hty : ∀ a, c' = .inl a → ∃ b, c = .inl b ∧ b.1 = a.1)
    (hk : ∀ q : Nat, q < H.size → ¬ A q → H1[q]? = H[q]?) : mm_Sim D ad ac n (va_up h k (some c')) A U H1 := by
  rw [mm_ws_set] at hP hD
  refine ⟨⟨S.1.1, fun i => ?_⟩, hP, hD, S.2.2.2.1, fun i a hi => ?_, mm_Z_kept hk S.2.2.2.2.2⟩
  · by_cases hik : i = k
    · subst hik; simp [va_up]; exact mm_lt S hc
    · simp only [va_up, if_neg hik]; exact S.1.2 i
  · by_cases hik : i = k
    · subst hik
      simp only [va_up, if_true, Option.some.injEq] at hi
      obtain ⟨b, hb, hb1⟩ := hty a hi
      rw [← hb1]
      exact S.2.2.2.2.1 i b (by rw [hc, hb])
    · simp only [va_up, if_neg hik] at hi
      exact S.2.2.2.2.1 i a hi
theorem mm_w_in {M : mm_M} {w : Cond} (h : w ∈ lw_tbl) (hg : goodWord w = true) : w ∈ mm_w M := List.mem_cons_of_mem _ (List.mem_filter.mpr ⟨h, hg⟩)
-- locals
def mm_set : List Value → Nat → Value → List Value
  | [], _, _ => []
  | _ :: t, 0, v => v :: t
  | a :: t, 1, v => (if a.category = 2 then .null else a) :: mm_set t 0 v
  | a :: t, i + 2, v => a :: mm_set t (i + 1) v
/-- .. and the place behind a long -/
def mm_set2 (lv : List Value) (i : Nat) (v : Value) : List Value := (mm_set lv i v).set (i + 1) .null
def mm_al (ad : Nat → Nat) (lv : List Value) : List (Nat × Value) := (List.range lv.length).filterMap fun i => match lv[i]? with
  | some Value.null => none
  | some v => some (i, mm_t ad v)
  | none => none
theorem mm_al_mem {ad : Nat → Nat} {lv : List Value} {i : Nat} {v : Value} (h : lv[i]? = some v) (hn : v ≠ .null) : (i, mm_t ad v) ∈ mm_al ad lv := by
  refine List.mem_filterMap.mpr ⟨i, List.mem_range.mpr (List.getElem?_eq_some_iff.mp h).1, ?_⟩
  cases v <;> simp_all [mm_t]
theorem mm_lv_has {ad : Nat → Nat} {lv : List Value} {ls : Array Slot} {nL : Nat} (h : mm_lv ad lv ls nL) : lv_has ls nL (mm_al ad lv) := by
  refine ⟨h.1, h.2.1, fun q hq => ?_⟩
  obtain ⟨i, -, hi⟩ := List.mem_filterMap.mp hq
  cases hv : lv[i]? with
  | none => rw [hv] at hi; cases hi
  | some v =>
    rw [hv] at hi
    have := h.2.2.2 i v hv
    cases v <;> first | (cases hi; done) | (cases hi; exact this (by intro z; cases z))
theorem mm_set_len : ∀ (lv : List Value) (i : Nat) (v : Value), (mm_set lv i v).length = lv.length
  | [], _, _ => rfl
  | _ :: t, 0, v => rfl
  | a :: t, 1, v => by simp [mm_set, mm_set_len t 0 v]
  | a :: t, i + 2, v => by simp [mm_set, mm_set_len t (i + 1) v]
theorem mm_set_get : ∀ (lv : List Value) (i : Nat) (v : Value) (j : Nat) (w : Value), (mm_set lv i v)[j]? = some w → w ≠ .null → (j = i ∧ w = v) ∨ (j ≠ i ∧ lv[j]? = some w ∧ ¬ (j + 1 = i ∧ w.category = 2))
  | [], _, _, j, w, h, _ => by simp [mm_set] at h
  | a :: t, 0, v, j, w, h, hw => by
    cases j with
    | zero => simp [mm_set] at h; exact Or.inl ⟨rfl, h.symm⟩
    | succ j => simp [mm_set] at h; exact Or.inr ⟨by omega, by simpa using h, by omega⟩
  | a :: t, 1, v, j, w, h, hw => by
    cases j with
    | zero =>
      simp [mm_set] at h
      by_cases hc : a.category = 2
      · rw [if_pos hc] at h; exact absurd h.symm hw
      · rw [if_neg hc] at h; subst h; exact Or.inr ⟨by omega, by simp, fun z => hc z.2⟩
    | succ j =>
      simp only [mm_set, List.getElem?_cons_succ] at h
      rcases mm_set_get t 0 v j w h hw with ⟨h1, h2⟩ | ⟨h1, h2, h3⟩
      · exact Or.inl ⟨by omega, h2⟩
      · exact Or.inr ⟨by omega, by simpa using h2, by omega⟩
  | a :: t, i + 2, v, j, w, h, hw => by
    cases j with
    | zero => simp [mm_set] at h; subst h; exact Or.inr ⟨by omega, by simp, by omega⟩
    | succ j =>
      simp only [mm_set, List.getElem?_cons_succ] at h
      rcases mm_set_get t (i + 1) v j w h hw with ⟨h1, h2⟩ | ⟨h1, h2, h3⟩
      · exact Or.inl ⟨by omega, h2⟩
      · exact Or.inr ⟨by omega, by simpa using h2, fun z => h3 ⟨by omega, z.2⟩⟩
theorem mm_t_cat (ad : Nat → Nat) (v : Value) : (mm_t ad v).category = v.category := by cases v <;> rfl
theorem mm_lv_st1 {ad : Nat → Nat} {lv : List Value} {ls ls' : Array Slot} {nL i : Nat} {v : Value} (h : mm_lv ad lv ls nL) (h' : lv_has ls' nL ((i, mm_t ad v) :: (mm_al ad lv).filter (fun q => !(q.1 == i) && !(q.1 + 1 == i && q.2.category == 2)))) : mm_lv ad (mm_set lv i v) ls' nL := by
  refine ⟨h'.1, h'.2.1, by rw [mm_set_len]; exact h.2.2.1, fun j w hj hw => ?_⟩
  rcases mm_set_get lv i v j w hj hw with ⟨rfl, rfl⟩ | ⟨h1, h2, h3⟩
  · exact h'.2.2 _ List.mem_cons_self
  · refine h'.2.2 (j, mm_t ad w) (List.mem_cons_of_mem _ (List.mem_filter.mpr ⟨mm_al_mem h2 hw, ?_⟩))
    simp only [Bool.and_eq_true, Bool.not_eq_true', beq_eq_false_iff_ne, ne_eq, Bool.and_eq_false_iff, mm_t_cat]
    refine ⟨h1, ?_⟩
    by_cases hj : j + 1 = i
    · exact Or.inr (fun z => h3 ⟨hj, z⟩)
    · exact Or.inl hj
theorem mm_lv_st2 {ad : Nat → Nat} {lv : List Value} {ls ls' : Array Slot} {nL i : Nat} {v : Value} (h : mm_lv ad lv ls nL) (h' : lv_has ls' nL ((i, mm_t ad v) :: (mm_al ad lv).filter (fun q => !(q.1 == i) && (!(q.1 == i + 1) && !(q.1 + 1 == i && q.2.category == 2))))) : mm_lv ad (mm_set2 lv i v) ls' nL := by
  refine ⟨h'.1, h'.2.1, by rw [mm_set2, List.length_set, mm_set_len]; exact h.2.2.1, fun j w hj hw => ?_⟩
  by_cases hji : i + 1 = j
  · subst hji
    exfalso
    rw [mm_set2] at hj
    by_cases hl : i + 1 < (mm_set lv i v).length
    · rw [List.getElem?_set_self hl] at hj; exact hw (Option.some.inj hj).symm
    · rw [List.getElem?_eq_none (by rw [List.length_set]; omega)] at hj; cases hj
  · rw [mm_set2, List.getElem?_set_ne hji] at hj
    rcases mm_set_get lv i v j w hj hw with ⟨rfl, rfl⟩ | ⟨h1, h2, h3⟩
    · exact h'.2.2 _ List.mem_cons_self
    · refine h'.2.2 (j, mm_t ad w) (List.mem_cons_of_mem _ (List.mem_filter.mpr ⟨mm_al_mem h2 hw, ?_⟩))
      simp only [Bool.and_eq_true, Bool.not_eq_true', beq_eq_false_iff_ne, ne_eq, Bool.and_eq_false_iff, mm_t_cat]
      refine ⟨h1, fun z => hji z.symm, ?_⟩
      by_cases hj : j + 1 = i
      · exact Or.inr (fun z => h3 ⟨hj, z⟩)
      · exact Or.inl hj
