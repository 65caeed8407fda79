/-! THROW OF NoSuchElementException WITH A TEXT: its beginning passes the text on by place 13 of its own pool, not 7 -/
section TH2
def nse : String := "java/util/NoSuchElementException"
def rte : String := "java/lang/RuntimeException"
def nse6 : ByteArray := ⟨#[0x2a, 0x2b, 0xb7, 0x00, 0x0d, 0xb1]⟩
def nseHead (own : String) (ic : Nat) : List Cond := [.methodLink own ic (Bundle.initS nse), .instantiable nse 6, .castable nse nse, .selects nse Bundle.tFill0 Bundle.tFill0, .selects nse Bundle.tFill Bundle.tFill,
  .lays nse Bundle.tN "cause" "Ljava/lang/Throwable;", .lays nse Bundle.tN "stackTrace" Bundle.steD, .lays nse Bundle.tN "suppressedExceptions" Bundle.listD, .lays nse Bundle.tN "detailMessage" "Ljava/lang/String;",
  .fieldLink Bundle.tN 198 Bundle.tN "backtrace" "Ljava/lang/Object;", .lays Bundle.tN Bundle.tN "backtrace" "Ljava/lang/Object;", .lays nse Bundle.tN "backtrace" "Ljava/lang/Object;"]
def nseStat : List Cond := [.isRef (.static Bundle.tN "UNASSIGNED_STACK" Bundle.steD), .isRef (.static Bundle.tN "SUPPRESSED_SENTINEL" Bundle.listD)]
theorem nse_chain {args : Array Value} {s : State} {pl : Platform} (hpl : pl.magicAccessors = ({} : Platform).magicAccessors) {top : MethodId} (htop : s.methodNamed? (Bundle.initS Bundle.tN) = some top)
    (h1 : ∀ w ∈ Bundle.passSAtoms nse rte 13 nse6, w.before args s = true) (h2 : ∀ w ∈ Bundle.chainSAtoms rte ["java/lang/Exception"], w.before args s = true) :
    ∃ (P1 : PassC) (Ps : List PassC), Ps.length = 2 ∧ P1.LinksS pl s ∧ (∀ P, P ∈ Ps → P.LinksS pl s) ∧ s.methodNamed? (Bundle.initS nse) = some P1.m ∧ P1.sup = firstOf top (Ps.map (·.toPassT)) ∧ PassesOn top (Ps.map (·.toPassT)) := by
  obtain ⟨P, LP, hm, hs⟩ := PassC.ofS_atoms (args := args) (s := s) hpl (X := nse) (Y := rte) (index := 13) (bytes := nse6) (by decide +kernel) (by decide +kernel) (by decide +kernel) (by decide +kernel) (by decide +kernel) (by decide +kernel) h1
  obtain ⟨P1, Ps, hlen, L1, hL, hP1, hk1, hk⟩ := Bundle.chainS (args := args) hpl htop ["java/lang/Exception"] rte (by decide +kernel) (by intro n hn; simp only [List.mem_cons, List.not_mem_nil, or_false] at hn; subst hn; decide +kernel) h2
  have e : P.sup = P1.m := Option.some.inj (hs.symm.trans hP1)
  exact ⟨P, P1 :: Ps, by rw [List.length_cons, hlen]; rfl, LP, fun q hq => by rcases List.mem_cons.mp hq with rfl | z; exact L1; exact hL q z, hm, e, ⟨hk1, hk⟩⟩
variable {p : Program} {l : Launch} {e : Env} {R : Room} {s : State} {m₀ : MethodId} {args : Array Value} {below : List Frame} {meth : Method} {c : Code} {W : State} {locs : List Loc} {cells slots : Nat}
set_option maxHeartbeats 1000000 in
theorem nse_ctor (X : Stand p l e R s m₀ args below meth c W locs cells slots) (hexec : p.tables.exec = Jvm.exec) (htr : e.platform.stackTraces = false) {own : String} {ic : Nat}
    (hown : s.vm.findClass own = some m₀.cls)
    (hT : ∀ w ∈ Bundle.throwableAtoms, w.before args s = true) (hTS : ∀ w ∈ Bundle.throwableSAtoms, w.before args s = true) (h1 : ∀ w ∈ Bundle.passSAtoms nse rte 13 nse6, w.before args s = true) (h2 : ∀ w ∈ Bundle.chainSAtoms rte ["java/lang/Exception"], w.before args s = true)
    (hH : ∀ w ∈ nseHead own ic, w.before args s = true) (hN : ∀ w ∈ nseStat, w.before args s = true)
    (hlocs : ∀ x ∈ locs, ∀ cell, s.heap[x.base]? = some cell → cell.vm.isStatics = false)
    {a : Addr} {cX : ClassId} {kX : Class} (hfoundX : s.vm.findClass nse = some cX) (hkX : s.vm.classes[cX]? = some kX) (hcell : W.heap[a]? = some (freshCell cX kX)) (hnew : s.heap.size ≤ a)
    {msg : Value} (hmsg : msg.isRef = true)
    {g : JFrame} (hg : g.method = m₀) (hsize : g.locals.size = c.maxLocals) (hlocked : g.locked = none) (hentered : g.entered = []) {rest : List Value} (hstack : g.stack = msg :: .ref a :: .ref a :: rest)
    (hd6 : decode c.code g.pc = .ok (.invokespecial ic, 3)) (hd9 : decode c.code (g.pc + 3) = .ok (.athrow, 1)) (hout : ∀ x ∈ c.exceptionTable.toList, covers x (g.pc + 3) = false)
    (hRframes : 5 < R.frames) (hRlocals : 2 * g.monitorRoom + ((Value.ref a :: rest).map fun v => v.category).sum + 81 ≤ R.locals) (hlocks : meth.locks = false) :
    ∃ U : State, Steps p.tables e below (W.setTop g) U ∧ U.status = .running ∧ Ended U below (.threw a) ∧ s.WarmedH U.vm ∧ s.sameButNew ({ U with vm := s.vm } : State) locs cells slots ∧
      ∃ ce, U.heap[a]? = some ce ∧ ce.vm = .none ∧ s.vm.findClass nse = some ce.cls := by
  have hpl : e.platform.magicAccessors = ({} : Platform).magicAccessors := by rw [X.admits.platform]
  have hh : ∀ w, w ∈ nseHead own ic → w.holds args s none s [] = true := fun w hw => hH w hw
  have hn : ∀ w, w ∈ nseStat → w.holds args s none s [] = true := fun w hw => hN w hw
  obtain ⟨T, Z0, L, -, Y⟩ := ThrowableC.of_atoms (args := args) (pl := e.platform) (by rw [X.admits.platform]) (by rw [X.admits.platform]) hpl hT
  obtain ⟨Z, M, LZ, LM, hnZ⟩ := Init0T.ofS_atoms (args := args) hpl L Y hTS
  obtain ⟨P1, Ps, hlen, L1, hL, hP1m, hlink1, hlink⟩ := nse_chain (args := args) hpl hnZ h1 h2
  have hfound : s.vm.findClass nse = some P1.m.cls := findClass_of_methodNamed hP1m
  cases Option.some.inj (hfoundX.symm.trans hfound)
  obtain ⟨c1, kX', hc1, hk, hord, -, -, -⟩ := Cond.instantiable_spec (hh (.instantiable nse 6) (by simp [nseHead]))
  cases Option.some.inj (hc1.symm.trans hfound)
  cases Option.some.inj (hkX.symm.trans hk)
  have sel : ∀ (x : MethodName) (f : MethodId), (Cond.selects nse x x).holds args s none s [] = true → s.methodNamed? x = some f → s.methodFound? x.cls x.name x.desc = some f → selectMethod e.platform s.vm P1.m.cls f = .method f := by
    intro x f hx hf hf2
    obtain ⟨c2, r2, m2, q1, q2, q3, q4, -⟩ := Cond.selects_spec hx
    cases Option.some.inj (q1.symm.trans hfound)
    cases Option.some.inj (q2.symm.trans hf2)
    cases Option.some.inj (q3.symm.trans hf)
    rw [Launch.admits_selectMethod X.admits]; exact q4
  have hsel0 := sel Bundle.tFill0 T.fill0 (hh _ (by simp [nseHead])) Y.fill0 (State.methodFound?_of_named Y.fill0 (by decide))
  have hselF := sel Bundle.tFill T.fill (hh _ (by simp [nseHead])) Y.fill (State.methodFound?_of_named Y.fill (by decide))
  obtain ⟨cellS0, hcS0, hiss⟩ := Y.statics
  obtain ⟨u0, hu0⟩ := Cond.staticRefV Y.unassigned L.unassignedStatic L.statics hcS0 hiss (hn (.isRef (.static Bundle.tN "UNASSIGNED_STACK" Bundle.steD)) (by simp [nseStat]))
  obtain ⟨sen, hsen⟩ := Cond.staticRefV Y.sentinel L.sentinelStatic L.statics hcS0 hiss (hn (.isRef (.static Bundle.tN "SUPPRESSED_SENTINEL" Bundle.listD)) (by simp [nseStat]))
  obtain ⟨ci198, i198, fB, hk198, hg198, ha198, hsB, -, hnB, htB, hffB⟩ := Cond.ownField (t := .object "java/lang/Object") Y.found L.cls (by decide +kernel) (hh (.fieldLink Bundle.tN 198 Bundle.tN "backtrace" "Ljava/lang/Object;") (by simp [nseHead])) (hh (.lays Bundle.tN Bundle.tN "backtrace" "Ljava/lang/Object;") (by simp [nseHead])) e.platform hpl
  obtain ⟨cellS, hcS', heS, -, hkeep⟩ := X.same.2.2.2.2.2 T.aS cellS0 hcS0
  have hcellS : W.heap[T.aS]? = some cellS := hcS'
  have hout' : ∀ i, (⟨T.aS, i⟩ : Loc) ∉ locs := fun i hmem => by
    have := hlocs _ hmem cellS0 hcS0
    rw [hiss] at this; cases this
  have hknownS : cellS.vm ≠ .unknown := by
    rw [heS]; intro hu
    rw [show cellS0.vm = .unknown from hu] at hiss
    cases hiss
  have hneS : T.aS ≠ a := Nat.ne_of_lt (Nat.lt_of_lt_of_le (Array.getElem?_eq_some_iff.mp hcS0).1 hnew)
  obtain ⟨iM, hffM⟩ := Y.msg
  obtain ⟨tyC, dC, hdC, hdnC⟩ := Cond.laysAt hfound hk Y.cause (hh (.lays nse Bundle.tN "cause" "Ljava/lang/Throwable;") (by simp [nseHead]))
  obtain ⟨tyS, dS, hdS, hdnS⟩ := Cond.laysAt hfound hk Y.stack (hh (.lays nse Bundle.tN "stackTrace" Bundle.steD) (by simp [nseHead]))
  obtain ⟨tyP, dP, hdP, hdnP⟩ := Cond.laysAt hfound hk Y.supp (hh (.lays nse Bundle.tN "suppressedExceptions" Bundle.listD) (by simp [nseHead]))
  obtain ⟨tyM, dM, hdM, hdnM⟩ := Cond.laysAt hfound hk hffM (hh (.lays nse Bundle.tN "detailMessage" "Ljava/lang/String;") (by simp [nseHead]))
  obtain ⟨tyB, dB, hdB, hdnB⟩ := Cond.laysAt hfound hk hffB (hh (.lays nse Bundle.tN "backtrace" "Ljava/lang/Object;") (by simp [nseHead]))
  have bC := Cond.laysApart hdB hdC hdnB hdnC (by rw [hnB, Y.causeName]; decide)
  have bS := Cond.laysApart hdB hdS hdnB hdnS (by rw [hnB, Y.stackName]; decide)
  have bP := Cond.laysApart hdB hdP hdnB hdnP (by rw [hnB, Y.suppName]; decide)
  have hskip : SkipFacts T e.platform s (fun u => u) u0 ((preparedCellV T.toThrowableT (freshCell P1.m.cls kX) a u0 sen).withEntry W.cur) :=
    ⟨{ ci198 := ci198, i198 := i198, fBack := fB }, ⟨hk198, hg198, ha198, hsB⟩, by
      have := fresh_default (c := P1.m.cls) tyB
      rw [htB] at this
      simpa [preparedCellV, Cell.setSlot, Cell.withEntry, Array.getElem?_setIfInBounds, bC, bS, bP, bC.symm, bS.symm, bP.symm, defaultValue] using this, fun _ _ => rfl⟩
  obtain ⟨tm, methC, cdC, kC, vm₁, hnC, -, -, -, -, -, -, -, hW₁, st1⟩ := Steps.initColdS (tb := p.tables) (e := e) (below := below) (s := s) (U := W) X.here hexec X.warmed hpl hown (t := Bundle.initS nse) rfl rfl (by decide +kernel)
    (hh (.methodLink own ic (Bundle.initS nse)) (by simp [nseHead])) (h1 (.instanceMethod (Bundle.initS nse)) (by simp [Bundle.passSAtoms])) (bytes := nse6) (maxL := 2) (h1 (.code (Bundle.initS nse) nse6 2 none) (by simp [Bundle.passSAtoms]))
    (f := g) hg (a := a) (msg := msg) (rest := .ref a :: rest) hstack hd6
  cases Option.some.inj (hnC.symm.trans hP1m)
  have X₁ := X.noted hW₁
  obtain ⟨vm₂, X₂, st2⟩ := X₁.ctorMessageOffV hexec (g := { g with stack := .ref a :: rest }) hg hsize T L Z LZ M LM (P1 :: Ps)
    (fun P hP => by rcases List.mem_cons.mp hP with rfl | hP; exact L1; exact hL P hP) ⟨hlink1, hlink⟩ (u0 := u0) (sen := sen) (self := a) hmsg (cell := freshCell P1.m.cls kX) (cellS := cellS)
    hcell (fun _ => by simp) (by simp) rfl rfl hsel0 hselF hcellS hneS hknownS (by rw [hkeep _ (hout' _)]; exact hu0) (by rw [hkeep _ (hout' _)]; exact hsen)
    (Takes.of_laid hk hord tyC (by rw [Y.causeType]; rfl)) (Takes.of_laid hk hord tyS (by rw [Y.stackType]; exact fits_refV_array _ u0)) (Takes.of_laid hk hord tyP (by rw [Y.suppType]; exact fits_refV_object _ sen))
    (Takes.of_laid hk hord tyM (by rw [Y.msgType]; exact fits_refV_object _ ⟨msg, hmsg⟩)) Y.objLocals hskip htr [] hd6
    (by simp only [List.length_cons, hlen]; omega) (by simp only [List.length_cons, hlen]; exact hRlocals)
  obtain ⟨hwalk, hrun, hended, hWU, hsame⟩ := X₂.athrowLeaves hexec (g := { g with stack := .ref a :: rest, pc := g.pc + 3 }) hg hlocked hentered hout (a := a) (rest := rest) rfl hd9
  have hlt : a < ((W.setVm vm₁).setVm vm₂).heap.size := (Array.getElem?_eq_some_iff.mp hcell).1
  have hU := heapAt_setCell_self (s := (W.setVm vm₁).setVm vm₂) (plainBareV T.toThrowableT (freshCell P1.m.cls kX) a u0 sen msg) hlt
  refine ⟨_, st1 _ (fun acts => ?_), hrun, hended, hWU, hsame.weaken (fun y hy hlt' => ?_) (Nat.le_refl _) (Nat.le_refl _), _, hU, rfl, hfound⟩
  · rw [doInvoke_state]
    exact st2 _ hwalk
  · rcases List.mem_append.mp hy with z | z
    · exact z
    · exfalso
      have hb : y.base = a := by
        simp only [List.mem_cons, List.not_mem_nil, or_false] at z
        rcases z with rfl | rfl | rfl | rfl | rfl <;> rfl
      rw [hb] at hlt'
      exact Nat.not_lt.mpr hnew hlt'
end TH2
