/-! thing, the class's, where it throws -/
def nsePos : List (Nat × Nat) := [(0, 41), (1, 22), (1, 23), (1, 24), (1, 25), (1, 33), (1, 34)] ++ (List.range 62).map (fun i => (5, 132 + i))
def nseOk (w : Cond) : Bool := nsePos.any (fun q => mm_has q w) || decide (w ∈ mm_cst) || decide (w = .laysStatic Bundle.tN "UNASSIGNED_STACK" Bundle.steD) || decide (w = .laysStatic Bundle.tN "SUPPRESSED_SENTINEL" Bundle.listD)
set_option maxRecDepth 20000 in
theorem nseOk_1 : Bundle.throwableAtoms.all nseOk = true := by decide +kernel
set_option maxRecDepth 20000 in
theorem nseOk_2 : Bundle.throwableSAtoms.all nseOk = true := by decide +kernel
set_option maxRecDepth 20000 in
theorem nseOk_3 : (Bundle.passSAtoms nse rte 13 nse6).all nseOk = true := by decide +kernel
set_option maxRecDepth 20000 in
theorem nseOk_4 : (Bundle.chainSAtoms rte ["java/lang/Exception"]).all nseOk = true := by decide +kernel
set_option maxRecDepth 20000 in
theorem nseOk_5 : (nseHead RX11 141).all nseOk = true := by decide +kernel
theorem mm_cst_ot : ∀ w ∈ mm_cst, w.onTables = true := by
  intro w hw
  rcases mm_cst_is w hw with ⟨a, b, rfl⟩ | ⟨x, rfl⟩ <;> rfl
theorem nse_w {args : Array Value} {s s' : State} (hW : s.WarmedH s'.vm) (hvm : s.vm = s'.vm) (hg : ∀ w ∈ mm_gw, w.before args s = true) (hc : ∀ w ∈ mm_cst, va_Nw w s) (hU : (Cond.laysStatic Bundle.tN "UNASSIGNED_STACK" Bundle.steD).before args s' = true) (hN : (Cond.laysStatic Bundle.tN "SUPPRESSED_SENTINEL" Bundle.listD).before args s' = true) {L : List Cond} (hL : L.all nseOk = true) : ∀ w ∈ L, w.before args s' = true := by
  intro w hw
  have h := List.all_eq_true.mp hL w hw
  unfold nseOk at h
  simp only [Bool.or_eq_true, decide_eq_true_eq, List.any_eq_true] at h
  rcases h with ((⟨q, -, hq⟩ | h) | h) | h
  · unfold mm_has at hq
    simp only [Bool.and_eq_true, decide_eq_true_eq] at hq
    have hm : w ∈ mm_gw := mm_in q.1 q.2 hq.1 hq.2
    exact word_at hW (good_of_word hq.2) (hg w hm)
  · exact va_Nw.use (mm_cst_ot w h) (va_Nw.same (mm_cst_ot w h) hvm (hc w h))
  · rw [h]; exact hU
  · rw [h]; exact hN
/-- what a throw leaves: the class's name, the little heap as it was -/
def mm_XC (D : va_G) (ad : Nat → Nat) (n : Nat) (h : mm_H) (A : Nat → Prop) : String → State → State → Prop := fun E st t => E = nse ∧ (∃ ac', mm_Sim D ad ac' n h A t t.heap) ∧ va_F A st t
section TH3
variable {Γ : mm_Γ} {M : mm_M} {cl sl : Nat} {pc : Nat} {lv st : List Value} {n : Nat} {h : mm_H}
set_option maxHeartbeats 1000000 in
theorem gz_nse {Qc : Array Value → State → Outcome → State → Prop} {mc ms : Nat} (hl : Γ.l.stackTraces = false) (ho : M.1.cls = RX11) (hP : Γ.P = vx_MQ Γ.below Qc (mm_XC Γ.D Γ.ad0 n h Γ.A) Γ.args Γ.s mc ms Γ.A) (hn : Γ.n0 = n)
    (d0 : decode M.2.1 pc = .ok (.new 137, 3)) (d3 : decode M.2.1 (pc + 3) = .ok (.dup, 1)) (d4 : decode M.2.1 (pc + 4) = .ok (.ldc 139, 2)) (d6 : decode M.2.1 (pc + 6) = .ok (.invokespecial 141, 3)) (d9 : decode M.2.1 (pc + 9) = .ok (.athrow, 1))
    (hout : ∀ x ∈ Γ.c.exceptionTable.toList, False) (hRf : 5 < Γ.R.frames) (hRl : 100 ≤ Γ.R.locals) (hRc : cl + 1 ≤ Γ.R.cells) (hRs : sl + 6 ≤ Γ.R.slots) (hc : cl + 1 ≤ mc) (hs : sl + 6 ≤ ms) : GZ Γ M cl sl pc lv [] n h := by
  intro H locs ls ad ac hA hS hAA hSim hlv hn0 had
  obtain ⟨l, D, p, e, s, m, args, below, meth, c, A, R, P, ad0, n0⟩ := Γ
  dsimp only [mm_Γ.l, mm_Γ.D, mm_Γ.p, mm_Γ.e, mm_Γ.s, mm_Γ.m, mm_Γ.args, mm_Γ.below, mm_Γ.meth, mm_Γ.c, mm_Γ.A, mm_Γ.R, mm_Γ.P, mm_Γ.ad0, mm_Γ.n0] at *
  subst hP
  subst hn
  intro T hT X
  have htr : e.platform.stackTraces = false := (show e.platform.stackTraces = l.stackTraces by rw [X.admits.platform]).trans hl
  have Y := vx_rebase X (R' := { frames := R.frames, locals := R.locals, cells := 1, slots := 6 }) (Nat.le_refl _) (Nat.le_refl _) hRc hRs
  obtain ⟨s', hA'⟩ : ∃ z, z = (T.setVm s.vm).setFrames (.invoking m args :: below) := ⟨_, rfl⟩
  rw [← hA'] at Y
  have hvm : s'.vm = s.vm := by rw [hA']; rfl
  have hhp : s'.heap = H := by rw [hA']; exact hT
  have hW0 : s.WarmedH s'.vm := by rw [hvm]; exact State.WarmedH.refl s
  have hZ := hSim.2.2.2.2.2.2
  have hU' : vx_Zq Bundle.tN "UNASSIGNED_STACK" Bundle.steD A s' s'.heap := by rw [hhp]; exact vx_Zq.moved hW0.alike hZ.2.2.2.2.1
  have hN' : vx_Zq Bundle.tN "SUPPRESSED_SENTINEL" Bundle.listD A s' s'.heap := by rw [hhp]; exact vx_Zq.moved hW0.alike hZ.2.2.2.2.2.1
  have hwd : ∀ {L : List Cond}, L.all nseOk = true → ∀ w ∈ L, w.before args s' = true := fun hL => nse_w hW0 hvm.symm hA.2.2.2.2.2.1 hZ.2.2.2.2.2.2.1 hU'.2.word hN'.2.word hL
  have hown : s.vm.findClass RX11 = some m.cls := by rw [← ho]; exact hA.2.2.2.2.1
  have hown' : s'.vm.findClass RX11 = some m.cls := by rw [hvm]; exact hown
  have hk' : (Cond.classLink RX11 137 nse).before args s' = true := word_at hW0 (good_of_word rfl) (mm_bz hA (mm_in 5 132 rfl rfl))
  have hini' : (Cond.initialized nse).before args s' = true := word_at hW0 (good_of_word rfl) (mm_bz hA (mm_in 1 25 rfl rfl))
  have hins : (Cond.instantiable nse 6).before args s' = true := word_at hW0 (good_of_word rfl) (mm_bz hA (mm_in 5 133 rfl rfl))
  have hb : c.code = M.2.1 := hA.2.1
  have hexec : p.tables.exec = Jvm.exec := hA.1
  have hsize : ls.size = c.maxLocals := hlv.1.trans hA.2.2.2.1.symm
  obtain ⟨vm₁, cX, kX, hfX, hkX, -, -, X₁, st1⟩ := Y.newCold hexec (own := RX11) (C := nse) (index := 137) (n := 6) hown' hk' hins hini'
    (g := F0 m pc ls []) rfl (by rw [hb]; exact d0) (Nat.le_refl _) (Nat.le_refl _)
  generalize hT1 : (T.setVm vm₁).pushCell { cls := cX, slots := kX.instanceTypes.map defaultValue, vm := .none } = T1 at X₁ st1
  have hcat : (Value.ref T.heap.size).category = 1 := rfl
  have hcellA : T1.heap[T.heap.size]? = some (freshCell cX kX) := by rw [← hT1]; exact State.heap_pushCell_size _ _
  have d3' : decode c.code (pc + 3) = .ok (.dup, 1) := by rw [hb]; exact d3
  have d4' : decode c.code (pc + 4) = .ok (.ldc 139, 2) := by rw [hb]; exact d4
  have hstr' : vk_R RX11 139 "no such thing, or nothing of it" (ad 1014) s' := vk_R.warm hW0 (hZ.2.2.2.1 (RX11, 139, "no such thing, or nothing of it", 1014) (by decide))
  obtain ⟨U, hsteps, hrun, hend, hW, hsame, ce, hce, hv, hclE⟩ := nse_ctor X₁ hexec htr (own := RX11) (ic := 141) hown' (hwd nseOk_1) (hwd nseOk_2) (hwd nseOk_3) (hwd nseOk_4) (hwd nseOk_5) (fun w hw => by
      simp only [nseStat, List.mem_cons, List.not_mem_nil, or_false] at hw
      rcases hw with rfl | rfl
      · exact vx_isRefq hU'.1
      · exact vx_isRefq hN'.1) (fun x hx => nomatch hx) hfX hkX hcellA (by rw [hhp, hT]; exact Nat.le_refl _) (msg := .ref (ad 1014)) rfl
    (g := { method := m, pc := pc + 6, locals := ls, stack := .ref (ad 1014) :: .ref T.heap.size :: .ref T.heap.size :: [], locked := none }) rfl hsize rfl rfl (rest := []) rfl
    (by rw [hb]; exact d6) (by rw [hb]; exact d9) (fun x hx => (hout x hx).elim) hRf (by simp only [List.map_cons, List.map_nil, List.sum_cons, List.sum_nil, hcat]; show 2 * 0 + (1 + 0) + 81 ≤ R.locals; omega) hA.2.2.2.2.2.2
  obtain ⟨f1, f2⟩ := vx_frame hsame
  rw [hhp] at f1 f2
  have hWs : s.WarmedH U.vm := State.WarmedH.trans hW0 hW
  have hclS : s.vm.findClass nse = some ce.cls := by
    rw [hvm] at hclE
    exact hclE
  have hall : s.sameButNew ({ U with vm := s.vm } : State) locs mc ms := by
    subst hA'
    obtain ⟨e1, e2⟩ := hsame
    rw [State.setFrames_setFrames] at e1
    have h2 : (T.setVm s.vm).sameButNew ({ U with vm := s.vm } : State) [] (0 + 1) (0 + 6) := ⟨e1, e2⟩
    have h3 := X.same.trans h2
    rw [List.append_nil] at h3
    exact h3.mono hc hs
  have hkq : ∀ q : Nat, q < H.size → U.heap[q]? = H[q]? := fun q hq => f2 q hq (fun z hz => nomatch hz)
  have hSimU : mm_Sim D ad ac n0 h A U U.heap := by
    refine mm_Sim_moved hWs.alike (mm_Z_warm hWs (mm_Z_kept (fun q hq _ => hkq q hq) hSim.2.2.2.2.2)) ⟨hSim.1, hSim.2.1.kept (fun k q hk => hkq _ (hSim.2.1 k q hk).lt), hSim.2.2.1, hSim.2.2.2.1, hSim.2.2.2.2.1, mm_Z_kept (fun q hq _ => hkq q hq) hSim.2.2.2.2.2⟩
  have hFU : va_F A s U := ⟨Nat.le_trans hS.1 f1, fun q h1 h2 => (hkq q (Nat.lt_of_lt_of_le h1 hS.1)).trans (hS.2.1 q h1 h2)⟩
  refine ⟨U, ?_, .threw T.heap.size, hrun, hend, Or.inr ⟨T.heap.size, rfl, nse, ce, locs, ⟨rfl, ⟨ac, by rw [← show ad = ad0 from funext fun k => had k (by omega)]; exact hSimU⟩, hFU⟩, hce, hv, hclS, hWs, hall, hS.2.2⟩⟩
  refine st1 _ ?_
  show Steps p.tables e below (T1.setTop { method := m, pc := pc + 3, locals := ls, stack := .ref T.heap.size :: [], locked := none }) _
  jvm_step X₁.here [X₁.here.top, hexec, d3', Value.category]
  exact X₁.ldcString hexec (own := RX11) (text := "no such thing, or nothing of it") (index := 139) (a := ad 1014) hown' hstr'.1 hstr'.2
    (g := { method := m, pc := pc + 4, locals := ls, stack := .ref T.heap.size :: .ref T.heap.size :: [], locked := none }) rfl d4' _ hsteps
section TH4
variable {ε : mm_X} {μ : mm_mu} {tn gn a p ln sz m : Nat} {dy : Nat → Nat}
theorem z_thing {Qc : Array Value → State → Outcome → State → Prop} (hl : Γ.l.stackTraces = false) (hP : Γ.P = vx_MQ Γ.below Qc (mm_XC Γ.D Γ.ad0 n (HP ε μ) Γ.A) Γ.args Γ.s 1 6 Γ.A) (hn : Γ.n0 = n) (hR : Γ.R = mm_R 100 1 6) (ht : ∀ x ∈ Γ.c.exceptionTable.toList, False) (hJ : JX ε μ tn gn a p dy ln sz m) {x y : Int32} (hbad : ¬ ((0 ≤ x ∧ x ≤ nI tn - 1) ∧ (0 ≤ y ∧ y ≤ 6))) : GZ Γ mX11_thing 0 0 0 [.ref 0, .int x, .int y, .null] [] n (HP ε μ) := by
  have fin : GZ Γ mX11_thing 0 0 18 [.ref 0, .int x, .int y, .null] [] n (HP ε μ) := by
    refine gz_nse (mc := 1) (ms := 6) (Qc := Qc) hl rfl hP hn (by decide +kernel) (by decide +kernel) (by decide +kernel) (by decide +kernel) (by decide +kernel) ht ?_ ?_ ?_ ?_ (by decide) (by decide)
    all_goals rw [hR]; decide
  refine gz_aload_n (j := 0) (x := 0) (by decide +kernel) rfl ?_
  refine gz_iload_n (j := 1) (x := x) (by decide +kernel) rfl ?_
  refine gz_callV (M' := mX11_isThing) (d := 99) (j := 133) (r := 0) (ci := 11) (q := (RX11, TX11, 14)) (mc' := 0) (ms' := 0) (As := [.int x]) (st := []) okM_X11_isThing (mm_in 4 85 rfl rfl) (mm_in 4 87 rfl rfl) (mm_in 0 25 rfl rfl) rfl rfl rfl (Nat.le_of_ble_eq_true rfl) (by decide +kernel) (by rw [hR]; decide) (by rw [hR]; decide) (by rw [hR]; decide)
    (c_isThing (d := 98) (Q := fun v h' => v = some (.int (bi (0 ≤ x ∧ x ≤ nI tn - 1))) ∧ h' = HP ε μ) hJ.1.2.2.2.1 hJ.1.1 ⟨rfl, rfl⟩ n) ?_
  rintro v n' h' ⟨rfl, rfl, rfl⟩ -
  refine ⟨fun ad1 ad2 hk => ⟨?_, rfl⟩, ?_⟩
  · simp only [List.map_cons, List.map_nil, mm_t, hk 0 (by omega)]
  by_cases h1 : 0 ≤ x ∧ x ≤ nI tn - 1
  · rw [bi1 h1]
    refine gz_if_eq (off := 13) (by decide +kernel) (by decide) (fun z => absurd z (by decide)) (fun _ => ?_)
    refine gz_iload_n (j := 2) (x := y) (by decide +kernel) rfl ?_
    refine gz_if_lt (off := 9) (by decide +kernel) (by decide) (fun _ => fin) (fun h2 => ?_)
    refine gz_iload_n (j := 2) (x := y) (by decide +kernel) rfl ?_
    refine gz_bipush (j := 6) (by decide +kernel) ?_
    refine gz_icmp_le (off := 13) (by decide +kernel) (by decide) (fun h3 => absurd ⟨h1, Int32.not_lt.mp h2, h3⟩ hbad) (fun _ => fin)
  · rw [bi0 h1]
    exact gz_if_eq (off := 13) (by decide +kernel) (by decide) (fun _ => fin) (fun z => absurd rfl z)
theorem x_thing {l : Launch} (hl : l.stackTraces = false) (hJ : JX ε μ tn gn a p dy ln sz m) {x y : Int32} (hbad : ¬ ((0 ≤ x ∧ x ≤ nI tn - 1) ∧ (0 ≤ y ∧ y ≤ 6))) {D : va_G} {ad : Nat → Nat} {ac : Nat → ClassId} {n sz' : Nat} : vx_Met l mX11_thing.1 (mm_w mX11_thing) (mm_R 100 1 6) (va_Pc (([.ref 0, .int x, .int y] : List Value).map (mm_t ad)) (fun U => U.heap.size = sz' ∧ mm_Sim D ad ac n (HP ε μ) (va_A (mm_ws ad ac n (HP ε μ)) sz') U U.heap)) (fun _ _ _ _ => False) (mm_XC D ad n (HP ε μ) (va_A (mm_ws ad ac n (HP ε μ)) sz')) 1 6 (va_A (mm_ws ad ac n (HP ε μ)) sz') := by
  refine vx_ofW (cc := mX11_thing.2.1) (maxL := 4) (ret := some .int) (ws' := mm_gw) (by decide +kernel) rfl ?_
  intro p0 e s m0 args below meth c s₁ B hml ht hv
  obtain ⟨rfl, hsz, hSim⟩ := hv
  have hts := atoms_spec (ws := mm_w mX11_thing) B.pre
  rw [lg_entry_eq]
  subst hsz
  have hAZ : mm_AtZ p0 s m0 (([.ref 0, .int x, .int y] : List Value).map (mm_t ad)).toArray meth c mX11_thing := ⟨B.exec, B.bytes, B.returns, hml, findClass_of_methodNamed B.named, fun w hw => hts w (List.mem_cons_of_mem _ hw), B.notSynchronized⟩
  exact z_thing (Γ := (l, D, p0, e, s, m0, (([.ref 0, .int x, .int y] : List Value).map (mm_t ad)).toArray, below, meth, c, va_A (mm_ws ad ac n (HP ε μ)) s.heap.size, mm_R 100 1 6, vx_MQ below (fun _ _ _ _ => False) (mm_XC D ad n (HP ε μ) (va_A (mm_ws ad ac n (HP ε μ)) s.heap.size)) (([.ref 0, .int x, .int y] : List Value).map (mm_t ad)).toArray s 1 6 (va_A (mm_ws ad ac n (HP ε μ)) s.heap.size), ad, n)) hl rfl rfl rfl ht hJ hbad s.heap [] _ ad ac hAZ va_S.rf (fun q hq => Or.inr hq) hSim (mm_ent_lv ad [.ref 0, .int x, .int y] (Nat.le_of_ble_eq_true rfl)) (Nat.le_refl n) (fun _ _ => rfl)
end TH4
end TH3
