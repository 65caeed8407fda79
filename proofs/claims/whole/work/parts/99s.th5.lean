/-! THE LAW'S OWN METHOD thing: it catches the throw -/
def mL_thing : mm_M := (yL_thing, cL_thing, 5, some .int)
def wL_thing : List Cond := .codeWith yL_thing cL_thing 5 (some .int) [(0, 10, 13, 13)] :: mm_gw
theorem mm_alt {D : va_G} {ad : Nat → Nat} {ac : Nat → ClassId} {n : Nat} {h : mm_H} {A : Nat → Prop} {U : State} {H : Heap} (S : mm_Sim D ad ac n h A U H) {r : Nat} {ty : FieldType} {a a' : vp_A} (hr : h r = some (.inl (ty, a))) (he : ∀ cA : ClassId, vp_cell cA (mm_tA ad a') = vp_cell cA (mm_tA ad a)) : mm_Sim D ad ac n (va_up h r (some (.inl (ty, a')))) A U H := by
  have hw := mm_ws_get (ad := ad) (ac := ac) (mm_rlt S hr) hr
  refine mm_up S hr (c' := .inl (ty, a')) ?_ (S.2.2.1.set hw) (fun b hb => ⟨_, rfl, by cases hb; rfl⟩) (fun _ _ _ => rfl)
  refine S.2.1.set S.2.2.1 hw ?_ (fun _ _ => rfl)
  show H[ad r]? = some (vp_cell (ac r) (mm_tA ad a'))
  rw [he]
  exact S.2.1 r _ hw
theorem HP_86 {ε : mm_X} {μ : mm_mu} {v : Int64} : va_up (HP ε μ) 86 (some (.inl (.long, 1, .inr (.inl fun _ => v)))) = HP (va_up ε.1 86 v, ε.2) μ := by
  funext k
  by_cases hk : k = 86
  · subst hk
    have e : va_up ε.1 86 v 86 = v := by simp [va_up]
    show va_up (HP ε μ) 86 (some (.inl (.long, 1, .inr (.inl fun _ => v)))) 86 = some (.inl (.long, 1, .inr (.inl fun _ => va_up ε.1 86 v 86)))
    rw [e]
    simp [va_up]
  · rw [show va_up (HP ε μ) 86 (some (.inl (.long, 1, .inr (.inl fun _ => v)))) k = HP ε μ k by simp [va_up, hk]]
    show HPc ε k (μ k) = HPc (va_up ε.1 86 v, ε.2) k (μ k)
    unfold HPc
    split <;> first | rfl | exact absurd rfl hk
section TH5
variable {Γ : mm_Γ} {M : mm_M} {cl sl : Nat} {pc : Nat} {lv st : List Value} {n : Nat} {h : mm_H}
theorem gz_alt {r : Nat} {ty : FieldType} {a a' : vp_A} (hr : h r = some (.inl (ty, a))) (he : ∀ (ad : Nat → Nat) (cA : ClassId), vp_cell cA (mm_tA ad a') = vp_cell cA (mm_tA ad a)) (k : GZ Γ M cl sl pc lv st n (va_up h r (some (.inl (ty, a'))))) : GZ Γ M cl sl pc lv st n h := by
  intro H locs ls ad ac hA hS hAA hSim hlv hn0 had
  exact k H locs ls ad ac hA hS hAA (mm_alt hSim hr (he ad)) hlv hn0 had
theorem gz_ireturn {Q : mm_Q} {v : Int32} {mc ms : Nat} (hP : Γ.P = MQ Γ.below (mm_Qc Γ.D Γ.ad0 Γ.n0 Γ.A Q) Γ.args Γ.s mc ms Γ.A) (hr : M.2.2.2 = some .int) (hcl : cl ≤ mc) (hsl : sl ≤ ms) (hd : decode M.2.1 pc = .ok (.ireturn, 1)) (hQ : Q (some (.int v)) n h) : GZ Γ M cl sl pc lv [.int v] n h := by
  intro H locs ls ad ac hA hS hAA hSim hlv hn0 had
  rw [hP]
  refine W.widen hcl hsl ?_
  exact W.iret hA.1 hA.2.1 (hA.2.2.1.trans hr) (mm_end (r := some (.int v)) hS hSim hn0 had hQ) hS.2.2 hd hA.2.2.2.2.2.2
/-- a call that throws, caught here -/
theorem gz_callX {M' : mm_M} {d j r ci mc' ms' ct : Nat} {q : vw_C} {As fs : List Value} {x : ExceptionTableEntry} (hm : mm_okM M' As.length) (hlk : Cond.methodLink M.1.cls j M'.1 ∈ mm_gw) (hin : Cond.instanceMethod M'.1 ∈ mm_gw) (hse : Cond.selects M'.1.cls M'.1 M'.1 ∈ mm_gw) (hr : h r = some (.inr (ci, fs))) (hq : mm_cl[ci]? = some q) (hqc : q.1 = M'.1.cls) (hcat : (st.map fun v => v.category).sum ≤ 8) (hd : decode M.2.1 pc = .ok (.invokevirtual j, 3)) (hR : d + 2 ≤ Γ.R.frames ∧ 40 * (d + 2) ≤ Γ.R.locals) (hcl : cl + mc' ≤ Γ.R.cells) (hsl : sl + ms' ≤ Γ.R.slots)
    (hX : ∀ (ad : Nat → Nat) (ac : Nat → ClassId) (sz : Nat), vx_Met Γ.l M'.1 (mm_w M') (mm_R d mc' ms') (va_Pc ((.ref r :: As).map (mm_t ad)) (fun U => U.heap.size = sz ∧ mm_Sim Γ.D ad ac n h (va_A (mm_ws ad ac n h) sz) U U.heap)) (fun _ _ _ _ => False) (mm_XC Γ.D ad n h (va_A (mm_ws ad ac n h) sz)) mc' ms' (va_A (mm_ws ad ac n h) sz))
    (htab : Γ.c.exceptionTable.toList = [x]) (hx : covers x pc = true) (h0 : x.catchType = ct) (hct : ct ≠ 0) (hlc : Cond.classLink M.1.cls ct nse ∈ mm_gw)
    (kk : ∀ (q9 : Nat) (H : Heap) (locs : List Loc) (ls : Array Slot) (ad : Nat → Nat) (ac : Nat → ClassId), mm_AtZ Γ.p Γ.s Γ.m Γ.args Γ.meth Γ.c M → va_S Γ.A Γ.s.heap H locs → (∀ q : Nat, Γ.s.heap.size ≤ q → Γ.A q) → mm_Sim Γ.D ad ac n h Γ.A Γ.s H → mm_lv ad lv ls M.2.2.1 → Γ.n0 ≤ n → (∀ k, k < Γ.n0 ∨ n ≤ k → ad k = Γ.ad0 k) →
      W Γ.p Γ.l Γ.e Γ.R Γ.s Γ.m Γ.args Γ.below Γ.meth Γ.c H locs (cl + mc') (sl + ms') Γ.P (F0 Γ.m x.handlerPc ls [.ref q9])) :
    GZ Γ M cl sl pc lv (As.reverse ++ .ref r :: st) n h := by
  intro H locs ls ad ac hA hS hAA hSim hlv hn0 had
  have hts := hA.2.2.2.2.2.1
  have hP := mm_preS (l := Γ.l) hS hAA hSim (.ref r :: As)
  have hrun := vx_runV (p := Γ.p) (l := Γ.l) (e := Γ.e) (R := Γ.R) (s := Γ.s) (m := Γ.m) (args := Γ.args) (below := Γ.below) (meth := Γ.meth) (c := Γ.c) (H := H) (locs := locs) (cells := cl) (slots := sl) (g := F0 Γ.m pc ls ((As.reverse ++ .ref r :: st).map (mm_t ad))) (b := ad r) (C := M'.1.cls) (As := As.map (mm_t ad)) (rest := st.map (mm_t ad)) (index := j) (bytes := M'.2.1) (maxL := M'.2.2.1) (ret := M'.2.2.2) (n := As.length) ⟨hA.1, hA.2.1, hA.2.2.2.1, hA.2.2.2.2.1, hts⟩ (hX ad ac H.size)
      ⟨callB_of As.length hts (mm_goodZ (mm_okM_ws hm)) rfl rfl rfl (hts _ hm.2.1) (hts _ hlk) hm.2.2.1 (gz_room hm.2.2.2 hR), hts _ hin, hts _ hse⟩
      ⟨hP.1, by rw [← hqc]; exact va_recv hSim.2.2.2.1 hSim.2.1 hq (mm_ws_get (mm_lt hSim hr) hr), hP.2⟩ rfl (by rw [List.length_map]) hlv.1 (mm_stk ad As r st) (lv_room (mm_cats ad hcat)) hd ⟨hcl, hsl⟩
  intro T hT X
  rcases hrun T hT X with ⟨v, st₀, t, T', L, h0', X', hL, e1, e2, hF, -⟩ | ⟨q9, st₀, t, T', L, E, ce, h0', X', hL, e1, e2, ⟨rfl, ⟨ac', hSim'⟩, hz, hk⟩, hce, hcv, hcl9, stp⟩
  · exact hF.elim
  · have hsub := mm_A_sub hS hAA hSim
    rw [h0'] at hz hk
    have hvm : Γ.s.vm.Alike t.vm := by rw [← e2]; exact X'.warmed.alike
    have hS1 : va_S Γ.A Γ.s.heap t.heap (locs ++ L) := ⟨Nat.le_trans hS.1 hz, fun q h1 h2 => by
        rw [hk q (Nat.lt_of_lt_of_le h1 hS.1) (fun z => h2 (hsub q z))]; exact hS.2.1 q h1 h2, fun q hq => by
        rcases List.mem_append.mp hq with z | z
        · exact hS.2.2 q z
        · exact hsub _ (hL q z)⟩
    have hSim2 : mm_Sim Γ.D ad ac' n h Γ.A Γ.s t.heap := by
      refine ⟨hSim'.1, hSim'.2.1, hSim'.2.2.1.weaken (fun k q _ z => hsub q.1 z), va_K.moved hvm.symm hSim'.2.2.2.1, fun k a ha => ⟨arrOfT_moved hvm.symm (hSim'.2.2.2.2.1 k a ha).1, (hSim'.2.2.2.2.1 k a ha).2.moved hvm.symm⟩, ?_⟩
      exact mm_Z_kept (fun q h1 h2 => hk q h1 (fun z => h2 (hsub q z))) hSim.2.2.2.2.2
    have hcast : (Cond.castable nse nse).before Γ.args Γ.s = true := va_Nw.use rfl (hSim.2.2.2.2.2.2.2.2.2.2.2.2.1 _ (by simp [mm_cst, nse]))
    have hW := vx_catch (p := Γ.p) (l := Γ.l) (e := Γ.e) (R := Γ.R) (s := Γ.s) (m := Γ.m) (args := Γ.args) (below := Γ.below) (meth := Γ.meth) (c := Γ.c) (H := t.heap) (locs := locs ++ L) (cells := cl + mc') (slots := sl + ms') (Q := Γ.P) (pc := pc) (ls := ls) (rest := st.map (mm_t ad)) (own := M.1.cls) (name := nse) (E := nse) hA.2.2.2.2.1 [] x [] (by rw [htab]; rfl) (fun z hz => nomatch hz) hx (by rw [h0]; exact hct) (by rw [h0]; exact hts _ hlc) hcast hce hcv hcl9 (kk q9 t.heap (locs ++ L) ls ad ac' hA hS1 hAA hSim2 hlv hn0 had)
    obtain ⟨t2, a1, b1⟩ := hW T' e1 X'
    exact ⟨t2, stp.trans a1, b1⟩
end TH5
