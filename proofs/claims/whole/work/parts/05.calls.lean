section SC
variable {d mc ms : Nat} {M : mm_M} {cl sl : Nat} {Q : mm_Q} {pc : Nat} {lv st : List Value} {n : Nat} {h : mm_H}
theorem mm_Sim_moved {D : va_G} {ad : Nat → Nat} {ac : Nat → ClassId} {n : Nat} {h : mm_H} {A : Nat → Prop} {u U : State} {H : Heap} (hvm : u.vm.Alike U.vm) (hz : mm_Z ad A U H) (S : mm_Sim D ad ac n h A u H) : mm_Sim D ad ac n h A U H :=
  ⟨S.1, S.2.1, S.2.2.1, va_K.moved hvm S.2.2.2.1, fun k a ha => ⟨arrOfT_moved hvm (S.2.2.2.2.1 k a ha).1, (S.2.2.2.2.1 k a ha).2.moved hvm⟩, hz⟩
theorem mm_end {D : va_G} {ad ad0 : Nat → Nat} {ac : Nat → ClassId} {n n0 : Nat} {h : mm_H} {A : Nat → Prop} {s : State} {H : Heap} {locs : List Loc} {args : Array Value} {r : Option Value} (hS : va_S A s.heap H locs) (S : mm_Sim D ad ac n h A s H) (hn0 : n0 ≤ n) (had : ∀ k, k < n0 ∨ n ≤ k → ad k = ad0 k) (hQ : Q r n h) : ∀ t : State, t.heap = H → s.WarmedH t.vm → mm_Qc D ad0 n0 A Q args s (.returned (r.map (mm_t ad))) t := by
  intro t ht hW
  refine ⟨⟨r, n, h, ad, ac, rfl, hQ, hn0, had, ?_⟩, hS.F ht⟩
  rw [ht]
  exact mm_Sim_moved hW.alike (mm_Z_warm hW S.2.2.2.2.2) S
theorem sn_ireturn {v : Int32} (hr : M.2.2.2 = some .int) (hd : decode M.2.1 pc = .ok (.ireturn, 1)) (hQ : Q (some (.int v)) n h) : G d mc ms M cl sl Q pc lv [.int v] n h := by
  intro l D p e s m args below meth c H locs ls ad ad0 ac A n0 hA hS hAA hSim hlv hn0 had hcl hsl
  refine W.widen hcl hsl ?_
  exact W.iret hA.1 hA.2.1 (hA.2.2.1.trans hr) (mm_end (r := some (.int v)) hS hSim hn0 had hQ) hS.2.2 hd hA.2.2.2.2.2.2.1
theorem sn_zreturn {v : Int32} {ty : FieldType} (hr : M.2.2.2 = some ty) (hn : narrow ty (.int v) = .int v) (hd : decode M.2.1 pc = .ok (.ireturn, 1)) (hQ : Q (some (.int v)) n h) : G d mc ms M cl sl Q pc lv [.int v] n h := by
  intro l D p e s m args below meth c H locs ls ad ad0 ac A n0 hA hS hAA hSim hlv hn0 had hcl hsl
  refine W.widen hcl hsl ?_
  exact W.zret hA.1 hA.2.1 (hA.2.2.1.trans hr) hn (mm_end (r := some (.int v)) hS hSim hn0 had hQ) hS.2.2 hd hA.2.2.2.2.2.2.1
theorem sn_lreturn {v : Int64} (hr : M.2.2.2 = some .long) (hd : decode M.2.1 pc = .ok (.lreturn, 1)) (hQ : Q (some (.long v)) n h) : G d mc ms M cl sl Q pc lv [.long v] n h := by
  intro l D p e s m args below meth c H locs ls ad ad0 ac A n0 hA hS hAA hSim hlv hn0 had hcl hsl
  refine W.widen hcl hsl ?_
  exact W.lret hA.1 hA.2.1 (hA.2.2.1.trans hr) (mm_end (r := some (.long v)) hS hSim hn0 had hQ) hS.2.2 hd hA.2.2.2.2.2.2.1
theorem sn_return (hr : M.2.2.2 = none) (hd : decode M.2.1 pc = .ok (.return_, 1)) (hQ : Q none n h) : G d mc ms M cl sl Q pc lv [] n h := by
  intro l D p e s m args below meth c H locs ls ad ad0 ac A n0 hA hS hAA hSim hlv hn0 had hcl hsl
  refine W.widen hcl hsl ?_
  exact W.vret hA.1 hA.2.1 (hA.2.2.1.trans hr) (mm_end (r := none) hS hSim hn0 had hQ) hS.2.2 hd hA.2.2.2.2.2.2.1
theorem sn_areturn {k : Nat} {rt : FieldType} (hr : M.2.2.2 = some rt) (hrt : (∃ n, rt = .object n) ∨ ∃ t, rt = .array t) (hd : decode M.2.1 pc = .ok (.areturn, 1)) (hQ : Q (some (.ref k)) n h) : G d mc ms M cl sl Q pc lv [.ref k] n h := by
  intro l D p e s m args below meth c H locs ls ad ad0 ac A n0 hA hS hAA hSim hlv hn0 had hcl hsl
  refine W.widen hcl hsl ?_
  exact W.aret hA.1 hA.2.1 (hA.2.2.1.trans hr) hrt (Or.inr ⟨_, rfl⟩) (mm_end (r := some (.ref k)) hS hSim hn0 had hQ) hS.2.2 hd hA.2.2.2.2.2.2.1
-- the entry
def mm_lay : List Value → List Value
  | [] => []
  | v :: t => if v.category = 2 then v :: .null :: mm_lay t else v :: mm_lay t
def mm_ent (av : List Value) (nL : Nat) : List Value := mm_lay av ++ List.replicate (nL - (mm_lay av).length) .null
theorem mm_lay_get (ad : Nat → Nat) : ∀ (av : List Value) (o i : Nat) (v : Value), (mm_lay av)[i]? = some v → v ≠ .null → (o + i, mm_t ad v) ∈ lv_args o (av.map (mm_t ad))
  | [], o, i, v, h, _ => by simp [mm_lay] at h
  | a :: t, o, i, v, h, hv => by
    by_cases hc : a.category = 2
    · rw [mm_lay, if_pos hc] at h
      rw [List.map_cons, lv_args, mm_t_cat, hc]
      match i, h with
      | 0, h => simp at h; subst h; exact List.mem_cons_self
      | 1, h => simp at h; exact absurd h.symm hv
      | i + 2, h =>
        have := mm_lay_get ad t (o + 2) i v (by simpa using h) hv
        rw [show o + (i + 2) = o + 2 + i by omega]
        exact List.mem_cons_of_mem _ this
    · rw [mm_lay, if_neg hc] at h
      have h1 : a.category = 1 := by rcases lv_cat a with z | z <;> simp_all
      rw [List.map_cons, lv_args, mm_t_cat, h1]
      match i, h with
      | 0, h => simp at h; subst h; exact List.mem_cons_self
      | i + 1, h =>
        have := mm_lay_get ad t (o + 1) i v (by simpa using h) hv
        rw [show o + (i + 1) = o + 1 + i by omega]
        exact List.mem_cons_of_mem _ this
theorem mm_lay_len (ad : Nat → Nat) : ∀ (av : List Value), (lg_sl (av.map (mm_t ad))).length = (mm_lay av).length
  | [] => rfl
  | a :: t => by
    have ih := mm_lay_len ad t
    rw [List.map_cons]
    by_cases hc : a.category = 2
    · rw [mm_lay, if_pos hc]; simp [lg_sl, mm_t_cat, hc] at ih ⊢; omega
    · have h1 : a.category = 1 := by rcases lv_cat a with z | z <;> simp_all
      rw [mm_lay, if_neg hc]; simp [lg_sl, mm_t_cat, h1] at ih ⊢; omega
theorem mm_ent_lv (ad : Nat → Nat) (av : List Value) {nL : Nat} (h : (mm_lay av).length ≤ nL) : mm_lv ad (mm_ent av nL) ((lg_sl (av.map (mm_t ad)) ++ List.replicate (nL - (lg_sl (av.map (mm_t ad))).length) Slot.unset).toArray) nL := by
  have hl := lv_entry (av.map (mm_t ad)) (n := nL) (by rw [mm_lay_len]; exact h)
  refine ⟨hl.1, hl.2.1, by simp [mm_ent]; omega, fun i v hi hv => ?_⟩
  by_cases hil : i < (mm_lay av).length
  · rw [mm_ent, List.getElem?_append_left hil] at hi
    have := mm_lay_get ad av 0 i v hi hv
    rw [Nat.zero_add] at this
    exact hl.2.2 _ this
  · rw [mm_ent, List.getElem?_append_right (by omega)] at hi
    have := List.eq_of_mem_replicate (List.mem_of_getElem? hi)
    exact absurd this hv
/-- a method's body, walked from its entry, gives the method -/
theorem body_of_G {av lv : List Value} (hp : plainFor M.1 = true) (hlen : (mm_lay av).length ≤ M.2.2.1) (he : mm_ent av M.2.2.1 = lv) (hg : G d mc ms M 0 0 Q 0 lv [] n h) : Body d mc ms M av n h Q := by
  intro l D ad ac sz
  refine va_MetF (cc := M.2.1) (maxL := M.2.2.1) (ret := M.2.2.2) (ws' := mm_gw) hp rfl ?_
  intro p e s m args below meth c s₁ B hml hv
  obtain ⟨rfl, hsz, hSim⟩ := hv
  have hts := atoms_spec (ws := mm_w M) B.pre
  have hA : mm_At p s m (av.map (mm_t ad)).toArray meth c M := ⟨B.exec, B.bytes, B.returns, hml, findClass_of_methodNamed B.named, hts, B.notSynchronized, (name_of_methodNamed B.named B.method).1⟩
  rw [lg_entry_eq]
  subst he
  subst hsz
  exact hg l D p e s m _ below meth c s.heap [] _ ad ad ac _ n hA va_S.rf (fun q hq => Or.inr hq) hSim (mm_ent_lv ad av hlen) (Nat.le_refl n) (fun _ _ => rfl) (Nat.zero_le _) (Nat.zero_le _)
-- calls
theorem mm_A_sub {D : va_G} {ad : Nat → Nat} {ac : Nat → ClassId} {A : Nat → Prop} {s : State} {H : Heap} {locs : List Loc} (hS : va_S A s.heap H locs) (hAA : ∀ q : Nat, s.heap.size ≤ q → A q) (S : mm_Sim D ad ac n h A s H) : ∀ q, va_A (mm_ws ad ac n h) H.size q → A q := by
  intro q hq
  rcases hq with ⟨k, e, hk⟩ | hq
  · exact S.2.2.1.2 k (q, e) hk
  · exact hAA q (Nat.le_trans hS.1 hq)
theorem mm_blind {D : va_G} {ad : Nat → Nat} {ac : Nat → ClassId} {A : Nat → Prop} {av : List Value} {sz : Nat} : FrameBlind (va_Pc av (fun U => U.heap.size = sz ∧ mm_Sim D ad ac n h A U U.heap)) := by
  intro a U g mk hq
  exact ⟨hq.1, hq.2.1, mm_Sim_moved (u := U) (U := U.calling g mk a) (Vm.Alike.refl U.vm) (mm_Z_same (u := U) (U := U.calling g mk a) rfl hq.2.2.2.2.2.2.2) hq.2.2⟩
/-- behind a call -/
theorem mm_after {Q1 : mm_Q} {l : Launch} {D : va_G} {p : Program} {e : Env} {s : State} {m : MethodId} {args : Array Value} {below : List Frame} {meth : Method} {c : Code} {H : Heap} {locs : List Loc} {ls : Array Slot} {ad ad0 : Nat → Nat} {ac : Nat → ClassId} {A : Nat → Prop} {n0 mc' ms' : Nat} {a : Array Value} {st0 : List Value}
    (hA : mm_At p s m args meth c M) (hS : va_S A s.heap H locs) (hAA : ∀ q : Nat, s.heap.size ≤ q → A q) (hSim : mm_Sim D ad ac n h A s H) (hlv : mm_lv ad lv ls M.2.2.1) (hn0 : n0 ≤ n) (had : ∀ k, k < n0 ∨ n ≤ k → ad k = ad0 k) (hcl : cl + mc' ≤ mc) (hsl : sl + ms' ≤ ms)
    (hQ1 : ∀ v n' h', Q1 v n' h' → (∀ ad' : Nat → Nat, (∀ k, k < n ∨ n' ≤ k → ad' k = ad k) → lv.map (mm_t ad') = lv.map (mm_t ad) ∧ st.map (mm_t ad') = st.map (mm_t ad)) ∧ G d mc ms M (cl + mc') (sl + ms') Q (pc + 3) lv (v.toList ++ st) n' h')
    (hrun : va_Run p l e (mm_R d mc ms) s m args below meth c H locs cl sl mc' ms' (F0 m pc ls st0) (st.map (mm_t ad)) (mm_Qc D ad n (va_A (mm_ws ad ac n h) H.size) Q1 a) (va_A (mm_ws ad ac n h) H.size)) :
    W p l e (mm_R d mc ms) s m args below meth c H locs cl sl (MQ below (mm_Qc D ad0 n0 A Q) args s mc ms A) (F0 m pc ls st0) := by
  intro T hT X
  obtain ⟨v, st₀, t, T', L, h0, X', hL, e1, e2, ⟨⟨r, n', h', ad', ac', hv, hq1, hnn, had', hSim'⟩, hz, hk⟩, stp⟩ := hrun T hT X
  obtain ⟨hlvst, hG⟩ := hQ1 _ _ _ hq1
  cases hv
  have hsub := mm_A_sub hS hAA hSim
  rw [h0] at hz hk
  have hvm : s.vm.Alike t.vm := by rw [← e2]; exact X'.warmed.alike
  have hS1 : va_S A s.heap t.heap (locs ++ L) := ⟨Nat.le_trans hS.1 hz, fun q h1 h2 => by
      rw [hk q (Nat.lt_of_lt_of_le h1 hS.1) (fun z => h2 (hsub q z))]; exact hS.2.1 q h1 h2, fun q hq => by
      rcases List.mem_append.mp hq with z | z
      · exact hS.2.2 q z
      · exact hsub _ (hL q z)⟩
  have hSim2 : mm_Sim D ad' ac' n' h' A s t.heap := by
    refine ⟨hSim'.1, hSim'.2.1, hSim'.2.2.1.weaken (fun k q _ z => hsub q.1 z), va_K.moved hvm.symm hSim'.2.2.2.1, fun k a ha => ⟨arrOfT_moved hvm.symm (hSim'.2.2.2.2.1 k a ha).1, (hSim'.2.2.2.2.1 k a ha).2.moved hvm.symm⟩, ?_⟩
    exact mm_Z_ad (fun k hk => had' k (Or.inr (Nat.le_trans hSim'.1.1 hk))) (mm_Z_kept (fun q h1 h2 => hk q h1 (fun z => h2 (hsub q z))) hSim.2.2.2.2.2)
  obtain ⟨hl1, hl2⟩ := hlvst ad' had'
  have hlv2 : mm_lv ad' lv ls M.2.2.1 := by
    refine ⟨hlv.1, hlv.2.1, hlv.2.2.1, fun i w hi hw => ?_⟩
    have h1 : (lv.map (mm_t ad'))[i]? = (lv.map (mm_t ad))[i]? := by rw [hl1]
    rw [List.getElem?_map, List.getElem?_map, hi] at h1
    have h2 : mm_t ad' w = mm_t ad w := Option.some.inj h1
    rw [h2]
    exact hlv.2.2.2 i w hi hw
  have hW := hG l D p e s m args below meth c t.heap (locs ++ L) ls ad' ad0 ac' A n0 hA hS1 hAA hSim2 hlv2 (Nat.le_trans hn0 hnn) (fun k hk => by
    rcases hk with z | z
    · rw [had' k (Or.inl (Nat.lt_of_lt_of_le z hn0))]; exact had k (Or.inl z)
    · rw [had' k (Or.inr z)]; exact had k (Or.inr (Nat.le_trans hnn z))) hcl hsl
  obtain ⟨t2, a1, b1⟩ := hW T' e1 X'
  refine ⟨t2, stp t2 ?_, b1⟩
  rw [List.map_append, hl2] at a1
  cases r <;> exact a1
theorem mm_good {ws : List Cond} (hw : ∀ w ∈ ws, w ∈ mm_gw) : GoodIn (mm_w M) ws := fun w z => ⟨List.mem_cons_of_mem _ (hw w z), good_of_word (List.mem_filter.mp (hw w z)).2⟩
/-- a method that can be called -/
def mm_okM (M' : mm_M) (k : Nat) : Prop := Cond.code M'.1 M'.2.1 M'.2.2.1 M'.2.2.2 ∈ mm_gw ∧ Cond.initialized M'.1.cls ∈ mm_gw ∧ (M'.1.cls ≠ "java/lang/invoke/MethodHandle" ∧ M'.1.cls ≠ "java/lang/invoke/VarHandle" ∧ (parseMethodDescriptor M'.1.desc).map (fun d => d.parameters.length) = some k) ∧ M'.2.2.1 ≤ 21
theorem mm_okM_ws {M' : mm_M} {k : Nat} (hm : mm_okM M' k) : ∀ w ∈ mm_w M', w ∈ mm_gw := fun w hw => by
  rcases List.mem_cons.mp hw with rfl | z
  · exact hm.1
  · exact z
theorem mm_preS {l : Launch} {D : va_G} {s : State} {ad : Nat → Nat} {ac : Nat → ClassId} {A : Nat → Prop} {H : Heap} {locs : List Loc} (hS : va_S A s.heap H locs) (hAA : ∀ q : Nat, s.heap.size ≤ q → A q) (hSim : mm_Sim D ad ac n h A s H) (av : List Value) : PreS s H (va_Pc (av.map (mm_t ad)) (fun U => U.heap.size = H.size ∧ mm_Sim D ad ac n h (va_A (mm_ws ad ac n h) H.size) U U.heap)) (av.map (mm_t ad)) := by
  refine ⟨mm_blind, fun U hU hW => ⟨rfl, by rw [hU], ?_⟩⟩
  rw [hU]
  have hZ := mm_Z_sub (fun q z => mm_A_sub hS hAA hSim q z) hSim.2.2.2.2.2
  exact mm_Sim_moved hW.alike (mm_Z_warm hW hZ) ⟨hSim.1, hSim.2.1, hSim.2.2.1.self, hSim.2.2.2.1, hSim.2.2.2.2.1, hZ⟩
theorem mm_cats {st : List Value} (ad : Nat → Nat) (h : (st.map fun v => v.category).sum ≤ 8) : ((st.map (mm_t ad)).map fun v => v.category).sum ≤ 8 := by
  have e : (st.map (mm_t ad)).map (fun v => v.category) = st.map fun v => v.category := by
    rw [List.map_map]
    exact List.map_congr_left (fun v _ => mm_t_cat ad v)
  rw [e]; exact h
theorem mm_stk (ad : Nat → Nat) (As : List Value) (r : Nat) (st : List Value) : (As.reverse ++ .ref r :: st).map (mm_t ad) = (As.map (mm_t ad)).reverse ++ .ref (ad r) :: st.map (mm_t ad) := by
  rw [List.map_append, List.map_reverse]; rfl
theorem mm_stk0 (ad : Nat → Nat) (As : List Value) (st : List Value) : (As.reverse ++ st).map (mm_t ad) = (As.map (mm_t ad)).reverse ++ st.map (mm_t ad) := by
  rw [List.map_append, List.map_reverse]
theorem mm_room {d mc ms mc' ms' k : Nat} (h : k ≤ 21) : (mm_R d mc' ms').frames + 1 ≤ (mm_R (d + 1) mc ms).frames ∧ 8 + (k + 11) + (mm_R d mc' ms').locals ≤ (mm_R (d + 1) mc ms).locals := by
  refine ⟨Nat.le_refl _, ?_⟩
  show 8 + (k + 11) + 40 * (d + 1) ≤ 40 * (d + 1 + 1)
  omega
/-- how a link of the own class's pool leads to M': plainly, or among nest mates -/
def mm_lnk (own : String) (j : Nat) (M' : mm_M) : Prop := Cond.methodLink own j M'.1 ∈ mm_gw ∨ ∃ host, Cond.methodLinkNest own j M'.1 host ∈ mm_nst
theorem sn_callV {M' : mm_M} {Q1 : mm_Q} {j r ci mc' ms' : Nat} {q : vw_C} {As fs : List Value} (hm : mm_okM M' As.length) (hlk : mm_lnk M.1.cls j M') (hin : Cond.instanceMethod M'.1 ∈ mm_gw) (hse : Cond.selects M'.1.cls M'.1 M'.1 ∈ mm_gw) (hr : h r = some (.inr (ci, fs))) (hq : mm_cl[ci]? = some q) (hqc : q.1 = M'.1.cls) (hcat : (st.map fun v => v.category).sum ≤ 8) (hd : decode M.2.1 pc = .ok (.invokevirtual j, 3)) (hcl : cl + mc' ≤ mc) (hsl : sl + ms' ≤ ms)
    (hB : Body d mc' ms' M' (.ref r :: As) n h Q1)
    (hQ1 : ∀ v n' h', Q1 v n' h' → (∀ ad ad' : Nat → Nat, (∀ k, k < n ∨ n' ≤ k → ad' k = ad k) → lv.map (mm_t ad') = lv.map (mm_t ad) ∧ st.map (mm_t ad') = st.map (mm_t ad)) ∧ G (d + 1) mc ms M (cl + mc') (sl + ms') Q (pc + 3) lv (v.toList ++ st) n' h') :
    G (d + 1) mc ms M cl sl Q pc lv (As.reverse ++ .ref r :: st) n h := by
  intro l D p e s m args below meth c H locs ls ad ad0 ac A n0 hA hS hAA hSim hlv hn0 had hcl0 hsl0
  have hts := hA.2.2.2.2.2.1
  have hP := mm_preS (l := l) hS hAA hSim (.ref r :: As)
  have tt : ∀ w, w ∈ mm_gw → w.before args s = true := fun w hw => hts w (List.mem_cons_of_mem _ hw)
  refine mm_after hA hS hAA hSim hlv hn0 had hcl hsl (fun v n' h' z => ⟨(hQ1 v n' h' z).1 ad, (hQ1 v n' h' z).2⟩) ?_ (a := ((.ref r :: As).map (mm_t ad)).toArray)
  rcases hlk with hlk | ⟨host, hlk⟩
  · exact va_runV (C := M'.1.cls) (As := As.map (mm_t ad)) (rest := st.map (mm_t ad)) (index := j) (bytes := M'.2.1) (maxL := M'.2.2.1) (ret := M'.2.2.2) (n := As.length) ⟨hA.1, hA.2.1, hA.2.2.2.1, hA.2.2.2.2.1, hts⟩ (hB l D ad ac H.size)
      ⟨callB_of As.length hts (mm_good (mm_okM_ws hm)) rfl rfl rfl (tt _ hm.2.1) (tt _ hlk) hm.2.2.1 (mm_room hm.2.2.2), tt _ hin, tt _ hse⟩
      ⟨hP.1, by rw [← hqc]; exact va_recv hSim.2.2.2.1 hSim.2.1 hq (mm_ws_get (mm_lt hSim hr) hr), hP.2⟩ rfl (by rw [List.length_map]) hlv.1 (mm_stk ad As r st) (lv_room (mm_cats ad hcat)) hd ⟨hcl, hsl⟩
  · exact va_runVN (C := M'.1.cls) (host := host) (As := As.map (mm_t ad)) (rest := st.map (mm_t ad)) (index := j) (bytes := M'.2.1) (maxL := M'.2.2.1) (ret := M'.2.2.2) (n := As.length) ⟨hA.1, hA.2.1, hA.2.2.2.1, hA.2.2.2.2.1, hts⟩ (hB l D ad ac H.size)
      ⟨va_cnB As.length hts (mm_good (mm_okM_ws hm)) rfl rfl rfl (hSim.2.2.2.2.2.1 _ hlk) (tt _ hm.2.1) hm.2.2.1 (mm_room hm.2.2.2), tt _ hin, tt _ hse⟩
      ⟨hP.1, by rw [← hqc]; exact va_recv hSim.2.2.2.1 hSim.2.1 hq (mm_ws_get (mm_lt hSim hr) hr), hP.2⟩ rfl (by rw [List.length_map]) hlv.1 (mm_stk ad As r st) (lv_room (mm_cats ad hcat)) hd ⟨hcl, hsl⟩
theorem sn_callS {M' : mm_M} {Q1 : mm_Q} {j mc' ms' : Nat} {As : List Value} (hm : mm_okM M' As.length) (hlk : mm_lnk M.1.cls j M') (hst : Cond.static M'.1 ∈ mm_gw) (hcat : (st.map fun v => v.category).sum ≤ 8) (hd : decode M.2.1 pc = .ok (.invokestatic j, 3)) (hcl : cl + mc' ≤ mc) (hsl : sl + ms' ≤ ms)
    (hB : Body d mc' ms' M' As n h Q1)
    (hQ1 : ∀ v n' h', Q1 v n' h' → (∀ ad ad' : Nat → Nat, (∀ k, k < n ∨ n' ≤ k → ad' k = ad k) → lv.map (mm_t ad') = lv.map (mm_t ad) ∧ st.map (mm_t ad') = st.map (mm_t ad)) ∧ G (d + 1) mc ms M (cl + mc') (sl + ms') Q (pc + 3) lv (v.toList ++ st) n' h') :
    G (d + 1) mc ms M cl sl Q pc lv (As.reverse ++ st) n h := by
  intro l D p e s m args below meth c H locs ls ad ad0 ac A n0 hA hS hAA hSim hlv hn0 had hcl0 hsl0
  have hts := hA.2.2.2.2.2.1
  have hP := mm_preS (l := l) hS hAA hSim As
  have tt : ∀ w, w ∈ mm_gw → w.before args s = true := fun w hw => hts w (List.mem_cons_of_mem _ hw)
  refine mm_after hA hS hAA hSim hlv hn0 had hcl hsl (fun v n' h' z => ⟨(hQ1 v n' h' z).1 ad, (hQ1 v n' h' z).2⟩) ?_ (a := (As.map (mm_t ad)).toArray)
  rcases hlk with hlk | ⟨host, hlk⟩
  · exact va_runS (As := As.map (mm_t ad)) (rest := st.map (mm_t ad)) (index := j) (bytes := M'.2.1) (maxL := M'.2.2.1) (ret := M'.2.2.2) (n := As.length) ⟨hA.1, hA.2.1, hA.2.2.2.1, hA.2.2.2.2.1, hts⟩ (hB l D ad ac H.size)
      ⟨callB_of As.length hts (mm_good (mm_okM_ws hm)) rfl rfl rfl (tt _ hm.2.1) (tt _ hlk) hm.2.2.1 (mm_room hm.2.2.2), tt _ hst⟩
      hP rfl (by rw [List.length_map]) hlv.1 (mm_stk0 ad As st) (lv_room (mm_cats ad hcat)) hd ⟨hcl, hsl⟩
  · exact va_runSN (host := host) (As := As.map (mm_t ad)) (rest := st.map (mm_t ad)) (index := j) (bytes := M'.2.1) (maxL := M'.2.2.1) (ret := M'.2.2.2) (n := As.length) ⟨hA.1, hA.2.1, hA.2.2.2.1, hA.2.2.2.2.1, hts⟩ (hB l D ad ac H.size)
      ⟨va_cnB As.length hts (mm_good (mm_okM_ws hm)) rfl rfl rfl (hSim.2.2.2.2.2.1 _ hlk) (tt _ hm.2.1) hm.2.2.1 (mm_room hm.2.2.2), tt _ hst, trivial⟩
      hP rfl (by rw [List.length_map]) hlv.1 (mm_stk0 ad As st) (lv_room (mm_cats ad hcat)) hd ⟨hcl, hsl⟩
theorem sn_callI {M' : mm_M} {Q1 : mm_Q} {j r mc' ms' : Nat} {As : List Value} (hm : mm_okM M' As.length) (hret : M'.2.2.2 = none) (hlk : mm_lnk M.1.cls j M') (hin : Cond.instanceMethod M'.1 ∈ mm_gw) (hnm : M'.1.name = "<init>") (hcat : (st.map fun v => v.category).sum ≤ 8) (hd : decode M.2.1 pc = .ok (.invokespecial j, 3)) (hcl : cl + mc' ≤ mc) (hsl : sl + ms' ≤ ms)
    (hB : Body d mc' ms' M' (.ref r :: As) n h Q1)
    (hQ1 : ∀ v n' h', Q1 v n' h' → (∀ ad ad' : Nat → Nat, (∀ k, k < n ∨ n' ≤ k → ad' k = ad k) → lv.map (mm_t ad') = lv.map (mm_t ad) ∧ st.map (mm_t ad') = st.map (mm_t ad)) ∧ G (d + 1) mc ms M (cl + mc') (sl + ms') Q (pc + 3) lv (v.toList ++ st) n' h') :
    G (d + 1) mc ms M cl sl Q pc lv (As.reverse ++ .ref r :: st) n h := by
  intro l D p e s m args below meth c H locs ls ad ad0 ac A n0 hA hS hAA hSim hlv hn0 had hcl0 hsl0
  have hts := hA.2.2.2.2.2.1
  have hP := mm_preS (l := l) hS hAA hSim (.ref r :: As)
  have tt : ∀ w, w ∈ mm_gw → w.before args s = true := fun w hw => hts w (List.mem_cons_of_mem _ hw)
  obtain ⟨y, bytes, maxL, ret⟩ := M'
  cases hret
  refine mm_after hA hS hAA hSim hlv hn0 had hcl hsl (fun v n' h' z => ⟨(hQ1 v n' h' z).1 ad, (hQ1 v n' h' z).2⟩) ?_ (a := ((.ref r :: As).map (mm_t ad)).toArray)
  rcases hlk with hlk | ⟨host, hlk⟩
  · exact va_runI (As := As.map (mm_t ad)) (rest := st.map (mm_t ad)) (index := j) (bytes := bytes) (maxL := maxL) (n := As.length) ⟨hA.1, hA.2.1, hA.2.2.2.1, hA.2.2.2.2.1, hts⟩ (hB l D ad ac H.size)
      ⟨callB_of As.length hts (mm_good (mm_okM_ws hm)) rfl rfl rfl (tt _ hm.2.1) (tt _ hlk) hm.2.2.1 (mm_room hm.2.2.2), hnm, tt _ hin⟩
      hP rfl (by rw [List.length_map]) hlv.1 (mm_stk ad As r st) (lv_room (mm_cats ad hcat)) hd ⟨hcl, hsl⟩
  · exact va_runIN (host := host) (As := As.map (mm_t ad)) (rest := st.map (mm_t ad)) (index := j) (bytes := bytes) (maxL := maxL) (n := As.length) ⟨hA.1, hA.2.1, hA.2.2.2.1, hA.2.2.2.2.1, hts⟩ (hB l D ad ac H.size)
      ⟨va_cnB As.length hts (mm_good (mm_okM_ws hm)) rfl rfl rfl (hSim.2.2.2.2.2.1 _ hlk) (tt _ hm.2.1) hm.2.2.1 (mm_room hm.2.2.2), hnm, tt _ hin⟩
      hP rfl (by rw [List.length_map]) hlv.1 (mm_stk ad As r st) (lv_room (mm_cats ad hcat)) hd ⟨hcl, hsl⟩
end SC
