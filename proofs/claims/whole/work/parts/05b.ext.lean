/-! WHAT LIES OUTSIDE: constant arrays and texts are read, copied; a text is called -/
theorem mm_back {A : Nat → Prop} {H0 H : Heap} {locs : List Loc} (hAA : ∀ q : Nat, H0.size ≤ q → A q) (hS : va_S A H0 H locs) : ∀ q : Nat, q < H.size → ¬ A q → H0[q]? = H[q]? := by
  intro q _ hq
  have hlt : q < H0.size := Nat.lt_of_not_le (fun z => hq (hAA q z))
  exact (hS.2.1 q hlt hq).symm
theorem mm_zs {D : va_G} {ad : Nat → Nat} {ac : Nat → ClassId} {A : Nat → Prop} {s : State} {H : Heap} {n : Nat} {h : mm_H} {locs : List Loc} (hAA : ∀ q : Nat, s.heap.size ≤ q → A q) (hS : va_S A s.heap H locs) (S : mm_Sim D ad ac n h A s H) : mm_Zx ad A s s.heap := mm_Zx_kept (mm_back hAA hS) S.2.2.2.2.2.2
theorem mm_extT {ad : Nat → Nat} {A : Nat → Prop} {U : State} {H : Heap} (z : mm_Zx ad A U H) {r : Nat} {ty : FieldType} {l : List Int32} (hr : mm_ext r = some (.inl (ty, l))) : va_T ty (ad r) l.length (fun j => .int (l.getD j 0)) A U H := by
  unfold mm_ext at hr
  split at hr
  · cases hr; exact (z.1 0 _ rfl).2
  · cases hr; exact (z.1 1 _ rfl).2
  · cases hr; exact (z.1 2 _ rfl).2
  · cases hr; exact (z.1 3 _ rfl).2
  · cases hr; exact (z.1 4 _ rfl).2
  · cases hr; exact (z.1 5 _ rfl).2
  · cases hr
  · cases hr
  · cases hr
  · cases hr
  · cases hr; exact (z.2.2.1.1 0 (by decide)).2.2.2
  · cases hr; exact (z.2.2.1.1 1 (by decide)).2.2.2
  · cases hr; exact (z.2.2.1.1 2 (by decide)).2.2.2
  · cases hr; exact (z.2.2.1.1 3 (by decide)).2.2.2
  · cases hr
theorem mm_extS {r v : Nat} (hr : mm_ext r = some (.inr v)) : ∃ i, i < 4 ∧ r = 1010 + i ∧ v = 1020 + i := by
  unfold mm_ext at hr
  split at hr
  · cases hr
  · cases hr
  · cases hr
  · cases hr
  · cases hr
  · cases hr
  · cases hr; exact ⟨0, by decide, rfl, rfl⟩
  · cases hr; exact ⟨1, by decide, rfl, rfl⟩
  · cases hr; exact ⟨2, by decide, rfl, rfl⟩
  · cases hr; exact ⟨3, by decide, rfl, rfl⟩
  · cases hr
  · cases hr
  · cases hr
  · cases hr
  · cases hr
section EXW
variable {p : Program} {l : Launch} {e : Env} {R : Room} {s : State} {m : MethodId} {args : Array Value} {below : List Frame} {meth : Method} {c : Code} {H : Heap} {locs : List Loc} {cells slots : Nat} {Q : State → Prop}
variable {cc : ByteArray} {pc : Nat} {ls : Array Slot} {rest : List Value} {D : va_G} {cl : List vw_C} {A : Nat → Prop} {a : Nat} {tys : List (ClassId × FieldType)} {ws : va_W}
/-- arraycopy out of a constant array of ints -/
theorem mm_copyT (hexec : p.tables.exec = Jvm.exec) (hb : c.code = cc) (hml : c.maxLocals = ls.size) {own : String} {index : Nat} (hown : s.vm.findClass own = some m.cls) (hlink : (Cond.methodLink own index arraycopyName).before args s = true) (hnat : (Cond.native arraycopyName).before args s = true) (hstat : (Cond.static arraycopyName).before args s = true) (hini : (Cond.initialized "java/lang/System").before args s = true)
    (hK : va_K D cl tys s) (hP : va_P D cl ws H) (hD : va_D A ws) (hS : va_S A s.heap H locs) {b0 n0 : Nat} {f : Nat → Int32} (hX : va_T .int b0 n0 (fun j => .int (f j)) A s s.heap) (q1 t1 : Nat) {c1 : ClassId} {n1 : Nat} {g : Nat → Int32} (ha1 : ws[q1]? = some (a, .inl (c1, n1, .inl g))) (ht1 : tys[t1]? = some (c1, .int))
    {sp dp n : Int32} (h1 : ¬ sp < 0) (h2 : ¬ dp < 0) (h3 : ¬ n < 0) (h4 : sp.toNatClampNeg + n.toNatClampNeg ≤ n0) (h5 : dp.toNatClampNeg + n.toNatClampNeg ≤ n1)
    (hframes : 1 ≤ R.frames) (hlocals : (rest.map fun v => v.category).sum + (nativeFrameWords "java/lang/System" "arraycopy" 5 + 11) ≤ R.locals) (hdg : decode cc pc = .ok (.invokestatic index, 3))
    (kk : ∀ (H1 : Heap) (locs1 : List Loc), va_P D cl (ws.set q1 (a, .inl (c1, n1, .inl (va_cpy f g sp.toNatClampNeg dp.toNatClampNeg n.toNatClampNeg)))) H1 → va_D A (ws.set q1 (a, .inl (c1, n1, .inl (va_cpy f g sp.toNatClampNeg dp.toNatClampNeg n.toNatClampNeg)))) → va_S A s.heap H1 locs1 → W p l e R s m args below meth c H1 locs1 cells slots Q (F0 m (pc + 3) ls rest)) : W p l e R s m args below meth c H locs cells slots Q (F0 m pc ls (.int n :: .int dp :: .ref a :: .int sp :: .ref b0 :: rest)) := by
  have nn : ∀ z : Int32, ¬ z < 0 → z.toInt = (z.toNatClampNeg : Int) := by
    intro z hz
    have hz0 : (0 : Int) ≤ z.toInt := by simpa using Int32.le_iff_toInt_le.mp (Int32.not_lt.mp hz)
    show z.toInt = ((z.toInt.toNat : Nat) : Int)
    omega
  intro T hT X
  obtain ⟨sc, u1, ⟨u6, kc, hkc, cm, hcm⟩, u3, u4, -, u5, u7⟩ := hX
  have hc0 : H[b0]? = some sc := by rw [hS.2.1 b0 (Array.getElem?_eq_some_iff.mp u1).1 u7]; exact u1
  have hc1 : H[a]? = some (vp_cell c1 (n1, .inl g)) := hP q1 _ ha1
  obtain ⟨-, kd, hkd, dm, hdm⟩ := (hK.2 t1 _ ht1).1 n1 (fun j => .int (g j))
  have el : ∀ i, i < n.toNatClampNeg → sc.slots.getD (sp.toNatClampNeg + i) .null = .int (f (sp.toNatClampNeg + i)) := fun i hi => by
    rw [Array.getD_eq_getD_getElem?, u5 _ (by omega)]; rfl
  obtain ⟨vm', X', step⟩ := X.arraycopy hexec hown hlink hnat hstat hini (src := b0) (dst := a) (cs := sc) (cd := vp_cell c1 (n1, .inl g)) (srcPos := sp) (destPos := dp) (n := n) (by rw [hT]; exact hc0) (by rw [hT]; exact hc1)
    u6 (fun _ h => by cases h) u3 (fun h => by cases h) hkc hkd hcm hdm (by simp [refKind]) h1 h2 h3
    (by rw [nn sp h1, nn n h3]; omega)
    (by rw [nn dp h2, nn n h3]; show ¬ _ > ((arrV c1 n1 (fun j => .int (g j))).slots.size : Int); rw [arrV_size]; omega)
    (fun vm₁ _ i hi => ⟨by rw [el i hi]; rfl, by rw [el i hi]; exact trivial⟩)
    (g := F0 m pc ls (.int n :: .int dp :: .ref a :: .int sp :: .ref b0 :: rest)) rfl (by rw [hml]) (rest := rest) rfl (by rw [hb]; exact hdg) hframes (by show 2 * 0 + _ + _ ≤ _; omega)
  have e1 : copied sc (vp_cell c1 (n1, .inl g)) sp dp n = vp_cell c1 (n1, .inl (va_cpy f g sp.toNatClampNeg dp.toNatClampNeg n.toNatClampNeg)) := va_copiedX (fun z => .int z) sc c1 f g u5 h4
  rw [e1] at X' step
  have hl : a < H.size := (Array.getElem?_eq_some_iff.mp hc1).1
  have oq : ∀ (x : Cell) (q : Nat), q ≠ a → (H.setIfInBounds a x)[q]? = H[q]? := fun x q hq => by simp [Array.getElem?_setIfInBounds, Ne.symm hq]
  have hA1 : A a := hD.2 q1 _ ha1
  obtain ⟨t, a1, b1⟩ := kk (H.setIfInBounds a (vp_cell c1 (n1, .inl (va_cpy f g sp.toNatClampNeg dp.toNatClampNeg n.toNatClampNeg)))) _ (hP.set hD ha1 (show (H.setIfInBounds a (vp_cell c1 (n1, .inl (va_cpy f g sp.toNatClampNeg dp.toNatClampNeg n.toNatClampNeg))))[a]? = some (vp_cell c1 (n1, .inl (va_cpy f g sp.toNatClampNeg dp.toNatClampNeg n.toNatClampNeg))) by simp [Array.getElem?_setIfInBounds, hl]) (oq _)) (hD.set ha1) ⟨by simp; exact hS.1, fun q g1 g2 => by
      rw [oq _ q (fun z => g2 (by rw [z]; exact hA1))]
      exact hS.2.1 q g1 g2, fun q hq => by
      rcases List.mem_append.mp hq with h | h
      · exact hS.2.2 q h
      · obtain ⟨z, -, hz⟩ := List.mem_map.mp h
        rw [← hz]; exact hA1⟩ _ (by rw [← hT]; rfl) X'
  exact ⟨t, step t a1, b1⟩
end EXW
section EXN
variable {d mc ms : Nat} {M : mm_M} {cl sl : Nat} {Q : mm_Q} {pc : Nat} {lv st : List Value} {n : Nat} {h : mm_H}
theorem sn_gets {own : String} {j i : Nat} {q : String × List Int32} (ho : M.1.cls = own) (hq : mm_xa[i]? = some q) (hw : Cond.fieldLink own j "BeatenAfternoon$EstateReader" q.1 "[I" ∈ mm_gw) (hd : decode M.2.1 pc = .ok (.getstatic j, 3)) (kk : G d mc ms M cl sl Q (pc + 3) lv (.ref (1000 + i) :: st) n h) : G d mc ms M cl sl Q pc lv st n h := by
  intro l D p e s m args below meth c H locs ls ad ad0 ac A n0 hA hS hAA hSim hlv hn0 had hcl hsl
  subst ho
  exact va_gets hA.1 hA.2.1 ((mm_zs hAA hS hSim).1 i q hq).1 hS hA.2.2.2.2.1 (hA.2.2.2.2.2.1 _ (List.mem_cons_of_mem _ hw)) (fun x hx => hx) hd (kk l D p e s m args below meth c H locs ls ad ad0 ac A n0 hA hS hAA hSim hlv hn0 had hcl hsl)
theorem sn_getz {own : String} {j : Nat} (ho : M.1.cls = own) (hw : Cond.fieldLink own j "java/lang/String" "COMPACT_STRINGS" "Z" ∈ mm_gw) (hd : decode M.2.1 pc = .ok (.getstatic j, 3)) (kk : G d mc ms M cl sl Q (pc + 3) lv (.int 1 :: st) n h) : G d mc ms M cl sl Q pc lv st n h := by
  intro l D p e s m args below meth c H locs ls ad ad0 ac A n0 hA hS hAA hSim hlv hn0 had hcl hsl
  subst ho
  exact va_gets hA.1 hA.2.1 (mm_zs hAA hS hSim).2.1 hS hA.2.2.2.2.1 (hA.2.2.2.2.2.1 _ (List.mem_cons_of_mem _ hw)) (fun x hx => hx) hd (kk l D p e s m args below meth c H locs ls ad ad0 ac A n0 hA hS hAA hSim hlv hn0 had hcl hsl)
theorem sn_ldcS {q : String × Nat × String × Nat} (hq : q ∈ mm_xr) (ho : M.1.cls = q.1) (hd : decode M.2.1 pc = .ok (.ldc q.2.1, 2)) (kk : G d mc ms M cl sl Q (pc + 2) lv (.ref q.2.2.2 :: st) n h) : G d mc ms M cl sl Q pc lv st n h := by
  intro l D p e s m args below meth c H locs ls ad ad0 ac A n0 hA hS hAA hSim hlv hn0 had hcl hsl
  exact va_ldcS (own := q.1) (tx := q.2.2.1) (q := ad q.2.2.2) hA.1 hA.2.1 (by rw [← ho]; exact hA.2.2.2.2.1) ((mm_zs hAA hS hSim).2.2.2.1 q hq) hd (kk l D p e s m args below meth c H locs ls ad ad0 ac A n0 hA hS hAA hSim hlv hn0 had hcl hsl)
theorem sn_tlen {r : Nat} {ty : FieldType} {w : List Int32} (hr : mm_ext r = some (.inl (ty, w))) (hd : decode M.2.1 pc = .ok (.arraylength, 1)) (kk : G d mc ms M cl sl Q (pc + 1) lv (.int (Int32.ofNat w.length) :: st) n h) : G d mc ms M cl sl Q pc lv (.ref r :: st) n h := by
  intro l D p e s m args below meth c H locs ls ad ad0 ac A n0 hA hS hAA hSim hlv hn0 had hcl hsl
  exact va_tlen hA.1 hA.2.1 (mm_extT (mm_zs hAA hS hSim) hr) hS rfl hd (kk l D p e s m args below meth c H locs ls ad ad0 ac A n0 hA hS hAA hSim hlv hn0 had hcl hsl)
theorem sn_ti {r : Nat} {w : List Int32} {i : Int32} (hr : mm_ext r = some (.inl (.int, w))) (hi : vp_in i w.length) (hd : decode M.2.1 pc = .ok (.iaload, 1)) (kk : G d mc ms M cl sl Q (pc + 1) lv (.int (w.getD i.toNatClampNeg 0) :: st) n h) : G d mc ms M cl sl Q pc lv (.int i :: .ref r :: st) n h := by
  intro l D p e s m args below meth c H locs ls ad ad0 ac A n0 hA hS hAA hSim hlv hn0 had hcl hsl
  exact va_ti hA.1 hA.2.1 (mm_extT (mm_zs hAA hS hSim) hr) hS hi rfl hd (kk l D p e s m args below meth c H locs ls ad ad0 ac A n0 hA hS hAA hSim hlv hn0 had hcl hsl)
theorem sn_tb {r : Nat} {w : List Int32} {i : Int32} (hr : mm_ext r = some (.inl (.byte, w))) (hi : vp_in i w.length) (hd : decode M.2.1 pc = .ok (.baload, 1)) (kk : G d mc ms M cl sl Q (pc + 1) lv (.int (w.getD i.toNatClampNeg 0) :: st) n h) : G d mc ms M cl sl Q pc lv (.int i :: .ref r :: st) n h := by
  intro l D p e s m args below meth c H locs ls ad ad0 ac A n0 hA hS hAA hSim hlv hn0 had hcl hsl
  exact va_tb hA.1 hA.2.1 (mm_extT (mm_zs hAA hS hSim) hr) hS hi rfl hd (kk l D p e s m args below meth c H locs ls ad ad0 ac A n0 hA hS hAA hSim hlv hn0 had hcl hsl)
theorem sn_strV {own : String} {j r v : Nat} (ho : M.1.cls = own) (hr : mm_ext r = some (.inr v)) (hw : Cond.fieldLink own j "java/lang/String" "value" "[B" ∈ mm_gw) (hd : decode M.2.1 pc = .ok (.getfield j, 3)) (kk : G d mc ms M cl sl Q (pc + 3) lv (.ref v :: st) n h) : G d mc ms M cl sl Q pc lv (.ref r :: st) n h := by
  intro l D p e s m args below meth c H locs ls ad ad0 ac A n0 hA hS hAA hSim hlv hn0 had hcl hsl
  subst ho
  obtain ⟨i, hi, rfl, rfl⟩ := mm_extS hr
  exact vk_getf hA.1 hA.2.1 ((mm_zs hAA hS hSim).2.2.1.1 i hi).2.2.1 hS hA.2.2.2.2.1 (hA.2.2.2.2.2.1 _ (List.mem_cons_of_mem _ hw)) (fun x hx => hx) hd (kk l D p e s m args below meth c H locs ls ad ad0 ac A n0 hA hS hAA hSim hlv hn0 had hcl hsl)
theorem sn_strC {own : String} {j r v : Nat} (ho : M.1.cls = own) (hr : mm_ext r = some (.inr v)) (hw : Cond.fieldLink own j "java/lang/String" "coder" "B" ∈ mm_gw) (hd : decode M.2.1 pc = .ok (.getfield j, 3)) (kk : G d mc ms M cl sl Q (pc + 3) lv (.int 0 :: st) n h) : G d mc ms M cl sl Q pc lv (.ref r :: st) n h := by
  intro l D p e s m args below meth c H locs ls ad ad0 ac A n0 hA hS hAA hSim hlv hn0 had hcl hsl
  subst ho
  obtain ⟨i, hi, rfl, rfl⟩ := mm_extS hr
  exact vk_getf hA.1 hA.2.1 ((mm_zs hAA hS hSim).2.2.1.1 i hi).2.1 hS hA.2.2.2.2.1 (hA.2.2.2.2.2.1 _ (List.mem_cons_of_mem _ hw)) (fun x hx => hx) hd (kk l D p e s m args below meth c H locs ls ad ad0 ac A n0 hA hS hAA hSim hlv hn0 had hcl hsl)
theorem sn_callX {M' : mm_M} {Q1 : mm_Q} {j r v mc' ms' : Nat} {As : List Value} (hm : mm_okM M' As.length) (hlk : mm_lnk M.1.cls j M') (hin : Cond.instanceMethod M'.1 ∈ mm_gw) (hse : Cond.selects M'.1.cls M'.1 M'.1 ∈ mm_gw) (hr : mm_ext r = some (.inr v)) (hqc : M'.1.cls = "java/lang/String") (hcat : (st.map fun v => v.category).sum ≤ 8) (hd : decode M.2.1 pc = .ok (.invokevirtual j, 3)) (hcl : cl + mc' ≤ mc) (hsl : sl + ms' ≤ ms)
    (hB : Body d mc' ms' M' (.ref r :: As) n h Q1)
    (hQ1 : ∀ v n' h', Q1 v n' h' → (∀ ad ad' : Nat → Nat, (∀ k, k < n ∨ n' ≤ k → ad' k = ad k) → lv.map (mm_t ad') = lv.map (mm_t ad) ∧ st.map (mm_t ad') = st.map (mm_t ad)) ∧ G (d + 1) mc ms M (cl + mc') (sl + ms') Q (pc + 3) lv (v.toList ++ st) n' h') :
    G (d + 1) mc ms M cl sl Q pc lv (As.reverse ++ .ref r :: st) n h := by
  intro l D p e s m args below meth c H locs ls ad ad0 ac A n0 hA hS hAA hSim hlv hn0 had hcl0 hsl0
  have hts := hA.2.2.2.2.2.1
  have hP := mm_preS (l := l) hS hAA hSim (.ref r :: As)
  have tt : ∀ w, w ∈ mm_gw → w.before args s = true := fun w hw => hts w (List.mem_cons_of_mem _ hw)
  have hrec : ∃ cell : Cell, H[ad r]? = some cell ∧ cell.vm.isStatics = false ∧ s.vm.findClass M'.1.cls = some cell.cls := by
    obtain ⟨i, hi, rfl, rfl⟩ := mm_extS hr
    rw [hqc]
    exact vk_recv (adK := fun i => ad (1010 + i)) (mm_zs hAA hS hSim).2.2.1 hi hS
  refine mm_after hA hS hAA hSim hlv hn0 had hcl hsl (fun v n' h' z => ⟨(hQ1 v n' h' z).1 ad, (hQ1 v n' h' z).2⟩) ?_ (a := ((.ref r :: As).map (mm_t ad)).toArray)
  rcases hlk with hlk | ⟨host, hlk⟩
  · exact va_runV (C := M'.1.cls) (As := As.map (mm_t ad)) (rest := st.map (mm_t ad)) (index := j) (bytes := M'.2.1) (maxL := M'.2.2.1) (ret := M'.2.2.2) (n := As.length) ⟨hA.1, hA.2.1, hA.2.2.2.1, hA.2.2.2.2.1, hts⟩ (hB l D ad ac H.size)
      ⟨callB_of As.length hts (mm_good (mm_okM_ws hm)) rfl rfl rfl (tt _ hm.2.1) (tt _ hlk) hm.2.2.1 (mm_room hm.2.2.2), tt _ hin, tt _ hse⟩
      ⟨hP.1, hrec, hP.2⟩ rfl (by rw [List.length_map]) hlv.1 (mm_stk ad As r st) (lv_room (mm_cats ad hcat)) hd ⟨hcl, hsl⟩
  · exact va_runVN (C := M'.1.cls) (host := host) (As := As.map (mm_t ad)) (rest := st.map (mm_t ad)) (index := j) (bytes := M'.2.1) (maxL := M'.2.2.1) (ret := M'.2.2.2) (n := As.length) ⟨hA.1, hA.2.1, hA.2.2.2.1, hA.2.2.2.2.1, hts⟩ (hB l D ad ac H.size)
      ⟨va_cnB As.length hts (mm_good (mm_okM_ws hm)) rfl rfl rfl (hSim.2.2.2.2.2.1 _ hlk) (tt _ hm.2.1) hm.2.2.1 (mm_room hm.2.2.2), tt _ hin, tt _ hse⟩
      ⟨hP.1, hrec, hP.2⟩ rfl (by rw [List.length_map]) hlv.1 (mm_stk ad As r st) (lv_room (mm_cats ad hcat)) hd ⟨hcl, hsl⟩
theorem mm_K2 {D : va_G} {ad : Nat → Nat} {ac : Nat → ClassId} {A : Nat → Prop} {U : State} {H : Heap} (S : mm_Sim D ad ac n h A U H) {r r2 : Nat} {a b : FieldType × vp_A} (hr : h r = some (.inl a)) (hr2 : h r2 = some (.inl b)) : va_K D mm_cl [(ac r, a.1), (ac r2, b.1)] U :=
  ⟨S.2.2.2.1.1, fun k q hk => by
    match k, hk with
    | 0, hk => cases hk; exact S.2.2.2.2.1 r a hr
    | 1, hk => cases hk; exact S.2.2.2.2.1 r2 b hr2
    | k + 2, hk => simp at hk⟩
theorem mm_nfw : nativeFrameWords "java/lang/System" "arraycopy" 5 ≤ 50 := by decide
/-- the words of arraycopy -/
def mm_acw (own : String) (j : Nat) : Prop := Cond.methodLink own j arraycopyName ∈ mm_gw ∧ Cond.native arraycopyName ∈ mm_gw ∧ Cond.static arraycopyName ∈ mm_gw ∧ Cond.initialized "java/lang/System" ∈ mm_gw
theorem sn_copyi {own : String} {j r0 r1 n0 n1 : Nat} {f g : Nat → Int32} {sp dp k : Int32} (ho : M.1.cls = own) (hw : mm_acw own j) (hr0 : h r0 = some (.inl (.int, n0, .inl f))) (hr1 : h r1 = some (.inl (.int, n1, .inl g))) (h1 : ¬ sp < 0) (h2 : ¬ dp < 0) (h3 : ¬ k < 0) (h4 : sp.toNatClampNeg + k.toNatClampNeg ≤ n0) (h5 : dp.toNatClampNeg + k.toNatClampNeg ≤ n1) (hcat : (st.map fun v => v.category).sum ≤ 8) (hd : decode M.2.1 pc = .ok (.invokestatic j, 3))
    (kk : G (d + 1) mc ms M cl sl Q (pc + 3) lv st n (va_up h r1 (some (.inl (.int, n1, .inl (va_cpy f g sp.toNatClampNeg dp.toNatClampNeg k.toNatClampNeg)))))) : G (d + 1) mc ms M cl sl Q pc lv (.int k :: .int dp :: .ref r1 :: .int sp :: .ref r0 :: st) n h := by
  intro l D p e s m args below meth c H locs ls ad ad0 ac A n0' hA hS hAA hSim hlv hn0 had hcl hsl
  subst ho
  have tt : ∀ w, w ∈ mm_gw → w.before args s = true := fun w hw => hA.2.2.2.2.2.1 w (List.mem_cons_of_mem _ hw)
  have hc := mm_cats ad hcat
  have hn := mm_nfw
  exact va_copyi (ws := mm_ws ad ac n h) (cl := mm_cl) (a0 := ad r0) (a := ad r1) (f := f) (g := g) hA.1 hA.2.1 (hA.2.2.2.1.trans hlv.1.symm) hA.2.2.2.2.1 (tt _ hw.1) (tt _ hw.2.1) (tt _ hw.2.2.1) (tt _ hw.2.2.2) (mm_K2 hSim hr0 hr1) hSim.2.1 hSim.2.2.1 hS r0 r1 0 1 (mm_ws_get (mm_lt hSim hr0) hr0) (mm_ws_get (mm_lt hSim hr1) hr1) rfl rfl rfl h1 h2 h3 h4 h5 (fun i _ => rfl) (by show 1 ≤ d + 1 + 1; omega) (by show _ ≤ 40 * (d + 1 + 1); omega) hd
    (fun H1 locs1 hP1 hD1 hS1 => kk l D p e s m args below meth c H1 locs1 ls ad ad0 ac A n0' hA hS1 hAA (mm_up hSim hr1 (c' := .inl (.int, n1, .inl (va_cpy f g sp.toNatClampNeg dp.toNatClampNeg k.toNatClampNeg))) hP1 hD1 (fun a ha => ⟨_, rfl, by cases ha; rfl⟩) (mm_kept hAA hS hS1)) hlv hn0 had hcl hsl)
theorem sn_copyT {own : String} {j r0 r1 n1 : Nat} {w : List Int32} {g : Nat → Int32} {sp dp k : Int32} (ho : M.1.cls = own) (hw : mm_acw own j) (hr0 : mm_ext r0 = some (.inl (.int, w))) (hr1 : h r1 = some (.inl (.int, n1, .inl g))) (h1 : ¬ sp < 0) (h2 : ¬ dp < 0) (h3 : ¬ k < 0) (h4 : sp.toNatClampNeg + k.toNatClampNeg ≤ w.length) (h5 : dp.toNatClampNeg + k.toNatClampNeg ≤ n1) (hcat : (st.map fun v => v.category).sum ≤ 8) (hd : decode M.2.1 pc = .ok (.invokestatic j, 3))
    (kk : G (d + 1) mc ms M cl sl Q (pc + 3) lv st n (va_up h r1 (some (.inl (.int, n1, .inl (va_cpy (fun i => w.getD i 0) g sp.toNatClampNeg dp.toNatClampNeg k.toNatClampNeg)))))) : G (d + 1) mc ms M cl sl Q pc lv (.int k :: .int dp :: .ref r1 :: .int sp :: .ref r0 :: st) n h := by
  intro l D p e s m args below meth c H locs ls ad ad0 ac A n0' hA hS hAA hSim hlv hn0 had hcl hsl
  subst ho
  have tt : ∀ w, w ∈ mm_gw → w.before args s = true := fun w hw => hA.2.2.2.2.2.1 w (List.mem_cons_of_mem _ hw)
  have hc := mm_cats ad hcat
  have hn := mm_nfw
  exact mm_copyT (ws := mm_ws ad ac n h) (cl := mm_cl) (b0 := ad r0) (a := ad r1) (f := fun i => w.getD i 0) (g := g) hA.1 hA.2.1 (hA.2.2.2.1.trans hlv.1.symm) hA.2.2.2.2.1 (tt _ hw.1) (tt _ hw.2.1) (tt _ hw.2.2.1) (tt _ hw.2.2.2) (mm_K1 hSim hr1) hSim.2.1 hSim.2.2.1 hS (mm_extT (mm_zs hAA hS hSim) hr0) r1 0 (mm_ws_get (mm_lt hSim hr1) hr1) rfl h1 h2 h3 h4 h5 (by show 1 ≤ d + 1 + 1; omega) (by show _ ≤ 40 * (d + 1 + 1); omega) hd
    (fun H1 locs1 hP1 hD1 hS1 => kk l D p e s m args below meth c H1 locs1 ls ad ad0 ac A n0' hA hS1 hAA (mm_up hSim hr1 (c' := .inl (.int, n1, .inl (va_cpy (fun i => w.getD i 0) g sp.toNatClampNeg dp.toNatClampNeg k.toNatClampNeg))) hP1 hD1 (fun a ha => ⟨_, rfl, by cases ha; rfl⟩) (mm_kept hAA hS hS1)) hlv hn0 had hcl hsl)
end EXN
