section SH
variable {d mc ms : Nat} {M : mm_M} {cl sl : Nat} {Q : mm_Q} {pc : Nat} {lv st : List Value} {n : Nat} {h : mm_H}
/-- the fields of a class of the table: their places, names and types agree -/
def mm_okc (q : vw_C) : Prop := (∀ w ∈ u_ws q.1 q.2.1 q.2.2, w ∈ mm_gw) ∧ (∀ a, a < q.2.2 → ∀ b, b < q.2.2 → a ≠ b → (q.2.1 a).2.1 ≠ (q.2.1 b).2.1) ∧ (∃ ty : Nat → FieldType, ∀ k, k < q.2.2 → parseFieldDescriptor (q.2.1 k).2.2.1 = some (ty k)) ∧ ∀ k, k < q.2.2 → (q.2.1 k).1 = q.1
theorem sn_getfield {own : String} {j r ci k : Nat} {fs : List Value} {v : Value} {q : vw_C} (ho : M.1.cls = own) (hq : mm_cl[ci]? = some q) (hok : mm_okc q) (hk : k < q.2.2) (hw : Cond.fieldLink own j q.1 (q.2.1 k).2.1 (q.2.1 k).2.2.1 ∈ mm_gw) (hr : h r = some (.inr (ci, fs))) (hv : fs[k]? = some v) (hd : decode M.2.1 pc = .ok (.getfield j, 3))
    (kk : G d mc ms M cl sl Q (pc + 3) lv (v :: st) n h) : G d mc ms M cl sl Q pc lv (.ref r :: st) n h := by
  intro l D p e s m args below meth c H locs ls ad ad0 ac A n0 hA hS hAA hSim hlv hn0 had hcl hsl
  subst ho
  obtain ⟨C, T, N⟩ := q
  obtain ⟨hin, hnm, ⟨ty, hty⟩, hown⟩ := hok
  have hkN : k < N := hk
  have hoT : (T k).1 = C := hown k hkN
  refine va_get (cl := mm_cl) (D := D) (tys := []) (ws := mm_ws ad ac n h) (a := ad r) (C := C) (T := T) (N := N) (ci := ci) (ref := C) (index := j) (own := M.1.cls) (Ts := mm_w M) hA.1 hA.2.1 hA.2.2.2.2.2.1 (fun w hw => List.mem_cons_of_mem _ (hin w hw)) hA.2.2.2.2.1 hSim.2.2.2.1 hSim.2.1 r (fs := fs.map (mm_t ad)) (mm_ws_get (mm_lt hSim hr) hr) hq k hkN (hA.2.2.2.2.2.1 _ (List.mem_cons_of_mem _ hw)) (fun x hx => by rw [hoT] at hx; exact hx) (v := mm_t ad v) (by rw [List.getElem?_map, hv]; rfl) hd ?_
  exact kk l D p e s m args below meth c H locs ls ad ad0 ac A n0 hA hS hAA hSim hlv hn0 had hcl hsl
theorem mm_kept {A : Nat → Prop} {H0 H H1 : Heap} {locs locs1 : List Loc} (hAA : ∀ q : Nat, H0.size ≤ q → A q) (hS : va_S A H0 H locs) (hS1 : va_S A H0 H1 locs1) : ∀ q : Nat, q < H.size → ¬ A q → H1[q]? = H[q]? := by
  intro q _ hq
  have hlt : q < H0.size := Nat.lt_of_not_le (fun z => hq (hAA q z))
  rw [hS1.2.1 q hlt hq, hS.2.1 q hlt hq]
theorem mm_narrow {ty : FieldType} {ad : Nat → Nat} {v : Value} (h : narrow ty v = v) : narrow ty (mm_t ad v) = mm_t ad v := by
  cases v with
  | ref a => cases ty <;> rfl
  | _ => exact h
theorem mm_fits {ty : FieldType} {ad : Nat → Nat} {v : Value} (h : fits ty v = true) : fits ty (mm_t ad v) = true := by
  cases v with
  | ref a => cases ty <;> first | exact h | rfl
  | _ => exact h
theorem sn_putfield {own : String} {j r ci k : Nat} {fs : List Value} {v : Value} {q : vw_C} {ty : FieldType} (ho : M.1.cls = own) (hq : mm_cl[ci]? = some q) (hok : mm_okc q) (hk : k < q.2.2) (hw : Cond.fieldLink own j q.1 (q.2.1 k).2.1 (q.2.1 k).2.2.1 ∈ mm_gw) (hr : h r = some (.inr (ci, fs))) (hf : (q.2.1 k).2.2.2 = true → M.1.name = "<init>" ∧ q.1 = own) (hty0 : parseFieldDescriptor (q.2.1 k).2.2.1 = some ty) (hn : narrow ty v = v) (hfi : fits ty v = true) (hl : k < fs.length) (hd : decode M.2.1 pc = .ok (.putfield j, 3))
    (kk : G d mc ms M cl sl Q (pc + 3) lv st n (va_up h r (some (.inr (ci, fs.set k v))))) : G d mc ms M cl sl Q pc lv (v :: .ref r :: st) n h := by
  intro l D p e s m args below meth c H locs ls ad ad0 ac A n0 hA hS hAA hSim hlv hn0 had hcl hsl
  subst ho
  obtain ⟨C, T, N⟩ := q
  obtain ⟨hin, hnm, ⟨ty1, hty⟩, hown⟩ := hok
  have hkN : k < N := hk
  have hoT : (T k).1 = C := hown k hkN
  have key : ∀ (H1 : Heap) (locs1 : List Loc), va_P D mm_cl ((mm_ws ad ac n h).set r (ad r, .inr (ci, (fs.map (mm_t ad)).set k (mm_t ad v)))) H1 → va_D A ((mm_ws ad ac n h).set r (ad r, .inr (ci, (fs.map (mm_t ad)).set k (mm_t ad v)))) → va_S A s.heap H1 locs1 → W p l e (mm_R d mc ms) s m args below meth c H1 locs1 cl sl (MQ below (mm_Qc D ad0 n0 A Q) args s mc ms A) (F0 m (pc + 3) ls (st.map (mm_t ad))) := by
    intro H1 locs1 hP1 hD1 hS1
    have e1 : (Sum.inr (ci, (fs.map (mm_t ad)).set k (mm_t ad v)) : va_E) = mm_tC ad ac r (.inr (ci, fs.set k v)) := by simp [mm_tC, List.map_set]
    rw [e1] at hP1 hD1
    exact kk l D p e s m args below meth c H1 locs1 ls ad ad0 ac A n0 hA hS1 hAA (mm_up hSim hr hP1 hD1 (fun a ha => by cases ha) (mm_kept hAA hS hS1)) hlv hn0 had hcl hsl
  cases hfin : (T k).2.2.2 with
  | false => exact va_put (cl := mm_cl) (D := D) (tys := []) (A := A) (ws := mm_ws ad ac n h) (a := ad r) (C := C) (T := T) (N := N) (ci := ci) (ref := C) (index := j) (own := M.1.cls) (Ts := mm_w M) hA.1 hA.2.1 hA.2.2.2.2.2.1 (fun w hw => List.mem_cons_of_mem _ (hin w hw)) ty1 hty hnm hA.2.2.2.2.1 hSim.2.2.2.1 hSim.2.1 hSim.2.2.1 hS r (fs := fs.map (mm_t ad)) (mm_ws_get (mm_lt hSim hr) hr) hq k hkN (hA.2.2.2.2.2.1 _ (List.mem_cons_of_mem _ hw)) (fun x hx => by rw [hoT] at hx; exact hx) hfin hty0 (mm_narrow hn) (mm_fits hfi) (by rw [List.length_map]; exact hl) hd key
  | true =>
    obtain ⟨hi1, hi2⟩ := hf hfin
    exact va_putF (cl := mm_cl) (D := D) (tys := []) (A := A) (ws := mm_ws ad ac n h) (a := ad r) (C := C) (T := T) (N := N) (ci := ci) (ref := C) (index := j) (own := M.1.cls) (Ts := mm_w M) hA.1 hA.2.1 hA.2.2.2.2.2.1 (fun w hw => List.mem_cons_of_mem _ (hin w hw)) ty1 hty hnm hA.2.2.2.2.1 hSim.2.2.2.1 hSim.2.1 hSim.2.2.1 hS r (fs := fs.map (mm_t ad)) (mm_ws_get (mm_lt hSim hr) hr) hq k hkN (hA.2.2.2.2.2.1 _ (List.mem_cons_of_mem _ hw)) (fun x hx => by rw [hoT] at hx; exact hx) hfin (by rw [hA.2.2.2.2.2.2.2]; exact hi1) (by rw [hoT]; exact hi2) hty0 (mm_narrow hn) (mm_fits hfi) (by rw [List.length_map]; exact hl) hd key
-- arrays
theorem mm_K1 {D : va_G} {ad : Nat → Nat} {ac : Nat → ClassId} {A : Nat → Prop} {U : State} {H : Heap} {n : Nat} {h : mm_H} (S : mm_Sim D ad ac n h A U H) {r : Nat} {a : FieldType × vp_A} (hr : h r = some (.inl a)) : va_K D mm_cl [(ac r, a.1)] U :=
  ⟨S.2.2.2.1.1, fun k q hk => by
    cases k with
    | zero => cases hk; exact S.2.2.2.2.1 r a hr
    | succ k => simp at hk⟩
theorem sn_alen {r : Nat} {a : FieldType × vp_A} (hr : h r = some (.inl a)) (hd : decode M.2.1 pc = .ok (.arraylength, 1)) (kk : G d mc ms M cl sl Q (pc + 1) lv (.int (Int32.ofNat a.2.1) :: st) n h) : G d mc ms M cl sl Q pc lv (.ref r :: st) n h := by
  intro l D p e s m args below meth c H locs ls ad ad0 ac A n0 hA hS hAA hSim hlv hn0 had hcl hsl
  exact va_alen (ws := mm_ws ad ac n h) (cl := mm_cl) (a := ad r) hA.1 hA.2.1 (mm_K1 hSim hr) hSim.2.1 r 0 (mm_ws_get (mm_lt hSim hr) hr) rfl rfl hd (kk l D p e s m args below meth c H locs ls ad ad0 ac A n0 hA hS hAA hSim hlv hn0 had hcl hsl)
theorem sn_iald {r k : Nat} {f : Nat → Int32} {i : Int32} (hr : h r = some (.inl (.int, k, .inl f))) (hi : vp_in i k) (hd : decode M.2.1 pc = .ok (.iaload, 1)) (kk : G d mc ms M cl sl Q (pc + 1) lv (.int (f i.toNatClampNeg) :: st) n h) : G d mc ms M cl sl Q pc lv (.int i :: .ref r :: st) n h := by
  intro l D p e s m args below meth c H locs ls ad ad0 ac A n0 hA hS hAA hSim hlv hn0 had hcl hsl
  exact va_iald (ws := mm_ws ad ac n h) (cl := mm_cl) (a := ad r) (n := k) (f := f) hA.1 hA.2.1 (mm_K1 hSim hr) hSim.2.1 r 0 (mm_ws_get (mm_lt hSim hr) hr) rfl hi hd (kk l D p e s m args below meth c H locs ls ad ad0 ac A n0 hA hS hAA hSim hlv hn0 had hcl hsl)
theorem sn_cald {r k : Nat} {f : Nat → Int32} {i : Int32} (hr : h r = some (.inl (.char, k, .inl f))) (hi : vp_in i k) (hd : decode M.2.1 pc = .ok (.caload, 1)) (kk : G d mc ms M cl sl Q (pc + 1) lv (.int (f i.toNatClampNeg) :: st) n h) : G d mc ms M cl sl Q pc lv (.int i :: .ref r :: st) n h := by
  intro l D p e s m args below meth c H locs ls ad ad0 ac A n0 hA hS hAA hSim hlv hn0 had hcl hsl
  exact va_cald (ws := mm_ws ad ac n h) (cl := mm_cl) (a := ad r) (n := k) (f := f) hA.1 hA.2.1 (mm_K1 hSim hr) hSim.2.1 r 0 (mm_ws_get (mm_lt hSim hr) hr) rfl hi hd (kk l D p e s m args below meth c H locs ls ad ad0 ac A n0 hA hS hAA hSim hlv hn0 had hcl hsl)
theorem sn_zald {r k : Nat} {f : Nat → Int32} {i : Int32} (hr : h r = some (.inl (.boolean, k, .inl f))) (hi : vp_in i k) (hd : decode M.2.1 pc = .ok (.baload, 1)) (kk : G d mc ms M cl sl Q (pc + 1) lv (.int (f i.toNatClampNeg) :: st) n h) : G d mc ms M cl sl Q pc lv (.int i :: .ref r :: st) n h := by
  intro l D p e s m args below meth c H locs ls ad ad0 ac A n0 hA hS hAA hSim hlv hn0 had hcl hsl
  exact va_zald (ws := mm_ws ad ac n h) (cl := mm_cl) (a := ad r) (n := k) (f := f) hA.1 hA.2.1 (mm_K1 hSim hr) hSim.2.1 r 0 (mm_ws_get (mm_lt hSim hr) hr) rfl hi hd (kk l D p e s m args below meth c H locs ls ad ad0 ac A n0 hA hS hAA hSim hlv hn0 had hcl hsl)
theorem sn_lald {r k : Nat} {f : Nat → Int64} {i : Int32} (hr : h r = some (.inl (.long, k, .inr (.inl f)))) (hi : vp_in i k) (hd : decode M.2.1 pc = .ok (.laload, 1)) (kk : G d mc ms M cl sl Q (pc + 1) lv (.long (f i.toNatClampNeg) :: st) n h) : G d mc ms M cl sl Q pc lv (.int i :: .ref r :: st) n h := by
  intro l D p e s m args below meth c H locs ls ad ad0 ac A n0 hA hS hAA hSim hlv hn0 had hcl hsl
  exact va_lald (ws := mm_ws ad ac n h) (cl := mm_cl) (a := ad r) (n := k) (f := f) hA.1 hA.2.1 (mm_K1 hSim hr) hSim.2.1 r 0 (mm_ws_get (mm_lt hSim hr) hr) rfl hi hd (kk l D p e s m args below meth c H locs ls ad ad0 ac A n0 hA hS hAA hSim hlv hn0 had hcl hsl)
theorem mm_t_rf (ad : Nat → Nat) (x : Option Nat) : mm_t ad (va_rf x) = va_rf (x.map ad) := by cases x <;> rfl
theorem sn_aald {r k : Nat} {C : String} {f : Nat → Option Nat} {i : Int32} (hr : h r = some (.inl (.object C, k, .inr (.inr (.inr (.inr f)))))) (hi : vp_in i k) (hd : decode M.2.1 pc = .ok (.aaload, 1)) (kk : G d mc ms M cl sl Q (pc + 1) lv (va_rf (f i.toNatClampNeg) :: st) n h) : G d mc ms M cl sl Q pc lv (.int i :: .ref r :: st) n h := by
  intro l D p e s m args below meth c H locs ls ad ad0 ac A n0 hA hS hAA hSim hlv hn0 had hcl hsl
  have h1 := kk l D p e s m args below meth c H locs ls ad ad0 ac A n0 hA hS hAA hSim hlv hn0 had hcl hsl
  rw [List.map_cons, mm_t_rf] at h1
  exact va_aldq (ws := mm_ws ad ac n h) (cl := mm_cl) (a := ad r) (n := k) (f := fun i => (f i).map ad) hA.1 hA.2.1 (mm_K1 hSim hr) hSim.2.1 r 0 (mm_ws_get (mm_lt hSim hr) hr) rfl hi hd h1
theorem sn_iast {r k : Nat} {f : Nat → Int32} {i x : Int32} (hr : h r = some (.inl (.int, k, .inl f))) (hi : vp_in i k) (hd : decode M.2.1 pc = .ok (.iastore, 1)) (kk : G d mc ms M cl sl Q (pc + 1) lv st n (va_up h r (some (.inl (.int, k, .inl (upd f i.toNatClampNeg x)))))) : G d mc ms M cl sl Q pc lv (.int x :: .int i :: .ref r :: st) n h := by
  intro l D p e s m args below meth c H locs ls ad ad0 ac A n0 hA hS hAA hSim hlv hn0 had hcl hsl
  exact va_iast (ws := mm_ws ad ac n h) (cl := mm_cl) (a := ad r) (n := k) (f := f) hA.1 hA.2.1 (mm_K1 hSim hr) hSim.2.1 hSim.2.2.1 hS r 0 (mm_ws_get (mm_lt hSim hr) hr) rfl hi hd (fun H1 locs1 hP1 hD1 hS1 => kk l D p e s m args below meth c H1 locs1 ls ad ad0 ac A n0 hA hS1 hAA (mm_up hSim hr (c' := .inl (.int, k, .inl (upd f i.toNatClampNeg x))) hP1 hD1 (fun a ha => ⟨_, rfl, by cases ha; rfl⟩) (mm_kept hAA hS hS1)) hlv hn0 had hcl hsl)
theorem sn_cast {r k : Nat} {f : Nat → Int32} {i x : Int32} (hr : h r = some (.inl (.char, k, .inl f))) (hi : vp_in i k) (hd : decode M.2.1 pc = .ok (.castore, 1)) (kk : G d mc ms M cl sl Q (pc + 1) lv st n (va_up h r (some (.inl (.char, k, .inl (upd f i.toNatClampNeg (vp_nar .char x))))))) : G d mc ms M cl sl Q pc lv (.int x :: .int i :: .ref r :: st) n h := by
  intro l D p e s m args below meth c H locs ls ad ad0 ac A n0 hA hS hAA hSim hlv hn0 had hcl hsl
  exact va_cast (ws := mm_ws ad ac n h) (cl := mm_cl) (a := ad r) (n := k) (f := f) hA.1 hA.2.1 (mm_K1 hSim hr) hSim.2.1 hSim.2.2.1 hS r 0 (mm_ws_get (mm_lt hSim hr) hr) rfl hi hd (fun H1 locs1 hP1 hD1 hS1 => kk l D p e s m args below meth c H1 locs1 ls ad ad0 ac A n0 hA hS1 hAA (mm_up hSim hr (c' := .inl (.char, k, .inl (upd f i.toNatClampNeg (vp_nar .char x)))) hP1 hD1 (fun a ha => ⟨_, rfl, by cases ha; rfl⟩) (mm_kept hAA hS hS1)) hlv hn0 had hcl hsl)
theorem sn_zast {r k : Nat} {f : Nat → Int32} {i x : Int32} (hr : h r = some (.inl (.boolean, k, .inl f))) (hi : vp_in i k) (hd : decode M.2.1 pc = .ok (.bastore, 1)) (kk : G d mc ms M cl sl Q (pc + 1) lv st n (va_up h r (some (.inl (.boolean, k, .inl (upd f i.toNatClampNeg (vp_nar .boolean x))))))) : G d mc ms M cl sl Q pc lv (.int x :: .int i :: .ref r :: st) n h := by
  intro l D p e s m args below meth c H locs ls ad ad0 ac A n0 hA hS hAA hSim hlv hn0 had hcl hsl
  exact va_zast (ws := mm_ws ad ac n h) (cl := mm_cl) (a := ad r) (n := k) (f := f) hA.1 hA.2.1 (mm_K1 hSim hr) hSim.2.1 hSim.2.2.1 hS r 0 (mm_ws_get (mm_lt hSim hr) hr) rfl hi hd (fun H1 locs1 hP1 hD1 hS1 => kk l D p e s m args below meth c H1 locs1 ls ad ad0 ac A n0 hA hS1 hAA (mm_up hSim hr (c' := .inl (.boolean, k, .inl (upd f i.toNatClampNeg (vp_nar .boolean x)))) hP1 hD1 (fun a ha => ⟨_, rfl, by cases ha; rfl⟩) (mm_kept hAA hS hS1)) hlv hn0 had hcl hsl)
theorem sn_last {r k : Nat} {f : Nat → Int64} {i : Int32} {x : Int64} (hr : h r = some (.inl (.long, k, .inr (.inl f)))) (hi : vp_in i k) (hd : decode M.2.1 pc = .ok (.lastore, 1)) (kk : G d mc ms M cl sl Q (pc + 1) lv st n (va_up h r (some (.inl (.long, k, .inr (.inl (vp_updL f i.toNatClampNeg x))))))) : G d mc ms M cl sl Q pc lv (.long x :: .int i :: .ref r :: st) n h := by
  intro l D p e s m args below meth c H locs ls ad ad0 ac A n0 hA hS hAA hSim hlv hn0 had hcl hsl
  exact va_last (ws := mm_ws ad ac n h) (cl := mm_cl) (a := ad r) (n := k) (f := f) hA.1 hA.2.1 (mm_K1 hSim hr) hSim.2.1 hSim.2.2.1 hS r 0 (mm_ws_get (mm_lt hSim hr) hr) rfl hi hd (fun H1 locs1 hP1 hD1 hS1 => kk l D p e s m args below meth c H1 locs1 ls ad ad0 ac A n0 hA hS1 hAA (mm_up hSim hr (c' := .inl (.long, k, .inr (.inl (vp_updL f i.toNatClampNeg x)))) hP1 hD1 (fun a ha => ⟨_, rfl, by cases ha; rfl⟩) (mm_kept hAA hS hS1)) hlv hn0 had hcl hsl)
theorem sn_aast {r rv k ci : Nat} {q : vw_C} {vs : List Value} {f : Nat → Option Nat} {i : Int32} (hr : h r = some (.inl (.object q.1, k, .inr (.inr (.inr (.inr f)))))) (hv : h rv = some (.inr (ci, vs))) (hq : mm_cl[ci]? = some q) (hi : vp_in i k) (hd : decode M.2.1 pc = .ok (.aastore, 1)) (kk : G d mc ms M cl sl Q (pc + 1) lv st n (va_up h r (some (.inl (.object q.1, k, .inr (.inr (.inr (.inr (va_up f i.toNatClampNeg (some rv)))))))))) : G d mc ms M cl sl Q pc lv (.ref rv :: .int i :: .ref r :: st) n h := by
  intro l D p e s m args below meth c H locs ls ad ad0 ac A n0 hA hS hAA hSim hlv hn0 had hcl hsl
  refine va_astq (ws := mm_ws ad ac n h) (cl := mm_cl) (a := ad r) (n := k) (v := ad rv) (f := fun i => (f i).map ad) hA.1 hA.2.1 (mm_K1 hSim hr) hSim.2.1 hSim.2.2.1 hS r 0 rv ci (mm_ws_get (mm_lt hSim hr) hr) rfl (mm_ws_get (mm_lt hSim hv) hv) hq hi hd (fun H1 locs1 hP1 hD1 hS1 => ?_)
  refine kk l D p e s m args below meth c H1 locs1 ls ad ad0 ac A n0 hA hS1 hAA (mm_up hSim hr (c' := .inl (.object q.1, k, .inr (.inr (.inr (.inr (va_up f i.toNatClampNeg (some rv))))))) ?_ ?_ (fun a ha => ⟨_, rfl, by cases ha; rfl⟩) (mm_kept hAA hS hS1)) hlv hn0 had hcl hsl
  · have e1 : mm_tC ad ac r (.inl (.object q.1, k, .inr (.inr (.inr (.inr (va_up f i.toNatClampNeg (some rv))))))) = .inl (ac r, k, .inr (.inr (.inr (.inr (va_up (fun i => (f i).map ad) i.toNatClampNeg (some (ad rv))))))) := by
      simp only [mm_tC, mm_tA]
      congr 7
      funext j
      by_cases hj : j = i.toNatClampNeg <;> simp [va_up, hj]
    rw [e1]
    exact hP1
  · have e1 : mm_tC ad ac r (.inl (.object q.1, k, .inr (.inr (.inr (.inr (va_up f i.toNatClampNeg (some rv))))))) = .inl (ac r, k, .inr (.inr (.inr (.inr (va_up (fun i => (f i).map ad) i.toNatClampNeg (some (ad rv))))))) := by
      simp only [mm_tC, mm_tA]
      congr 7
      funext j
      by_cases hj : j = i.toNatClampNeg <;> simp [va_up, hj]
    rw [e1]
    exact hD1
end SH
