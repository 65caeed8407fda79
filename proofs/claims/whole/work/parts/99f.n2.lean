/-! NEW CELLS: the instructions -/
section N2
variable {d mc ms : Nat} {M : mm_M} {cl sl : Nat} {Q : mm_Q} {pc : Nat} {lv st : List Value} {n : Nat} {h : mm_H}
theorem mm_bf {p : Program} {s : State} {m : MethodId} {args : Array Value} {meth : Method} {c : Code} (hA : mm_At p s m args meth c M) {w : Cond} (hw : w ∈ mm_gw) : w.before args s = true := hA.2.2.2.2.2.1 _ (List.mem_cons_of_mem _ hw)
theorem sn_newa {atype : ArrayType} {ty : FieldType} (hw : Cond.arrayClass (newarray.typeOf atype) ∈ mm_gw) (hty : newarray.typeOf atype = ty) (hn : n < 1000) (hno : ∀ k x, h k = some x → mm_nor n x) (hlvn : ∀ v ∈ lv, v ≠ .ref n) (hstn : ∀ v ∈ st, v ≠ .ref n) {i : Int32} {N : Nat} {a0 : vp_A} (ha : ∀ cA : ClassId, vp_cell cA a0 = arrV cA N (fun _ => defaultValue ty)) (ha0 : ∀ ad, mm_tA ad a0 = a0) (hi : ¬ i < 0) (hN : i.toNatClampNeg = N) (hbytes : N * componentBytes ty ≤ 536870912) (hcl : cl + 1 ≤ mc) (hsl : sl + N ≤ ms) (hd : decode M.2.1 pc = .ok (.newarray atype, 2))
    (kk : G d mc ms M (cl + 1) (sl + N) Q (pc + 2) lv (.ref n :: st) (n + 1) (va_up h n (some (.inl (ty, a0))))) : G d mc ms M cl sl Q pc lv (.int i :: st) n h := by
  intro l D p e s m args below meth c H locs ls ad ad0 ac A n0 hA hS hAA hSim hlv hn0 had hcl' hsl'
  refine va_newa (ws := mm_ws ad ac n h) (cl := mm_cl) (tys := []) (D := D) hA.1 hA.2.1 (mm_bf hA hw) hty hSim.2.2.2.1 hSim.2.1 hSim.2.2.1 hS hAA ha hi hN hbytes hcl hsl hd (fun q cA H1 hK1 hP1 hD1 hS1 => ?_)
  have e1 : mm_tC (va_up ad n q) (va_up ac n cA) n (.inl (ty, a0)) = .inl (cA, a0) := by
    simp only [mm_tC, ha0]
    simp [va_up]
  have hS' := mm_push (q := q) (cA := cA) (c := .inl (ty, a0)) (H1 := H1) hSim hn hno (by rw [e1]; exact hP1) (by rw [e1]; exact hD1) (fun a ha => by cases ha; exact hK1.2 0 _ rfl) (mm_kept hAA hS hS1)
  have := kk l D p e s m args below meth c H1 locs ls (va_up ad n q) ad0 (va_up ac n cA) A n0 hA hS1 hAA hS' (mm_lv_up hlv hlvn) (by omega) (fun k hk => by
    rw [show va_up ad n q k = ad k by simp [va_up, show k ≠ n by omega]]
    exact had k (by omega)) hcl hsl
  rw [List.map_cons, mm_st_up hstn, show mm_t (va_up ad n q) (.ref n) = .ref q by simp [mm_t, va_up]] at this
  exact this
theorem sn_new {own : String} {q : vw_C} {ci index : Nat} (hq : mm_cl[ci]? = some q) (hok : mm_okc q) (ho : M.1.cls = own) (hlk : Cond.classLink own index q.1 ∈ mm_gw) (hinst : Cond.instantiable q.1 q.2.2 ∈ mm_gw) (hini : Cond.initialized q.1 ∈ mm_gw) (hn : n < 1000) (hno : ∀ k x, h k = some x → mm_nor n x) (hlvn : ∀ v ∈ lv, v ≠ .ref n) (hstn : ∀ v ∈ st, v ≠ .ref n) {fs : List Value} (ty : Nat → FieldType) (hty : ∀ k, k < q.2.2 → parseFieldDescriptor (q.2.1 k).2.2.1 = some (ty k)) (hfs : ∀ j, j < q.2.2 → defaultValue (ty j) = vp_V fs j) (hfr : ∀ v ∈ fs, ∀ k, v ≠ .ref k) (hcl : cl + 1 ≤ mc) (hsl : sl + q.2.2 ≤ ms) (hd : decode M.2.1 pc = .ok (.new index, 3))
    (kk : G d mc ms M (cl + 1) (sl + q.2.2) Q (pc + 3) lv (.ref n :: st) (n + 1) (va_up h n (some (.inr (ci, fs))))) : G d mc ms M cl sl Q pc lv st n h := by
  subst ho
  intro l D p e s m args below meth c H locs ls ad ad0 ac A n0 hA hS hAA hSim hlv hn0 had hcl' hsl'
  refine va_new (ws := mm_ws ad ac n h) (cl := mm_cl) (tys := []) (D := D) (C := q.1) (T := q.2.1) (N := q.2.2) (ci := ci) (Ts := mm_gw) (fs := fs) hA.1 hA.2.1 (fun w hw => mm_bf hA hw) hok.1 ty hty hA.2.2.2.2.1 (mm_bf hA hlk) (mm_bf hA hinst) (mm_bf hA hini) hSim.2.2.2.1 hSim.2.1 hSim.2.2.1 hS hAA hq hfs hcl hsl hd (fun x H1 hP1 hD1 hS1 => ?_)
  have e1 : mm_tC (va_up ad n x) (va_up ac n (ac n)) n (.inr (ci, fs)) = .inr (ci, fs) := by
    simp only [mm_tC]
    congr 2
    have : fs.map (mm_t (va_up ad n x)) = fs.map id := List.map_congr_left (fun v hv => by
      have := hfr v hv
      cases v with
      | ref k => exact absurd rfl (this k)
      | _ => rfl)
    rw [this, List.map_id]
  have hS' := mm_push (q := x) (cA := ac n) (c := .inr (ci, fs)) (H1 := H1) hSim hn hno (by rw [e1]; exact hP1) (by rw [e1]; exact hD1) (fun a ha => by cases ha) (mm_kept hAA hS hS1)
  have := kk l D p e s m args below meth c H1 locs ls (va_up ad n x) ad0 (va_up ac n (ac n)) A n0 hA hS1 hAA hS' (mm_lv_up hlv hlvn) (by omega) (fun k hk => by
    rw [show va_up ad n x k = ad k by simp [va_up, show k ≠ n by omega]]
    exact had k (by omega)) hcl hsl
  rw [List.map_cons, mm_st_up hstn, show mm_t (va_up ad n x) (.ref n) = .ref x by simp [mm_t, va_up]] at this
  exact this
end N2
