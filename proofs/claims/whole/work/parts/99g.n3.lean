/-! NEW CELLS: Object's beginning, a law's -/
section N3
variable {d mc ms : Nat} {M : mm_M} {cl sl : Nat} {Q : mm_Q} {pc : Nat} {lv st : List Value} {n : Nat} {h : mm_H}
theorem sn_objI {own : String} {j r : Nat} (ho : M.1.cls = own) (hlk : Cond.methodLink own j Lib.objectInit ∈ mm_gw) (hcat : (st.map fun v => v.category).sum ≤ 8) (hd : decode M.2.1 pc = .ok (.invokespecial j, 3)) (kk : G d mc ms M cl sl Q (pc + 3) lv st n h) : G d mc ms M cl sl Q pc lv (.ref r :: st) n h := by
  subst ho
  intro l D p e s m args below meth c H locs ls ad ad0 ac A n0 hA hS hAA hSim hlv hn0 had hcl hsl
  refine W.objInit (cc := M.2.1) (idx := j) (a := ad r) (rest := st.map (mm_t ad)) hA.1 hA.2.1 hA.2.2.2.2.1 (mm_bf hA hlk) (mm_bf hA (mm_in 1 33 rfl rfl)) (mm_bf hA (mm_in 1 34 rfl rfl)) rfl (hlv.1.trans hA.2.2.2.1.symm) rfl hd (Nat.le_add_left 1 d) ?_ ?_
  · have := mm_cats ad hcat
    show 2 * 0 + ((st.map (mm_t ad)).map fun v => v.category).sum + 12 ≤ 40 * (d + 1)
    omega
  · exact kk l D p e s m args below meth c H locs ls ad ad0 ac A n0 hA hS hAA hSim hlv hn0 had hcl hsl
def mX5_init : mm_M := (yX5_init, cX5_init, 2, none)
/-- a law's beginning: a stack of its own -/
theorem b_law {r k : Nat} (hn : n < 1000) (hno : ∀ k x, h k = some x → mm_nor n x) (hr : h r = some (.inr (5, [.null, .null]))) (hrn : r ≠ n) (hkn : k ≠ n) (hQ : Q none (n + 1) (va_up (va_up (va_up h n (some (.inl (.int, 32, .inl fun _ => 0)))) r (some (.inr (5, [.null, .ref n])))) r (some (.inr (5, [.ref k, .ref n]))))) : Body d 1 32 mX5_init [.ref r, .ref k] n h Q := by
  refine body_of_G (lv := [.ref r, .ref k]) (by decide +kernel) (Nat.le_of_ble_eq_true rfl) rfl ?_
  refine sn_aload_n (j := 0) (x := r) (by decide +kernel) rfl ?_
  refine sn_objI (j := 1) rfl (mm_in 3 185 rfl rfl) (by decide) (by decide +kernel) ?_
  refine sn_aload_n (j := 0) (x := r) (by decide +kernel) rfl ?_
  refine sn_bipush (j := 32) (by decide +kernel) ?_
  refine sn_newa (atype := .int) (ty := .int) (N := 32) (a0 := (32, .inl fun _ => 0)) (mm_in 1 112 rfl rfl) rfl hn hno ?_ ?_ ?_ ?_ (by decide) (by decide) (by decide) (by decide) (by decide) (by decide +kernel) ?_
  · intro v hv
    simp only [List.mem_cons, List.not_mem_nil, or_false] at hv
    rcases hv with rfl | rfl
    · intro z; cases z; exact hrn rfl
    · intro z; cases z; exact hkn rfl
  · intro v hv
    simp only [List.mem_cons, List.not_mem_nil, or_false] at hv
    subst hv
    intro z; cases z; exact hrn rfl
  · intro cA; rfl
  · intro ad; rfl
  refine sn_putfield (own := RX5) (j := 9) (ci := 5) (k := 1) (fs := [.null, .null]) (q := (RX5, TX5, 2)) (ty := .array .int) rfl rfl okcX5 (by decide) (mm_in 3 187 rfl rfl) (by simp only [va_up, if_neg hrn]; exact hr) (fun _ => ⟨rfl, rfl⟩) (tyX5_ok 1 (by decide)) rfl rfl (by decide) (by decide +kernel) ?_
  refine sn_aload_n (j := 0) (x := r) (by decide +kernel) rfl ?_
  refine sn_aload_n (j := 1) (x := k) (by decide +kernel) rfl ?_
  refine sn_putfield (own := RX5) (j := 13) (ci := 5) (k := 0) (fs := [.null, .ref n]) (q := (RX5, TX5, 2)) (ty := .array .int) rfl rfl okcX5 (by decide) (mm_in 3 186 rfl rfl) (by simp [va_up]) (fun _ => ⟨rfl, rfl⟩) (tyX5_ok 0 (by decide)) rfl rfl (Nat.zero_lt_succ _) (by decide +kernel) ?_
  refine sn_return rfl (by decide +kernel) ?_
  exact hQ
theorem sn_min {own : String} {j : Nat} {x y : Int32} (ho : M.1.cls = own) (h1 : Cond.methodLink own j Lib.Math.min.name ∈ mm_gw) (hcat : (st.map fun v => v.category).sum ≤ 8) (hd : decode M.2.1 pc = .ok (.invokestatic j, 3)) (hcl0 : cl ≤ mc) (hsl0 : sl ≤ ms) (k : G (d + 1) mc ms M cl sl Q (pc + 3) lv (.int (if y < x then y else x) :: st) n h) : G (d + 1) mc ms M cl sl Q pc lv (.int y :: .int x :: st) n h := by
  intro l D p e s m args below meth c H locs ls ad ad0 ac A n0 hA hS hAA hSim hlv hn0 had hcl hsl
  subst ho
  have hc := mm_cats ad hcat
  exact va_mmin hA.1 hA.2.1 (hA.2.2.2.1.trans hlv.1.symm) hA.2.2.2.2.1 (mm_bf hA h1) (mm_bf hA (mm_in 3 0 rfl rfl)) (mm_bf hA (mm_in 1 16 rfl rfl)) (mm_bf hA (mm_in 3 1 rfl rfl)) (by show 1 ≤ d + 1 + 1; omega) (by show _ ≤ 40 * (d + 1 + 1); omega) hcl0 hsl0 hd (k l D p e s m args below meth c H locs ls ad ad0 ac A n0 hA hS hAA hSim hlv hn0 had hcl hsl)
/-- Arrays.copyOf, to another length -/
theorem b_copyOf {r k N : Nat} {f : Nat → Int32} (hn : n < 1000) (hno : ∀ k x, h k = some x → mm_nor n x) (hr : h r = some (.inl (.int, k, .inl f))) (hrn : r ≠ n) (hN : N < k) (hk : k ≤ 240) (hQ : Q (some (.ref n)) (n + 1) (va_up (va_up h n (some (.inl (.int, N, .inl fun _ => 0)))) n (some (.inl (.int, N, .inl (va_cpy f (fun _ => 0) 0 0 N)))))) : Body (d + 1) 1 240 mJ7_copyOf_59c91 [.ref r, .int (nI N)] n h Q := by
  have hcN : (nI N).toNatClampNeg = N := clp rfl (by omega)
  have hN0 : ¬ nI N < 0 := nI_nlt (b := 0) (a := N) (Nat.zero_le _) (by omega)
  refine body_of_G (lv := [.ref r, .int (nI N), .null]) (by decide +kernel) (Nat.le_of_ble_eq_true rfl) rfl ?_
  refine sn_iload_n (j := 1) (x := nI N) (by decide +kernel) rfl ?_
  refine sn_aload_n (j := 0) (x := r) (by decide +kernel) rfl ?_
  refine sn_alen hr (by decide +kernel) ?_
  refine sn_icmp_ne (off := 11) (by decide +kernel) (by decide) (fun _ => ?_) (fun z => ?_)
  · refine sn_iload_n (j := 1) (x := nI N) (by decide +kernel) rfl ?_
    refine sn_newa (atype := .int) (ty := .int) (N := N) (a0 := (N, .inl fun _ => 0)) (mm_in 1 112 rfl rfl) rfl hn hno ?_ ?_ (fun _ => rfl) (fun _ => rfl) hN0 hcN (by show N * 4 ≤ 536870912; omega) (by decide) (by omega) (by decide +kernel) ?_
    · intro v hv
      simp only [List.mem_cons, List.not_mem_nil, or_false] at hv
      rcases hv with rfl | rfl | rfl
      · intro z; cases z; exact hrn rfl
      · intro z; cases z
      · intro z; cases z
    · intro v hv; cases hv
    refine sn_astore_n (j := 2) (x := n) (by decide +kernel) (by decide) ?_
    refine sn_aload_n (j := 0) (x := r) (by decide +kernel) rfl ?_
    refine sn_iconst (j := 0) (by decide +kernel) ?_
    refine sn_aload_n (j := 2) (x := n) (by decide +kernel) rfl ?_
    refine sn_iconst (j := 0) (by decide +kernel) ?_
    refine sn_aload_n (j := 0) (x := r) (by decide +kernel) rfl ?_
    refine sn_alen (a := (.int, k, .inl f)) (by simp only [va_up, if_neg hrn]; exact hr) (by decide +kernel) ?_
    refine sn_iload_n (j := 1) (x := nI N) (by decide +kernel) rfl ?_
    refine sn_min (own := "java/util/Arrays") (j := 304) rfl (mm_in 3 180 rfl rfl) (Nat.le_of_ble_eq_true rfl) (by decide +kernel) (by decide) (by omega) ?_
    have hm : (if nI N < nI k then nI N else nI k) = nI N := if_pos (nI_lt (a := N) (b := k) hN (by omega))
    show G _ _ _ _ _ _ Q _ _ (.int (if nI N < nI k then nI N else nI k) :: _) _ _
    rw [hm]
    refine sn_copyi (own := "java/util/Arrays") (j := 150) (n0 := k) (n1 := N) (f := f) (g := fun _ => 0) rfl ⟨mm_in 3 181 rfl rfl, mm_in 2 206 rfl rfl, mm_in 2 205 rfl rfl, mm_in 1 13 rfl rfl⟩ (by simp only [va_up, if_neg hrn]; exact hr) (by simp [va_up]) (by decide) (by decide) hN0 ?_ ?_ (Nat.le_of_ble_eq_true rfl) (by decide +kernel) ?_
    · rw [hcN]; show 0 + N ≤ k; omega
    · rw [hcN]; show 0 + N ≤ N; omega
    · rw [hcN]
      refine sn_aload_n (j := 2) (x := n) (by decide +kernel) rfl ?_
      exact sn_areturn (rt := .array .int) rfl (Or.inr ⟨_, rfl⟩) (by decide +kernel) hQ
  · have z' : nI N = nI k := z
    exact absurd ((nI_eq (by omega) (by omega)).mp z') (by omega)
end N3
