/-! NEW CELLS: a copy by clone -/
theorem va_P_alt {D : va_G} {cl : List vw_C} {ws : va_W} {q : Nat} {x y : ClassId × vp_A} {H : Heap} (h : va_P D cl (ws ++ [(q, .inl x)]) H) (hc : vp_cell y.1 y.2 = vp_cell x.1 x.2) : va_P D cl (ws ++ [(q, .inl y)]) H := by
  intro k z hk
  rcases Nat.lt_or_ge k ws.length with hl | hl
  · rw [List.getElem?_append_left hl] at hk
    exact h k z (by rw [List.getElem?_append_left hl]; exact hk)
  · rw [List.getElem?_append_right hl] at hk
    cases hkk : k - ws.length with
    | zero =>
      rw [hkk] at hk
      have hz : (q, Sum.inl y) = z := Option.some.inj hk
      subst hz
      have := h k (q, .inl x) (by rw [List.getElem?_append_right hl, hkk]; rfl)
      show H[q]? = some (vp_cell y.1 y.2)
      rw [hc]; exact this
    | succ m => rw [hkk] at hk; simp at hk
theorem va_D_alt {A : Nat → Prop} {ws : va_W} {q : Nat} {x y : va_E} (h : va_D A (ws ++ [(q, x)])) : va_D A (ws ++ [(q, y)]) := by
  have hm : ∀ (i : Nat) (p : Nat × va_E), (ws ++ [(q, y)])[i]? = some p → ∃ p' : Nat × va_E, (ws ++ [(q, x)])[i]? = some p' ∧ p'.1 = p.1 := by
    intro i p hi
    rcases Nat.lt_or_ge i ws.length with hl | hl
    · rw [List.getElem?_append_left hl] at hi
      exact ⟨p, by rw [List.getElem?_append_left hl]; exact hi, rfl⟩
    · rw [List.getElem?_append_right hl] at hi
      cases hkk : i - ws.length with
      | zero =>
        rw [hkk] at hi
        have hz : (q, y) = p := Option.some.inj hi
        subst hz
        exact ⟨(q, x), by rw [List.getElem?_append_right hl, hkk]; rfl, rfl⟩
      | succ m => rw [hkk] at hi; simp at hi
  refine ⟨fun i j a b hi hj e => ?_, fun k z hk => ?_⟩
  · obtain ⟨a', ha, ea⟩ := hm i a hi
    obtain ⟨b', hb, eb⟩ := hm j b hj
    exact h.1 i j a' b' ha hb (by rw [ea, eb]; exact e)
  · obtain ⟨a', ha, ea⟩ := hm k z hk
    rw [← ea]; exact h.2 k a' ha
theorem arrV_cg {cI : ClassId} {N : Nat} {f g : Nat → Value} (h : ∀ j, j < N → f j = g j) : arrV cI N f = arrV cI N g := by
  unfold arrV
  congr 1
  congr 1
  funext j
  exact h j.val j.isLt
section N8
variable {d mc ms : Nat} {M : mm_M} {cl sl : Nat} {Q : mm_Q} {pc : Nat} {lv st : List Value} {n : Nat} {h : mm_H}
theorem mm_cI {D : va_G} {ad : Nat → Nat} {ac : Nat → ClassId} {A : Nat → Prop} {U : State} {H : Heap} (S : mm_Sim D ad ac n h A U H) {r : Nat} {a : vp_A} (hr : h r = some (.inl (.int, a))) : U.vm.findClass "[I" = some (ac r) := (S.2.2.2.2.1 r _ hr).2
theorem mm_rlt {D : va_G} {ad : Nat → Nat} {ac : Nat → ClassId} {A : Nat → Prop} {U : State} {H : Heap} (S : mm_Sim D ad ac n h A U H) {r : Nat} {c : mm_C} (hr : h r = some c) : r < n := (S.1.2 r).mp (by rw [hr]; rfl)
theorem sn_castI {own : String} {j r : Nat} {N : Nat} {f : Nat → Int32} (ho : M.1.cls = own) (hlk : Cond.classLink own j "[I" ∈ mm_gw) (hr : h r = some (.inl (.int, N, .inl f))) (hd : decode M.2.1 pc = .ok (.checkcast j, 3)) (kk : G d mc ms M cl sl Q (pc + 3) lv (.ref r :: st) n h) : G d mc ms M cl sl Q pc lv (.ref r :: st) n h := by
  subst ho
  intro l D p e s m args below meth c H locs ls ad ad0 ac A n0 hA hS hAA hSim hlv hn0 had hcl hsl
  exact va_castA (ws := mm_ws ad ac n h) (cl := mm_cl) (D := D) (a := ad r) (cA := ac r) (x := (N, .inl f)) hA.1 hA.2.1 hA.2.2.2.2.1 (mm_bf hA hlk) hSim.2.1 r (mm_ws_get (mm_rlt hSim hr) hr) (mm_cI hSim hr) hd (kk l D p e s m args below meth c H locs ls ad ad0 ac A n0 hA hS hAA hSim hlv hn0 had hcl hsl)
theorem sn_clone {own : String} {j r N : Nat} {f g : Nat → Int32} (ho : M.1.cls = own) (hlk : Cond.methodLink own j ⟨"[I", "clone", "()Ljava/lang/Object;"⟩ ∈ mm_gw) (hr : h r = some (.inl (.int, N, .inl f))) (hg : ∀ j, j < N → g j = f j) (hn : n < 1000) (hno : ∀ k x, h k = some x → mm_nor n x) (hlvn : ∀ v ∈ lv, v ≠ .ref n) (hstn : ∀ v ∈ st, v ≠ .ref n) (hcat : (st.map fun v => v.category).sum ≤ 8) (hcl : cl + 1 ≤ mc) (hsl : sl + N ≤ ms) (hd : decode M.2.1 pc = .ok (.invokevirtual j, 3))
    (kk : G d mc ms M (cl + 1) (sl + N) Q (pc + 3) lv (.ref n :: st) (n + 1) (va_up h n (some (.inl (.int, N, .inl g))))) : G d mc ms M cl sl Q pc lv (.ref r :: st) n h := by
  subst ho
  intro l D p e s m args below meth c H locs ls ad ad0 ac A n0 hA hS hAA hSim hlv hn0 had hcl' hsl'
  refine va_clone (ws := mm_ws ad ac n h) (cl := mm_cl) (tys := [(ac r, .int)]) (D := D) (a := ad r) (cA := ac r) (x := (N, .inl f)) (ty := .int) hA.1 hA.2.1 (hA.2.2.2.1.trans hlv.1.symm) hA.2.2.2.2.1 (mm_bf hA hlk) (mm_bf hA (mm_in 3 174 rfl rfl)) (mm_bf hA (mm_in 3 175 rfl rfl)) (mm_bf hA (mm_in 3 176 rfl rfl)) (mm_bf hA (mm_in 3 177 rfl rfl)) (hSim.2.2.2.2.2.2.2.2.2.2.2.2.1 _ List.mem_cons_self) ⟨hSim.2.2.2.1.1, fun k q hk => ?_⟩ hSim.2.1 hSim.2.2.1 hS hAA r 0 (mm_ws_get (mm_rlt hSim hr) hr) rfl (mm_cI hSim hr) ?_ (Nat.le_add_left 1 d) ?_ hcl hsl hd (fun q H1 hK1 hP1 hD1 hS1 => ?_)
  · cases k with
    | zero => cases hk; exact hSim.2.2.2.2.1 r _ hr
    | succ k => simp at hk
  · intro i v hv
    rw [vp_cell_i] at hv
    have hi : i < N := by
      have := (Array.getElem?_eq_some_iff.mp hv).1
      rwa [arrV_size] at this
    have : v = .int (f i) := by
      have e2 : (arrV (ac r) N fun j => Value.int (f j)).slots[i]? = some (.int (f i)) := by simp [arrV, hi]
      rw [e2] at hv; exact (Option.some.inj hv).symm
    subst this; rfl
  · have := mm_cats ad hcat
    show ((st.map (mm_t ad)).map fun v => v.category).sum + 14 ≤ 40 * (d + 1)
    omega
  have e1 : mm_tC (va_up ad n q) (va_up ac n (ac r)) n (.inl (.int, N, .inl g)) = .inl (ac r, N, .inl g) := by
    simp only [mm_tC, mm_tA]
    simp [va_up]
  have hP2 := va_P_alt (y := (ac r, N, .inl g)) hP1 (by
    show vp_cell (ac r) (N, .inl g) = vp_cell (ac r) (N, .inl f)
    rw [vp_cell_i, vp_cell_i]
    exact arrV_cg (fun j hj => by rw [hg j hj]))
  have hD2 := va_D_alt (y := .inl (ac r, N, .inl g)) hD1
  have hS' := mm_push (q := q) (cA := ac r) (c := .inl (.int, N, .inl g)) (H1 := H1) hSim hn hno (by rw [e1]; exact hP2) (by rw [e1]; exact hD2) (fun a ha => by cases ha; exact hSim.2.2.2.2.1 r (.int, N, .inl f) hr) (mm_kept hAA hS hS1)
  have := kk l D p e s m args below meth c H1 locs ls (va_up ad n q) ad0 (va_up ac n (ac r)) A n0 hA hS1 hAA hS' (mm_lv_up hlv hlvn) (by omega) (fun k hk => by
    rw [show va_up ad n q k = ad k by simp [va_up, show k ≠ n by omega]]
    exact had k (by omega)) hcl hsl
  rw [List.map_cons, mm_st_up hstn, show mm_t (va_up ad n q) (.ref n) = .ref q by simp [mm_t, va_up]] at this
  exact this
/-- Arrays.copyOf, any length up to the array's -/
theorem b_copyAny {r k N : Nat} {f : Nat → Int32} (hn : n < 1000) (hno : ∀ k x, h k = some x → mm_nor n x) (hr : h r = some (.inl (.int, k, .inl f))) (hrn : r ≠ n) (hN : N ≤ k) (hk : k ≤ 240) (hQ : Q (some (.ref n)) (n + 1) (va_up h n (some (.inl (.int, N, .inl (va_cpy f (fun _ => 0) 0 0 N)))))) : Body (d + 1) 1 240 mJ7_copyOf_59c91 [.ref r, .int (nI N)] n h Q := by
  rcases Nat.lt_or_ge N k with h1 | h1
  · refine b_copyOf hn hno hr hrn h1 hk ?_
    have e : va_up (va_up h n (some (.inl (.int, N, .inl fun _ => 0)))) n (some (.inl (.int, N, .inl (va_cpy f (fun _ => 0) 0 0 N)))) = va_up h n (some (.inl (.int, N, .inl (va_cpy f (fun _ => 0) 0 0 N)))) := by
      funext i
      by_cases e : i = n <;> simp [va_up, e]
    rw [e]; exact hQ
  · obtain rfl : N = k := by omega
    refine body_of_G (lv := [.ref r, .int (nI N), .null]) (by decide +kernel) (Nat.le_of_ble_eq_true rfl) rfl ?_
    refine sn_iload_n (j := 1) (x := nI N) (by decide +kernel) rfl ?_
    refine sn_aload_n (j := 0) (x := r) (by decide +kernel) rfl ?_
    refine sn_alen hr (by decide +kernel) ?_
    refine sn_icmp_ne (off := 11) (by decide +kernel) (by decide) (fun z => absurd rfl z) (fun _ => ?_)
    refine sn_aload_n (j := 0) (x := r) (by decide +kernel) rfl ?_
    refine sn_clone (own := "java/util/Arrays") (j := 316) (f := f) (g := va_cpy f (fun _ => 0) 0 0 N) rfl (mm_in 3 173 rfl rfl) hr (fun j hj => by simp [va_cpy, hj]) hn hno ?_ ?_ (Nat.le_of_ble_eq_true rfl) (by decide) (by omega) (by decide +kernel) ?_
    · intro v hv
      simp only [List.mem_cons, List.not_mem_nil, or_false] at hv
      rcases hv with rfl | rfl | rfl
      · intro z; cases z; exact hrn rfl
      · intro z; cases z
      · intro z; cases z
    · intro v hv; cases hv
    refine sn_castI (own := "java/util/Arrays") (j := 317) (f := va_cpy f (fun _ => 0) 0 0 N) (N := N) rfl (mm_in 3 179 rfl rfl) (by simp [va_up]) (by decide +kernel) ?_
    exact sn_areturn (rt := .array .int) rfl (Or.inr ⟨_, rfl⟩) (by decide +kernel) hQ
end N8
