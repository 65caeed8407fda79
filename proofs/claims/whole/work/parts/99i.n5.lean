/-! NEW CELLS: a law taken up -/
section N5
variable {d : Nat} {Q : mm_Q} {n : Nat} {h : mm_H}
theorem b_enact {N ln : Nat} {f g : Nat → Int32} {L : Nat → Option Nat} {F : List Value} {x y : Value} (hn : n < 900) (h38n : 38 < n) (hln : ln < 4) (hno : ∀ m k x, n ≤ m → h k = some x → mm_nor m x) (h0 : h 0 = some (.inr (11, F))) (hF : F[0]? = some (.ref 1) ∧ F[2]? = some (.ref 15) ∧ F[4]? = some (.ref 38) ∧ F[5]? = some (.int (nI ln)) ∧ F.length = 14) (h1 : h 1 = some (.inr (10, [.ref 2, x, y]))) (h38 : h 38 = some (.inl (.object RX5, 4, .inr (.inr (.inr (.inr L)))))) (h15 : h 15 = some (.inr (6, [.ref 16, .int (nI N)])))
    (hC : ∀ Q1 : mm_Q, Q1 (some (.ref (n + 1))) (n + 2) (va_up (va_up h n (some (.inr (5, [.null, .null])))) (n + 1) (some (.inl (.int, N, .inl g)))) → Body (d + 1) 1 240 mJ7_copyOf_59c91 [.ref 16, .int (nI N)] (n + 1) (va_up h n (some (.inr (5, [.null, .null])))) Q1)
    (hQ : ∀ h', (∀ k, h' k = if k = 0 then some (.inr (11, F.set 5 (.int (nI (ln + 1))))) else if k = 1 then some (.inr (10, [.ref 2, .int 0, y])) else if k = 38 then some (.inl (.object RX5, 4, .inr (.inr (.inr (.inr (va_up L ln (some n))))))) else if k = n then some (.inr (5, [.ref (n + 1), .ref (n + 2)])) else if k = n + 1 then some (.inl (.int, N, .inl g)) else if k = n + 2 then some (.inl (.int, 32, .inl fun _ => 0)) else h k) → Q (some (.int (nI ln))) (n + 3) h') : Body (d + 3) 3 274 mX11_enact [.ref 0] n h Q := by
  obtain ⟨F0', F2, F4, F5, Fl⟩ := hF
  have e1 : nI ln + Int32.ofInt 1 = nI (ln + 1) := by simp only [Int32.reduceOfInt, nI_1]
  refine body_of_G (lv := [.ref 0]) (by decide +kernel) (Nat.le_of_ble_eq_true rfl) rfl ?_
  refine sn_aload_n (j := 0) (x := 0) (by decide +kernel) rfl ?_
  refine sn_getfield (own := RX11) (j := 39) (ci := 11) (k := 4) (q := (RX11, TX11, 14)) rfl rfl okcX11 (by decide) (mm_in 2 116 rfl rfl) h0 F4 (by decide +kernel) ?_
  refine sn_aload_n (j := 0) (x := 0) (by decide +kernel) rfl ?_
  refine sn_getfield (own := RX11) (j := 43) (ci := 11) (k := 5) (q := (RX11, TX11, 14)) rfl rfl okcX11 (by decide) (mm_in 2 117 rfl rfl) h0 F5 (by decide +kernel) ?_
  refine sn_aload_n (j := 0) (x := 0) (by decide +kernel) rfl ?_
  refine sn_getfield (own := RX11) (j := 26) (ci := 11) (k := 2) (q := (RX11, TX11, 14)) rfl rfl okcX11 (by decide) (mm_in 2 114 rfl rfl) h0 F2 (by decide +kernel) ?_
  refine sn_callV (M' := mX6_made) (j := 375) (r := 15) (ci := 6) (q := (RX6, TX6, 2)) (mc' := 3) (ms' := 274) (As := []) (st := [.int (nI ln), .ref 38]) (Q1 := fun v n' h' => v = some (.ref n) ∧ n' = n + 3 ∧ ∀ k, h' k = if k = n then some (.inr (5, [.ref (n + 1), .ref (n + 2)])) else if k = n + 1 then some (.inl (.int, N, .inl g)) else if k = n + 2 then some (.inl (.int, 32, .inl fun _ => 0)) else h k) okM_X6_made (Or.inl (mm_in 3 164 rfl rfl)) (mm_in 3 165 rfl rfl) (mm_in 3 166 rfl rfl) h15 rfl rfl (Nat.le_of_ble_eq_true rfl) (by decide +kernel) (by decide) (by decide) (b_made (f := f) (by omega) (by omega) hno h15 hC (fun h' hh => ⟨rfl, rfl, hh⟩)) ?_
  rintro v n' h' ⟨rfl, rfl, hh⟩
  refine ⟨fun ad ad' hk => ⟨?_, ?_⟩, ?_⟩
  · simp only [List.map_cons, List.map_nil, mm_t, hk 0 (by omega)]
  · simp only [List.map_cons, List.map_nil, mm_t, hk 38 (by omega)]
  have b38 : h' 38 = some (.inl (.object RX5, 4, .inr (.inr (.inr (.inr L))))) := by rw [hh, if_neg (by omega), if_neg (by omega), if_neg (by omega)]; exact h38
  have bn : h' n = some (.inr (5, [.ref (n + 1), .ref (n + 2)])) := by rw [hh, if_pos rfl]
  refine sn_aast (r := 38) (rv := n) (k := 4) (ci := 5) (q := (RX5, TX5, 2)) (f := L) b38 bn rfl (vin (a := ln) rfl hln) (by decide +kernel) ?_
  rw [clp (x := nI ln) (a := ln) rfl (by omega)]
  generalize hh1 : va_up h' 38 (some (.inl (.object (RX5, TX5, 2).1, 4, .inr (.inr (.inr (.inr (va_up L ln (some n)))))))) = h1' 
  have c1 : ∀ k, k ≠ 38 → h1' k = h' k := fun k hk => by rw [← hh1]; simp [va_up, hk]
  have c0 : h1' 0 = some (.inr (11, F)) := by rw [c1 0 (by decide), hh, if_neg (by omega), if_neg (by omega), if_neg (by omega)]; exact h0
  have ct : h1' 1 = some (.inr (10, [.ref 2, x, y])) := by rw [c1 1 (by decide), hh, if_neg (by omega), if_neg (by omega), if_neg (by omega)]; exact h1
  refine sn_aload_n (j := 0) (x := 0) (by decide +kernel) rfl ?_
  refine sn_getfield (own := RX11) (j := 10) (ci := 11) (k := 0) (q := (RX11, TX11, 14)) rfl rfl okcX11 (by decide) (mm_in 2 112 rfl rfl) c0 F0' (by decide +kernel) ?_
  refine sn_iconst (j := 0) (by decide +kernel) ?_
  refine sn_putfield (own := RX11) (j := 93) (ci := 10) (k := 1) (q := (RX10, TX10, 3)) (ty := .int) rfl rfl okcX10 (by decide) (mm_in 1 43 rfl rfl) ct (fun z => by cases z) (tyX10_ok 1 (by decide)) rfl rfl (by show 1 < 3; decide) (by decide +kernel) ?_
  generalize hh2 : va_up h1' 1 (some (.inr (10, ([.ref 2, x, y] : List Value).set 1 (.int (Int32.ofInt 0))))) = h2
  have c2 : ∀ k, k ≠ 1 → h2 k = h1' k := fun k hk => by rw [← hh2]; simp [va_up, hk]
  refine sn_aload_n (j := 0) (x := 0) (by decide +kernel) rfl ?_
  refine sn_dup (by decide +kernel) rfl ?_
  refine sn_getfield (own := RX11) (j := 43) (ci := 11) (k := 5) (q := (RX11, TX11, 14)) rfl rfl okcX11 (by decide) (mm_in 2 117 rfl rfl) ((c2 0 (by decide)).trans c0) F5 (by decide +kernel) ?_
  refine sn_iconst (j := 1) (by decide +kernel) ?_
  refine sn_iadd (by decide +kernel) ?_
  refine sn_putfield (own := RX11) (j := 43) (ci := 11) (k := 5) (q := (RX11, TX11, 14)) (ty := .int) rfl rfl okcX11 (by decide) (mm_in 2 117 rfl rfl) ((c2 0 (by decide)).trans c0) (fun z => by cases z) (tyX11_ok 5 (by decide)) rfl rfl (by rw [Fl]; decide) (by decide +kernel) ?_
  refine sn_aload_n (j := 0) (x := 0) (by decide +kernel) rfl ?_
  refine sn_getfield (own := RX11) (j := 43) (ci := 11) (k := 5) (v := .int (nI (ln + 1))) (q := (RX11, TX11, 14)) (fs := F.set 5 (.int (nI ln + Int32.ofInt 1))) rfl rfl okcX11 (by decide) (mm_in 2 117 rfl rfl) (by simp [va_up]) (by rw [List.getElem?_set_self (by rw [Fl]; decide)]; exact congrArg (fun z => some (Value.int z)) e1) (by decide +kernel) ?_
  refine sn_iconst (j := 1) (by decide +kernel) ?_
  refine sn_isub (by decide +kernel) ?_
  refine sn_ireturn rfl (by decide +kernel) ?_
  have e2 : nI (ln + 1) - Int32.ofInt 1 = nI ln := nI_sub (a := ln + 1) (by omega)
  rw [e2, e1]
  refine hQ _ (fun k => ?_)
  by_cases k0 : k = 0
  · rw [if_pos k0, k0]; simp [va_up]
  · rw [if_neg k0, show va_up h2 0 (some (.inr (11, F.set 5 (.int (nI (ln + 1)))))) k = h2 k by simp [va_up, k0]]
    by_cases k1 : k = 1
    · rw [if_pos k1, k1, ← hh2]; simp [va_up]
    · rw [if_neg k1, c2 k k1]
      by_cases k38 : k = 38
      · rw [if_pos k38, k38, ← hh1]; simp [va_up]
      · rw [if_neg k38, c1 k k38, hh]
end N5
