/-! NEW CELLS: a law made -/
section N4
variable {d : Nat} {Q : mm_Q} {n : Nat} {h : mm_H}
theorem okM_X5_init : mm_okM mX5_init 1 := ⟨mm_in 3 184 rfl rfl, mm_in 1 20 rfl rfl, ⟨by decide +kernel, by decide +kernel, by decide +kernel⟩, by decide⟩
theorem mm_nor_up {m : Nat} {h : mm_H} {k : Nat} {c : mm_C} (hno : ∀ k x, h k = some x → mm_nor m x) (hc : mm_nor m c) : ∀ k' x, va_up h k (some c) k' = some x → mm_nor m x := by
  intro k' x hx
  by_cases e : k' = k
  · subst e
    simp only [va_up, if_true, Option.some.injEq] at hx
    rw [← hx]; exact hc
  · simp only [va_up, if_neg e] at hx
    exact hno k' x hx
theorem b_made {N : Nat} {f g : Nat → Int32} (hn : n < 900) (h16n : 16 < n) (hno : ∀ m k x, n ≤ m → h k = some x → mm_nor m x) (h15 : h 15 = some (.inr (6, [.ref 16, .int (nI N)])))
    (hC : ∀ Q1 : mm_Q, Q1 (some (.ref (n + 1))) (n + 2) (va_up (va_up h n (some (.inr (5, [.null, .null])))) (n + 1) (some (.inl (.int, N, .inl g)))) → Body (d + 1) 1 240 mJ7_copyOf_59c91 [.ref 16, .int (nI N)] (n + 1) (va_up h n (some (.inr (5, [.null, .null])))) Q1)
    (hQ : ∀ h', (∀ k, h' k = if k = n then some (.inr (5, [.ref (n + 1), .ref (n + 2)])) else if k = n + 1 then some (.inl (.int, N, .inl g)) else if k = n + 2 then some (.inl (.int, 32, .inl fun _ => 0)) else h k) → Q (some (.ref n)) (n + 3) h') : Body (d + 2) 3 274 mX6_made [.ref 15] n h Q := by
  refine body_of_G (lv := [.ref 15]) (by decide +kernel) (Nat.le_of_ble_eq_true rfl) rfl ?_
  refine sn_new (own := RX6) (ci := 5) (q := (RX5, TX5, 2)) (index := 36) (fs := [.null, .null]) rfl okcX5 rfl (mm_in 3 168 rfl rfl) (mm_in 3 169 rfl rfl) (mm_in 1 20 rfl rfl) (by omega) (fun k x hx => hno n k x (Nat.le_refl _) hx) ?_ ?_ tyX5 tyX5_ok ?_ ?_ (by decide) (by decide) (by decide +kernel) ?_
  · intro v hv
    simp only [List.mem_cons, List.not_mem_nil, or_false] at hv
    subst hv
    intro z; cases z; omega
  · intro v hv; cases hv
  · intro j hj
    have hj : j < 2 := hj
    rcases (show j = 0 ∨ j = 1 by omega) with rfl | rfl <;> rfl
  · intro v hv k
    simp only [List.mem_cons, List.not_mem_nil, or_false] at hv
    rcases hv with rfl | rfl <;> (intro z; cases z)
  refine sn_dup (by decide +kernel) rfl ?_
  refine sn_aload_n (j := 0) (x := 15) (by decide +kernel) rfl ?_
  have h15' : va_up h n (some (.inr (5, [.null, .null]))) 15 = some (.inr (6, [.ref 16, .int (nI N)])) := by simp only [va_up, if_neg (show 15 ≠ n by omega)]; exact h15
  refine sn_getfield (own := RX6) (j := 11) (ci := 6) (k := 0) (q := (RX6, TX6, 2)) rfl rfl okcX6 (by decide) (mm_in 1 190 rfl rfl) h15' rfl (by decide +kernel) ?_
  refine sn_aload_n (j := 0) (x := 15) (by decide +kernel) rfl ?_
  refine sn_getfield (own := RX6) (j := 17) (ci := 6) (k := 1) (q := (RX6, TX6, 2)) rfl rfl okcX6 (by decide) (mm_in 1 191 rfl rfl) h15' rfl (by decide +kernel) ?_
  refine sn_callS (M' := mJ7_copyOf_59c91) (j := 38) (mc' := 1) (ms' := 240) (As := [.ref 16, .int (nI N)]) (st := [.ref n, .ref n]) (Q1 := fun v n' h' => v = some (.ref (n + 1)) ∧ n' = n + 2 ∧ h' = va_up (va_up h n (some (.inr (5, [.null, .null])))) (n + 1) (some (.inl (.int, N, .inl g)))) okM_J7_copyOf_59c91 (Or.inl (mm_in 3 170 rfl rfl)) okS_J7_copyOf_59c91 (Nat.le_of_ble_eq_true rfl) (by decide +kernel) (by decide) (by decide) (hC _ ⟨rfl, rfl, rfl⟩) ?_
  rintro v n' h' ⟨rfl, rfl, rfl⟩
  refine ⟨fun ad ad' hk => ⟨?_, ?_⟩, ?_⟩
  · simp only [List.map_cons, List.map_nil, mm_t, hk 15 (by omega)]
  · simp only [List.map_cons, List.map_nil, mm_t, hk n (by omega)]
  refine sn_callI (M' := mX5_init) (j := 44) (r := n) (mc' := 1) (ms' := 32) (As := [.ref (n + 1)]) (st := [.ref n]) (Q1 := fun v n' h' => v = none ∧ n' = n + 2 + 1 ∧ h' = va_up (va_up (va_up (va_up (va_up h n (some (.inr (5, [.null, .null])))) (n + 1) (some (.inl (.int, N, .inl g)))) (n + 2) (some (.inl (.int, 32, .inl fun _ => 0)))) n (some (.inr (5, [.null, .ref (n + 2)])))) n (some (.inr (5, [.ref (n + 1), .ref (n + 2)])))) okM_X5_init rfl (Or.inl (mm_in 3 182 rfl rfl)) (mm_in 3 183 rfl rfl) rfl (Nat.le_of_ble_eq_true rfl) (by decide +kernel) (by decide) (by decide) ?_ ?_
  · refine b_law (by omega) ?_ ?_ (by omega) (by omega) ⟨rfl, rfl, rfl⟩
    · refine mm_nor_up (mm_nor_up (fun k x hx => hno (n + 2) k x (by omega) hx) ?_) trivial
      intro v hv
      simp only [List.mem_cons, List.not_mem_nil, or_false] at hv
      rcases hv with rfl | rfl <;> (intro z; cases z)
    · simp [va_up]
  · rintro v n' h' ⟨rfl, rfl, rfl⟩
    refine ⟨fun ad ad' hk => ⟨?_, ?_⟩, ?_⟩
    · simp only [List.map_cons, List.map_nil, mm_t, hk 15 (by omega)]
    · simp only [List.map_cons, List.map_nil, mm_t, hk n (by omega)]
    refine sn_areturn (rt := .object "BeatenAfternoon$Law") rfl (Or.inl ⟨_, rfl⟩) (by decide +kernel) ?_
    refine hQ _ (fun k => ?_)
    simp only [va_up]
    by_cases e0 : k = n
    · simp [e0]
    · by_cases e1 : k = n + 1
      · simp [e1]
      · by_cases e2 : k = n + 2
        · simp [e2]
        · simp [e0, e1, e2]
end N4
