/-! NEW CELLS: the heap with one law more -/
section N6
variable {ε : mm_X} {μ : mm_mu} {ln N : Nat} {g : Nat → Int32}
def eps1 (ε : mm_X) (ln N : Nat) : mm_X := (ε.1, ε.2.1, va_up ε.2.2.1 ln (some (87 + 3 * ln)), ln + 1, va_up ε.2.2.2.2 ln N)
def mu1 (μ : mm_mu) (ln : Nat) (g : Nat → Int32) : mm_mu := mup (mup (va_up (va_up μ (88 + 3 * ln) g) (89 + 3 * ln) (fun _ => 0)) 1 1 0) 0 5 (nI (ln + 1))
theorem HPc_e1 {c : Nat} {f : Nat → Int32} (hc : c ≠ 38) (hlt : c < 87) : HPc (eps1 ε ln N) c f = HPc ε c f := by
  unfold HPc
  split <;> first | rfl | (exact absurd rfl hc) | (exfalso; omega)
theorem mu1_o {k : Nat} (h0 : k ≠ 0) (h1 : k ≠ 1) (h2 : k ≠ 88 + 3 * ln) (h3 : k ≠ 89 + 3 * ln) : mu1 μ ln g k = μ k := by
  unfold mu1
  rw [mup_c h0, mup_c h1]
  simp [va_up, h2, h3]
theorem HP_e1 (hln : ln < 4) (he : ε.2.2.2.1 = ln) (k : Nat) : HP (eps1 ε ln N) (mu1 μ ln g) k = if k = 0 then some (.inr (11, [.ref 1, .ref 3, .ref 15, .ref 17, .ref 38, .int (nI (ln + 1)), .int (μ 0 6), .int (μ 0 7), .long (ε.1 0), .ref 39, .ref 40, .ref 45, .ref 50, .ref 53])) else if k = 1 then some (.inr (10, [.ref 2, .int 0, .int (μ 1 2)])) else if k = 38 then some (.inl (.object RX5, 4, .inr (.inr (.inr (.inr (va_up ε.2.2.1 ln (some (87 + 3 * ln)))))))) else if k = 87 + 3 * ln then some (.inr (5, [.ref (87 + 3 * ln + 1), .ref (87 + 3 * ln + 2)])) else if k = 87 + 3 * ln + 1 then some (.inl (.int, N, .inl g)) else if k = 87 + 3 * ln + 2 then some (.inl (.int, 32, .inl fun _ => 0)) else HP ε μ k := by
  by_cases k0 : k = 0
  · subst k0
    rw [if_pos rfl]
    have e5 : mu1 μ ln g 0 5 = nI (ln + 1) := by unfold mu1; rw [mup_s, if_pos rfl]
    have e6 : ∀ i, i ≠ 5 → mu1 μ ln g 0 i = μ 0 i := fun i hi => by
      unfold mu1
      rw [mup_s, if_neg hi, mup_c (by decide)]
      simp [va_up, show 0 ≠ 88 + 3 * ln by omega, show 0 ≠ 89 + 3 * ln by omega]
    show (some (.inr (11, [.ref 1, .ref 3, .ref 15, .ref 17, .ref 38, .int (mu1 μ ln g 0 5), .int (mu1 μ ln g 0 6), .int (mu1 μ ln g 0 7), .long (ε.1 0), .ref 39, .ref 40, .ref 45, .ref 50, .ref 53])) : Option mm_C) = _
    rw [e5, e6 6 (by decide), e6 7 (by decide)]
  · rw [if_neg k0]
    by_cases k1 : k = 1
    · subst k1
      rw [if_pos rfl]
      have e1 : mu1 μ ln g 1 1 = 0 := by unfold mu1; rw [mup_c (by decide), mup_s, if_pos rfl]
      have e2 : mu1 μ ln g 1 2 = μ 1 2 := by
        unfold mu1
        rw [mup_c (by decide), mup_s, if_neg (by decide)]
        simp [va_up, show 1 ≠ 88 + 3 * ln by omega, show 1 ≠ 89 + 3 * ln by omega]
      show (some (.inr (10, [.ref 2, .int (mu1 μ ln g 1 1), .int (mu1 μ ln g 1 2)])) : Option mm_C) = _
      rw [e1, e2]
    · rw [if_neg k1]
      by_cases k38 : k = 38
      · subst k38; rw [if_pos rfl]; rfl
      · rw [if_neg k38]
        by_cases hlt : k < 87
        · rw [if_neg (by omega), if_neg (by omega), if_neg (by omega)]
          show HPc (eps1 ε ln N) k (mu1 μ ln g k) = HPc ε k (μ k)
          rw [HPc_e1 k38 hlt, mu1_o k0 k1 (by omega) (by omega)]
        · obtain ⟨j, rfl⟩ : ∃ j, k = j + 87 := ⟨k - 87, by omega⟩
          show mm_law (eps1 ε ln N) j (mu1 μ ln g (j + 87)) = _
          have hr : HP ε μ (j + 87) = mm_law ε j (μ (j + 87)) := rfl
          rw [hr]
          unfold mm_law
          rw [he, show (eps1 ε ln N).2.2.2.1 = ln + 1 from rfl, show (eps1 ε ln N).2.2.2.2 = va_up ε.2.2.2.2 ln N from rfl]
          by_cases hj : j < 12 ∧ j / 3 < ln + 1
          · rw [if_pos hj]
            by_cases hl : j / 3 = ln
            · rcases (show j = 3 * ln ∨ j = 3 * ln + 1 ∨ j = 3 * ln + 2 by omega) with e | e | e
              · rw [if_pos (by omega), if_pos (by omega), e]
              · have eg : mu1 μ ln g (j + 87) = g := by
                  unfold mu1
                  rw [mup_c (by omega), mup_c (by omega)]
                  simp only [va_up]
                  rw [if_neg (by omega), if_pos (by omega)]
                rw [if_neg (by omega), if_pos (by omega), if_neg (by omega), if_pos (by omega), hl, eg]
                simp [va_up]
              · have eg : mu1 μ ln g (j + 87) = fun _ => 0 := by
                  unfold mu1
                  rw [mup_c (by omega), mup_c (by omega)]
                  simp only [va_up]
                  rw [if_pos (by omega)]
                rw [if_neg (by omega), if_neg (by omega), if_neg (by omega), if_neg (by omega), if_pos (by omega), eg]
            · rw [if_neg (show ¬ j + 87 = 87 + 3 * ln by omega), if_neg (show ¬ j + 87 = 87 + 3 * ln + 1 by omega), if_neg (show ¬ j + 87 = 87 + 3 * ln + 2 by omega), if_pos (show j < 12 ∧ j / 3 < ln by omega), mu1_o k0 k1 (by omega) (by omega), show va_up ε.2.2.2.2 ln N (j / 3) = ε.2.2.2.2 (j / 3) by simp [va_up, hl]]
          · rw [if_neg hj, if_neg (by omega), if_neg (by omega), if_neg (by omega), if_neg (by omega)]
end N6
