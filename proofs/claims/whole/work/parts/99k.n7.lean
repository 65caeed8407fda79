/-! A LAW MORE: the invariant -/
section N7
variable {ε : mm_X} {μ ν : mm_mu} {tn gn a p ln sz m N : Nat} {dy : Nat → Nat} {g : Nat → Int32} {cs : List (List Tk × List Tk)}
theorem JX.enact (hJ : JX ε μ tn gn a p dy ln sz m) (hln : ln < 4) (hN : N = (ccode 0 cs).length) (hN2 : N ≤ 240) (hg : At g 0 (ccode 0 cs)) (hok : okCs cs) (hf : (flat cs).length ≤ 240) (hc : cs.length ≤ 140) (ho : LPs (mu1 μ ln g) ν ln) (hw : LwR ν ln cs) : JX (eps1 ε ln N) (mup (mup ν 56 2 0) 56 13 (nI (ln + 1))) tn gn a p dy (ln + 1) 0 m := by
  obtain ⟨jE, jA, jI, jL, jT, jS, jM⟩ := hJ
  generalize hν : mup (mup ν 56 2 0) 56 13 (nI (ln + 1)) = ω
  have cn : ∀ k, k ≠ 56 → ω k = ν k := fun k hk => by rw [← hν, mup_c hk, mup_c hk]
  have c : ∀ k, k ∉ [0, 1, 56, 58, 59, 60, 61, 62, 63, 64] → k ≠ 88 + 3 * ln → k ≠ 89 + 3 * ln → ω k = μ k := fun k hk h1 h2 => by
    simp only [List.mem_cons, List.not_mem_nil, or_false, not_or] at hk
    rw [cn k hk.2.2.1, ho.1.at (by simp; omega) hk.2.2.1, mu1_o hk.1 hk.2.1 h1 h2]
  have f : ∀ k, k ∉ [2, 3, 4, 5, 13, 14] → ω 56 k = μ 56 k := fun k hk => by
    simp only [List.mem_cons, List.not_mem_nil, or_false, not_or] at hk
    rw [← hν, mup_s, if_neg (by omega), mup_s, if_neg (by omega), ho.1.2 k (by simp; omega), mu1_o (by decide) (by decide) (by omega) (by omega)]
  have c' : ∀ k, k ∉ [0, 1, 56, 58, 59, 60, 61, 62, 63, 64] → k < 87 → ω k = μ k := fun k hk h1 => c k hk (by omega) (by omega)
  have z0 : ∀ i, i ≠ 5 → ω 0 i = μ 0 i := fun i hi => by
    rw [cn 0 (by decide), ho.1.at (by decide)]
    unfold mu1
    rw [mup_s, if_neg hi, mup_c (by decide)]
    simp [va_up, show 0 ≠ 88 + 3 * ln by omega, show 0 ≠ 89 + 3 * ln by omega]
  have z5 : ω 0 5 = nI (ln + 1) := by
    rw [cn 0 (by decide), ho.1.at (by decide)]
    unfold mu1
    rw [mup_s, if_pos rfl]
  have z1 : ω 1 1 = 0 := by
    rw [cn 1 (by decide), ho.1.at (by decide)]
    unfold mu1
    rw [mup_c (by decide), mup_s, if_pos rfl]
  have lw : ∀ n, LwR ν n = LwR ω n := fun n => by
    funext cs
    unfold LwR
    rw [cn 58 (by decide), cn 59 (by decide), cn 60 (by decide), cn 61 (by decide), cn 62 (by decide), cn 63 (by decide), cn 64 (by decide)]
  refine ⟨jE.of (c' _ (by decide) (by decide)) (c' _ (by decide) (by decide)) (c' _ (by decide) (by decide)) (c' _ (by decide) (by decide)) (c' _ (by decide) (by decide)) (c' _ (by decide) (by decide)) (c' _ (by decide) (by decide)) (f _ (by decide)) (f _ (by decide)), jA.of (c' _ (by decide) (by decide)) (c' _ (by decide) (by decide)) (c' _ (by decide) (by decide)) (c' _ (by decide) (by decide)) (c' _ (by decide) (by decide)) (c' _ (by decide) (by decide)) (c' _ (by decide) (by decide)) (c' _ (by decide) (by decide)) (c' _ (by decide) (by decide)) (f _ (by decide)), jI.of (c' _ (by decide) (by decide)) (c' _ (by decide) (by decide)) (c' _ (by decide) (by decide)) (c' _ (by decide) (by decide)) (f _ (by decide)), ?_, ⟨by rw [z1]; rfl, ?_, Nat.zero_le _, fun i hi => absurd hi (Nat.not_lt_zero _)⟩, jS.of (c' _ (by decide) (by decide)) (c' _ (by decide) (by decide)) (c' _ (by decide) (by decide)) (c' _ (by decide) (by decide)) (c' _ (by decide) (by decide)) (c' _ (by decide) (by decide)) (c' _ (by decide) (by decide)) (c' _ (by decide) (by decide)) (c' _ (by decide) (by decide)) (f _ (by decide)), ?_⟩
  · obtain ⟨h1, h2, h3, h4, h5, h6, h7⟩ := jL
    refine ⟨by omega, ⟨rfl, fun i hi => by simp only [eps1, va_up, if_neg (show i ≠ ln by omega)]; exact h2.2 i (by omega)⟩, z5, by rw [← hν, mup_s, if_pos rfl], fun n hn => ?_, by rw [z0 6 (by decide), f 28 (by decide)]; exact h6, ?_⟩
    · by_cases en : n = ln
      · subst en
        refine ⟨by simp [eps1, va_up], cs, ⟨by simp [eps1, va_up, hN], by omega, ?_, hok⟩, by rw [← lw]; exact hw, hf, hc⟩
        rw [cn (88 + 3 * n) (by omega), ho.1.at (by simp; omega) (by omega)]
        have : mu1 μ n g (88 + 3 * n) = g := by
          unfold mu1
          rw [mup_c (by omega), mup_c (by omega)]
          unfold va_up
          rw [if_neg (show ¬ 88 + 3 * n = 89 + 3 * n by omega)]
          simp
        rw [this]; exact hg
      · obtain ⟨e1, cs', cc, lr, l1, l2⟩ := h5 n (by omega)
        refine ⟨by simp only [eps1, va_up, if_neg en]; exact e1, cs', ?_, ?_, l1, l2⟩
        · obtain ⟨q1, q2, q3, q4⟩ := cc
          refine ⟨by simp only [eps1, va_up, if_neg en]; exact q1, q2, ?_, q4⟩
          rw [c (88 + 3 * n) (by simp; omega) (by omega) (by omega)]; exact q3
        · rw [← lw]
          refine LwR.keep (μ := mu1 μ ln g) (lr.of ?_ ?_ ?_ ?_ ?_ ?_ ?_) ho en l1 l2 <;> exact mu1_o (by decide) (by decide) (by omega) (by omega)
    · rw [f 28 (by decide)]
      rcases h7 with h7 | ⟨n, q1, q2, q3⟩
      · exact Or.inl h7
      · exact Or.inr ⟨n, by omega, q2, q3⟩
  · rw [← hν, mup_s, if_neg (by decide), mup_s, if_pos rfl]; rfl
  · obtain ⟨m1, m2, m3, m4⟩ := jM
    refine ⟨by rw [z0 7 (by decide), f 29 (by decide)]; exact m1, ?_, ?_, by rw [c' 10 (by decide) (by decide)]; exact m4⟩
    · rw [c' 39 (by decide) (by decide), c' 73 (by decide) (by decide)]; exact m2
    · rw [c' 13 (by decide) (by decide)]; exact m3
end N7
