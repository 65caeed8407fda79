/-! PAIRS: the acts but drives -/
theorem un {f : Nat → Int32} {i j : Nat} {v : Int32} (h : j ≠ i) : upd f i v j = f j := by simp [upd, h]
theorem us {f : Nat → Int32} {i : Nat} {v : Int32} : upd f i v i = v := by simp [upd]
section RWu
variable {gn D : Nat} {c m ring : Nat → Int32} {x y : Int32}
theorem LGd.up {i : Nat} (h : LGd m ring D) (hi : i < 20) : LGd (upd m i x) ring D := by
  obtain ⟨h6, h7, h8, h9⟩ := h
  exact ⟨h6, by rw [un (by omega)]; exact h7, by rw [un (by omega)]; exact h8, fun j k hj hk => by rw [un (by omega)]; exact h9 j k hj hk⟩
theorem BD.up {i : Nat} (h : BD gn m) (hg5 : gn ≤ 5) (hi : 15 ≤ i) : BD gn (upd m i x) := fun g hg => by
  rw [un (by omega), un (by omega), un (by omega)]; exact h g hg
theorem RW.wind (h : RW gn c m ring D) (hg5 : gn ≤ 5) : RW gn (upd c 0 x) (upd m 15 x) ring D := by
  obtain ⟨h1, h2, h3, h4, h5, h6⟩ := h
  refine ⟨fun g hg => ?_, fun hg => ?_, ?_, fun g q1 q2 => ?_, h5.up hg5 (by decide), h6.up (by decide)⟩
  · rw [un (by omega), un (by omega), un (by omega), un (by omega), un (by omega), un (by omega)]; exact h1 g hg
  · rw [us, us, un (by decide), un (by decide), un (by decide), un (by decide)]; exact ⟨rfl, (h2 hg).2⟩
  · rw [un (by decide), un (by decide), un (by decide), un (by decide), un (by decide), un (by decide)]; exact h3
  · rw [un (by omega)]; exact h4 g q1 q2
theorem RW.line (h : RW gn c m ring D) (hg5 : gn ≤ 5) : RW gn (upd (upd c 2 x) 3 y) (upd (upd m 16 x) 17 y) ring D := by
  obtain ⟨h1, h2, h3, h4, h5, h6⟩ := h
  refine ⟨fun g hg => ?_, fun hg => ?_, ?_, fun g q1 q2 => ?_, (h5.up hg5 (by decide)).up hg5 (by decide), (h6.up (by decide)).up (by decide)⟩
  · rw [un (by omega), un (by omega), un (by omega), un (by omega), un (by omega), un (by omega), un (by omega), un (by omega), un (by omega), un (by omega), un (by omega), un (by omega)]; exact h1 g hg
  · refine ⟨?_, ?_, ?_⟩
    · rw [un (by decide), un (by decide), un (by decide), un (by decide)]; exact (h2 hg).1
    · rw [un (by decide), us, un (by decide), us]
    · rw [us, us]
  · refine ⟨?_, ?_, ?_⟩
    · rw [un (by decide), un (by decide), un (by decide), un (by decide)]; exact h3.1
    · rw [un (by decide), un (by decide), un (by decide), un (by decide)]; exact h3.2.1
    · rw [un (by decide), un (by decide), un (by decide), un (by decide)]; exact h3.2.2
  · rw [un (by omega), un (by omega)]; exact h4 g q1 q2
theorem RW.coins (h : RW gn c m ring D) (hg5 : gn ≤ 5) : RW gn (upd c 1 x) (upd m 19 x) ring D := by
  obtain ⟨h1, h2, h3, h4, h5, h6⟩ := h
  refine ⟨fun g hg => ?_, fun hg => ?_, ?_, fun g q1 q2 => ?_, h5.up hg5 (by decide), h6.up (by decide)⟩
  · rw [un (by omega), un (by omega), un (by omega), un (by omega), un (by omega), un (by omega)]; exact h1 g hg
  · rw [un (by decide), un (by decide), un (by decide), un (by decide), un (by decide), un (by decide)]; exact h2 hg
  · refine ⟨?_, ?_, ?_⟩
    · rw [un (by decide), un (by decide)]; exact h3.1
    · rw [us, us]
    · rw [un (by decide), un (by decide)]; exact h3.2.2
  · rw [un (by omega)]; exact h4 g q1 q2
theorem RW.out (h : RW gn c m ring D) (hg5 : gn ≤ 5) : RW gn (upd c 4 x) (upd m 18 x) ring D := by
  obtain ⟨h1, h2, h3, h4, h5, h6⟩ := h
  refine ⟨fun g hg => ?_, fun hg => ?_, ?_, fun g q1 q2 => ?_, h5.up hg5 (by decide), h6.up (by decide)⟩
  · rw [un (by omega), un (by omega), un (by omega), un (by omega), un (by omega), un (by omega)]; exact h1 g hg
  · rw [un (by decide), un (by decide), un (by decide), un (by decide), un (by decide), un (by decide)]; exact h2 hg
  · refine ⟨?_, ?_, ?_⟩
    · rw [us, us]
    · rw [un (by decide), un (by decide)]; exact h3.2.1
    · rw [un (by decide), un (by decide)]; exact h3.2.2
  · rw [un (by omega)]; exact h4 g q1 q2
theorem RW.peg {e : Nat} (h : RW gn c m ring D) (hg5 : gn ≤ 5) (he : e < gn) (hx : 0 ≤ x ∧ x ≤ 9) : RW gn (upd c (6 + e) x) (upd m e x) ring D := by
  obtain ⟨h1, h2, h3, h4, h5, h6⟩ := h
  refine ⟨fun g hg => ?_, fun hg => ?_, ?_, fun g q1 q2 => ?_, fun g hg => ?_, h6.up (by omega)⟩
  · rw [un (show 11 + g ≠ 6 + e by omega), un (show 16 + g ≠ 6 + e by omega), un (show 5 + g ≠ e by omega), un (show 10 + g ≠ e by omega)]
    refine ⟨?_, (h1 g hg).2⟩
    by_cases hge : g = e
    · rw [hge, us, us]
    · rw [un (by omega), un hge]; exact (h1 g hg).1
  · rw [un (by omega), un (by omega), un (by omega), un (by omega), un (by omega), un (by omega)]; exact h2 hg
  · rw [un (by omega), un (by omega), un (by omega), un (by omega), un (by omega), un (by omega)]; exact h3
  · rw [un (by omega)]; exact h4 g q1 q2
  · rw [un (show 5 + g ≠ e by omega), un (show 10 + g ≠ e by omega)]
    refine ⟨?_, (h5 g hg).2⟩
    by_cases hge : g = e
    · rw [hge, us]; exact hx
    · rw [un hge]; exact (h5 g hg).1
theorem RW.skill {e : Nat} (h : RW gn c m ring D) (hg5 : gn ≤ 5) (he : e < gn) (hx : 0 ≤ x ∧ x ≤ 9) : RW gn (upd c (11 + e) x) (upd m (5 + e) x) ring D := by
  obtain ⟨h1, h2, h3, h4, h5, h6⟩ := h
  refine ⟨fun g hg => ?_, fun hg => ?_, ?_, fun g q1 q2 => ?_, fun g hg => ?_, h6.up (by omega)⟩
  · rw [un (show 6 + g ≠ 11 + e by omega), un (show 16 + g ≠ 11 + e by omega), un (show g ≠ 5 + e by omega), un (show 10 + g ≠ 5 + e by omega)]
    refine ⟨(h1 g hg).1, ?_, (h1 g hg).2.2⟩
    by_cases hge : g = e
    · rw [hge, us, us]
    · rw [un (by omega), un (by omega)]; exact (h1 g hg).2.1
  · rw [un (by omega), un (by omega), un (by omega), un (by omega), un (by omega), un (by omega)]; exact h2 hg
  · rw [un (by omega), un (by omega), un (by omega), un (by omega), un (by omega), un (by omega)]; exact h3
  · rw [un (by omega)]; exact h4 g q1 q2
  · rw [un (show g ≠ 5 + e by omega), un (show 10 + g ≠ 5 + e by omega)]
    refine ⟨(h5 g hg).1, ?_, (h5 g hg).2.2⟩
    by_cases hge : g = e
    · rw [hge, us]; exact hx
    · rw [un (by omega)]; exact (h5 g hg).2.1
end RWu
section CSu
variable {μ : mm_mu} {x : Int32}
theorem csv_u0 {i : Nat} (hi : i < 6) : csv (mup μ 24 i x) 24 = upd (csv μ 24) i x := by
  funext j
  unfold csv
  rw [mup_c (show (24 : Nat) + 1 ≠ 24 by decide), mup_c (show (24 : Nat) + 2 ≠ 24 by decide), mup_c (show (24 : Nat) + 3 ≠ 24 by decide), mup_s]
  by_cases hj : j = i
  · subst hj; rw [us, if_pos hi, if_pos rfl]
  · rw [un hj, if_neg hj]
theorem csv_u1 {g : Nat} (hg : g < 5) : csv (mup μ 25 g x) 24 = upd (csv μ 24) (6 + g) x := by
  funext j
  unfold csv
  rw [mup_c (show (24 : Nat) ≠ 25 by decide), mup_c (show (24 : Nat) + 2 ≠ 25 by decide), mup_c (show (24 : Nat) + 3 ≠ 25 by decide), mup_s]
  by_cases hj : j = 6 + g
  · subst hj; rw [us, if_neg (by omega), if_pos (by omega), if_pos (by omega)]
  · rw [un hj]
    by_cases h1 : j < 6
    · rw [if_pos h1, if_pos h1]
    · rw [if_neg h1, if_neg h1, if_neg (show ¬ j - 6 = g by omega)]
theorem csv_u2 {g : Nat} (hg : g < 5) : csv (mup μ 26 g x) 24 = upd (csv μ 24) (11 + g) x := by
  funext j
  unfold csv
  rw [mup_c (show (24 : Nat) ≠ 26 by decide), mup_c (show (24 : Nat) + 1 ≠ 26 by decide), mup_c (show (24 : Nat) + 3 ≠ 26 by decide), mup_s]
  by_cases hj : j = 11 + g
  · subst hj; rw [us, if_neg (by omega), if_neg (by omega), if_pos (by omega), if_pos (by omega)]
  · rw [un hj]
    by_cases h1 : j < 6
    · rw [if_pos h1, if_pos h1]
    · by_cases h2 : j < 11
      · rw [if_neg h1, if_neg h1, if_pos h2, if_pos h2]
      · rw [if_neg h1, if_neg h1, if_neg h2, if_neg h2, if_neg (show ¬ j - 11 = g by omega)]
theorem csv_u3 {g : Nat} (hg : g < 5) : csv (mup μ 27 g x) 24 = upd (csv μ 24) (16 + g) x := by
  funext j
  unfold csv
  rw [mup_c (show (24 : Nat) ≠ 27 by decide), mup_c (show (24 : Nat) + 1 ≠ 27 by decide), mup_c (show (24 : Nat) + 2 ≠ 27 by decide), mup_s]
  by_cases hj : j = 16 + g
  · subst hj; rw [us, if_neg (by omega), if_neg (by omega), if_neg (by omega), if_pos (by omega)]
  · rw [un hj]
    by_cases h1 : j < 16
    · by_cases h2 : j < 6
      · rw [if_pos h2, if_pos h2]
      · by_cases h3 : j < 11
        · rw [if_neg h2, if_neg h2, if_pos h3, if_pos h3]
        · rw [if_neg h2, if_neg h2, if_neg h3, if_neg h3, if_pos h1, if_pos h1]
    · simp only [if_neg (show ¬ j < 6 by omega), if_neg (show ¬ j < 11 by omega), if_neg h1, if_neg (show ¬ j - 16 = g by omega)]
theorem csv_uo {c i : Nat} (h0 : c ≠ 24) (h1 : c ≠ 25) (h2 : c ≠ 26) (h3 : c ≠ 27) : csv (mup μ c i x) 24 = csv μ 24 := csv_of (mup_c (by omega)) (mup_c (by omega)) (mup_c (by omega)) (mup_c (by omega))
end CSu
section P2
variable {d : Nat} {ε : mm_X} {μ : mm_mu} {Q : mm_Q0} {h : mm_H} {tn gn a p ln sz m : Nat} {dy : Nat → Nat}
theorem JX.refuse {k : Nat} (h : JX ε μ tn gn a p dy ln sz m) (hk : k < 5) : J ε (mup (mup μ 39 k (μ 39 k + 1)) 73 k (μ 73 k + 1)) := by
  obtain ⟨jE, jA, jI, jL, jT, jS, m1, m2, m3, m4⟩ := h
  refine ⟨tn, gn, a, p, dy, ln, sz, m, jE.of rfl rfl rfl rfl rfl rfl rfl rfl rfl, jA.of rfl rfl rfl rfl rfl rfl rfl rfl rfl rfl, jI.of rfl rfl rfl rfl rfl, jL.of rfl rfl rfl rfl rfl rfl rfl rfl (fun n hn => ?_) rfl rfl, jT.of rfl rfl rfl rfl, jS.of rfl rfl rfl rfl rfl rfl rfl rfl rfl rfl, m1, fun j hj => ?_, m3, m4⟩
  · rw [mup_c (by omega), mup_c (by omega)]
  · rw [mup_c (by decide), mup_s, mup_s, mup_c (by decide), m2 k hk, m2 j hj]
theorem wref {w : Int32} {k : Nat} (hk : k < 5) (hw : w = nI k) : (∀ k', k' < 5 → w = nI k' → k' = k) ∧ ¬ w = -1 := by
  refine ⟨fun k' h1 h2 => ?_, ?_⟩
  · exact (nI_eq (by omega) (by omega)).mp (h2.symm.trans hw)
  · rw [hw]; exact nI_nm (by omega)
/-- one more is kept on both sides, then the season changes alike -/
theorem JX.act {μ2 μ3 : mm_mu} {D' : Nat} (h : JX ε μ tn gn a p dy ln sz m) (hp1 : PA μ2 ((p + 1) % 40) (knum a)) (hs1 : ∀ j, j < 21 → μ2 41 (21 * p + j) = csv μ 24 j) (hr1 : ∀ i, ¬ (21 * p ≤ i ∧ i < 21 * p + 21) → μ2 41 i = μ 41 i) (f4 : μ2 40 4 = μ 40 4) (hk2 : KR μ2 (knum a) (kput a (mrow μ) (μ 72))) (ho : OffF [24, 25, 26, 27, 40, 41, 72, 78] [39] μ μ2)
    (ho3 : OffF [24, 25, 26, 27, 72] [] μ2 μ3) (hR : RW gn (csv μ3 24) (μ3 72) (μ 42) D') (h1 : dy a ≤ D') (h2 : D' ≤ dy a + 1) : J ε μ3 := by
  obtain ⟨jE, jA, jI, jL, jT, jS, jM⟩ := h
  have hg5 := jE.2.1
  have e42 : μ2 42 = μ 42 := ho.at (by decide)
  obtain ⟨dy', hK⟩ := jA.keep hg5 hp1 hs1 hr1 e42 hk2
  have hK3 : JK μ3 gn (knum a) ((p + 1) % 40) dy' (dy a) := hK.of (ho3.at (by decide)) (ho3.at (by decide)) (ho3.at (by decide)) (ho3.at (by decide)) (ho3.2 39 (by decide))
  have e42' : μ3 42 = μ 42 := (ho3.at (by decide)).trans e42
  obtain ⟨dy2, hA⟩ := hK3.now (by rw [e42']; exact hR) h1 h2
  have c : ∀ k, k ≠ 56 → k ∉ [24, 25, 26, 27, 40, 41, 72, 78] → μ3 k = μ k := fun k hk hm => by
    rw [ho3.at (fun z => hm (by simp at z ⊢; omega)) hk, ho.at hm hk]
  have f : ∀ k, k ≠ 39 → μ3 56 k = μ 56 k := fun k hk => by
    rw [ho3.2 k (by simp), ho.2 k (by simpa using hk)]
  have f40 : μ3 40 4 = μ 40 4 := by rw [ho3.at (show 40 ∉ [24, 25, 26, 27, 72] by decide), f4]
  refine ⟨tn, gn, _, _, dy2, ln, sz, m, jE.of (c _ (by decide) (by decide)) (c _ (by decide) (by decide)) (c _ (by decide) (by decide)) (c _ (by decide) (by decide)) (c _ (by decide) (by decide)) (c _ (by decide) (by decide)) (c _ (by decide) (by decide)) (f _ (by decide)) (f _ (by decide)), hA, ?_, jL.of (c _ (by decide) (by decide)) (c _ (by decide) (by decide)) (c _ (by decide) (by decide)) (c _ (by decide) (by decide)) (c _ (by decide) (by decide)) (c _ (by decide) (by decide)) (c _ (by decide) (by decide)) (c _ (by decide) (by decide)) (fun n hn => c _ (by omega) (by simp; omega)) (f _ (by decide)) (f _ (by decide)), jT.of (by rw [c 1 (by decide) (by decide)]) (c _ (by decide) (by decide)) (c _ (by decide) (by decide)) (f _ (by decide)), jS.of (c _ (by decide) (by decide)) (c _ (by decide) (by decide)) (c _ (by decide) (by decide)) (c _ (by decide) (by decide)) (c _ (by decide) (by decide)) (c _ (by decide) (by decide)) (c _ (by decide) (by decide)) (c _ (by decide) (by decide)) (c _ (by decide) (by decide)) (f _ (by decide)), jM.of (c _ (by decide) (by decide)) (c _ (by decide) (by decide)) (c _ (by decide) (by decide)) (c _ (by decide) (by decide)) (by rw [c 10 (by decide) (by decide)]) (f _ (by decide))⟩
  unfold JI at *
  rw [f40, f 51 (by decide), c 43 (by decide) (by decide), c 44 (by decide) (by decide), c 85 (by decide) (by decide)]
  exact jI
end P2
