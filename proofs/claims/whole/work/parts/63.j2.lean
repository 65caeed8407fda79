/-! what was, on both sides, when one more is kept -/
theorem RW.cong {gn D : Nat} {c c' m m' ring ring' : Nat → Int32} (h : RW gn c m ring D) (hg5 : gn ≤ 5) (hc : ∀ i, i < 21 → c' i = c i) (hm : ∀ k, k < 202 → m' k = m k) (hr : ∀ i, i < min D 60 → ring' ((D - 1 - i) % 100) = ring ((D - 1 - i) % 100)) : RW gn c' m' ring' D := by
  obtain ⟨h1, h2, h3, h4, h5, h6, h7, h8, h9⟩ := h
  refine ⟨fun g hg => ?_, fun hg => ?_, ?_, fun g q1 q2 => ?_, fun g hg => ?_, h6, ?_, ?_, fun i k hi hk => ?_⟩
  · rw [hc _ (by omega), hc _ (by omega), hc _ (by omega), hm _ (by omega), hm _ (by omega), hm _ (by omega)]; exact h1 g hg
  · rw [hc _ (by decide), hc _ (by decide), hc _ (by decide), hm _ (by decide), hm _ (by decide), hm _ (by decide)]; exact h2 hg
  · rw [hc _ (by decide), hc _ (by decide), hc _ (by decide), hm _ (by decide), hm _ (by decide), hm _ (by decide)]; exact h3
  · rw [hc _ (by omega)]; exact h4 g q1 q2
  · rw [hm _ (by omega), hm _ (by omega), hm _ (by omega)]; exact h5 g hg
  · rw [hm _ (by decide)]; exact h7
  · rw [hm _ (by decide)]; exact h8
  · rw [hm _ (by omega), hr i hi]; exact h9 i k hi hk
/-- rows that are kept, the latest of the day D -/
def JK (μ : mm_mu) (gn a p : Nat) (dy : Nat → Nat) (D : Nat) : Prop := PA μ p a ∧ μ 56 39 = nI a ∧ 0 < a ∧ dy (a - 1) = D ∧ (∀ j, j < a → RW gn (fun i => μ 41 (21 * ((p + 40 - a + j) % 40) + i)) (mrow μ j) (μ 42) (dy j)) ∧ ∀ j, j + 1 < a → dy j ≤ dy (j + 1) ∧ dy (j + 1) ≤ dy j + 1
section J2
variable {ε : mm_X} {μ μ1 μ2 μ' : mm_mu} {gn a p D : Nat} {dy : Nat → Nat}
theorem JA.keep (hA : JA μ gn a p dy) (hg5 : gn ≤ 5) (hp1 : PA μ2 ((p + 1) % 40) (knum a)) (hs1 : ∀ j, j < 21 → μ2 41 (21 * p + j) = csv μ 24 j) (hr1 : ∀ i, ¬ (21 * p ≤ i ∧ i < 21 * p + 21) → μ2 41 i = μ 41 i) (e42 : μ2 42 = μ 42) (hk2 : KR μ2 (knum a) (kput a (mrow μ) (μ 72))) : ∃ dy', JK μ2 gn (knum a) ((p + 1) % 40) dy' (dy a) := by
  obtain ⟨hR, hP, h39, hrows, hdy⟩ := hA
  have hp40 := hP.2.1
  have ha40 := hP.2.2.2
  refine ⟨fun j => if a = 40 then dy (j + 1) else dy j, ?_, hk2.1, ?_, ?_, ?_, ?_⟩
  · exact hp1
  · unfold knum; split <;> omega
  · unfold knum
    by_cases h : a = 40
    · simp only [if_pos h]; rw [h]
    · simp only [if_neg h, Nat.add_sub_cancel]
  · intro j hj
    have hm : ∀ k, k < 202 → mrow μ2 j k = kput a (mrow μ) (μ 72) j k := fun k hk => hk2.2.2 j k hj hk
    by_cases h : a = 40
    · subst h
      have hj : j < 40 := hj
      simp only [if_true]
      by_cases h39 : j < 39
      · refine (hrows (j + 1) (by omega)).cong hg5 (fun i hi => ?_) (fun k hk => ?_) (fun i _ => by rw [e42])
        · rw [show ((p + 1) % 40 + 40 - knum 40 + j) % 40 = (p + 40 - 40 + (j + 1)) % 40 by have : knum 40 = 40 := rfl; omega]
          refine hr1 _ ?_
          omega
        · rw [hm k hk]
          simp only [kput, if_true, if_pos h39]
      · have h40 : j + 1 = 40 := by omega
        rw [h40]
        refine hR.cong hg5 (fun i hi => ?_) (fun k hk => ?_) (fun i _ => ?_)
        · rw [show ((p + 1) % 40 + 40 - knum 40 + j) % 40 = p by have : knum 40 = 40 := rfl; omega]
          exact hs1 i hi
        · rw [hm k hk]
          simp only [kput, if_true, if_neg h39]
        · rw [e42]
    · have hj : j < a + 1 := by unfold knum at hj; rw [if_neg h] at hj; exact hj
      have hkn : knum a = a + 1 := by unfold knum; rw [if_neg h]
      simp only [if_neg h]
      by_cases hja : j < a
      · refine (hrows j hja).cong hg5 (fun i hi => ?_) (fun k hk => ?_) (fun i _ => by rw [e42])
        · rw [hkn, show ((p + 1) % 40 + 40 - (a + 1) + j) % 40 = (p + 40 - a + j) % 40 by omega]
          refine hr1 _ ?_
          omega
        · rw [hm k hk]
          simp only [kput, if_neg h, if_pos hja]
      · have hja : j = a := by omega
        subst hja
        refine hR.cong hg5 (fun i hi => ?_) (fun k hk => ?_) (fun i _ => by rw [e42])
        · rw [hkn, show ((p + 1) % 40 + 40 - (j + 1) + j) % 40 = p by omega]
          exact hs1 i hi
        · rw [hm k hk]
          simp only [kput, if_neg h, if_neg (Nat.lt_irrefl j)]
  · intro j hj
    unfold knum at hj
    by_cases h : a = 40
    · simp only [if_pos h] at hj ⊢; exact hdy (j + 1) (by omega)
    · simp only [if_neg h] at hj ⊢; exact hdy j (by omega)
theorem JK.of (h : JK μ gn a p dy D) (e40 : μ' 40 = μ 40) (e41 : μ' 41 = μ 41) (e42 : μ' 42 = μ 42) (e78 : μ' 78 = μ 78) (f39 : μ' 56 39 = μ 56 39) : JK μ' gn a p dy D := by
  unfold JK PA mrow at *
  rw [e40, e41, e42, e78, f39]; exact h
theorem JK.le (h : JK μ gn a p dy D) : ∀ (k j : Nat), j + k + 1 = a → dy j ≤ D ∧ D ≤ dy j + k
  | 0, j, hj => by have := h.2.2.2.1; rw [show a - 1 = j by omega] at this; omega
  | k + 1, j, hj => by
    have := JK.le h k (j + 1) (by omega)
    have := h.2.2.2.2.2 j (by omega)
    omega
/-- the ring takes the entry of the day D: what is kept doesn't mind -/
theorem JK.ring (h : JK μ gn a p dy D) (hg5 : gn ≤ 5) (e40 : μ' 40 = μ 40) (e41 : μ' 41 = μ 41) (e42 : ∀ i, i ≠ D % 100 → μ' 42 i = μ 42 i) (e78 : μ' 78 = μ 78) (f39 : μ' 56 39 = μ 56 39) : JK μ' gn a p dy D := by
  obtain ⟨h1, h2, h3, h4, h5, h6⟩ := h
  have ha40 := h1.2.2.2
  refine ⟨?_, ?_, h3, h4, fun j hj => ?_, h6⟩
  · unfold PA at *; rw [e40]; exact h1
  · rw [f39]; exact h2
  · have hl := JK.le ⟨h1, h2, h3, h4, h5, h6⟩ (a - 1 - j) j (by omega)
    refine (h5 j hj).cong hg5 (fun i _ => by rw [e41]) (fun k _ => by unfold mrow; rw [e78]) (fun i hi => ?_)
    refine e42 _ ?_
    omega
theorem JK.now {D' : Nat} (h : JK μ gn a p dy D) (hR : RW gn (csv μ 24) (μ 72) (μ 42) D') (h1 : D ≤ D') (h2 : D' ≤ D + 1) : ∃ dy', JA μ gn a p dy' := by
  obtain ⟨q1, q2, q3, q4, q5, q6⟩ := h
  refine ⟨fun j => if j = a then D' else dy j, ?_, q1, q2, fun j hj => ?_, fun j hj => ?_⟩
  · simp only [if_true]; exact hR
  · simp only [if_neg (show ¬ j = a by omega)]; exact q5 j hj
  · dsimp only
    rw [if_neg (show ¬ j = a by omega)]
    by_cases hja : j + 1 = a
    · rw [if_pos hja]
      rw [show a - 1 = j by omega] at q4
      omega
    · rw [if_neg hja]; exact q6 j (by omega)
end J2
