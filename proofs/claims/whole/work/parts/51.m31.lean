/-- the tokens of clauses, one after another -/
def flat (cs : List (List Tk × List Tk)) : List Tk := cs.flatMap (fun c => c.1 ++ c.2)
theorem flat_app {cs : List (List Tk × List Tk)} {c : List Tk × List Tk} : flat (cs ++ [c]) = flat cs ++ (c.1 ++ c.2) := by simp [flat]
/-- what reading a law's text n may change -/
def LPr (μ0 μ : mm_mu) (n : Nat) : Prop := OffF [58, 59, 60, 61, 62, 63, 64] [3, 4, 5] μ0 μ ∧ (∀ i, ¬ (520 * n ≤ i ∧ i < 520 * n + 520) → μ 58 i = μ0 58 i ∧ μ 59 i = μ0 59 i) ∧ (∀ i, i ≠ n → μ 60 i = μ0 60 i ∧ μ 61 i = μ0 61 i) ∧ ∀ i, ¬ (140 * n ≤ i ∧ i < 140 * n + 140) → μ 62 i = μ0 62 i ∧ μ 63 i = μ0 63 i ∧ μ 64 i = μ0 64 i
def LwP (μ0 μ : mm_mu) (n a : Nat) (cs : List (List Tk × List Tk)) : Prop := LPr μ0 μ n ∧ MP μ μ n a (-1) 0 (flat cs) ∧ μ 61 n = nI cs.length ∧ ∀ j, j < cs.length → μ 62 (140 * n + j) = nI (flat (cs.take j)).length ∧ μ 63 (140 * n + j) = nI ((flat (cs.take j)).length + (cs.getD j ([], [])).1.length) ∧ μ 64 (140 * n + j) = nI (flat (cs.take (j + 1))).length
def LF (μ0 μ : mm_mu) (n p : Nat) : Prop := LPr μ0 μ n ∧ μ 56 4 = nI p ∧ ∃ a, μ 56 3 = nI a ∧ a ≤ 260
theorem MPr.rf {μ : mm_mu} {n : Nat} : MPr μ μ n := ⟨OffF.rf, fun _ _ => ⟨rfl, rfl⟩, fun _ _ => rfl⟩
theorem LPr.rf {μ : mm_mu} {n : Nat} : LPr μ μ n := ⟨OffF.rf, fun _ _ => ⟨rfl, rfl⟩, fun _ _ => ⟨rfl, rfl⟩, fun _ _ => ⟨rfl, rfl, rfl⟩⟩
theorem LPr.step {μ0 μ μ' : mm_mu} {n : Nat} (h : LPr μ0 μ n) (h2 : MPr μ μ' n) : LPr μ0 μ' n := by
  have e61 : μ' 61 = μ 61 := h2.1.at (by decide)
  have e62 : μ' 62 = μ 62 := h2.1.at (by decide)
  have e63 : μ' 63 = μ 63 := h2.1.at (by decide)
  have e64 : μ' 64 = μ 64 := h2.1.at (by decide)
  refine ⟨h.1.tr (h2.1.mono (by decide) (fun _ z => z)), fun i hi => ?_, fun i hi => ?_, fun i hi => ?_⟩
  · rw [(h2.2.1 i hi).1, (h2.2.1 i hi).2]; exact h.2.1 i hi
  · rw [h2.2.2 i hi, e61]; exact h.2.2.1 i hi
  · rw [e62, e63, e64]; exact h.2.2.2 i hi
theorem LPr.up {μ0 μ : mm_mu} {n c i : Nat} {x : Int32} (h : LPr μ0 μ n) (hc : c ∈ [62, 63, 64]) (hi : 140 * n ≤ i ∧ i < 140 * n + 140) : LPr μ0 (mup μ c i x) n := by
  have g : ∀ q, q ∈ [56, 57, 58, 59, 60, 61] → mup μ c i x q = μ q := fun q hq => mup_c (by rintro rfl; revert hc hq; simp; omega)
  refine ⟨h.1.up (by revert hc; simp; omega) (by rintro rfl; revert hc; decide), fun j hj => ?_, fun j hj => ?_, fun j hj => ?_⟩
  · rw [g 58 (by decide), g 59 (by decide)]; exact h.2.1 j hj
  · rw [g 60 (by decide), g 61 (by decide)]; exact h.2.2.1 j hj
  · have k : ∀ q, mup μ c i x q j = μ q j := fun q => by
      by_cases hq : q = c
      · subst hq; rw [mup_s, if_neg (by omega)]
      · rw [mup_c hq]
    rw [k, k, k]; exact h.2.2.2 j hj
theorem LPr.up61 {μ0 μ : mm_mu} {n : Nat} {x : Int32} (h : LPr μ0 μ n) : LPr μ0 (mup μ 61 n x) n := by
  refine ⟨h.1.up (by decide), fun j hj => ?_, fun j hj => ?_, fun j hj => ?_⟩
  · rw [mup_c (by decide), mup_c (by decide)]; exact h.2.1 j hj
  · rw [mup_c (by decide), mup_s, if_neg hj]; exact h.2.2.1 j hj
  · rw [mup_c (by decide), mup_c (by decide), mup_c (by decide)]; exact h.2.2.2 j hj
theorem LPr.upf {μ0 μ : mm_mu} {n i : Nat} {x : Int32} (h : LPr μ0 μ n) (hi : i ∈ [3, 4, 5]) : LPr μ0 (mup μ 56 i x) n := by
  refine ⟨h.1.upf hi, fun j hj => ?_, fun j hj => ?_, fun j hj => ?_⟩
  · rw [mup_c (by decide), mup_c (by decide)]; exact h.2.1 j hj
  · rw [mup_c (by decide), mup_c (by decide)]; exact h.2.2.1 j hj
  · rw [mup_c (by decide), mup_c (by decide), mup_c (by decide)]; exact h.2.2.2 j hj
theorem MP.re {μ0 μ : mm_mu} {n a dp : Nat} {w : Int32} {ts : List Tk} (h : MP μ0 μ n a w dp ts) : MP μ μ n a w dp ts := ⟨MPr.rf, h.2⟩
theorem MP.reup {μ : mm_mu} {n a dp c i : Nat} {w x : Int32} {ts : List Tk} (h : MP μ μ n a w dp ts) (hc : c ∈ [61, 62, 63, 64]) : MP (mup μ c i x) (mup μ c i x) n a w dp ts := by
  have g : ∀ q, q ∈ [56, 57, 58, 59, 60] → mup μ c i x q = μ q := fun q hq => mup_c (by rintro rfl; revert hc hq; simp; omega)
  obtain ⟨h1, h2, h3, h4, h5, h6⟩ := h
  refine ⟨MPr.rf, ?_, ?_, ?_, ?_, ?_⟩
  · rw [g 56 (by decide)]; exact h2
  · rw [g 56 (by decide)]; exact h3
  · rw [g 56 (by decide)]; exact h4
  · rw [g 60 (by decide)]; exact h5
  · rw [g 58 (by decide), g 59 (by decide)]; exact h6
theorem MR.re {μ0 μ : mm_mu} {n sz : Nat} (r : MR μ0 n sz) (h : OffF [58, 59, 60, 61, 62, 63, 64] [3, 4, 5] μ0 μ) : MR μ n sz := ⟨(h.2 14 (by decide)).trans r.1, r.2.1, (h.2 2 (by decide)).trans r.2.2.1, r.2.2.2⟩
section M31
variable {d : Nat} {ε : mm_X} {μ0 μ : mm_mu} {Q : mm_Q0} {h : mm_H} {n a sz : Nat} {w : Int32}
theorem m_and_after {f dp : Nat} {ts : List Tk} (r : MR μ0 n sz) (hp : PO μ0 n sz dp a ts (pUnit (μ0 57) sz f a) μ) (hdp : dp + f = 6) (ha : a ≤ sz) (hts : ts.length ≤ a) (hQ : ∀ μ', PO μ0 n sz dp a ts (pTruth (μ0 57) sz (pUnit (μ0 57) sz f) a) μ' → Q none (HP ε μ')) : B0 (d + (4 * f + 9)) mX12_goOnAnd [.ref 56] (HP ε μ) Q := by
  have h240 := r.2.2.2
  have hok := pUnit_ok (tx := μ0 57) (sz := sz) f a ha
  unfold pTruth at hQ
  cases hT : pUnit (μ0 57) sz f a with
  | inl p =>
    rw [hT] at hp hQ hok
    have hpl : p ≤ sz := hok
    obtain ⟨a', dp', ts', q1, q2, q3, q4⟩ := hp.fail
    exact m_goOnAnd_wB (d := d + (4 * f + 8)) q1 (nI_nm (by omega)) (hQ _ hp)
  | inr q =>
    obtain ⟨b2, us2⟩ := q
    rw [hT] at hp hQ hok
    obtain ⟨g1, g2, g3⟩ := hok
    refine m_goOnAnd (m_unitF f) _ _ _ _ _ _ _ _ _ _ r hp.good hdp g2 (by simp only [List.length_append]; omega) ?_
    intro μ4 hp4
    refine hQ _ ?_
    have := hp4.pre (a := a) (by omega)
    dsimp only at this ⊢
    rw [← pAndL_pre, List.append_nil] at this
    exact this
theorem m_or_after {f dp : Nat} {ts : List Tk} (r : MR μ0 n sz) (hp : PO μ0 n sz dp a ts (pTruth (μ0 57) sz (pUnit (μ0 57) sz f) a) μ) (hdp : dp + f = 6) (ha : a ≤ sz) (hts : ts.length ≤ a) (hQ : ∀ μ', PO μ0 n sz dp a ts (pCond (μ0 57) sz f a) μ' → Q none (HP ε μ')) : B0 (d + (4 * f + 10)) mX12_goOnOr [.ref 56] (HP ε μ) Q := by
  have h240 := r.2.2.2
  have hok := pTruth_ok (tx := μ0 57) (sz := sz) (A := pUnit (μ0 57) sz f) (pUnit_ok f) ha
  unfold pCond pCondG at hQ
  cases hT : pTruth (μ0 57) sz (pUnit (μ0 57) sz f) a with
  | inl p =>
    rw [hT] at hp hQ hok
    have hpl : p ≤ sz := hok
    obtain ⟨a', dp', ts', q1, q2, q3, q4⟩ := hp.fail
    exact m_goOnOr_wB (d := d + (4 * f + 9)) q1 (nI_nm (by omega)) (hQ _ hp)
  | inr q =>
    obtain ⟨b2, us2⟩ := q
    rw [hT] at hp hQ hok
    obtain ⟨g1, g2, g3⟩ := hok
    refine m_goOnOr (m_unitF f) _ _ _ _ _ _ _ _ _ _ r hp.good hdp g2 (by simp only [List.length_append]; omega) ?_
    intro μ4 hp4
    refine hQ _ ?_
    have := hp4.pre (a := a) (by omega)
    dsimp only at this ⊢
    rw [← pOrL_pre, List.append_nil] at this
    exact this
/-- how a clause ends -/
def CO (μ0 : mm_mu) (n : Nat) (cs : List (List Tk × List Tk)) (x : CR) (μ' : mm_mu) : Prop := match x with
  | .inl p => LF μ0 μ' n p
  | .inr (b, t, s) => LwP μ0 μ' n b (cs ++ [(t, s)])
theorem LwP_snoc {cs : List (List Tk × List Tk)} {t s : List Tk} {b : Nat} (hr : LPr μ0 μ n) (hM : MP μ μ n b (-1) 0 (flat cs ++ (t ++ s))) (h61 : μ 61 n = nI (cs.length + 1)) (hold : ∀ j, j < cs.length → μ 62 (140 * n + j) = nI (flat (cs.take j)).length ∧ μ 63 (140 * n + j) = nI ((flat (cs.take j)).length + (cs.getD j ([], [])).1.length) ∧ μ 64 (140 * n + j) = nI (flat (cs.take (j + 1))).length)
    (h62 : μ 62 (140 * n + cs.length) = nI (flat cs).length) (h63 : μ 63 (140 * n + cs.length) = nI ((flat cs).length + t.length)) (h64 : μ 64 (140 * n + cs.length) = nI ((flat cs).length + t.length + s.length)) : LwP μ0 μ n b (cs ++ [(t, s)]) := by
  refine ⟨hr, by rw [flat_app]; exact hM, by rw [h61]; simp, fun j hj => ?_⟩
  simp only [List.length_append, List.length_cons, List.length_nil] at hj
  by_cases hj2 : j < cs.length
  · obtain ⟨q1, q2, q3⟩ := hold j hj2
    have e1 : (cs ++ [(t, s)]).take j = cs.take j := List.take_append_of_le_length (by omega)
    have e2 : (cs ++ [(t, s)]).take (j + 1) = cs.take (j + 1) := List.take_append_of_le_length (by omega)
    have e3 : (cs ++ [(t, s)]).getD j ([], []) = cs.getD j ([], []) := by simp [List.getElem?_append_left hj2]
    rw [e1, e2, e3]; exact ⟨q1, q2, q3⟩
  · have : j = cs.length := by omega
    subst this
    have e1 : (cs ++ [(t, s)]).take cs.length = cs := by simp
    have e2 : (cs ++ [(t, s)]).take (cs.length + 1) = cs ++ [(t, s)] := List.take_of_length_le (by simp)
    have e3 : (cs ++ [(t, s)]).getD cs.length ([], []) = (t, s) := by simp
    rw [e1, e2, e3]
    refine ⟨h62, h63, ?_⟩
    rw [h64, flat_app]; simp only [List.length_append]; congr 1; omega
end M31
