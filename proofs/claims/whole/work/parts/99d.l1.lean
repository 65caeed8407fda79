/-! A LAW'S TEXT: what its code promises -/
/-- a reader's numbers are not negative -/
def nnR (r : PR) : Prop := ∀ b ts, r = .inr (b, ts) → nnT ts
theorem nnT.app {l1 l2 : List Tk} (h1 : nnT l1) (h2 : nnT l2) : nnT (l1 ++ l2) := fun tk htk h0 => by
  rcases List.mem_append.mp htk with h | h
  · exact h1 tk h h0
  · exact h2 tk h h0
theorem nnT.sg {k : Int32} {v : Int32} (hk : k ≠ 0) : nnT [(k, v)] := fun tk htk h0 => by
  have : tk = (k, v) := by simpa using htk
  subst this
  exact absurd h0 hk
section L1
variable {tx : Nat → Int32} {sz : Nat}
theorem pAtom_nn {S : Option (Nat → PR)} (hS : ∀ T, S = some T → ∀ a, nnR (T a)) (a : Nat) : nnR (pAtom tx sz S a) := by
  intro b ts h
  unfold pAtom at h
  split at h
  · split at h
    · cases h
    · cases h
      obtain ⟨y, hy, e⟩ := rdn_val (tx := tx) (sz := sz) 4 0 (sk tx sz a) 0 (by decide) (by decide)
      rw [show (nI 0 : Int32) = 0 from rfl] at e
      intro tk htk _
      have : tk = (0, (rdn tx sz 4 (sk tx sz a) 0).2) := by simpa using htk
      rw [this, e]
      exact nI_le (a := 0) (Nat.zero_le _) (by omega)
  · split at h
    · cases h; exact nnT.sg (by decide)
    · split at h
      · cases S with
        | none => cases h
        | some T =>
          dsimp only at h
          cases hT : T (sk tx sz a + 1) with
          | inl p => rw [hT] at h; cases h
          | inr q =>
            obtain ⟨b', us⟩ := q
            rw [hT] at h
            dsimp only at h
            split at h
            · cases h; exact hS T rfl _ _ _ hT
            · cases h
      · cases h
theorem pTermL_nn {A : Nat → PR} (hA : ∀ a, nnR (A a)) : ∀ (n a : Nat) (ts : List Tk), nnT ts → nnR (pTermL tx sz A n a ts)
  | 0, a, ts, h, b, ts', e => by rw [pTermL] at e; cases e; exact h
  | n + 1, a, ts, h, b, ts', e => by
    rw [pTermL] at e
    split at e
    · cases hT : A (sk tx sz a + 1) with
      | inl p => rw [hT] at e; cases e
      | inr q =>
        obtain ⟨b', us⟩ := q
        rw [hT] at e
        exact pTermL_nn hA n b' _ ((h.app (hA _ _ _ hT)).app (nnT.sg (by split <;> decide))) b ts' e
    · cases e; exact h
theorem pTerm_nn {A : Nat → PR} (hA : ∀ a, nnR (A a)) (a : Nat) : nnR (pTerm tx sz A a) := by
  intro b ts e
  unfold pTerm at e
  cases hT : A a with
  | inl p => rw [hT] at e; cases e
  | inr q => obtain ⟨b', us⟩ := q; rw [hT] at e; exact pTermL_nn hA 240 b' us (hA _ _ _ hT) b ts e
theorem pSumL_nn {A : Nat → PR} (hA : ∀ a, nnR (A a)) : ∀ (n a : Nat) (ts : List Tk), nnT ts → nnR (pSumL tx sz A n a ts)
  | 0, a, ts, h, b, ts', e => by rw [pSumL] at e; cases e; exact h
  | n + 1, a, ts, h, b, ts', e => by
    rw [pSumL] at e
    split at e
    · cases hT : A (sk tx sz a + 1) with
      | inl p => rw [hT] at e; cases e
      | inr q =>
        obtain ⟨b', us⟩ := q
        rw [hT] at e
        exact pSumL_nn hA n b' _ ((h.app (hA _ _ _ hT)).app (nnT.sg (by split <;> decide))) b ts' e
    · cases e; exact h
theorem pSumG_nn {A : Nat → PR} (hA : ∀ a, nnR (A a)) (a : Nat) : nnR (pSumG tx sz A a) := by
  intro b ts e
  unfold pSumG at e
  cases hT : A a with
  | inl p => rw [hT] at e; cases e
  | inr q => obtain ⟨b', us⟩ := q; rw [hT] at e; exact pSumL_nn hA 240 b' us (hA _ _ _ hT) b ts e
theorem pSum_nn : ∀ (f a : Nat), nnR (pSum tx sz f a)
  | 0, a => pSumG_nn (fun a => pTerm_nn (fun a => pAtom_nn (fun T z => by cases z) a) a) a
  | f + 1, a => pSumG_nn (fun a => pTerm_nn (fun a => pAtom_nn (fun T z => by cases z; exact pSum_nn f) a) a) a
theorem pCmp_nn {S : Nat → PR} (hS : ∀ a, nnR (S a)) {a : Nat} {ts : List Tk} (h : nnT ts) : nnR (pCmp tx sz S a ts) := by
  intro b ts' e
  unfold pCmp at e
  split at e
  · cases hT : S (sk tx sz a + 1) with
    | inl p => rw [hT] at e; cases e
    | inr q => obtain ⟨b', us⟩ := q; rw [hT] at e; cases e; exact (h.app (hS _ _ _ hT)).app (nnT.sg (by split; decide; split <;> decide))
  · cases e
theorem pUnitG_nn {U : Option ((Nat → PR) × (Nat → PR))} {S : Nat → PR} (hU : ∀ u c, U = some (u, c) → (∀ a, nnR (u a)) ∧ ∀ a, nnR (c a)) (hS : ∀ a, nnR (S a)) (a : Nat) : nnR (pUnitG tx sz U S a) := by
  intro b ts e
  unfold pUnitG at e
  split at e
  · cases U with
    | none => cases e
    | some uc =>
      obtain ⟨u, c⟩ := uc
      dsimp only at e
      cases hT : u (sk tx sz a + 1) with
      | inl p => rw [hT] at e; cases e
      | inr q => obtain ⟨b', us⟩ := q; rw [hT] at e; cases e; exact ((hU u c rfl).1 _ _ _ hT).app (nnT.sg (by decide))
  · split at e
    · cases U with
      | none => cases e
      | some uc =>
        obtain ⟨u, c⟩ := uc
        dsimp only at e
        cases hT : c (sk tx sz a + 1) with
        | inl p => rw [hT] at e; cases e
        | inr q =>
          obtain ⟨b', us⟩ := q; rw [hT] at e
          dsimp only at e
          split at e
          · cases e; exact (hU u c rfl).2 _ _ _ hT
          · cases e
    · cases hT : S (sk tx sz a) with
      | inl p => rw [hT] at e; cases e
      | inr q => obtain ⟨b', us⟩ := q; rw [hT] at e; exact pCmp_nn hS (hS _ _ _ hT) b ts e
theorem pAndL_nn {A : Nat → PR} (hA : ∀ a, nnR (A a)) : ∀ (n a : Nat) (ts : List Tk), nnT ts → nnR (pAndL tx sz A n a ts)
  | 0, a, ts, h, b, ts', e => by rw [pAndL] at e; cases e; exact h
  | n + 1, a, ts, h, b, ts', e => by
    rw [pAndL] at e
    split at e
    · cases hT : A (sk tx sz a + 1) with
      | inl p => rw [hT] at e; cases e
      | inr q =>
        obtain ⟨b', us⟩ := q
        rw [hT] at e
        exact pAndL_nn hA n b' _ ((h.app (hA _ _ _ hT)).app (nnT.sg (by decide))) b ts' e
    · cases e; exact h
theorem pTruth_nn {A : Nat → PR} (hA : ∀ a, nnR (A a)) (a : Nat) : nnR (pTruth tx sz A a) := by
  intro b ts e
  unfold pTruth at e
  cases hT : A a with
  | inl p => rw [hT] at e; cases e
  | inr q => obtain ⟨b', us⟩ := q; rw [hT] at e; exact pAndL_nn hA 240 b' us (hA _ _ _ hT) b ts e
theorem pOrL_nn {A : Nat → PR} (hA : ∀ a, nnR (A a)) : ∀ (n a : Nat) (ts : List Tk), nnT ts → nnR (pOrL tx sz A n a ts)
  | 0, a, ts, h, b, ts', e => by rw [pOrL] at e; cases e; exact h
  | n + 1, a, ts, h, b, ts', e => by
    rw [pOrL] at e
    split at e
    · cases hT : A (sk tx sz a + 1) with
      | inl p => rw [hT] at e; cases e
      | inr q =>
        obtain ⟨b', us⟩ := q
        rw [hT] at e
        exact pOrL_nn hA n b' _ ((h.app (hA _ _ _ hT)).app (nnT.sg (by decide))) b ts' e
    · cases e; exact h
theorem pCondG_nn {A : Nat → PR} (hA : ∀ a, nnR (A a)) (a : Nat) : nnR (pCondG tx sz A a) := by
  intro b ts e
  unfold pCondG at e
  cases hT : pTruth tx sz A a with
  | inl p => rw [hT] at e; cases e
  | inr q => obtain ⟨b', us⟩ := q; rw [hT] at e; exact pOrL_nn (pTruth_nn hA) 240 b' us (pTruth_nn hA _ _ _ hT) b ts e
theorem pUnit_nn : ∀ (f a : Nat), nnR (pUnit tx sz f a)
  | 0, a => pUnitG_nn (fun u c z => by cases z) (pSum_nn 0) a
  | f + 1, a => pUnitG_nn (fun u c z => by cases z; exact ⟨pUnit_nn f, fun a => pCondG_nn (pUnit_nn f) a⟩) (pSum_nn (f + 1)) a
def okC1 (c : List Tk × List Tk) : Prop := (c.1 = [] ∨ tyk c.1 [] = some [true]) ∧ tyk c.2 [] = some [false] ∧ nnT c.1 ∧ nnT c.2
theorem pTest_c {a b : Nat} {t us : List Tk} (h : pTest tx sz a = .inr (b, t, us)) : okC1 (t, us) := by
  unfold pTest at h
  cases hT : pCond tx sz 6 a with
  | inl p => rw [hT] at h; cases h
  | inr q =>
    obtain ⟨b', ts⟩ := q
    rw [hT] at h
    dsimp only at h
    unfold pWorth at h
    split at h
    · cases hS : pSum tx sz 6 (sk tx sz b' + 1) with
      | inl p => rw [hS] at h; cases h
      | inr q =>
        obtain ⟨b2, vs⟩ := q
        rw [hS] at h
        cases h
        exact ⟨Or.inr (pCond6_ty hT), pSum6_ty hS, pCondG_nn (pUnit_nn 6) _ _ _ hT, pSum_nn 6 _ _ _ hS⟩
    · cases h
theorem pBody_c {a b : Nat} {t us : List Tk} (h : pBody tx sz a = .inr (b, t, us)) : okC1 (t, us) := by
  unfold pBody at h
  split at h
  · exact pTest_c h
  · cases hS : pSum tx sz 6 (sk tx sz a) with
    | inl p => rw [hS] at h; cases h
    | inr q =>
      obtain ⟨b2, vs⟩ := q
      rw [hS] at h
      dsimp only at h
      split at h
      · exact pTest_c h
      · cases h
        exact ⟨Or.inl rfl, pSum6_ty hS, fun tk htk => by simp at htk, pSum_nn 6 _ _ _ hS⟩
theorem pLawL_c : ∀ (n a : Nat) (cs r : List (List Tk × List Tk)), a ≤ sz → (flat cs).length ≤ a → 2 * cs.length ≤ a → okCs cs → pLawL tx sz n a cs = .inr r → (flat r).length ≤ sz ∧ 2 * r.length ≤ sz ∧ okCs r
  | 0, a, cs, r, _, _, _, _, h => by rw [pLawL] at h; cases h
  | n + 1, a, cs, r, ha, h1, h2, h3, h => by
    rw [pLawL] at h
    cases hC : pClause tx sz a with
    | inl p => rw [hC] at h; cases h
    | inr q =>
      obtain ⟨b, t, us⟩ := q
      rw [hC] at h
      dsimp only at h
      have hb : a + 2 < b ∧ b ≤ sz ∧ t.length + us.length ≤ b - (a + 2) := by
        have := pClause_ok (tx := tx) (sz := sz) ha
        rw [hC] at this
        obtain ⟨x, y, z⟩ := this
        exact ⟨by omega, y, by omega⟩
      have hc1 : okC1 (t, us) := by
        unfold pClause at hC
        split at hC
        · split at hC
          · exact pBody_c hC
          · cases hC
        · cases hC
      have g3 : okCs (cs ++ [(t, us)]) := fun c hc => by
        rcases List.mem_append.mp hc with z | z
        · exact h3 c z
        · have : c = (t, us) := by simpa using z
          subst this
          exact hc1
      have g1 : (flat (cs ++ [(t, us)])).length ≤ b := by
        rw [flat_app, List.length_append, List.length_append]; simp only; omega
      have g2 : 2 * (cs ++ [(t, us)]).length ≤ b := by rw [List.length_append, List.length_singleton]; omega
      split at h
      · cases h; exact ⟨by omega, by omega, g3⟩
      · split at h
        · rename_i q1 _
          have hlt : sk tx sz b < sz := chr_lt (tx := tx) q1
          have := sk_le (tx := tx) (sz := sz) b
          exact pLawL_c n _ _ r (by omega) (by omega) (by omega) g3 h
        · cases h
theorem pLaw_c {r : List (List Tk × List Tk)} (h : pLaw tx sz = .inr r) : (flat r).length ≤ sz ∧ 2 * r.length ≤ sz ∧ okCs r := pLawL_c 240 0 [] r (Nat.zero_le _) (Nat.zero_le _) (Nat.zero_le _) (fun c hc => by simp at hc) h
end L1
