/-! what a reader gives is typed, on any stack with so much room -/
def tyP (b : Bool) (n : Nat) (ts : List Tk) : Prop := ∀ s : List Bool, s.length + n ≤ 32 → tyk ts s = some (b :: s)
def tyR (b : Bool) (n : Nat) (r : PR) : Prop := ∀ a ts, r = .inr (a, ts) → tyP b n ts
theorem tyk_app : ∀ (l1 l2 : List Tk) (s s' : List Bool), tyk l1 s = some s' → tyk (l1 ++ l2) s = tyk l2 s'
  | [], l2, s, s', h => by cases h; rfl
  | t :: l1, l2, s, s', h => by
    rw [tyk] at h
    rw [List.cons_append, tyk]
    cases ht : ty1 t s with
    | none => rw [ht] at h; cases h
    | some s1 => rw [ht] at h; exact tyk_app l1 l2 s1 s' h
theorem tyP.mono {b : Bool} {n m : Nat} {ts : List Tk} (h : tyP b n ts) (hn : n ≤ m) : tyP b m ts := fun s hs => h s (by omega)
theorem tyP.two {b c : Bool} {n : Nat} {ts us : List Tk} {o : Tk} (h1 : tyP b (n + 1) ts) (h2 : tyP b n us) (ho : ∀ s, ty1 o (b :: b :: s) = some (c :: s)) : tyP c (n + 1) (ts ++ us ++ [o]) := fun s hs => by
  rw [tyk_app (ts ++ us) [o] s (b :: b :: s)]
  · simp only [tyk, ho]
  · rw [tyk_app ts us s (b :: s) (h1 s hs)]
    exact h2 (b :: s) (by simp only [List.length_cons]; omega)
theorem ty1_ar {k : Int32} (h : k = 2 ∨ k = 3 ∨ k = 4 ∨ k = 5) (s : List Bool) : ty1 (k, 0) (false :: false :: s) = some (false :: s) := by
  rcases h with rfl | rfl | rfl | rfl <;> simp (decide := true) [ty1]
theorem ty1_cp {k : Int32} (h : k = 6 ∨ k = 7 ∨ k = 8) (s : List Bool) : ty1 (k, 0) (false :: false :: s) = some (true :: s) := by
  rcases h with rfl | rfl | rfl <;> simp (decide := true) [ty1]
theorem ty1_lg {k : Int32} (h : k = 10 ∨ k = 11) (s : List Bool) : ty1 (k, 0) (true :: true :: s) = some (true :: s) := by
  rcases h with rfl | rfl <;> simp (decide := true) [ty1]
theorem letr_in {c : Int32} (h : ¬ letr c = -1) : 0 ≤ letr c ∧ letr c < 6 := by
  unfold letr at h ⊢
  split
  · decide
  · split
    · decide
    · split
      · decide
      · split
        · decide
        · split
          · decide
          · split
            · decide
            · rename_i h1 h2 h3 h4 h5 h6
              rw [if_neg h1, if_neg h2, if_neg h3, if_neg h4, if_neg h5, if_neg h6] at h
              exact absurd rfl h
section TY
variable {tx : Nat → Int32} {sz : Nat}
theorem pAtom_ty {S : Option (Nat → PR)} {n : Nat} (hn : 1 ≤ n) (hS : ∀ T, S = some T → ∀ a, tyR false n (T a)) (a : Nat) : tyR false n (pAtom tx sz S a) := by
  intro a' ts h
  unfold pAtom at h
  split at h
  · split at h
    · cases h
    · cases h
      intro s hs
      simp only [tyk]
      rw [show ty1 (0, (rdn tx sz 4 (sk tx sz a) 0).2) s = some (false :: s) by simp only [ty1, if_pos]; rw [if_pos (by omega)]]
  · split at h
    · rename_i hl
      cases h
      have := letr_in hl
      intro s hs
      simp only [tyk]
      rw [show ty1 (1, letr (chr tx sz (sk tx sz a))) s = some (false :: s) by
        simp only [ty1]
        rw [if_neg (by decide), if_pos trivial, if_pos ⟨by omega, this⟩]]
    · split at h
      · match S, hS with
        | none, _ => cases h
        | some T, hS =>
          dsimp only at h
          cases hT : T (sk tx sz a + 1) with
          | inl p => rw [hT] at h; cases h
          | inr q =>
            obtain ⟨b, us⟩ := q
            rw [hT] at h
            dsimp only at h
            split at h
            · cases h
              exact hS T rfl _ _ _ hT
            · cases h
      · cases h
theorem pTermL_ty {A : Nat → PR} {m : Nat} (hA : ∀ a, tyR false m (A a)) : ∀ (n a : Nat) (ts : List Tk), tyP false (m + 1) ts → tyR false (m + 1) (pTermL tx sz A n a ts)
  | 0, a, ts, ht => fun _ _ h => by cases h; exact ht
  | n + 1, a, ts, ht => by
    intro a' ts' h
    rw [pTermL] at h
    split at h
    · cases hT : A (sk tx sz a + 1) with
      | inl p => rw [hT] at h; cases h
      | inr q =>
        obtain ⟨b, us⟩ := q
        rw [hT] at h
        refine pTermL_ty hA n b _ ?_ a' ts' h
        refine ht.two (hA _ _ _ hT) (ty1_ar ?_)
        split
        · simp
        · simp
    · cases h; exact ht
theorem pTerm_ty {A : Nat → PR} {m : Nat} (hA : ∀ a, tyR false m (A a)) (a : Nat) : tyR false (m + 1) (pTerm tx sz A a) := by
  intro a' ts' h
  unfold pTerm at h
  cases hT : A a with
  | inl p => rw [hT] at h; cases h
  | inr q =>
    obtain ⟨b, us⟩ := q
    rw [hT] at h
    exact pTermL_ty hA 240 b us ((hA _ _ _ hT).mono (by omega)) a' ts' h
theorem pSumL_ty {A : Nat → PR} {m : Nat} (hA : ∀ a, tyR false m (A a)) : ∀ (n a : Nat) (ts : List Tk), tyP false (m + 1) ts → tyR false (m + 1) (pSumL tx sz A n a ts)
  | 0, a, ts, ht => fun _ _ h => by cases h; exact ht
  | n + 1, a, ts, ht => by
    intro a' ts' h
    rw [pSumL] at h
    split at h
    · cases hT : A (sk tx sz a + 1) with
      | inl p => rw [hT] at h; cases h
      | inr q =>
        obtain ⟨b, us⟩ := q
        rw [hT] at h
        refine pSumL_ty hA n b _ ?_ a' ts' h
        refine ht.two (hA _ _ _ hT) (ty1_ar ?_)
        split
        · simp
        · simp
    · cases h; exact ht
theorem pSumG_ty {A : Nat → PR} {m : Nat} (hA : ∀ a, tyR false m (A a)) (a : Nat) : tyR false (m + 1) (pSumG tx sz A a) := by
  intro a' ts' h
  unfold pSumG at h
  cases hT : A a with
  | inl p => rw [hT] at h; cases h
  | inr q =>
    obtain ⟨b, us⟩ := q
    rw [hT] at h
    exact pSumL_ty hA 240 b us ((hA _ _ _ hT).mono (by omega)) a' ts' h
theorem pSum_ty : ∀ (f a : Nat), tyR false (3 + 2 * f) (pSum tx sz f a)
  | 0, a => pSumG_ty (fun a => pTerm_ty (fun a => pAtom_ty (n := 1) (by omega) (fun T z => by cases z) a) a) a
  | f + 1, a => pSumG_ty (fun a => pTerm_ty (fun a => pAtom_ty (n := 3 + 2 * f) (by omega) (fun T z => by cases z; exact pSum_ty f) a) a) a
theorem pCmp_ty {S : Nat → PR} {m : Nat} (hS : ∀ a, tyR false m (S a)) {a : Nat} {ts : List Tk} (ht : tyP false m ts) : tyR true (m + 1) (pCmp tx sz S a ts) := by
  intro a' ts' h
  unfold pCmp at h
  split at h
  · cases hT : S (sk tx sz a + 1) with
    | inl p => rw [hT] at h; cases h
    | inr q =>
      obtain ⟨b, us⟩ := q
      rw [hT] at h
      cases h
      refine (ht.mono (by omega)).two (hS _ _ _ hT) (ty1_cp ?_)
      split
      · simp
      · split <;> simp
  · cases h
theorem pUnitG_ty {U : Option ((Nat → PR) × (Nat → PR))} {S : Nat → PR} {m : Nat} (hU : ∀ u c, U = some (u, c) → (∀ a, tyR true (m + 1) (u a)) ∧ ∀ a, tyR true (m + 1) (c a)) (hS : ∀ a, tyR false m (S a)) (a : Nat) : tyR true (m + 1) (pUnitG tx sz U S a) := by
  intro a' ts' h
  unfold pUnitG at h
  split at h
  · match U, hU with
    | none, _ => cases h
    | some (u, c), hU =>
      dsimp only at h
      cases hT : u (sk tx sz a + 1) with
      | inl p => rw [hT] at h; cases h
      | inr q =>
        obtain ⟨b, us⟩ := q
        rw [hT] at h
        cases h
        intro s hs
        rw [tyk_app us _ s (true :: s) ((hU u c rfl).1 _ _ _ hT s hs)]
        simp (decide := true) [tyk, ty1]
  · split at h
    · match U, hU with
      | none, _ => cases h
      | some (u, c), hU =>
        dsimp only at h
        cases hT : c (sk tx sz a + 1) with
        | inl p => rw [hT] at h; cases h
        | inr q =>
          obtain ⟨b, us⟩ := q
          rw [hT] at h
          dsimp only at h
          split at h
          · cases h
            exact (hU u c rfl).2 _ _ _ hT
          · cases h
    · cases hT : S (sk tx sz a) with
      | inl p => rw [hT] at h; cases h
      | inr q =>
        obtain ⟨b, us⟩ := q
        rw [hT] at h
        exact pCmp_ty hS (hS _ _ _ hT) a' ts' h
theorem pAndL_ty {A : Nat → PR} {m : Nat} (hA : ∀ a, tyR true m (A a)) : ∀ (n a : Nat) (ts : List Tk), tyP true (m + 1) ts → tyR true (m + 1) (pAndL tx sz A n a ts)
  | 0, a, ts, ht => fun _ _ h => by cases h; exact ht
  | n + 1, a, ts, ht => by
    intro a' ts' h
    rw [pAndL] at h
    split at h
    · cases hT : A (sk tx sz a + 1) with
      | inl p => rw [hT] at h; cases h
      | inr q =>
        obtain ⟨b, us⟩ := q
        rw [hT] at h
        exact pAndL_ty hA n b _ (ht.two (hA _ _ _ hT) (ty1_lg (Or.inl rfl))) a' ts' h
    · cases h; exact ht
theorem pTruth_ty {A : Nat → PR} {m : Nat} (hA : ∀ a, tyR true m (A a)) (a : Nat) : tyR true (m + 1) (pTruth tx sz A a) := by
  intro a' ts' h
  unfold pTruth at h
  cases hT : A a with
  | inl p => rw [hT] at h; cases h
  | inr q =>
    obtain ⟨b, us⟩ := q
    rw [hT] at h
    exact pAndL_ty hA 240 b us ((hA _ _ _ hT).mono (by omega)) a' ts' h
theorem pOrL_ty {A : Nat → PR} {m : Nat} (hA : ∀ a, tyR true m (A a)) : ∀ (n a : Nat) (ts : List Tk), tyP true (m + 1) ts → tyR true (m + 1) (pOrL tx sz A n a ts)
  | 0, a, ts, ht => fun _ _ h => by cases h; exact ht
  | n + 1, a, ts, ht => by
    intro a' ts' h
    rw [pOrL] at h
    split at h
    · cases hT : A (sk tx sz a + 1) with
      | inl p => rw [hT] at h; cases h
      | inr q =>
        obtain ⟨b, us⟩ := q
        rw [hT] at h
        exact pOrL_ty hA n b _ (ht.two (hA _ _ _ hT) (ty1_lg (Or.inr rfl))) a' ts' h
    · cases h; exact ht
theorem pCondG_ty {A : Nat → PR} {m : Nat} (hA : ∀ a, tyR true m (A a)) (a : Nat) : tyR true (m + 2) (pCondG tx sz A a) := by
  intro a' ts' h
  unfold pCondG at h
  cases hT : pTruth tx sz A a with
  | inl p => rw [hT] at h; cases h
  | inr q =>
    obtain ⟨b, us⟩ := q
    rw [hT] at h
    exact pOrL_ty (fun a => pTruth_ty hA a) 240 b us ((pTruth_ty hA a _ _ hT).mono (by omega)) a' ts' h
theorem tyR.mono {b : Bool} {n m : Nat} {r : PR} (h : tyR b n r) (hn : n ≤ m) : tyR b m r := fun a ts z => (h a ts z).mono hn
theorem pUnit_ty : ∀ (f a : Nat), tyR true (4 + 2 * f) (pUnit tx sz f a)
  | 0, a => pUnitG_ty (m := 3) (fun u c z => by cases z) (fun a => pSum_ty 0 a) a
  | f + 1, a => by
    have h := pUnitG_ty (tx := tx) (sz := sz) (U := some (pUnit tx sz f, pCondG tx sz (pUnit tx sz f))) (S := pSum tx sz (f + 1)) (m := 3 + 2 * (f + 1)) (fun u c z => by
      cases z
      exact ⟨fun a => (pUnit_ty f a).mono (by omega), fun a => (pCondG_ty (m := 4 + 2 * f) (pUnit_ty f) a).mono (by omega)⟩) (fun a => pSum_ty (f + 1) a) a
    rw [show 4 + 2 * (f + 1) = 3 + 2 * (f + 1) + 1 by omega]
    exact h
theorem pSum6_ty {a b : Nat} {ts : List Tk} (h : pSum tx sz 6 a = .inr (b, ts)) : tyk ts [] = some [false] := pSum_ty 6 a b ts h [] (by decide)
theorem pCond6_ty {a b : Nat} {ts : List Tk} (h : pCond tx sz 6 a = .inr (b, ts)) : tyk ts [] = some [true] := pCondG_ty (m := 4 + 2 * 6) (pUnit_ty 6) a b ts h [] (by decide)
end TY
