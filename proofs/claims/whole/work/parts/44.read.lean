/-! HOW A TEXT IS READ: one reader for both sides. A position, or a fault's position -/
def chr (tx : Nat → Int32) (sz a : Nat) : Int32 := if a < sz then tx a else -1
def skp (tx : Nat → Int32) (sz : Nat) : Nat → Nat → Nat
  | 0, a => a
  | n + 1, a => if chr tx sz a = 32 then skp tx sz n (a + 1) else a
/-- the next sign that is no space -/
def sk (tx : Nat → Int32) (sz a : Nat) : Nat := skp tx sz (sz - a) a
abbrev Tk : Type := Int32 × Int32
abbrev PR : Type := Nat ⊕ (Nat × List Tk)
abbrev dig (c : Int32) : Prop := 48 ≤ c ∧ c ≤ 57
def letr (c : Int32) : Int32 := if c = 118 then 0 else if c = 107 then 1 else if c = 100 then 2 else if c = 115 then 3 else if c = 109 then 4 else if c = 110 then 5 else -1
abbrev sgn (c : Int32) : Prop := c = 61 ∨ c = 60 ∨ c = 62
/-- digits: how far, and the number -/
def rdn (tx : Nat → Int32) (sz : Nat) : Nat → Nat → Int32 → Nat × Int32
  | 0, a, v => (a, v)
  | n + 1, a, v => if dig (chr tx sz a) then rdn tx sz n (a + 1) (10 * v + chr tx sz a - 48) else (a, v)
section RD
variable (tx : Nat → Int32) (sz : Nat)
def pAtom (S : Option (Nat → PR)) (a : Nat) : PR :=
  if dig (chr tx sz (sk tx sz a)) then (if dig (chr tx sz (rdn tx sz 4 (sk tx sz a) 0).1) then .inl (rdn tx sz 4 (sk tx sz a) 0).1 else .inr ((rdn tx sz 4 (sk tx sz a) 0).1, [(0, (rdn tx sz 4 (sk tx sz a) 0).2)]))
  else if ¬ letr (chr tx sz (sk tx sz a)) = -1 then .inr (sk tx sz a + 1, [(1, letr (chr tx sz (sk tx sz a)))])
  else if chr tx sz (sk tx sz a) = 91 then (match S with
    | none => .inl (sk tx sz a)
    | some S => match S (sk tx sz a + 1) with
      | .inl p => .inl p
      | .inr (b, ts) => if chr tx sz (sk tx sz b) = 93 then .inr (sk tx sz b + 1, ts) else .inl (sk tx sz b))
  else .inl (sk tx sz a)
def pTermL (A : Nat → PR) : Nat → Nat → List Tk → PR
  | 0, a, ts => .inr (a, ts)
  | n + 1, a, ts => if chr tx sz (sk tx sz a) = 42 ∨ chr tx sz (sk tx sz a) = 47 then (match A (sk tx sz a + 1) with
      | .inl p => .inl p
      | .inr (b, us) => pTermL A n b (ts ++ us ++ [(if chr tx sz (sk tx sz a) = 42 then 4 else 5, 0)]))
    else .inr (sk tx sz a, ts)
def pTerm (A : Nat → PR) (a : Nat) : PR := match A a with
  | .inl p => .inl p
  | .inr (b, ts) => pTermL tx sz A 240 b ts
def pSumL (T : Nat → PR) : Nat → Nat → List Tk → PR
  | 0, a, ts => .inr (a, ts)
  | n + 1, a, ts => if chr tx sz (sk tx sz a) = 43 ∨ chr tx sz (sk tx sz a) = 45 then (match T (sk tx sz a + 1) with
      | .inl p => .inl p
      | .inr (b, us) => pSumL T n b (ts ++ us ++ [(if chr tx sz (sk tx sz a) = 43 then 2 else 3, 0)]))
    else .inr (sk tx sz a, ts)
def pSumG (T : Nat → PR) (a : Nat) : PR := match T a with
  | .inl p => .inl p
  | .inr (b, ts) => pSumL tx sz T 240 b ts
/-- a sum, with f levels of brackets still to be had -/
def pSum : Nat → Nat → PR
  | 0, a => pSumG tx sz (pTerm tx sz (pAtom tx sz none)) a
  | f + 1, a => pSumG tx sz (pTerm tx sz (pAtom tx sz (some (pSum f)))) a
def pAtomF : Nat → Nat → PR
  | 0 => pAtom tx sz none
  | f + 1 => pAtom tx sz (some (pSum tx sz f))
theorem pSum_is (f a : Nat) : pSum tx sz f a = pSumG tx sz (pTerm tx sz (pAtomF tx sz f)) a := by cases f <;> rfl
def pCmp (S : Nat → PR) (a : Nat) (ts : List Tk) : PR := if sgn (chr tx sz (sk tx sz a)) then (match S (sk tx sz a + 1) with
    | .inl p => .inl p
    | .inr (b, us) => .inr (b, ts ++ us ++ [(if chr tx sz (sk tx sz a) = 61 then 6 else if chr tx sz (sk tx sz a) = 60 then 7 else 8, 0)]))
  else .inl (sk tx sz a)
def pUnitG (U : Option ((Nat → PR) × (Nat → PR))) (S : Nat → PR) (a : Nat) : PR :=
  if chr tx sz (sk tx sz a) = 33 then (match U with
    | none => .inl (sk tx sz a)
    | some (u, _) => match u (sk tx sz a + 1) with
      | .inl p => .inl p
      | .inr (b, ts) => .inr (b, ts ++ [(9, 0)]))
  else if chr tx sz (sk tx sz a) = 40 then (match U with
    | none => .inl (sk tx sz a)
    | some (_, c) => match c (sk tx sz a + 1) with
      | .inl p => .inl p
      | .inr (b, ts) => if chr tx sz (sk tx sz b) = 41 then .inr (sk tx sz b + 1, ts) else .inl (sk tx sz b))
  else match S (sk tx sz a) with
    | .inl p => .inl p
    | .inr (b, ts) => pCmp tx sz S b ts
def pAndL (u : Nat → PR) : Nat → Nat → List Tk → PR
  | 0, a, ts => .inr (a, ts)
  | n + 1, a, ts => if chr tx sz (sk tx sz a) = 38 then (match u (sk tx sz a + 1) with
      | .inl p => .inl p
      | .inr (b, us) => pAndL u n b (ts ++ us ++ [(10, 0)]))
    else .inr (sk tx sz a, ts)
/-- units, all of them -/
def pTruth (u : Nat → PR) (a : Nat) : PR := match u a with
  | .inl p => .inl p
  | .inr (b, ts) => pAndL tx sz u 240 b ts
def pOrL (t : Nat → PR) : Nat → Nat → List Tk → PR
  | 0, a, ts => .inr (a, ts)
  | n + 1, a, ts => if chr tx sz (sk tx sz a) = 124 then (match t (sk tx sz a + 1) with
      | .inl p => .inl p
      | .inr (b, us) => pOrL t n b (ts ++ us ++ [(11, 0)]))
    else .inr (sk tx sz a, ts)
def pCondG (u : Nat → PR) (a : Nat) : PR := match pTruth tx sz u a with
  | .inl p => .inl p
  | .inr (b, ts) => pOrL tx sz (pTruth tx sz u) 240 b ts
def pUnit : Nat → Nat → PR
  | 0 => pUnitG tx sz none (pSum tx sz 0)
  | f + 1 => pUnitG tx sz (some (pUnit f, pCondG tx sz (pUnit f))) (pSum tx sz (f + 1))
def pCond (f : Nat) : Nat → PR := pCondG tx sz (pUnit tx sz f)
/-- a clause: where it ends; its test, if it has one; its sum -/
abbrev CR : Type := Nat ⊕ (Nat × List Tk × List Tk)
def pWorth (a : Nat) (ts : List Tk) : CR := if chr tx sz (sk tx sz a) = 63 then (match pSum tx sz 6 (sk tx sz a + 1) with
    | .inl p => .inl p
    | .inr (b, us) => .inr (b, ts, us))
  else .inl (sk tx sz a)
def pTest (a : Nat) : CR := match pCond tx sz 6 a with
  | .inl p => .inl p
  | .inr (b, ts) => pWorth tx sz b ts
def pBody (a : Nat) : CR := if chr tx sz (sk tx sz a) = 33 ∨ chr tx sz (sk tx sz a) = 40 then pTest tx sz (sk tx sz a)
  else match pSum tx sz 6 (sk tx sz a) with
    | .inl p => .inl p
    | .inr (b, ts) => if sgn (chr tx sz (sk tx sz b)) then pTest tx sz (sk tx sz a) else .inr (sk tx sz b, [], ts)
def pClause (a : Nat) : CR := if chr tx sz (sk tx sz a) = 121 then (if chr tx sz (sk tx sz (sk tx sz a + 1)) = 58 then pBody tx sz (sk tx sz (sk tx sz a + 1) + 1) else .inl (sk tx sz (sk tx sz a + 1))) else .inl (sk tx sz a)
/-- clauses: a fault, or all of them -/
def pLawL : Nat → Nat → List (List Tk × List Tk) → Nat ⊕ List (List Tk × List Tk)
  | 0, a, _ => .inl a
  | n + 1, a, cs => match pClause tx sz a with
    | .inl p => .inl p
    | .inr (b, t, s) => if chr tx sz (sk tx sz b) = -1 then .inr (cs ++ [(t, s)]) else if chr tx sz (sk tx sz b) = 59 then pLawL n (sk tx sz b + 1) (cs ++ [(t, s)]) else .inl (sk tx sz b)
def pLaw : Nat ⊕ List (List Tk × List Tk) := pLawL tx sz 240 0 []
end RD
section RL
variable {tx : Nat → Int32} {sz : Nat}
theorem chr_lt {a : Nat} (h : ¬ chr tx sz a = -1) : a < sz := by
  unfold chr at h
  split at h
  · assumption
  · exact absurd rfl h
theorem chr_ge {a : Nat} (h : sz ≤ a) : chr tx sz a = -1 := if_neg (by omega)
theorem skp_le : ∀ (n a : Nat), a ≤ skp tx sz n a
  | 0, a => Nat.le_refl _
  | n + 1, a => by
    rw [skp]; split
    · exact Nat.le_trans (Nat.le_succ a) (skp_le n (a + 1))
    · exact Nat.le_refl _
theorem skp_sz : ∀ (n a : Nat), a ≤ sz → skp tx sz n a ≤ sz
  | 0, a, h => h
  | n + 1, a, h => by
    rw [skp]; split
    · rename_i hc
      have := chr_lt (tx := tx) (sz := sz) (a := a) (by rw [hc]; decide)
      exact skp_sz n (a + 1) (by omega)
    · exact h
theorem skp_no : ∀ (n a : Nat), sz - a ≤ n → ¬ chr tx sz (skp tx sz n a) = 32
  | 0, a, h => by rw [skp, chr_ge (by omega)]; decide
  | n + 1, a, h => by
    rw [skp]; split
    · exact skp_no n (a + 1) (by omega)
    · assumption
theorem sk_le (a : Nat) : a ≤ sk tx sz a := skp_le _ _
theorem sk_sz {a : Nat} (h : a ≤ sz) : sk tx sz a ≤ sz := skp_sz _ _ h
theorem sk_no (a : Nat) : ¬ chr tx sz (sk tx sz a) = 32 := skp_no _ _ (Nat.le_refl _)
theorem sk_ge {a : Nat} (h : sz ≤ a) : sk tx sz a = a := by rw [sk, show sz - a = 0 by omega, skp]
theorem sk_at {a : Nat} (h : ¬ chr tx sz a = 32) : sk tx sz a = a := by
  rw [sk]
  cases sz - a with
  | zero => rfl
  | succ n => rw [skp, if_neg h]
theorem sk_sk (a : Nat) : sk tx sz (sk tx sz a) = sk tx sz a := sk_at (sk_no a)
theorem sk_32 {a : Nat} (h : chr tx sz a = 32) : sk tx sz a = sk tx sz (a + 1) := by
  have := chr_lt (tx := tx) (sz := sz) (a := a) (by rw [h]; decide)
  rw [sk, show sz - a = (sz - (a + 1)) + 1 by omega, skp, if_pos h, sk]
/-- a reader's answer is within the text, and gives no more tokens than it passes signs -/
def okR (sz a : Nat) (r : PR) : Prop := match r with
  | .inl p => p ≤ sz
  | .inr (b, ts) => a < b ∧ b ≤ sz ∧ ts.length ≤ b - a
theorem rdn_ok : ∀ (n a : Nat) (v : Int32), a ≤ sz → a ≤ (rdn tx sz n a v).1 ∧ (rdn tx sz n a v).1 ≤ sz
  | 0, a, v, h => ⟨Nat.le_refl _, h⟩
  | n + 1, a, v, h => by
    rw [rdn]; split
    · rename_i hd
      have := chr_lt (tx := tx) (sz := sz) (a := a) (by rintro z; rw [z] at hd; exact absurd hd (by decide))
      have := rdn_ok n (a + 1) (10 * v + chr tx sz a - 48) (by omega)
      omega
    · exact ⟨Nat.le_refl _, h⟩
theorem rdn_lt {n a : Nat} {v : Int32} (h : dig (chr tx sz a)) : a < (rdn tx sz (n + 1) a v).1 := by
  rw [rdn, if_pos h]
  have h2 := chr_lt (tx := tx) (sz := sz) (a := a) (by rintro z; rw [z] at h; exact absurd h (by decide))
  have := rdn_ok (tx := tx) n (a + 1) (10 * v + chr tx sz a - 48) (show a + 1 ≤ sz by omega)
  omega
theorem pAtom_ok {S : Option (Nat → PR)} (hS : ∀ T, S = some T → ∀ a, a ≤ sz → okR sz a (T a)) {a : Nat} (ha : a ≤ sz) : okR sz a (pAtom tx sz S a) := by
  have h1 := sk_le (tx := tx) (sz := sz) a
  have h2 := sk_sz (tx := tx) ha
  unfold pAtom
  split
  · rename_i hd
    have h3 : sk tx sz a < (rdn tx sz 4 (sk tx sz a) 0).1 := rdn_lt (n := 3) (v := 0) hd
    have h4 := rdn_ok (tx := tx) (sz := sz) 4 (sk tx sz a) 0 h2
    split
    · exact h4.2
    · exact ⟨by omega, h4.2, by simp; omega⟩
  · split
    · rename_i hl
      have h3 : sk tx sz a < sz := chr_lt (fun z => hl (by rw [z]; decide))
      exact ⟨by omega, by omega, by simp; omega⟩
    · split
      · rename_i hb
        have h3 : sk tx sz a < sz := chr_lt (tx := tx) (by rw [hb]; decide)
        cases S with
        | none => exact h2
        | some T =>
          have := hS T rfl (sk tx sz a + 1) (by omega)
          dsimp only
          cases hT : T (sk tx sz a + 1) with
          | inl p => rw [hT] at this; exact this
          | inr q =>
            obtain ⟨b, ts⟩ := q
            rw [hT] at this
            obtain ⟨g1, g2, g3⟩ := this
            have h4 := sk_le (tx := tx) (sz := sz) b
            have h5 := sk_sz (tx := tx) g2
            dsimp only
            split
            · rename_i hc
              have h6 : sk tx sz b < sz := chr_lt (tx := tx) (by rw [hc]; decide)
              exact ⟨by omega, by omega, by omega⟩
            · exact h5
      · exact h2
theorem pTermL_ok {A : Nat → PR} (hA : ∀ a, a ≤ sz → okR sz a (A a)) {a0 : Nat} : ∀ (n a : Nat) (ts : List Tk), a0 < a → a ≤ sz → ts.length ≤ a - a0 → okR sz a0 (pTermL tx sz A n a ts)
  | 0, a, ts, h0, h, hl => ⟨h0, h, hl⟩
  | n + 1, a, ts, h0, h, hl => by
    have h1 := sk_le (tx := tx) (sz := sz) a
    have h2 := sk_sz (tx := tx) h
    rw [pTermL]
    split
    · rename_i hc
      have h3 : sk tx sz a < sz := chr_lt (tx := tx) (by rcases hc with z | z <;> (rw [z]; decide))
      have := hA (sk tx sz a + 1) (by omega)
      cases hT : A (sk tx sz a + 1) with
      | inl p => rw [hT] at this; exact this
      | inr q =>
        obtain ⟨b, us⟩ := q
        rw [hT] at this
        obtain ⟨g1, g2, g3⟩ := this
        exact pTermL_ok hA n b _ (by omega) g2 (by simp; omega)
    · exact ⟨by omega, h2, by omega⟩
theorem pTerm_ok {A : Nat → PR} (hA : ∀ a, a ≤ sz → okR sz a (A a)) {a : Nat} (ha : a ≤ sz) : okR sz a (pTerm tx sz A a) := by
  unfold pTerm
  have := hA a ha
  cases hT : A a with
  | inl p => rw [hT] at this; exact this
  | inr q =>
    obtain ⟨b, us⟩ := q
    rw [hT] at this
    exact pTermL_ok hA 240 b us this.1 this.2.1 this.2.2
theorem pSumL_ok {A : Nat → PR} (hA : ∀ a, a ≤ sz → okR sz a (A a)) {a0 : Nat} : ∀ (n a : Nat) (ts : List Tk), a0 < a → a ≤ sz → ts.length ≤ a - a0 → okR sz a0 (pSumL tx sz A n a ts)
  | 0, a, ts, h0, h, hl => ⟨h0, h, hl⟩
  | n + 1, a, ts, h0, h, hl => by
    have h1 := sk_le (tx := tx) (sz := sz) a
    have h2 := sk_sz (tx := tx) h
    rw [pSumL]
    split
    · rename_i hc
      have h3 : sk tx sz a < sz := chr_lt (tx := tx) (by rcases hc with z | z <;> (rw [z]; decide))
      have := hA (sk tx sz a + 1) (by omega)
      cases hT : A (sk tx sz a + 1) with
      | inl p => rw [hT] at this; exact this
      | inr q =>
        obtain ⟨b, us⟩ := q
        rw [hT] at this
        obtain ⟨g1, g2, g3⟩ := this
        exact pSumL_ok hA n b _ (by omega) g2 (by simp; omega)
    · exact ⟨by omega, h2, by omega⟩
theorem pSumG_ok {A : Nat → PR} (hA : ∀ a, a ≤ sz → okR sz a (A a)) {a : Nat} (ha : a ≤ sz) : okR sz a (pSumG tx sz A a) := by
  unfold pSumG
  have := hA a ha
  cases hT : A a with
  | inl p => rw [hT] at this; exact this
  | inr q =>
    obtain ⟨b, us⟩ := q
    rw [hT] at this
    exact pSumL_ok hA 240 b us this.1 this.2.1 this.2.2
theorem pSum_ok : ∀ (f a : Nat), a ≤ sz → okR sz a (pSum tx sz f a)
  | 0, a, h => pSumG_ok (fun a h => pTerm_ok (fun a h => pAtom_ok (fun T z => by cases z) h) h) h
  | f + 1, a, h => pSumG_ok (fun a h => pTerm_ok (fun a h => pAtom_ok (fun T z => by cases z; exact pSum_ok f) h) h) h
theorem pAtomF_ok : ∀ (f a : Nat), a ≤ sz → okR sz a (pAtomF tx sz f a)
  | 0, a, h => pAtom_ok (tx := tx) (S := none) (fun T z => by cases z) h
  | f + 1, a, h => pAtom_ok (tx := tx) (S := some (pSum tx sz f)) (fun T z => by cases z; exact pSum_ok f) h
theorem pCmp_ok {S : Nat → PR} (hS : ∀ a, a ≤ sz → okR sz a (S a)) {a0 a : Nat} {ts : List Tk} (h0 : a0 < a) (h : a ≤ sz) (hl : ts.length ≤ a - a0) : okR sz a0 (pCmp tx sz S a ts) := by
  have h1 := sk_le (tx := tx) (sz := sz) a
  have h2 := sk_sz (tx := tx) h
  unfold pCmp
  split
  · rename_i hc
    have h3 : sk tx sz a < sz := chr_lt (tx := tx) (by intro z; rw [z] at hc; revert hc; decide)
    have := hS (sk tx sz a + 1) (by omega)
    cases hT : S (sk tx sz a + 1) with
    | inl p => rw [hT] at this; exact this
    | inr q =>
      obtain ⟨b, us⟩ := q
      rw [hT] at this
      obtain ⟨g1, g2, g3⟩ := this
      exact ⟨by omega, g2, by simp; omega⟩
  · exact h2
theorem pUnitG_ok {U : Option ((Nat → PR) × (Nat → PR))} {S : Nat → PR} (hU : ∀ u c, U = some (u, c) → (∀ a, a ≤ sz → okR sz a (u a)) ∧ ∀ a, a ≤ sz → okR sz a (c a)) (hS : ∀ a, a ≤ sz → okR sz a (S a)) {a : Nat} (ha : a ≤ sz) : okR sz a (pUnitG tx sz U S a) := by
  have h1 := sk_le (tx := tx) (sz := sz) a
  have h2 := sk_sz (tx := tx) ha
  unfold pUnitG
  split
  · rename_i hb
    have h3 : sk tx sz a < sz := chr_lt (tx := tx) (by rw [hb]; decide)
    match U, hU with
    | none, _ => exact h2
    | some (u, c), hU =>
      have := (hU u c rfl).1 (sk tx sz a + 1) (by omega)
      dsimp only
      cases hT : u (sk tx sz a + 1) with
      | inl p => rw [hT] at this; exact this
      | inr q =>
        obtain ⟨b, ts⟩ := q
        rw [hT] at this
        obtain ⟨g1, g2, g3⟩ := this
        exact ⟨by omega, g2, by simp; omega⟩
  · split
    · rename_i hb
      have h3 : sk tx sz a < sz := chr_lt (tx := tx) (by rw [hb]; decide)
      match U, hU with
      | none, _ => exact h2
      | some (u, c), hU =>
        have := (hU u c rfl).2 (sk tx sz a + 1) (by omega)
        dsimp only
        cases hT : c (sk tx sz a + 1) with
        | inl p => rw [hT] at this; exact this
        | inr q =>
          obtain ⟨b, ts⟩ := q
          rw [hT] at this
          obtain ⟨g1, g2, g3⟩ := this
          have h4 := sk_le (tx := tx) (sz := sz) b
          have h5 := sk_sz (tx := tx) g2
          dsimp only
          split
          · rename_i hc
            have h6 : sk tx sz b < sz := chr_lt (tx := tx) (by rw [hc]; decide)
            exact ⟨by omega, by omega, by omega⟩
          · exact h5
    · have := hS (sk tx sz a) h2
      cases hT : S (sk tx sz a) with
      | inl p => rw [hT] at this; exact this
      | inr q =>
        obtain ⟨b, ts⟩ := q
        rw [hT] at this
        exact pCmp_ok hS (by have := this.1; omega) this.2.1 (by have := this.2.2; omega)
theorem pAndL_ok {A : Nat → PR} (hA : ∀ a, a ≤ sz → okR sz a (A a)) {a0 : Nat} : ∀ (n a : Nat) (ts : List Tk), a0 < a → a ≤ sz → ts.length ≤ a - a0 → okR sz a0 (pAndL tx sz A n a ts)
  | 0, a, ts, h0, h, hl => ⟨h0, h, hl⟩
  | n + 1, a, ts, h0, h, hl => by
    have h1 := sk_le (tx := tx) (sz := sz) a
    have h2 := sk_sz (tx := tx) h
    rw [pAndL]
    split
    · rename_i hc
      have h3 : sk tx sz a < sz := chr_lt (tx := tx) (by rw [hc]; decide)
      have := hA (sk tx sz a + 1) (by omega)
      cases hT : A (sk tx sz a + 1) with
      | inl p => rw [hT] at this; exact this
      | inr q =>
        obtain ⟨b, us⟩ := q
        rw [hT] at this
        obtain ⟨g1, g2, g3⟩ := this
        exact pAndL_ok hA n b _ (by omega) g2 (by simp; omega)
    · exact ⟨by omega, h2, by omega⟩
theorem pTruth_ok {A : Nat → PR} (hA : ∀ a, a ≤ sz → okR sz a (A a)) {a : Nat} (ha : a ≤ sz) : okR sz a (pTruth tx sz A a) := by
  unfold pTruth
  have := hA a ha
  cases hT : A a with
  | inl p => rw [hT] at this; exact this
  | inr q =>
    obtain ⟨b, us⟩ := q
    rw [hT] at this
    exact pAndL_ok hA 240 b us this.1 this.2.1 this.2.2
theorem pOrL_ok {A : Nat → PR} (hA : ∀ a, a ≤ sz → okR sz a (A a)) {a0 : Nat} : ∀ (n a : Nat) (ts : List Tk), a0 < a → a ≤ sz → ts.length ≤ a - a0 → okR sz a0 (pOrL tx sz A n a ts)
  | 0, a, ts, h0, h, hl => ⟨h0, h, hl⟩
  | n + 1, a, ts, h0, h, hl => by
    have h1 := sk_le (tx := tx) (sz := sz) a
    have h2 := sk_sz (tx := tx) h
    rw [pOrL]
    split
    · rename_i hc
      have h3 : sk tx sz a < sz := chr_lt (tx := tx) (by rw [hc]; decide)
      have := hA (sk tx sz a + 1) (by omega)
      cases hT : A (sk tx sz a + 1) with
      | inl p => rw [hT] at this; exact this
      | inr q =>
        obtain ⟨b, us⟩ := q
        rw [hT] at this
        obtain ⟨g1, g2, g3⟩ := this
        exact pOrL_ok hA n b _ (by omega) g2 (by simp; omega)
    · exact ⟨by omega, h2, by omega⟩
theorem pCondG_ok {A : Nat → PR} (hA : ∀ a, a ≤ sz → okR sz a (A a)) {a : Nat} (ha : a ≤ sz) : okR sz a (pCondG tx sz A a) := by
  unfold pCondG
  have := pTruth_ok (tx := tx) hA ha
  cases hT : pTruth tx sz A a with
  | inl p => rw [hT] at this; exact this
  | inr q =>
    obtain ⟨b, us⟩ := q
    rw [hT] at this
    exact pOrL_ok (fun a h => pTruth_ok hA h) 240 b us this.1 this.2.1 this.2.2
theorem pUnit_ok : ∀ (f a : Nat), a ≤ sz → okR sz a (pUnit tx sz f a)
  | 0, a, h => pUnitG_ok (fun u c z => by cases z) (fun a h => pSum_ok 0 a h) h
  | f + 1, a, h => pUnitG_ok (fun u c z => by cases z; exact ⟨pUnit_ok f, fun a h => pCondG_ok (pUnit_ok f) h⟩) (fun a h => pSum_ok (f + 1) a h) h
theorem pCond_ok (f : Nat) {a : Nat} (h : a ≤ sz) : okR sz a (pCond tx sz f a) := pCondG_ok (pUnit_ok f) h
end RL
