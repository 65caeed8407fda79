/-! HOW AN ESTATE'S TEXT IS READ: one reader for both sides -/
def ixP (c : Int32) : List Nat → Nat → Option Nat
  | [], _ => none
  | w :: l, j => if c = nI w then some j else ixP c l (j + 1)
def oxI : Option Nat → Int32
  | none => -1
  | some j => nI j
theorem ixP_s : ∀ c, c < 256 → ixL c [119, 99, 108, 114] 0 = oxI (ixP (nI c) [119, 99, 108, 114] 0) := by decide +kernel
theorem ixP_t : ∀ c, c < 256 → ixL c [120, 121, 102, 118, 107] 0 = oxI (ixP (nI c) [120, 121, 102, 118, 107] 0) := by decide +kernel
theorem ixP_g : ∀ c, c < 256 → ixL c [120, 115] 0 = oxI (ixP (nI c) [120, 115] 0) := by decide +kernel
theorem ixP_lt {c : Int32} : ∀ (w : List Nat) (k j : Nat), ixP c w k = some j → k ≤ j ∧ j < k + w.length
  | [], _, _, h => nomatch h
  | x :: l, k, j, h => by
    rw [ixP] at h
    split at h
    · cases h; simp
    · have := ixP_lt l (k + 1) j h
      simp only [List.length_cons]; omega
section ER
variable (tx : Nat → Int32) (sz : Nat)
def pNum (top : Int32) (a : Nat) : Nat ⊕ (Nat × Int32) :=
  if dig (chr tx sz (sk tx sz a)) then (if dig (chr tx sz (rdn tx sz 2 (sk tx sz a) 0).1) then .inl (rdn tx sz 2 (sk tx sz a) 0).1 else if (rdn tx sz 2 (sk tx sz a) 0).2 ≤ top then .inr (rdn tx sz 2 (sk tx sz a) 0) else .inl ((rdn tx sz 2 (sk tx sz a) 0).1 - 1))
  else .inl (sk tx sz a)
/-- a clause's items: letters w, at most T -/
def pIt (w : List Nat) (T : List Int32) : Nat → Nat → Nat → (Nat → Int32) → Nat ⊕ (Nat × (Nat → Int32))
  | 0, a, _, _ => .inl a
  | n + 1, a, g, f => if chr tx sz (sk tx sz a) = -1 ∨ chr tx sz (sk tx sz a) = 59 then .inr (sk tx sz a, f) else match ixP (chr tx sz (sk tx sz a)) w 0 with
    | none => .inl (sk tx sz a)
    | some j => if g.testBit j then .inl (sk tx sz a) else match pNum tx sz (T.getD j 0) (sk tx sz a + 1) with
      | .inl p => .inl p
      | .inr (b, v) => pIt w T n b (g ||| 2 ^ j) (upd f j v)
def pIs (a : Nat) : Nat ⊕ (Nat × (Nat → Int32)) := pIt tx sz [119, 99, 108, 114] [8, 99, 9, 9] 5 a 0 (fun i => ([4, 20, 0, 9] : List Int32).getD i 0)
def pItt (a : Nat) : Nat ⊕ (Nat × (Nat → Int32)) := pIt tx sz [120, 121, 102, 118, 107] [9, 9, 8, 9, 3] 6 a 0 (fun i => ([0, 0, 4, 3, 0] : List Int32).getD i 0)
def pIg (a : Nat) : Nat ⊕ (Nat × (Nat → Int32)) := pIt tx sz [120, 115] [9, 9] 3 a 0 (fun i => ([0, 5] : List Int32).getD i 0)
/-- these k at the place n -/
def wrk (k : Nat) (T : Nat → Int32) (n : Nat) (f : Nat → Int32) : Nat → Int32 := fun i => if k * n ≤ i ∧ i < k * n + k then f (i - k * n) else T i
abbrev ES : Type := (Nat → Int32) × Nat × (Nat → Int32) × Nat × (Nat → Int32)
def pEnd (b : Nat) (e : ES) : Nat ⊕ ES := if 0 < e.2.1 ∧ 0 < e.2.2.2.1 ∧ e.1 2 ≤ e.1 3 then .inr e else .inl b
/-- a clause -/
def pEc (a : Nat) (rl : Bool) (e : ES) : Nat ⊕ (Nat × Bool × ES) :=
  if chr tx sz (sk tx sz a) = 115 then (if rl then .inl (sk tx sz a) else match pIs tx sz (sk tx sz a + 1) with
    | .inl p => .inl p
    | .inr (b, f) => .inr (b, true, f, e.2))
  else if chr tx sz (sk tx sz a) = 116 then (if 7 ≤ e.2.1 then .inl (sk tx sz a) else match pItt tx sz (sk tx sz a + 1) with
    | .inl p => .inl p
    | .inr (b, f) => .inr (b, rl, e.1, e.2.1 + 1, wrk 5 e.2.2.1 e.2.1 f, e.2.2.2))
  else if chr tx sz (sk tx sz a) = 103 then (if 5 ≤ e.2.2.2.1 then .inl (sk tx sz a) else match pIg tx sz (sk tx sz a + 1) with
    | .inl p => .inl p
    | .inr (b, f) => .inr (b, rl, e.1, e.2.1, e.2.2.1, e.2.2.2.1 + 1, wrk 2 e.2.2.2.2 e.2.2.2.1 f))
  else .inl (sk tx sz a)
def pEst : Nat → Nat → Bool → ES → Nat ⊕ ES
  | 0, a, _, _ => .inl a
  | n + 1, a, rl, e => match pEc tx sz a rl e with
    | .inl p => .inl p
    | .inr (b, rl', e') => if chr tx sz b = -1 then pEnd b e' else pEst n (b + 1) rl' e'
def pEstate : Nat ⊕ ES := pEst tx sz 240 0 false (fun i => ([4, 20, 0, 9] : List Int32).getD i 0, 0, fun _ => 0, 0, fun _ => 0)
end ER
section ER2
variable {tx : Nat → Int32} {sz : Nat}
theorem pNum_ok {top : Int32} {a b : Nat} {v : Int32} (ha : a ≤ sz) (h : pNum tx sz top a = .inr (b, v)) : a < b ∧ b ≤ sz ∧ v ≤ top ∧ ∃ y, y < 100 ∧ v = nI y := by
  unfold pNum at h
  have h1 := sk_le (tx := tx) (sz := sz) a
  have h2 := sk_sz (tx := tx) ha
  split at h
  · rename_i hd
    split at h
    · cases h
    · split at h
      · rename_i hv
        obtain ⟨y, hy, e⟩ := rdn_val (tx := tx) (sz := sz) 2 0 (sk tx sz a) 0 (by decide) (by decide)
        rw [show (nI 0 : Int32) = 0 from rfl] at e
        have h3 : sk tx sz a < (rdn tx sz 2 (sk tx sz a) 0).1 := rdn_lt (n := 1) (v := 0) hd
        have h4 := rdn_ok (tx := tx) (sz := sz) 2 (sk tx sz a) 0 h2
        generalize rdn tx sz 2 (sk tx sz a) 0 = r at *
        cases h
        exact ⟨by omega, h4.2, hv, y, by omega, e⟩
      · cases h
  · cases h
theorem pIt_ok {w : List Nat} {T : List Int32} : ∀ (n a g : Nat) (f f' : Nat → Int32) (b : Nat), a ≤ sz → pIt tx sz w T n a g f = .inr (b, f') → a ≤ b ∧ b ≤ sz ∧ sk tx sz b = b ∧ (chr tx sz b = -1 ∨ chr tx sz b = 59) ∧ ((∀ i, i < w.length → 0 ≤ f i ∧ f i ≤ T.getD i 0) → ∀ i, i < w.length → 0 ≤ f' i ∧ f' i ≤ T.getD i 0)
  | 0, a, g, f, f', b, ha, h => by rw [pIt] at h; cases h
  | n + 1, a, g, f, f', b, ha, h => by
    rw [pIt] at h
    have h1 := sk_le (tx := tx) (sz := sz) a
    have h2 := sk_sz (tx := tx) ha
    split at h
    · rename_i hc
      cases h
      exact ⟨h1, h2, sk_sk a, hc, fun z => z⟩
    · rename_i hc
      have hlt : sk tx sz a < sz := chr_lt (tx := tx) (fun z => hc (Or.inl z))
      split at h
      · cases h
      · rename_i j hj
        split at h
        · cases h
        · split at h
          · cases h
          · rename_i b1 v hn
            obtain ⟨k1, k2, k3, y, k4, k5⟩ := pNum_ok (by omega) hn
            obtain ⟨i1, i2, i3, i4, i5⟩ := pIt_ok n b1 _ _ f' b k2 h
            refine ⟨by omega, i2, i3, i4, fun hf => i5 (fun i hi => ?_)⟩
            by_cases e : i = j
            · subst e; rw [us]; exact ⟨by rw [k5]; exact nI_le (a := 0) (Nat.zero_le _) (by omega), k3⟩
            · rw [un e]; exact hf i hi
theorem pEc_ok {a b : Nat} {rl rl' : Bool} {e e' : ES} (ha : a ≤ sz) (h : pEc tx sz a rl e = .inr (b, rl', e')) : a < b ∧ b ≤ sz ∧ sk tx sz b = b ∧ (chr tx sz b = -1 ∨ chr tx sz b = 59) := by
  have h1 := sk_le (tx := tx) (sz := sz) a
  unfold pEc at h
  have go : ∀ {w T n f f' b}, ¬ chr tx sz (sk tx sz a) = -1 → pIt tx sz w T n (sk tx sz a + 1) 0 f = .inr (b, f') → a < b ∧ b ≤ sz ∧ sk tx sz b = b ∧ (chr tx sz b = -1 ∨ chr tx sz b = 59) := by
    intro w T n f f' b hc hi
    have hlt : sk tx sz a < sz := chr_lt (tx := tx) hc
    obtain ⟨i1, i2, i3, i4, _⟩ := pIt_ok n _ _ _ _ _ (by omega) hi
    exact ⟨by omega, i2, i3, i4⟩
  split at h
  · rename_i hc
    split at h
    · cases h
    · split at h
      · cases h
      · rename_i hi; cases h; exact go (by rw [hc]; decide) hi
  · split at h
    · rename_i hc
      split at h
      · cases h
      · split at h
        · cases h
        · rename_i hi; cases h; exact go (by rw [hc]; decide) hi
    · split at h
      · rename_i hc
        split at h
        · cases h
        · split at h
          · cases h
          · rename_i hi; cases h; exact go (by rw [hc]; decide) hi
      · cases h
end ER2
