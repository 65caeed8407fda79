-- from kit/laws/COUNTS.to-paste (a starting text)
theorem fb_holes : ∀ (m n : Nat) (f : Nat → Nat), (∀ i, i < n → f i < m) → (∀ i j, i < j → j < n → f i ≠ f j) → n ≤ m := by
  intro m
  induction m with
  | zero =>
    intro n f h1 _
    rcases Nat.eq_zero_or_pos n with h | h
    · omega
    · exact absurd (h1 0 h) (Nat.not_lt_zero _)
  | succ m ih =>
    intro n f h1 h2
    by_cases hx : ∃ i, i < n ∧ f i = m
    · obtain ⟨a, ha, hfa⟩ := hx
      have hg := ih (n - 1) (fun i => if i < a then f i else f (i + 1)) (by
        intro i hi
        by_cases q : i < a
        · simp only [if_pos q]
          have b1 := h1 i (by omega)
          have b2 := h2 i a q ha
          omega
        · simp only [if_neg q]
          have b1 := h1 (i + 1) (by omega)
          have b2 := h2 a (i + 1) (by omega) (by omega)
          omega) (by
        intro i j hij hj
        by_cases q : i < a
        · by_cases r : j < a
          · simp only [if_pos q, if_pos r]
            exact h2 i j hij (by omega)
          · simp only [if_pos q, if_neg r]
            exact h2 i (j + 1) (by omega) (by omega)
        · have r : ¬ j < a := by omega
          simp only [if_neg q, if_neg r]
          exact h2 (i + 1) (j + 1) (by omega) (by omega))
      omega
    · have hg := ih n f (fun i hi => by
        have b1 := h1 i hi
        have b2 : f i ≠ m := fun e => hx ⟨i, hi, e⟩
        omega) h2
      omega
/-- those below n of which p holds, in order -/
def rin (p : Nat → Bool) : Nat → List Nat
  | 0 => []
  | t + 1 => rin p t ++ (if p t = true then [t] else [])
/-- minute by minute -/
def rout (p : Nat → Nat → Bool) (tn : Nat) : Nat → List Nat
  | 0 => []
  | m + 1 => rout p tn m ++ rin (fun t => p t m) tn
theorem rin_mem {p : Nat → Bool} {x : Nat} : ∀ {n : Nat}, x ∈ rin p n ↔ x < n ∧ p x = true
  | 0 => by simp [rin]
  | n + 1 => by
    rw [rin, List.mem_append, rin_mem]
    constructor
    · rintro (⟨h1, h2⟩ | h)
      · exact ⟨by omega, h2⟩
      · split at h
        · simp at h; subst h; exact ⟨by omega, by assumption⟩
        · simp at h
    · rintro ⟨h1, h2⟩
      by_cases hx : x = n
      · subst hx; right; rw [if_pos h2]; simp
      · left; exact ⟨by omega, h2⟩
theorem rout_mem {p : Nat → Nat → Bool} {tn x : Nat} : ∀ {m : Nat}, x ∈ rout p tn m ↔ x < tn ∧ ∃ k, k < m ∧ p x k = true
  | 0 => by simp [rout]
  | m + 1 => by
    rw [rout, List.mem_append, rout_mem, rin_mem]
    constructor
    · rintro (⟨h1, k, h2, h3⟩ | ⟨h1, h2⟩)
      · exact ⟨h1, k, by omega, h3⟩
      · exact ⟨h1, m, by omega, h2⟩
    · rintro ⟨h1, k, h2, h3⟩
      by_cases hk : k = m
      · subst hk; right; exact ⟨h1, h3⟩
      · left; exact ⟨h1, k, by omega, h3⟩
theorem rin_nodup {p : Nat → Bool} : ∀ {n : Nat}, (rin p n).Nodup
  | 0 => by simp [rin]
  | n + 1 => by
    rw [rin]
    refine List.nodup_append.mpr ⟨rin_nodup, ?_, ?_⟩
    · split <;> simp
    · intro a ha b hb
      have h1 := (rin_mem.mp ha).1
      split at hb
      · simp at hb; omega
      · simp at hb
theorem rout_nodup {p : Nat → Nat → Bool} {tn : Nat} (hp : ∀ x k k', p x k = true → p x k' = true → k = k') : ∀ {m : Nat}, (rout p tn m).Nodup
  | 0 => by simp [rout]
  | m + 1 => by
    rw [rout]
    refine List.nodup_append.mpr ⟨rout_nodup hp, rin_nodup, ?_⟩
    intro a ha b hb hab
    subst hab
    obtain ⟨h1, k, h2, h3⟩ := rout_mem.mp ha
    have h4 := (rin_mem.mp hb).2
    have := hp a k m h3 h4
    omega
theorem nodup_len {l : List Nat} {n : Nat} (h : l.Nodup) (hl : ∀ x ∈ l, x < n) : l.length ≤ n := by
  refine fb_holes n l.length (fun i => l.getD i 0) (fun i hi => ?_) (fun i j hij hj => ?_)
  · have : l.getD i 0 = l[i] := by simp [hi]
    rw [this]; exact hl _ (List.getElem_mem hi)
  · have e1 : l.getD i 0 = l[i] := by simp [show i < l.length by omega]
    have e2 : l.getD j 0 = l[j] := by simp [hj]
    rw [e1, e2]
    exact List.pairwise_iff_getElem.mp h i j (by omega) hj hij
theorem rise_len {p : Nat → Nat → Bool} {tn m t : Nat} (hp : ∀ x k k', p x k = true → p x k' = true → k = k') (ht : t < tn) (hpt : p t m = true) : (rout p tn m ++ rin (fun t => p t m) t).length < tn := by
  have h1 : ((rout p tn m ++ rin (fun t => p t m) t) ++ [t]).Nodup := by
    refine List.nodup_append.mpr ⟨List.nodup_append.mpr ⟨rout_nodup hp, rin_nodup, ?_⟩, by simp, ?_⟩
    · intro a ha b hb hab
      subst hab
      obtain ⟨_, k, h2, h3⟩ := rout_mem.mp ha
      have := hp a k m h3 (rin_mem.mp hb).2
      omega
    · intro a ha b hb hab
      simp at hb
      subst hb
      subst hab
      rcases List.mem_append.mp ha with ha | ha
      · obtain ⟨_, k, h2, h3⟩ := rout_mem.mp ha
        have := hp a k m h3 hpt
        omega
      · have := (rin_mem.mp ha).1
        omega
  have h2 := nodup_len h1 (n := tn) (by
    intro x hx
    rcases List.mem_append.mp hx with hx | hx
    · rcases List.mem_append.mp hx with hx | hx
      · exact (rout_mem.mp hx).1
      · have := (rin_mem.mp hx).1; omega
    · simp at hx; omega)
  simp at h2 ⊢
  omega
/-- what a drive gives: the order, what was taken, what was let by, its value, by whom, each gun's value and number -/
abbrev DS : Type := List Nat × Int32 × Int32 × Int32 × (Nat → Int32) × (Nat → Int32) × (Nat → Int32)
def ds0 : DS := ([], 0, 0, 0, fun _ => -1, fun _ => 0, fun _ => 0)
/-- one thing more, that tk says who takes -/
def dstep (V : Nat → Int32) (tk : (Nat → Int32) → Nat → Int32) (S : DS) (t : Nat) : DS :=
  let g := tk S.2.2.2.2.2.2 t
  if g = -1 then (S.1 ++ [t], S.2.1, S.2.2.1 ||| ((1 : Int32) <<< (nI t &&& 31)), S.2.2.2.1, upd S.2.2.2.2.1 t (-1), S.2.2.2.2.2.1, S.2.2.2.2.2.2)
  else (S.1 ++ [t], S.2.1 ||| ((1 : Int32) <<< (nI t &&& 31)), S.2.2.1, S.2.2.2.1 + V t, upd S.2.2.2.2.1 t g, upd S.2.2.2.2.2.1 g.toNatClampNeg (S.2.2.2.2.2.1 g.toNatClampNeg + V t), upd S.2.2.2.2.2.2 g.toNatClampNeg (S.2.2.2.2.2.2 g.toNatClampNeg + 1))
def drv (V : Nat → Int32) (tk : (Nat → Int32) → Nat → Int32) (l : List Nat) : DS := l.foldl (dstep V tk) ds0
theorem dstep_1 {V : Nat → Int32} {tk : (Nat → Int32) → Nat → Int32} {S : DS} {t : Nat} : (dstep V tk S t).1 = S.1 ++ [t] := by
  unfold dstep; dsimp only; split <;> rfl
theorem foldl_1 {V : Nat → Int32} {tk : (Nat → Int32) → Nat → Int32} : ∀ (l : List Nat) (S : DS), (l.foldl (dstep V tk) S).1 = S.1 ++ l
  | [], S => by simp
  | t :: l, S => by rw [List.foldl_cons, foldl_1 l, dstep_1]; simp
theorem drv_1 {V : Nat → Int32} {tk : (Nat → Int32) → Nat → Int32} {l : List Nat} : (drv V tk l).1 = l := by rw [drv, foldl_1]; rfl
theorem drv_app {V : Nat → Int32} {tk : (Nat → Int32) → Nat → Int32} {l : List Nat} {t : Nat} : drv V tk (l ++ [t]) = dstep V tk (drv V tk l) t := by rw [drv, List.foldl_append]; rfl
