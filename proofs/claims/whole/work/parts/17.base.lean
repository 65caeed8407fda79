/-- a truth as the machine has it -/
def bi (p : Prop) [Decidable p] : Int32 := if p then 1 else 0
theorem bi_eq0 {p : Prop} [Decidable p] : (bi p = 0) = ¬ p := by
  unfold bi; split <;> simp_all
theorem bi_ne0 {p : Prop} [Decidable p] : (bi p = 1) = p := by
  unfold bi; split <;> simp_all
theorem nar_b0 : narrow .boolean (.int 0) = .int 0 := rfl
theorem nar_b1 : narrow .boolean (.int 1) = .int 1 := rfl
theorem nar_bi {p : Prop} [Decidable p] : narrow .boolean (.int (bi p)) = .int (bi p) := by
  unfold bi; split <;> rfl
theorem sl_0 {α : Type} (x : α) (l : List α) : (x :: l)[0]? = some x := rfl
theorem sl_3 {α : Type} (a b c d : α) (l : List α) : (a :: b :: c :: d :: l)[3]? = some d := rfl
theorem mm_down {I : Nat → Prop} {e : Nat} (stop : I e) (step : ∀ a, a < e → I (a + 1) → I a) : ∀ {a : Nat}, a ≤ e → I a := by
  intro a ha
  obtain ⟨k, rfl⟩ := Nat.exists_eq_add_of_le ha
  induction k generalizing a with
  | zero => exact stop
  | succ k ih => exact step a (by omega) (by have := @ih (a + 1) (by rw [show a + 1 + k = a + (k + 1) by omega]; exact stop) (by rw [show a + 1 + k = a + (k + 1) by omega]; exact step) (by omega); exact this)
theorem mup_c {μ : mm_mu} {c c' i : Nat} {x : Int32} (h : c' ≠ c) : mup μ c i x c' = μ c' := by simp [mup, va_up, h]
theorem mup_s {μ : mm_mu} {c i j : Nat} {x : Int32} : mup μ c i x c j = if j = i then x else μ c j := by simp [mup, va_up, upd]
theorem lit_10 : ((1 : Int32) = 0) = False := by simp
theorem lit_01 : ((0 : Int32) = 1) = False := by simp
theorem lit_m10 : ((-1 : Int32) = 0) = False := by simp
theorem lit_m11 : ((-1 : Int32) = 1) = False := by simp
theorem li (n : Nat) : (OfNat.ofNat n : Int32) = nI n := rfl
theorem vin {x : Int32} {a n : Nat} (hx : x = nI a) (ha : a < n) (hn : n < 2147483648 := by decide) : vp_in x n := by subst hx; exact vp_in_nI ha hn
theorem clp {x : Int32} {a : Nat} (hx : x = nI a) (ha : a < 2147483648 := by omega) : x.toNatClampNeg = a := by subst hx; exact nI_clamp ha
theorem biQ {Q : Int32 → Prop} {p : Prop} [Decidable p] (h1 : p → Q 1) (h0 : ¬ p → Q 0) : Q (bi p) := by
  unfold bi; split <;> simp_all
theorem bi1 {p : Prop} [Decidable p] (h : p) : bi p = 1 := if_pos h
theorem bi0 {p : Prop} [Decidable p] (h : ¬ p) : bi p = 0 := if_neg h
/-- a bit of a set -/
abbrev hasb (s k : Int32) : Prop := (s >>> (k &&& 31)) &&& 1 = 1
/-- where a thing comes over -/
def fly (col way row wind : Int32) : Int32 := col + (way - 4) * (9 - row) / 4 + (wind - 4) * (9 - row) / 6
/-- whether a thing rises in a minute -/
abbrev rz (out left right : Int32) (C R : Nat → Int32) (t : Nat) (minute : Int32) : Prop := hasb out (nI t) ∧ R t = minute ∧ left ≤ C t ∧ C t ≤ right
/-- a column, or 10 -/
def colOf (c : Int32) : Int32 := if 0 ≤ c ∧ c ≤ 9 then c else 10
