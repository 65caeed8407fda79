/-- a truth as the machine has it -/
def bi (p : Prop) [Decidable p] : Int32 := if p then 1 else 0
theorem bi_eq0 {p : Prop} [Decidable p] : (bi p = 0) = ¬ p := by
  unfold bi; split <;> simp_all
theorem bi_ne0 {p : Prop} [Decidable p] : (bi p = 1) = p := by
  unfold bi; split <;> simp_all
theorem nar_b0 : narrow .boolean (.int 0) = .int 0 := rfl
theorem nar_b1 : narrow .boolean (.int 1) = .int 1 := rfl
theorem nar_bi {p : Prop} [Decidable p] : narrow .boolean (.int (bi p)) = .int (bi p) := by
  unfold bi; split <;> rfl
theorem sl_0 {α : Type} (x : α) (l : List α) : (x :: l)[0]? = some x := rfl
theorem sl_3 {α : Type} (a b c d : α) (l : List α) : (a :: b :: c :: d :: l)[3]? = some d := rfl
theorem mm_down {I : Nat → Prop} {e : Nat} (stop : I e) (step : ∀ a, a < e → I (a + 1) → I a) : ∀ {a : Nat}, a ≤ e → I a := by
  intro a ha
  obtain ⟨k, rfl⟩ := Nat.exists_eq_add_of_le ha
  induction k generalizing a with
  | zero => exact stop
  | succ k ih => exact step a (by omega) (by have := @ih (a + 1) (by rw [show a + 1 + k = a + (k + 1) by omega]; exact stop) (by rw [show a + 1 + k = a + (k + 1) by omega]; exact step) (by omega); exact this)
theorem mup_c {μ : mm_mu} {c c' i : Nat} {x : Int32} (h : c' ≠ c) : mup μ c i x c' = μ c' := by simp [mup, va_up, h]
theorem mup_s {μ : mm_mu} {c i j : Nat} {x : Int32} : mup μ c i x c j = if j = i then x else μ c j := by simp [mup, va_up, upd]
theorem lit_10 : ((1 : Int32) = 0) = False := by simp
theorem lit_01 : ((0 : Int32) = 1) = False := by simp
theorem lit_m10 : ((-1 : Int32) = 0) = False := by simp
theorem lit_m11 : ((-1 : Int32) = 1) = False := by simp
theorem li (n : Nat) : (OfNat.ofNat n : Int32) = nI n := rfl
theorem vin {x : Int32} {a n : Nat} (hx : x = nI a) (ha : a < n) (hn : n < 2147483648 := by decide) : vp_in x n := by subst hx; exact vp_in_nI ha hn
theorem clp {x : Int32} {a : Nat} (hx : x = nI a) (ha : a < 2147483648 := by omega) : x.toNatClampNeg = a := by subst hx; exact nI_clamp ha
theorem biQ {Q : Int32 → Prop} {p : Prop} [Decidable p] (h1 : p → Q 1) (h0 : ¬ p → Q 0) : Q (bi p) := by
  unfold bi; split <;> simp_all
theorem bi1 {p : Prop} [Decidable p] (h : p) : bi p = 1 := if_pos h
theorem bi0 {p : Prop} [Decidable p] (h : ¬ p) : bi p = 0 := if_neg h
/-- a bit of a set -/
abbrev hasb (s k : Int32) : Prop := (s >>> (k &&& 31)) &&& 1 = 1
/-- where a thing comes over -/
def fly (col way row wind : Int32) : Int32 := col + (way - 4) * (9 - row) / 4 + (wind - 4) * (9 - row) / 6
/-- whether a thing rises in a minute -/
abbrev rz (out left right : Int32) (C R : Nat → Int32) (t : Nat) (minute : Int32) : Prop := hasb out (nI t) ∧ R t = minute ∧ left ≤ C t ∧ C t ≤ right
/-- a column, or 10 -/
def colOf (c : Int32) : Int32 := if 0 ≤ c ∧ c ≤ 9 then c else 10
theorem mw_zero {tb : mm_T} {M : mm_M} {tab : Nat → Option (mm_M × Nat × Nat × Nat)} {Bd : mm_M → List Value → mm_H → mm_Q0 → Prop} {B : Nat → List Value → List Value → mm_H → Prop} {Q : mm_Q0} {cut : Nat → Bool} {pc : Nat} {lv st : List Value} {h : mm_H} : mw tb M tab Bd B Q cut 0 pc lv st h = B pc lv st h := rfl
theorem vinT {x : Int32} {a n : Nat} (hx : x = nI a) (ha : a < n) (hn : n < 2147483648 := by decide) : vp_in x n = True := eq_true (vin hx ha hn)
theorem leT {a b : Nat} (h : a ≤ b) (hb : b < 2147483648 := by omega) : (nI a ≤ nI b) = True := eq_true (nI_le h hb)
theorem leF {a b : Nat} (h : b < a) (hb : a < 2147483648 := by omega) : (nI a ≤ nI b) = False := eq_false (nI_ge h hb)
theorem ltT {a b : Nat} (h : a < b) (hb : b < 2147483648 := by omega) : (nI a < nI b) = True := eq_true (nI_lt h hb)
theorem ltF {a b : Nat} (h : b ≤ a) (hb : a < 2147483648 := by omega) : (nI a < nI b) = False := eq_false (nI_nlt h hb)
theorem nI_ext {a b : Nat} (h : a = b) : nI a = nI b := by rw [h]
theorem mm_dn {I : Nat → Prop} {e : Nat} (stop : I e) (step : ∀ a, a < e → I (a + 1) → I a) : ∀ a, a ≤ e → I a := fun _ ha => mm_down stop step ha
theorem l0 : (0 : Int32) = nI 0 := rfl
theorem l1 : (1 : Int32) = nI 1 := rfl
theorem l2 : (2 : Int32) = nI 2 := rfl
theorem l3 : (3 : Int32) = nI 3 := rfl
theorem l4 : (4 : Int32) = nI 4 := rfl
theorem l5 : (5 : Int32) = nI 5 := rfl
theorem l6 : (6 : Int32) = nI 6 := rfl
theorem l7 : (7 : Int32) = nI 7 := rfl
theorem l8 : (8 : Int32) = nI 8 := rfl
theorem l9 : (9 : Int32) = nI 9 := rfl
theorem l10 : (10 : Int32) = nI 10 := rfl
theorem l11 : (11 : Int32) = nI 11 := rfl
theorem l12 : (12 : Int32) = nI 12 := rfl
theorem l13 : (13 : Int32) = nI 13 := rfl
theorem l14 : (14 : Int32) = nI 14 := rfl
theorem l15 : (15 : Int32) = nI 15 := rfl
theorem l16 : (16 : Int32) = nI 16 := rfl
theorem l17 : (17 : Int32) = nI 17 := rfl
theorem l18 : (18 : Int32) = nI 18 := rfl
theorem l19 : (19 : Int32) = nI 19 := rfl
theorem l20 : (20 : Int32) = nI 20 := rfl
theorem l21 : (21 : Int32) = nI 21 := rfl
theorem l22 : (22 : Int32) = nI 22 := rfl
theorem l23 : (23 : Int32) = nI 23 := rfl
theorem l24 : (24 : Int32) = nI 24 := rfl
theorem l30 : (30 : Int32) = nI 30 := rfl
theorem l31 : (31 : Int32) = nI 31 := rfl
theorem l32 : (32 : Int32) = nI 32 := rfl
theorem l40 : (40 : Int32) = nI 40 := rfl
theorem l48 : (48 : Int32) = nI 48 := rfl
theorem l57 : (57 : Int32) = nI 57 := rfl
theorem l60 : (60 : Int32) = nI 60 := rfl
theorem l64 : (64 : Int32) = nI 64 := rfl
theorem l100 : (100 : Int32) = nI 100 := rfl
theorem l140 : (140 : Int32) = nI 140 := rfl
theorem l180 : (180 : Int32) = nI 180 := rfl
theorem l202 : (202 : Int32) = nI 202 := rfl
theorem l240 : (240 : Int32) = nI 240 := rfl
theorem l255 : (255 : Int32) = nI 255 := rfl
theorem l256 : (256 : Int32) = nI 256 := rfl
theorem l260 : (260 : Int32) = nI 260 := rfl
theorem l520 : (520 : Int32) = nI 520 := rfl
theorem l700 : (700 : Int32) = nI 700 := rfl
theorem l840 : (840 : Int32) = nI 840 := rfl
theorem l999 : (999 : Int32) = nI 999 := rfl
theorem l9999 : (9999 : Int32) = nI 9999 := rfl
theorem l1000000 : (1000000 : Int32) = nI 1000000 := rfl
theorem l2600 : (2600 : Int32) = nI 2600 := rfl
theorem l8080 : (8080 : Int32) = nI 8080 := rfl
theorem vp6 {x : Int32} {n : Nat} {m : Int32} (hm : m.toInt = n) (h0 : 0 ≤ x) (h1 : x < m) : vp_in x n := vp_in_iff.mpr ⟨by simpa [Int32.le_iff_toInt_le] using h0, by rw [Int32.lt_iff_toInt_lt, hm] at h1; exact h1⟩
theorem nI_m1 (a : Nat) : nI (a + 1) + (-1) = nI a := pk_m1 a
theorem cat_i (x : Int32) : (Value.int x).category = 1 := rfl
theorem cat_r (x : Nat) : (Value.ref x).category = 1 := rfl
theorem cat_l (x : Int64) : (Value.long x).category = 2 := rfl
theorem mcp_c {μ : mm_mu} {r1 c sp dp n : Nat} {f : Nat → Int32} (h : c ≠ r1) : mcp μ r1 f sp dp n c = μ c := by simp [mcp, va_up, h]
theorem mcp_s {μ : mm_mu} {r1 j sp dp n : Nat} {f : Nat → Int32} : mcp μ r1 f sp dp n r1 j = if dp ≤ j ∧ j < dp + n then f (sp + (j - dp)) else μ r1 j := by simp [mcp, va_up, va_cpy]
