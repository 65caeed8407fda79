/-! THE WHOLE HEAP between the law's calls, as one function mu: mu c i is the int at place i of the cell c (an array's element, an object's field); eps: the longs by cell, the ground's law, the laws, how many laws there are, their codes' lengths -/
abbrev mm_X : Type := (Nat → Int64) × Option Nat × (Nat → Option Nat) × Nat × (Nat → Nat)
abbrev mm_mu : Type := Nat → Nat → Int32
def mm_law (ε : mm_X) (k : Nat) (f : Nat → Int32) : Option mm_C := if k < 12 ∧ k / 3 < ε.2.2.2.1 then (if k % 3 = 0 then some (.inr (5, [.ref (87 + k + 1), .ref (87 + k + 2)])) else if k % 3 = 1 then some (.inl (.int, ε.2.2.2.2 (k / 3), .inl f)) else some (.inl (.int, 32, .inl f))) else none
def HPc (ε : mm_X) (c : Nat) (f : Nat → Int32) : Option mm_C := match c with
  | 0 => some (.inr (11, [.ref 1, .ref 3, .ref 15, .ref 17, .ref 38, .int (f 5), .int (f 6), .int (f 7), .long (ε.1 0), .ref 39, .ref 40, .ref 45, .ref 50, .ref 53]))
  | 1 => some (.inr (10, [.ref 2, .int (f 1), .int (f 2)]))
  | 2 => some (.inl (.char, 260, .inl f))
  | 3 => some (.inr (3, [.ref 4, .ref 10, .ref 14, .int (f 3)]))
  | 4 => some (.inr (2, [.int (f 0), .int (f 1), .ref 5, .ref 6, .ref 7, .ref 8, .ref 9]))
  | 5 => some (.inl (.int, 7, .inl f))
  | 6 => some (.inl (.int, 7, .inl f))
  | 7 => some (.inl (.int, 7, .inl f))
  | 8 => some (.inl (.int, 7, .inl f))
  | 9 => some (.inl (.int, 7, .inl f))
  | 10 => some (.inr (8, [.int (f 0), .int (f 1), .int (f 2), .int (f 3), .int (f 4), .int (f 5), .ref 11, .ref 12, .ref 13]))
  | 11 => some (.inl (.int, 5, .inl f))
  | 12 => some (.inl (.int, 5, .inl f))
  | 13 => some (.inl (.int, 5, .inl f))
  | 14 => some (.inl (.int, 5, .inl f))
  | 15 => some (.inr (6, [.ref 16, .int (f 1)]))
  | 16 => some (.inl (.int, 240, .inl f))
  | 17 => some (.inr (4, [.ref 18, .ref 24, .ref 28, va_rf ε.2.1, .int (f 4), .ref 32, .ref 33, .ref 34, .ref 35, .int (f 9), .int (f 10), .int (f 11), .ref 36, .ref 37]))
  | 18 => some (.inr (2, [.int (f 0), .int (f 1), .ref 19, .ref 20, .ref 21, .ref 22, .ref 23]))
  | 19 => some (.inl (.int, 7, .inl f))
  | 20 => some (.inl (.int, 7, .inl f))
  | 21 => some (.inl (.int, 7, .inl f))
  | 22 => some (.inl (.int, 7, .inl f))
  | 23 => some (.inl (.int, 7, .inl f))
  | 24 => some (.inr (8, [.int (f 0), .int (f 1), .int (f 2), .int (f 3), .int (f 4), .int (f 5), .ref 25, .ref 26, .ref 27]))
  | 25 => some (.inl (.int, 5, .inl f))
  | 26 => some (.inl (.int, 5, .inl f))
  | 27 => some (.inl (.int, 5, .inl f))
  | 28 => some (.inr (8, [.int (f 0), .int (f 1), .int (f 2), .int (f 3), .int (f 4), .int (f 5), .ref 29, .ref 30, .ref 31]))
  | 29 => some (.inl (.int, 5, .inl f))
  | 30 => some (.inl (.int, 5, .inl f))
  | 31 => some (.inl (.int, 5, .inl f))
  | 32 => some (.inl (.int, 7, .inl f))
  | 33 => some (.inl (.int, 7, .inl f))
  | 34 => some (.inl (.int, 5, .inl f))
  | 35 => some (.inl (.int, 5, .inl f))
  | 36 => some (.inl (.int, 5, .inl f))
  | 37 => some (.inl (.int, 6, .inl f))
  | 38 => some (.inl (.object "BeatenAfternoon$Law", 4, .inr (.inr (.inr (.inr ε.2.2.1)))))
  | 39 => some (.inl (.int, 5, .inl f))
  | 40 => some (.inr (7, [.int (f 0), .int (f 1), .ref 41, .ref 42, .int (f 4), .ref 43, .ref 44]))
  | 41 => some (.inl (.int, 840, .inl f))
  | 42 => some (.inl (.int, 100, .inl f))
  | 43 => some (.inl (.int, 21, .inl f))
  | 44 => some (.inl (.int, 100, .inl f))
  | 45 => some (.inr (9, [.int (f 0), .ref 46, .ref 47, .ref 48, .ref 49]))
  | 46 => some (.inl (.int, 10, .inl f))
  | 47 => some (.inl (.int, 10, .inl f))
  | 48 => some (.inl (.int, 10, .inl f))
  | 49 => some (.inl (.boolean, 10, .inl f))
  | 50 => some (.inr (0, [.int (f 0), .ref 51, .ref 52]))
  | 51 => some (.inl (.int, 35, .inl f))
  | 52 => some (.inl (.int, 256, .inl f))
  | 53 => some (.inr (1, [.ref 54, .ref 55]))
  | 54 => some (.inl (.int, 16, .inl f))
  | 55 => some (.inl (.int, 16, .inl f))
  | 56 => some (.inr (12, [.int (f 0), .ref 57, .int (f 2), .int (f 3), .int (f 4), .int (f 5), .ref 58, .ref 59, .ref 60, .ref 61, .ref 62, .ref 63, .ref 64, .int (f 13), .int (f 14), .ref 65, .ref 66, .ref 67, .ref 68, .ref 69, .int (f 20), .int (f 21), .ref 70, .ref 71, .int (f 24), .int (f 25), .ref 72, .ref 73, .int (f 28), .int (f 29), .ref 74, .ref 75, .ref 76, .ref 77, .int (f 34), .int (f 35), .int (f 36), .int (f 37), .ref 78, .int (f 39), .long (ε.1 56), .int (f 41), .int (f 42), .ref 79, .ref 80, .ref 81, .ref 82, .ref 83, .ref 84, .int (f 49), .ref 85, .int (f 51)]))
  | 57 => some (.inl (.int, 240, .inl f))
  | 58 => some (.inl (.int, 2600, .inl f))
  | 59 => some (.inl (.int, 2600, .inl f))
  | 60 => some (.inl (.int, 5, .inl f))
  | 61 => some (.inl (.int, 5, .inl f))
  | 62 => some (.inl (.int, 700, .inl f))
  | 63 => some (.inl (.int, 700, .inl f))
  | 64 => some (.inl (.int, 700, .inl f))
  | 65 => some (.inl (.int, 6, .inl f))
  | 66 => some (.inl (.int, 80, .inl f))
  | 67 => some (.inl (.int, 4, .inl f))
  | 68 => some (.inl (.int, 35, .inl f))
  | 69 => some (.inl (.int, 10, .inl f))
  | 70 => some (.inl (.int, 4, .inl f))
  | 71 => some (.inl (.int, 35, .inl f))
  | 72 => some (.inl (.int, 202, .inl f))
  | 73 => some (.inl (.int, 5, .inl f))
  | 74 => some (.inl (.int, 7, .inl f))
  | 75 => some (.inl (.int, 5, .inl f))
  | 76 => some (.inl (.int, 5, .inl f))
  | 77 => some (.inl (.int, 7, .inl f))
  | 78 => some (.inl (.int, 8080, .inl f))
  | 79 => some (.inl (.int, 5, .inl f))
  | 80 => some (.inl (.int, 5, .inl f))
  | 81 => some (.inl (.int, 10, .inl f))
  | 82 => some (.inl (.int, 10, .inl f))
  | 83 => some (.inl (.int, 10, .inl f))
  | 84 => some (.inl (.boolean, 10, .inl f))
  | 85 => some (.inl (.int, 202, .inl f))
  | 86 => some (.inl (.long, 1, .inr (.inl (fun _ => ε.1 86))))
  | k + 87 => mm_law ε k f
def HP (ε : mm_X) (μ : mm_mu) : mm_H := fun c => HPc ε c (μ c)
def mup (μ : mm_mu) (c i : Nat) (x : Int32) : mm_mu := va_up μ c (upd (μ c) i x)
theorem HP_up {ε : mm_X} {μ : mm_mu} {c : Nat} {f : Nat → Int32} : va_up (HP ε μ) c (HPc ε c f) = HP ε (va_up μ c f) := by
  funext k
  by_cases hk : k = c
  · subst hk; simp [va_up, HP]
  · simp [va_up, HP, hk]
section HR
variable {tab : Nat → Option (mm_M × Nat × Nat × Nat)} {Bd : mm_M → List Value → mm_H → mm_Q0 → Prop} {B K : Nat → List Value → List Value → mm_H → Prop} {Q : mm_Q0} {nx : Nat} {lv st : List Value} {ε : mm_X} {μ : mm_mu}
theorem gf_gen {r j ci : Nat} {fs : List Value} {v : Value} (h1 : HP ε μ r = some (.inr (ci, fs))) (h2 : ci = j / 100) (h3 : fs[j % 100]? = some v) : mm_step tab Bd B K Q (.getfield j) nx lv (.ref r :: st) (HP ε μ) = K nx lv (v :: st) (HP ε μ) := by
  simp only [st_getf, h1, h3, h2, true_and]
theorem pf_gen {r j ci k : Nat} {fs : List Value} {v : Value} {x : Int32} (h1 : HP ε μ r = some (.inr (ci, fs))) (h2 : ci = j / 100) (h3 : k = j % 100) (h4 : k < fs.length) (h5 : mm_fit ci k v) (h6 : (some (.inr (ci, fs.set k v)) : Option mm_C) = HPc ε r (upd (μ r) k x)) : mm_step tab Bd B K Q (.putfield j) nx lv (v :: .ref r :: st) (HP ε μ) = K nx lv st (HP ε (mup μ r k x)) := by
  subst h2; subst h3
  simp only [st_putf, h1, true_and, h4, h5, h6, HP_up, mup]
theorem mm_fit_of {ci k : Nat} {v : Value} {q : vw_C} {ty : FieldType} (h1 : mm_cl[ci]? = some q) (h2 : parseFieldDescriptor (q.2.1 k).2.2.1 = some ty) (h3 : narrow ty v = v) (h4 : fits ty v = true) : mm_fit ci k v := by
  simp only [mm_fit, h1, h2]; exact ⟨h3, h4⟩
theorem al_gen {r len : Nat} {ty : FieldType} {f : Nat → Int32} (h1 : HP ε μ r = some (.inl (ty, len, .inl f))) : mm_step tab Bd B K Q .arraylength nx lv (.ref r :: st) (HP ε μ) = K nx lv (.int (Int32.ofNat len) :: st) (HP ε μ) := by
  simp only [st_alen, h1]
theorem ia_gen {r len : Nat} {i : Int32} {f : Nat → Int32} (h1 : HP ε μ r = some (.inl (.int, len, .inl f))) : mm_step tab Bd B K Q .iaload nx lv (.int i :: .ref r :: st) (HP ε μ) = (vp_in i len ∧ K nx lv (.int (f i.toNatClampNeg) :: st) (HP ε μ)) := by
  simp only [st_iald, h1]
theorem ca_gen {r len : Nat} {i : Int32} {f : Nat → Int32} (h1 : HP ε μ r = some (.inl (.char, len, .inl f))) : mm_step tab Bd B K Q .caload nx lv (.int i :: .ref r :: st) (HP ε μ) = (vp_in i len ∧ K nx lv (.int (f i.toNatClampNeg) :: st) (HP ε μ)) := by
  simp only [st_cald, h1]
theorem za_gen {r len : Nat} {i : Int32} {f : Nat → Int32} (h1 : HP ε μ r = some (.inl (.boolean, len, .inl f))) : mm_step tab Bd B K Q .baload nx lv (.int i :: .ref r :: st) (HP ε μ) = (vp_in i len ∧ K nx lv (.int (f i.toNatClampNeg) :: st) (HP ε μ)) := by
  simp only [st_zald, h1]
theorem is_gen {r len : Nat} {i x : Int32} (h1 : HP ε μ r = some (.inl (.int, len, .inl (μ r)))) (h2 : ∀ f, HPc ε r f = some (.inl (.int, len, .inl f))) : mm_step tab Bd B K Q .iastore nx lv (.int x :: .int i :: .ref r :: st) (HP ε μ) = (vp_in i len ∧ K nx lv st (HP ε (mup μ r i.toNatClampNeg x))) := by
  simp only [st_iast, h1, mup]
  rw [← h2, HP_up]
theorem cs_gen {r len : Nat} {i x : Int32} (h1 : HP ε μ r = some (.inl (.char, len, .inl (μ r)))) (h2 : ∀ f, HPc ε r f = some (.inl (.char, len, .inl f))) : mm_step tab Bd B K Q .castore nx lv (.int x :: .int i :: .ref r :: st) (HP ε μ) = (vp_in i len ∧ K nx lv st (HP ε (mup μ r i.toNatClampNeg (vp_nar .char x)))) := by
  simp only [st_cast, h1, mup]
  rw [← h2, HP_up]
theorem zs_gen {r len : Nat} {i x : Int32} (h1 : HP ε μ r = some (.inl (.boolean, len, .inl (μ r)))) (h2 : ∀ f, HPc ε r f = some (.inl (.boolean, len, .inl f))) : mm_step tab Bd B K Q .bastore nx lv (.int x :: .int i :: .ref r :: st) (HP ε μ) = (vp_in i len ∧ K nx lv st (HP ε (mup μ r i.toNatClampNeg (vp_nar .boolean x)))) := by
  simp only [st_zast, h1, mup]
  rw [← h2, HP_up]
theorem iv_gen {j r k ci ci' : Nat} {M' : mm_M} {As st' fs : List Value} (h1 : tab j = some (M', 0, k, ci)) (h2 : mm_pop k [] st = some (As, .ref r :: st')) (h3 : HP ε μ r = some (.inr (ci', fs))) (h4 : ci' = ci) : mm_step tab Bd B K Q (.invokevirtual j) nx lv st (HP ε μ) = ((st'.map fun v => v.category).sum ≤ 8 ∧ Bd M' (.ref r :: As) (HP ε μ) (fun v h' => B nx lv (v.toList ++ st') h')) := by
  simp only [st_inv, h1, h2, h3, h4, true_and]
theorem HP_none {r : Nat} (h : 99 ≤ r) : HP ε μ r = none := by
  obtain ⟨k, rfl⟩ : ∃ k, r = k + 87 := ⟨r - 87, by omega⟩
  show mm_law ε k _ = none
  unfold mm_law
  rw [if_neg (by omega)]
/-- a part of a row laid into another -/
def mcp (μ : mm_mu) (r1 : Nat) (f : Nat → Int32) (sp dp n : Nat) : mm_mu := va_up μ r1 (va_cpy f (μ r1) sp dp n)
theorem cp_gen {r0 r1 n0 n1 j : Nat} {k dp sp : Int32} (h0 : HP ε μ r0 = some (.inl (.int, n0, .inl (μ r0)))) (h1 : HP ε μ r1 = some (.inl (.int, n1, .inl (μ r1)))) (h2 : ∀ f, HPc ε r1 f = some (.inl (.int, n1, .inl f))) : mm_step tab Bd B K Q (.invokespecial j) nx lv (.int k :: .int dp :: .ref r1 :: .int sp :: .ref r0 :: st) (HP ε μ) = (¬ sp < 0 ∧ ¬ dp < 0 ∧ ¬ k < 0 ∧ sp.toNatClampNeg + k.toNatClampNeg ≤ n0 ∧ dp.toNatClampNeg + k.toNatClampNeg ≤ n1 ∧ (st.map fun v => v.category).sum ≤ 8 ∧ K nx lv st (HP ε (mcp μ r1 (μ r0) sp.toNatClampNeg dp.toNatClampNeg k.toNatClampNeg))) := by
  simp only [st_copy, h0, h1, mcp]
  rw [← h2, HP_up]
theorem cx_gen {r0 r1 n1 j : Nat} {w : List Int32} {k dp sp : Int32} (h0 : mm_ext r0 = some (.inl (.int, w))) (hr : 99 ≤ r0) (h1 : HP ε μ r1 = some (.inl (.int, n1, .inl (μ r1)))) (h2 : ∀ f, HPc ε r1 f = some (.inl (.int, n1, .inl f))) : mm_step tab Bd B K Q (.invokespecial j) nx lv (.int k :: .int dp :: .ref r1 :: .int sp :: .ref r0 :: st) (HP ε μ) = (¬ sp < 0 ∧ ¬ dp < 0 ∧ ¬ k < 0 ∧ sp.toNatClampNeg + k.toNatClampNeg ≤ w.length ∧ dp.toNatClampNeg + k.toNatClampNeg ≤ n1 ∧ (st.map fun v => v.category).sum ≤ 8 ∧ K nx lv st (HP ε (mcp μ r1 (fun i => w.getD i 0) sp.toNatClampNeg dp.toNatClampNeg k.toNatClampNeg))) := by
  simp only [st_copy, h0, h1, HP_none hr, mcp]
  rw [← h2, HP_up]
theorem lx_gen {r0 : Nat} {w : List Int32} {i : Int32} (h0 : mm_ext r0 = some (.inl (.int, w))) (hr : 99 ≤ r0) : mm_step tab Bd B K Q .iaload nx lv (.int i :: .ref r0 :: st) (HP ε μ) = (vp_in i w.length ∧ K nx lv (.int (w.getD i.toNatClampNeg 0) :: st) (HP ε μ)) := by
  simp only [st_iald, h0, HP_none hr]
theorem lb_gen {r0 : Nat} {w : List Int32} {i : Int32} (h0 : mm_ext r0 = some (.inl (.byte, w))) (hr : 99 ≤ r0) : mm_step tab Bd B K Q .baload nx lv (.int i :: .ref r0 :: st) (HP ε μ) = (vp_in i w.length ∧ K nx lv (.int (w.getD i.toNatClampNeg 0) :: st) (HP ε μ)) := by
  simp only [st_zald, h0, HP_none hr]
theorem ax_gen {r0 : Nat} {ty : FieldType} {w : List Int32} (h0 : mm_ext r0 = some (.inl (ty, w))) (hr : 99 ≤ r0) : mm_step tab Bd B K Q .arraylength nx lv (.ref r0 :: st) (HP ε μ) = K nx lv (.int (Int32.ofNat w.length) :: st) (HP ε μ) := by
  simp only [st_alen, h0, HP_none hr]
theorem HP_0 : HP ε μ 0 = some (.inr (11, [.ref 1, .ref 3, .ref 15, .ref 17, .ref 38, .int (μ 0 5), .int (μ 0 6), .int (μ 0 7), .long (ε.1 0), .ref 39, .ref 40, .ref 45, .ref 50, .ref 53])) := rfl
theorem gf_0_1100 : mm_step tab Bd B K Q (.getfield 1100) nx lv (.ref 0 :: st) (HP ε μ) = K nx lv ((.ref 1) :: st) (HP ε μ) := gf_gen HP_0 rfl rfl
theorem gf_0_1101 : mm_step tab Bd B K Q (.getfield 1101) nx lv (.ref 0 :: st) (HP ε μ) = K nx lv ((.ref 3) :: st) (HP ε μ) := gf_gen HP_0 rfl rfl
theorem gf_0_1102 : mm_step tab Bd B K Q (.getfield 1102) nx lv (.ref 0 :: st) (HP ε μ) = K nx lv ((.ref 15) :: st) (HP ε μ) := gf_gen HP_0 rfl rfl
theorem gf_0_1103 : mm_step tab Bd B K Q (.getfield 1103) nx lv (.ref 0 :: st) (HP ε μ) = K nx lv ((.ref 17) :: st) (HP ε μ) := gf_gen HP_0 rfl rfl
theorem gf_0_1104 : mm_step tab Bd B K Q (.getfield 1104) nx lv (.ref 0 :: st) (HP ε μ) = K nx lv ((.ref 38) :: st) (HP ε μ) := gf_gen HP_0 rfl rfl
theorem gf_0_1105 : mm_step tab Bd B K Q (.getfield 1105) nx lv (.ref 0 :: st) (HP ε μ) = K nx lv ((.int (μ 0 5)) :: st) (HP ε μ) := gf_gen HP_0 rfl rfl
theorem pf_0_1105 {x : Int32} : mm_step tab Bd B K Q (.putfield 1105) nx lv (.int x :: .ref 0 :: st) (HP ε μ) = K nx lv st (HP ε (mup μ 0 5 x)) := pf_gen HP_0 rfl rfl (Nat.le_of_ble_eq_true rfl) (mm_fit_of rfl (tyX11_ok 5 (by decide)) rfl rfl) rfl
theorem gf_0_1106 : mm_step tab Bd B K Q (.getfield 1106) nx lv (.ref 0 :: st) (HP ε μ) = K nx lv ((.int (μ 0 6)) :: st) (HP ε μ) := gf_gen HP_0 rfl rfl
theorem pf_0_1106 {x : Int32} : mm_step tab Bd B K Q (.putfield 1106) nx lv (.int x :: .ref 0 :: st) (HP ε μ) = K nx lv st (HP ε (mup μ 0 6 x)) := pf_gen HP_0 rfl rfl (Nat.le_of_ble_eq_true rfl) (mm_fit_of rfl (tyX11_ok 6 (by decide)) rfl rfl) rfl
theorem gf_0_1107 : mm_step tab Bd B K Q (.getfield 1107) nx lv (.ref 0 :: st) (HP ε μ) = K nx lv ((.int (μ 0 7)) :: st) (HP ε μ) := gf_gen HP_0 rfl rfl
theorem pf_0_1107 {x : Int32} : mm_step tab Bd B K Q (.putfield 1107) nx lv (.int x :: .ref 0 :: st) (HP ε μ) = K nx lv st (HP ε (mup μ 0 7 x)) := pf_gen HP_0 rfl rfl (Nat.le_of_ble_eq_true rfl) (mm_fit_of rfl (tyX11_ok 7 (by decide)) rfl rfl) rfl
theorem gf_0_1108 : mm_step tab Bd B K Q (.getfield 1108) nx lv (.ref 0 :: st) (HP ε μ) = K nx lv ((.long (ε.1 0)) :: st) (HP ε μ) := gf_gen HP_0 rfl rfl
theorem gf_0_1109 : mm_step tab Bd B K Q (.getfield 1109) nx lv (.ref 0 :: st) (HP ε μ) = K nx lv ((.ref 39) :: st) (HP ε μ) := gf_gen HP_0 rfl rfl
theorem gf_0_1110 : mm_step tab Bd B K Q (.getfield 1110) nx lv (.ref 0 :: st) (HP ε μ) = K nx lv ((.ref 40) :: st) (HP ε μ) := gf_gen HP_0 rfl rfl
theorem gf_0_1111 : mm_step tab Bd B K Q (.getfield 1111) nx lv (.ref 0 :: st) (HP ε μ) = K nx lv ((.ref 45) :: st) (HP ε μ) := gf_gen HP_0 rfl rfl
theorem gf_0_1112 : mm_step tab Bd B K Q (.getfield 1112) nx lv (.ref 0 :: st) (HP ε μ) = K nx lv ((.ref 50) :: st) (HP ε μ) := gf_gen HP_0 rfl rfl
theorem gf_0_1113 : mm_step tab Bd B K Q (.getfield 1113) nx lv (.ref 0 :: st) (HP ε μ) = K nx lv ((.ref 53) :: st) (HP ε μ) := gf_gen HP_0 rfl rfl
theorem HP_1 : HP ε μ 1 = some (.inr (10, [.ref 2, .int (μ 1 1), .int (μ 1 2)])) := rfl
theorem gf_1_1000 : mm_step tab Bd B K Q (.getfield 1000) nx lv (.ref 1 :: st) (HP ε μ) = K nx lv ((.ref 2) :: st) (HP ε μ) := gf_gen HP_1 rfl rfl
theorem gf_1_1001 : mm_step tab Bd B K Q (.getfield 1001) nx lv (.ref 1 :: st) (HP ε μ) = K nx lv ((.int (μ 1 1)) :: st) (HP ε μ) := gf_gen HP_1 rfl rfl
theorem pf_1_1001 {x : Int32} : mm_step tab Bd B K Q (.putfield 1001) nx lv (.int x :: .ref 1 :: st) (HP ε μ) = K nx lv st (HP ε (mup μ 1 1 x)) := pf_gen HP_1 rfl rfl (Nat.le_of_ble_eq_true rfl) (mm_fit_of rfl (tyX10_ok 1 (by decide)) rfl rfl) rfl
theorem gf_1_1002 : mm_step tab Bd B K Q (.getfield 1002) nx lv (.ref 1 :: st) (HP ε μ) = K nx lv ((.int (μ 1 2)) :: st) (HP ε μ) := gf_gen HP_1 rfl rfl
theorem pf_1_1002 {x : Int32} : mm_step tab Bd B K Q (.putfield 1002) nx lv (.int x :: .ref 1 :: st) (HP ε μ) = K nx lv st (HP ε (mup μ 1 2 x)) := pf_gen HP_1 rfl rfl (Nat.le_of_ble_eq_true rfl) (mm_fit_of rfl (tyX10_ok 2 (by decide)) rfl rfl) rfl
theorem HP_2 : HP ε μ 2 = some (.inl (.char, 260, .inl (μ 2))) := rfl
theorem al_2 : mm_step tab Bd B K Q .arraylength nx lv (.ref 2 :: st) (HP ε μ) = K nx lv (.int 260 :: st) (HP ε μ) := al_gen HP_2
theorem ld_2 {i : Int32} : mm_step tab Bd B K Q .caload nx lv (.int i :: .ref 2 :: st) (HP ε μ) = (vp_in i 260 ∧ K nx lv (.int (μ 2 i.toNatClampNeg) :: st) (HP ε μ)) := ca_gen HP_2
theorem sv_2 {i x : Int32} : mm_step tab Bd B K Q .castore nx lv (.int x :: .int i :: .ref 2 :: st) (HP ε μ) = (vp_in i 260 ∧ K nx lv st (HP ε (mup μ 2 i.toNatClampNeg (vp_nar .char x)))) := cs_gen HP_2 (fun _ => rfl)
theorem HP_3 : HP ε μ 3 = some (.inr (3, [.ref 4, .ref 10, .ref 14, .int (μ 3 3)])) := rfl
theorem gf_3_300 : mm_step tab Bd B K Q (.getfield 300) nx lv (.ref 3 :: st) (HP ε μ) = K nx lv ((.ref 4) :: st) (HP ε μ) := gf_gen HP_3 rfl rfl
theorem gf_3_301 : mm_step tab Bd B K Q (.getfield 301) nx lv (.ref 3 :: st) (HP ε μ) = K nx lv ((.ref 10) :: st) (HP ε μ) := gf_gen HP_3 rfl rfl
theorem gf_3_302 : mm_step tab Bd B K Q (.getfield 302) nx lv (.ref 3 :: st) (HP ε μ) = K nx lv ((.ref 14) :: st) (HP ε μ) := gf_gen HP_3 rfl rfl
theorem gf_3_303 : mm_step tab Bd B K Q (.getfield 303) nx lv (.ref 3 :: st) (HP ε μ) = K nx lv ((.int (μ 3 3)) :: st) (HP ε μ) := gf_gen HP_3 rfl rfl
theorem pf_3_303_0 : mm_step tab Bd B K Q (.putfield 303) nx lv (.int 0 :: .ref 3 :: st) (HP ε μ) = K nx lv st (HP ε (mup μ 3 3 0)) := pf_gen HP_3 rfl rfl (Nat.le_of_ble_eq_true rfl) (mm_fit_of rfl (tyX3_ok 3 (by decide)) (by decide) (by decide)) rfl
theorem pf_3_303_1 : mm_step tab Bd B K Q (.putfield 303) nx lv (.int 1 :: .ref 3 :: st) (HP ε μ) = K nx lv st (HP ε (mup μ 3 3 1)) := pf_gen HP_3 rfl rfl (Nat.le_of_ble_eq_true rfl) (mm_fit_of rfl (tyX3_ok 3 (by decide)) (by decide) (by decide)) rfl
theorem HP_4 : HP ε μ 4 = some (.inr (2, [.int (μ 4 0), .int (μ 4 1), .ref 5, .ref 6, .ref 7, .ref 8, .ref 9])) := rfl
theorem gf_4_200 : mm_step tab Bd B K Q (.getfield 200) nx lv (.ref 4 :: st) (HP ε μ) = K nx lv ((.int (μ 4 0)) :: st) (HP ε μ) := gf_gen HP_4 rfl rfl
theorem pf_4_200 {x : Int32} : mm_step tab Bd B K Q (.putfield 200) nx lv (.int x :: .ref 4 :: st) (HP ε μ) = K nx lv st (HP ε (mup μ 4 0 x)) := pf_gen HP_4 rfl rfl (Nat.le_of_ble_eq_true rfl) (mm_fit_of rfl (tyX2_ok 0 (by decide)) rfl rfl) rfl
theorem gf_4_201 : mm_step tab Bd B K Q (.getfield 201) nx lv (.ref 4 :: st) (HP ε μ) = K nx lv ((.int (μ 4 1)) :: st) (HP ε μ) := gf_gen HP_4 rfl rfl
theorem pf_4_201 {x : Int32} : mm_step tab Bd B K Q (.putfield 201) nx lv (.int x :: .ref 4 :: st) (HP ε μ) = K nx lv st (HP ε (mup μ 4 1 x)) := pf_gen HP_4 rfl rfl (Nat.le_of_ble_eq_true rfl) (mm_fit_of rfl (tyX2_ok 1 (by decide)) rfl rfl) rfl
theorem gf_4_202 : mm_step tab Bd B K Q (.getfield 202) nx lv (.ref 4 :: st) (HP ε μ) = K nx lv ((.ref 5) :: st) (HP ε μ) := gf_gen HP_4 rfl rfl
theorem gf_4_203 : mm_step tab Bd B K Q (.getfield 203) nx lv (.ref 4 :: st) (HP ε μ) = K nx lv ((.ref 6) :: st) (HP ε μ) := gf_gen HP_4 rfl rfl
theorem gf_4_204 : mm_step tab Bd B K Q (.getfield 204) nx lv (.ref 4 :: st) (HP ε μ) = K nx lv ((.ref 7) :: st) (HP ε μ) := gf_gen HP_4 rfl rfl
theorem gf_4_205 : mm_step tab Bd B K Q (.getfield 205) nx lv (.ref 4 :: st) (HP ε μ) = K nx lv ((.ref 8) :: st) (HP ε μ) := gf_gen HP_4 rfl rfl
theorem gf_4_206 : mm_step tab Bd B K Q (.getfield 206) nx lv (.ref 4 :: st) (HP ε μ) = K nx lv ((.ref 9) :: st) (HP ε μ) := gf_gen HP_4 rfl rfl
theorem HP_5 : HP ε μ 5 = some (.inl (.int, 7, .inl (μ 5))) := rfl
theorem al_5 : mm_step tab Bd B K Q .arraylength nx lv (.ref 5 :: st) (HP ε μ) = K nx lv (.int 7 :: st) (HP ε μ) := al_gen HP_5
theorem ld_5 {i : Int32} : mm_step tab Bd B K Q .iaload nx lv (.int i :: .ref 5 :: st) (HP ε μ) = (vp_in i 7 ∧ K nx lv (.int (μ 5 i.toNatClampNeg) :: st) (HP ε μ)) := ia_gen HP_5
theorem sv_5 {i x : Int32} : mm_step tab Bd B K Q .iastore nx lv (.int x :: .int i :: .ref 5 :: st) (HP ε μ) = (vp_in i 7 ∧ K nx lv st (HP ε (mup μ 5 i.toNatClampNeg x))) := is_gen HP_5 (fun _ => rfl)
theorem HP_6 : HP ε μ 6 = some (.inl (.int, 7, .inl (μ 6))) := rfl
theorem al_6 : mm_step tab Bd B K Q .arraylength nx lv (.ref 6 :: st) (HP ε μ) = K nx lv (.int 7 :: st) (HP ε μ) := al_gen HP_6
theorem ld_6 {i : Int32} : mm_step tab Bd B K Q .iaload nx lv (.int i :: .ref 6 :: st) (HP ε μ) = (vp_in i 7 ∧ K nx lv (.int (μ 6 i.toNatClampNeg) :: st) (HP ε μ)) := ia_gen HP_6
theorem sv_6 {i x : Int32} : mm_step tab Bd B K Q .iastore nx lv (.int x :: .int i :: .ref 6 :: st) (HP ε μ) = (vp_in i 7 ∧ K nx lv st (HP ε (mup μ 6 i.toNatClampNeg x))) := is_gen HP_6 (fun _ => rfl)
theorem HP_7 : HP ε μ 7 = some (.inl (.int, 7, .inl (μ 7))) := rfl
theorem al_7 : mm_step tab Bd B K Q .arraylength nx lv (.ref 7 :: st) (HP ε μ) = K nx lv (.int 7 :: st) (HP ε μ) := al_gen HP_7
theorem ld_7 {i : Int32} : mm_step tab Bd B K Q .iaload nx lv (.int i :: .ref 7 :: st) (HP ε μ) = (vp_in i 7 ∧ K nx lv (.int (μ 7 i.toNatClampNeg) :: st) (HP ε μ)) := ia_gen HP_7
theorem sv_7 {i x : Int32} : mm_step tab Bd B K Q .iastore nx lv (.int x :: .int i :: .ref 7 :: st) (HP ε μ) = (vp_in i 7 ∧ K nx lv st (HP ε (mup μ 7 i.toNatClampNeg x))) := is_gen HP_7 (fun _ => rfl)
theorem HP_8 : HP ε μ 8 = some (.inl (.int, 7, .inl (μ 8))) := rfl
theorem al_8 : mm_step tab Bd B K Q .arraylength nx lv (.ref 8 :: st) (HP ε μ) = K nx lv (.int 7 :: st) (HP ε μ) := al_gen HP_8
theorem ld_8 {i : Int32} : mm_step tab Bd B K Q .iaload nx lv (.int i :: .ref 8 :: st) (HP ε μ) = (vp_in i 7 ∧ K nx lv (.int (μ 8 i.toNatClampNeg) :: st) (HP ε μ)) := ia_gen HP_8
theorem sv_8 {i x : Int32} : mm_step tab Bd B K Q .iastore nx lv (.int x :: .int i :: .ref 8 :: st) (HP ε μ) = (vp_in i 7 ∧ K nx lv st (HP ε (mup μ 8 i.toNatClampNeg x))) := is_gen HP_8 (fun _ => rfl)
theorem HP_9 : HP ε μ 9 = some (.inl (.int, 7, .inl (μ 9))) := rfl
theorem al_9 : mm_step tab Bd B K Q .arraylength nx lv (.ref 9 :: st) (HP ε μ) = K nx lv (.int 7 :: st) (HP ε μ) := al_gen HP_9
theorem ld_9 {i : Int32} : mm_step tab Bd B K Q .iaload nx lv (.int i :: .ref 9 :: st) (HP ε μ) = (vp_in i 7 ∧ K nx lv (.int (μ 9 i.toNatClampNeg) :: st) (HP ε μ)) := ia_gen HP_9
theorem sv_9 {i x : Int32} : mm_step tab Bd B K Q .iastore nx lv (.int x :: .int i :: .ref 9 :: st) (HP ε μ) = (vp_in i 7 ∧ K nx lv st (HP ε (mup μ 9 i.toNatClampNeg x))) := is_gen HP_9 (fun _ => rfl)
theorem HP_10 : HP ε μ 10 = some (.inr (8, [.int (μ 10 0), .int (μ 10 1), .int (μ 10 2), .int (μ 10 3), .int (μ 10 4), .int (μ 10 5), .ref 11, .ref 12, .ref 13])) := rfl
theorem gf_10_800 : mm_step tab Bd B K Q (.getfield 800) nx lv (.ref 10 :: st) (HP ε μ) = K nx lv ((.int (μ 10 0)) :: st) (HP ε μ) := gf_gen HP_10 rfl rfl
theorem pf_10_800 {x : Int32} : mm_step tab Bd B K Q (.putfield 800) nx lv (.int x :: .ref 10 :: st) (HP ε μ) = K nx lv st (HP ε (mup μ 10 0 x)) := pf_gen HP_10 rfl rfl (Nat.le_of_ble_eq_true rfl) (mm_fit_of rfl (tyX8_ok 0 (by decide)) rfl rfl) rfl
theorem gf_10_801 : mm_step tab Bd B K Q (.getfield 801) nx lv (.ref 10 :: st) (HP ε μ) = K nx lv ((.int (μ 10 1)) :: st) (HP ε μ) := gf_gen HP_10 rfl rfl
theorem pf_10_801 {x : Int32} : mm_step tab Bd B K Q (.putfield 801) nx lv (.int x :: .ref 10 :: st) (HP ε μ) = K nx lv st (HP ε (mup μ 10 1 x)) := pf_gen HP_10 rfl rfl (Nat.le_of_ble_eq_true rfl) (mm_fit_of rfl (tyX8_ok 1 (by decide)) rfl rfl) rfl
theorem gf_10_802 : mm_step tab Bd B K Q (.getfield 802) nx lv (.ref 10 :: st) (HP ε μ) = K nx lv ((.int (μ 10 2)) :: st) (HP ε μ) := gf_gen HP_10 rfl rfl
theorem pf_10_802 {x : Int32} : mm_step tab Bd B K Q (.putfield 802) nx lv (.int x :: .ref 10 :: st) (HP ε μ) = K nx lv st (HP ε (mup μ 10 2 x)) := pf_gen HP_10 rfl rfl (Nat.le_of_ble_eq_true rfl) (mm_fit_of rfl (tyX8_ok 2 (by decide)) rfl rfl) rfl
theorem gf_10_803 : mm_step tab Bd B K Q (.getfield 803) nx lv (.ref 10 :: st) (HP ε μ) = K nx lv ((.int (μ 10 3)) :: st) (HP ε μ) := gf_gen HP_10 rfl rfl
theorem pf_10_803 {x : Int32} : mm_step tab Bd B K Q (.putfield 803) nx lv (.int x :: .ref 10 :: st) (HP ε μ) = K nx lv st (HP ε (mup μ 10 3 x)) := pf_gen HP_10 rfl rfl (Nat.le_of_ble_eq_true rfl) (mm_fit_of rfl (tyX8_ok 3 (by decide)) rfl rfl) rfl
theorem gf_10_804 : mm_step tab Bd B K Q (.getfield 804) nx lv (.ref 10 :: st) (HP ε μ) = K nx lv ((.int (μ 10 4)) :: st) (HP ε μ) := gf_gen HP_10 rfl rfl
theorem pf_10_804 {x : Int32} : mm_step tab Bd B K Q (.putfield 804) nx lv (.int x :: .ref 10 :: st) (HP ε μ) = K nx lv st (HP ε (mup μ 10 4 x)) := pf_gen HP_10 rfl rfl (Nat.le_of_ble_eq_true rfl) (mm_fit_of rfl (tyX8_ok 4 (by decide)) rfl rfl) rfl
theorem gf_10_805 : mm_step tab Bd B K Q (.getfield 805) nx lv (.ref 10 :: st) (HP ε μ) = K nx lv ((.int (μ 10 5)) :: st) (HP ε μ) := gf_gen HP_10 rfl rfl
theorem pf_10_805 {x : Int32} : mm_step tab Bd B K Q (.putfield 805) nx lv (.int x :: .ref 10 :: st) (HP ε μ) = K nx lv st (HP ε (mup μ 10 5 x)) := pf_gen HP_10 rfl rfl (Nat.le_of_ble_eq_true rfl) (mm_fit_of rfl (tyX8_ok 5 (by decide)) rfl rfl) rfl
theorem gf_10_806 : mm_step tab Bd B K Q (.getfield 806) nx lv (.ref 10 :: st) (HP ε μ) = K nx lv ((.ref 11) :: st) (HP ε μ) := gf_gen HP_10 rfl rfl
theorem gf_10_807 : mm_step tab Bd B K Q (.getfield 807) nx lv (.ref 10 :: st) (HP ε μ) = K nx lv ((.ref 12) :: st) (HP ε μ) := gf_gen HP_10 rfl rfl
theorem gf_10_808 : mm_step tab Bd B K Q (.getfield 808) nx lv (.ref 10 :: st) (HP ε μ) = K nx lv ((.ref 13) :: st) (HP ε μ) := gf_gen HP_10 rfl rfl
theorem HP_11 : HP ε μ 11 = some (.inl (.int, 5, .inl (μ 11))) := rfl
theorem al_11 : mm_step tab Bd B K Q .arraylength nx lv (.ref 11 :: st) (HP ε μ) = K nx lv (.int 5 :: st) (HP ε μ) := al_gen HP_11
theorem ld_11 {i : Int32} : mm_step tab Bd B K Q .iaload nx lv (.int i :: .ref 11 :: st) (HP ε μ) = (vp_in i 5 ∧ K nx lv (.int (μ 11 i.toNatClampNeg) :: st) (HP ε μ)) := ia_gen HP_11
theorem sv_11 {i x : Int32} : mm_step tab Bd B K Q .iastore nx lv (.int x :: .int i :: .ref 11 :: st) (HP ε μ) = (vp_in i 5 ∧ K nx lv st (HP ε (mup μ 11 i.toNatClampNeg x))) := is_gen HP_11 (fun _ => rfl)
theorem HP_12 : HP ε μ 12 = some (.inl (.int, 5, .inl (μ 12))) := rfl
theorem al_12 : mm_step tab Bd B K Q .arraylength nx lv (.ref 12 :: st) (HP ε μ) = K nx lv (.int 5 :: st) (HP ε μ) := al_gen HP_12
theorem ld_12 {i : Int32} : mm_step tab Bd B K Q .iaload nx lv (.int i :: .ref 12 :: st) (HP ε μ) = (vp_in i 5 ∧ K nx lv (.int (μ 12 i.toNatClampNeg) :: st) (HP ε μ)) := ia_gen HP_12
theorem sv_12 {i x : Int32} : mm_step tab Bd B K Q .iastore nx lv (.int x :: .int i :: .ref 12 :: st) (HP ε μ) = (vp_in i 5 ∧ K nx lv st (HP ε (mup μ 12 i.toNatClampNeg x))) := is_gen HP_12 (fun _ => rfl)
theorem HP_13 : HP ε μ 13 = some (.inl (.int, 5, .inl (μ 13))) := rfl
theorem al_13 : mm_step tab Bd B K Q .arraylength nx lv (.ref 13 :: st) (HP ε μ) = K nx lv (.int 5 :: st) (HP ε μ) := al_gen HP_13
theorem ld_13 {i : Int32} : mm_step tab Bd B K Q .iaload nx lv (.int i :: .ref 13 :: st) (HP ε μ) = (vp_in i 5 ∧ K nx lv (.int (μ 13 i.toNatClampNeg) :: st) (HP ε μ)) := ia_gen HP_13
theorem sv_13 {i x : Int32} : mm_step tab Bd B K Q .iastore nx lv (.int x :: .int i :: .ref 13 :: st) (HP ε μ) = (vp_in i 5 ∧ K nx lv st (HP ε (mup μ 13 i.toNatClampNeg x))) := is_gen HP_13 (fun _ => rfl)
theorem HP_14 : HP ε μ 14 = some (.inl (.int, 5, .inl (μ 14))) := rfl
theorem al_14 : mm_step tab Bd B K Q .arraylength nx lv (.ref 14 :: st) (HP ε μ) = K nx lv (.int 5 :: st) (HP ε μ) := al_gen HP_14
theorem ld_14 {i : Int32} : mm_step tab Bd B K Q .iaload nx lv (.int i :: .ref 14 :: st) (HP ε μ) = (vp_in i 5 ∧ K nx lv (.int (μ 14 i.toNatClampNeg) :: st) (HP ε μ)) := ia_gen HP_14
theorem sv_14 {i x : Int32} : mm_step tab Bd B K Q .iastore nx lv (.int x :: .int i :: .ref 14 :: st) (HP ε μ) = (vp_in i 5 ∧ K nx lv st (HP ε (mup μ 14 i.toNatClampNeg x))) := is_gen HP_14 (fun _ => rfl)
theorem HP_15 : HP ε μ 15 = some (.inr (6, [.ref 16, .int (μ 15 1)])) := rfl
theorem gf_15_600 : mm_step tab Bd B K Q (.getfield 600) nx lv (.ref 15 :: st) (HP ε μ) = K nx lv ((.ref 16) :: st) (HP ε μ) := gf_gen HP_15 rfl rfl
theorem gf_15_601 : mm_step tab Bd B K Q (.getfield 601) nx lv (.ref 15 :: st) (HP ε μ) = K nx lv ((.int (μ 15 1)) :: st) (HP ε μ) := gf_gen HP_15 rfl rfl
theorem pf_15_601 {x : Int32} : mm_step tab Bd B K Q (.putfield 601) nx lv (.int x :: .ref 15 :: st) (HP ε μ) = K nx lv st (HP ε (mup μ 15 1 x)) := pf_gen HP_15 rfl rfl (Nat.le_of_ble_eq_true rfl) (mm_fit_of rfl (tyX6_ok 1 (by decide)) rfl rfl) rfl
theorem HP_16 : HP ε μ 16 = some (.inl (.int, 240, .inl (μ 16))) := rfl
theorem al_16 : mm_step tab Bd B K Q .arraylength nx lv (.ref 16 :: st) (HP ε μ) = K nx lv (.int 240 :: st) (HP ε μ) := al_gen HP_16
theorem ld_16 {i : Int32} : mm_step tab Bd B K Q .iaload nx lv (.int i :: .ref 16 :: st) (HP ε μ) = (vp_in i 240 ∧ K nx lv (.int (μ 16 i.toNatClampNeg) :: st) (HP ε μ)) := ia_gen HP_16
theorem sv_16 {i x : Int32} : mm_step tab Bd B K Q .iastore nx lv (.int x :: .int i :: .ref 16 :: st) (HP ε μ) = (vp_in i 240 ∧ K nx lv st (HP ε (mup μ 16 i.toNatClampNeg x))) := is_gen HP_16 (fun _ => rfl)
theorem HP_17 : HP ε μ 17 = some (.inr (4, [.ref 18, .ref 24, .ref 28, va_rf ε.2.1, .int (μ 17 4), .ref 32, .ref 33, .ref 34, .ref 35, .int (μ 17 9), .int (μ 17 10), .int (μ 17 11), .ref 36, .ref 37])) := rfl
theorem gf_17_400 : mm_step tab Bd B K Q (.getfield 400) nx lv (.ref 17 :: st) (HP ε μ) = K nx lv ((.ref 18) :: st) (HP ε μ) := gf_gen HP_17 rfl rfl
theorem gf_17_401 : mm_step tab Bd B K Q (.getfield 401) nx lv (.ref 17 :: st) (HP ε μ) = K nx lv ((.ref 24) :: st) (HP ε μ) := gf_gen HP_17 rfl rfl
theorem gf_17_402 : mm_step tab Bd B K Q (.getfield 402) nx lv (.ref 17 :: st) (HP ε μ) = K nx lv ((.ref 28) :: st) (HP ε μ) := gf_gen HP_17 rfl rfl
theorem gf_17_403 : mm_step tab Bd B K Q (.getfield 403) nx lv (.ref 17 :: st) (HP ε μ) = K nx lv ((va_rf ε.2.1) :: st) (HP ε μ) := gf_gen HP_17 rfl rfl
theorem gf_17_404 : mm_step tab Bd B K Q (.getfield 404) nx lv (.ref 17 :: st) (HP ε μ) = K nx lv ((.int (μ 17 4)) :: st) (HP ε μ) := gf_gen HP_17 rfl rfl
theorem pf_17_404 {x : Int32} : mm_step tab Bd B K Q (.putfield 404) nx lv (.int x :: .ref 17 :: st) (HP ε μ) = K nx lv st (HP ε (mup μ 17 4 x)) := pf_gen HP_17 rfl rfl (Nat.le_of_ble_eq_true rfl) (mm_fit_of rfl (tyX4_ok 4 (by decide)) rfl rfl) rfl
theorem gf_17_405 : mm_step tab Bd B K Q (.getfield 405) nx lv (.ref 17 :: st) (HP ε μ) = K nx lv ((.ref 32) :: st) (HP ε μ) := gf_gen HP_17 rfl rfl
theorem gf_17_406 : mm_step tab Bd B K Q (.getfield 406) nx lv (.ref 17 :: st) (HP ε μ) = K nx lv ((.ref 33) :: st) (HP ε μ) := gf_gen HP_17 rfl rfl
theorem gf_17_407 : mm_step tab Bd B K Q (.getfield 407) nx lv (.ref 17 :: st) (HP ε μ) = K nx lv ((.ref 34) :: st) (HP ε μ) := gf_gen HP_17 rfl rfl
theorem gf_17_408 : mm_step tab Bd B K Q (.getfield 408) nx lv (.ref 17 :: st) (HP ε μ) = K nx lv ((.ref 35) :: st) (HP ε μ) := gf_gen HP_17 rfl rfl
theorem gf_17_409 : mm_step tab Bd B K Q (.getfield 409) nx lv (.ref 17 :: st) (HP ε μ) = K nx lv ((.int (μ 17 9)) :: st) (HP ε μ) := gf_gen HP_17 rfl rfl
theorem pf_17_409 {x : Int32} : mm_step tab Bd B K Q (.putfield 409) nx lv (.int x :: .ref 17 :: st) (HP ε μ) = K nx lv st (HP ε (mup μ 17 9 x)) := pf_gen HP_17 rfl rfl (Nat.le_of_ble_eq_true rfl) (mm_fit_of rfl (tyX4_ok 9 (by decide)) rfl rfl) rfl
theorem gf_17_410 : mm_step tab Bd B K Q (.getfield 410) nx lv (.ref 17 :: st) (HP ε μ) = K nx lv ((.int (μ 17 10)) :: st) (HP ε μ) := gf_gen HP_17 rfl rfl
theorem pf_17_410 {x : Int32} : mm_step tab Bd B K Q (.putfield 410) nx lv (.int x :: .ref 17 :: st) (HP ε μ) = K nx lv st (HP ε (mup μ 17 10 x)) := pf_gen HP_17 rfl rfl (Nat.le_of_ble_eq_true rfl) (mm_fit_of rfl (tyX4_ok 10 (by decide)) rfl rfl) rfl
theorem gf_17_411 : mm_step tab Bd B K Q (.getfield 411) nx lv (.ref 17 :: st) (HP ε μ) = K nx lv ((.int (μ 17 11)) :: st) (HP ε μ) := gf_gen HP_17 rfl rfl
theorem pf_17_411 {x : Int32} : mm_step tab Bd B K Q (.putfield 411) nx lv (.int x :: .ref 17 :: st) (HP ε μ) = K nx lv st (HP ε (mup μ 17 11 x)) := pf_gen HP_17 rfl rfl (Nat.le_of_ble_eq_true rfl) (mm_fit_of rfl (tyX4_ok 11 (by decide)) rfl rfl) rfl
theorem gf_17_412 : mm_step tab Bd B K Q (.getfield 412) nx lv (.ref 17 :: st) (HP ε μ) = K nx lv ((.ref 36) :: st) (HP ε μ) := gf_gen HP_17 rfl rfl
theorem gf_17_413 : mm_step tab Bd B K Q (.getfield 413) nx lv (.ref 17 :: st) (HP ε μ) = K nx lv ((.ref 37) :: st) (HP ε μ) := gf_gen HP_17 rfl rfl
theorem HP_18 : HP ε μ 18 = some (.inr (2, [.int (μ 18 0), .int (μ 18 1), .ref 19, .ref 20, .ref 21, .ref 22, .ref 23])) := rfl
theorem gf_18_200 : mm_step tab Bd B K Q (.getfield 200) nx lv (.ref 18 :: st) (HP ε μ) = K nx lv ((.int (μ 18 0)) :: st) (HP ε μ) := gf_gen HP_18 rfl rfl
theorem pf_18_200 {x : Int32} : mm_step tab Bd B K Q (.putfield 200) nx lv (.int x :: .ref 18 :: st) (HP ε μ) = K nx lv st (HP ε (mup μ 18 0 x)) := pf_gen HP_18 rfl rfl (Nat.le_of_ble_eq_true rfl) (mm_fit_of rfl (tyX2_ok 0 (by decide)) rfl rfl) rfl
theorem gf_18_201 : mm_step tab Bd B K Q (.getfield 201) nx lv (.ref 18 :: st) (HP ε μ) = K nx lv ((.int (μ 18 1)) :: st) (HP ε μ) := gf_gen HP_18 rfl rfl
theorem pf_18_201 {x : Int32} : mm_step tab Bd B K Q (.putfield 201) nx lv (.int x :: .ref 18 :: st) (HP ε μ) = K nx lv st (HP ε (mup μ 18 1 x)) := pf_gen HP_18 rfl rfl (Nat.le_of_ble_eq_true rfl) (mm_fit_of rfl (tyX2_ok 1 (by decide)) rfl rfl) rfl
theorem gf_18_202 : mm_step tab Bd B K Q (.getfield 202) nx lv (.ref 18 :: st) (HP ε μ) = K nx lv ((.ref 19) :: st) (HP ε μ) := gf_gen HP_18 rfl rfl
theorem gf_18_203 : mm_step tab Bd B K Q (.getfield 203) nx lv (.ref 18 :: st) (HP ε μ) = K nx lv ((.ref 20) :: st) (HP ε μ) := gf_gen HP_18 rfl rfl
theorem gf_18_204 : mm_step tab Bd B K Q (.getfield 204) nx lv (.ref 18 :: st) (HP ε μ) = K nx lv ((.ref 21) :: st) (HP ε μ) := gf_gen HP_18 rfl rfl
theorem gf_18_205 : mm_step tab Bd B K Q (.getfield 205) nx lv (.ref 18 :: st) (HP ε μ) = K nx lv ((.ref 22) :: st) (HP ε μ) := gf_gen HP_18 rfl rfl
theorem gf_18_206 : mm_step tab Bd B K Q (.getfield 206) nx lv (.ref 18 :: st) (HP ε μ) = K nx lv ((.ref 23) :: st) (HP ε μ) := gf_gen HP_18 rfl rfl
theorem HP_19 : HP ε μ 19 = some (.inl (.int, 7, .inl (μ 19))) := rfl
theorem al_19 : mm_step tab Bd B K Q .arraylength nx lv (.ref 19 :: st) (HP ε μ) = K nx lv (.int 7 :: st) (HP ε μ) := al_gen HP_19
theorem ld_19 {i : Int32} : mm_step tab Bd B K Q .iaload nx lv (.int i :: .ref 19 :: st) (HP ε μ) = (vp_in i 7 ∧ K nx lv (.int (μ 19 i.toNatClampNeg) :: st) (HP ε μ)) := ia_gen HP_19
theorem sv_19 {i x : Int32} : mm_step tab Bd B K Q .iastore nx lv (.int x :: .int i :: .ref 19 :: st) (HP ε μ) = (vp_in i 7 ∧ K nx lv st (HP ε (mup μ 19 i.toNatClampNeg x))) := is_gen HP_19 (fun _ => rfl)
theorem HP_20 : HP ε μ 20 = some (.inl (.int, 7, .inl (μ 20))) := rfl
theorem al_20 : mm_step tab Bd B K Q .arraylength nx lv (.ref 20 :: st) (HP ε μ) = K nx lv (.int 7 :: st) (HP ε μ) := al_gen HP_20
theorem ld_20 {i : Int32} : mm_step tab Bd B K Q .iaload nx lv (.int i :: .ref 20 :: st) (HP ε μ) = (vp_in i 7 ∧ K nx lv (.int (μ 20 i.toNatClampNeg) :: st) (HP ε μ)) := ia_gen HP_20
theorem sv_20 {i x : Int32} : mm_step tab Bd B K Q .iastore nx lv (.int x :: .int i :: .ref 20 :: st) (HP ε μ) = (vp_in i 7 ∧ K nx lv st (HP ε (mup μ 20 i.toNatClampNeg x))) := is_gen HP_20 (fun _ => rfl)
theorem HP_21 : HP ε μ 21 = some (.inl (.int, 7, .inl (μ 21))) := rfl
theorem al_21 : mm_step tab Bd B K Q .arraylength nx lv (.ref 21 :: st) (HP ε μ) = K nx lv (.int 7 :: st) (HP ε μ) := al_gen HP_21
theorem ld_21 {i : Int32} : mm_step tab Bd B K Q .iaload nx lv (.int i :: .ref 21 :: st) (HP ε μ) = (vp_in i 7 ∧ K nx lv (.int (μ 21 i.toNatClampNeg) :: st) (HP ε μ)) := ia_gen HP_21
theorem sv_21 {i x : Int32} : mm_step tab Bd B K Q .iastore nx lv (.int x :: .int i :: .ref 21 :: st) (HP ε μ) = (vp_in i 7 ∧ K nx lv st (HP ε (mup μ 21 i.toNatClampNeg x))) := is_gen HP_21 (fun _ => rfl)
theorem HP_22 : HP ε μ 22 = some (.inl (.int, 7, .inl (μ 22))) := rfl
theorem al_22 : mm_step tab Bd B K Q .arraylength nx lv (.ref 22 :: st) (HP ε μ) = K nx lv (.int 7 :: st) (HP ε μ) := al_gen HP_22
theorem ld_22 {i : Int32} : mm_step tab Bd B K Q .iaload nx lv (.int i :: .ref 22 :: st) (HP ε μ) = (vp_in i 7 ∧ K nx lv (.int (μ 22 i.toNatClampNeg) :: st) (HP ε μ)) := ia_gen HP_22
theorem sv_22 {i x : Int32} : mm_step tab Bd B K Q .iastore nx lv (.int x :: .int i :: .ref 22 :: st) (HP ε μ) = (vp_in i 7 ∧ K nx lv st (HP ε (mup μ 22 i.toNatClampNeg x))) := is_gen HP_22 (fun _ => rfl)
theorem HP_23 : HP ε μ 23 = some (.inl (.int, 7, .inl (μ 23))) := rfl
theorem al_23 : mm_step tab Bd B K Q .arraylength nx lv (.ref 23 :: st) (HP ε μ) = K nx lv (.int 7 :: st) (HP ε μ) := al_gen HP_23
theorem ld_23 {i : Int32} : mm_step tab Bd B K Q .iaload nx lv (.int i :: .ref 23 :: st) (HP ε μ) = (vp_in i 7 ∧ K nx lv (.int (μ 23 i.toNatClampNeg) :: st) (HP ε μ)) := ia_gen HP_23
theorem sv_23 {i x : Int32} : mm_step tab Bd B K Q .iastore nx lv (.int x :: .int i :: .ref 23 :: st) (HP ε μ) = (vp_in i 7 ∧ K nx lv st (HP ε (mup μ 23 i.toNatClampNeg x))) := is_gen HP_23 (fun _ => rfl)
theorem HP_24 : HP ε μ 24 = some (.inr (8, [.int (μ 24 0), .int (μ 24 1), .int (μ 24 2), .int (μ 24 3), .int (μ 24 4), .int (μ 24 5), .ref 25, .ref 26, .ref 27])) := rfl
theorem gf_24_800 : mm_step tab Bd B K Q (.getfield 800) nx lv (.ref 24 :: st) (HP ε μ) = K nx lv ((.int (μ 24 0)) :: st) (HP ε μ) := gf_gen HP_24 rfl rfl
theorem pf_24_800 {x : Int32} : mm_step tab Bd B K Q (.putfield 800) nx lv (.int x :: .ref 24 :: st) (HP ε μ) = K nx lv st (HP ε (mup μ 24 0 x)) := pf_gen HP_24 rfl rfl (Nat.le_of_ble_eq_true rfl) (mm_fit_of rfl (tyX8_ok 0 (by decide)) rfl rfl) rfl
theorem gf_24_801 : mm_step tab Bd B K Q (.getfield 801) nx lv (.ref 24 :: st) (HP ε μ) = K nx lv ((.int (μ 24 1)) :: st) (HP ε μ) := gf_gen HP_24 rfl rfl
theorem pf_24_801 {x : Int32} : mm_step tab Bd B K Q (.putfield 801) nx lv (.int x :: .ref 24 :: st) (HP ε μ) = K nx lv st (HP ε (mup μ 24 1 x)) := pf_gen HP_24 rfl rfl (Nat.le_of_ble_eq_true rfl) (mm_fit_of rfl (tyX8_ok 1 (by decide)) rfl rfl) rfl
theorem gf_24_802 : mm_step tab Bd B K Q (.getfield 802) nx lv (.ref 24 :: st) (HP ε μ) = K nx lv ((.int (μ 24 2)) :: st) (HP ε μ) := gf_gen HP_24 rfl rfl
theorem pf_24_802 {x : Int32} : mm_step tab Bd B K Q (.putfield 802) nx lv (.int x :: .ref 24 :: st) (HP ε μ) = K nx lv st (HP ε (mup μ 24 2 x)) := pf_gen HP_24 rfl rfl (Nat.le_of_ble_eq_true rfl) (mm_fit_of rfl (tyX8_ok 2 (by decide)) rfl rfl) rfl
theorem gf_24_803 : mm_step tab Bd B K Q (.getfield 803) nx lv (.ref 24 :: st) (HP ε μ) = K nx lv ((.int (μ 24 3)) :: st) (HP ε μ) := gf_gen HP_24 rfl rfl
theorem pf_24_803 {x : Int32} : mm_step tab Bd B K Q (.putfield 803) nx lv (.int x :: .ref 24 :: st) (HP ε μ) = K nx lv st (HP ε (mup μ 24 3 x)) := pf_gen HP_24 rfl rfl (Nat.le_of_ble_eq_true rfl) (mm_fit_of rfl (tyX8_ok 3 (by decide)) rfl rfl) rfl
theorem gf_24_804 : mm_step tab Bd B K Q (.getfield 804) nx lv (.ref 24 :: st) (HP ε μ) = K nx lv ((.int (μ 24 4)) :: st) (HP ε μ) := gf_gen HP_24 rfl rfl
theorem pf_24_804 {x : Int32} : mm_step tab Bd B K Q (.putfield 804) nx lv (.int x :: .ref 24 :: st) (HP ε μ) = K nx lv st (HP ε (mup μ 24 4 x)) := pf_gen HP_24 rfl rfl (Nat.le_of_ble_eq_true rfl) (mm_fit_of rfl (tyX8_ok 4 (by decide)) rfl rfl) rfl
theorem gf_24_805 : mm_step tab Bd B K Q (.getfield 805) nx lv (.ref 24 :: st) (HP ε μ) = K nx lv ((.int (μ 24 5)) :: st) (HP ε μ) := gf_gen HP_24 rfl rfl
theorem pf_24_805 {x : Int32} : mm_step tab Bd B K Q (.putfield 805) nx lv (.int x :: .ref 24 :: st) (HP ε μ) = K nx lv st (HP ε (mup μ 24 5 x)) := pf_gen HP_24 rfl rfl (Nat.le_of_ble_eq_true rfl) (mm_fit_of rfl (tyX8_ok 5 (by decide)) rfl rfl) rfl
theorem gf_24_806 : mm_step tab Bd B K Q (.getfield 806) nx lv (.ref 24 :: st) (HP ε μ) = K nx lv ((.ref 25) :: st) (HP ε μ) := gf_gen HP_24 rfl rfl
theorem gf_24_807 : mm_step tab Bd B K Q (.getfield 807) nx lv (.ref 24 :: st) (HP ε μ) = K nx lv ((.ref 26) :: st) (HP ε μ) := gf_gen HP_24 rfl rfl
theorem gf_24_808 : mm_step tab Bd B K Q (.getfield 808) nx lv (.ref 24 :: st) (HP ε μ) = K nx lv ((.ref 27) :: st) (HP ε μ) := gf_gen HP_24 rfl rfl
theorem HP_25 : HP ε μ 25 = some (.inl (.int, 5, .inl (μ 25))) := rfl
theorem al_25 : mm_step tab Bd B K Q .arraylength nx lv (.ref 25 :: st) (HP ε μ) = K nx lv (.int 5 :: st) (HP ε μ) := al_gen HP_25
theorem ld_25 {i : Int32} : mm_step tab Bd B K Q .iaload nx lv (.int i :: .ref 25 :: st) (HP ε μ) = (vp_in i 5 ∧ K nx lv (.int (μ 25 i.toNatClampNeg) :: st) (HP ε μ)) := ia_gen HP_25
theorem sv_25 {i x : Int32} : mm_step tab Bd B K Q .iastore nx lv (.int x :: .int i :: .ref 25 :: st) (HP ε μ) = (vp_in i 5 ∧ K nx lv st (HP ε (mup μ 25 i.toNatClampNeg x))) := is_gen HP_25 (fun _ => rfl)
theorem HP_26 : HP ε μ 26 = some (.inl (.int, 5, .inl (μ 26))) := rfl
theorem al_26 : mm_step tab Bd B K Q .arraylength nx lv (.ref 26 :: st) (HP ε μ) = K nx lv (.int 5 :: st) (HP ε μ) := al_gen HP_26
theorem ld_26 {i : Int32} : mm_step tab Bd B K Q .iaload nx lv (.int i :: .ref 26 :: st) (HP ε μ) = (vp_in i 5 ∧ K nx lv (.int (μ 26 i.toNatClampNeg) :: st) (HP ε μ)) := ia_gen HP_26
theorem sv_26 {i x : Int32} : mm_step tab Bd B K Q .iastore nx lv (.int x :: .int i :: .ref 26 :: st) (HP ε μ) = (vp_in i 5 ∧ K nx lv st (HP ε (mup μ 26 i.toNatClampNeg x))) := is_gen HP_26 (fun _ => rfl)
theorem HP_27 : HP ε μ 27 = some (.inl (.int, 5, .inl (μ 27))) := rfl
theorem al_27 : mm_step tab Bd B K Q .arraylength nx lv (.ref 27 :: st) (HP ε μ) = K nx lv (.int 5 :: st) (HP ε μ) := al_gen HP_27
theorem ld_27 {i : Int32} : mm_step tab Bd B K Q .iaload nx lv (.int i :: .ref 27 :: st) (HP ε μ) = (vp_in i 5 ∧ K nx lv (.int (μ 27 i.toNatClampNeg) :: st) (HP ε μ)) := ia_gen HP_27
theorem sv_27 {i x : Int32} : mm_step tab Bd B K Q .iastore nx lv (.int x :: .int i :: .ref 27 :: st) (HP ε μ) = (vp_in i 5 ∧ K nx lv st (HP ε (mup μ 27 i.toNatClampNeg x))) := is_gen HP_27 (fun _ => rfl)
theorem HP_28 : HP ε μ 28 = some (.inr (8, [.int (μ 28 0), .int (μ 28 1), .int (μ 28 2), .int (μ 28 3), .int (μ 28 4), .int (μ 28 5), .ref 29, .ref 30, .ref 31])) := rfl
theorem gf_28_800 : mm_step tab Bd B K Q (.getfield 800) nx lv (.ref 28 :: st) (HP ε μ) = K nx lv ((.int (μ 28 0)) :: st) (HP ε μ) := gf_gen HP_28 rfl rfl
theorem pf_28_800 {x : Int32} : mm_step tab Bd B K Q (.putfield 800) nx lv (.int x :: .ref 28 :: st) (HP ε μ) = K nx lv st (HP ε (mup μ 28 0 x)) := pf_gen HP_28 rfl rfl (Nat.le_of_ble_eq_true rfl) (mm_fit_of rfl (tyX8_ok 0 (by decide)) rfl rfl) rfl
theorem gf_28_801 : mm_step tab Bd B K Q (.getfield 801) nx lv (.ref 28 :: st) (HP ε μ) = K nx lv ((.int (μ 28 1)) :: st) (HP ε μ) := gf_gen HP_28 rfl rfl
theorem pf_28_801 {x : Int32} : mm_step tab Bd B K Q (.putfield 801) nx lv (.int x :: .ref 28 :: st) (HP ε μ) = K nx lv st (HP ε (mup μ 28 1 x)) := pf_gen HP_28 rfl rfl (Nat.le_of_ble_eq_true rfl) (mm_fit_of rfl (tyX8_ok 1 (by decide)) rfl rfl) rfl
theorem gf_28_802 : mm_step tab Bd B K Q (.getfield 802) nx lv (.ref 28 :: st) (HP ε μ) = K nx lv ((.int (μ 28 2)) :: st) (HP ε μ) := gf_gen HP_28 rfl rfl
theorem pf_28_802 {x : Int32} : mm_step tab Bd B K Q (.putfield 802) nx lv (.int x :: .ref 28 :: st) (HP ε μ) = K nx lv st (HP ε (mup μ 28 2 x)) := pf_gen HP_28 rfl rfl (Nat.le_of_ble_eq_true rfl) (mm_fit_of rfl (tyX8_ok 2 (by decide)) rfl rfl) rfl
theorem gf_28_803 : mm_step tab Bd B K Q (.getfield 803) nx lv (.ref 28 :: st) (HP ε μ) = K nx lv ((.int (μ 28 3)) :: st) (HP ε μ) := gf_gen HP_28 rfl rfl
theorem pf_28_803 {x : Int32} : mm_step tab Bd B K Q (.putfield 803) nx lv (.int x :: .ref 28 :: st) (HP ε μ) = K nx lv st (HP ε (mup μ 28 3 x)) := pf_gen HP_28 rfl rfl (Nat.le_of_ble_eq_true rfl) (mm_fit_of rfl (tyX8_ok 3 (by decide)) rfl rfl) rfl
theorem gf_28_804 : mm_step tab Bd B K Q (.getfield 804) nx lv (.ref 28 :: st) (HP ε μ) = K nx lv ((.int (μ 28 4)) :: st) (HP ε μ) := gf_gen HP_28 rfl rfl
theorem pf_28_804 {x : Int32} : mm_step tab Bd B K Q (.putfield 804) nx lv (.int x :: .ref 28 :: st) (HP ε μ) = K nx lv st (HP ε (mup μ 28 4 x)) := pf_gen HP_28 rfl rfl (Nat.le_of_ble_eq_true rfl) (mm_fit_of rfl (tyX8_ok 4 (by decide)) rfl rfl) rfl
theorem gf_28_805 : mm_step tab Bd B K Q (.getfield 805) nx lv (.ref 28 :: st) (HP ε μ) = K nx lv ((.int (μ 28 5)) :: st) (HP ε μ) := gf_gen HP_28 rfl rfl
theorem pf_28_805 {x : Int32} : mm_step tab Bd B K Q (.putfield 805) nx lv (.int x :: .ref 28 :: st) (HP ε μ) = K nx lv st (HP ε (mup μ 28 5 x)) := pf_gen HP_28 rfl rfl (Nat.le_of_ble_eq_true rfl) (mm_fit_of rfl (tyX8_ok 5 (by decide)) rfl rfl) rfl
theorem gf_28_806 : mm_step tab Bd B K Q (.getfield 806) nx lv (.ref 28 :: st) (HP ε μ) = K nx lv ((.ref 29) :: st) (HP ε μ) := gf_gen HP_28 rfl rfl
theorem gf_28_807 : mm_step tab Bd B K Q (.getfield 807) nx lv (.ref 28 :: st) (HP ε μ) = K nx lv ((.ref 30) :: st) (HP ε μ) := gf_gen HP_28 rfl rfl
theorem gf_28_808 : mm_step tab Bd B K Q (.getfield 808) nx lv (.ref 28 :: st) (HP ε μ) = K nx lv ((.ref 31) :: st) (HP ε μ) := gf_gen HP_28 rfl rfl
theorem HP_29 : HP ε μ 29 = some (.inl (.int, 5, .inl (μ 29))) := rfl
theorem al_29 : mm_step tab Bd B K Q .arraylength nx lv (.ref 29 :: st) (HP ε μ) = K nx lv (.int 5 :: st) (HP ε μ) := al_gen HP_29
theorem ld_29 {i : Int32} : mm_step tab Bd B K Q .iaload nx lv (.int i :: .ref 29 :: st) (HP ε μ) = (vp_in i 5 ∧ K nx lv (.int (μ 29 i.toNatClampNeg) :: st) (HP ε μ)) := ia_gen HP_29
theorem sv_29 {i x : Int32} : mm_step tab Bd B K Q .iastore nx lv (.int x :: .int i :: .ref 29 :: st) (HP ε μ) = (vp_in i 5 ∧ K nx lv st (HP ε (mup μ 29 i.toNatClampNeg x))) := is_gen HP_29 (fun _ => rfl)
theorem HP_30 : HP ε μ 30 = some (.inl (.int, 5, .inl (μ 30))) := rfl
theorem al_30 : mm_step tab Bd B K Q .arraylength nx lv (.ref 30 :: st) (HP ε μ) = K nx lv (.int 5 :: st) (HP ε μ) := al_gen HP_30
theorem ld_30 {i : Int32} : mm_step tab Bd B K Q .iaload nx lv (.int i :: .ref 30 :: st) (HP ε μ) = (vp_in i 5 ∧ K nx lv (.int (μ 30 i.toNatClampNeg) :: st) (HP ε μ)) := ia_gen HP_30
theorem sv_30 {i x : Int32} : mm_step tab Bd B K Q .iastore nx lv (.int x :: .int i :: .ref 30 :: st) (HP ε μ) = (vp_in i 5 ∧ K nx lv st (HP ε (mup μ 30 i.toNatClampNeg x))) := is_gen HP_30 (fun _ => rfl)
theorem HP_31 : HP ε μ 31 = some (.inl (.int, 5, .inl (μ 31))) := rfl
theorem al_31 : mm_step tab Bd B K Q .arraylength nx lv (.ref 31 :: st) (HP ε μ) = K nx lv (.int 5 :: st) (HP ε μ) := al_gen HP_31
theorem ld_31 {i : Int32} : mm_step tab Bd B K Q .iaload nx lv (.int i :: .ref 31 :: st) (HP ε μ) = (vp_in i 5 ∧ K nx lv (.int (μ 31 i.toNatClampNeg) :: st) (HP ε μ)) := ia_gen HP_31
theorem sv_31 {i x : Int32} : mm_step tab Bd B K Q .iastore nx lv (.int x :: .int i :: .ref 31 :: st) (HP ε μ) = (vp_in i 5 ∧ K nx lv st (HP ε (mup μ 31 i.toNatClampNeg x))) := is_gen HP_31 (fun _ => rfl)
theorem HP_32 : HP ε μ 32 = some (.inl (.int, 7, .inl (μ 32))) := rfl
theorem al_32 : mm_step tab Bd B K Q .arraylength nx lv (.ref 32 :: st) (HP ε μ) = K nx lv (.int 7 :: st) (HP ε μ) := al_gen HP_32
theorem ld_32 {i : Int32} : mm_step tab Bd B K Q .iaload nx lv (.int i :: .ref 32 :: st) (HP ε μ) = (vp_in i 7 ∧ K nx lv (.int (μ 32 i.toNatClampNeg) :: st) (HP ε μ)) := ia_gen HP_32
theorem sv_32 {i x : Int32} : mm_step tab Bd B K Q .iastore nx lv (.int x :: .int i :: .ref 32 :: st) (HP ε μ) = (vp_in i 7 ∧ K nx lv st (HP ε (mup μ 32 i.toNatClampNeg x))) := is_gen HP_32 (fun _ => rfl)
theorem HP_33 : HP ε μ 33 = some (.inl (.int, 7, .inl (μ 33))) := rfl
theorem al_33 : mm_step tab Bd B K Q .arraylength nx lv (.ref 33 :: st) (HP ε μ) = K nx lv (.int 7 :: st) (HP ε μ) := al_gen HP_33
theorem ld_33 {i : Int32} : mm_step tab Bd B K Q .iaload nx lv (.int i :: .ref 33 :: st) (HP ε μ) = (vp_in i 7 ∧ K nx lv (.int (μ 33 i.toNatClampNeg) :: st) (HP ε μ)) := ia_gen HP_33
theorem sv_33 {i x : Int32} : mm_step tab Bd B K Q .iastore nx lv (.int x :: .int i :: .ref 33 :: st) (HP ε μ) = (vp_in i 7 ∧ K nx lv st (HP ε (mup μ 33 i.toNatClampNeg x))) := is_gen HP_33 (fun _ => rfl)
theorem HP_34 : HP ε μ 34 = some (.inl (.int, 5, .inl (μ 34))) := rfl
theorem al_34 : mm_step tab Bd B K Q .arraylength nx lv (.ref 34 :: st) (HP ε μ) = K nx lv (.int 5 :: st) (HP ε μ) := al_gen HP_34
theorem ld_34 {i : Int32} : mm_step tab Bd B K Q .iaload nx lv (.int i :: .ref 34 :: st) (HP ε μ) = (vp_in i 5 ∧ K nx lv (.int (μ 34 i.toNatClampNeg) :: st) (HP ε μ)) := ia_gen HP_34
theorem sv_34 {i x : Int32} : mm_step tab Bd B K Q .iastore nx lv (.int x :: .int i :: .ref 34 :: st) (HP ε μ) = (vp_in i 5 ∧ K nx lv st (HP ε (mup μ 34 i.toNatClampNeg x))) := is_gen HP_34 (fun _ => rfl)
theorem HP_35 : HP ε μ 35 = some (.inl (.int, 5, .inl (μ 35))) := rfl
theorem al_35 : mm_step tab Bd B K Q .arraylength nx lv (.ref 35 :: st) (HP ε μ) = K nx lv (.int 5 :: st) (HP ε μ) := al_gen HP_35
theorem ld_35 {i : Int32} : mm_step tab Bd B K Q .iaload nx lv (.int i :: .ref 35 :: st) (HP ε μ) = (vp_in i 5 ∧ K nx lv (.int (μ 35 i.toNatClampNeg) :: st) (HP ε μ)) := ia_gen HP_35
theorem sv_35 {i x : Int32} : mm_step tab Bd B K Q .iastore nx lv (.int x :: .int i :: .ref 35 :: st) (HP ε μ) = (vp_in i 5 ∧ K nx lv st (HP ε (mup μ 35 i.toNatClampNeg x))) := is_gen HP_35 (fun _ => rfl)
theorem HP_36 : HP ε μ 36 = some (.inl (.int, 5, .inl (μ 36))) := rfl
theorem al_36 : mm_step tab Bd B K Q .arraylength nx lv (.ref 36 :: st) (HP ε μ) = K nx lv (.int 5 :: st) (HP ε μ) := al_gen HP_36
theorem ld_36 {i : Int32} : mm_step tab Bd B K Q .iaload nx lv (.int i :: .ref 36 :: st) (HP ε μ) = (vp_in i 5 ∧ K nx lv (.int (μ 36 i.toNatClampNeg) :: st) (HP ε μ)) := ia_gen HP_36
theorem sv_36 {i x : Int32} : mm_step tab Bd B K Q .iastore nx lv (.int x :: .int i :: .ref 36 :: st) (HP ε μ) = (vp_in i 5 ∧ K nx lv st (HP ε (mup μ 36 i.toNatClampNeg x))) := is_gen HP_36 (fun _ => rfl)
theorem HP_37 : HP ε μ 37 = some (.inl (.int, 6, .inl (μ 37))) := rfl
theorem al_37 : mm_step tab Bd B K Q .arraylength nx lv (.ref 37 :: st) (HP ε μ) = K nx lv (.int 6 :: st) (HP ε μ) := al_gen HP_37
theorem ld_37 {i : Int32} : mm_step tab Bd B K Q .iaload nx lv (.int i :: .ref 37 :: st) (HP ε μ) = (vp_in i 6 ∧ K nx lv (.int (μ 37 i.toNatClampNeg) :: st) (HP ε μ)) := ia_gen HP_37
theorem sv_37 {i x : Int32} : mm_step tab Bd B K Q .iastore nx lv (.int x :: .int i :: .ref 37 :: st) (HP ε μ) = (vp_in i 6 ∧ K nx lv st (HP ε (mup μ 37 i.toNatClampNeg x))) := is_gen HP_37 (fun _ => rfl)
theorem HP_39 : HP ε μ 39 = some (.inl (.int, 5, .inl (μ 39))) := rfl
theorem al_39 : mm_step tab Bd B K Q .arraylength nx lv (.ref 39 :: st) (HP ε μ) = K nx lv (.int 5 :: st) (HP ε μ) := al_gen HP_39
theorem ld_39 {i : Int32} : mm_step tab Bd B K Q .iaload nx lv (.int i :: .ref 39 :: st) (HP ε μ) = (vp_in i 5 ∧ K nx lv (.int (μ 39 i.toNatClampNeg) :: st) (HP ε μ)) := ia_gen HP_39
theorem sv_39 {i x : Int32} : mm_step tab Bd B K Q .iastore nx lv (.int x :: .int i :: .ref 39 :: st) (HP ε μ) = (vp_in i 5 ∧ K nx lv st (HP ε (mup μ 39 i.toNatClampNeg x))) := is_gen HP_39 (fun _ => rfl)
theorem HP_40 : HP ε μ 40 = some (.inr (7, [.int (μ 40 0), .int (μ 40 1), .ref 41, .ref 42, .int (μ 40 4), .ref 43, .ref 44])) := rfl
theorem gf_40_700 : mm_step tab Bd B K Q (.getfield 700) nx lv (.ref 40 :: st) (HP ε μ) = K nx lv ((.int (μ 40 0)) :: st) (HP ε μ) := gf_gen HP_40 rfl rfl
theorem pf_40_700 {x : Int32} : mm_step tab Bd B K Q (.putfield 700) nx lv (.int x :: .ref 40 :: st) (HP ε μ) = K nx lv st (HP ε (mup μ 40 0 x)) := pf_gen HP_40 rfl rfl (Nat.le_of_ble_eq_true rfl) (mm_fit_of rfl (tyX7_ok 0 (by decide)) rfl rfl) rfl
theorem gf_40_701 : mm_step tab Bd B K Q (.getfield 701) nx lv (.ref 40 :: st) (HP ε μ) = K nx lv ((.int (μ 40 1)) :: st) (HP ε μ) := gf_gen HP_40 rfl rfl
theorem pf_40_701 {x : Int32} : mm_step tab Bd B K Q (.putfield 701) nx lv (.int x :: .ref 40 :: st) (HP ε μ) = K nx lv st (HP ε (mup μ 40 1 x)) := pf_gen HP_40 rfl rfl (Nat.le_of_ble_eq_true rfl) (mm_fit_of rfl (tyX7_ok 1 (by decide)) rfl rfl) rfl
theorem gf_40_702 : mm_step tab Bd B K Q (.getfield 702) nx lv (.ref 40 :: st) (HP ε μ) = K nx lv ((.ref 41) :: st) (HP ε μ) := gf_gen HP_40 rfl rfl
theorem gf_40_703 : mm_step tab Bd B K Q (.getfield 703) nx lv (.ref 40 :: st) (HP ε μ) = K nx lv ((.ref 42) :: st) (HP ε μ) := gf_gen HP_40 rfl rfl
theorem gf_40_704 : mm_step tab Bd B K Q (.getfield 704) nx lv (.ref 40 :: st) (HP ε μ) = K nx lv ((.int (μ 40 4)) :: st) (HP ε μ) := gf_gen HP_40 rfl rfl
theorem pf_40_704_0 : mm_step tab Bd B K Q (.putfield 704) nx lv (.int 0 :: .ref 40 :: st) (HP ε μ) = K nx lv st (HP ε (mup μ 40 4 0)) := pf_gen HP_40 rfl rfl (Nat.le_of_ble_eq_true rfl) (mm_fit_of rfl (tyX7_ok 4 (by decide)) (by decide) (by decide)) rfl
theorem pf_40_704_1 : mm_step tab Bd B K Q (.putfield 704) nx lv (.int 1 :: .ref 40 :: st) (HP ε μ) = K nx lv st (HP ε (mup μ 40 4 1)) := pf_gen HP_40 rfl rfl (Nat.le_of_ble_eq_true rfl) (mm_fit_of rfl (tyX7_ok 4 (by decide)) (by decide) (by decide)) rfl
theorem gf_40_705 : mm_step tab Bd B K Q (.getfield 705) nx lv (.ref 40 :: st) (HP ε μ) = K nx lv ((.ref 43) :: st) (HP ε μ) := gf_gen HP_40 rfl rfl
theorem gf_40_706 : mm_step tab Bd B K Q (.getfield 706) nx lv (.ref 40 :: st) (HP ε μ) = K nx lv ((.ref 44) :: st) (HP ε μ) := gf_gen HP_40 rfl rfl
theorem HP_41 : HP ε μ 41 = some (.inl (.int, 840, .inl (μ 41))) := rfl
theorem al_41 : mm_step tab Bd B K Q .arraylength nx lv (.ref 41 :: st) (HP ε μ) = K nx lv (.int 840 :: st) (HP ε μ) := al_gen HP_41
theorem ld_41 {i : Int32} : mm_step tab Bd B K Q .iaload nx lv (.int i :: .ref 41 :: st) (HP ε μ) = (vp_in i 840 ∧ K nx lv (.int (μ 41 i.toNatClampNeg) :: st) (HP ε μ)) := ia_gen HP_41
theorem sv_41 {i x : Int32} : mm_step tab Bd B K Q .iastore nx lv (.int x :: .int i :: .ref 41 :: st) (HP ε μ) = (vp_in i 840 ∧ K nx lv st (HP ε (mup μ 41 i.toNatClampNeg x))) := is_gen HP_41 (fun _ => rfl)
theorem HP_42 : HP ε μ 42 = some (.inl (.int, 100, .inl (μ 42))) := rfl
theorem al_42 : mm_step tab Bd B K Q .arraylength nx lv (.ref 42 :: st) (HP ε μ) = K nx lv (.int 100 :: st) (HP ε μ) := al_gen HP_42
theorem ld_42 {i : Int32} : mm_step tab Bd B K Q .iaload nx lv (.int i :: .ref 42 :: st) (HP ε μ) = (vp_in i 100 ∧ K nx lv (.int (μ 42 i.toNatClampNeg) :: st) (HP ε μ)) := ia_gen HP_42
theorem sv_42 {i x : Int32} : mm_step tab Bd B K Q .iastore nx lv (.int x :: .int i :: .ref 42 :: st) (HP ε μ) = (vp_in i 100 ∧ K nx lv st (HP ε (mup μ 42 i.toNatClampNeg x))) := is_gen HP_42 (fun _ => rfl)
theorem HP_43 : HP ε μ 43 = some (.inl (.int, 21, .inl (μ 43))) := rfl
theorem al_43 : mm_step tab Bd B K Q .arraylength nx lv (.ref 43 :: st) (HP ε μ) = K nx lv (.int 21 :: st) (HP ε μ) := al_gen HP_43
theorem ld_43 {i : Int32} : mm_step tab Bd B K Q .iaload nx lv (.int i :: .ref 43 :: st) (HP ε μ) = (vp_in i 21 ∧ K nx lv (.int (μ 43 i.toNatClampNeg) :: st) (HP ε μ)) := ia_gen HP_43
theorem sv_43 {i x : Int32} : mm_step tab Bd B K Q .iastore nx lv (.int x :: .int i :: .ref 43 :: st) (HP ε μ) = (vp_in i 21 ∧ K nx lv st (HP ε (mup μ 43 i.toNatClampNeg x))) := is_gen HP_43 (fun _ => rfl)
theorem HP_44 : HP ε μ 44 = some (.inl (.int, 100, .inl (μ 44))) := rfl
theorem al_44 : mm_step tab Bd B K Q .arraylength nx lv (.ref 44 :: st) (HP ε μ) = K nx lv (.int 100 :: st) (HP ε μ) := al_gen HP_44
theorem ld_44 {i : Int32} : mm_step tab Bd B K Q .iaload nx lv (.int i :: .ref 44 :: st) (HP ε μ) = (vp_in i 100 ∧ K nx lv (.int (μ 44 i.toNatClampNeg) :: st) (HP ε μ)) := ia_gen HP_44
theorem sv_44 {i x : Int32} : mm_step tab Bd B K Q .iastore nx lv (.int x :: .int i :: .ref 44 :: st) (HP ε μ) = (vp_in i 100 ∧ K nx lv st (HP ε (mup μ 44 i.toNatClampNeg x))) := is_gen HP_44 (fun _ => rfl)
theorem HP_45 : HP ε μ 45 = some (.inr (9, [.int (μ 45 0), .ref 46, .ref 47, .ref 48, .ref 49])) := rfl
theorem gf_45_900 : mm_step tab Bd B K Q (.getfield 900) nx lv (.ref 45 :: st) (HP ε μ) = K nx lv ((.int (μ 45 0)) :: st) (HP ε μ) := gf_gen HP_45 rfl rfl
theorem pf_45_900 {x : Int32} : mm_step tab Bd B K Q (.putfield 900) nx lv (.int x :: .ref 45 :: st) (HP ε μ) = K nx lv st (HP ε (mup μ 45 0 x)) := pf_gen HP_45 rfl rfl (Nat.le_of_ble_eq_true rfl) (mm_fit_of rfl (tyX9_ok 0 (by decide)) rfl rfl) rfl
theorem gf_45_901 : mm_step tab Bd B K Q (.getfield 901) nx lv (.ref 45 :: st) (HP ε μ) = K nx lv ((.ref 46) :: st) (HP ε μ) := gf_gen HP_45 rfl rfl
theorem gf_45_902 : mm_step tab Bd B K Q (.getfield 902) nx lv (.ref 45 :: st) (HP ε μ) = K nx lv ((.ref 47) :: st) (HP ε μ) := gf_gen HP_45 rfl rfl
theorem gf_45_903 : mm_step tab Bd B K Q (.getfield 903) nx lv (.ref 45 :: st) (HP ε μ) = K nx lv ((.ref 48) :: st) (HP ε μ) := gf_gen HP_45 rfl rfl
theorem gf_45_904 : mm_step tab Bd B K Q (.getfield 904) nx lv (.ref 45 :: st) (HP ε μ) = K nx lv ((.ref 49) :: st) (HP ε μ) := gf_gen HP_45 rfl rfl
theorem HP_46 : HP ε μ 46 = some (.inl (.int, 10, .inl (μ 46))) := rfl
theorem al_46 : mm_step tab Bd B K Q .arraylength nx lv (.ref 46 :: st) (HP ε μ) = K nx lv (.int 10 :: st) (HP ε μ) := al_gen HP_46
theorem ld_46 {i : Int32} : mm_step tab Bd B K Q .iaload nx lv (.int i :: .ref 46 :: st) (HP ε μ) = (vp_in i 10 ∧ K nx lv (.int (μ 46 i.toNatClampNeg) :: st) (HP ε μ)) := ia_gen HP_46
theorem sv_46 {i x : Int32} : mm_step tab Bd B K Q .iastore nx lv (.int x :: .int i :: .ref 46 :: st) (HP ε μ) = (vp_in i 10 ∧ K nx lv st (HP ε (mup μ 46 i.toNatClampNeg x))) := is_gen HP_46 (fun _ => rfl)
theorem HP_47 : HP ε μ 47 = some (.inl (.int, 10, .inl (μ 47))) := rfl
theorem al_47 : mm_step tab Bd B K Q .arraylength nx lv (.ref 47 :: st) (HP ε μ) = K nx lv (.int 10 :: st) (HP ε μ) := al_gen HP_47
theorem ld_47 {i : Int32} : mm_step tab Bd B K Q .iaload nx lv (.int i :: .ref 47 :: st) (HP ε μ) = (vp_in i 10 ∧ K nx lv (.int (μ 47 i.toNatClampNeg) :: st) (HP ε μ)) := ia_gen HP_47
theorem sv_47 {i x : Int32} : mm_step tab Bd B K Q .iastore nx lv (.int x :: .int i :: .ref 47 :: st) (HP ε μ) = (vp_in i 10 ∧ K nx lv st (HP ε (mup μ 47 i.toNatClampNeg x))) := is_gen HP_47 (fun _ => rfl)
theorem HP_48 : HP ε μ 48 = some (.inl (.int, 10, .inl (μ 48))) := rfl
theorem al_48 : mm_step tab Bd B K Q .arraylength nx lv (.ref 48 :: st) (HP ε μ) = K nx lv (.int 10 :: st) (HP ε μ) := al_gen HP_48
theorem ld_48 {i : Int32} : mm_step tab Bd B K Q .iaload nx lv (.int i :: .ref 48 :: st) (HP ε μ) = (vp_in i 10 ∧ K nx lv (.int (μ 48 i.toNatClampNeg) :: st) (HP ε μ)) := ia_gen HP_48
theorem sv_48 {i x : Int32} : mm_step tab Bd B K Q .iastore nx lv (.int x :: .int i :: .ref 48 :: st) (HP ε μ) = (vp_in i 10 ∧ K nx lv st (HP ε (mup μ 48 i.toNatClampNeg x))) := is_gen HP_48 (fun _ => rfl)
theorem HP_49 : HP ε μ 49 = some (.inl (.boolean, 10, .inl (μ 49))) := rfl
theorem al_49 : mm_step tab Bd B K Q .arraylength nx lv (.ref 49 :: st) (HP ε μ) = K nx lv (.int 10 :: st) (HP ε μ) := al_gen HP_49
theorem ld_49 {i : Int32} : mm_step tab Bd B K Q .baload nx lv (.int i :: .ref 49 :: st) (HP ε μ) = (vp_in i 10 ∧ K nx lv (.int (μ 49 i.toNatClampNeg) :: st) (HP ε μ)) := za_gen HP_49
theorem sv_49 {i x : Int32} : mm_step tab Bd B K Q .bastore nx lv (.int x :: .int i :: .ref 49 :: st) (HP ε μ) = (vp_in i 10 ∧ K nx lv st (HP ε (mup μ 49 i.toNatClampNeg (vp_nar .boolean x)))) := zs_gen HP_49 (fun _ => rfl)
theorem HP_50 : HP ε μ 50 = some (.inr (0, [.int (μ 50 0), .ref 51, .ref 52])) := rfl
theorem gf_50_0 : mm_step tab Bd B K Q (.getfield 0) nx lv (.ref 50 :: st) (HP ε μ) = K nx lv ((.int (μ 50 0)) :: st) (HP ε μ) := gf_gen HP_50 rfl rfl
theorem pf_50_0 {x : Int32} : mm_step tab Bd B K Q (.putfield 0) nx lv (.int x :: .ref 50 :: st) (HP ε μ) = K nx lv st (HP ε (mup μ 50 0 x)) := pf_gen HP_50 rfl rfl (Nat.le_of_ble_eq_true rfl) (mm_fit_of rfl (tyX0_ok 0 (by decide)) rfl rfl) rfl
theorem gf_50_1 : mm_step tab Bd B K Q (.getfield 1) nx lv (.ref 50 :: st) (HP ε μ) = K nx lv ((.ref 51) :: st) (HP ε μ) := gf_gen HP_50 rfl rfl
theorem gf_50_2 : mm_step tab Bd B K Q (.getfield 2) nx lv (.ref 50 :: st) (HP ε μ) = K nx lv ((.ref 52) :: st) (HP ε μ) := gf_gen HP_50 rfl rfl
theorem HP_51 : HP ε μ 51 = some (.inl (.int, 35, .inl (μ 51))) := rfl
theorem al_51 : mm_step tab Bd B K Q .arraylength nx lv (.ref 51 :: st) (HP ε μ) = K nx lv (.int 35 :: st) (HP ε μ) := al_gen HP_51
theorem ld_51 {i : Int32} : mm_step tab Bd B K Q .iaload nx lv (.int i :: .ref 51 :: st) (HP ε μ) = (vp_in i 35 ∧ K nx lv (.int (μ 51 i.toNatClampNeg) :: st) (HP ε μ)) := ia_gen HP_51
theorem sv_51 {i x : Int32} : mm_step tab Bd B K Q .iastore nx lv (.int x :: .int i :: .ref 51 :: st) (HP ε μ) = (vp_in i 35 ∧ K nx lv st (HP ε (mup μ 51 i.toNatClampNeg x))) := is_gen HP_51 (fun _ => rfl)
theorem HP_52 : HP ε μ 52 = some (.inl (.int, 256, .inl (μ 52))) := rfl
theorem al_52 : mm_step tab Bd B K Q .arraylength nx lv (.ref 52 :: st) (HP ε μ) = K nx lv (.int 256 :: st) (HP ε μ) := al_gen HP_52
theorem ld_52 {i : Int32} : mm_step tab Bd B K Q .iaload nx lv (.int i :: .ref 52 :: st) (HP ε μ) = (vp_in i 256 ∧ K nx lv (.int (μ 52 i.toNatClampNeg) :: st) (HP ε μ)) := ia_gen HP_52
theorem sv_52 {i x : Int32} : mm_step tab Bd B K Q .iastore nx lv (.int x :: .int i :: .ref 52 :: st) (HP ε μ) = (vp_in i 256 ∧ K nx lv st (HP ε (mup μ 52 i.toNatClampNeg x))) := is_gen HP_52 (fun _ => rfl)
theorem HP_53 : HP ε μ 53 = some (.inr (1, [.ref 54, .ref 55])) := rfl
theorem gf_53_100 : mm_step tab Bd B K Q (.getfield 100) nx lv (.ref 53 :: st) (HP ε μ) = K nx lv ((.ref 54) :: st) (HP ε μ) := gf_gen HP_53 rfl rfl
theorem gf_53_101 : mm_step tab Bd B K Q (.getfield 101) nx lv (.ref 53 :: st) (HP ε μ) = K nx lv ((.ref 55) :: st) (HP ε μ) := gf_gen HP_53 rfl rfl
theorem HP_54 : HP ε μ 54 = some (.inl (.int, 16, .inl (μ 54))) := rfl
theorem al_54 : mm_step tab Bd B K Q .arraylength nx lv (.ref 54 :: st) (HP ε μ) = K nx lv (.int 16 :: st) (HP ε μ) := al_gen HP_54
theorem ld_54 {i : Int32} : mm_step tab Bd B K Q .iaload nx lv (.int i :: .ref 54 :: st) (HP ε μ) = (vp_in i 16 ∧ K nx lv (.int (μ 54 i.toNatClampNeg) :: st) (HP ε μ)) := ia_gen HP_54
theorem sv_54 {i x : Int32} : mm_step tab Bd B K Q .iastore nx lv (.int x :: .int i :: .ref 54 :: st) (HP ε μ) = (vp_in i 16 ∧ K nx lv st (HP ε (mup μ 54 i.toNatClampNeg x))) := is_gen HP_54 (fun _ => rfl)
theorem HP_55 : HP ε μ 55 = some (.inl (.int, 16, .inl (μ 55))) := rfl
theorem al_55 : mm_step tab Bd B K Q .arraylength nx lv (.ref 55 :: st) (HP ε μ) = K nx lv (.int 16 :: st) (HP ε μ) := al_gen HP_55
theorem ld_55 {i : Int32} : mm_step tab Bd B K Q .iaload nx lv (.int i :: .ref 55 :: st) (HP ε μ) = (vp_in i 16 ∧ K nx lv (.int (μ 55 i.toNatClampNeg) :: st) (HP ε μ)) := ia_gen HP_55
theorem sv_55 {i x : Int32} : mm_step tab Bd B K Q .iastore nx lv (.int x :: .int i :: .ref 55 :: st) (HP ε μ) = (vp_in i 16 ∧ K nx lv st (HP ε (mup μ 55 i.toNatClampNeg x))) := is_gen HP_55 (fun _ => rfl)
theorem HP_56 : HP ε μ 56 = some (.inr (12, [.int (μ 56 0), .ref 57, .int (μ 56 2), .int (μ 56 3), .int (μ 56 4), .int (μ 56 5), .ref 58, .ref 59, .ref 60, .ref 61, .ref 62, .ref 63, .ref 64, .int (μ 56 13), .int (μ 56 14), .ref 65, .ref 66, .ref 67, .ref 68, .ref 69, .int (μ 56 20), .int (μ 56 21), .ref 70, .ref 71, .int (μ 56 24), .int (μ 56 25), .ref 72, .ref 73, .int (μ 56 28), .int (μ 56 29), .ref 74, .ref 75, .ref 76, .ref 77, .int (μ 56 34), .int (μ 56 35), .int (μ 56 36), .int (μ 56 37), .ref 78, .int (μ 56 39), .long (ε.1 56), .int (μ 56 41), .int (μ 56 42), .ref 79, .ref 80, .ref 81, .ref 82, .ref 83, .ref 84, .int (μ 56 49), .ref 85, .int (μ 56 51)])) := rfl
theorem gf_56_1200 : mm_step tab Bd B K Q (.getfield 1200) nx lv (.ref 56 :: st) (HP ε μ) = K nx lv ((.int (μ 56 0)) :: st) (HP ε μ) := gf_gen HP_56 rfl rfl
theorem pf_56_1200 {x : Int32} : mm_step tab Bd B K Q (.putfield 1200) nx lv (.int x :: .ref 56 :: st) (HP ε μ) = K nx lv st (HP ε (mup μ 56 0 x)) := pf_gen HP_56 rfl rfl (Nat.le_of_ble_eq_true rfl) (mm_fit_of rfl (tyX12_ok 0 (by decide)) rfl rfl) rfl
theorem gf_56_1201 : mm_step tab Bd B K Q (.getfield 1201) nx lv (.ref 56 :: st) (HP ε μ) = K nx lv ((.ref 57) :: st) (HP ε μ) := gf_gen HP_56 rfl rfl
theorem gf_56_1202 : mm_step tab Bd B K Q (.getfield 1202) nx lv (.ref 56 :: st) (HP ε μ) = K nx lv ((.int (μ 56 2)) :: st) (HP ε μ) := gf_gen HP_56 rfl rfl
theorem pf_56_1202 {x : Int32} : mm_step tab Bd B K Q (.putfield 1202) nx lv (.int x :: .ref 56 :: st) (HP ε μ) = K nx lv st (HP ε (mup μ 56 2 x)) := pf_gen HP_56 rfl rfl (Nat.le_of_ble_eq_true rfl) (mm_fit_of rfl (tyX12_ok 2 (by decide)) rfl rfl) rfl
theorem gf_56_1203 : mm_step tab Bd B K Q (.getfield 1203) nx lv (.ref 56 :: st) (HP ε μ) = K nx lv ((.int (μ 56 3)) :: st) (HP ε μ) := gf_gen HP_56 rfl rfl
theorem pf_56_1203 {x : Int32} : mm_step tab Bd B K Q (.putfield 1203) nx lv (.int x :: .ref 56 :: st) (HP ε μ) = K nx lv st (HP ε (mup μ 56 3 x)) := pf_gen HP_56 rfl rfl (Nat.le_of_ble_eq_true rfl) (mm_fit_of rfl (tyX12_ok 3 (by decide)) rfl rfl) rfl
theorem gf_56_1204 : mm_step tab Bd B K Q (.getfield 1204) nx lv (.ref 56 :: st) (HP ε μ) = K nx lv ((.int (μ 56 4)) :: st) (HP ε μ) := gf_gen HP_56 rfl rfl
theorem pf_56_1204 {x : Int32} : mm_step tab Bd B K Q (.putfield 1204) nx lv (.int x :: .ref 56 :: st) (HP ε μ) = K nx lv st (HP ε (mup μ 56 4 x)) := pf_gen HP_56 rfl rfl (Nat.le_of_ble_eq_true rfl) (mm_fit_of rfl (tyX12_ok 4 (by decide)) rfl rfl) rfl
theorem gf_56_1205 : mm_step tab Bd B K Q (.getfield 1205) nx lv (.ref 56 :: st) (HP ε μ) = K nx lv ((.int (μ 56 5)) :: st) (HP ε μ) := gf_gen HP_56 rfl rfl
theorem pf_56_1205 {x : Int32} : mm_step tab Bd B K Q (.putfield 1205) nx lv (.int x :: .ref 56 :: st) (HP ε μ) = K nx lv st (HP ε (mup μ 56 5 x)) := pf_gen HP_56 rfl rfl (Nat.le_of_ble_eq_true rfl) (mm_fit_of rfl (tyX12_ok 5 (by decide)) rfl rfl) rfl
theorem gf_56_1206 : mm_step tab Bd B K Q (.getfield 1206) nx lv (.ref 56 :: st) (HP ε μ) = K nx lv ((.ref 58) :: st) (HP ε μ) := gf_gen HP_56 rfl rfl
theorem gf_56_1207 : mm_step tab Bd B K Q (.getfield 1207) nx lv (.ref 56 :: st) (HP ε μ) = K nx lv ((.ref 59) :: st) (HP ε μ) := gf_gen HP_56 rfl rfl
theorem gf_56_1208 : mm_step tab Bd B K Q (.getfield 1208) nx lv (.ref 56 :: st) (HP ε μ) = K nx lv ((.ref 60) :: st) (HP ε μ) := gf_gen HP_56 rfl rfl
theorem gf_56_1209 : mm_step tab Bd B K Q (.getfield 1209) nx lv (.ref 56 :: st) (HP ε μ) = K nx lv ((.ref 61) :: st) (HP ε μ) := gf_gen HP_56 rfl rfl
theorem gf_56_1210 : mm_step tab Bd B K Q (.getfield 1210) nx lv (.ref 56 :: st) (HP ε μ) = K nx lv ((.ref 62) :: st) (HP ε μ) := gf_gen HP_56 rfl rfl
theorem gf_56_1211 : mm_step tab Bd B K Q (.getfield 1211) nx lv (.ref 56 :: st) (HP ε μ) = K nx lv ((.ref 63) :: st) (HP ε μ) := gf_gen HP_56 rfl rfl
theorem gf_56_1212 : mm_step tab Bd B K Q (.getfield 1212) nx lv (.ref 56 :: st) (HP ε μ) = K nx lv ((.ref 64) :: st) (HP ε μ) := gf_gen HP_56 rfl rfl
theorem gf_56_1213 : mm_step tab Bd B K Q (.getfield 1213) nx lv (.ref 56 :: st) (HP ε μ) = K nx lv ((.int (μ 56 13)) :: st) (HP ε μ) := gf_gen HP_56 rfl rfl
theorem pf_56_1213 {x : Int32} : mm_step tab Bd B K Q (.putfield 1213) nx lv (.int x :: .ref 56 :: st) (HP ε μ) = K nx lv st (HP ε (mup μ 56 13 x)) := pf_gen HP_56 rfl rfl (Nat.le_of_ble_eq_true rfl) (mm_fit_of rfl (tyX12_ok 13 (by decide)) rfl rfl) rfl
theorem gf_56_1214 : mm_step tab Bd B K Q (.getfield 1214) nx lv (.ref 56 :: st) (HP ε μ) = K nx lv ((.int (μ 56 14)) :: st) (HP ε μ) := gf_gen HP_56 rfl rfl
theorem pf_56_1214 {x : Int32} : mm_step tab Bd B K Q (.putfield 1214) nx lv (.int x :: .ref 56 :: st) (HP ε μ) = K nx lv st (HP ε (mup μ 56 14 x)) := pf_gen HP_56 rfl rfl (Nat.le_of_ble_eq_true rfl) (mm_fit_of rfl (tyX12_ok 14 (by decide)) rfl rfl) rfl
theorem gf_56_1215 : mm_step tab Bd B K Q (.getfield 1215) nx lv (.ref 56 :: st) (HP ε μ) = K nx lv ((.ref 65) :: st) (HP ε μ) := gf_gen HP_56 rfl rfl
theorem gf_56_1216 : mm_step tab Bd B K Q (.getfield 1216) nx lv (.ref 56 :: st) (HP ε μ) = K nx lv ((.ref 66) :: st) (HP ε μ) := gf_gen HP_56 rfl rfl
theorem gf_56_1217 : mm_step tab Bd B K Q (.getfield 1217) nx lv (.ref 56 :: st) (HP ε μ) = K nx lv ((.ref 67) :: st) (HP ε μ) := gf_gen HP_56 rfl rfl
theorem gf_56_1218 : mm_step tab Bd B K Q (.getfield 1218) nx lv (.ref 56 :: st) (HP ε μ) = K nx lv ((.ref 68) :: st) (HP ε μ) := gf_gen HP_56 rfl rfl
theorem gf_56_1219 : mm_step tab Bd B K Q (.getfield 1219) nx lv (.ref 56 :: st) (HP ε μ) = K nx lv ((.ref 69) :: st) (HP ε μ) := gf_gen HP_56 rfl rfl
theorem gf_56_1220 : mm_step tab Bd B K Q (.getfield 1220) nx lv (.ref 56 :: st) (HP ε μ) = K nx lv ((.int (μ 56 20)) :: st) (HP ε μ) := gf_gen HP_56 rfl rfl
theorem pf_56_1220 {x : Int32} : mm_step tab Bd B K Q (.putfield 1220) nx lv (.int x :: .ref 56 :: st) (HP ε μ) = K nx lv st (HP ε (mup μ 56 20 x)) := pf_gen HP_56 rfl rfl (Nat.le_of_ble_eq_true rfl) (mm_fit_of rfl (tyX12_ok 20 (by decide)) rfl rfl) rfl
theorem gf_56_1221 : mm_step tab Bd B K Q (.getfield 1221) nx lv (.ref 56 :: st) (HP ε μ) = K nx lv ((.int (μ 56 21)) :: st) (HP ε μ) := gf_gen HP_56 rfl rfl
theorem pf_56_1221 {x : Int32} : mm_step tab Bd B K Q (.putfield 1221) nx lv (.int x :: .ref 56 :: st) (HP ε μ) = K nx lv st (HP ε (mup μ 56 21 x)) := pf_gen HP_56 rfl rfl (Nat.le_of_ble_eq_true rfl) (mm_fit_of rfl (tyX12_ok 21 (by decide)) rfl rfl) rfl
theorem gf_56_1222 : mm_step tab Bd B K Q (.getfield 1222) nx lv (.ref 56 :: st) (HP ε μ) = K nx lv ((.ref 70) :: st) (HP ε μ) := gf_gen HP_56 rfl rfl
theorem gf_56_1223 : mm_step tab Bd B K Q (.getfield 1223) nx lv (.ref 56 :: st) (HP ε μ) = K nx lv ((.ref 71) :: st) (HP ε μ) := gf_gen HP_56 rfl rfl
theorem gf_56_1224 : mm_step tab Bd B K Q (.getfield 1224) nx lv (.ref 56 :: st) (HP ε μ) = K nx lv ((.int (μ 56 24)) :: st) (HP ε μ) := gf_gen HP_56 rfl rfl
theorem pf_56_1224 {x : Int32} : mm_step tab Bd B K Q (.putfield 1224) nx lv (.int x :: .ref 56 :: st) (HP ε μ) = K nx lv st (HP ε (mup μ 56 24 x)) := pf_gen HP_56 rfl rfl (Nat.le_of_ble_eq_true rfl) (mm_fit_of rfl (tyX12_ok 24 (by decide)) rfl rfl) rfl
theorem gf_56_1225 : mm_step tab Bd B K Q (.getfield 1225) nx lv (.ref 56 :: st) (HP ε μ) = K nx lv ((.int (μ 56 25)) :: st) (HP ε μ) := gf_gen HP_56 rfl rfl
theorem pf_56_1225 {x : Int32} : mm_step tab Bd B K Q (.putfield 1225) nx lv (.int x :: .ref 56 :: st) (HP ε μ) = K nx lv st (HP ε (mup μ 56 25 x)) := pf_gen HP_56 rfl rfl (Nat.le_of_ble_eq_true rfl) (mm_fit_of rfl (tyX12_ok 25 (by decide)) rfl rfl) rfl
theorem gf_56_1226 : mm_step tab Bd B K Q (.getfield 1226) nx lv (.ref 56 :: st) (HP ε μ) = K nx lv ((.ref 72) :: st) (HP ε μ) := gf_gen HP_56 rfl rfl
theorem gf_56_1227 : mm_step tab Bd B K Q (.getfield 1227) nx lv (.ref 56 :: st) (HP ε μ) = K nx lv ((.ref 73) :: st) (HP ε μ) := gf_gen HP_56 rfl rfl
theorem gf_56_1228 : mm_step tab Bd B K Q (.getfield 1228) nx lv (.ref 56 :: st) (HP ε μ) = K nx lv ((.int (μ 56 28)) :: st) (HP ε μ) := gf_gen HP_56 rfl rfl
theorem pf_56_1228 {x : Int32} : mm_step tab Bd B K Q (.putfield 1228) nx lv (.int x :: .ref 56 :: st) (HP ε μ) = K nx lv st (HP ε (mup μ 56 28 x)) := pf_gen HP_56 rfl rfl (Nat.le_of_ble_eq_true rfl) (mm_fit_of rfl (tyX12_ok 28 (by decide)) rfl rfl) rfl
theorem gf_56_1229 : mm_step tab Bd B K Q (.getfield 1229) nx lv (.ref 56 :: st) (HP ε μ) = K nx lv ((.int (μ 56 29)) :: st) (HP ε μ) := gf_gen HP_56 rfl rfl
theorem pf_56_1229 {x : Int32} : mm_step tab Bd B K Q (.putfield 1229) nx lv (.int x :: .ref 56 :: st) (HP ε μ) = K nx lv st (HP ε (mup μ 56 29 x)) := pf_gen HP_56 rfl rfl (Nat.le_of_ble_eq_true rfl) (mm_fit_of rfl (tyX12_ok 29 (by decide)) rfl rfl) rfl
theorem gf_56_1230 : mm_step tab Bd B K Q (.getfield 1230) nx lv (.ref 56 :: st) (HP ε μ) = K nx lv ((.ref 74) :: st) (HP ε μ) := gf_gen HP_56 rfl rfl
theorem gf_56_1231 : mm_step tab Bd B K Q (.getfield 1231) nx lv (.ref 56 :: st) (HP ε μ) = K nx lv ((.ref 75) :: st) (HP ε μ) := gf_gen HP_56 rfl rfl
theorem gf_56_1232 : mm_step tab Bd B K Q (.getfield 1232) nx lv (.ref 56 :: st) (HP ε μ) = K nx lv ((.ref 76) :: st) (HP ε μ) := gf_gen HP_56 rfl rfl
theorem gf_56_1233 : mm_step tab Bd B K Q (.getfield 1233) nx lv (.ref 56 :: st) (HP ε μ) = K nx lv ((.ref 77) :: st) (HP ε μ) := gf_gen HP_56 rfl rfl
theorem gf_56_1234 : mm_step tab Bd B K Q (.getfield 1234) nx lv (.ref 56 :: st) (HP ε μ) = K nx lv ((.int (μ 56 34)) :: st) (HP ε μ) := gf_gen HP_56 rfl rfl
theorem pf_56_1234 {x : Int32} : mm_step tab Bd B K Q (.putfield 1234) nx lv (.int x :: .ref 56 :: st) (HP ε μ) = K nx lv st (HP ε (mup μ 56 34 x)) := pf_gen HP_56 rfl rfl (Nat.le_of_ble_eq_true rfl) (mm_fit_of rfl (tyX12_ok 34 (by decide)) rfl rfl) rfl
theorem gf_56_1235 : mm_step tab Bd B K Q (.getfield 1235) nx lv (.ref 56 :: st) (HP ε μ) = K nx lv ((.int (μ 56 35)) :: st) (HP ε μ) := gf_gen HP_56 rfl rfl
theorem pf_56_1235 {x : Int32} : mm_step tab Bd B K Q (.putfield 1235) nx lv (.int x :: .ref 56 :: st) (HP ε μ) = K nx lv st (HP ε (mup μ 56 35 x)) := pf_gen HP_56 rfl rfl (Nat.le_of_ble_eq_true rfl) (mm_fit_of rfl (tyX12_ok 35 (by decide)) rfl rfl) rfl
theorem gf_56_1236 : mm_step tab Bd B K Q (.getfield 1236) nx lv (.ref 56 :: st) (HP ε μ) = K nx lv ((.int (μ 56 36)) :: st) (HP ε μ) := gf_gen HP_56 rfl rfl
theorem pf_56_1236 {x : Int32} : mm_step tab Bd B K Q (.putfield 1236) nx lv (.int x :: .ref 56 :: st) (HP ε μ) = K nx lv st (HP ε (mup μ 56 36 x)) := pf_gen HP_56 rfl rfl (Nat.le_of_ble_eq_true rfl) (mm_fit_of rfl (tyX12_ok 36 (by decide)) rfl rfl) rfl
theorem gf_56_1237 : mm_step tab Bd B K Q (.getfield 1237) nx lv (.ref 56 :: st) (HP ε μ) = K nx lv ((.int (μ 56 37)) :: st) (HP ε μ) := gf_gen HP_56 rfl rfl
theorem pf_56_1237 {x : Int32} : mm_step tab Bd B K Q (.putfield 1237) nx lv (.int x :: .ref 56 :: st) (HP ε μ) = K nx lv st (HP ε (mup μ 56 37 x)) := pf_gen HP_56 rfl rfl (Nat.le_of_ble_eq_true rfl) (mm_fit_of rfl (tyX12_ok 37 (by decide)) rfl rfl) rfl
theorem gf_56_1238 : mm_step tab Bd B K Q (.getfield 1238) nx lv (.ref 56 :: st) (HP ε μ) = K nx lv ((.ref 78) :: st) (HP ε μ) := gf_gen HP_56 rfl rfl
theorem gf_56_1239 : mm_step tab Bd B K Q (.getfield 1239) nx lv (.ref 56 :: st) (HP ε μ) = K nx lv ((.int (μ 56 39)) :: st) (HP ε μ) := gf_gen HP_56 rfl rfl
theorem pf_56_1239 {x : Int32} : mm_step tab Bd B K Q (.putfield 1239) nx lv (.int x :: .ref 56 :: st) (HP ε μ) = K nx lv st (HP ε (mup μ 56 39 x)) := pf_gen HP_56 rfl rfl (Nat.le_of_ble_eq_true rfl) (mm_fit_of rfl (tyX12_ok 39 (by decide)) rfl rfl) rfl
theorem gf_56_1240 : mm_step tab Bd B K Q (.getfield 1240) nx lv (.ref 56 :: st) (HP ε μ) = K nx lv ((.long (ε.1 56)) :: st) (HP ε μ) := gf_gen HP_56 rfl rfl
theorem gf_56_1241 : mm_step tab Bd B K Q (.getfield 1241) nx lv (.ref 56 :: st) (HP ε μ) = K nx lv ((.int (μ 56 41)) :: st) (HP ε μ) := gf_gen HP_56 rfl rfl
theorem pf_56_1241 {x : Int32} : mm_step tab Bd B K Q (.putfield 1241) nx lv (.int x :: .ref 56 :: st) (HP ε μ) = K nx lv st (HP ε (mup μ 56 41 x)) := pf_gen HP_56 rfl rfl (Nat.le_of_ble_eq_true rfl) (mm_fit_of rfl (tyX12_ok 41 (by decide)) rfl rfl) rfl
theorem gf_56_1242 : mm_step tab Bd B K Q (.getfield 1242) nx lv (.ref 56 :: st) (HP ε μ) = K nx lv ((.int (μ 56 42)) :: st) (HP ε μ) := gf_gen HP_56 rfl rfl
theorem pf_56_1242 {x : Int32} : mm_step tab Bd B K Q (.putfield 1242) nx lv (.int x :: .ref 56 :: st) (HP ε μ) = K nx lv st (HP ε (mup μ 56 42 x)) := pf_gen HP_56 rfl rfl (Nat.le_of_ble_eq_true rfl) (mm_fit_of rfl (tyX12_ok 42 (by decide)) rfl rfl) rfl
theorem gf_56_1243 : mm_step tab Bd B K Q (.getfield 1243) nx lv (.ref 56 :: st) (HP ε μ) = K nx lv ((.ref 79) :: st) (HP ε μ) := gf_gen HP_56 rfl rfl
theorem gf_56_1244 : mm_step tab Bd B K Q (.getfield 1244) nx lv (.ref 56 :: st) (HP ε μ) = K nx lv ((.ref 80) :: st) (HP ε μ) := gf_gen HP_56 rfl rfl
theorem gf_56_1245 : mm_step tab Bd B K Q (.getfield 1245) nx lv (.ref 56 :: st) (HP ε μ) = K nx lv ((.ref 81) :: st) (HP ε μ) := gf_gen HP_56 rfl rfl
theorem gf_56_1246 : mm_step tab Bd B K Q (.getfield 1246) nx lv (.ref 56 :: st) (HP ε μ) = K nx lv ((.ref 82) :: st) (HP ε μ) := gf_gen HP_56 rfl rfl
theorem gf_56_1247 : mm_step tab Bd B K Q (.getfield 1247) nx lv (.ref 56 :: st) (HP ε μ) = K nx lv ((.ref 83) :: st) (HP ε μ) := gf_gen HP_56 rfl rfl
theorem gf_56_1248 : mm_step tab Bd B K Q (.getfield 1248) nx lv (.ref 56 :: st) (HP ε μ) = K nx lv ((.ref 84) :: st) (HP ε μ) := gf_gen HP_56 rfl rfl
theorem gf_56_1249 : mm_step tab Bd B K Q (.getfield 1249) nx lv (.ref 56 :: st) (HP ε μ) = K nx lv ((.int (μ 56 49)) :: st) (HP ε μ) := gf_gen HP_56 rfl rfl
theorem pf_56_1249 {x : Int32} : mm_step tab Bd B K Q (.putfield 1249) nx lv (.int x :: .ref 56 :: st) (HP ε μ) = K nx lv st (HP ε (mup μ 56 49 x)) := pf_gen HP_56 rfl rfl (Nat.le_of_ble_eq_true rfl) (mm_fit_of rfl (tyX12_ok 49 (by decide)) rfl rfl) rfl
theorem gf_56_1250 : mm_step tab Bd B K Q (.getfield 1250) nx lv (.ref 56 :: st) (HP ε μ) = K nx lv ((.ref 85) :: st) (HP ε μ) := gf_gen HP_56 rfl rfl
theorem gf_56_1251 : mm_step tab Bd B K Q (.getfield 1251) nx lv (.ref 56 :: st) (HP ε μ) = K nx lv ((.int (μ 56 51)) :: st) (HP ε μ) := gf_gen HP_56 rfl rfl
theorem pf_56_1251_0 : mm_step tab Bd B K Q (.putfield 1251) nx lv (.int 0 :: .ref 56 :: st) (HP ε μ) = K nx lv st (HP ε (mup μ 56 51 0)) := pf_gen HP_56 rfl rfl (Nat.le_of_ble_eq_true rfl) (mm_fit_of rfl (tyX12_ok 51 (by decide)) (by decide) (by decide)) rfl
theorem pf_56_1251_1 : mm_step tab Bd B K Q (.putfield 1251) nx lv (.int 1 :: .ref 56 :: st) (HP ε μ) = K nx lv st (HP ε (mup μ 56 51 1)) := pf_gen HP_56 rfl rfl (Nat.le_of_ble_eq_true rfl) (mm_fit_of rfl (tyX12_ok 51 (by decide)) (by decide) (by decide)) rfl
theorem HP_57 : HP ε μ 57 = some (.inl (.int, 240, .inl (μ 57))) := rfl
theorem al_57 : mm_step tab Bd B K Q .arraylength nx lv (.ref 57 :: st) (HP ε μ) = K nx lv (.int 240 :: st) (HP ε μ) := al_gen HP_57
theorem ld_57 {i : Int32} : mm_step tab Bd B K Q .iaload nx lv (.int i :: .ref 57 :: st) (HP ε μ) = (vp_in i 240 ∧ K nx lv (.int (μ 57 i.toNatClampNeg) :: st) (HP ε μ)) := ia_gen HP_57
theorem sv_57 {i x : Int32} : mm_step tab Bd B K Q .iastore nx lv (.int x :: .int i :: .ref 57 :: st) (HP ε μ) = (vp_in i 240 ∧ K nx lv st (HP ε (mup μ 57 i.toNatClampNeg x))) := is_gen HP_57 (fun _ => rfl)
theorem HP_58 : HP ε μ 58 = some (.inl (.int, 2600, .inl (μ 58))) := rfl
theorem al_58 : mm_step tab Bd B K Q .arraylength nx lv (.ref 58 :: st) (HP ε μ) = K nx lv (.int 2600 :: st) (HP ε μ) := al_gen HP_58
theorem ld_58 {i : Int32} : mm_step tab Bd B K Q .iaload nx lv (.int i :: .ref 58 :: st) (HP ε μ) = (vp_in i 2600 ∧ K nx lv (.int (μ 58 i.toNatClampNeg) :: st) (HP ε μ)) := ia_gen HP_58
theorem sv_58 {i x : Int32} : mm_step tab Bd B K Q .iastore nx lv (.int x :: .int i :: .ref 58 :: st) (HP ε μ) = (vp_in i 2600 ∧ K nx lv st (HP ε (mup μ 58 i.toNatClampNeg x))) := is_gen HP_58 (fun _ => rfl)
theorem HP_59 : HP ε μ 59 = some (.inl (.int, 2600, .inl (μ 59))) := rfl
theorem al_59 : mm_step tab Bd B K Q .arraylength nx lv (.ref 59 :: st) (HP ε μ) = K nx lv (.int 2600 :: st) (HP ε μ) := al_gen HP_59
theorem ld_59 {i : Int32} : mm_step tab Bd B K Q .iaload nx lv (.int i :: .ref 59 :: st) (HP ε μ) = (vp_in i 2600 ∧ K nx lv (.int (μ 59 i.toNatClampNeg) :: st) (HP ε μ)) := ia_gen HP_59
theorem sv_59 {i x : Int32} : mm_step tab Bd B K Q .iastore nx lv (.int x :: .int i :: .ref 59 :: st) (HP ε μ) = (vp_in i 2600 ∧ K nx lv st (HP ε (mup μ 59 i.toNatClampNeg x))) := is_gen HP_59 (fun _ => rfl)
theorem HP_60 : HP ε μ 60 = some (.inl (.int, 5, .inl (μ 60))) := rfl
theorem al_60 : mm_step tab Bd B K Q .arraylength nx lv (.ref 60 :: st) (HP ε μ) = K nx lv (.int 5 :: st) (HP ε μ) := al_gen HP_60
theorem ld_60 {i : Int32} : mm_step tab Bd B K Q .iaload nx lv (.int i :: .ref 60 :: st) (HP ε μ) = (vp_in i 5 ∧ K nx lv (.int (μ 60 i.toNatClampNeg) :: st) (HP ε μ)) := ia_gen HP_60
theorem sv_60 {i x : Int32} : mm_step tab Bd B K Q .iastore nx lv (.int x :: .int i :: .ref 60 :: st) (HP ε μ) = (vp_in i 5 ∧ K nx lv st (HP ε (mup μ 60 i.toNatClampNeg x))) := is_gen HP_60 (fun _ => rfl)
theorem HP_61 : HP ε μ 61 = some (.inl (.int, 5, .inl (μ 61))) := rfl
theorem al_61 : mm_step tab Bd B K Q .arraylength nx lv (.ref 61 :: st) (HP ε μ) = K nx lv (.int 5 :: st) (HP ε μ) := al_gen HP_61
theorem ld_61 {i : Int32} : mm_step tab Bd B K Q .iaload nx lv (.int i :: .ref 61 :: st) (HP ε μ) = (vp_in i 5 ∧ K nx lv (.int (μ 61 i.toNatClampNeg) :: st) (HP ε μ)) := ia_gen HP_61
theorem sv_61 {i x : Int32} : mm_step tab Bd B K Q .iastore nx lv (.int x :: .int i :: .ref 61 :: st) (HP ε μ) = (vp_in i 5 ∧ K nx lv st (HP ε (mup μ 61 i.toNatClampNeg x))) := is_gen HP_61 (fun _ => rfl)
theorem HP_62 : HP ε μ 62 = some (.inl (.int, 700, .inl (μ 62))) := rfl
theorem al_62 : mm_step tab Bd B K Q .arraylength nx lv (.ref 62 :: st) (HP ε μ) = K nx lv (.int 700 :: st) (HP ε μ) := al_gen HP_62
theorem ld_62 {i : Int32} : mm_step tab Bd B K Q .iaload nx lv (.int i :: .ref 62 :: st) (HP ε μ) = (vp_in i 700 ∧ K nx lv (.int (μ 62 i.toNatClampNeg) :: st) (HP ε μ)) := ia_gen HP_62
theorem sv_62 {i x : Int32} : mm_step tab Bd B K Q .iastore nx lv (.int x :: .int i :: .ref 62 :: st) (HP ε μ) = (vp_in i 700 ∧ K nx lv st (HP ε (mup μ 62 i.toNatClampNeg x))) := is_gen HP_62 (fun _ => rfl)
theorem HP_63 : HP ε μ 63 = some (.inl (.int, 700, .inl (μ 63))) := rfl
theorem al_63 : mm_step tab Bd B K Q .arraylength nx lv (.ref 63 :: st) (HP ε μ) = K nx lv (.int 700 :: st) (HP ε μ) := al_gen HP_63
theorem ld_63 {i : Int32} : mm_step tab Bd B K Q .iaload nx lv (.int i :: .ref 63 :: st) (HP ε μ) = (vp_in i 700 ∧ K nx lv (.int (μ 63 i.toNatClampNeg) :: st) (HP ε μ)) := ia_gen HP_63
theorem sv_63 {i x : Int32} : mm_step tab Bd B K Q .iastore nx lv (.int x :: .int i :: .ref 63 :: st) (HP ε μ) = (vp_in i 700 ∧ K nx lv st (HP ε (mup μ 63 i.toNatClampNeg x))) := is_gen HP_63 (fun _ => rfl)
theorem HP_64 : HP ε μ 64 = some (.inl (.int, 700, .inl (μ 64))) := rfl
theorem al_64 : mm_step tab Bd B K Q .arraylength nx lv (.ref 64 :: st) (HP ε μ) = K nx lv (.int 700 :: st) (HP ε μ) := al_gen HP_64
theorem ld_64 {i : Int32} : mm_step tab Bd B K Q .iaload nx lv (.int i :: .ref 64 :: st) (HP ε μ) = (vp_in i 700 ∧ K nx lv (.int (μ 64 i.toNatClampNeg) :: st) (HP ε μ)) := ia_gen HP_64
theorem sv_64 {i x : Int32} : mm_step tab Bd B K Q .iastore nx lv (.int x :: .int i :: .ref 64 :: st) (HP ε μ) = (vp_in i 700 ∧ K nx lv st (HP ε (mup μ 64 i.toNatClampNeg x))) := is_gen HP_64 (fun _ => rfl)
theorem HP_65 : HP ε μ 65 = some (.inl (.int, 6, .inl (μ 65))) := rfl
theorem al_65 : mm_step tab Bd B K Q .arraylength nx lv (.ref 65 :: st) (HP ε μ) = K nx lv (.int 6 :: st) (HP ε μ) := al_gen HP_65
theorem ld_65 {i : Int32} : mm_step tab Bd B K Q .iaload nx lv (.int i :: .ref 65 :: st) (HP ε μ) = (vp_in i 6 ∧ K nx lv (.int (μ 65 i.toNatClampNeg) :: st) (HP ε μ)) := ia_gen HP_65
theorem sv_65 {i x : Int32} : mm_step tab Bd B K Q .iastore nx lv (.int x :: .int i :: .ref 65 :: st) (HP ε μ) = (vp_in i 6 ∧ K nx lv st (HP ε (mup μ 65 i.toNatClampNeg x))) := is_gen HP_65 (fun _ => rfl)
theorem HP_66 : HP ε μ 66 = some (.inl (.int, 80, .inl (μ 66))) := rfl
theorem al_66 : mm_step tab Bd B K Q .arraylength nx lv (.ref 66 :: st) (HP ε μ) = K nx lv (.int 80 :: st) (HP ε μ) := al_gen HP_66
theorem ld_66 {i : Int32} : mm_step tab Bd B K Q .iaload nx lv (.int i :: .ref 66 :: st) (HP ε μ) = (vp_in i 80 ∧ K nx lv (.int (μ 66 i.toNatClampNeg) :: st) (HP ε μ)) := ia_gen HP_66
theorem sv_66 {i x : Int32} : mm_step tab Bd B K Q .iastore nx lv (.int x :: .int i :: .ref 66 :: st) (HP ε μ) = (vp_in i 80 ∧ K nx lv st (HP ε (mup μ 66 i.toNatClampNeg x))) := is_gen HP_66 (fun _ => rfl)
theorem HP_67 : HP ε μ 67 = some (.inl (.int, 4, .inl (μ 67))) := rfl
theorem al_67 : mm_step tab Bd B K Q .arraylength nx lv (.ref 67 :: st) (HP ε μ) = K nx lv (.int 4 :: st) (HP ε μ) := al_gen HP_67
theorem ld_67 {i : Int32} : mm_step tab Bd B K Q .iaload nx lv (.int i :: .ref 67 :: st) (HP ε μ) = (vp_in i 4 ∧ K nx lv (.int (μ 67 i.toNatClampNeg) :: st) (HP ε μ)) := ia_gen HP_67
theorem sv_67 {i x : Int32} : mm_step tab Bd B K Q .iastore nx lv (.int x :: .int i :: .ref 67 :: st) (HP ε μ) = (vp_in i 4 ∧ K nx lv st (HP ε (mup μ 67 i.toNatClampNeg x))) := is_gen HP_67 (fun _ => rfl)
theorem HP_68 : HP ε μ 68 = some (.inl (.int, 35, .inl (μ 68))) := rfl
theorem al_68 : mm_step tab Bd B K Q .arraylength nx lv (.ref 68 :: st) (HP ε μ) = K nx lv (.int 35 :: st) (HP ε μ) := al_gen HP_68
theorem ld_68 {i : Int32} : mm_step tab Bd B K Q .iaload nx lv (.int i :: .ref 68 :: st) (HP ε μ) = (vp_in i 35 ∧ K nx lv (.int (μ 68 i.toNatClampNeg) :: st) (HP ε μ)) := ia_gen HP_68
theorem sv_68 {i x : Int32} : mm_step tab Bd B K Q .iastore nx lv (.int x :: .int i :: .ref 68 :: st) (HP ε μ) = (vp_in i 35 ∧ K nx lv st (HP ε (mup μ 68 i.toNatClampNeg x))) := is_gen HP_68 (fun _ => rfl)
theorem HP_69 : HP ε μ 69 = some (.inl (.int, 10, .inl (μ 69))) := rfl
theorem al_69 : mm_step tab Bd B K Q .arraylength nx lv (.ref 69 :: st) (HP ε μ) = K nx lv (.int 10 :: st) (HP ε μ) := al_gen HP_69
theorem ld_69 {i : Int32} : mm_step tab Bd B K Q .iaload nx lv (.int i :: .ref 69 :: st) (HP ε μ) = (vp_in i 10 ∧ K nx lv (.int (μ 69 i.toNatClampNeg) :: st) (HP ε μ)) := ia_gen HP_69
theorem sv_69 {i x : Int32} : mm_step tab Bd B K Q .iastore nx lv (.int x :: .int i :: .ref 69 :: st) (HP ε μ) = (vp_in i 10 ∧ K nx lv st (HP ε (mup μ 69 i.toNatClampNeg x))) := is_gen HP_69 (fun _ => rfl)
theorem HP_70 : HP ε μ 70 = some (.inl (.int, 4, .inl (μ 70))) := rfl
theorem al_70 : mm_step tab Bd B K Q .arraylength nx lv (.ref 70 :: st) (HP ε μ) = K nx lv (.int 4 :: st) (HP ε μ) := al_gen HP_70
theorem ld_70 {i : Int32} : mm_step tab Bd B K Q .iaload nx lv (.int i :: .ref 70 :: st) (HP ε μ) = (vp_in i 4 ∧ K nx lv (.int (μ 70 i.toNatClampNeg) :: st) (HP ε μ)) := ia_gen HP_70
theorem sv_70 {i x : Int32} : mm_step tab Bd B K Q .iastore nx lv (.int x :: .int i :: .ref 70 :: st) (HP ε μ) = (vp_in i 4 ∧ K nx lv st (HP ε (mup μ 70 i.toNatClampNeg x))) := is_gen HP_70 (fun _ => rfl)
theorem HP_71 : HP ε μ 71 = some (.inl (.int, 35, .inl (μ 71))) := rfl
theorem al_71 : mm_step tab Bd B K Q .arraylength nx lv (.ref 71 :: st) (HP ε μ) = K nx lv (.int 35 :: st) (HP ε μ) := al_gen HP_71
theorem ld_71 {i : Int32} : mm_step tab Bd B K Q .iaload nx lv (.int i :: .ref 71 :: st) (HP ε μ) = (vp_in i 35 ∧ K nx lv (.int (μ 71 i.toNatClampNeg) :: st) (HP ε μ)) := ia_gen HP_71
theorem sv_71 {i x : Int32} : mm_step tab Bd B K Q .iastore nx lv (.int x :: .int i :: .ref 71 :: st) (HP ε μ) = (vp_in i 35 ∧ K nx lv st (HP ε (mup μ 71 i.toNatClampNeg x))) := is_gen HP_71 (fun _ => rfl)
theorem HP_72 : HP ε μ 72 = some (.inl (.int, 202, .inl (μ 72))) := rfl
theorem al_72 : mm_step tab Bd B K Q .arraylength nx lv (.ref 72 :: st) (HP ε μ) = K nx lv (.int 202 :: st) (HP ε μ) := al_gen HP_72
theorem ld_72 {i : Int32} : mm_step tab Bd B K Q .iaload nx lv (.int i :: .ref 72 :: st) (HP ε μ) = (vp_in i 202 ∧ K nx lv (.int (μ 72 i.toNatClampNeg) :: st) (HP ε μ)) := ia_gen HP_72
theorem sv_72 {i x : Int32} : mm_step tab Bd B K Q .iastore nx lv (.int x :: .int i :: .ref 72 :: st) (HP ε μ) = (vp_in i 202 ∧ K nx lv st (HP ε (mup μ 72 i.toNatClampNeg x))) := is_gen HP_72 (fun _ => rfl)
theorem HP_73 : HP ε μ 73 = some (.inl (.int, 5, .inl (μ 73))) := rfl
theorem al_73 : mm_step tab Bd B K Q .arraylength nx lv (.ref 73 :: st) (HP ε μ) = K nx lv (.int 5 :: st) (HP ε μ) := al_gen HP_73
theorem ld_73 {i : Int32} : mm_step tab Bd B K Q .iaload nx lv (.int i :: .ref 73 :: st) (HP ε μ) = (vp_in i 5 ∧ K nx lv (.int (μ 73 i.toNatClampNeg) :: st) (HP ε μ)) := ia_gen HP_73
theorem sv_73 {i x : Int32} : mm_step tab Bd B K Q .iastore nx lv (.int x :: .int i :: .ref 73 :: st) (HP ε μ) = (vp_in i 5 ∧ K nx lv st (HP ε (mup μ 73 i.toNatClampNeg x))) := is_gen HP_73 (fun _ => rfl)
theorem HP_74 : HP ε μ 74 = some (.inl (.int, 7, .inl (μ 74))) := rfl
theorem al_74 : mm_step tab Bd B K Q .arraylength nx lv (.ref 74 :: st) (HP ε μ) = K nx lv (.int 7 :: st) (HP ε μ) := al_gen HP_74
theorem ld_74 {i : Int32} : mm_step tab Bd B K Q .iaload nx lv (.int i :: .ref 74 :: st) (HP ε μ) = (vp_in i 7 ∧ K nx lv (.int (μ 74 i.toNatClampNeg) :: st) (HP ε μ)) := ia_gen HP_74
theorem sv_74 {i x : Int32} : mm_step tab Bd B K Q .iastore nx lv (.int x :: .int i :: .ref 74 :: st) (HP ε μ) = (vp_in i 7 ∧ K nx lv st (HP ε (mup μ 74 i.toNatClampNeg x))) := is_gen HP_74 (fun _ => rfl)
theorem HP_75 : HP ε μ 75 = some (.inl (.int, 5, .inl (μ 75))) := rfl
theorem al_75 : mm_step tab Bd B K Q .arraylength nx lv (.ref 75 :: st) (HP ε μ) = K nx lv (.int 5 :: st) (HP ε μ) := al_gen HP_75
theorem ld_75 {i : Int32} : mm_step tab Bd B K Q .iaload nx lv (.int i :: .ref 75 :: st) (HP ε μ) = (vp_in i 5 ∧ K nx lv (.int (μ 75 i.toNatClampNeg) :: st) (HP ε μ)) := ia_gen HP_75
theorem sv_75 {i x : Int32} : mm_step tab Bd B K Q .iastore nx lv (.int x :: .int i :: .ref 75 :: st) (HP ε μ) = (vp_in i 5 ∧ K nx lv st (HP ε (mup μ 75 i.toNatClampNeg x))) := is_gen HP_75 (fun _ => rfl)
theorem HP_76 : HP ε μ 76 = some (.inl (.int, 5, .inl (μ 76))) := rfl
theorem al_76 : mm_step tab Bd B K Q .arraylength nx lv (.ref 76 :: st) (HP ε μ) = K nx lv (.int 5 :: st) (HP ε μ) := al_gen HP_76
theorem ld_76 {i : Int32} : mm_step tab Bd B K Q .iaload nx lv (.int i :: .ref 76 :: st) (HP ε μ) = (vp_in i 5 ∧ K nx lv (.int (μ 76 i.toNatClampNeg) :: st) (HP ε μ)) := ia_gen HP_76
theorem sv_76 {i x : Int32} : mm_step tab Bd B K Q .iastore nx lv (.int x :: .int i :: .ref 76 :: st) (HP ε μ) = (vp_in i 5 ∧ K nx lv st (HP ε (mup μ 76 i.toNatClampNeg x))) := is_gen HP_76 (fun _ => rfl)
theorem HP_77 : HP ε μ 77 = some (.inl (.int, 7, .inl (μ 77))) := rfl
theorem al_77 : mm_step tab Bd B K Q .arraylength nx lv (.ref 77 :: st) (HP ε μ) = K nx lv (.int 7 :: st) (HP ε μ) := al_gen HP_77
theorem ld_77 {i : Int32} : mm_step tab Bd B K Q .iaload nx lv (.int i :: .ref 77 :: st) (HP ε μ) = (vp_in i 7 ∧ K nx lv (.int (μ 77 i.toNatClampNeg) :: st) (HP ε μ)) := ia_gen HP_77
theorem sv_77 {i x : Int32} : mm_step tab Bd B K Q .iastore nx lv (.int x :: .int i :: .ref 77 :: st) (HP ε μ) = (vp_in i 7 ∧ K nx lv st (HP ε (mup μ 77 i.toNatClampNeg x))) := is_gen HP_77 (fun _ => rfl)
theorem HP_78 : HP ε μ 78 = some (.inl (.int, 8080, .inl (μ 78))) := rfl
theorem al_78 : mm_step tab Bd B K Q .arraylength nx lv (.ref 78 :: st) (HP ε μ) = K nx lv (.int 8080 :: st) (HP ε μ) := al_gen HP_78
theorem ld_78 {i : Int32} : mm_step tab Bd B K Q .iaload nx lv (.int i :: .ref 78 :: st) (HP ε μ) = (vp_in i 8080 ∧ K nx lv (.int (μ 78 i.toNatClampNeg) :: st) (HP ε μ)) := ia_gen HP_78
theorem sv_78 {i x : Int32} : mm_step tab Bd B K Q .iastore nx lv (.int x :: .int i :: .ref 78 :: st) (HP ε μ) = (vp_in i 8080 ∧ K nx lv st (HP ε (mup μ 78 i.toNatClampNeg x))) := is_gen HP_78 (fun _ => rfl)
theorem HP_79 : HP ε μ 79 = some (.inl (.int, 5, .inl (μ 79))) := rfl
theorem al_79 : mm_step tab Bd B K Q .arraylength nx lv (.ref 79 :: st) (HP ε μ) = K nx lv (.int 5 :: st) (HP ε μ) := al_gen HP_79
theorem ld_79 {i : Int32} : mm_step tab Bd B K Q .iaload nx lv (.int i :: .ref 79 :: st) (HP ε μ) = (vp_in i 5 ∧ K nx lv (.int (μ 79 i.toNatClampNeg) :: st) (HP ε μ)) := ia_gen HP_79
theorem sv_79 {i x : Int32} : mm_step tab Bd B K Q .iastore nx lv (.int x :: .int i :: .ref 79 :: st) (HP ε μ) = (vp_in i 5 ∧ K nx lv st (HP ε (mup μ 79 i.toNatClampNeg x))) := is_gen HP_79 (fun _ => rfl)
theorem HP_80 : HP ε μ 80 = some (.inl (.int, 5, .inl (μ 80))) := rfl
theorem al_80 : mm_step tab Bd B K Q .arraylength nx lv (.ref 80 :: st) (HP ε μ) = K nx lv (.int 5 :: st) (HP ε μ) := al_gen HP_80
theorem ld_80 {i : Int32} : mm_step tab Bd B K Q .iaload nx lv (.int i :: .ref 80 :: st) (HP ε μ) = (vp_in i 5 ∧ K nx lv (.int (μ 80 i.toNatClampNeg) :: st) (HP ε μ)) := ia_gen HP_80
theorem sv_80 {i x : Int32} : mm_step tab Bd B K Q .iastore nx lv (.int x :: .int i :: .ref 80 :: st) (HP ε μ) = (vp_in i 5 ∧ K nx lv st (HP ε (mup μ 80 i.toNatClampNeg x))) := is_gen HP_80 (fun _ => rfl)
theorem HP_81 : HP ε μ 81 = some (.inl (.int, 10, .inl (μ 81))) := rfl
theorem al_81 : mm_step tab Bd B K Q .arraylength nx lv (.ref 81 :: st) (HP ε μ) = K nx lv (.int 10 :: st) (HP ε μ) := al_gen HP_81
theorem ld_81 {i : Int32} : mm_step tab Bd B K Q .iaload nx lv (.int i :: .ref 81 :: st) (HP ε μ) = (vp_in i 10 ∧ K nx lv (.int (μ 81 i.toNatClampNeg) :: st) (HP ε μ)) := ia_gen HP_81
theorem sv_81 {i x : Int32} : mm_step tab Bd B K Q .iastore nx lv (.int x :: .int i :: .ref 81 :: st) (HP ε μ) = (vp_in i 10 ∧ K nx lv st (HP ε (mup μ 81 i.toNatClampNeg x))) := is_gen HP_81 (fun _ => rfl)
theorem HP_82 : HP ε μ 82 = some (.inl (.int, 10, .inl (μ 82))) := rfl
theorem al_82 : mm_step tab Bd B K Q .arraylength nx lv (.ref 82 :: st) (HP ε μ) = K nx lv (.int 10 :: st) (HP ε μ) := al_gen HP_82
theorem ld_82 {i : Int32} : mm_step tab Bd B K Q .iaload nx lv (.int i :: .ref 82 :: st) (HP ε μ) = (vp_in i 10 ∧ K nx lv (.int (μ 82 i.toNatClampNeg) :: st) (HP ε μ)) := ia_gen HP_82
theorem sv_82 {i x : Int32} : mm_step tab Bd B K Q .iastore nx lv (.int x :: .int i :: .ref 82 :: st) (HP ε μ) = (vp_in i 10 ∧ K nx lv st (HP ε (mup μ 82 i.toNatClampNeg x))) := is_gen HP_82 (fun _ => rfl)
theorem HP_83 : HP ε μ 83 = some (.inl (.int, 10, .inl (μ 83))) := rfl
theorem al_83 : mm_step tab Bd B K Q .arraylength nx lv (.ref 83 :: st) (HP ε μ) = K nx lv (.int 10 :: st) (HP ε μ) := al_gen HP_83
theorem ld_83 {i : Int32} : mm_step tab Bd B K Q .iaload nx lv (.int i :: .ref 83 :: st) (HP ε μ) = (vp_in i 10 ∧ K nx lv (.int (μ 83 i.toNatClampNeg) :: st) (HP ε μ)) := ia_gen HP_83
theorem sv_83 {i x : Int32} : mm_step tab Bd B K Q .iastore nx lv (.int x :: .int i :: .ref 83 :: st) (HP ε μ) = (vp_in i 10 ∧ K nx lv st (HP ε (mup μ 83 i.toNatClampNeg x))) := is_gen HP_83 (fun _ => rfl)
theorem HP_84 : HP ε μ 84 = some (.inl (.boolean, 10, .inl (μ 84))) := rfl
theorem al_84 : mm_step tab Bd B K Q .arraylength nx lv (.ref 84 :: st) (HP ε μ) = K nx lv (.int 10 :: st) (HP ε μ) := al_gen HP_84
theorem ld_84 {i : Int32} : mm_step tab Bd B K Q .baload nx lv (.int i :: .ref 84 :: st) (HP ε μ) = (vp_in i 10 ∧ K nx lv (.int (μ 84 i.toNatClampNeg) :: st) (HP ε μ)) := za_gen HP_84
theorem sv_84 {i x : Int32} : mm_step tab Bd B K Q .bastore nx lv (.int x :: .int i :: .ref 84 :: st) (HP ε μ) = (vp_in i 10 ∧ K nx lv st (HP ε (mup μ 84 i.toNatClampNeg (vp_nar .boolean x)))) := zs_gen HP_84 (fun _ => rfl)
theorem HP_85 : HP ε μ 85 = some (.inl (.int, 202, .inl (μ 85))) := rfl
theorem al_85 : mm_step tab Bd B K Q .arraylength nx lv (.ref 85 :: st) (HP ε μ) = K nx lv (.int 202 :: st) (HP ε μ) := al_gen HP_85
theorem ld_85 {i : Int32} : mm_step tab Bd B K Q .iaload nx lv (.int i :: .ref 85 :: st) (HP ε μ) = (vp_in i 202 ∧ K nx lv (.int (μ 85 i.toNatClampNeg) :: st) (HP ε μ)) := ia_gen HP_85
theorem sv_85 {i x : Int32} : mm_step tab Bd B K Q .iastore nx lv (.int x :: .int i :: .ref 85 :: st) (HP ε μ) = (vp_in i 202 ∧ K nx lv st (HP ε (mup μ 85 i.toNatClampNeg x))) := is_gen HP_85 (fun _ => rfl)
end HR
