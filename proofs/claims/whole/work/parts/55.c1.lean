/-! THE CLASS'S LAWS: their code, and what it is worth -/
/-- the law of number n, at the cell r -/
def LA (ε : mm_X) (r n : Nat) : Prop := r = 87 + 3 * n ∧ n < 4 ∧ n < ε.2.2.2.1
theorem HP_at87 {ε : mm_X} {μ : mm_mu} (k : Nat) : HP ε μ (k + 87) = mm_law ε k (μ (k + 87)) := rfl
section CL
variable {tab : Nat → Option (mm_M × Nat × Nat × Nat)} {Bd : mm_M → List Value → mm_H → mm_Q0 → Prop} {B K : Nat → List Value → List Value → mm_H → Prop} {Q : mm_Q0} {nx : Nat} {lv st : List Value} {ε : mm_X} {μ : mm_mu} {r n : Nat}
theorem HPc_l1 (hl : LA ε r n) (f : Nat → Int32) : HPc ε (r + 1) f = some (.inl (.int, ε.2.2.2.2 n, .inl f)) := by
  obtain ⟨h1, h2, h3⟩ := hl
  rw [show r + 1 = (3 * n + 1) + 87 by omega]
  show mm_law ε (3 * n + 1) _ = _
  unfold mm_law
  rw [if_pos ⟨by omega, by omega⟩, if_neg (by omega), if_pos (by omega), show (3 * n + 1) / 3 = n by omega]
theorem HPc_l2 (hl : LA ε r n) (f : Nat → Int32) : HPc ε (r + 2) f = some (.inl (.int, 32, .inl f)) := by
  obtain ⟨h1, h2, h3⟩ := hl
  rw [show r + 2 = (3 * n + 2) + 87 by omega]
  show mm_law ε (3 * n + 2) _ = _
  unfold mm_law
  rw [if_pos ⟨by omega, by omega⟩, if_neg (by omega), if_neg (by omega)]
theorem HPl (hl : LA ε r n) : HP ε μ r = some (.inr (5, [.ref (r + 1), .ref (r + 2)])) := by
  obtain ⟨h1, h2, h3⟩ := hl
  rw [show r = 3 * n + 87 by omega]
  show mm_law ε (3 * n) _ = _
  unfold mm_law
  rw [if_pos ⟨by omega, by omega⟩, if_pos (by omega), show 87 + 3 * n + 1 = 3 * n + 87 + 1 by omega, show 87 + 3 * n + 2 = 3 * n + 87 + 2 by omega]
theorem gl_500 (hl : LA ε r n) : mm_step tab Bd B K Q (.getfield 500) nx lv (.ref r :: st) (HP ε μ) = K nx lv (.ref (r + 1) :: st) (HP ε μ) := gf_gen (HPl hl) rfl rfl
theorem gl_501 (hl : LA ε r n) : mm_step tab Bd B K Q (.getfield 501) nx lv (.ref r :: st) (HP ε μ) = K nx lv (.ref (r + 2) :: st) (HP ε μ) := gf_gen (HPl hl) rfl rfl
theorem all_1 (hl : LA ε r n) : mm_step tab Bd B K Q .arraylength nx lv (.ref (r + 1) :: st) (HP ε μ) = K nx lv (.int (nI (ε.2.2.2.2 n)) :: st) (HP ε μ) := al_gen (HPc_l1 hl _)
theorem ll_1 (hl : LA ε r n) {i : Int32} : mm_step tab Bd B K Q .iaload nx lv (.int i :: .ref (r + 1) :: st) (HP ε μ) = (vp_in i (ε.2.2.2.2 n) ∧ K nx lv (.int (μ (r + 1) i.toNatClampNeg) :: st) (HP ε μ)) := ia_gen (HPc_l1 hl _)
theorem ll_2 (hl : LA ε r n) {i : Int32} : mm_step tab Bd B K Q .iaload nx lv (.int i :: .ref (r + 2) :: st) (HP ε μ) = (vp_in i 32 ∧ K nx lv (.int (μ (r + 2) i.toNatClampNeg) :: st) (HP ε μ)) := ia_gen (HPc_l2 hl _)
theorem vl_2 (hl : LA ε r n) {i x : Int32} : mm_step tab Bd B K Q .iastore nx lv (.int x :: .int i :: .ref (r + 2) :: st) (HP ε μ) = (vp_in i 32 ∧ K nx lv st (HP ε (mup μ (r + 2) i.toNatClampNeg x))) := is_gen (HPc_l2 hl _) (HPc_l2 hl)
end CL
/-- tokens as the class writes them -/
def csg (k : Int32) : Int32 := if k = 2 then -43 else if k = 3 then -45 else if k = 4 then -42 else if k = 5 then -47 else if k = 6 then -61 else if k = 7 then -60 else if k = 8 then -62 else if k = 9 then -33 else if k = 10 then -38 else -124
def ct (tk : Tk) : Int32 := if tk.1 = 0 then tk.2 else if tk.1 = 1 then -1 - tk.2 else csg tk.1
def ccl (p : Nat) (c : List Tk × List Tk) : List Int32 := if c.1 = [] then c.2.map ct ++ [-59] else c.1.map ct ++ (-63 :: nI (p + c.1.length + c.2.length + 3) :: (c.2.map ct ++ [-59]))
def ccode : Nat → List (List Tk × List Tk) → List Int32
  | _, [] => []
  | p, c :: cs => ccl p c ++ ccode (p + (ccl p c).length) cs
/-- what they are worth -/
def pworth : List (List Tk × List Tk) → (Nat → Int32) → Int32
  | [], _ => 0
  | (t, s) :: cs, L => if t = [] ∨ (ev L t []).headD 0 ≠ 0 then (ev L s []).headD 0 else pworth cs L
def nnT (ts : List Tk) : Prop := ∀ tk ∈ ts, tk.1 = 0 → 0 ≤ tk.2
def okCs (cs : List (List Tk × List Tk)) : Prop := ∀ c ∈ cs, (c.1 = [] ∨ tyk c.1 [] = some [true]) ∧ tyk c.2 [] = some [false] ∧ nnT c.1 ∧ nnT c.2
/-- these numbers stand from a on -/
def At (f : Nat → Int32) (a : Nat) : List Int32 → Prop
  | [] => True
  | x :: l => f a = x ∧ At f (a + 1) l
theorem At_app {f : Nat → Int32} : ∀ (l1 l2 : List Int32) (a : Nat), At f a (l1 ++ l2) ↔ At f a l1 ∧ At f (a + l1.length) l2
  | [], l2, a => by simp [At]
  | x :: l1, l2, a => by rw [List.cons_append, At, At, At_app l1 l2 (a + 1), List.length_cons, show a + (l1.length + 1) = a + 1 + l1.length by omega, and_assoc]
/-- the law n of the class has this code -/
def CC (ε : mm_X) (μ : mm_mu) (n : Nat) (cs : List (List Tk × List Tk)) : Prop := ε.2.2.2.2 n = (ccode 0 cs).length ∧ (ccode 0 cs).length ≤ 240 ∧ At (μ (88 + 3 * n)) 0 (ccode 0 cs) ∧ okCs cs
theorem ty1_inv {tk : Tk} {ts ts' : List Bool} (h : ty1 tk ts = some ts') : (tk.1 = 0 ∧ ts.length < 32 ∧ ts' = false :: ts) ∨ (tk.1 = 1 ∧ ts.length < 32 ∧ (0 ≤ tk.2 ∧ tk.2 < 6) ∧ ts' = false :: ts) ∨ (tk.1 = 9 ∧ ∃ t, ts = true :: t ∧ ts' = true :: t) ∨ ∃ (k : Nat) (b c : Bool) (tt : List Bool), (k = 2 ∨ k = 3 ∨ k = 4 ∨ k = 5 ∨ k = 6 ∨ k = 7 ∨ k = 8 ∨ k = 10 ∨ k = 11) ∧ tk.1 = nI k ∧ ts = b :: b :: tt ∧ ts' = c :: tt ∧ ((k = 10 ∨ k = 11) → b = true) ∧ (c = true → 6 ≤ k) := by
  unfold ty1 at h
  split at h
  · rename_i c0
    split at h
    · cases h; exact Or.inl ⟨c0, by assumption, rfl⟩
    · cases h
  · split at h
    · rename_i c1
      split at h
      · rename_i c2
        cases h; exact Or.inr (Or.inl ⟨c1, c2.1, c2.2, rfl⟩)
      · cases h
    · split at h
      · rename_i c9
        split at h
        · cases h; exact Or.inr (Or.inr (Or.inl ⟨c9, _, rfl, rfl⟩))
        · cases h
      · refine Or.inr (Or.inr (Or.inr ?_))
        split at h
        · rename_i cc
          split at h
          · cases h
            rcases cc with z | z | z | z
            · exact ⟨2, false, false, _, by simp, z, rfl, rfl, by simp, by simp⟩
            · exact ⟨3, false, false, _, by simp, z, rfl, rfl, by simp, by simp⟩
            · exact ⟨4, false, false, _, by simp, z, rfl, rfl, by simp, by simp⟩
            · exact ⟨5, false, false, _, by simp, z, rfl, rfl, by simp, by simp⟩
          · cases h
        · split at h
          · rename_i cc
            split at h
            · cases h
              rcases cc with z | z | z
              · exact ⟨6, false, true, _, by simp, z, rfl, rfl, by simp, by simp⟩
              · exact ⟨7, false, true, _, by simp, z, rfl, rfl, by simp, by simp⟩
              · exact ⟨8, false, true, _, by simp, z, rfl, rfl, by simp, by simp⟩
            · cases h
          · split at h
            · rename_i cc
              split at h
              · cases h
                rcases cc with z | z
                · exact ⟨10, true, true, _, by simp, z, rfl, rfl, by simp, by simp⟩
                · exact ⟨11, true, true, _, by simp, z, rfl, rfl, by simp, by simp⟩
              · cases h
            · cases h
/-- numbers of these kinds: a truth is 0 or 1 -/
def tv : List Bool → List Int32 → Prop
  | [], [] => True
  | b :: bs, x :: xs => (b = true → x = 0 ∨ x = 1) ∧ tv bs xs
  | _, _ => False
theorem tv_len : ∀ {ts : List Bool} {s : List Int32}, tv ts s → s.length = ts.length
  | [], [], _ => rfl
  | _ :: _, _ :: _, h => by simp [tv_len h.2]
theorem bi_01 {p : Prop} [Decidable p] : bi p = 0 ∨ bi p = 1 := by unfold bi; split <;> simp
theorem wk_01 {k : Nat} {a b : Int64} (hk : k = 6 ∨ k = 7 ∨ k = 8 ∨ k = 10 ∨ k = 11) : wk k a b = 0 ∨ wk k a b = 1 := by
  rcases hk with rfl | rfl | rfl | rfl | rfl <;> exact bi_01
theorem ev1_0 {L : Nat → Int32} {tk : Tk} {s : List Int32} (h : tk.1 = 0) : ev1 L tk s = tk.2 :: s := by unfold ev1; rw [if_pos h]
theorem ev1_1 {L : Nat → Int32} {tk : Tk} {s : List Int32} (h : tk.1 = 1) : ev1 L tk s = L tk.2.toNatClampNeg :: s := by unfold ev1; rw [if_neg (by rw [h]; decide), if_pos h]
theorem ev1_9 {L : Nat → Int32} {tk : Tk} {x : Int32} {s : List Int32} (h : tk.1 = 9) : ev1 L tk (x :: s) = (1 - x) :: s := by rw [ev1, if_neg (by rw [h]; decide), if_neg (by rw [h]; decide), if_pos h]
theorem ev1_k {L : Nat → Int32} {tk : Tk} {x y : Int32} {s : List Int32} {k : Nat} (hk : k = 2 ∨ k = 3 ∨ k = 4 ∨ k = 5 ∨ k = 6 ∨ k = 7 ∨ k = 8 ∨ k = 10 ∨ k = 11) (h : tk.1 = nI k) : ev1 L tk (y :: x :: s) = wk k x.toInt64 y.toInt64 :: s := by
  rw [ev1, h]
  rcases hk with rfl | rfl | rfl | rfl | rfl | rfl | rfl | rfl | rfl <;> rfl
theorem ev1_tv {L : Nat → Int32} {tk : Tk} {ts ts' : List Bool} {s : List Int32} (h : ty1 tk ts = some ts') (hv : tv ts s) : tv ts' (ev1 L tk s) := by
  rcases ty1_inv h with ⟨h0, _, rfl⟩ | ⟨h1, _, _, rfl⟩ | ⟨h9, t, rfl, rfl⟩ | ⟨k, b, c, tt, hk, hk2, rfl, rfl, hb, hc⟩
  · rw [ev1_0 h0]; exact ⟨by simp, hv⟩
  · rw [ev1_1 h1]; exact ⟨by simp, hv⟩
  · match s, hv with
    | x :: s, hv =>
      rw [ev1_9 h9]
      exact ⟨fun _ => by rcases hv.1 rfl with rfl | rfl <;> simp, hv.2⟩
  · match s, hv with
    | y :: x :: s, hv =>
      rw [ev1_k hk hk2]
      exact ⟨fun z => wk_01 (by have := hc z; omega), hv.2.2⟩
theorem ev_tv {L : Nat → Int32} : ∀ (l : List Tk) (s : List Int32) (ts ts' : List Bool), tyk l ts = some ts' → tv ts s → tv ts' (ev L l s)
  | [], s, ts, ts', h, hv => by cases h; exact hv
  | tk :: l, s, ts, ts', h, hv => by
    rw [tyk] at h
    cases ht : ty1 tk ts with
    | none => rw [ht] at h; cases h
    | some t1 => rw [ht] at h; exact ev_tv l _ t1 ts' h (ev1_tv ht hv)
/-- the first places of a row are these, the last first -/
def StK (f : Nat → Int32) (s : List Int32) : Prop := ∀ i, i < s.length → f i = s.getD (s.length - 1 - i) 0
theorem StK.push {f : Nat → Int32} {x : Int32} {s : List Int32} (h : StK f s) : StK (upd f s.length x) (x :: s) := by
  intro i hi
  simp only [List.length_cons] at hi ⊢
  by_cases hi2 : i = s.length
  · subst hi2; simp [upd]
  · rw [show s.length + 1 - 1 - i = (s.length - 1 - i) + 1 by omega, List.getD_cons_succ]
    simp only [upd, if_neg hi2]
    exact h i (by omega)
theorem StK.top {f : Nat → Int32} {y z : Int32} {s : List Int32} (h : StK f (y :: s)) : StK (upd f s.length z) (z :: s) := by
  intro i hi
  have := h i hi
  simp only [List.length_cons] at hi this ⊢
  by_cases hi2 : i = s.length
  · subst hi2; simp [upd]
  · rw [show s.length + 1 - 1 - i = (s.length - 1 - i) + 1 by omega, List.getD_cons_succ] at this ⊢
    simp only [upd, if_neg hi2]
    exact this
theorem StK.pop {f : Nat → Int32} {y : Int32} {s : List Int32} (h : StK f (y :: s)) : f s.length = y ∧ StK f s := by
  refine ⟨?_, fun i hi => ?_⟩
  · have := h s.length (by simp)
    simpa using this
  · have := h i (by simp; omega)
    simp only [List.length_cons] at this
    rw [show s.length + 1 - 1 - i = (s.length - 1 - i) + 1 by omega, List.getD_cons_succ] at this
    exact this
theorem mup_f {μ : mm_mu} {c i : Nat} {x : Int32} : mup μ c i x c = upd (μ c) i x := by simp [mup, va_up]
def bnd' (v : Int64) : Int32 := if 1000000 < v then 1000000 else if v < -1000000 then -1000000 else v.toInt32
theorem bnd_is (v : Int64) : bnd' v = bnd v := by
  unfold bnd' bnd
  have e1 : (1000000 : Int64).toInt = 1000000 := rfl
  have e2 : (-1000000 : Int64).toInt = -1000000 := rfl
  by_cases h1 : 1000000 < v
  · have h2 : ¬ v < 1000000 := by simp only [Int64.lt_iff_toInt_lt, e1] at *; omega
    rw [if_pos h1, if_neg h2, if_pos (by decide)]; rfl
  · rw [if_neg h1]
    by_cases h2 : v < -1000000
    · have h3 : v < 1000000 := by simp only [Int64.lt_iff_toInt_lt, e1, e2] at *; omega
      have h4 : ¬ -1000000 < v := by simp only [Int64.lt_iff_toInt_lt, e1, e2] at *; omega
      rw [if_pos h2, if_pos h3, if_neg h4]; rfl
    · rw [if_neg h2]
      by_cases h3 : v < 1000000
      · rw [if_pos h3]
        by_cases h4 : -1000000 < v
        · rw [if_pos h4]
        · rw [if_neg h4]
          have : v = -1000000 := by
            apply Int64.toInt_inj.mp
            simp only [Int64.lt_iff_toInt_lt, e1, e2] at *; omega
          rw [this]
      · rw [if_neg h3, if_pos (by decide)]
        have : v = 1000000 := by
          apply Int64.toInt_inj.mp
          simp only [Int64.lt_iff_toInt_lt, e1, e2] at *; omega
        rw [this]
theorem bnd_1 : bnd 1 = 1 := by decide
theorem bnd_0 : bnd 0 = 0 := by decide
section C1
variable {d : Nat} {ε : mm_X} {μ : mm_mu} {Q : mm_Q0} {h : mm_H}
theorem c_jend {x : Int32} {a b v : Int64} {y z : Value} (hQ : Q (some (.int (bnd v))) h) : G0 (d + 1) mX5_joined Q 193 [.int x, .long a, y, .long b, z, .long v, .null] [] h := by
  rw [← bnd_is, bnd'] at hQ
  refine mw_ok (M := mX5_joined) (fun _ => false) okTX5 rfl 30 _ _ _ _ ?_
  simp only [eX5_joined_0, eX5_joined_1, eX5_joined_84, eX5_joined_85, eX5_joined_86, eX5_joined_87, eX5_joined_89, eX5_joined_92, eX5_joined_93, eX5_joined_94, eX5_joined_95, eX5_joined_97, eX5_joined_100, eX5_joined_101, eX5_joined_102, eX5_joined_103, eX5_joined_105, eX5_joined_108, eX5_joined_109, eX5_joined_110, eX5_joined_111, eX5_joined_114, eX5_joined_115, eX5_joined_118, eX5_joined_119, eX5_joined_120, eX5_joined_121, eX5_joined_123, eX5_joined_126, eX5_joined_127, eX5_joined_128, eX5_joined_129, eX5_joined_132, eX5_joined_133, eX5_joined_136, eX5_joined_137, eX5_joined_139, eX5_joined_142, eX5_joined_143, eX5_joined_144, eX5_joined_145, eX5_joined_148, eX5_joined_149, eX5_joined_152, eX5_joined_153, eX5_joined_155, eX5_joined_158, eX5_joined_159, eX5_joined_160, eX5_joined_161, eX5_joined_164, eX5_joined_165, eX5_joined_168, eX5_joined_169, eX5_joined_171, eX5_joined_174, eX5_joined_175, eX5_joined_176, eX5_joined_177, eX5_joined_179, eX5_joined_182, eX5_joined_183, eX5_joined_184, eX5_joined_185, eX5_joined_187, eX5_joined_190, eX5_joined_191, eX5_joined_193, eX5_joined_195, eX5_joined_198, eX5_joined_199, eX5_joined_202, eX5_joined_204, eX5_joined_207, eX5_joined_209, eX5_joined_212, eX5_joined_213, eX5_joined_216, eX5_joined_218, eX5_joined_221, eX5_joined_223, eX5_joined_224, st_goto, st_iconst, st_if_eq, st_if_ne, st_if_lt, st_if_ge, st_if_gt, st_if_le, st_iload, st_iret, st_zret, st_bret, st_l2i, st_ladd, st_land, st_lcmp, st_ldiv, st_lload, st_lmul, st_lsw, mm_lsw, st_lor, st_lstore, st_lsub, st_lconst, mm_cut, cond_false, cond_true, List.getElem?_cons_succ, List.getElem?_cons_zero, Int.reduceToNat, Nat.reduceMod, Nat.reduceDiv, Nat.reduceAdd, true_and, and_true, mm_set, mm_set2, mm_pop, List.length_cons, List.length_nil, Nat.reduceLeDiff, Int32.reduceOfInt, Int64.reduceOfInt, nar_b0, nar_b1, List.cons_append, List.nil_append, Option.toList_some, Option.toList_none, List.map_cons, List.map_nil, List.sum_cons, List.sum_nil, cat_i, cat_r, cat_l, Nat.zero_le, Int32.reduceOfNat, Int32.reduceAdd, Int32.reduceLT, Int32.reduceLE, forall_const, true_implies, false_implies, not_false_eq_true, not_true_eq_false, bi_eq0, bi_ne0, sl_0, sl_3, va_rf, Nat.reduceEqDiff, if_false, ite_false, ite_true, reduceIte, List.set_cons_zero, List.set_cons_succ, Nat.succ_eq_add_one, mup_c, mup_s, mw_zero, ne_eq, lit_10, lit_01, lit_m10, lit_m11, nar_bi, lg_gt, lg_le, lg_ge, lg_lt, lg_eq]
  refine ⟨fun h1 => ⟨fun h2 => ?_, fun h2 => ?_⟩, fun h1 => ?_⟩
  · rw [if_neg (by simp only [Int64.lt_iff_toInt_lt, Int64.le_iff_toInt_le] at *; omega), if_neg (by simp only [Int64.lt_iff_toInt_lt, Int64.le_iff_toInt_le] at *; omega)] at hQ; exact hQ
  · rw [if_neg (by simp only [Int64.lt_iff_toInt_lt, Int64.le_iff_toInt_le] at *; omega), if_pos (by simp only [Int64.lt_iff_toInt_lt, Int64.le_iff_toInt_le] at *; omega)] at hQ; exact hQ
  · rw [if_pos (by simp only [Int64.lt_iff_toInt_lt, Int64.le_iff_toInt_le] at *; omega)] at hQ; exact hQ
theorem c_joined {x : Int32} {a b : Int32} {k : Nat} (hx : x = - csg (nI k)) (hk : k = 2 ∨ k = 3 ∨ k = 4 ∨ k = 5 ∨ k = 6 ∨ k = 7 ∨ k = 8 ∨ k = 10 ∨ k = 11) (h01 : k = 10 ∨ k = 11 → (a = 0 ∨ a = 1) ∧ (b = 0 ∨ b = 1)) (hQ : Q (some (.int (wk k a.toInt64 b.toInt64))) h) : B0 (d + 1) mX5_joined [.int x, .long a.toInt64, .long b.toInt64] h Q := by
  refine b0_of_G0 (lv := [.int x, .long a.toInt64, .null, .long b.toInt64, .null, .null, .null]) (by decide +kernel) (Nat.le_of_ble_eq_true rfl) rfl ?_
  rcases hk with rfl | rfl | rfl | rfl | rfl | rfl | rfl | rfl | rfl
  all_goals (subst hx)
  · refine mw_ok (M := mX5_joined) (fun q => q == 193) okTX5 rfl 30 _ _ _ _ ?_
    simp (decide := true) only [eX5_joined_0, eX5_joined_1, eX5_joined_84, eX5_joined_85, eX5_joined_86, eX5_joined_87, eX5_joined_89, eX5_joined_92, eX5_joined_93, eX5_joined_94, eX5_joined_95, eX5_joined_97, eX5_joined_100, eX5_joined_101, eX5_joined_102, eX5_joined_103, eX5_joined_105, eX5_joined_108, eX5_joined_109, eX5_joined_110, eX5_joined_111, eX5_joined_114, eX5_joined_115, eX5_joined_118, eX5_joined_119, eX5_joined_120, eX5_joined_121, eX5_joined_123, eX5_joined_126, eX5_joined_127, eX5_joined_128, eX5_joined_129, eX5_joined_132, eX5_joined_133, eX5_joined_136, eX5_joined_137, eX5_joined_139, eX5_joined_142, eX5_joined_143, eX5_joined_144, eX5_joined_145, eX5_joined_148, eX5_joined_149, eX5_joined_152, eX5_joined_153, eX5_joined_155, eX5_joined_158, eX5_joined_159, eX5_joined_160, eX5_joined_161, eX5_joined_164, eX5_joined_165, eX5_joined_168, eX5_joined_169, eX5_joined_171, eX5_joined_174, eX5_joined_175, eX5_joined_176, eX5_joined_177, eX5_joined_179, eX5_joined_182, eX5_joined_183, eX5_joined_184, eX5_joined_185, eX5_joined_187, eX5_joined_190, eX5_joined_191, eX5_joined_193, eX5_joined_195, eX5_joined_198, eX5_joined_199, eX5_joined_202, eX5_joined_204, eX5_joined_207, eX5_joined_209, eX5_joined_212, eX5_joined_213, eX5_joined_216, eX5_joined_218, eX5_joined_221, eX5_joined_223, eX5_joined_224, st_goto, st_iconst, st_if_eq, st_if_ne, st_if_lt, st_if_ge, st_if_gt, st_if_le, st_iload, st_iret, st_zret, st_bret, st_l2i, st_ladd, st_land, st_lcmp, st_ldiv, st_lload, st_lmul, st_lsw, mm_lsw, st_lor, st_lstore, st_lsub, st_lconst, mm_cut, cond_false, cond_true, List.getElem?_cons_succ, List.getElem?_cons_zero, Int.reduceToNat, Nat.reduceMod, Nat.reduceDiv, Nat.reduceAdd, true_and, and_true, mm_set, mm_set2, mm_pop, List.length_cons, List.length_nil, Nat.reduceLeDiff, Int32.reduceOfInt, Int64.reduceOfInt, nar_b0, nar_b1, List.cons_append, List.nil_append, Option.toList_some, Option.toList_none, List.map_cons, List.map_nil, List.sum_cons, List.sum_nil, cat_i, cat_r, cat_l, Nat.zero_le, Int32.reduceOfNat, Int32.reduceAdd, Int32.reduceLT, Int32.reduceLE, forall_const, true_implies, false_implies, not_false_eq_true, not_true_eq_false, bi_eq0, bi_ne0, sl_0, sl_3, va_rf, Nat.reduceEqDiff, if_false, ite_false, ite_true, reduceIte, List.set_cons_zero, List.set_cons_succ, Nat.succ_eq_add_one, mup_c, mup_s, mw_zero, ne_eq, lit_10, lit_01, lit_m10, lit_m11, nar_bi, csg, lg_gt, lg_le, lg_ge, lg_lt, lg_eq, Nat.reduceBEq, Bool.or_false, Bool.false_or, Bool.or_true, Bool.true_or]
    exact c_jend hQ
  · refine mw_ok (M := mX5_joined) (fun q => q == 193) okTX5 rfl 30 _ _ _ _ ?_
    simp (decide := true) only [eX5_joined_0, eX5_joined_1, eX5_joined_84, eX5_joined_85, eX5_joined_86, eX5_joined_87, eX5_joined_89, eX5_joined_92, eX5_joined_93, eX5_joined_94, eX5_joined_95, eX5_joined_97, eX5_joined_100, eX5_joined_101, eX5_joined_102, eX5_joined_103, eX5_joined_105, eX5_joined_108, eX5_joined_109, eX5_joined_110, eX5_joined_111, eX5_joined_114, eX5_joined_115, eX5_joined_118, eX5_joined_119, eX5_joined_120, eX5_joined_121, eX5_joined_123, eX5_joined_126, eX5_joined_127, eX5_joined_128, eX5_joined_129, eX5_joined_132, eX5_joined_133, eX5_joined_136, eX5_joined_137, eX5_joined_139, eX5_joined_142, eX5_joined_143, eX5_joined_144, eX5_joined_145, eX5_joined_148, eX5_joined_149, eX5_joined_152, eX5_joined_153, eX5_joined_155, eX5_joined_158, eX5_joined_159, eX5_joined_160, eX5_joined_161, eX5_joined_164, eX5_joined_165, eX5_joined_168, eX5_joined_169, eX5_joined_171, eX5_joined_174, eX5_joined_175, eX5_joined_176, eX5_joined_177, eX5_joined_179, eX5_joined_182, eX5_joined_183, eX5_joined_184, eX5_joined_185, eX5_joined_187, eX5_joined_190, eX5_joined_191, eX5_joined_193, eX5_joined_195, eX5_joined_198, eX5_joined_199, eX5_joined_202, eX5_joined_204, eX5_joined_207, eX5_joined_209, eX5_joined_212, eX5_joined_213, eX5_joined_216, eX5_joined_218, eX5_joined_221, eX5_joined_223, eX5_joined_224, st_goto, st_iconst, st_if_eq, st_if_ne, st_if_lt, st_if_ge, st_if_gt, st_if_le, st_iload, st_iret, st_zret, st_bret, st_l2i, st_ladd, st_land, st_lcmp, st_ldiv, st_lload, st_lmul, st_lsw, mm_lsw, st_lor, st_lstore, st_lsub, st_lconst, mm_cut, cond_false, cond_true, List.getElem?_cons_succ, List.getElem?_cons_zero, Int.reduceToNat, Nat.reduceMod, Nat.reduceDiv, Nat.reduceAdd, true_and, and_true, mm_set, mm_set2, mm_pop, List.length_cons, List.length_nil, Nat.reduceLeDiff, Int32.reduceOfInt, Int64.reduceOfInt, nar_b0, nar_b1, List.cons_append, List.nil_append, Option.toList_some, Option.toList_none, List.map_cons, List.map_nil, List.sum_cons, List.sum_nil, cat_i, cat_r, cat_l, Nat.zero_le, Int32.reduceOfNat, Int32.reduceAdd, Int32.reduceLT, Int32.reduceLE, forall_const, true_implies, false_implies, not_false_eq_true, not_true_eq_false, bi_eq0, bi_ne0, sl_0, sl_3, va_rf, Nat.reduceEqDiff, if_false, ite_false, ite_true, reduceIte, List.set_cons_zero, List.set_cons_succ, Nat.succ_eq_add_one, mup_c, mup_s, mw_zero, ne_eq, lit_10, lit_01, lit_m10, lit_m11, nar_bi, csg, lg_gt, lg_le, lg_ge, lg_lt, lg_eq, Nat.reduceBEq, Bool.or_false, Bool.false_or, Bool.or_true, Bool.true_or]
    exact c_jend hQ
  · refine mw_ok (M := mX5_joined) (fun q => q == 193) okTX5 rfl 30 _ _ _ _ ?_
    simp (decide := true) only [eX5_joined_0, eX5_joined_1, eX5_joined_84, eX5_joined_85, eX5_joined_86, eX5_joined_87, eX5_joined_89, eX5_joined_92, eX5_joined_93, eX5_joined_94, eX5_joined_95, eX5_joined_97, eX5_joined_100, eX5_joined_101, eX5_joined_102, eX5_joined_103, eX5_joined_105, eX5_joined_108, eX5_joined_109, eX5_joined_110, eX5_joined_111, eX5_joined_114, eX5_joined_115, eX5_joined_118, eX5_joined_119, eX5_joined_120, eX5_joined_121, eX5_joined_123, eX5_joined_126, eX5_joined_127, eX5_joined_128, eX5_joined_129, eX5_joined_132, eX5_joined_133, eX5_joined_136, eX5_joined_137, eX5_joined_139, eX5_joined_142, eX5_joined_143, eX5_joined_144, eX5_joined_145, eX5_joined_148, eX5_joined_149, eX5_joined_152, eX5_joined_153, eX5_joined_155, eX5_joined_158, eX5_joined_159, eX5_joined_160, eX5_joined_161, eX5_joined_164, eX5_joined_165, eX5_joined_168, eX5_joined_169, eX5_joined_171, eX5_joined_174, eX5_joined_175, eX5_joined_176, eX5_joined_177, eX5_joined_179, eX5_joined_182, eX5_joined_183, eX5_joined_184, eX5_joined_185, eX5_joined_187, eX5_joined_190, eX5_joined_191, eX5_joined_193, eX5_joined_195, eX5_joined_198, eX5_joined_199, eX5_joined_202, eX5_joined_204, eX5_joined_207, eX5_joined_209, eX5_joined_212, eX5_joined_213, eX5_joined_216, eX5_joined_218, eX5_joined_221, eX5_joined_223, eX5_joined_224, st_goto, st_iconst, st_if_eq, st_if_ne, st_if_lt, st_if_ge, st_if_gt, st_if_le, st_iload, st_iret, st_zret, st_bret, st_l2i, st_ladd, st_land, st_lcmp, st_ldiv, st_lload, st_lmul, st_lsw, mm_lsw, st_lor, st_lstore, st_lsub, st_lconst, mm_cut, cond_false, cond_true, List.getElem?_cons_succ, List.getElem?_cons_zero, Int.reduceToNat, Nat.reduceMod, Nat.reduceDiv, Nat.reduceAdd, true_and, and_true, mm_set, mm_set2, mm_pop, List.length_cons, List.length_nil, Nat.reduceLeDiff, Int32.reduceOfInt, Int64.reduceOfInt, nar_b0, nar_b1, List.cons_append, List.nil_append, Option.toList_some, Option.toList_none, List.map_cons, List.map_nil, List.sum_cons, List.sum_nil, cat_i, cat_r, cat_l, Nat.zero_le, Int32.reduceOfNat, Int32.reduceAdd, Int32.reduceLT, Int32.reduceLE, forall_const, true_implies, false_implies, not_false_eq_true, not_true_eq_false, bi_eq0, bi_ne0, sl_0, sl_3, va_rf, Nat.reduceEqDiff, if_false, ite_false, ite_true, reduceIte, List.set_cons_zero, List.set_cons_succ, Nat.succ_eq_add_one, mup_c, mup_s, mw_zero, ne_eq, lit_10, lit_01, lit_m10, lit_m11, nar_bi, csg, lg_gt, lg_le, lg_ge, lg_lt, lg_eq, Nat.reduceBEq, Bool.or_false, Bool.false_or, Bool.or_true, Bool.true_or]
    exact c_jend hQ
  · refine mw_ok (M := mX5_joined) (fun q => q == 193) okTX5 rfl 30 _ _ _ _ ?_
    simp (decide := true) only [eX5_joined_0, eX5_joined_1, eX5_joined_84, eX5_joined_85, eX5_joined_86, eX5_joined_87, eX5_joined_89, eX5_joined_92, eX5_joined_93, eX5_joined_94, eX5_joined_95, eX5_joined_97, eX5_joined_100, eX5_joined_101, eX5_joined_102, eX5_joined_103, eX5_joined_105, eX5_joined_108, eX5_joined_109, eX5_joined_110, eX5_joined_111, eX5_joined_114, eX5_joined_115, eX5_joined_118, eX5_joined_119, eX5_joined_120, eX5_joined_121, eX5_joined_123, eX5_joined_126, eX5_joined_127, eX5_joined_128, eX5_joined_129, eX5_joined_132, eX5_joined_133, eX5_joined_136, eX5_joined_137, eX5_joined_139, eX5_joined_142, eX5_joined_143, eX5_joined_144, eX5_joined_145, eX5_joined_148, eX5_joined_149, eX5_joined_152, eX5_joined_153, eX5_joined_155, eX5_joined_158, eX5_joined_159, eX5_joined_160, eX5_joined_161, eX5_joined_164, eX5_joined_165, eX5_joined_168, eX5_joined_169, eX5_joined_171, eX5_joined_174, eX5_joined_175, eX5_joined_176, eX5_joined_177, eX5_joined_179, eX5_joined_182, eX5_joined_183, eX5_joined_184, eX5_joined_185, eX5_joined_187, eX5_joined_190, eX5_joined_191, eX5_joined_193, eX5_joined_195, eX5_joined_198, eX5_joined_199, eX5_joined_202, eX5_joined_204, eX5_joined_207, eX5_joined_209, eX5_joined_212, eX5_joined_213, eX5_joined_216, eX5_joined_218, eX5_joined_221, eX5_joined_223, eX5_joined_224, st_goto, st_iconst, st_if_eq, st_if_ne, st_if_lt, st_if_ge, st_if_gt, st_if_le, st_iload, st_iret, st_zret, st_bret, st_l2i, st_ladd, st_land, st_lcmp, st_ldiv, st_lload, st_lmul, st_lsw, mm_lsw, st_lor, st_lstore, st_lsub, st_lconst, mm_cut, cond_false, cond_true, List.getElem?_cons_succ, List.getElem?_cons_zero, Int.reduceToNat, Nat.reduceMod, Nat.reduceDiv, Nat.reduceAdd, true_and, and_true, mm_set, mm_set2, mm_pop, List.length_cons, List.length_nil, Nat.reduceLeDiff, Int32.reduceOfInt, Int64.reduceOfInt, nar_b0, nar_b1, List.cons_append, List.nil_append, Option.toList_some, Option.toList_none, List.map_cons, List.map_nil, List.sum_cons, List.sum_nil, cat_i, cat_r, cat_l, Nat.zero_le, Int32.reduceOfNat, Int32.reduceAdd, Int32.reduceLT, Int32.reduceLE, forall_const, true_implies, false_implies, not_false_eq_true, not_true_eq_false, bi_eq0, bi_ne0, sl_0, sl_3, va_rf, Nat.reduceEqDiff, if_false, ite_false, ite_true, reduceIte, List.set_cons_zero, List.set_cons_succ, Nat.succ_eq_add_one, mup_c, mup_s, mw_zero, ne_eq, lit_10, lit_01, lit_m10, lit_m11, nar_bi, csg, lg_gt, lg_le, lg_ge, lg_lt, lg_eq, Nat.reduceBEq, Bool.or_false, Bool.false_or, Bool.or_true, Bool.true_or]
    change Q (some (.int (if b.toInt64 = 0 then 0 else bnd (a.toInt64 / b.toInt64)))) h at hQ
    refine ⟨fun h1 => ⟨h1, ?_⟩, fun h1 => ?_⟩
    · rw [if_neg h1] at hQ; exact c_jend hQ
    · rw [if_pos h1] at hQ; exact c_jend (by rw [bnd_0]; exact hQ)
  · refine mw_ok (M := mX5_joined) (fun q => q == 193) okTX5 rfl 30 _ _ _ _ ?_
    simp (decide := true) only [eX5_joined_0, eX5_joined_1, eX5_joined_84, eX5_joined_85, eX5_joined_86, eX5_joined_87, eX5_joined_89, eX5_joined_92, eX5_joined_93, eX5_joined_94, eX5_joined_95, eX5_joined_97, eX5_joined_100, eX5_joined_101, eX5_joined_102, eX5_joined_103, eX5_joined_105, eX5_joined_108, eX5_joined_109, eX5_joined_110, eX5_joined_111, eX5_joined_114, eX5_joined_115, eX5_joined_118, eX5_joined_119, eX5_joined_120, eX5_joined_121, eX5_joined_123, eX5_joined_126, eX5_joined_127, eX5_joined_128, eX5_joined_129, eX5_joined_132, eX5_joined_133, eX5_joined_136, eX5_joined_137, eX5_joined_139, eX5_joined_142, eX5_joined_143, eX5_joined_144, eX5_joined_145, eX5_joined_148, eX5_joined_149, eX5_joined_152, eX5_joined_153, eX5_joined_155, eX5_joined_158, eX5_joined_159, eX5_joined_160, eX5_joined_161, eX5_joined_164, eX5_joined_165, eX5_joined_168, eX5_joined_169, eX5_joined_171, eX5_joined_174, eX5_joined_175, eX5_joined_176, eX5_joined_177, eX5_joined_179, eX5_joined_182, eX5_joined_183, eX5_joined_184, eX5_joined_185, eX5_joined_187, eX5_joined_190, eX5_joined_191, eX5_joined_193, eX5_joined_195, eX5_joined_198, eX5_joined_199, eX5_joined_202, eX5_joined_204, eX5_joined_207, eX5_joined_209, eX5_joined_212, eX5_joined_213, eX5_joined_216, eX5_joined_218, eX5_joined_221, eX5_joined_223, eX5_joined_224, st_goto, st_iconst, st_if_eq, st_if_ne, st_if_lt, st_if_ge, st_if_gt, st_if_le, st_iload, st_iret, st_zret, st_bret, st_l2i, st_ladd, st_land, st_lcmp, st_ldiv, st_lload, st_lmul, st_lsw, mm_lsw, st_lor, st_lstore, st_lsub, st_lconst, mm_cut, cond_false, cond_true, List.getElem?_cons_succ, List.getElem?_cons_zero, Int.reduceToNat, Nat.reduceMod, Nat.reduceDiv, Nat.reduceAdd, true_and, and_true, mm_set, mm_set2, mm_pop, List.length_cons, List.length_nil, Nat.reduceLeDiff, Int32.reduceOfInt, Int64.reduceOfInt, nar_b0, nar_b1, List.cons_append, List.nil_append, Option.toList_some, Option.toList_none, List.map_cons, List.map_nil, List.sum_cons, List.sum_nil, cat_i, cat_r, cat_l, Nat.zero_le, Int32.reduceOfNat, Int32.reduceAdd, Int32.reduceLT, Int32.reduceLE, forall_const, true_implies, false_implies, not_false_eq_true, not_true_eq_false, bi_eq0, bi_ne0, sl_0, sl_3, va_rf, Nat.reduceEqDiff, if_false, ite_false, ite_true, reduceIte, List.set_cons_zero, List.set_cons_succ, Nat.succ_eq_add_one, mup_c, mup_s, mw_zero, ne_eq, lit_10, lit_01, lit_m10, lit_m11, nar_bi, csg, lg_gt, lg_le, lg_ge, lg_lt, lg_eq, Nat.reduceBEq, Bool.or_false, Bool.false_or, Bool.or_true, Bool.true_or]
    change Q (some (.int (bi (a.toInt64 = b.toInt64)))) h at hQ
    refine ⟨fun h1 => ?_, fun h1 => ?_⟩
    · rw [bi0 h1] at hQ; exact c_jend (by rw [bnd_0]; exact hQ)
    · rw [bi1 h1] at hQ; exact c_jend (by rw [bnd_1]; exact hQ)
  · refine mw_ok (M := mX5_joined) (fun q => q == 193) okTX5 rfl 30 _ _ _ _ ?_
    simp (decide := true) only [eX5_joined_0, eX5_joined_1, eX5_joined_84, eX5_joined_85, eX5_joined_86, eX5_joined_87, eX5_joined_89, eX5_joined_92, eX5_joined_93, eX5_joined_94, eX5_joined_95, eX5_joined_97, eX5_joined_100, eX5_joined_101, eX5_joined_102, eX5_joined_103, eX5_joined_105, eX5_joined_108, eX5_joined_109, eX5_joined_110, eX5_joined_111, eX5_joined_114, eX5_joined_115, eX5_joined_118, eX5_joined_119, eX5_joined_120, eX5_joined_121, eX5_joined_123, eX5_joined_126, eX5_joined_127, eX5_joined_128, eX5_joined_129, eX5_joined_132, eX5_joined_133, eX5_joined_136, eX5_joined_137, eX5_joined_139, eX5_joined_142, eX5_joined_143, eX5_joined_144, eX5_joined_145, eX5_joined_148, eX5_joined_149, eX5_joined_152, eX5_joined_153, eX5_joined_155, eX5_joined_158, eX5_joined_159, eX5_joined_160, eX5_joined_161, eX5_joined_164, eX5_joined_165, eX5_joined_168, eX5_joined_169, eX5_joined_171, eX5_joined_174, eX5_joined_175, eX5_joined_176, eX5_joined_177, eX5_joined_179, eX5_joined_182, eX5_joined_183, eX5_joined_184, eX5_joined_185, eX5_joined_187, eX5_joined_190, eX5_joined_191, eX5_joined_193, eX5_joined_195, eX5_joined_198, eX5_joined_199, eX5_joined_202, eX5_joined_204, eX5_joined_207, eX5_joined_209, eX5_joined_212, eX5_joined_213, eX5_joined_216, eX5_joined_218, eX5_joined_221, eX5_joined_223, eX5_joined_224, st_goto, st_iconst, st_if_eq, st_if_ne, st_if_lt, st_if_ge, st_if_gt, st_if_le, st_iload, st_iret, st_zret, st_bret, st_l2i, st_ladd, st_land, st_lcmp, st_ldiv, st_lload, st_lmul, st_lsw, mm_lsw, st_lor, st_lstore, st_lsub, st_lconst, mm_cut, cond_false, cond_true, List.getElem?_cons_succ, List.getElem?_cons_zero, Int.reduceToNat, Nat.reduceMod, Nat.reduceDiv, Nat.reduceAdd, true_and, and_true, mm_set, mm_set2, mm_pop, List.length_cons, List.length_nil, Nat.reduceLeDiff, Int32.reduceOfInt, Int64.reduceOfInt, nar_b0, nar_b1, List.cons_append, List.nil_append, Option.toList_some, Option.toList_none, List.map_cons, List.map_nil, List.sum_cons, List.sum_nil, cat_i, cat_r, cat_l, Nat.zero_le, Int32.reduceOfNat, Int32.reduceAdd, Int32.reduceLT, Int32.reduceLE, forall_const, true_implies, false_implies, not_false_eq_true, not_true_eq_false, bi_eq0, bi_ne0, sl_0, sl_3, va_rf, Nat.reduceEqDiff, if_false, ite_false, ite_true, reduceIte, List.set_cons_zero, List.set_cons_succ, Nat.succ_eq_add_one, mup_c, mup_s, mw_zero, ne_eq, lit_10, lit_01, lit_m10, lit_m11, nar_bi, csg, lg_gt, lg_le, lg_ge, lg_lt, lg_eq, Nat.reduceBEq, Bool.or_false, Bool.false_or, Bool.or_true, Bool.true_or]
    change Q (some (.int (bi (a.toInt64 < b.toInt64)))) h at hQ
    refine ⟨fun h1 => ?_, fun h1 => ?_⟩
    · rw [bi0 (by simp only [Int64.lt_iff_toInt_lt, Int64.le_iff_toInt_le] at *; omega)] at hQ; exact c_jend (by rw [bnd_0]; exact hQ)
    · rw [bi1 (by simp only [Int64.lt_iff_toInt_lt, Int64.le_iff_toInt_le] at *; omega)] at hQ; exact c_jend (by rw [bnd_1]; exact hQ)
  · refine mw_ok (M := mX5_joined) (fun q => q == 193) okTX5 rfl 30 _ _ _ _ ?_
    simp (decide := true) only [eX5_joined_0, eX5_joined_1, eX5_joined_84, eX5_joined_85, eX5_joined_86, eX5_joined_87, eX5_joined_89, eX5_joined_92, eX5_joined_93, eX5_joined_94, eX5_joined_95, eX5_joined_97, eX5_joined_100, eX5_joined_101, eX5_joined_102, eX5_joined_103, eX5_joined_105, eX5_joined_108, eX5_joined_109, eX5_joined_110, eX5_joined_111, eX5_joined_114, eX5_joined_115, eX5_joined_118, eX5_joined_119, eX5_joined_120, eX5_joined_121, eX5_joined_123, eX5_joined_126, eX5_joined_127, eX5_joined_128, eX5_joined_129, eX5_joined_132, eX5_joined_133, eX5_joined_136, eX5_joined_137, eX5_joined_139, eX5_joined_142, eX5_joined_143, eX5_joined_144, eX5_joined_145, eX5_joined_148, eX5_joined_149, eX5_joined_152, eX5_joined_153, eX5_joined_155, eX5_joined_158, eX5_joined_159, eX5_joined_160, eX5_joined_161, eX5_joined_164, eX5_joined_165, eX5_joined_168, eX5_joined_169, eX5_joined_171, eX5_joined_174, eX5_joined_175, eX5_joined_176, eX5_joined_177, eX5_joined_179, eX5_joined_182, eX5_joined_183, eX5_joined_184, eX5_joined_185, eX5_joined_187, eX5_joined_190, eX5_joined_191, eX5_joined_193, eX5_joined_195, eX5_joined_198, eX5_joined_199, eX5_joined_202, eX5_joined_204, eX5_joined_207, eX5_joined_209, eX5_joined_212, eX5_joined_213, eX5_joined_216, eX5_joined_218, eX5_joined_221, eX5_joined_223, eX5_joined_224, st_goto, st_iconst, st_if_eq, st_if_ne, st_if_lt, st_if_ge, st_if_gt, st_if_le, st_iload, st_iret, st_zret, st_bret, st_l2i, st_ladd, st_land, st_lcmp, st_ldiv, st_lload, st_lmul, st_lsw, mm_lsw, st_lor, st_lstore, st_lsub, st_lconst, mm_cut, cond_false, cond_true, List.getElem?_cons_succ, List.getElem?_cons_zero, Int.reduceToNat, Nat.reduceMod, Nat.reduceDiv, Nat.reduceAdd, true_and, and_true, mm_set, mm_set2, mm_pop, List.length_cons, List.length_nil, Nat.reduceLeDiff, Int32.reduceOfInt, Int64.reduceOfInt, nar_b0, nar_b1, List.cons_append, List.nil_append, Option.toList_some, Option.toList_none, List.map_cons, List.map_nil, List.sum_cons, List.sum_nil, cat_i, cat_r, cat_l, Nat.zero_le, Int32.reduceOfNat, Int32.reduceAdd, Int32.reduceLT, Int32.reduceLE, forall_const, true_implies, false_implies, not_false_eq_true, not_true_eq_false, bi_eq0, bi_ne0, sl_0, sl_3, va_rf, Nat.reduceEqDiff, if_false, ite_false, ite_true, reduceIte, List.set_cons_zero, List.set_cons_succ, Nat.succ_eq_add_one, mup_c, mup_s, mw_zero, ne_eq, lit_10, lit_01, lit_m10, lit_m11, nar_bi, csg, lg_gt, lg_le, lg_ge, lg_lt, lg_eq, Nat.reduceBEq, Bool.or_false, Bool.false_or, Bool.or_true, Bool.true_or]
    change Q (some (.int (bi (b.toInt64 < a.toInt64)))) h at hQ
    refine ⟨fun h1 => ?_, fun h1 => ?_⟩
    · rw [bi0 (by simp only [Int64.lt_iff_toInt_lt, Int64.le_iff_toInt_le] at *; omega)] at hQ; exact c_jend (by rw [bnd_0]; exact hQ)
    · rw [bi1 (by simp only [Int64.lt_iff_toInt_lt, Int64.le_iff_toInt_le] at *; omega)] at hQ; exact c_jend (by rw [bnd_1]; exact hQ)
  · have e := h01 (by simp)
    have e2 : wk 10 a.toInt64 b.toInt64 = bnd (a.toInt64 &&& b.toInt64) := by
      rcases e with ⟨rfl | rfl, rfl | rfl⟩ <;> decide
    rw [e2] at hQ
    refine mw_ok (M := mX5_joined) (fun q => q == 193) okTX5 rfl 30 _ _ _ _ ?_
    simp (decide := true) only [eX5_joined_0, eX5_joined_1, eX5_joined_84, eX5_joined_85, eX5_joined_86, eX5_joined_87, eX5_joined_89, eX5_joined_92, eX5_joined_93, eX5_joined_94, eX5_joined_95, eX5_joined_97, eX5_joined_100, eX5_joined_101, eX5_joined_102, eX5_joined_103, eX5_joined_105, eX5_joined_108, eX5_joined_109, eX5_joined_110, eX5_joined_111, eX5_joined_114, eX5_joined_115, eX5_joined_118, eX5_joined_119, eX5_joined_120, eX5_joined_121, eX5_joined_123, eX5_joined_126, eX5_joined_127, eX5_joined_128, eX5_joined_129, eX5_joined_132, eX5_joined_133, eX5_joined_136, eX5_joined_137, eX5_joined_139, eX5_joined_142, eX5_joined_143, eX5_joined_144, eX5_joined_145, eX5_joined_148, eX5_joined_149, eX5_joined_152, eX5_joined_153, eX5_joined_155, eX5_joined_158, eX5_joined_159, eX5_joined_160, eX5_joined_161, eX5_joined_164, eX5_joined_165, eX5_joined_168, eX5_joined_169, eX5_joined_171, eX5_joined_174, eX5_joined_175, eX5_joined_176, eX5_joined_177, eX5_joined_179, eX5_joined_182, eX5_joined_183, eX5_joined_184, eX5_joined_185, eX5_joined_187, eX5_joined_190, eX5_joined_191, eX5_joined_193, eX5_joined_195, eX5_joined_198, eX5_joined_199, eX5_joined_202, eX5_joined_204, eX5_joined_207, eX5_joined_209, eX5_joined_212, eX5_joined_213, eX5_joined_216, eX5_joined_218, eX5_joined_221, eX5_joined_223, eX5_joined_224, st_goto, st_iconst, st_if_eq, st_if_ne, st_if_lt, st_if_ge, st_if_gt, st_if_le, st_iload, st_iret, st_zret, st_bret, st_l2i, st_ladd, st_land, st_lcmp, st_ldiv, st_lload, st_lmul, st_lsw, mm_lsw, st_lor, st_lstore, st_lsub, st_lconst, mm_cut, cond_false, cond_true, List.getElem?_cons_succ, List.getElem?_cons_zero, Int.reduceToNat, Nat.reduceMod, Nat.reduceDiv, Nat.reduceAdd, true_and, and_true, mm_set, mm_set2, mm_pop, List.length_cons, List.length_nil, Nat.reduceLeDiff, Int32.reduceOfInt, Int64.reduceOfInt, nar_b0, nar_b1, List.cons_append, List.nil_append, Option.toList_some, Option.toList_none, List.map_cons, List.map_nil, List.sum_cons, List.sum_nil, cat_i, cat_r, cat_l, Nat.zero_le, Int32.reduceOfNat, Int32.reduceAdd, Int32.reduceLT, Int32.reduceLE, forall_const, true_implies, false_implies, not_false_eq_true, not_true_eq_false, bi_eq0, bi_ne0, sl_0, sl_3, va_rf, Nat.reduceEqDiff, if_false, ite_false, ite_true, reduceIte, List.set_cons_zero, List.set_cons_succ, Nat.succ_eq_add_one, mup_c, mup_s, mw_zero, ne_eq, lit_10, lit_01, lit_m10, lit_m11, nar_bi, csg, lg_gt, lg_le, lg_ge, lg_lt, lg_eq, Nat.reduceBEq, Bool.or_false, Bool.false_or, Bool.or_true, Bool.true_or]
    exact c_jend hQ
  · have e := h01 (by simp)
    have e2 : wk 11 a.toInt64 b.toInt64 = bnd (a.toInt64 ||| b.toInt64) := by
      rcases e with ⟨rfl | rfl, rfl | rfl⟩ <;> decide
    rw [e2] at hQ
    refine mw_ok (M := mX5_joined) (fun q => q == 193) okTX5 rfl 30 _ _ _ _ ?_
    simp (decide := true) only [eX5_joined_0, eX5_joined_1, eX5_joined_84, eX5_joined_85, eX5_joined_86, eX5_joined_87, eX5_joined_89, eX5_joined_92, eX5_joined_93, eX5_joined_94, eX5_joined_95, eX5_joined_97, eX5_joined_100, eX5_joined_101, eX5_joined_102, eX5_joined_103, eX5_joined_105, eX5_joined_108, eX5_joined_109, eX5_joined_110, eX5_joined_111, eX5_joined_114, eX5_joined_115, eX5_joined_118, eX5_joined_119, eX5_joined_120, eX5_joined_121, eX5_joined_123, eX5_joined_126, eX5_joined_127, eX5_joined_128, eX5_joined_129, eX5_joined_132, eX5_joined_133, eX5_joined_136, eX5_joined_137, eX5_joined_139, eX5_joined_142, eX5_joined_143, eX5_joined_144, eX5_joined_145, eX5_joined_148, eX5_joined_149, eX5_joined_152, eX5_joined_153, eX5_joined_155, eX5_joined_158, eX5_joined_159, eX5_joined_160, eX5_joined_161, eX5_joined_164, eX5_joined_165, eX5_joined_168, eX5_joined_169, eX5_joined_171, eX5_joined_174, eX5_joined_175, eX5_joined_176, eX5_joined_177, eX5_joined_179, eX5_joined_182, eX5_joined_183, eX5_joined_184, eX5_joined_185, eX5_joined_187, eX5_joined_190, eX5_joined_191, eX5_joined_193, eX5_joined_195, eX5_joined_198, eX5_joined_199, eX5_joined_202, eX5_joined_204, eX5_joined_207, eX5_joined_209, eX5_joined_212, eX5_joined_213, eX5_joined_216, eX5_joined_218, eX5_joined_221, eX5_joined_223, eX5_joined_224, st_goto, st_iconst, st_if_eq, st_if_ne, st_if_lt, st_if_ge, st_if_gt, st_if_le, st_iload, st_iret, st_zret, st_bret, st_l2i, st_ladd, st_land, st_lcmp, st_ldiv, st_lload, st_lmul, st_lsw, mm_lsw, st_lor, st_lstore, st_lsub, st_lconst, mm_cut, cond_false, cond_true, List.getElem?_cons_succ, List.getElem?_cons_zero, Int.reduceToNat, Nat.reduceMod, Nat.reduceDiv, Nat.reduceAdd, true_and, and_true, mm_set, mm_set2, mm_pop, List.length_cons, List.length_nil, Nat.reduceLeDiff, Int32.reduceOfInt, Int64.reduceOfInt, nar_b0, nar_b1, List.cons_append, List.nil_append, Option.toList_some, Option.toList_none, List.map_cons, List.map_nil, List.sum_cons, List.sum_nil, cat_i, cat_r, cat_l, Nat.zero_le, Int32.reduceOfNat, Int32.reduceAdd, Int32.reduceLT, Int32.reduceLE, forall_const, true_implies, false_implies, not_false_eq_true, not_true_eq_false, bi_eq0, bi_ne0, sl_0, sl_3, va_rf, Nat.reduceEqDiff, if_false, ite_false, ite_true, reduceIte, List.set_cons_zero, List.set_cons_succ, Nat.succ_eq_add_one, mup_c, mup_s, mw_zero, ne_eq, lit_10, lit_01, lit_m10, lit_m11, nar_bi, csg, lg_gt, lg_le, lg_ge, lg_lt, lg_eq, Nat.reduceBEq, Bool.or_false, Bool.false_or, Bool.or_true, Bool.true_or]
    exact c_jend hQ
end C1
