/-- mu and mu' agree but at these cells -/
def Off (l : List Nat) (μ μ' : mm_mu) : Prop := ∀ c, c ∉ l → μ' c = μ c
theorem Off.rf {l : List Nat} {μ : mm_mu} : Off l μ μ := fun _ _ => rfl
theorem Off.tr {l : List Nat} {μ μ1 μ2 : mm_mu} (h : Off l μ μ1) (h2 : Off l μ1 μ2) : Off l μ μ2 := fun c hc => (h2 c hc).trans (h c hc)
theorem Off.mono {l l' : List Nat} {μ μ1 : mm_mu} (h : Off l μ μ1) (hl : ∀ c, c ∈ l → c ∈ l') : Off l' μ μ1 := fun c hc => h c (fun z => hc (hl c z))
theorem Off.up {l : List Nat} {μ μ1 : mm_mu} {c i : Nat} {x : Int32} (h : Off l μ μ1) (hc : c ∈ l) : Off l μ (mup μ1 c i x) := fun k hk => (mup_c (fun z => hk (by rw [z]; exact hc))).trans (h k hk)
/-- a token on a stack of numbers -/
def ev1 (L : Nat → Int32) (tk : Int32 × Int32) (s : List Int32) : List Int32 := if tk.1 = 0 then tk.2 :: s else if tk.1 = 1 then L tk.2.toNatClampNeg :: s else if tk.1 = 9 then (match s with
  | x :: t => (1 - x) :: t
  | [] => []) else (match s with
  | y :: x :: t => wk tk.1.toNatClampNeg x.toInt64 y.toInt64 :: t
  | s => s)
def ev (L : Nat → Int32) : List (Int32 × Int32) → List Int32 → List Int32
  | [], s => s
  | tk :: l, s => ev L l (ev1 L tk s)
/-- .. and on a stack of kinds (true: a truth) -/
def ty1 (tk : Int32 × Int32) (ts : List Bool) : Option (List Bool) := if tk.1 = 0 then (if ts.length < 32 then some (false :: ts) else none) else if tk.1 = 1 then (if ts.length < 32 ∧ 0 ≤ tk.2 ∧ tk.2 < 6 then some (false :: ts) else none) else if tk.1 = 9 then (match ts with
  | true :: t => some (true :: t)
  | _ => none) else if tk.1 = 2 ∨ tk.1 = 3 ∨ tk.1 = 4 ∨ tk.1 = 5 then (match ts with
  | false :: false :: t => some (false :: t)
  | _ => none) else if tk.1 = 6 ∨ tk.1 = 7 ∨ tk.1 = 8 then (match ts with
  | false :: false :: t => some (true :: t)
  | _ => none) else if tk.1 = 10 ∨ tk.1 = 11 then (match ts with
  | true :: true :: t => some (true :: t)
  | _ => none) else none
def tyk : List (Int32 × Int32) → List Bool → Option (List Bool)
  | [], ts => some ts
  | tk :: l, ts => match ty1 tk ts with
    | some ts' => tyk l ts'
    | none => none
/-- the tokens of a text of the reference -/
def mtoks (μ : mm_mu) (n a b : Nat) : List (Int32 × Int32) := (List.range (b - a)).map (fun i => (μ 58 (520 * n + (a + i)), μ 59 (520 * n + (a + i))))
theorem mtoks_nil {μ : mm_mu} {n b : Nat} : mtoks μ n b b = [] := by simp [mtoks]
theorem mtoks_cons {μ : mm_mu} {n a b : Nat} (h : a < b) : mtoks μ n a b = (μ 58 (520 * n + a), μ 59 (520 * n + a)) :: mtoks μ n (a + 1) b := by
  obtain ⟨k, rfl⟩ : ∃ k, b = a + (k + 1) := ⟨b - a - 1, by omega⟩
  rw [mtoks, mtoks, show a + (k + 1) - a = k + 1 by omega, show a + (k + 1) - (a + 1) = k by omega, List.range_succ_eq_map, List.map_cons, List.map_map]
  congr 1
  refine List.map_congr_left fun i _ => ?_
  simp only [Function.comp]
  rw [show a + Nat.succ i = a + 1 + i by omega]
section M3
variable {d : Nat} {ε : mm_X} {μ : mm_mu} {Q : mm_Q0} {h : mm_H}
theorem m_workOut_loop {n a b : Nat} {x : Int32} {τ : Bool} {v : Int32} {xf xt : Int32} (hxt : xt = nI b) (hb : b ≤ 520) (hn : n < 5) (hx : x = nI n) (hQ : ∀ μ', Off [66] μ μ' → Q (some (.int v)) (HP ε μ')) :
    ∀ j, j ≤ b → ∀ (μ' : mm_mu) (s : List Int32) (ts : List Bool), Off [66] μ μ' → s.length = ts.length → (∀ i, i < s.length → μ' 66 i = s.getD (s.length - 1 - i) 0) → s.length ≤ 32 → tyk (mtoks μ n j b) ts = some [τ] → ev (μ 65) (mtoks μ n j b) s = [v] →
      G0 (d + 4) mX12_workOut Q 12 [.ref 56, .int x, .int xf, .int xt, .int (nI s.length), .int (nI (520 * n + j))] [] (HP ε μ') := by
  refine mm_dn ?_ ?_
  · intro μ' s ts ho hl hs hlen ht he
    rw [mtoks_nil] at ht he
    cases ht
    simp only [ev] at he
    subst he
    have hc : (520 * x + xt ≤ nI (520 * n + b)) = True := by rw [hx, hxt, l520, pk_mul, nI_add]; exact leT (Nat.le_refl _)
    refine mw_ok (M := mX12_workOut) (fun q => q == 12) okTX12 rfl 60 _ _ _ _ ?_
    simp only [eX12_workOut_0, eX12_workOut_1, eX12_workOut_3, eX12_workOut_6, eX12_workOut_7, eX12_workOut_8, eX12_workOut_9, eX12_workOut_10, eX12_workOut_12, eX12_workOut_14, eX12_workOut_17, eX12_workOut_18, eX12_workOut_19, eX12_workOut_20, eX12_workOut_21, eX12_workOut_24, eX12_workOut_25, eX12_workOut_28, eX12_workOut_30, eX12_workOut_31, eX12_workOut_34, eX12_workOut_35, eX12_workOut_38, eX12_workOut_40, eX12_workOut_41, eX12_workOut_42, eX12_workOut_45, eX12_workOut_46, eX12_workOut_49, eX12_workOut_51, eX12_workOut_52, eX12_workOut_55, eX12_workOut_57, eX12_workOut_58, eX12_workOut_61, eX12_workOut_62, eX12_workOut_65, eX12_workOut_67, eX12_workOut_68, eX12_workOut_71, eX12_workOut_72, eX12_workOut_75, eX12_workOut_76, eX12_workOut_79, eX12_workOut_81, eX12_workOut_82, eX12_workOut_83, eX12_workOut_84, eX12_workOut_87, eX12_workOut_90, eX12_workOut_91, eX12_workOut_94, eX12_workOut_96, eX12_workOut_97, eX12_workOut_99, eX12_workOut_102, eX12_workOut_103, eX12_workOut_106, eX12_workOut_108, eX12_workOut_109, eX12_workOut_110, eX12_workOut_111, eX12_workOut_112, eX12_workOut_115, eX12_workOut_117, eX12_workOut_118, eX12_workOut_119, eX12_workOut_120, eX12_workOut_121, eX12_workOut_122, eX12_workOut_125, eX12_workOut_128, eX12_workOut_129, eX12_workOut_132, eX12_workOut_134, eX12_workOut_135, eX12_workOut_136, eX12_workOut_137, eX12_workOut_140, eX12_workOut_142, eX12_workOut_143, eX12_workOut_144, eX12_workOut_147, eX12_workOut_149, eX12_workOut_150, eX12_workOut_151, eX12_workOut_152, eX12_workOut_153, eX12_workOut_154, eX12_workOut_157, eX12_workOut_159, eX12_workOut_160, eX12_workOut_161, eX12_workOut_164, eX12_workOut_165, eX12_workOut_168, eX12_workOut_171, eX12_workOut_172, eX12_workOut_175, eX12_workOut_176, eX12_workOut_177, st_aload, st_goto, st_i2l, st_iadd, st_iconst, st_if_eq, st_if_ne, st_if_lt, st_if_ge, st_if_gt, st_if_le, st_ic_eq, st_ic_ne, st_ic_lt, st_ic_ge, st_ic_gt, st_ic_le, st_iinc, st_iload, st_imul, st_ins, st_iret, st_zret, st_bret, st_istore, st_isub, gf_56_1206, gf_56_1207, gf_56_1215, gf_56_1216, ld_57, sv_57, ld_58, sv_58, ld_59, sv_59, ld_60, sv_60, ld_61, sv_61, ld_62, sv_62, ld_63, sv_63, ld_64, sv_64, ld_65, sv_65, ld_66, sv_66, ld_67, sv_67, ld_68, sv_68, ld_69, sv_69, ld_70, sv_70, ld_71, sv_71, ld_72, sv_72, ld_73, sv_73, ld_74, sv_74, ld_75, sv_75, ld_76, sv_76, ld_77, sv_77, ld_78, sv_78, ld_79, sv_79, ld_80, sv_80, ld_81, sv_81, ld_82, sv_82, ld_83, sv_83, ld_85, sv_85, tab_157, mm_cut, cond_false, cond_true, List.getElem?_cons_succ, List.getElem?_cons_zero, Int.reduceToNat, Nat.reduceMod, Nat.reduceDiv, Nat.reduceAdd, true_and, and_true, mm_set, mm_set2, mm_pop, List.length_cons, List.length_nil, Nat.reduceLeDiff, Int32.reduceOfInt, Int64.reduceOfInt, nar_b0, nar_b1, List.cons_append, List.nil_append, Option.toList_some, Option.toList_none, List.map_cons, List.map_nil, List.sum_cons, List.sum_nil, cat_i, cat_r, cat_l, Nat.zero_le, Int32.reduceOfNat, Int32.reduceAdd, Int32.reduceLT, Int32.reduceLE, forall_const, true_implies, false_implies, not_false_eq_true, not_true_eq_false, bi_eq0, bi_ne0, sl_0, sl_3, va_rf, Nat.reduceEqDiff, if_false, ite_false, ite_true, reduceIte, List.set_cons_zero, List.set_cons_succ, Nat.succ_eq_add_one, mup_c, mup_s, mw_zero, ne_eq, lit_10, lit_01, lit_m10, lit_m11, nar_bi, hc, vinT (show (0 : Int32) = nI 0 from rfl) (show 0 < 80 by decide), clp (show (0 : Int32) = nI 0 from rfl), Nat.reduceBEq, Bool.or_false, Bool.false_or, Bool.or_true, Bool.true_or]
    have := hs 0 (by simp)
    simp at this
    rw [this]
    exact hQ μ' ho
  · intro j hj ih μ' s ts ho hl hs hlen ht he
    rw [mtoks_cons hj] at ht he
    simp only [tyk] at ht
    simp only [ev] at he
    have hc : (520 * x + xt ≤ nI (520 * n + j)) = False := by rw [hx, hxt, l520, pk_mul, nI_add]; exact leF (by omega)
    have hk : (nI (520 * n + j)).toNatClampNeg = 520 * n + j := nI_clamp (by omega)
    have hv : vp_in (nI (520 * n + j)) 2600 = True := vinT rfl (by omega)
    have e58 : μ' 58 = μ 58 := ho 58 (by decide)
    have e59 : μ' 59 = μ 59 := ho 59 (by decide)
    have e65 : μ' 65 = μ 65 := ho 65 (by decide)
    have ek : nI (520 * n + j) + 1 = nI (520 * n + (j + 1)) := (nI_succ _).symm
    cases hty : ty1 (μ 58 (520 * n + j), μ 59 (520 * n + j)) ts with
    | none => rw [hty] at ht; cases ht
    | some ts' =>
    rw [hty] at ht
    simp only at ht
    unfold ty1 at hty
    simp only at hty
    unfold ev1 at he
    simp only at he
    by_cases c0 : μ 58 (520 * n + j) = 0
    · rw [if_pos c0] at hty he
      split at hty
      · rename_i hlen2
        cases hty
        refine mw_ok (M := mX12_workOut) (fun q => q == 12) okTX12 rfl 60 _ _ _ _ ?_
        simp only [eX12_workOut_0, eX12_workOut_1, eX12_workOut_3, eX12_workOut_6, eX12_workOut_7, eX12_workOut_8, eX12_workOut_9, eX12_workOut_10, eX12_workOut_12, eX12_workOut_14, eX12_workOut_17, eX12_workOut_18, eX12_workOut_19, eX12_workOut_20, eX12_workOut_21, eX12_workOut_24, eX12_workOut_25, eX12_workOut_28, eX12_workOut_30, eX12_workOut_31, eX12_workOut_34, eX12_workOut_35, eX12_workOut_38, eX12_workOut_40, eX12_workOut_41, eX12_workOut_42, eX12_workOut_45, eX12_workOut_46, eX12_workOut_49, eX12_workOut_51, eX12_workOut_52, eX12_workOut_55, eX12_workOut_57, eX12_workOut_58, eX12_workOut_61, eX12_workOut_62, eX12_workOut_65, eX12_workOut_67, eX12_workOut_68, eX12_workOut_71, eX12_workOut_72, eX12_workOut_75, eX12_workOut_76, eX12_workOut_79, eX12_workOut_81, eX12_workOut_82, eX12_workOut_83, eX12_workOut_84, eX12_workOut_87, eX12_workOut_90, eX12_workOut_91, eX12_workOut_94, eX12_workOut_96, eX12_workOut_97, eX12_workOut_99, eX12_workOut_102, eX12_workOut_103, eX12_workOut_106, eX12_workOut_108, eX12_workOut_109, eX12_workOut_110, eX12_workOut_111, eX12_workOut_112, eX12_workOut_115, eX12_workOut_117, eX12_workOut_118, eX12_workOut_119, eX12_workOut_120, eX12_workOut_121, eX12_workOut_122, eX12_workOut_125, eX12_workOut_128, eX12_workOut_129, eX12_workOut_132, eX12_workOut_134, eX12_workOut_135, eX12_workOut_136, eX12_workOut_137, eX12_workOut_140, eX12_workOut_142, eX12_workOut_143, eX12_workOut_144, eX12_workOut_147, eX12_workOut_149, eX12_workOut_150, eX12_workOut_151, eX12_workOut_152, eX12_workOut_153, eX12_workOut_154, eX12_workOut_157, eX12_workOut_159, eX12_workOut_160, eX12_workOut_161, eX12_workOut_164, eX12_workOut_165, eX12_workOut_168, eX12_workOut_171, eX12_workOut_172, eX12_workOut_175, eX12_workOut_176, eX12_workOut_177, st_aload, st_goto, st_i2l, st_iadd, st_iconst, st_if_eq, st_if_ne, st_if_lt, st_if_ge, st_if_gt, st_if_le, st_ic_eq, st_ic_ne, st_ic_lt, st_ic_ge, st_ic_gt, st_ic_le, st_iinc, st_iload, st_imul, st_ins, st_iret, st_zret, st_bret, st_istore, st_isub, gf_56_1206, gf_56_1207, gf_56_1215, gf_56_1216, ld_57, sv_57, ld_58, sv_58, ld_59, sv_59, ld_60, sv_60, ld_61, sv_61, ld_62, sv_62, ld_63, sv_63, ld_64, sv_64, ld_65, sv_65, ld_66, sv_66, ld_67, sv_67, ld_68, sv_68, ld_69, sv_69, ld_70, sv_70, ld_71, sv_71, ld_72, sv_72, ld_73, sv_73, ld_74, sv_74, ld_75, sv_75, ld_76, sv_76, ld_77, sv_77, ld_78, sv_78, ld_79, sv_79, ld_80, sv_80, ld_81, sv_81, ld_82, sv_82, ld_83, sv_83, ld_85, sv_85, tab_157, mm_cut, cond_false, cond_true, List.getElem?_cons_succ, List.getElem?_cons_zero, Int.reduceToNat, Nat.reduceMod, Nat.reduceDiv, Nat.reduceAdd, true_and, and_true, mm_set, mm_set2, mm_pop, List.length_cons, List.length_nil, Nat.reduceLeDiff, Int32.reduceOfInt, Int64.reduceOfInt, nar_b0, nar_b1, List.cons_append, List.nil_append, Option.toList_some, Option.toList_none, List.map_cons, List.map_nil, List.sum_cons, List.sum_nil, cat_i, cat_r, cat_l, Nat.zero_le, Int32.reduceOfNat, Int32.reduceAdd, Int32.reduceLT, Int32.reduceLE, forall_const, true_implies, false_implies, not_false_eq_true, not_true_eq_false, bi_eq0, bi_ne0, sl_0, sl_3, va_rf, Nat.reduceEqDiff, if_false, ite_false, ite_true, reduceIte, List.set_cons_zero, List.set_cons_succ, Nat.succ_eq_add_one, mup_c, mup_s, mw_zero, ne_eq, lit_10, lit_01, lit_m10, lit_m11, nar_bi, hc, hk, hv, e58, e59, c0, Nat.reduceBEq, Bool.or_false, Bool.false_or, Bool.or_true, Bool.true_or]
        refine ⟨vin rfl (by omega), ?_⟩
        rw [ek, clp (a := s.length) rfl, ← nI_succ]
        refine ih _ (μ 59 (520 * n + j) :: s) (false :: ts) (ho.up (by decide)) (by simp [hl]) ?_ (by simp only [List.length_cons]; omega) ht he
        intro i hi
        rw [mup_s]
        by_cases hi2 : i = s.length
        · subst hi2; simp
        · rw [if_neg hi2, hs i (by simp at hi; omega)]
          simp only [List.length_cons, show s.length + 1 - 1 - i = (s.length - 1 - i) + 1 by simp at hi; omega, List.getD_cons_succ]
      · cases hty
    · rw [if_neg c0] at hty he
      by_cases c1 : μ 58 (520 * n + j) = 1
      · rw [if_pos c1] at hty he
        split at hty
        · rename_i hlen2
          cases hty
          refine mw_ok (M := mX12_workOut) (fun q => q == 12) okTX12 rfl 60 _ _ _ _ ?_
          simp only [eX12_workOut_0, eX12_workOut_1, eX12_workOut_3, eX12_workOut_6, eX12_workOut_7, eX12_workOut_8, eX12_workOut_9, eX12_workOut_10, eX12_workOut_12, eX12_workOut_14, eX12_workOut_17, eX12_workOut_18, eX12_workOut_19, eX12_workOut_20, eX12_workOut_21, eX12_workOut_24, eX12_workOut_25, eX12_workOut_28, eX12_workOut_30, eX12_workOut_31, eX12_workOut_34, eX12_workOut_35, eX12_workOut_38, eX12_workOut_40, eX12_workOut_41, eX12_workOut_42, eX12_workOut_45, eX12_workOut_46, eX12_workOut_49, eX12_workOut_51, eX12_workOut_52, eX12_workOut_55, eX12_workOut_57, eX12_workOut_58, eX12_workOut_61, eX12_workOut_62, eX12_workOut_65, eX12_workOut_67, eX12_workOut_68, eX12_workOut_71, eX12_workOut_72, eX12_workOut_75, eX12_workOut_76, eX12_workOut_79, eX12_workOut_81, eX12_workOut_82, eX12_workOut_83, eX12_workOut_84, eX12_workOut_87, eX12_workOut_90, eX12_workOut_91, eX12_workOut_94, eX12_workOut_96, eX12_workOut_97, eX12_workOut_99, eX12_workOut_102, eX12_workOut_103, eX12_workOut_106, eX12_workOut_108, eX12_workOut_109, eX12_workOut_110, eX12_workOut_111, eX12_workOut_112, eX12_workOut_115, eX12_workOut_117, eX12_workOut_118, eX12_workOut_119, eX12_workOut_120, eX12_workOut_121, eX12_workOut_122, eX12_workOut_125, eX12_workOut_128, eX12_workOut_129, eX12_workOut_132, eX12_workOut_134, eX12_workOut_135, eX12_workOut_136, eX12_workOut_137, eX12_workOut_140, eX12_workOut_142, eX12_workOut_143, eX12_workOut_144, eX12_workOut_147, eX12_workOut_149, eX12_workOut_150, eX12_workOut_151, eX12_workOut_152, eX12_workOut_153, eX12_workOut_154, eX12_workOut_157, eX12_workOut_159, eX12_workOut_160, eX12_workOut_161, eX12_workOut_164, eX12_workOut_165, eX12_workOut_168, eX12_workOut_171, eX12_workOut_172, eX12_workOut_175, eX12_workOut_176, eX12_workOut_177, st_aload, st_goto, st_i2l, st_iadd, st_iconst, st_if_eq, st_if_ne, st_if_lt, st_if_ge, st_if_gt, st_if_le, st_ic_eq, st_ic_ne, st_ic_lt, st_ic_ge, st_ic_gt, st_ic_le, st_iinc, st_iload, st_imul, st_ins, st_iret, st_zret, st_bret, st_istore, st_isub, gf_56_1206, gf_56_1207, gf_56_1215, gf_56_1216, ld_57, sv_57, ld_58, sv_58, ld_59, sv_59, ld_60, sv_60, ld_61, sv_61, ld_62, sv_62, ld_63, sv_63, ld_64, sv_64, ld_65, sv_65, ld_66, sv_66, ld_67, sv_67, ld_68, sv_68, ld_69, sv_69, ld_70, sv_70, ld_71, sv_71, ld_72, sv_72, ld_73, sv_73, ld_74, sv_74, ld_75, sv_75, ld_76, sv_76, ld_77, sv_77, ld_78, sv_78, ld_79, sv_79, ld_80, sv_80, ld_81, sv_81, ld_82, sv_82, ld_83, sv_83, ld_85, sv_85, tab_157, mm_cut, cond_false, cond_true, List.getElem?_cons_succ, List.getElem?_cons_zero, Int.reduceToNat, Nat.reduceMod, Nat.reduceDiv, Nat.reduceAdd, true_and, and_true, mm_set, mm_set2, mm_pop, List.length_cons, List.length_nil, Nat.reduceLeDiff, Int32.reduceOfInt, Int64.reduceOfInt, nar_b0, nar_b1, List.cons_append, List.nil_append, Option.toList_some, Option.toList_none, List.map_cons, List.map_nil, List.sum_cons, List.sum_nil, cat_i, cat_r, cat_l, Nat.zero_le, Int32.reduceOfNat, Int32.reduceAdd, Int32.reduceLT, Int32.reduceLE, forall_const, true_implies, false_implies, not_false_eq_true, not_true_eq_false, bi_eq0, bi_ne0, sl_0, sl_3, va_rf, Nat.reduceEqDiff, if_false, ite_false, ite_true, reduceIte, List.set_cons_zero, List.set_cons_succ, Nat.succ_eq_add_one, mup_c, mup_s, mw_zero, ne_eq, lit_10, lit_01, lit_m10, lit_m11, nar_bi, hc, hk, hv, e58, e59, e65, c1, Nat.reduceBEq, Bool.or_false, Bool.false_or, Bool.or_true, Bool.true_or]
          refine ⟨vp6 (m := 6) rfl hlen2.2.1 hlen2.2.2, vin rfl (by omega), ?_⟩
          rw [ek, clp (a := s.length) rfl, ← nI_succ]
          refine ih _ (μ 65 (μ 59 (520 * n + j)).toNatClampNeg :: s) (false :: ts) (ho.up (by decide)) (by simp [hl]) ?_ (by simp only [List.length_cons]; omega) ht he
          intro i hi
          rw [mup_s]
          by_cases hi2 : i = s.length
          · subst hi2; simp
          · rw [if_neg hi2, hs i (by simp at hi; omega)]
            simp only [List.length_cons, show s.length + 1 - 1 - i = (s.length - 1 - i) + 1 by simp at hi; omega, List.getD_cons_succ]
        · cases hty
      · rw [if_neg c1] at hty he
        by_cases c9 : μ 58 (520 * n + j) = 9
        · rw [if_pos c9] at hty he
          split at hty
          · rename_i tt
            cases hty
            cases s with
            | nil => simp at hl
            | cons y r =>
              have hr : r.length < 32 := by
                simp only [List.length_cons] at hl hlen
                omega
              have e1 : nI (y :: r).length - 1 = nI r.length := by rw [List.length_cons]; exact nI_pred _
              have e2 : (nI r.length).toNatClampNeg = r.length := nI_clamp (by omega)
              have e3 : vp_in (nI r.length) 80 = True := vinT rfl (by omega)
              have e4 : μ' 66 r.length = y := by
                have := hs r.length (by simp)
                simpa using this
              refine mw_ok (M := mX12_workOut) (fun q => q == 12) okTX12 rfl 60 _ _ _ _ ?_
              simp (decide := true) only [eX12_workOut_0, eX12_workOut_1, eX12_workOut_3, eX12_workOut_6, eX12_workOut_7, eX12_workOut_8, eX12_workOut_9, eX12_workOut_10, eX12_workOut_12, eX12_workOut_14, eX12_workOut_17, eX12_workOut_18, eX12_workOut_19, eX12_workOut_20, eX12_workOut_21, eX12_workOut_24, eX12_workOut_25, eX12_workOut_28, eX12_workOut_30, eX12_workOut_31, eX12_workOut_34, eX12_workOut_35, eX12_workOut_38, eX12_workOut_40, eX12_workOut_41, eX12_workOut_42, eX12_workOut_45, eX12_workOut_46, eX12_workOut_49, eX12_workOut_51, eX12_workOut_52, eX12_workOut_55, eX12_workOut_57, eX12_workOut_58, eX12_workOut_61, eX12_workOut_62, eX12_workOut_65, eX12_workOut_67, eX12_workOut_68, eX12_workOut_71, eX12_workOut_72, eX12_workOut_75, eX12_workOut_76, eX12_workOut_79, eX12_workOut_81, eX12_workOut_82, eX12_workOut_83, eX12_workOut_84, eX12_workOut_87, eX12_workOut_90, eX12_workOut_91, eX12_workOut_94, eX12_workOut_96, eX12_workOut_97, eX12_workOut_99, eX12_workOut_102, eX12_workOut_103, eX12_workOut_106, eX12_workOut_108, eX12_workOut_109, eX12_workOut_110, eX12_workOut_111, eX12_workOut_112, eX12_workOut_115, eX12_workOut_117, eX12_workOut_118, eX12_workOut_119, eX12_workOut_120, eX12_workOut_121, eX12_workOut_122, eX12_workOut_125, eX12_workOut_128, eX12_workOut_129, eX12_workOut_132, eX12_workOut_134, eX12_workOut_135, eX12_workOut_136, eX12_workOut_137, eX12_workOut_140, eX12_workOut_142, eX12_workOut_143, eX12_workOut_144, eX12_workOut_147, eX12_workOut_149, eX12_workOut_150, eX12_workOut_151, eX12_workOut_152, eX12_workOut_153, eX12_workOut_154, eX12_workOut_157, eX12_workOut_159, eX12_workOut_160, eX12_workOut_161, eX12_workOut_164, eX12_workOut_165, eX12_workOut_168, eX12_workOut_171, eX12_workOut_172, eX12_workOut_175, eX12_workOut_176, eX12_workOut_177, st_aload, st_goto, st_i2l, st_iadd, st_iconst, st_if_eq, st_if_ne, st_if_lt, st_if_ge, st_if_gt, st_if_le, st_ic_eq, st_ic_ne, st_ic_lt, st_ic_ge, st_ic_gt, st_ic_le, st_iinc, st_iload, st_imul, st_ins, st_iret, st_zret, st_bret, st_istore, st_isub, gf_56_1206, gf_56_1207, gf_56_1215, gf_56_1216, ld_57, sv_57, ld_58, sv_58, ld_59, sv_59, ld_60, sv_60, ld_61, sv_61, ld_62, sv_62, ld_63, sv_63, ld_64, sv_64, ld_65, sv_65, ld_66, sv_66, ld_67, sv_67, ld_68, sv_68, ld_69, sv_69, ld_70, sv_70, ld_71, sv_71, ld_72, sv_72, ld_73, sv_73, ld_74, sv_74, ld_75, sv_75, ld_76, sv_76, ld_77, sv_77, ld_78, sv_78, ld_79, sv_79, ld_80, sv_80, ld_81, sv_81, ld_82, sv_82, ld_83, sv_83, ld_85, sv_85, tab_157, mm_cut, cond_false, cond_true, List.getElem?_cons_succ, List.getElem?_cons_zero, Int.reduceToNat, Nat.reduceMod, Nat.reduceDiv, Nat.reduceAdd, true_and, and_true, mm_set, mm_set2, mm_pop, List.length_cons, List.length_nil, Nat.reduceLeDiff, Int32.reduceOfInt, Int64.reduceOfInt, nar_b0, nar_b1, List.cons_append, List.nil_append, Option.toList_some, Option.toList_none, List.map_cons, List.map_nil, List.sum_cons, List.sum_nil, cat_i, cat_r, cat_l, Nat.zero_le, Int32.reduceOfNat, Int32.reduceAdd, Int32.reduceLT, Int32.reduceLE, forall_const, true_implies, false_implies, not_false_eq_true, not_true_eq_false, bi_eq0, bi_ne0, sl_0, sl_3, va_rf, Nat.reduceEqDiff, if_false, ite_false, ite_true, reduceIte, List.set_cons_zero, List.set_cons_succ, Nat.succ_eq_add_one, mup_c, mup_s, mw_zero, ne_eq, lit_10, lit_01, lit_m10, lit_m11, nar_bi, hc, hk, hv, e58, c9, e1, e2, e3, nI_pred, e4, Nat.reduceBEq, Bool.or_false, Bool.false_or, Bool.or_true, Bool.true_or]
              rw [ek]
              refine ih _ ((1 - y) :: r) (true :: tt) (ho.up (by decide)) (by simpa using hl) ?_ hlen ht he
              intro i hi
              rw [mup_s]
              by_cases hi2 : i = r.length
              · subst hi2; simp
              · rw [if_neg hi2, hs i (by simpa using hi)]
                simp only [List.length_cons, show r.length + 1 - 1 - i = (r.length - 1 - i) + 1 by simp at hi; omega, List.getD_cons_succ]
          · cases hty
        · rw [if_neg c9] at hty he
          have hb : ∃ (b1 b2 b3 : Bool) (tt : List Bool) (k : Nat), ts = b1 :: b2 :: tt ∧ ts' = b3 :: tt ∧ μ 58 (520 * n + j) = nI k ∧ (k = 2 ∨ k = 3 ∨ k = 4 ∨ k = 5 ∨ k = 6 ∨ k = 7 ∨ k = 8 ∨ k = 10 ∨ k = 11) := by
            split at hty
            · rename_i cc
              split at hty
              · cases hty
                rcases cc with z | z | z | z
                · exact ⟨_, _, _, _, 2, rfl, rfl, z, by simp⟩
                · exact ⟨_, _, _, _, 3, rfl, rfl, z, by simp⟩
                · exact ⟨_, _, _, _, 4, rfl, rfl, z, by simp⟩
                · exact ⟨_, _, _, _, 5, rfl, rfl, z, by simp⟩
              · cases hty
            · split at hty
              · rename_i cc
                split at hty
                · cases hty
                  rcases cc with z | z | z
                  · exact ⟨_, _, _, _, 6, rfl, rfl, z, by simp⟩
                  · exact ⟨_, _, _, _, 7, rfl, rfl, z, by simp⟩
                  · exact ⟨_, _, _, _, 8, rfl, rfl, z, by simp⟩
                · cases hty
              · split at hty
                · rename_i cc
                  split at hty
                  · cases hty
                    rcases cc with z | z
                    · exact ⟨_, _, _, _, 10, rfl, rfl, z, by simp⟩
                    · exact ⟨_, _, _, _, 11, rfl, rfl, z, by simp⟩
                  · cases hty
                · cases hty
          obtain ⟨b1, b2, b3, tt, k, rfl, rfl, hkk, hk2⟩ := hb
          cases s with
          | nil => simp at hl
          | cons y s1 =>
          cases s1 with
          | nil => simp at hl
          | cons z r =>
            have hl2 : r.length = tt.length := by simpa using hl
            have hr : r.length + 1 < 32 := by
              simp only [List.length_cons] at hlen
              omega
            have e1 : nI (y :: z :: r).length + (-1) = nI (r.length + 1) := by rw [List.length_cons, List.length_cons]; exact nI_m1 _
            have e1' : nI (r.length + 1) - 1 = nI r.length := nI_pred _
            have e2 : (nI r.length).toNatClampNeg = r.length := nI_clamp (by omega)
            have e2' : (nI (r.length + 1)).toNatClampNeg = r.length + 1 := nI_clamp (by omega)
            have e3 : vp_in (nI r.length) 80 = True := vinT rfl (by omega)
            have e3' : vp_in (nI (r.length + 1)) 80 = True := vinT rfl (by omega)
            have e4 : μ' 66 r.length = z := by
              have := hs r.length (by simp; omega)
              simpa using this
            have e4' : μ' 66 (r.length + 1) = y := by
              have := hs (r.length + 1) (by simp)
              simpa using this
            simp only at he
            refine mw_ok (M := mX12_workOut) (fun q => q == 12) okTX12 rfl 60 _ _ _ _ ?_
            simp only [eX12_workOut_0, eX12_workOut_1, eX12_workOut_3, eX12_workOut_6, eX12_workOut_7, eX12_workOut_8, eX12_workOut_9, eX12_workOut_10, eX12_workOut_12, eX12_workOut_14, eX12_workOut_17, eX12_workOut_18, eX12_workOut_19, eX12_workOut_20, eX12_workOut_21, eX12_workOut_24, eX12_workOut_25, eX12_workOut_28, eX12_workOut_30, eX12_workOut_31, eX12_workOut_34, eX12_workOut_35, eX12_workOut_38, eX12_workOut_40, eX12_workOut_41, eX12_workOut_42, eX12_workOut_45, eX12_workOut_46, eX12_workOut_49, eX12_workOut_51, eX12_workOut_52, eX12_workOut_55, eX12_workOut_57, eX12_workOut_58, eX12_workOut_61, eX12_workOut_62, eX12_workOut_65, eX12_workOut_67, eX12_workOut_68, eX12_workOut_71, eX12_workOut_72, eX12_workOut_75, eX12_workOut_76, eX12_workOut_79, eX12_workOut_81, eX12_workOut_82, eX12_workOut_83, eX12_workOut_84, eX12_workOut_87, eX12_workOut_90, eX12_workOut_91, eX12_workOut_94, eX12_workOut_96, eX12_workOut_97, eX12_workOut_99, eX12_workOut_102, eX12_workOut_103, eX12_workOut_106, eX12_workOut_108, eX12_workOut_109, eX12_workOut_110, eX12_workOut_111, eX12_workOut_112, eX12_workOut_115, eX12_workOut_117, eX12_workOut_118, eX12_workOut_119, eX12_workOut_120, eX12_workOut_121, eX12_workOut_122, eX12_workOut_125, eX12_workOut_128, eX12_workOut_129, eX12_workOut_132, eX12_workOut_134, eX12_workOut_135, eX12_workOut_136, eX12_workOut_137, eX12_workOut_140, eX12_workOut_142, eX12_workOut_143, eX12_workOut_144, eX12_workOut_147, eX12_workOut_149, eX12_workOut_150, eX12_workOut_151, eX12_workOut_152, eX12_workOut_153, eX12_workOut_154, eX12_workOut_157, eX12_workOut_159, eX12_workOut_160, eX12_workOut_161, eX12_workOut_164, eX12_workOut_165, eX12_workOut_168, eX12_workOut_171, eX12_workOut_172, eX12_workOut_175, eX12_workOut_176, eX12_workOut_177, st_aload, st_goto, st_i2l, st_iadd, st_iconst, st_if_eq, st_if_ne, st_if_lt, st_if_ge, st_if_gt, st_if_le, st_ic_eq, st_ic_ne, st_ic_lt, st_ic_ge, st_ic_gt, st_ic_le, st_iinc, st_iload, st_imul, st_ins, st_iret, st_zret, st_bret, st_istore, st_isub, gf_56_1206, gf_56_1207, gf_56_1215, gf_56_1216, ld_57, sv_57, ld_58, sv_58, ld_59, sv_59, ld_60, sv_60, ld_61, sv_61, ld_62, sv_62, ld_63, sv_63, ld_64, sv_64, ld_65, sv_65, ld_66, sv_66, ld_67, sv_67, ld_68, sv_68, ld_69, sv_69, ld_70, sv_70, ld_71, sv_71, ld_72, sv_72, ld_73, sv_73, ld_74, sv_74, ld_75, sv_75, ld_76, sv_76, ld_77, sv_77, ld_78, sv_78, ld_79, sv_79, ld_80, sv_80, ld_81, sv_81, ld_82, sv_82, ld_83, sv_83, ld_85, sv_85, tab_157, mm_cut, cond_false, cond_true, List.getElem?_cons_succ, List.getElem?_cons_zero, Int.reduceToNat, Nat.reduceMod, Nat.reduceDiv, Nat.reduceAdd, true_and, and_true, mm_set, mm_set2, mm_pop, List.length_cons, List.length_nil, Nat.reduceLeDiff, Int32.reduceOfInt, Int64.reduceOfInt, nar_b0, nar_b1, List.cons_append, List.nil_append, Option.toList_some, Option.toList_none, List.map_cons, List.map_nil, List.sum_cons, List.sum_nil, cat_i, cat_r, cat_l, Nat.zero_le, Int32.reduceOfNat, Int32.reduceAdd, Int32.reduceLT, Int32.reduceLE, forall_const, true_implies, false_implies, not_false_eq_true, not_true_eq_false, bi_eq0, bi_ne0, sl_0, sl_3, va_rf, Nat.reduceEqDiff, if_false, ite_false, ite_true, reduceIte, List.set_cons_zero, List.set_cons_succ, Nat.succ_eq_add_one, mup_c, mup_s, mw_zero, ne_eq, lit_10, lit_01, lit_m10, lit_m11, nar_bi, hc, hk, hv, e58, c0, c1, c9, e1, e1', e2, e2', e3, e3', e4, e4', nI_m1, Nat.reduceBEq, Bool.or_false, Bool.false_or, Bool.or_true, Bool.true_or]
            refine m_worked hkk hk2 ?_
            refine mw_ok (M := mX12_workOut) (fun q => q == 12) okTX12 rfl 60 _ _ _ _ ?_
            simp only [eX12_workOut_0, eX12_workOut_1, eX12_workOut_3, eX12_workOut_6, eX12_workOut_7, eX12_workOut_8, eX12_workOut_9, eX12_workOut_10, eX12_workOut_12, eX12_workOut_14, eX12_workOut_17, eX12_workOut_18, eX12_workOut_19, eX12_workOut_20, eX12_workOut_21, eX12_workOut_24, eX12_workOut_25, eX12_workOut_28, eX12_workOut_30, eX12_workOut_31, eX12_workOut_34, eX12_workOut_35, eX12_workOut_38, eX12_workOut_40, eX12_workOut_41, eX12_workOut_42, eX12_workOut_45, eX12_workOut_46, eX12_workOut_49, eX12_workOut_51, eX12_workOut_52, eX12_workOut_55, eX12_workOut_57, eX12_workOut_58, eX12_workOut_61, eX12_workOut_62, eX12_workOut_65, eX12_workOut_67, eX12_workOut_68, eX12_workOut_71, eX12_workOut_72, eX12_workOut_75, eX12_workOut_76, eX12_workOut_79, eX12_workOut_81, eX12_workOut_82, eX12_workOut_83, eX12_workOut_84, eX12_workOut_87, eX12_workOut_90, eX12_workOut_91, eX12_workOut_94, eX12_workOut_96, eX12_workOut_97, eX12_workOut_99, eX12_workOut_102, eX12_workOut_103, eX12_workOut_106, eX12_workOut_108, eX12_workOut_109, eX12_workOut_110, eX12_workOut_111, eX12_workOut_112, eX12_workOut_115, eX12_workOut_117, eX12_workOut_118, eX12_workOut_119, eX12_workOut_120, eX12_workOut_121, eX12_workOut_122, eX12_workOut_125, eX12_workOut_128, eX12_workOut_129, eX12_workOut_132, eX12_workOut_134, eX12_workOut_135, eX12_workOut_136, eX12_workOut_137, eX12_workOut_140, eX12_workOut_142, eX12_workOut_143, eX12_workOut_144, eX12_workOut_147, eX12_workOut_149, eX12_workOut_150, eX12_workOut_151, eX12_workOut_152, eX12_workOut_153, eX12_workOut_154, eX12_workOut_157, eX12_workOut_159, eX12_workOut_160, eX12_workOut_161, eX12_workOut_164, eX12_workOut_165, eX12_workOut_168, eX12_workOut_171, eX12_workOut_172, eX12_workOut_175, eX12_workOut_176, eX12_workOut_177, st_aload, st_goto, st_i2l, st_iadd, st_iconst, st_if_eq, st_if_ne, st_if_lt, st_if_ge, st_if_gt, st_if_le, st_ic_eq, st_ic_ne, st_ic_lt, st_ic_ge, st_ic_gt, st_ic_le, st_iinc, st_iload, st_imul, st_ins, st_iret, st_zret, st_bret, st_istore, st_isub, gf_56_1206, gf_56_1207, gf_56_1215, gf_56_1216, ld_57, sv_57, ld_58, sv_58, ld_59, sv_59, ld_60, sv_60, ld_61, sv_61, ld_62, sv_62, ld_63, sv_63, ld_64, sv_64, ld_65, sv_65, ld_66, sv_66, ld_67, sv_67, ld_68, sv_68, ld_69, sv_69, ld_70, sv_70, ld_71, sv_71, ld_72, sv_72, ld_73, sv_73, ld_74, sv_74, ld_75, sv_75, ld_76, sv_76, ld_77, sv_77, ld_78, sv_78, ld_79, sv_79, ld_80, sv_80, ld_81, sv_81, ld_82, sv_82, ld_83, sv_83, ld_85, sv_85, tab_157, mm_cut, cond_false, cond_true, List.getElem?_cons_succ, List.getElem?_cons_zero, Int.reduceToNat, Nat.reduceMod, Nat.reduceDiv, Nat.reduceAdd, true_and, and_true, mm_set, mm_set2, mm_pop, List.length_cons, List.length_nil, Nat.reduceLeDiff, Int32.reduceOfInt, Int64.reduceOfInt, nar_b0, nar_b1, List.cons_append, List.nil_append, Option.toList_some, Option.toList_none, List.map_cons, List.map_nil, List.sum_cons, List.sum_nil, cat_i, cat_r, cat_l, Nat.zero_le, Int32.reduceOfNat, Int32.reduceAdd, Int32.reduceLT, Int32.reduceLE, forall_const, true_implies, false_implies, not_false_eq_true, not_true_eq_false, bi_eq0, bi_ne0, sl_0, sl_3, va_rf, Nat.reduceEqDiff, if_false, ite_false, ite_true, reduceIte, List.set_cons_zero, List.set_cons_succ, Nat.succ_eq_add_one, mup_c, mup_s, mw_zero, ne_eq, lit_10, lit_01, lit_m10, lit_m11, nar_bi, e2, e3, Nat.reduceBEq, Bool.or_false, Bool.false_or, Bool.or_true, Bool.true_or]
            rw [ek]
            rw [hkk, clp (a := k) rfl] at he
            refine ih _ (wk k z.toInt64 y.toInt64 :: r) (b3 :: tt) (ho.up (by decide)) (by simp [hl2]) ?_ (by simp only [List.length_cons]; omega) ht he
            intro i hi
            rw [mup_s]
            by_cases hi2 : i = r.length
            · subst hi2; simp
            · rw [if_neg hi2, hs i (by simp at hi ⊢; omega)]
              simp only [List.length_cons, show r.length + 1 + 1 - 1 - i = (r.length - 1 - i) + 1 + 1 by simp at hi; omega, show r.length + 1 - 1 - i = (r.length - 1 - i) + 1 by simp at hi; omega, List.getD_cons_succ]
theorem m_workOut {n a b : Nat} {x xf xt : Int32} {τ : Bool} {v : Int32} (hx : x = nI n) (hxf : xf = nI a) (hxt : xt = nI b) (hab : a ≤ b) (hb : b ≤ 520) (hn : n < 5) (ht : tyk (mtoks μ n a b) [] = some [τ]) (he : ev (μ 65) (mtoks μ n a b) [] = [v]) (hQ : ∀ μ', Off [66] μ μ' → Q (some (.int v)) (HP ε μ')) : B0 (d + 4) mX12_workOut [.ref 56, .int x, .int xf, .int xt] (HP ε μ) Q := by
  refine b0_of_G0 (lv := [.ref 56, .int x, .int xf, .int xt, .null, .null]) (by decide +kernel) (Nat.le_of_ble_eq_true rfl) rfl ?_
  refine mw_ok (M := mX12_workOut) (fun q => q == 12) okTX12 rfl 20 _ _ _ _ ?_
  simp only [eX12_workOut_0, eX12_workOut_1, eX12_workOut_3, eX12_workOut_6, eX12_workOut_7, eX12_workOut_8, eX12_workOut_9, eX12_workOut_10, eX12_workOut_12, eX12_workOut_14, eX12_workOut_17, eX12_workOut_18, eX12_workOut_19, eX12_workOut_20, eX12_workOut_21, eX12_workOut_24, eX12_workOut_25, eX12_workOut_28, eX12_workOut_30, eX12_workOut_31, eX12_workOut_34, eX12_workOut_35, eX12_workOut_38, eX12_workOut_40, eX12_workOut_41, eX12_workOut_42, eX12_workOut_45, eX12_workOut_46, eX12_workOut_49, eX12_workOut_51, eX12_workOut_52, eX12_workOut_55, eX12_workOut_57, eX12_workOut_58, eX12_workOut_61, eX12_workOut_62, eX12_workOut_65, eX12_workOut_67, eX12_workOut_68, eX12_workOut_71, eX12_workOut_72, eX12_workOut_75, eX12_workOut_76, eX12_workOut_79, eX12_workOut_81, eX12_workOut_82, eX12_workOut_83, eX12_workOut_84, eX12_workOut_87, eX12_workOut_90, eX12_workOut_91, eX12_workOut_94, eX12_workOut_96, eX12_workOut_97, eX12_workOut_99, eX12_workOut_102, eX12_workOut_103, eX12_workOut_106, eX12_workOut_108, eX12_workOut_109, eX12_workOut_110, eX12_workOut_111, eX12_workOut_112, eX12_workOut_115, eX12_workOut_117, eX12_workOut_118, eX12_workOut_119, eX12_workOut_120, eX12_workOut_121, eX12_workOut_122, eX12_workOut_125, eX12_workOut_128, eX12_workOut_129, eX12_workOut_132, eX12_workOut_134, eX12_workOut_135, eX12_workOut_136, eX12_workOut_137, eX12_workOut_140, eX12_workOut_142, eX12_workOut_143, eX12_workOut_144, eX12_workOut_147, eX12_workOut_149, eX12_workOut_150, eX12_workOut_151, eX12_workOut_152, eX12_workOut_153, eX12_workOut_154, eX12_workOut_157, eX12_workOut_159, eX12_workOut_160, eX12_workOut_161, eX12_workOut_164, eX12_workOut_165, eX12_workOut_168, eX12_workOut_171, eX12_workOut_172, eX12_workOut_175, eX12_workOut_176, eX12_workOut_177, st_aload, st_goto, st_i2l, st_iadd, st_iconst, st_if_eq, st_if_ne, st_if_lt, st_if_ge, st_if_gt, st_if_le, st_ic_eq, st_ic_ne, st_ic_lt, st_ic_ge, st_ic_gt, st_ic_le, st_iinc, st_iload, st_imul, st_ins, st_iret, st_zret, st_bret, st_istore, st_isub, gf_56_1206, gf_56_1207, gf_56_1215, gf_56_1216, ld_57, sv_57, ld_58, sv_58, ld_59, sv_59, ld_60, sv_60, ld_61, sv_61, ld_62, sv_62, ld_63, sv_63, ld_64, sv_64, ld_65, sv_65, ld_66, sv_66, ld_67, sv_67, ld_68, sv_68, ld_69, sv_69, ld_70, sv_70, ld_71, sv_71, ld_72, sv_72, ld_73, sv_73, ld_74, sv_74, ld_75, sv_75, ld_76, sv_76, ld_77, sv_77, ld_78, sv_78, ld_79, sv_79, ld_80, sv_80, ld_81, sv_81, ld_82, sv_82, ld_83, sv_83, ld_85, sv_85, tab_157, mm_cut, cond_false, cond_true, List.getElem?_cons_succ, List.getElem?_cons_zero, Int.reduceToNat, Nat.reduceMod, Nat.reduceDiv, Nat.reduceAdd, true_and, and_true, mm_set, mm_set2, mm_pop, List.length_cons, List.length_nil, Nat.reduceLeDiff, Int32.reduceOfInt, Int64.reduceOfInt, nar_b0, nar_b1, List.cons_append, List.nil_append, Option.toList_some, Option.toList_none, List.map_cons, List.map_nil, List.sum_cons, List.sum_nil, cat_i, cat_r, cat_l, Nat.zero_le, Int32.reduceOfNat, Int32.reduceAdd, Int32.reduceLT, Int32.reduceLE, forall_const, true_implies, false_implies, not_false_eq_true, not_true_eq_false, bi_eq0, bi_ne0, sl_0, sl_3, va_rf, Nat.reduceEqDiff, if_false, ite_false, ite_true, reduceIte, List.set_cons_zero, List.set_cons_succ, Nat.succ_eq_add_one, mup_c, mup_s, mw_zero, ne_eq, lit_10, lit_01, lit_m10, lit_m11, nar_bi, Nat.reduceBEq, Bool.or_false, Bool.false_or, Bool.or_true, Bool.true_or]
  have e1 : 520 * x + xf = nI (520 * n + a) := by rw [hx, hxf, l520, pk_mul, nI_add]
  rw [e1]
  exact m_workOut_loop (a := a) hxt hb hn hx hQ a hab μ [] [] Off.rf rfl (fun i hi => by simp at hi) (Nat.zero_le _) ht he
/-- the clauses of a text from the c-th on: the worth -/
def mworth (μ : mm_mu) (n : Nat) (L : Nat → Int32) : Nat → Nat → Int32
  | 0, _ => 0
  | k + 1, c => if μ 62 (140 * n + c) = μ 63 (140 * n + c) ∨ (ev L (mtoks μ n (μ 62 (140 * n + c)).toNatClampNeg (μ 63 (140 * n + c)).toNatClampNeg) []).headD 0 ≠ 0 then (ev L (mtoks μ n (μ 63 (140 * n + c)).toNatClampNeg (μ 64 (140 * n + c)).toNatClampNeg) []).headD 0 else mworth μ n L k (c + 1)
/-- a clause of a text that was read: where its tests and sums lie, and that they are such -/
def okCl (μ : mm_mu) (n c : Nat) : Prop := ∃ p q r : Nat, μ 62 (140 * n + c) = nI p ∧ μ 63 (140 * n + c) = nI q ∧ μ 64 (140 * n + c) = nI r ∧ p ≤ q ∧ q ≤ r ∧ r ≤ 520 ∧ (p = q ∨ tyk (mtoks μ n p q) [] = some [true]) ∧ tyk (mtoks μ n q r) [] = some [false]
/-- a text that was read -/
def okLaw (μ : mm_mu) (n : Nat) : Prop := ∃ m : Nat, μ 61 n = nI m ∧ m ≤ 140 ∧ ∀ c, c < m → okCl μ n c
/-- its worth -/
def mWorth (μ : mm_mu) (n : Nat) (L : Nat → Int32) : Int32 := mworth μ n L (μ 61 n).toNatClampNeg 0
theorem ev_len {L : Nat → Int32} : ∀ (l : List (Int32 × Int32)) (s : List Int32) (ts ts' : List Bool), s.length = ts.length → tyk l ts = some ts' → (ev L l s).length = ts'.length
  | [], s, ts, ts', h, h2 => by cases h2; exact h
  | tk :: l, s, ts, ts', h, h2 => by
    simp only [tyk] at h2
    cases ht : ty1 tk ts with
    | none => rw [ht] at h2; cases h2
    | some t1 =>
      rw [ht] at h2
      refine ev_len l _ t1 ts' ?_ h2
      unfold ty1 at ht
      unfold ev1
      split at ht
      · split at ht
        · cases ht; rename_i c0 _; rw [if_pos c0]; simp [h]
        · cases ht
      · rename_i c0
        rw [if_neg c0]
        split at ht
        · split at ht
          · cases ht; rename_i c0 _; rw [if_pos c0]; simp [h]
          · cases ht
        · rename_i c1
          rw [if_neg c1]
          split at ht
          · rename_i c9
            rw [if_pos c9]
            split at ht
            · cases ht
              cases s with
              | nil => simp at h
              | cons a s => simpa using h
            · cases ht
          · rename_i c9
            rw [if_neg c9]
            have key : ∃ b1 b2 b3 tt, ts = b1 :: b2 :: tt ∧ t1 = b3 :: tt := by
              split at ht
              · split at ht
                · cases ht; exact ⟨_, _, _, _, rfl, rfl⟩
                · cases ht
              · split at ht
                · split at ht
                  · cases ht; exact ⟨_, _, _, _, rfl, rfl⟩
                  · cases ht
                · split at ht
                  · split at ht
                    · cases ht; exact ⟨_, _, _, _, rfl, rfl⟩
                    · cases ht
                  · cases ht
            obtain ⟨b1, b2, b3, tt, rfl, rfl⟩ := key
            match s, h with
            | a :: b :: s, h => simpa using h
theorem ev_one {L : Nat → Int32} {l : List (Int32 × Int32)} {τ : Bool} (h : tyk l [] = some [τ]) : ev L l [] = [(ev L l []).headD 0] := by
  have := ev_len (L := L) l [] [] [τ] rfl h
  match h2 : ev L l [], this with
  | [v], _ => rfl
theorem mtoks_cong {μ μ' : mm_mu} {n a b : Nat} (h1 : μ' 58 = μ 58) (h2 : μ' 59 = μ 59) : mtoks μ' n a b = mtoks μ n a b := by simp [mtoks, h1, h2]
theorem m_worthOf {n : Nat} {x : Int32} (hx : x = nI n) (hn : n < 5) (hok : okLaw μ n) (hQ : ∀ μ', Off [66] μ μ' → Q (some (.int (mWorth μ n (μ 65)))) (HP ε μ')) : B0 (d + 5) mX12_worthOf [.ref 56, .int x] (HP ε μ) Q := by
  refine b0_of_G0 (lv := [.ref 56, .int x, .null]) (by decide +kernel) (Nat.le_of_ble_eq_true rfl) rfl ?_
  refine mw_ok (M := mX12_worthOf) (fun q => q == 6) okTX12 rfl 20 _ _ _ _ ?_
  simp only [eX12_worthOf_0, eX12_worthOf_3, eX12_worthOf_4, eX12_worthOf_5, eX12_worthOf_6, eX12_worthOf_7, eX12_worthOf_10, eX12_worthOf_11, eX12_worthOf_12, eX12_worthOf_13, eX12_worthOf_16, eX12_worthOf_17, eX12_worthOf_18, eX12_worthOf_19, eX12_worthOf_22, eX12_worthOf_23, eX12_worthOf_26, eX12_worthOf_27, eX12_worthOf_28, eX12_worthOf_29, eX12_worthOf_32, eX12_worthOf_33, eX12_worthOf_34, eX12_worthOf_37, eX12_worthOf_38, eX12_worthOf_39, eX12_worthOf_40, eX12_worthOf_43, eX12_worthOf_44, eX12_worthOf_45, eX12_worthOf_46, eX12_worthOf_49, eX12_worthOf_50, eX12_worthOf_51, eX12_worthOf_54, eX12_worthOf_57, eX12_worthOf_58, eX12_worthOf_59, eX12_worthOf_60, eX12_worthOf_63, eX12_worthOf_64, eX12_worthOf_65, eX12_worthOf_66, eX12_worthOf_69, eX12_worthOf_70, eX12_worthOf_71, eX12_worthOf_74, eX12_worthOf_75, eX12_worthOf_78, eX12_worthOf_81, eX12_worthOf_82, st_aload, st_goto, st_iadd, st_iconst, st_if_eq, st_if_ne, st_if_lt, st_if_ge, st_if_gt, st_if_le, st_ic_eq, st_ic_ne, st_ic_lt, st_ic_ge, st_ic_gt, st_ic_le, st_iinc, st_iload, st_imul, st_inv, st_iret, st_zret, st_bret, st_istore, gf_56_1209, gf_56_1210, gf_56_1211, gf_56_1212, ld_57, ld_58, ld_59, ld_60, ld_61, ld_62, ld_63, ld_64, ld_65, ld_66, ld_67, ld_68, ld_69, ld_70, ld_71, ld_72, ld_73, ld_74, ld_75, ld_76, ld_77, ld_78, ld_79, ld_80, ld_81, ld_82, ld_83, ld_85, HP_56, tab_158, mm_cut, cond_false, cond_true, List.getElem?_cons_succ, List.getElem?_cons_zero, Int.reduceToNat, Nat.reduceMod, Nat.reduceDiv, Nat.reduceAdd, true_and, and_true, mm_set, mm_set2, mm_pop, List.length_cons, List.length_nil, Nat.reduceLeDiff, Int32.reduceOfInt, Int64.reduceOfInt, nar_b0, nar_b1, List.cons_append, List.nil_append, Option.toList_some, Option.toList_none, List.map_cons, List.map_nil, List.sum_cons, List.sum_nil, cat_i, cat_r, cat_l, Nat.zero_le, Int32.reduceOfNat, Int32.reduceAdd, Int32.reduceLT, Int32.reduceLE, forall_const, true_implies, false_implies, not_false_eq_true, not_true_eq_false, bi_eq0, bi_ne0, sl_0, sl_3, va_rf, Nat.reduceEqDiff, if_false, ite_false, ite_true, reduceIte, List.set_cons_zero, List.set_cons_succ, Nat.succ_eq_add_one, mup_c, mup_s, mw_zero, ne_eq, lit_10, lit_01, lit_m10, lit_m11, nar_bi, Nat.reduceBEq, Bool.or_false, Bool.false_or, Bool.or_true, Bool.true_or]
  obtain ⟨m, hm, hm2, hcl⟩ := hok
  have key : ∀ c, c ≤ m → ∀ μ', Off [66] μ μ' → mworth μ n (μ 65) (m - c) c = mWorth μ n (μ 65) → G0 (d + 4 + 1) mX12_worthOf Q 6 [.ref 56, .int x, .int (nI (140 * n + c))] [] (HP ε μ') := by
    refine mm_dn ?_ ?_
    · intro μ' ho hv
      rw [Nat.sub_self, mworth] at hv
      have e61 : μ' 61 = μ 61 := ho 61 (by decide)
      have hc : (140 * x + μ 61 x.toNatClampNeg ≤ nI (140 * n + m)) = True := by rw [hx, clp (a := n) rfl, hm, l140, pk_mul, nI_add]; exact leT (Nat.le_refl _)
      refine mw_ok (M := mX12_worthOf) (fun q => q == 6) okTX12 rfl 30 _ _ _ _ ?_
      simp only [eX12_worthOf_0, eX12_worthOf_3, eX12_worthOf_4, eX12_worthOf_5, eX12_worthOf_6, eX12_worthOf_7, eX12_worthOf_10, eX12_worthOf_11, eX12_worthOf_12, eX12_worthOf_13, eX12_worthOf_16, eX12_worthOf_17, eX12_worthOf_18, eX12_worthOf_19, eX12_worthOf_22, eX12_worthOf_23, eX12_worthOf_26, eX12_worthOf_27, eX12_worthOf_28, eX12_worthOf_29, eX12_worthOf_32, eX12_worthOf_33, eX12_worthOf_34, eX12_worthOf_37, eX12_worthOf_38, eX12_worthOf_39, eX12_worthOf_40, eX12_worthOf_43, eX12_worthOf_44, eX12_worthOf_45, eX12_worthOf_46, eX12_worthOf_49, eX12_worthOf_50, eX12_worthOf_51, eX12_worthOf_54, eX12_worthOf_57, eX12_worthOf_58, eX12_worthOf_59, eX12_worthOf_60, eX12_worthOf_63, eX12_worthOf_64, eX12_worthOf_65, eX12_worthOf_66, eX12_worthOf_69, eX12_worthOf_70, eX12_worthOf_71, eX12_worthOf_74, eX12_worthOf_75, eX12_worthOf_78, eX12_worthOf_81, eX12_worthOf_82, st_aload, st_goto, st_iadd, st_iconst, st_if_eq, st_if_ne, st_if_lt, st_if_ge, st_if_gt, st_if_le, st_ic_eq, st_ic_ne, st_ic_lt, st_ic_ge, st_ic_gt, st_ic_le, st_iinc, st_iload, st_imul, st_inv, st_iret, st_zret, st_bret, st_istore, gf_56_1209, gf_56_1210, gf_56_1211, gf_56_1212, ld_57, ld_58, ld_59, ld_60, ld_61, ld_62, ld_63, ld_64, ld_65, ld_66, ld_67, ld_68, ld_69, ld_70, ld_71, ld_72, ld_73, ld_74, ld_75, ld_76, ld_77, ld_78, ld_79, ld_80, ld_81, ld_82, ld_83, ld_85, HP_56, tab_158, mm_cut, cond_false, cond_true, List.getElem?_cons_succ, List.getElem?_cons_zero, Int.reduceToNat, Nat.reduceMod, Nat.reduceDiv, Nat.reduceAdd, true_and, and_true, mm_set, mm_set2, mm_pop, List.length_cons, List.length_nil, Nat.reduceLeDiff, Int32.reduceOfInt, Int64.reduceOfInt, nar_b0, nar_b1, List.cons_append, List.nil_append, Option.toList_some, Option.toList_none, List.map_cons, List.map_nil, List.sum_cons, List.sum_nil, cat_i, cat_r, cat_l, Nat.zero_le, Int32.reduceOfNat, Int32.reduceAdd, Int32.reduceLT, Int32.reduceLE, forall_const, true_implies, false_implies, not_false_eq_true, not_true_eq_false, bi_eq0, bi_ne0, sl_0, sl_3, va_rf, Nat.reduceEqDiff, if_false, ite_false, ite_true, reduceIte, List.set_cons_zero, List.set_cons_succ, Nat.succ_eq_add_one, mup_c, mup_s, mw_zero, ne_eq, lit_10, lit_01, lit_m10, lit_m11, nar_bi, e61, hc, vinT hx hn, Nat.reduceBEq, Bool.or_false, Bool.false_or, Bool.or_true, Bool.true_or]
      have := hQ μ' ho
      rw [← hv] at this
      exact this
    · intro c hc ih μ' ho hv
      rw [show m - c = (m - (c + 1)) + 1 by omega, mworth] at hv
      obtain ⟨p, q, r, h62, h63, h64, hpq, hqr, hr, htest, hsum⟩ := hcl c hc
      have e58 : μ' 58 = μ 58 := ho 58 (by decide)
      have e59 : μ' 59 = μ 59 := ho 59 (by decide)
      have e61 : μ' 61 = μ 61 := ho 61 (by decide)
      have e62 : μ' 62 = μ 62 := ho 62 (by decide)
      have e63 : μ' 63 = μ 63 := ho 63 (by decide)
      have e64 : μ' 64 = μ 64 := ho 64 (by decide)
      have e65 : μ' 65 = μ 65 := ho 65 (by decide)
      have hcc : (140 * x + μ 61 x.toNatClampNeg ≤ nI (140 * n + c)) = False := by rw [hx, clp (a := n) rfl, hm, l140, pk_mul, nI_add]; exact leF (by omega)
      have hk : (nI (140 * n + c)).toNatClampNeg = 140 * n + c := nI_clamp (by omega)
      have hvi : vp_in (nI (140 * n + c)) 700 = True := vinT rfl (by omega)
      have ek : nI (140 * n + c) + 1 = nI (140 * n + (c + 1)) := (nI_succ _).symm
      have ep : (nI p = nI q) = (p = q) := propext (nI_eq (by omega) (by omega))
      rw [h62, h63, h64, clp (a := p) rfl, clp (a := q) rfl, clp (a := r) rfl] at hv
      simp only [ep] at hv
      have hS : ∀ μ2, Off [66] μ μ2 → ev (μ 65) (mtoks μ n q r) [] = [mWorth μ n (μ 65)] → B0 (d + 4) mX12_workOut [.ref 56, .int x, .int (nI q), .int (nI r)] (HP ε μ2) (fun v h' => G0 (d + 4 + 1) mX12_worthOf Q 74 [.ref 56, .int x, .int (nI (140 * n + c))] (v.toList ++ []) h') := by
        intro μ2 ho2 he
        have f58 : μ2 58 = μ 58 := ho2 58 (by decide)
        have f59 : μ2 59 = μ 59 := ho2 59 (by decide)
        have f65 : μ2 65 = μ 65 := ho2 65 (by decide)
        refine m_workOut hx rfl rfl hqr hr hn (τ := false) (v := mWorth μ n (μ 65)) (by rw [mtoks_cong f58 f59]; exact hsum) (by rw [mtoks_cong f58 f59, f65]; exact he) ?_
        intro μ3 ho3
        refine mw_ok (M := mX12_worthOf) (fun q => q == 6) okTX12 rfl 30 _ _ _ _ ?_
        simp only [eX12_worthOf_0, eX12_worthOf_3, eX12_worthOf_4, eX12_worthOf_5, eX12_worthOf_6, eX12_worthOf_7, eX12_worthOf_10, eX12_worthOf_11, eX12_worthOf_12, eX12_worthOf_13, eX12_worthOf_16, eX12_worthOf_17, eX12_worthOf_18, eX12_worthOf_19, eX12_worthOf_22, eX12_worthOf_23, eX12_worthOf_26, eX12_worthOf_27, eX12_worthOf_28, eX12_worthOf_29, eX12_worthOf_32, eX12_worthOf_33, eX12_worthOf_34, eX12_worthOf_37, eX12_worthOf_38, eX12_worthOf_39, eX12_worthOf_40, eX12_worthOf_43, eX12_worthOf_44, eX12_worthOf_45, eX12_worthOf_46, eX12_worthOf_49, eX12_worthOf_50, eX12_worthOf_51, eX12_worthOf_54, eX12_worthOf_57, eX12_worthOf_58, eX12_worthOf_59, eX12_worthOf_60, eX12_worthOf_63, eX12_worthOf_64, eX12_worthOf_65, eX12_worthOf_66, eX12_worthOf_69, eX12_worthOf_70, eX12_worthOf_71, eX12_worthOf_74, eX12_worthOf_75, eX12_worthOf_78, eX12_worthOf_81, eX12_worthOf_82, st_aload, st_goto, st_iadd, st_iconst, st_if_eq, st_if_ne, st_if_lt, st_if_ge, st_if_gt, st_if_le, st_ic_eq, st_ic_ne, st_ic_lt, st_ic_ge, st_ic_gt, st_ic_le, st_iinc, st_iload, st_imul, st_inv, st_iret, st_zret, st_bret, st_istore, gf_56_1209, gf_56_1210, gf_56_1211, gf_56_1212, ld_57, ld_58, ld_59, ld_60, ld_61, ld_62, ld_63, ld_64, ld_65, ld_66, ld_67, ld_68, ld_69, ld_70, ld_71, ld_72, ld_73, ld_74, ld_75, ld_76, ld_77, ld_78, ld_79, ld_80, ld_81, ld_82, ld_83, ld_85, HP_56, tab_158, mm_cut, cond_false, cond_true, List.getElem?_cons_succ, List.getElem?_cons_zero, Int.reduceToNat, Nat.reduceMod, Nat.reduceDiv, Nat.reduceAdd, true_and, and_true, mm_set, mm_set2, mm_pop, List.length_cons, List.length_nil, Nat.reduceLeDiff, Int32.reduceOfInt, Int64.reduceOfInt, nar_b0, nar_b1, List.cons_append, List.nil_append, Option.toList_some, Option.toList_none, List.map_cons, List.map_nil, List.sum_cons, List.sum_nil, cat_i, cat_r, cat_l, Nat.zero_le, Int32.reduceOfNat, Int32.reduceAdd, Int32.reduceLT, Int32.reduceLE, forall_const, true_implies, false_implies, not_false_eq_true, not_true_eq_false, bi_eq0, bi_ne0, sl_0, sl_3, va_rf, Nat.reduceEqDiff, if_false, ite_false, ite_true, reduceIte, List.set_cons_zero, List.set_cons_succ, Nat.succ_eq_add_one, mup_c, mup_s, mw_zero, ne_eq, lit_10, lit_01, lit_m10, lit_m11, nar_bi, Nat.reduceBEq, Bool.or_false, Bool.false_or, Bool.or_true, Bool.true_or]
        exact hQ μ3 (ho2.tr ho3)
      have hone := ev_one (L := μ 65) hsum
      refine mw_ok (M := mX12_worthOf) (fun q => q == 6) okTX12 rfl 60 _ _ _ _ ?_
      simp only [eX12_worthOf_0, eX12_worthOf_3, eX12_worthOf_4, eX12_worthOf_5, eX12_worthOf_6, eX12_worthOf_7, eX12_worthOf_10, eX12_worthOf_11, eX12_worthOf_12, eX12_worthOf_13, eX12_worthOf_16, eX12_worthOf_17, eX12_worthOf_18, eX12_worthOf_19, eX12_worthOf_22, eX12_worthOf_23, eX12_worthOf_26, eX12_worthOf_27, eX12_worthOf_28, eX12_worthOf_29, eX12_worthOf_32, eX12_worthOf_33, eX12_worthOf_34, eX12_worthOf_37, eX12_worthOf_38, eX12_worthOf_39, eX12_worthOf_40, eX12_worthOf_43, eX12_worthOf_44, eX12_worthOf_45, eX12_worthOf_46, eX12_worthOf_49, eX12_worthOf_50, eX12_worthOf_51, eX12_worthOf_54, eX12_worthOf_57, eX12_worthOf_58, eX12_worthOf_59, eX12_worthOf_60, eX12_worthOf_63, eX12_worthOf_64, eX12_worthOf_65, eX12_worthOf_66, eX12_worthOf_69, eX12_worthOf_70, eX12_worthOf_71, eX12_worthOf_74, eX12_worthOf_75, eX12_worthOf_78, eX12_worthOf_81, eX12_worthOf_82, st_aload, st_goto, st_iadd, st_iconst, st_if_eq, st_if_ne, st_if_lt, st_if_ge, st_if_gt, st_if_le, st_ic_eq, st_ic_ne, st_ic_lt, st_ic_ge, st_ic_gt, st_ic_le, st_iinc, st_iload, st_imul, st_inv, st_iret, st_zret, st_bret, st_istore, gf_56_1209, gf_56_1210, gf_56_1211, gf_56_1212, ld_57, ld_58, ld_59, ld_60, ld_61, ld_62, ld_63, ld_64, ld_65, ld_66, ld_67, ld_68, ld_69, ld_70, ld_71, ld_72, ld_73, ld_74, ld_75, ld_76, ld_77, ld_78, ld_79, ld_80, ld_81, ld_82, ld_83, ld_85, HP_56, tab_158, mm_cut, cond_false, cond_true, List.getElem?_cons_succ, List.getElem?_cons_zero, Int.reduceToNat, Nat.reduceMod, Nat.reduceDiv, Nat.reduceAdd, true_and, and_true, mm_set, mm_set2, mm_pop, List.length_cons, List.length_nil, Nat.reduceLeDiff, Int32.reduceOfInt, Int64.reduceOfInt, nar_b0, nar_b1, List.cons_append, List.nil_append, Option.toList_some, Option.toList_none, List.map_cons, List.map_nil, List.sum_cons, List.sum_nil, cat_i, cat_r, cat_l, Nat.zero_le, Int32.reduceOfNat, Int32.reduceAdd, Int32.reduceLT, Int32.reduceLE, forall_const, true_implies, false_implies, not_false_eq_true, not_true_eq_false, bi_eq0, bi_ne0, sl_0, sl_3, va_rf, Nat.reduceEqDiff, if_false, ite_false, ite_true, reduceIte, List.set_cons_zero, List.set_cons_succ, Nat.succ_eq_add_one, mup_c, mup_s, mw_zero, ne_eq, lit_10, lit_01, lit_m10, lit_m11, nar_bi, e61, hcc, vinT hx hn, e62, e63, e64, hk, hvi, h62, h63, h64, ep, Nat.reduceBEq, Bool.or_false, Bool.false_or, Bool.or_true, Bool.true_or]
      refine ⟨fun hpq2 => ?_, fun hpq2 => ?_⟩
      · rw [if_pos (Or.inl hpq2)] at hv
        rw [hv] at hone
        exact hS μ' ho hone
      · have htest := htest.resolve_left hpq2
        have hone2 := ev_one (L := μ 65) htest
        refine m_workOut hx rfl rfl hpq (by omega) hn (τ := true) (v := (ev (μ 65) (mtoks μ n p q) []).headD 0) (by rw [mtoks_cong e58 e59]; exact htest) (by rw [mtoks_cong e58 e59, e65]; exact hone2) ?_
        intro μ2 ho2
        have ho3 := ho.tr ho2
        have f62 : μ2 62 = μ 62 := ho3 62 (by decide)
        have f63 : μ2 63 = μ 63 := ho3 63 (by decide)
        have f64 : μ2 64 = μ 64 := ho3 64 (by decide)
        refine mw_ok (M := mX12_worthOf) (fun q => q == 6) okTX12 rfl 60 _ _ _ _ ?_
        simp only [eX12_worthOf_0, eX12_worthOf_3, eX12_worthOf_4, eX12_worthOf_5, eX12_worthOf_6, eX12_worthOf_7, eX12_worthOf_10, eX12_worthOf_11, eX12_worthOf_12, eX12_worthOf_13, eX12_worthOf_16, eX12_worthOf_17, eX12_worthOf_18, eX12_worthOf_19, eX12_worthOf_22, eX12_worthOf_23, eX12_worthOf_26, eX12_worthOf_27, eX12_worthOf_28, eX12_worthOf_29, eX12_worthOf_32, eX12_worthOf_33, eX12_worthOf_34, eX12_worthOf_37, eX12_worthOf_38, eX12_worthOf_39, eX12_worthOf_40, eX12_worthOf_43, eX12_worthOf_44, eX12_worthOf_45, eX12_worthOf_46, eX12_worthOf_49, eX12_worthOf_50, eX12_worthOf_51, eX12_worthOf_54, eX12_worthOf_57, eX12_worthOf_58, eX12_worthOf_59, eX12_worthOf_60, eX12_worthOf_63, eX12_worthOf_64, eX12_worthOf_65, eX12_worthOf_66, eX12_worthOf_69, eX12_worthOf_70, eX12_worthOf_71, eX12_worthOf_74, eX12_worthOf_75, eX12_worthOf_78, eX12_worthOf_81, eX12_worthOf_82, st_aload, st_goto, st_iadd, st_iconst, st_if_eq, st_if_ne, st_if_lt, st_if_ge, st_if_gt, st_if_le, st_ic_eq, st_ic_ne, st_ic_lt, st_ic_ge, st_ic_gt, st_ic_le, st_iinc, st_iload, st_imul, st_inv, st_iret, st_zret, st_bret, st_istore, gf_56_1209, gf_56_1210, gf_56_1211, gf_56_1212, ld_57, ld_58, ld_59, ld_60, ld_61, ld_62, ld_63, ld_64, ld_65, ld_66, ld_67, ld_68, ld_69, ld_70, ld_71, ld_72, ld_73, ld_74, ld_75, ld_76, ld_77, ld_78, ld_79, ld_80, ld_81, ld_82, ld_83, ld_85, HP_56, tab_158, mm_cut, cond_false, cond_true, List.getElem?_cons_succ, List.getElem?_cons_zero, Int.reduceToNat, Nat.reduceMod, Nat.reduceDiv, Nat.reduceAdd, true_and, and_true, mm_set, mm_set2, mm_pop, List.length_cons, List.length_nil, Nat.reduceLeDiff, Int32.reduceOfInt, Int64.reduceOfInt, nar_b0, nar_b1, List.cons_append, List.nil_append, Option.toList_some, Option.toList_none, List.map_cons, List.map_nil, List.sum_cons, List.sum_nil, cat_i, cat_r, cat_l, Nat.zero_le, Int32.reduceOfNat, Int32.reduceAdd, Int32.reduceLT, Int32.reduceLE, forall_const, true_implies, false_implies, not_false_eq_true, not_true_eq_false, bi_eq0, bi_ne0, sl_0, sl_3, va_rf, Nat.reduceEqDiff, if_false, ite_false, ite_true, reduceIte, List.set_cons_zero, List.set_cons_succ, Nat.succ_eq_add_one, mup_c, mup_s, mw_zero, ne_eq, lit_10, lit_01, lit_m10, lit_m11, nar_bi, f63, f64, hk, hvi, h63, h64, Nat.reduceBEq, Bool.or_false, Bool.false_or, Bool.or_true, Bool.true_or]
        refine ⟨fun hz => ?_, fun hz => ?_⟩
        · rw [ek]
          refine ih μ2 ho3 ?_
          rw [if_neg (fun z => z.elim hpq2 (fun w => w hz))] at hv
          exact hv
        · rw [if_pos (Or.inr hz)] at hv
          rw [hv] at hone
          exact hS μ2 ho3 hone
  have e1 : 140 * x = nI (140 * n + 0) := by rw [hx, l140, pk_mul]; rfl
  rw [e1]
  refine key 0 (Nat.zero_le _) μ Off.rf ?_
  rw [mWorth, hm, clp (a := m) rfl, Nat.sub_zero]
end M3
