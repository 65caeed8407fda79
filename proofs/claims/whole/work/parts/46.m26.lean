theorem lit_m32 : ((-1 : Int32) = 32) = False := by simp
/-- the reference's reader at work: position, fault, depth, tokens of the text n so far -/
def MPr (μ0 μ : mm_mu) (n : Nat) : Prop := OffF [58, 59, 60] [3, 4, 5] μ0 μ ∧ (∀ i, ¬ (520 * n ≤ i ∧ i < 520 * n + 520) → μ 58 i = μ0 58 i ∧ μ 59 i = μ0 59 i) ∧ ∀ i, i ≠ n → μ 60 i = μ0 60 i
def MP (μ0 μ : mm_mu) (n a : Nat) (w : Int32) (dp : Nat) (ts : List Tk) : Prop := MPr μ0 μ n ∧ μ 56 3 = nI a ∧ μ 56 4 = w ∧ μ 56 5 = nI dp ∧ μ 60 n = nI ts.length ∧ ∀ i, i < ts.length → (μ 58 (520 * n + i), μ 59 (520 * n + i)) = ts.getD i (0, 0)
/-- what does not change while a text is read -/
def MR (μ0 : mm_mu) (n sz : Nat) : Prop := μ0 56 14 = nI n ∧ n < 5 ∧ μ0 56 2 = nI sz ∧ sz ≤ 240
section MP
variable {μ0 μ : mm_mu} {n a sz dp : Nat} {w : Int32} {ts : List Tk}
theorem MP.e2 (h : MP μ0 μ n a w dp ts) (r : MR μ0 n sz) : μ 56 2 = nI sz := (h.1.1.2 2 (by decide)).trans r.2.2.1
theorem MP.e14 (h : MP μ0 μ n a w dp ts) (r : MR μ0 n sz) : μ 56 14 = nI n := (h.1.1.2 14 (by decide)).trans r.1
theorem MP.e57 (h : MP μ0 μ n a w dp ts) : μ 57 = μ0 57 := h.1.1.at (by decide)
theorem MPr.upf {i : Nat} {x : Int32} (h : MPr μ0 μ n) (hi : i ∈ [3, 4, 5]) : MPr μ0 (mup μ 56 i x) n := ⟨h.1.upf hi, fun j hj => by rw [mup_c (by decide), mup_c (by decide)]; exact h.2.1 j hj, fun j hj => by rw [mup_c (by decide)]; exact h.2.2 j hj⟩
theorem MP.at {b : Nat} {x : Int32} (h : MP μ0 μ n a w dp ts) (hx : x = nI b) : MP μ0 (mup μ 56 3 x) n b w dp ts := by
  obtain ⟨h1, h2, h3, h4, h5, h6⟩ := h
  refine ⟨h1.upf (by decide), ?_, ?_, ?_, ?_, ?_⟩
  · rw [mup_s, if_pos rfl, hx]
  · rw [mup_s, if_neg (by decide)]; exact h3
  · rw [mup_s, if_neg (by decide)]; exact h4
  · rw [mup_c (by decide)]; exact h5
  · rw [mup_c (by decide), mup_c (by decide)]; exact h6
theorem MP.wr {x : Int32} (h : MP μ0 μ n a w dp ts) : MP μ0 (mup μ 56 4 x) n a x dp ts := by
  obtain ⟨h1, h2, h3, h4, h5, h6⟩ := h
  refine ⟨h1.upf (by decide), ?_, ?_, ?_, ?_, ?_⟩
  · rw [mup_s, if_neg (by decide)]; exact h2
  · rw [mup_s, if_pos rfl]
  · rw [mup_s, if_neg (by decide)]; exact h4
  · rw [mup_c (by decide)]; exact h5
  · rw [mup_c (by decide), mup_c (by decide)]; exact h6
theorem MP.sd {q : Nat} {x : Int32} (h : MP μ0 μ n a w dp ts) (hx : x = nI q) : MP μ0 (mup μ 56 5 x) n a w q ts := by
  obtain ⟨h1, h2, h3, h4, h5, h6⟩ := h
  refine ⟨h1.upf (by decide), ?_, ?_, ?_, ?_, ?_⟩
  · rw [mup_s, if_neg (by decide)]; exact h2
  · rw [mup_s, if_neg (by decide)]; exact h3
  · rw [mup_s, if_pos rfl, hx]
  · rw [mup_c (by decide)]; exact h5
  · rw [mup_c (by decide), mup_c (by decide)]; exact h6
theorem MP.put {c v : Int32} (h : MP μ0 μ n a w dp ts) (hk : ts.length < 520) : MP μ0 (mup (mup (mup μ 58 (520 * n + ts.length) c) 59 (520 * n + ts.length) v) 60 n (nI (ts.length + 1))) n a w dp (ts ++ [(c, v)]) := by
  obtain ⟨h1, h2, h3, h4, h5, h6⟩ := h
  refine ⟨⟨((h1.1.up (by decide)).up (by decide)).up (by decide), fun i hi => ?_, fun i hi => ?_⟩, ?_, ?_, ?_, ?_, ?_⟩
  · rw [mup_c (by decide), mup_c (by decide), mup_s, if_neg (by omega), mup_c (by decide), mup_s, if_neg (by omega), mup_c (by decide)]
    exact h1.2.1 i hi
  · rw [mup_s, if_neg hi, mup_c (by decide), mup_c (by decide)]
    exact h1.2.2 i hi
  · rw [mup_c (by decide), mup_c (by decide), mup_c (by decide)]; exact h2
  · rw [mup_c (by decide), mup_c (by decide), mup_c (by decide)]; exact h3
  · rw [mup_c (by decide), mup_c (by decide), mup_c (by decide)]; exact h4
  · rw [mup_s, if_pos rfl]; simp
  · intro i hi
    simp only [List.length_append, List.length_cons, List.length_nil] at hi
    rw [mup_c (by decide), mup_c (by decide), mup_s, mup_c (by decide), mup_s, mup_c (by decide)]
    by_cases hi2 : i = ts.length
    · rw [if_pos (by omega), if_pos (by omega), hi2]; simp
    · rw [if_neg (by omega), if_neg (by omega), h6 i (by omega)]
      simp [show i < ts.length by omega, List.getElem?_append_left (show i < ts.length by omega)]
end MP
/-- how a reader of the reference ends: as the pure one -/
def PO (μ0 : mm_mu) (n sz dp a : Nat) (ts : List Tk) (r : PR) (μ' : mm_mu) : Prop := match r with
  | .inr (b, us) => MP μ0 μ' n b (-1) dp (ts ++ us)
  | .inl p => ∃ a' dp' ts', MP μ0 μ' n a' (nI p) dp' ts' ∧ a' + dp' ≤ sz + 8 ∧ dp ≤ dp' ∧ ts'.length + a ≤ a' + ts.length
section M26
variable {d : Nat} {ε : mm_X} {μ0 μ : mm_mu} {Q : mm_Q0} {h : mm_H} {n a sz dp : Nat} {w : Int32} {ts : List Tk}
theorem m_here (r : MR μ0 n sz) (hM : MP μ0 μ n a w dp ts) (ha : a < 100000) (hQ : Q (some (.int (chr (μ0 57) sz a))) (HP ε μ)) : B0 (d + 1) mX12_here [.ref 56] (HP ε μ) Q := by
  have h240 := r.2.2.2
  refine b0_of_G0 (lv := [.ref 56]) (by decide +kernel) (Nat.le_of_ble_eq_true rfl) rfl ?_
  by_cases hlt : a < sz
  · rw [chr, if_pos hlt, ← hM.e57] at hQ
    refine mw_ok (M := mX12_here) (fun _ => false) okTX12 rfl 20 _ _ _ _ ?_
    simp only [eX12_here_0, eX12_here_1, eX12_here_4, eX12_here_5, eX12_here_8, eX12_here_11, eX12_here_12, eX12_here_15, eX12_here_16, eX12_here_19, eX12_here_20, eX12_here_23, eX12_here_24, st_aload, st_goto, st_iconst, st_ic_eq, st_ic_ne, st_ic_lt, st_ic_ge, st_ic_gt, st_ic_le, st_iret, st_zret, st_bret, gf_56_1201, gf_56_1202, gf_56_1203, ld_57, ld_58, ld_59, ld_60, ld_61, ld_62, ld_63, ld_64, ld_65, ld_66, ld_67, ld_68, ld_69, ld_70, ld_71, ld_72, ld_73, ld_74, ld_75, ld_76, ld_77, ld_78, ld_79, ld_80, ld_81, ld_82, ld_83, ld_85, mm_cut, cond_false, cond_true, List.getElem?_cons_succ, List.getElem?_cons_zero, Int.reduceToNat, Nat.reduceMod, Nat.reduceDiv, Nat.reduceAdd, true_and, and_true, mm_set, mm_set2, mm_pop, List.length_cons, List.length_nil, Nat.reduceLeDiff, Int32.reduceOfInt, Int64.reduceOfInt, nar_b0, nar_b1, List.cons_append, List.nil_append, Option.toList_some, Option.toList_none, List.map_cons, List.map_nil, List.sum_cons, List.sum_nil, cat_i, cat_r, cat_l, Nat.zero_le, Int32.reduceOfNat, Int32.reduceAdd, Int32.reduceLT, Int32.reduceLE, forall_const, true_implies, false_implies, not_false_eq_true, not_true_eq_false, bi_eq0, bi_ne0, sl_0, sl_3, va_rf, Nat.reduceEqDiff, if_false, ite_false, ite_true, reduceIte, List.set_cons_zero, List.set_cons_succ, Nat.succ_eq_add_one, mup_c, mup_s, mw_zero, ne_eq, lit_10, lit_01, lit_m10, lit_m11, nar_bi, hM.2.1, hM.e2 r, leF hlt (show sz < 2147483648 by omega), vinT (a := a) rfl (show a < 240 by omega), clp (a := a) rfl (by omega)]
    exact hQ
  · rw [chr, if_neg hlt] at hQ
    refine mw_ok (M := mX12_here) (fun _ => false) okTX12 rfl 20 _ _ _ _ ?_
    simp only [eX12_here_0, eX12_here_1, eX12_here_4, eX12_here_5, eX12_here_8, eX12_here_11, eX12_here_12, eX12_here_15, eX12_here_16, eX12_here_19, eX12_here_20, eX12_here_23, eX12_here_24, st_aload, st_goto, st_iconst, st_ic_eq, st_ic_ne, st_ic_lt, st_ic_ge, st_ic_gt, st_ic_le, st_iret, st_zret, st_bret, gf_56_1201, gf_56_1202, gf_56_1203, ld_57, ld_58, ld_59, ld_60, ld_61, ld_62, ld_63, ld_64, ld_65, ld_66, ld_67, ld_68, ld_69, ld_70, ld_71, ld_72, ld_73, ld_74, ld_75, ld_76, ld_77, ld_78, ld_79, ld_80, ld_81, ld_82, ld_83, ld_85, mm_cut, cond_false, cond_true, List.getElem?_cons_succ, List.getElem?_cons_zero, Int.reduceToNat, Nat.reduceMod, Nat.reduceDiv, Nat.reduceAdd, true_and, and_true, mm_set, mm_set2, mm_pop, List.length_cons, List.length_nil, Nat.reduceLeDiff, Int32.reduceOfInt, Int64.reduceOfInt, nar_b0, nar_b1, List.cons_append, List.nil_append, Option.toList_some, Option.toList_none, List.map_cons, List.map_nil, List.sum_cons, List.sum_nil, cat_i, cat_r, cat_l, Nat.zero_le, Int32.reduceOfNat, Int32.reduceAdd, Int32.reduceLT, Int32.reduceLE, forall_const, true_implies, false_implies, not_false_eq_true, not_true_eq_false, bi_eq0, bi_ne0, sl_0, sl_3, va_rf, Nat.reduceEqDiff, if_false, ite_false, ite_true, reduceIte, List.set_cons_zero, List.set_cons_succ, Nat.succ_eq_add_one, mup_c, mup_s, mw_zero, ne_eq, lit_10, lit_01, lit_m10, lit_m11, nar_bi, hM.2.1, hM.e2 r, leT (show sz ≤ a by omega) (show a < 2147483648 by omega)]
    exact hQ
theorem m_look (r : MR μ0 n sz) : ∀ (k : Nat) {a : Nat} {μ : mm_mu}, sz - a ≤ k → MP μ0 μ n a w dp ts → a < 100000 - k → (∀ μ', MP μ0 μ' n (sk (μ0 57) sz a) w dp ts → Q (some (.int (chr (μ0 57) sz (sk (μ0 57) sz a)))) (HP ε μ')) → G0 (d + 2) mX12_look Q 0 [.ref 56] [] (HP ε μ) := by
  intro k
  induction k with
  | zero =>
    intro a μ hk hM ha hQ
    have hs : sk (μ0 57) sz a = a := sk_ge (by omega)
    rw [hs] at hQ
    have hc : chr (μ0 57) sz a = -1 := chr_ge (by omega)
    refine mw_ok (M := mX12_look) (fun q => q == 0) okTX12 rfl 20 _ _ _ _ ?_
    simp only [eX12_look_0, eX12_look_1, eX12_look_4, eX12_look_6, eX12_look_9, eX12_look_10, eX12_look_11, eX12_look_14, eX12_look_15, eX12_look_16, eX12_look_19, eX12_look_22, eX12_look_23, eX12_look_26, st_aload, st_dupi, st_dupr, st_goto, st_iadd, st_iconst, st_ic_eq, st_ic_ne, st_ic_lt, st_ic_ge, st_ic_gt, st_ic_le, st_inv, st_iret, st_zret, st_bret, gf_56_1203, pf_56_1203, HP_56, tab_134, mm_cut, cond_false, cond_true, List.getElem?_cons_succ, List.getElem?_cons_zero, Int.reduceToNat, Nat.reduceMod, Nat.reduceDiv, Nat.reduceAdd, true_and, and_true, mm_set, mm_set2, mm_pop, List.length_cons, List.length_nil, Nat.reduceLeDiff, Int32.reduceOfInt, Int64.reduceOfInt, nar_b0, nar_b1, List.cons_append, List.nil_append, Option.toList_some, Option.toList_none, List.map_cons, List.map_nil, List.sum_cons, List.sum_nil, cat_i, cat_r, cat_l, Nat.zero_le, Int32.reduceOfNat, Int32.reduceAdd, Int32.reduceLT, Int32.reduceLE, forall_const, true_implies, false_implies, not_false_eq_true, not_true_eq_false, bi_eq0, bi_ne0, sl_0, sl_3, va_rf, Nat.reduceEqDiff, if_false, ite_false, ite_true, reduceIte, List.set_cons_zero, List.set_cons_succ, Nat.succ_eq_add_one, mup_c, mup_s, mw_zero, ne_eq, lit_10, lit_01, lit_m10, lit_m11, nar_bi, Nat.reduceBEq, Bool.or_false, Bool.false_or, Bool.or_true, Bool.true_or]
    refine m_here (d := d) r hM (by omega) ?_
    rw [hc]
    refine mw_ok (M := mX12_look) (fun q => q == 0) okTX12 rfl 20 _ _ _ _ ?_
    simp only [eX12_look_0, eX12_look_1, eX12_look_4, eX12_look_6, eX12_look_9, eX12_look_10, eX12_look_11, eX12_look_14, eX12_look_15, eX12_look_16, eX12_look_19, eX12_look_22, eX12_look_23, eX12_look_26, st_aload, st_dupi, st_dupr, st_goto, st_iadd, st_iconst, st_ic_eq, st_ic_ne, st_ic_lt, st_ic_ge, st_ic_gt, st_ic_le, st_inv, st_iret, st_zret, st_bret, gf_56_1203, pf_56_1203, HP_56, tab_134, mm_cut, cond_false, cond_true, List.getElem?_cons_succ, List.getElem?_cons_zero, Int.reduceToNat, Nat.reduceMod, Nat.reduceDiv, Nat.reduceAdd, true_and, and_true, mm_set, mm_set2, mm_pop, List.length_cons, List.length_nil, Nat.reduceLeDiff, Int32.reduceOfInt, Int64.reduceOfInt, nar_b0, nar_b1, List.cons_append, List.nil_append, Option.toList_some, Option.toList_none, List.map_cons, List.map_nil, List.sum_cons, List.sum_nil, cat_i, cat_r, cat_l, Nat.zero_le, Int32.reduceOfNat, Int32.reduceAdd, Int32.reduceLT, Int32.reduceLE, forall_const, true_implies, false_implies, not_false_eq_true, not_true_eq_false, bi_eq0, bi_ne0, sl_0, sl_3, va_rf, Nat.reduceEqDiff, if_false, ite_false, ite_true, reduceIte, List.set_cons_zero, List.set_cons_succ, Nat.succ_eq_add_one, mup_c, mup_s, mw_zero, ne_eq, lit_10, lit_01, lit_m10, lit_m11, nar_bi, lit_m32, Nat.reduceBEq, Bool.or_false, Bool.false_or, Bool.or_true, Bool.true_or]
    refine m_here (d := d) r hM (by omega) ?_
    refine mw_ok (M := mX12_look) (fun q => q == 0) okTX12 rfl 20 _ _ _ _ ?_
    simp only [eX12_look_0, eX12_look_1, eX12_look_4, eX12_look_6, eX12_look_9, eX12_look_10, eX12_look_11, eX12_look_14, eX12_look_15, eX12_look_16, eX12_look_19, eX12_look_22, eX12_look_23, eX12_look_26, st_aload, st_dupi, st_dupr, st_goto, st_iadd, st_iconst, st_ic_eq, st_ic_ne, st_ic_lt, st_ic_ge, st_ic_gt, st_ic_le, st_inv, st_iret, st_zret, st_bret, gf_56_1203, pf_56_1203, HP_56, tab_134, mm_cut, cond_false, cond_true, List.getElem?_cons_succ, List.getElem?_cons_zero, Int.reduceToNat, Nat.reduceMod, Nat.reduceDiv, Nat.reduceAdd, true_and, and_true, mm_set, mm_set2, mm_pop, List.length_cons, List.length_nil, Nat.reduceLeDiff, Int32.reduceOfInt, Int64.reduceOfInt, nar_b0, nar_b1, List.cons_append, List.nil_append, Option.toList_some, Option.toList_none, List.map_cons, List.map_nil, List.sum_cons, List.sum_nil, cat_i, cat_r, cat_l, Nat.zero_le, Int32.reduceOfNat, Int32.reduceAdd, Int32.reduceLT, Int32.reduceLE, forall_const, true_implies, false_implies, not_false_eq_true, not_true_eq_false, bi_eq0, bi_ne0, sl_0, sl_3, va_rf, Nat.reduceEqDiff, if_false, ite_false, ite_true, reduceIte, List.set_cons_zero, List.set_cons_succ, Nat.succ_eq_add_one, mup_c, mup_s, mw_zero, ne_eq, lit_10, lit_01, lit_m10, lit_m11, nar_bi, Nat.reduceBEq, Bool.or_false, Bool.false_or, Bool.or_true, Bool.true_or]
    exact hQ μ hM
  | succ k ih =>
    intro a μ hk hM ha hQ
    refine mw_ok (M := mX12_look) (fun q => q == 0) okTX12 rfl 20 _ _ _ _ ?_
    simp only [eX12_look_0, eX12_look_1, eX12_look_4, eX12_look_6, eX12_look_9, eX12_look_10, eX12_look_11, eX12_look_14, eX12_look_15, eX12_look_16, eX12_look_19, eX12_look_22, eX12_look_23, eX12_look_26, st_aload, st_dupi, st_dupr, st_goto, st_iadd, st_iconst, st_ic_eq, st_ic_ne, st_ic_lt, st_ic_ge, st_ic_gt, st_ic_le, st_inv, st_iret, st_zret, st_bret, gf_56_1203, pf_56_1203, HP_56, tab_134, mm_cut, cond_false, cond_true, List.getElem?_cons_succ, List.getElem?_cons_zero, Int.reduceToNat, Nat.reduceMod, Nat.reduceDiv, Nat.reduceAdd, true_and, and_true, mm_set, mm_set2, mm_pop, List.length_cons, List.length_nil, Nat.reduceLeDiff, Int32.reduceOfInt, Int64.reduceOfInt, nar_b0, nar_b1, List.cons_append, List.nil_append, Option.toList_some, Option.toList_none, List.map_cons, List.map_nil, List.sum_cons, List.sum_nil, cat_i, cat_r, cat_l, Nat.zero_le, Int32.reduceOfNat, Int32.reduceAdd, Int32.reduceLT, Int32.reduceLE, forall_const, true_implies, false_implies, not_false_eq_true, not_true_eq_false, bi_eq0, bi_ne0, sl_0, sl_3, va_rf, Nat.reduceEqDiff, if_false, ite_false, ite_true, reduceIte, List.set_cons_zero, List.set_cons_succ, Nat.succ_eq_add_one, mup_c, mup_s, mw_zero, ne_eq, lit_10, lit_01, lit_m10, lit_m11, nar_bi, Nat.reduceBEq, Bool.or_false, Bool.false_or, Bool.or_true, Bool.true_or]
    refine m_here (d := d) r hM (by omega) ?_
    refine mw_ok (M := mX12_look) (fun q => q == 0) okTX12 rfl 20 _ _ _ _ ?_
    simp only [eX12_look_0, eX12_look_1, eX12_look_4, eX12_look_6, eX12_look_9, eX12_look_10, eX12_look_11, eX12_look_14, eX12_look_15, eX12_look_16, eX12_look_19, eX12_look_22, eX12_look_23, eX12_look_26, st_aload, st_dupi, st_dupr, st_goto, st_iadd, st_iconst, st_ic_eq, st_ic_ne, st_ic_lt, st_ic_ge, st_ic_gt, st_ic_le, st_inv, st_iret, st_zret, st_bret, gf_56_1203, pf_56_1203, HP_56, tab_134, mm_cut, cond_false, cond_true, List.getElem?_cons_succ, List.getElem?_cons_zero, Int.reduceToNat, Nat.reduceMod, Nat.reduceDiv, Nat.reduceAdd, true_and, and_true, mm_set, mm_set2, mm_pop, List.length_cons, List.length_nil, Nat.reduceLeDiff, Int32.reduceOfInt, Int64.reduceOfInt, nar_b0, nar_b1, List.cons_append, List.nil_append, Option.toList_some, Option.toList_none, List.map_cons, List.map_nil, List.sum_cons, List.sum_nil, cat_i, cat_r, cat_l, Nat.zero_le, Int32.reduceOfNat, Int32.reduceAdd, Int32.reduceLT, Int32.reduceLE, forall_const, true_implies, false_implies, not_false_eq_true, not_true_eq_false, bi_eq0, bi_ne0, sl_0, sl_3, va_rf, Nat.reduceEqDiff, if_false, ite_false, ite_true, reduceIte, List.set_cons_zero, List.set_cons_succ, Nat.succ_eq_add_one, mup_c, mup_s, mw_zero, ne_eq, lit_10, lit_01, lit_m10, lit_m11, nar_bi, hM.2.1, Nat.reduceBEq, Bool.or_false, Bool.false_or, Bool.or_true, Bool.true_or]
    refine ⟨fun hc => ?_, fun hc => ?_⟩
    · have hs : sk (μ0 57) sz a = a := sk_at hc
      rw [hs] at hQ
      refine m_here (d := d) r hM (by omega) ?_
      refine mw_ok (M := mX12_look) (fun q => q == 0) okTX12 rfl 20 _ _ _ _ ?_
      simp only [eX12_look_0, eX12_look_1, eX12_look_4, eX12_look_6, eX12_look_9, eX12_look_10, eX12_look_11, eX12_look_14, eX12_look_15, eX12_look_16, eX12_look_19, eX12_look_22, eX12_look_23, eX12_look_26, st_aload, st_dupi, st_dupr, st_goto, st_iadd, st_iconst, st_ic_eq, st_ic_ne, st_ic_lt, st_ic_ge, st_ic_gt, st_ic_le, st_inv, st_iret, st_zret, st_bret, gf_56_1203, pf_56_1203, HP_56, tab_134, mm_cut, cond_false, cond_true, List.getElem?_cons_succ, List.getElem?_cons_zero, Int.reduceToNat, Nat.reduceMod, Nat.reduceDiv, Nat.reduceAdd, true_and, and_true, mm_set, mm_set2, mm_pop, List.length_cons, List.length_nil, Nat.reduceLeDiff, Int32.reduceOfInt, Int64.reduceOfInt, nar_b0, nar_b1, List.cons_append, List.nil_append, Option.toList_some, Option.toList_none, List.map_cons, List.map_nil, List.sum_cons, List.sum_nil, cat_i, cat_r, cat_l, Nat.zero_le, Int32.reduceOfNat, Int32.reduceAdd, Int32.reduceLT, Int32.reduceLE, forall_const, true_implies, false_implies, not_false_eq_true, not_true_eq_false, bi_eq0, bi_ne0, sl_0, sl_3, va_rf, Nat.reduceEqDiff, if_false, ite_false, ite_true, reduceIte, List.set_cons_zero, List.set_cons_succ, Nat.succ_eq_add_one, mup_c, mup_s, mw_zero, ne_eq, lit_10, lit_01, lit_m10, lit_m11, nar_bi, Nat.reduceBEq, Bool.or_false, Bool.false_or, Bool.or_true, Bool.true_or]
      exact hQ μ hM
    · have hs := sk_32 hc
      rw [hs] at hQ
      exact ih (a := a + 1) (by omega) (hM.at (by rw [← nI_succ])) (by omega) hQ
theorem m_lookB (r : MR μ0 n sz) (hM : MP μ0 μ n a w dp ts) (ha : a < 50000) (hQ : ∀ μ', MP μ0 μ' n (sk (μ0 57) sz a) w dp ts → Q (some (.int (chr (μ0 57) sz (sk (μ0 57) sz a)))) (HP ε μ')) : B0 (d + 2) mX12_look [.ref 56] (HP ε μ) Q := by
  have h240 := r.2.2.2
  refine b0_of_G0 (lv := [.ref 56]) (by decide +kernel) (Nat.le_of_ble_eq_true rfl) rfl ?_
  exact m_look r (sz - a) (Nat.le_refl _) hM (by omega) hQ
theorem m_bad (hM : MP μ0 μ n a (-1) dp ts) (hQ : ∀ μ', MP μ0 μ' n a (nI a) dp ts → Q none (HP ε μ')) : B0 (d + 1) mX12_bad [.ref 56] (HP ε μ) Q := by
  refine b0_of_G0 (lv := [.ref 56]) (by decide +kernel) (Nat.le_of_ble_eq_true rfl) rfl ?_
  refine mw_ok (M := mX12_bad) (fun _ => false) okTX12 rfl 20 _ _ _ _ ?_
  simp only [eX12_bad_0, eX12_bad_1, eX12_bad_2, eX12_bad_5, eX12_bad_6, eX12_bad_9, eX12_bad_10, eX12_bad_13, eX12_bad_16, eX12_bad_17, eX12_bad_20, eX12_bad_23, st_aload, st_goto, st_iconst, st_ic_eq, st_ic_ne, st_ic_lt, st_ic_ge, st_ic_gt, st_ic_le, st_ret, gf_56_1203, gf_56_1204, pf_56_1204, mm_cut, cond_false, cond_true, List.getElem?_cons_succ, List.getElem?_cons_zero, Int.reduceToNat, Nat.reduceMod, Nat.reduceDiv, Nat.reduceAdd, true_and, and_true, mm_set, mm_set2, mm_pop, List.length_cons, List.length_nil, Nat.reduceLeDiff, Int32.reduceOfInt, Int64.reduceOfInt, nar_b0, nar_b1, List.cons_append, List.nil_append, Option.toList_some, Option.toList_none, List.map_cons, List.map_nil, List.sum_cons, List.sum_nil, cat_i, cat_r, cat_l, Nat.zero_le, Int32.reduceOfNat, Int32.reduceAdd, Int32.reduceLT, Int32.reduceLE, forall_const, true_implies, false_implies, not_false_eq_true, not_true_eq_false, bi_eq0, bi_ne0, sl_0, sl_3, va_rf, Nat.reduceEqDiff, if_false, ite_false, ite_true, reduceIte, List.set_cons_zero, List.set_cons_succ, Nat.succ_eq_add_one, mup_c, mup_s, mw_zero, ne_eq, lit_10, lit_01, lit_m10, lit_m11, nar_bi, hM.2.1, hM.2.2.1]
  exact hQ _ hM.wr
theorem m_isDigit {c : Int32} (hQ : Q (some (.int (bi (dig c)))) h) : B0 (d + 1) mX12_isDigit [.int c] h Q := by
  refine b0_of_G0 (lv := [.int c]) (by decide +kernel) (Nat.le_of_ble_eq_true rfl) rfl ?_
  unfold dig at hQ
  refine mw_ok (M := mX12_isDigit) (fun _ => false) okTX12 rfl 20 _ _ _ _ ?_
  simp only [eX12_isDigit_0, eX12_isDigit_1, eX12_isDigit_3, eX12_isDigit_6, eX12_isDigit_7, eX12_isDigit_9, eX12_isDigit_12, eX12_isDigit_13, eX12_isDigit_16, eX12_isDigit_17, st_goto, st_iconst, st_ic_eq, st_ic_ne, st_ic_lt, st_ic_ge, st_ic_gt, st_ic_le, st_iload, st_iret, st_zret, st_bret, mm_cut, cond_false, cond_true, List.getElem?_cons_succ, List.getElem?_cons_zero, Int.reduceToNat, Nat.reduceMod, Nat.reduceDiv, Nat.reduceAdd, true_and, and_true, mm_set, mm_set2, mm_pop, List.length_cons, List.length_nil, Nat.reduceLeDiff, Int32.reduceOfInt, Int64.reduceOfInt, nar_b0, nar_b1, List.cons_append, List.nil_append, Option.toList_some, Option.toList_none, List.map_cons, List.map_nil, List.sum_cons, List.sum_nil, cat_i, cat_r, cat_l, Nat.zero_le, Int32.reduceOfNat, Int32.reduceAdd, Int32.reduceLT, Int32.reduceLE, forall_const, true_implies, false_implies, not_false_eq_true, not_true_eq_false, bi_eq0, bi_ne0, sl_0, sl_3, va_rf, Nat.reduceEqDiff, if_false, ite_false, ite_true, reduceIte, List.set_cons_zero, List.set_cons_succ, Nat.succ_eq_add_one, mup_c, mup_s, mw_zero, ne_eq, lit_10, lit_01, lit_m10, lit_m11, nar_bi]
  refine ⟨fun h1 => ?_, fun h1 => ⟨fun h2 => ?_, fun h2 => ?_⟩⟩
  · rw [bi0 (by simp only [Int32.le_iff_toInt_le, Int32.lt_iff_toInt_lt, ← Int32.toInt_inj, Int32.reduceToInt, ne_eq] at *; omega)] at hQ; exact hQ
  · rw [bi0 (by simp only [Int32.le_iff_toInt_le, Int32.lt_iff_toInt_lt, ← Int32.toInt_inj, Int32.reduceToInt, ne_eq] at *; omega)] at hQ; exact hQ
  · rw [bi1 (by simp only [Int32.le_iff_toInt_le, Int32.lt_iff_toInt_lt, ← Int32.toInt_inj, Int32.reduceToInt, ne_eq] at *; omega)] at hQ; exact hQ
theorem m_isSign {c : Int32} (hQ : Q (some (.int (bi (sgn c)))) h) : B0 (d + 1) mX12_isSign [.int c] h Q := by
  refine b0_of_G0 (lv := [.int c]) (by decide +kernel) (Nat.le_of_ble_eq_true rfl) rfl ?_
  refine mw_ok (M := mX12_isSign) (fun _ => false) okTX12 rfl 20 _ _ _ _ ?_
  simp only [eX12_isSign_0, eX12_isSign_1, eX12_isSign_3, eX12_isSign_6, eX12_isSign_7, eX12_isSign_9, eX12_isSign_12, eX12_isSign_13, eX12_isSign_15, eX12_isSign_18, eX12_isSign_19, eX12_isSign_22, eX12_isSign_23, st_goto, st_iconst, st_ic_eq, st_ic_ne, st_ic_lt, st_ic_ge, st_ic_gt, st_ic_le, st_iload, st_iret, st_zret, st_bret, mm_cut, cond_false, cond_true, List.getElem?_cons_succ, List.getElem?_cons_zero, Int.reduceToNat, Nat.reduceMod, Nat.reduceDiv, Nat.reduceAdd, true_and, and_true, mm_set, mm_set2, mm_pop, List.length_cons, List.length_nil, Nat.reduceLeDiff, Int32.reduceOfInt, Int64.reduceOfInt, nar_b0, nar_b1, List.cons_append, List.nil_append, Option.toList_some, Option.toList_none, List.map_cons, List.map_nil, List.sum_cons, List.sum_nil, cat_i, cat_r, cat_l, Nat.zero_le, Int32.reduceOfNat, Int32.reduceAdd, Int32.reduceLT, Int32.reduceLE, forall_const, true_implies, false_implies, not_false_eq_true, not_true_eq_false, bi_eq0, bi_ne0, sl_0, sl_3, va_rf, Nat.reduceEqDiff, if_false, ite_false, ite_true, reduceIte, List.set_cons_zero, List.set_cons_succ, Nat.succ_eq_add_one, mup_c, mup_s, mw_zero, ne_eq, lit_10, lit_01, lit_m10, lit_m11, nar_bi]
  refine ⟨fun h1 => ?_, fun h1 => ⟨fun h2 => ?_, fun h2 => ⟨fun h3 => ?_, fun h3 => ?_⟩⟩⟩
  · rw [bi1 (Or.inl h1)] at hQ; exact hQ
  · rw [bi1 (Or.inr (Or.inl h2))] at hQ; exact hQ
  · rw [bi0 (fun z => z.elim h1 (fun z => z.elim h2 h3))] at hQ; exact hQ
  · rw [bi1 (Or.inr (Or.inr h3))] at hQ; exact hQ
theorem m_letterOf {c : Int32} (hQ : Q (some (.int (letr c))) h) : B0 (d + 1) mX12_letterOf [.int c] h Q := by
  refine b0_of_G0 (lv := [.int c]) (by decide +kernel) (Nat.le_of_ble_eq_true rfl) rfl ?_
  unfold letr at hQ
  refine mw_ok (M := mX12_letterOf) (fun _ => false) okTX12 rfl 30 _ _ _ _ ?_
  simp only [eX12_letterOf_0, eX12_letterOf_1, eX12_letterOf_3, eX12_letterOf_6, eX12_letterOf_7, eX12_letterOf_10, eX12_letterOf_11, eX12_letterOf_13, eX12_letterOf_16, eX12_letterOf_17, eX12_letterOf_20, eX12_letterOf_21, eX12_letterOf_23, eX12_letterOf_26, eX12_letterOf_27, eX12_letterOf_30, eX12_letterOf_31, eX12_letterOf_33, eX12_letterOf_36, eX12_letterOf_37, eX12_letterOf_40, eX12_letterOf_41, eX12_letterOf_43, eX12_letterOf_46, eX12_letterOf_47, eX12_letterOf_50, eX12_letterOf_51, eX12_letterOf_53, eX12_letterOf_56, eX12_letterOf_57, eX12_letterOf_60, eX12_letterOf_61, st_goto, st_iconst, st_ic_eq, st_ic_ne, st_ic_lt, st_ic_ge, st_ic_gt, st_ic_le, st_iload, st_iret, st_zret, st_bret, mm_cut, cond_false, cond_true, List.getElem?_cons_succ, List.getElem?_cons_zero, Int.reduceToNat, Nat.reduceMod, Nat.reduceDiv, Nat.reduceAdd, true_and, and_true, mm_set, mm_set2, mm_pop, List.length_cons, List.length_nil, Nat.reduceLeDiff, Int32.reduceOfInt, Int64.reduceOfInt, nar_b0, nar_b1, List.cons_append, List.nil_append, Option.toList_some, Option.toList_none, List.map_cons, List.map_nil, List.sum_cons, List.sum_nil, cat_i, cat_r, cat_l, Nat.zero_le, Int32.reduceOfNat, Int32.reduceAdd, Int32.reduceLT, Int32.reduceLE, forall_const, true_implies, false_implies, not_false_eq_true, not_true_eq_false, bi_eq0, bi_ne0, sl_0, sl_3, va_rf, Nat.reduceEqDiff, if_false, ite_false, ite_true, reduceIte, List.set_cons_zero, List.set_cons_succ, Nat.succ_eq_add_one, mup_c, mup_s, mw_zero, ne_eq, lit_10, lit_01, lit_m10, lit_m11, nar_bi]
  refine ⟨fun h1 => ⟨fun h2 => ⟨fun h3 => ⟨fun h4 => ⟨fun h5 => ⟨fun h6 => ?_, fun h6 => ?_⟩, fun h5 => ?_⟩, fun h4 => ?_⟩, fun h3 => ?_⟩, fun h2 => ?_⟩, fun h1 => ?_⟩
  · rw [if_neg h1, if_neg h2, if_neg h3, if_neg h4, if_neg h5, if_neg h6] at hQ; exact hQ
  · rw [if_neg h1, if_neg h2, if_neg h3, if_neg h4, if_neg h5, if_pos h6] at hQ; exact hQ
  · rw [if_neg h1, if_neg h2, if_neg h3, if_neg h4, if_pos h5] at hQ; exact hQ
  · rw [if_neg h1, if_neg h2, if_neg h3, if_pos h4] at hQ; exact hQ
  · rw [if_neg h1, if_neg h2, if_pos h3] at hQ; exact hQ
  · rw [if_neg h1, if_pos h2] at hQ; exact hQ
  · rw [if_pos h1] at hQ; exact hQ
theorem m_put {c v : Int32} (r : MR μ0 n sz) (hM : MP μ0 μ n a w dp ts) (hk : ts.length < 520) (hQ : ∀ μ', MP μ0 μ' n a w dp (ts ++ [(c, v)]) → Q none (HP ε μ')) : B0 (d + 1) mX12_put [.ref 56, .int c, .int v] (HP ε μ) Q := by
  have hn := r.2.1
  refine b0_of_G0 (lv := [.ref 56, .int c, .int v]) (by decide +kernel) (Nat.le_of_ble_eq_true rfl) rfl ?_
  have e1 : nI 520 * nI n + nI ts.length = nI (520 * n + ts.length) := by rw [pk_mul, nI_add]
  refine mw_ok (M := mX12_put) (fun _ => false) okTX12 rfl 60 _ _ _ _ ?_
  simp only [eX12_put_0, eX12_put_1, eX12_put_4, eX12_put_7, eX12_put_8, eX12_put_11, eX12_put_12, eX12_put_13, eX12_put_16, eX12_put_17, eX12_put_20, eX12_put_21, eX12_put_22, eX12_put_23, eX12_put_24, eX12_put_25, eX12_put_28, eX12_put_31, eX12_put_32, eX12_put_35, eX12_put_36, eX12_put_37, eX12_put_40, eX12_put_41, eX12_put_44, eX12_put_45, eX12_put_46, eX12_put_47, eX12_put_48, eX12_put_49, eX12_put_52, eX12_put_53, eX12_put_56, eX12_put_57, eX12_put_58, eX12_put_59, eX12_put_60, eX12_put_61, st_aload, st_dup2, st_iadd, st_iconst, st_iload, st_imul, st_ret, gf_56_1206, gf_56_1207, gf_56_1208, gf_56_1214, ld_57, sv_57, ld_58, sv_58, ld_59, sv_59, ld_60, sv_60, ld_61, sv_61, ld_62, sv_62, ld_63, sv_63, ld_64, sv_64, ld_65, sv_65, ld_66, sv_66, ld_67, sv_67, ld_68, sv_68, ld_69, sv_69, ld_70, sv_70, ld_71, sv_71, ld_72, sv_72, ld_73, sv_73, ld_74, sv_74, ld_75, sv_75, ld_76, sv_76, ld_77, sv_77, ld_78, sv_78, ld_79, sv_79, ld_80, sv_80, ld_81, sv_81, ld_82, sv_82, ld_83, sv_83, ld_85, sv_85, mm_cut, cond_false, cond_true, List.getElem?_cons_succ, List.getElem?_cons_zero, Int.reduceToNat, Nat.reduceMod, Nat.reduceDiv, Nat.reduceAdd, true_and, and_true, mm_set, mm_set2, mm_pop, List.length_cons, List.length_nil, Nat.reduceLeDiff, Int32.reduceOfInt, Int64.reduceOfInt, nar_b0, nar_b1, List.cons_append, List.nil_append, Option.toList_some, Option.toList_none, List.map_cons, List.map_nil, List.sum_cons, List.sum_nil, cat_i, cat_r, cat_l, Nat.zero_le, Int32.reduceOfNat, Int32.reduceAdd, Int32.reduceLT, Int32.reduceLE, forall_const, true_implies, false_implies, not_false_eq_true, not_true_eq_false, bi_eq0, bi_ne0, sl_0, sl_3, va_rf, Nat.reduceEqDiff, if_false, ite_false, ite_true, reduceIte, List.set_cons_zero, List.set_cons_succ, Nat.succ_eq_add_one, mup_c, mup_s, mw_zero, ne_eq, lit_10, lit_01, lit_m10, lit_m11, nar_bi, hM.e14 r, hM.2.2.2.2.1, l520, vinT (a := n) rfl (show n < 5 by omega), clp (a := n) rfl (by omega), e1, vinT (a := 520 * n + ts.length) rfl (show 520 * n + ts.length < 2600 by omega), clp (a := 520 * n + ts.length) rfl (by omega)]
  have := hQ _ (hM.put (c := c) (v := v) hk)
  rw [nI_succ] at this
  exact this
theorem m_opens (hM : MP μ0 μ n a (-1) dp ts) (hdp : dp ≤ 6) (hQ : ∀ μ', MP μ0 μ' n (a + 1) (if dp = 6 then nI a else -1) (dp + 1) ts → Q none (HP ε μ')) : B0 (d + 2) mX12_opens [.ref 56] (HP ε μ) Q := by
  refine b0_of_G0 (lv := [.ref 56]) (by decide +kernel) (Nat.le_of_ble_eq_true rfl) rfl ?_
  have h6 : (nI dp = nI 6) = (dp = 6) := propext (nI_eq (by omega) (by omega))
  refine mw_ok (M := mX12_opens) (fun _ => false) okTX12 rfl 20 _ _ _ _ ?_
  simp only [eX12_opens_0, eX12_opens_1, eX12_opens_4, eX12_opens_6, eX12_opens_9, eX12_opens_10, eX12_opens_13, eX12_opens_14, eX12_opens_15, eX12_opens_18, eX12_opens_19, eX12_opens_20, eX12_opens_23, eX12_opens_24, eX12_opens_25, eX12_opens_28, eX12_opens_29, eX12_opens_30, eX12_opens_33, st_aload, st_dupi, st_dupr, st_iadd, st_iconst, st_ic_eq, st_ic_ne, st_ic_lt, st_ic_ge, st_ic_gt, st_ic_le, st_inv, st_ret, gf_56_1203, gf_56_1205, pf_56_1203, pf_56_1205, HP_56, tab_136, mm_cut, cond_false, cond_true, List.getElem?_cons_succ, List.getElem?_cons_zero, Int.reduceToNat, Nat.reduceMod, Nat.reduceDiv, Nat.reduceAdd, true_and, and_true, mm_set, mm_set2, mm_pop, List.length_cons, List.length_nil, Nat.reduceLeDiff, Int32.reduceOfInt, Int64.reduceOfInt, nar_b0, nar_b1, List.cons_append, List.nil_append, Option.toList_some, Option.toList_none, List.map_cons, List.map_nil, List.sum_cons, List.sum_nil, cat_i, cat_r, cat_l, Nat.zero_le, Int32.reduceOfNat, Int32.reduceAdd, Int32.reduceLT, Int32.reduceLE, forall_const, true_implies, false_implies, not_false_eq_true, not_true_eq_false, bi_eq0, bi_ne0, sl_0, sl_3, va_rf, Nat.reduceEqDiff, if_false, ite_false, ite_true, reduceIte, List.set_cons_zero, List.set_cons_succ, Nat.succ_eq_add_one, mup_c, mup_s, mw_zero, ne_eq, lit_10, lit_01, lit_m10, lit_m11, nar_bi, hM.2.2.2.1, l6, h6, hM.2.1]
  refine ⟨fun h1 => ?_, fun h1 => ?_⟩
  · rw [if_neg h1] at hQ
    exact hQ _ ((hM.sd (by rw [← nI_succ])).at (by rw [← nI_succ]))
  · rw [if_pos h1] at hQ
    refine m_bad hM ?_
    intro μ' hM'
    refine mw_ok (M := mX12_opens) (fun _ => false) okTX12 rfl 20 _ _ _ _ ?_
    simp only [eX12_opens_0, eX12_opens_1, eX12_opens_4, eX12_opens_6, eX12_opens_9, eX12_opens_10, eX12_opens_13, eX12_opens_14, eX12_opens_15, eX12_opens_18, eX12_opens_19, eX12_opens_20, eX12_opens_23, eX12_opens_24, eX12_opens_25, eX12_opens_28, eX12_opens_29, eX12_opens_30, eX12_opens_33, st_aload, st_dupi, st_dupr, st_iadd, st_iconst, st_ic_eq, st_ic_ne, st_ic_lt, st_ic_ge, st_ic_gt, st_ic_le, st_inv, st_ret, gf_56_1203, gf_56_1205, pf_56_1203, pf_56_1205, HP_56, tab_136, mm_cut, cond_false, cond_true, List.getElem?_cons_succ, List.getElem?_cons_zero, Int.reduceToNat, Nat.reduceMod, Nat.reduceDiv, Nat.reduceAdd, true_and, and_true, mm_set, mm_set2, mm_pop, List.length_cons, List.length_nil, Nat.reduceLeDiff, Int32.reduceOfInt, Int64.reduceOfInt, nar_b0, nar_b1, List.cons_append, List.nil_append, Option.toList_some, Option.toList_none, List.map_cons, List.map_nil, List.sum_cons, List.sum_nil, cat_i, cat_r, cat_l, Nat.zero_le, Int32.reduceOfNat, Int32.reduceAdd, Int32.reduceLT, Int32.reduceLE, forall_const, true_implies, false_implies, not_false_eq_true, not_true_eq_false, bi_eq0, bi_ne0, sl_0, sl_3, va_rf, Nat.reduceEqDiff, if_false, ite_false, ite_true, reduceIte, List.set_cons_zero, List.set_cons_succ, Nat.succ_eq_add_one, mup_c, mup_s, mw_zero, ne_eq, lit_10, lit_01, lit_m10, lit_m11, nar_bi, hM'.2.2.2.1, hM'.2.1]
    exact hQ _ ((hM'.sd (by rw [← nI_succ])).at (by rw [← nI_succ]))
theorem m_closes {c : Int32} (r : MR μ0 n sz) (hM : MP μ0 μ n a w (dp + 1) ts) (ha : a < 50000) (hQ : ∀ μ', (if w = -1 then (if chr (μ0 57) sz (sk (μ0 57) sz a) = c then MP μ0 μ' n (sk (μ0 57) sz a + 1) (-1) dp ts else MP μ0 μ' n (sk (μ0 57) sz a + 1) (nI (sk (μ0 57) sz a)) dp ts) else MP μ0 μ' n (a + 1) w dp ts) → Q none (HP ε μ')) : B0 (d + 3) mX12_closes [.ref 56, .int c] (HP ε μ) Q := by
  have fin : ∀ {μ : mm_mu} {a : Nat} {w : Int32}, MP μ0 μ n a w (dp + 1) ts → (∀ μ', MP μ0 μ' n (a + 1) w dp ts → Q none (HP ε μ')) → G0 (d + 2 + 1) mX12_closes Q 20 [.ref 56, .int c] [] (HP ε μ) := by
    intro μ a w hM hQ
    refine mw_ok (M := mX12_closes) (fun _ => false) okTX12 rfl 20 _ _ _ _ ?_
    simp only [eX12_closes_0, eX12_closes_1, eX12_closes_4, eX12_closes_5, eX12_closes_8, eX12_closes_9, eX12_closes_12, eX12_closes_13, eX12_closes_16, eX12_closes_17, eX12_closes_20, eX12_closes_21, eX12_closes_22, eX12_closes_25, eX12_closes_26, eX12_closes_27, eX12_closes_30, eX12_closes_31, eX12_closes_32, eX12_closes_35, eX12_closes_36, eX12_closes_37, eX12_closes_40, st_aload, st_dupi, st_dupr, st_iadd, st_iconst, st_ic_eq, st_ic_ne, st_ic_lt, st_ic_ge, st_ic_gt, st_ic_le, st_iload, st_inv, st_isub, st_ret, gf_56_1203, gf_56_1204, gf_56_1205, pf_56_1203, pf_56_1205, HP_56, tab_135, tab_136, mm_cut, cond_false, cond_true, List.getElem?_cons_succ, List.getElem?_cons_zero, Int.reduceToNat, Nat.reduceMod, Nat.reduceDiv, Nat.reduceAdd, true_and, and_true, mm_set, mm_set2, mm_pop, List.length_cons, List.length_nil, Nat.reduceLeDiff, Int32.reduceOfInt, Int64.reduceOfInt, nar_b0, nar_b1, List.cons_append, List.nil_append, Option.toList_some, Option.toList_none, List.map_cons, List.map_nil, List.sum_cons, List.sum_nil, cat_i, cat_r, cat_l, Nat.zero_le, Int32.reduceOfNat, Int32.reduceAdd, Int32.reduceLT, Int32.reduceLE, forall_const, true_implies, false_implies, not_false_eq_true, not_true_eq_false, bi_eq0, bi_ne0, sl_0, sl_3, va_rf, Nat.reduceEqDiff, if_false, ite_false, ite_true, reduceIte, List.set_cons_zero, List.set_cons_succ, Nat.succ_eq_add_one, mup_c, mup_s, mw_zero, ne_eq, lit_10, lit_01, lit_m10, lit_m11, nar_bi, hM.2.1, hM.2.2.2.1]
    exact hQ _ ((hM.at (by rw [← nI_succ])).sd (nI_pred _))
  refine b0_of_G0 (lv := [.ref 56, .int c]) (by decide +kernel) (Nat.le_of_ble_eq_true rfl) rfl ?_
  refine mw_ok (M := mX12_closes) (fun q => q == 20) okTX12 rfl 20 _ _ _ _ ?_
  simp only [eX12_closes_0, eX12_closes_1, eX12_closes_4, eX12_closes_5, eX12_closes_8, eX12_closes_9, eX12_closes_12, eX12_closes_13, eX12_closes_16, eX12_closes_17, eX12_closes_20, eX12_closes_21, eX12_closes_22, eX12_closes_25, eX12_closes_26, eX12_closes_27, eX12_closes_30, eX12_closes_31, eX12_closes_32, eX12_closes_35, eX12_closes_36, eX12_closes_37, eX12_closes_40, st_aload, st_dupi, st_dupr, st_iadd, st_iconst, st_ic_eq, st_ic_ne, st_ic_lt, st_ic_ge, st_ic_gt, st_ic_le, st_iload, st_inv, st_isub, st_ret, gf_56_1203, gf_56_1204, gf_56_1205, pf_56_1203, pf_56_1205, HP_56, tab_135, tab_136, mm_cut, cond_false, cond_true, List.getElem?_cons_succ, List.getElem?_cons_zero, Int.reduceToNat, Nat.reduceMod, Nat.reduceDiv, Nat.reduceAdd, true_and, and_true, mm_set, mm_set2, mm_pop, List.length_cons, List.length_nil, Nat.reduceLeDiff, Int32.reduceOfInt, Int64.reduceOfInt, nar_b0, nar_b1, List.cons_append, List.nil_append, Option.toList_some, Option.toList_none, List.map_cons, List.map_nil, List.sum_cons, List.sum_nil, cat_i, cat_r, cat_l, Nat.zero_le, Int32.reduceOfNat, Int32.reduceAdd, Int32.reduceLT, Int32.reduceLE, forall_const, true_implies, false_implies, not_false_eq_true, not_true_eq_false, bi_eq0, bi_ne0, sl_0, sl_3, va_rf, Nat.reduceEqDiff, if_false, ite_false, ite_true, reduceIte, List.set_cons_zero, List.set_cons_succ, Nat.succ_eq_add_one, mup_c, mup_s, mw_zero, ne_eq, lit_10, lit_01, lit_m10, lit_m11, nar_bi, hM.2.2.1, Nat.reduceBEq, Bool.or_false, Bool.false_or, Bool.or_true, Bool.true_or]
  refine ⟨fun h1 => ?_, fun h1 => ?_⟩
  · refine fin hM (fun μ' h => hQ μ' ?_)
    rw [if_neg h1]; exact h
  · refine m_lookB r hM ha ?_
    intro μ1 hM1
    refine mw_ok (M := mX12_closes) (fun q => q == 20) okTX12 rfl 20 _ _ _ _ ?_
    simp only [eX12_closes_0, eX12_closes_1, eX12_closes_4, eX12_closes_5, eX12_closes_8, eX12_closes_9, eX12_closes_12, eX12_closes_13, eX12_closes_16, eX12_closes_17, eX12_closes_20, eX12_closes_21, eX12_closes_22, eX12_closes_25, eX12_closes_26, eX12_closes_27, eX12_closes_30, eX12_closes_31, eX12_closes_32, eX12_closes_35, eX12_closes_36, eX12_closes_37, eX12_closes_40, st_aload, st_dupi, st_dupr, st_iadd, st_iconst, st_ic_eq, st_ic_ne, st_ic_lt, st_ic_ge, st_ic_gt, st_ic_le, st_iload, st_inv, st_isub, st_ret, gf_56_1203, gf_56_1204, gf_56_1205, pf_56_1203, pf_56_1205, HP_56, tab_135, tab_136, mm_cut, cond_false, cond_true, List.getElem?_cons_succ, List.getElem?_cons_zero, Int.reduceToNat, Nat.reduceMod, Nat.reduceDiv, Nat.reduceAdd, true_and, and_true, mm_set, mm_set2, mm_pop, List.length_cons, List.length_nil, Nat.reduceLeDiff, Int32.reduceOfInt, Int64.reduceOfInt, nar_b0, nar_b1, List.cons_append, List.nil_append, Option.toList_some, Option.toList_none, List.map_cons, List.map_nil, List.sum_cons, List.sum_nil, cat_i, cat_r, cat_l, Nat.zero_le, Int32.reduceOfNat, Int32.reduceAdd, Int32.reduceLT, Int32.reduceLE, forall_const, true_implies, false_implies, not_false_eq_true, not_true_eq_false, bi_eq0, bi_ne0, sl_0, sl_3, va_rf, Nat.reduceEqDiff, if_false, ite_false, ite_true, reduceIte, List.set_cons_zero, List.set_cons_succ, Nat.succ_eq_add_one, mup_c, mup_s, mw_zero, ne_eq, lit_10, lit_01, lit_m10, lit_m11, nar_bi, Nat.reduceBEq, Bool.or_false, Bool.false_or, Bool.or_true, Bool.true_or]
    refine ⟨fun h2 => ?_, fun h2 => ?_⟩
    · refine fin hM1 (fun μ' h => hQ μ' ?_)
      rw [if_pos h1, if_pos h2]
      rw [h1] at h
      exact h
    · rw [h1] at hM1
      refine m_bad hM1 ?_
      intro μ2 hM2
      refine fin hM2 (fun μ' h => hQ μ' ?_)
      rw [if_pos h1, if_neg h2]; exact h
end M26
