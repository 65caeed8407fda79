section M30
theorem PO.fail {μ0 μ' : mm_mu} {n sz dp a : Nat} {ts : List Tk} {p : Nat} (h : PO μ0 n sz dp a ts (.inl p) μ') : ∃ a' dp' ts', MP μ0 μ' n a' (nI p) dp' ts' ∧ a' + dp' ≤ sz + 8 ∧ dp ≤ dp' ∧ ts'.length + a ≤ a' + ts.length := h
theorem PO.good {μ0 μ' : mm_mu} {n sz dp a b : Nat} {ts us : List Tk} (h : PO μ0 n sz dp a ts (.inr (b, us)) μ') : MP μ0 μ' n b (-1) dp (ts ++ us) := h
set_option maxRecDepth 4000 in
theorem m_goOnOr {f : Nat} (hU : RdC mX12_unit (4 * f + 8) (fun tx sz => pUnit tx sz f) f) : RdC mX12_goOnOr (4 * f + 10) (fun tx sz a => pOrL tx sz (pTruth tx sz (pUnit tx sz f)) 240 a []) f := by
  intro d ε μ0 μ Q n a sz dp ts r hM hdp ha hts hQ
  have h240 := r.2.2.2
  rw [show d + (4 * f + 10) = d + 4 * f + 9 + 1 by omega]
  have key : ∀ (m b : Nat) (us : List Tk) (μ : mm_mu), sz ≤ b + m → a ≤ b → b ≤ sz → us.length ≤ b - a → (∀ μ', PO μ0 n sz dp a ts (pOrL (μ0 57) sz (pTruth (μ0 57) sz (pUnit (μ0 57) sz f)) m b us) μ' → Q none (HP ε μ')) → MP μ0 μ n b (-1) dp (ts ++ us) → G0 (d + 4 * f + 9 + 1) mX12_goOnOr Q 0 [.ref 56] [] (HP ε μ) := by
    intro m
    induction m with
    | zero =>
      intro b us μ hm h1 h2 h3 hQ hM
      have e1 : sk (μ0 57) sz b = b := sk_ge (by omega)
      have e2 : chr (μ0 57) sz b = -1 := chr_ge (by omega)
      refine mw_ok (M := mX12_goOnOr) (fun q => q == 0) okTX12 rfl 20 _ _ _ _ ?_
      simp only [eX12_goOnOr_0, eX12_goOnOr_1, eX12_goOnOr_4, eX12_goOnOr_5, eX12_goOnOr_8, eX12_goOnOr_9, eX12_goOnOr_12, eX12_goOnOr_14, eX12_goOnOr_17, eX12_goOnOr_18, eX12_goOnOr_19, eX12_goOnOr_22, eX12_goOnOr_23, eX12_goOnOr_24, eX12_goOnOr_27, eX12_goOnOr_28, eX12_goOnOr_31, eX12_goOnOr_32, eX12_goOnOr_35, eX12_goOnOr_36, eX12_goOnOr_38, eX12_goOnOr_39, eX12_goOnOr_42, eX12_goOnOr_45, st_aload, st_dupi, st_dupr, st_goto, st_iadd, st_iconst, st_ic_eq, st_ic_ne, st_ic_lt, st_ic_ge, st_ic_gt, st_ic_le, st_inv, st_ret, gf_56_1203, gf_56_1204, pf_56_1203, HP_56, tab_135, tab_138, tab_148, tab_149, mm_cut, cond_false, cond_true, List.getElem?_cons_succ, List.getElem?_cons_zero, Int.reduceToNat, Nat.reduceMod, Nat.reduceDiv, Nat.reduceAdd, true_and, and_true, mm_set, mm_set2, mm_pop, List.length_cons, List.length_nil, Nat.reduceLeDiff, Int32.reduceOfInt, Int64.reduceOfInt, nar_b0, nar_b1, List.cons_append, List.nil_append, Option.toList_some, Option.toList_none, List.map_cons, List.map_nil, List.sum_cons, List.sum_nil, cat_i, cat_r, cat_l, Nat.zero_le, Int32.reduceOfNat, Int32.reduceAdd, Int32.reduceLT, Int32.reduceLE, forall_const, true_implies, false_implies, not_false_eq_true, not_true_eq_false, bi_eq0, bi_ne0, sl_0, sl_3, va_rf, Nat.reduceEqDiff, if_false, ite_false, ite_true, reduceIte, List.set_cons_zero, List.set_cons_succ, Nat.succ_eq_add_one, mup_c, mup_s, mw_zero, ne_eq, lit_10, lit_01, lit_m10, lit_m11, nar_bi, hM.2.2.1, Nat.reduceBEq, Bool.or_false, Bool.false_or, Bool.or_true, Bool.true_or]
      refine m_lookB (d := d + 4 * f + 7) r hM (by omega) ?_
      intro μ1 hM1
      rw [e1] at hM1
      rw [e1, e2]
      refine mw_ok (M := mX12_goOnOr) (fun q => q == 0) okTX12 rfl 20 _ _ _ _ ?_
      simp (decide := true) only [eX12_goOnOr_0, eX12_goOnOr_1, eX12_goOnOr_4, eX12_goOnOr_5, eX12_goOnOr_8, eX12_goOnOr_9, eX12_goOnOr_12, eX12_goOnOr_14, eX12_goOnOr_17, eX12_goOnOr_18, eX12_goOnOr_19, eX12_goOnOr_22, eX12_goOnOr_23, eX12_goOnOr_24, eX12_goOnOr_27, eX12_goOnOr_28, eX12_goOnOr_31, eX12_goOnOr_32, eX12_goOnOr_35, eX12_goOnOr_36, eX12_goOnOr_38, eX12_goOnOr_39, eX12_goOnOr_42, eX12_goOnOr_45, st_aload, st_dupi, st_dupr, st_goto, st_iadd, st_iconst, st_ic_eq, st_ic_ne, st_ic_lt, st_ic_ge, st_ic_gt, st_ic_le, st_inv, st_ret, gf_56_1203, gf_56_1204, pf_56_1203, HP_56, tab_135, tab_138, tab_148, tab_149, mm_cut, cond_false, cond_true, List.getElem?_cons_succ, List.getElem?_cons_zero, Int.reduceToNat, Nat.reduceMod, Nat.reduceDiv, Nat.reduceAdd, true_and, and_true, mm_set, mm_set2, mm_pop, List.length_cons, List.length_nil, Nat.reduceLeDiff, Int32.reduceOfInt, Int64.reduceOfInt, nar_b0, nar_b1, List.cons_append, List.nil_append, Option.toList_some, Option.toList_none, List.map_cons, List.map_nil, List.sum_cons, List.sum_nil, cat_i, cat_r, cat_l, Nat.zero_le, Int32.reduceOfNat, Int32.reduceAdd, Int32.reduceLT, Int32.reduceLE, forall_const, true_implies, false_implies, not_false_eq_true, not_true_eq_false, bi_eq0, bi_ne0, sl_0, sl_3, va_rf, Nat.reduceEqDiff, if_false, ite_false, ite_true, reduceIte, List.set_cons_zero, List.set_cons_succ, Nat.succ_eq_add_one, mup_c, mup_s, mw_zero, ne_eq, lit_10, lit_01, lit_m10, lit_m11, nar_bi, Nat.reduceBEq, Bool.or_false, Bool.false_or, Bool.or_true, Bool.true_or]
      exact hQ _ hM1
    | succ m ih =>
      intro b us μ hm h1 h2 h3 hQ hM
      have hk := sk_sz (tx := μ0 57) h2
      have hk2 := sk_le (tx := μ0 57) (sz := sz) b
      rw [pOrL] at hQ
      refine mw_ok (M := mX12_goOnOr) (fun q => q == 0) okTX12 rfl 20 _ _ _ _ ?_
      simp only [eX12_goOnOr_0, eX12_goOnOr_1, eX12_goOnOr_4, eX12_goOnOr_5, eX12_goOnOr_8, eX12_goOnOr_9, eX12_goOnOr_12, eX12_goOnOr_14, eX12_goOnOr_17, eX12_goOnOr_18, eX12_goOnOr_19, eX12_goOnOr_22, eX12_goOnOr_23, eX12_goOnOr_24, eX12_goOnOr_27, eX12_goOnOr_28, eX12_goOnOr_31, eX12_goOnOr_32, eX12_goOnOr_35, eX12_goOnOr_36, eX12_goOnOr_38, eX12_goOnOr_39, eX12_goOnOr_42, eX12_goOnOr_45, st_aload, st_dupi, st_dupr, st_goto, st_iadd, st_iconst, st_ic_eq, st_ic_ne, st_ic_lt, st_ic_ge, st_ic_gt, st_ic_le, st_inv, st_ret, gf_56_1203, gf_56_1204, pf_56_1203, HP_56, tab_135, tab_138, tab_148, tab_149, mm_cut, cond_false, cond_true, List.getElem?_cons_succ, List.getElem?_cons_zero, Int.reduceToNat, Nat.reduceMod, Nat.reduceDiv, Nat.reduceAdd, true_and, and_true, mm_set, mm_set2, mm_pop, List.length_cons, List.length_nil, Nat.reduceLeDiff, Int32.reduceOfInt, Int64.reduceOfInt, nar_b0, nar_b1, List.cons_append, List.nil_append, Option.toList_some, Option.toList_none, List.map_cons, List.map_nil, List.sum_cons, List.sum_nil, cat_i, cat_r, cat_l, Nat.zero_le, Int32.reduceOfNat, Int32.reduceAdd, Int32.reduceLT, Int32.reduceLE, forall_const, true_implies, false_implies, not_false_eq_true, not_true_eq_false, bi_eq0, bi_ne0, sl_0, sl_3, va_rf, Nat.reduceEqDiff, if_false, ite_false, ite_true, reduceIte, List.set_cons_zero, List.set_cons_succ, Nat.succ_eq_add_one, mup_c, mup_s, mw_zero, ne_eq, lit_10, lit_01, lit_m10, lit_m11, nar_bi, hM.2.2.1, Nat.reduceBEq, Bool.or_false, Bool.false_or, Bool.or_true, Bool.true_or]
      refine m_lookB (d := d + 4 * f + 7) r hM (by omega) ?_
      intro μ1 hM1
      refine mw_ok (M := mX12_goOnOr) (fun q => q == 0) okTX12 rfl 20 _ _ _ _ ?_
      simp only [eX12_goOnOr_0, eX12_goOnOr_1, eX12_goOnOr_4, eX12_goOnOr_5, eX12_goOnOr_8, eX12_goOnOr_9, eX12_goOnOr_12, eX12_goOnOr_14, eX12_goOnOr_17, eX12_goOnOr_18, eX12_goOnOr_19, eX12_goOnOr_22, eX12_goOnOr_23, eX12_goOnOr_24, eX12_goOnOr_27, eX12_goOnOr_28, eX12_goOnOr_31, eX12_goOnOr_32, eX12_goOnOr_35, eX12_goOnOr_36, eX12_goOnOr_38, eX12_goOnOr_39, eX12_goOnOr_42, eX12_goOnOr_45, st_aload, st_dupi, st_dupr, st_goto, st_iadd, st_iconst, st_ic_eq, st_ic_ne, st_ic_lt, st_ic_ge, st_ic_gt, st_ic_le, st_inv, st_ret, gf_56_1203, gf_56_1204, pf_56_1203, HP_56, tab_135, tab_138, tab_148, tab_149, mm_cut, cond_false, cond_true, List.getElem?_cons_succ, List.getElem?_cons_zero, Int.reduceToNat, Nat.reduceMod, Nat.reduceDiv, Nat.reduceAdd, true_and, and_true, mm_set, mm_set2, mm_pop, List.length_cons, List.length_nil, Nat.reduceLeDiff, Int32.reduceOfInt, Int64.reduceOfInt, nar_b0, nar_b1, List.cons_append, List.nil_append, Option.toList_some, Option.toList_none, List.map_cons, List.map_nil, List.sum_cons, List.sum_nil, cat_i, cat_r, cat_l, Nat.zero_le, Int32.reduceOfNat, Int32.reduceAdd, Int32.reduceLT, Int32.reduceLE, forall_const, true_implies, false_implies, not_false_eq_true, not_true_eq_false, bi_eq0, bi_ne0, sl_0, sl_3, va_rf, Nat.reduceEqDiff, if_false, ite_false, ite_true, reduceIte, List.set_cons_zero, List.set_cons_succ, Nat.succ_eq_add_one, mup_c, mup_s, mw_zero, ne_eq, lit_10, lit_01, lit_m10, lit_m11, nar_bi, hM1.2.1, Nat.reduceBEq, Bool.or_false, Bool.false_or, Bool.or_true, Bool.true_or]
      refine ⟨fun hc => ?_, fun hc => ?_⟩
      · rw [if_neg hc] at hQ
        exact hQ _ hM1
      · rw [if_pos hc] at hQ
        have hlt : sk (μ0 57) sz b < sz := chr_lt (tx := μ0 57) (by rw [hc]; decide)
        have hM2 := hM1.at (b := sk (μ0 57) sz b + 1) (x := nI (sk (μ0 57) sz b) + 1) (by rw [← nI_succ])
        rw [show d + 4 * f + 9 = (d + 1) + (4 * f + 8) by omega]
        refine hU _ _ _ _ _ _ _ _ _ _ r hM2 hdp (by omega) (by simp only [List.length_append]; omega) ?_
        intro μ3 hp
        rw [show (d + 1) + (4 * f + 8) = d + 4 * f + 9 by omega]
        have hok := pUnit_ok (tx := μ0 57) (sz := sz) f (sk (μ0 57) sz b + 1) (by omega)
        dsimp only at hp
        refine mw_ok (M := mX12_goOnOr) (fun q => q == 0) okTX12 rfl 20 _ _ _ _ ?_
        simp only [eX12_goOnOr_0, eX12_goOnOr_1, eX12_goOnOr_4, eX12_goOnOr_5, eX12_goOnOr_8, eX12_goOnOr_9, eX12_goOnOr_12, eX12_goOnOr_14, eX12_goOnOr_17, eX12_goOnOr_18, eX12_goOnOr_19, eX12_goOnOr_22, eX12_goOnOr_23, eX12_goOnOr_24, eX12_goOnOr_27, eX12_goOnOr_28, eX12_goOnOr_31, eX12_goOnOr_32, eX12_goOnOr_35, eX12_goOnOr_36, eX12_goOnOr_38, eX12_goOnOr_39, eX12_goOnOr_42, eX12_goOnOr_45, st_aload, st_dupi, st_dupr, st_goto, st_iadd, st_iconst, st_ic_eq, st_ic_ne, st_ic_lt, st_ic_ge, st_ic_gt, st_ic_le, st_inv, st_ret, gf_56_1203, gf_56_1204, pf_56_1203, HP_56, tab_135, tab_138, tab_148, tab_149, mm_cut, cond_false, cond_true, List.getElem?_cons_succ, List.getElem?_cons_zero, Int.reduceToNat, Nat.reduceMod, Nat.reduceDiv, Nat.reduceAdd, true_and, and_true, mm_set, mm_set2, mm_pop, List.length_cons, List.length_nil, Nat.reduceLeDiff, Int32.reduceOfInt, Int64.reduceOfInt, nar_b0, nar_b1, List.cons_append, List.nil_append, Option.toList_some, Option.toList_none, List.map_cons, List.map_nil, List.sum_cons, List.sum_nil, cat_i, cat_r, cat_l, Nat.zero_le, Int32.reduceOfNat, Int32.reduceAdd, Int32.reduceLT, Int32.reduceLE, forall_const, true_implies, false_implies, not_false_eq_true, not_true_eq_false, bi_eq0, bi_ne0, sl_0, sl_3, va_rf, Nat.reduceEqDiff, if_false, ite_false, ite_true, reduceIte, List.set_cons_zero, List.set_cons_succ, Nat.succ_eq_add_one, mup_c, mup_s, mw_zero, ne_eq, lit_10, lit_01, lit_m10, lit_m11, nar_bi, Nat.reduceBEq, Bool.or_false, Bool.false_or, Bool.or_true, Bool.true_or]
        -- behind goOnAnd
        have fin : ∀ μ4, PO μ0 n sz dp (sk (μ0 57) sz b + 1) (ts ++ us) (pTruth (μ0 57) sz (pUnit (μ0 57) sz f) (sk (μ0 57) sz b + 1)) μ4 → B0 (d + 4 * f + 9) mX12_put [.ref 56, .int 11, .int 0] (HP ε μ4) (fun v h' => G0 (d + 4 * f + 9 + 1) mX12_goOnOr Q 42 [.ref 56] (v.toList ++ []) h') := by
          intro μ4 hp
          have hok := pTruth_ok (tx := μ0 57) (sz := sz) (A := pUnit (μ0 57) sz f) (pUnit_ok f) (a := sk (μ0 57) sz b + 1) (by omega)
          cases hT : pTruth (μ0 57) sz (pUnit (μ0 57) sz f) (sk (μ0 57) sz b + 1) with
          | inl p =>
            rw [hT] at hp hQ hok
            have hpl : p ≤ sz := hok
            obtain ⟨a', dp', ts', q1, q2, q3, q4⟩ := hp.fail
            refine m_put (d := d + 4 * f + 8) r q1 (by simp only [List.length_append] at q4; omega) ?_
            intro μ5 hM5
            refine mw_ok (M := mX12_goOnOr) (fun q => q == 0) okTX12 rfl 20 _ _ _ _ ?_
            simp only [eX12_goOnOr_0, eX12_goOnOr_1, eX12_goOnOr_4, eX12_goOnOr_5, eX12_goOnOr_8, eX12_goOnOr_9, eX12_goOnOr_12, eX12_goOnOr_14, eX12_goOnOr_17, eX12_goOnOr_18, eX12_goOnOr_19, eX12_goOnOr_22, eX12_goOnOr_23, eX12_goOnOr_24, eX12_goOnOr_27, eX12_goOnOr_28, eX12_goOnOr_31, eX12_goOnOr_32, eX12_goOnOr_35, eX12_goOnOr_36, eX12_goOnOr_38, eX12_goOnOr_39, eX12_goOnOr_42, eX12_goOnOr_45, st_aload, st_dupi, st_dupr, st_goto, st_iadd, st_iconst, st_ic_eq, st_ic_ne, st_ic_lt, st_ic_ge, st_ic_gt, st_ic_le, st_inv, st_ret, gf_56_1203, gf_56_1204, pf_56_1203, HP_56, tab_135, tab_138, tab_148, tab_149, mm_cut, cond_false, cond_true, List.getElem?_cons_succ, List.getElem?_cons_zero, Int.reduceToNat, Nat.reduceMod, Nat.reduceDiv, Nat.reduceAdd, true_and, and_true, mm_set, mm_set2, mm_pop, List.length_cons, List.length_nil, Nat.reduceLeDiff, Int32.reduceOfInt, Int64.reduceOfInt, nar_b0, nar_b1, List.cons_append, List.nil_append, Option.toList_some, Option.toList_none, List.map_cons, List.map_nil, List.sum_cons, List.sum_nil, cat_i, cat_r, cat_l, Nat.zero_le, Int32.reduceOfNat, Int32.reduceAdd, Int32.reduceLT, Int32.reduceLE, forall_const, true_implies, false_implies, not_false_eq_true, not_true_eq_false, bi_eq0, bi_ne0, sl_0, sl_3, va_rf, Nat.reduceEqDiff, if_false, ite_false, ite_true, reduceIte, List.set_cons_zero, List.set_cons_succ, Nat.succ_eq_add_one, mup_c, mup_s, mw_zero, ne_eq, lit_10, lit_01, lit_m10, lit_m11, nar_bi, Nat.reduceBEq, Bool.or_false, Bool.false_or, Bool.or_true, Bool.true_or]
            refine m_goOnOr_w hM5 (nI_nm (by omega)) (hQ _ ?_)
            exact ⟨_, _, _, hM5, q2, q3, by simp only [List.length_append, List.length_cons, List.length_nil] at q4 ⊢; omega⟩
          | inr q =>
            obtain ⟨b2, us2⟩ := q
            rw [hT] at hp hQ hok
            obtain ⟨g1, g2, g3⟩ := hok
            refine m_put (d := d + 4 * f + 8) r hp.good (by simp only [List.length_append]; omega) ?_
            intro μ5 hM5
            refine mw_ok (M := mX12_goOnOr) (fun q => q == 0) okTX12 rfl 20 _ _ _ _ ?_
            simp only [eX12_goOnOr_0, eX12_goOnOr_1, eX12_goOnOr_4, eX12_goOnOr_5, eX12_goOnOr_8, eX12_goOnOr_9, eX12_goOnOr_12, eX12_goOnOr_14, eX12_goOnOr_17, eX12_goOnOr_18, eX12_goOnOr_19, eX12_goOnOr_22, eX12_goOnOr_23, eX12_goOnOr_24, eX12_goOnOr_27, eX12_goOnOr_28, eX12_goOnOr_31, eX12_goOnOr_32, eX12_goOnOr_35, eX12_goOnOr_36, eX12_goOnOr_38, eX12_goOnOr_39, eX12_goOnOr_42, eX12_goOnOr_45, st_aload, st_dupi, st_dupr, st_goto, st_iadd, st_iconst, st_ic_eq, st_ic_ne, st_ic_lt, st_ic_ge, st_ic_gt, st_ic_le, st_inv, st_ret, gf_56_1203, gf_56_1204, pf_56_1203, HP_56, tab_135, tab_138, tab_148, tab_149, mm_cut, cond_false, cond_true, List.getElem?_cons_succ, List.getElem?_cons_zero, Int.reduceToNat, Nat.reduceMod, Nat.reduceDiv, Nat.reduceAdd, true_and, and_true, mm_set, mm_set2, mm_pop, List.length_cons, List.length_nil, Nat.reduceLeDiff, Int32.reduceOfInt, Int64.reduceOfInt, nar_b0, nar_b1, List.cons_append, List.nil_append, Option.toList_some, Option.toList_none, List.map_cons, List.map_nil, List.sum_cons, List.sum_nil, cat_i, cat_r, cat_l, Nat.zero_le, Int32.reduceOfNat, Int32.reduceAdd, Int32.reduceLT, Int32.reduceLE, forall_const, true_implies, false_implies, not_false_eq_true, not_true_eq_false, bi_eq0, bi_ne0, sl_0, sl_3, va_rf, Nat.reduceEqDiff, if_false, ite_false, ite_true, reduceIte, List.set_cons_zero, List.set_cons_succ, Nat.succ_eq_add_one, mup_c, mup_s, mw_zero, ne_eq, lit_10, lit_01, lit_m10, lit_m11, nar_bi, Nat.reduceBEq, Bool.or_false, Bool.false_or, Bool.or_true, Bool.true_or]
            refine ih b2 (us ++ us2 ++ [(11, 0)]) μ5 (by omega) (by omega) g2 (by simp only [List.length_append, List.length_cons, List.length_nil]; omega) hQ ?_
            rw [show ts ++ (us ++ us2 ++ [(11, 0)]) = ts ++ us ++ us2 ++ [((11 : Int32), (0 : Int32))] by simp]
            exact hM5
        unfold pTruth at fin
        cases hT : pUnit (μ0 57) sz f (sk (μ0 57) sz b + 1) with
        | inl p =>
          rw [hT] at hp fin hok
          have hpl : p ≤ sz := hok
          obtain ⟨a', dp', ts', q1, q2, q3, q4⟩ := hp.fail
          refine m_goOnAnd_wB (d := d + 4 * f + 8) q1 (nI_nm (by omega)) ?_
          refine mw_ok (M := mX12_goOnOr) (fun q => q == 0) okTX12 rfl 20 _ _ _ _ ?_
          simp only [eX12_goOnOr_0, eX12_goOnOr_1, eX12_goOnOr_4, eX12_goOnOr_5, eX12_goOnOr_8, eX12_goOnOr_9, eX12_goOnOr_12, eX12_goOnOr_14, eX12_goOnOr_17, eX12_goOnOr_18, eX12_goOnOr_19, eX12_goOnOr_22, eX12_goOnOr_23, eX12_goOnOr_24, eX12_goOnOr_27, eX12_goOnOr_28, eX12_goOnOr_31, eX12_goOnOr_32, eX12_goOnOr_35, eX12_goOnOr_36, eX12_goOnOr_38, eX12_goOnOr_39, eX12_goOnOr_42, eX12_goOnOr_45, st_aload, st_dupi, st_dupr, st_goto, st_iadd, st_iconst, st_ic_eq, st_ic_ne, st_ic_lt, st_ic_ge, st_ic_gt, st_ic_le, st_inv, st_ret, gf_56_1203, gf_56_1204, pf_56_1203, HP_56, tab_135, tab_138, tab_148, tab_149, mm_cut, cond_false, cond_true, List.getElem?_cons_succ, List.getElem?_cons_zero, Int.reduceToNat, Nat.reduceMod, Nat.reduceDiv, Nat.reduceAdd, true_and, and_true, mm_set, mm_set2, mm_pop, List.length_cons, List.length_nil, Nat.reduceLeDiff, Int32.reduceOfInt, Int64.reduceOfInt, nar_b0, nar_b1, List.cons_append, List.nil_append, Option.toList_some, Option.toList_none, List.map_cons, List.map_nil, List.sum_cons, List.sum_nil, cat_i, cat_r, cat_l, Nat.zero_le, Int32.reduceOfNat, Int32.reduceAdd, Int32.reduceLT, Int32.reduceLE, forall_const, true_implies, false_implies, not_false_eq_true, not_true_eq_false, bi_eq0, bi_ne0, sl_0, sl_3, va_rf, Nat.reduceEqDiff, if_false, ite_false, ite_true, reduceIte, List.set_cons_zero, List.set_cons_succ, Nat.succ_eq_add_one, mup_c, mup_s, mw_zero, ne_eq, lit_10, lit_01, lit_m10, lit_m11, nar_bi, Nat.reduceBEq, Bool.or_false, Bool.false_or, Bool.or_true, Bool.true_or]
          exact fin _ hp
        | inr q =>
          obtain ⟨b2, us2⟩ := q
          rw [hT] at hp fin hok
          obtain ⟨g1, g2, g3⟩ := hok
          rw [show d + 4 * f + 9 = d + (4 * f + 9) by omega]
          refine m_goOnAnd hU _ _ _ _ _ _ _ _ _ _ r hp.good hdp g2 (by simp only [List.length_append]; omega) ?_
          intro μ4 hp4
          rw [show d + (4 * f + 9) = d + 4 * f + 9 by omega]
          refine mw_ok (M := mX12_goOnOr) (fun q => q == 0) okTX12 rfl 20 _ _ _ _ ?_
          simp only [eX12_goOnOr_0, eX12_goOnOr_1, eX12_goOnOr_4, eX12_goOnOr_5, eX12_goOnOr_8, eX12_goOnOr_9, eX12_goOnOr_12, eX12_goOnOr_14, eX12_goOnOr_17, eX12_goOnOr_18, eX12_goOnOr_19, eX12_goOnOr_22, eX12_goOnOr_23, eX12_goOnOr_24, eX12_goOnOr_27, eX12_goOnOr_28, eX12_goOnOr_31, eX12_goOnOr_32, eX12_goOnOr_35, eX12_goOnOr_36, eX12_goOnOr_38, eX12_goOnOr_39, eX12_goOnOr_42, eX12_goOnOr_45, st_aload, st_dupi, st_dupr, st_goto, st_iadd, st_iconst, st_ic_eq, st_ic_ne, st_ic_lt, st_ic_ge, st_ic_gt, st_ic_le, st_inv, st_ret, gf_56_1203, gf_56_1204, pf_56_1203, HP_56, tab_135, tab_138, tab_148, tab_149, mm_cut, cond_false, cond_true, List.getElem?_cons_succ, List.getElem?_cons_zero, Int.reduceToNat, Nat.reduceMod, Nat.reduceDiv, Nat.reduceAdd, true_and, and_true, mm_set, mm_set2, mm_pop, List.length_cons, List.length_nil, Nat.reduceLeDiff, Int32.reduceOfInt, Int64.reduceOfInt, nar_b0, nar_b1, List.cons_append, List.nil_append, Option.toList_some, Option.toList_none, List.map_cons, List.map_nil, List.sum_cons, List.sum_nil, cat_i, cat_r, cat_l, Nat.zero_le, Int32.reduceOfNat, Int32.reduceAdd, Int32.reduceLT, Int32.reduceLE, forall_const, true_implies, false_implies, not_false_eq_true, not_true_eq_false, bi_eq0, bi_ne0, sl_0, sl_3, va_rf, Nat.reduceEqDiff, if_false, ite_false, ite_true, reduceIte, List.set_cons_zero, List.set_cons_succ, Nat.succ_eq_add_one, mup_c, mup_s, mw_zero, ne_eq, lit_10, lit_01, lit_m10, lit_m11, nar_bi, Nat.reduceBEq, Bool.or_false, Bool.false_or, Bool.or_true, Bool.true_or]
          refine fin _ ?_
          have := hp4.pre (a := sk (μ0 57) sz b + 1) (by omega)
          dsimp only at this ⊢
          rw [← pAndL_pre, List.append_nil] at this
          exact this
  refine b0_of_G0 (lv := [.ref 56]) (by decide +kernel) (Nat.le_of_ble_eq_true rfl) rfl ?_
  exact key 240 a [] μ (by omega) (Nat.le_refl _) ha (by simp) hQ (by rw [List.append_nil]; exact hM)
set_option maxRecDepth 4000 in
theorem m_condition {f : Nat} (hU : RdC mX12_unit (4 * f + 8) (fun tx sz => pUnit tx sz f) f) : RdC mX12_condition (4 * f + 11) (fun tx sz => pCond tx sz f) f := by
  intro d ε μ0 μ Q n a sz dp ts r hM hdp ha hts hQ
  have h240 := r.2.2.2
  rw [show d + (4 * f + 11) = d + 4 * f + 10 + 1 by omega]
  have hQ' : ∀ (μ' : mm_mu) (x : PR), pCondG (μ0 57) sz (pUnit (μ0 57) sz f) a = x → PO μ0 n sz dp a ts x μ' → Q none (HP ε μ') := fun μ' x hx hp => hQ μ' (by show PO μ0 n sz dp a ts (pCondG (μ0 57) sz (pUnit (μ0 57) sz f) a) μ'; rw [hx]; exact hp)
  unfold pCondG at hQ'
  have fin : ∀ μ1, PO μ0 n sz dp a ts (pTruth (μ0 57) sz (pUnit (μ0 57) sz f) a) μ1 → B0 (d + 4 * f + 10) mX12_goOnOr [.ref 56] (HP ε μ1) (fun v h' => G0 (d + 4 * f + 10 + 1) mX12_condition Q 12 [.ref 56] (v.toList ++ []) h') := by
    intro μ1 hp
    have hok := pTruth_ok (tx := μ0 57) (sz := sz) (A := pUnit (μ0 57) sz f) (pUnit_ok f) ha
    cases hT : pTruth (μ0 57) sz (pUnit (μ0 57) sz f) a with
    | inl p =>
      rw [hT] at hp hQ' hok
      have hpl : p ≤ sz := hok
      obtain ⟨a', dp', ts', q1, q2, q3, q4⟩ := hp.fail
      refine m_goOnOr_wB (d := d + 4 * f + 9) q1 (nI_nm (by omega)) ?_
      refine mw_ok (M := mX12_condition) (fun _ => false) okTX12 rfl 20 _ _ _ _ ?_
      simp only [eX12_condition_0, eX12_condition_1, eX12_condition_4, eX12_condition_5, eX12_condition_8, eX12_condition_9, eX12_condition_12, st_aload, st_inv, st_ret, HP_56, tab_148, tab_149, tab_150, mm_cut, cond_false, cond_true, List.getElem?_cons_succ, List.getElem?_cons_zero, Int.reduceToNat, Nat.reduceMod, Nat.reduceDiv, Nat.reduceAdd, true_and, and_true, mm_set, mm_set2, mm_pop, List.length_cons, List.length_nil, Nat.reduceLeDiff, Int32.reduceOfInt, Int64.reduceOfInt, nar_b0, nar_b1, List.cons_append, List.nil_append, Option.toList_some, Option.toList_none, List.map_cons, List.map_nil, List.sum_cons, List.sum_nil, cat_i, cat_r, cat_l, Nat.zero_le, Int32.reduceOfNat, Int32.reduceAdd, Int32.reduceLT, Int32.reduceLE, forall_const, true_implies, false_implies, not_false_eq_true, not_true_eq_false, bi_eq0, bi_ne0, sl_0, sl_3, va_rf, Nat.reduceEqDiff, if_false, ite_false, ite_true, reduceIte, List.set_cons_zero, List.set_cons_succ, Nat.succ_eq_add_one, mup_c, mup_s, mw_zero, ne_eq, lit_10, lit_01, lit_m10, lit_m11, nar_bi]
      exact hQ' _ _ rfl hp
    | inr q =>
      obtain ⟨b2, us2⟩ := q
      rw [hT] at hp hQ' hok
      obtain ⟨g1, g2, g3⟩ := hok
      rw [show d + 4 * f + 10 = d + (4 * f + 10) by omega]
      refine m_goOnOr hU _ _ _ _ _ _ _ _ _ _ r hp.good hdp g2 (by simp only [List.length_append]; omega) ?_
      intro μ4 hp4
      rw [show d + (4 * f + 10) = d + 4 * f + 10 by omega]
      refine mw_ok (M := mX12_condition) (fun _ => false) okTX12 rfl 20 _ _ _ _ ?_
      simp only [eX12_condition_0, eX12_condition_1, eX12_condition_4, eX12_condition_5, eX12_condition_8, eX12_condition_9, eX12_condition_12, st_aload, st_inv, st_ret, HP_56, tab_148, tab_149, tab_150, mm_cut, cond_false, cond_true, List.getElem?_cons_succ, List.getElem?_cons_zero, Int.reduceToNat, Nat.reduceMod, Nat.reduceDiv, Nat.reduceAdd, true_and, and_true, mm_set, mm_set2, mm_pop, List.length_cons, List.length_nil, Nat.reduceLeDiff, Int32.reduceOfInt, Int64.reduceOfInt, nar_b0, nar_b1, List.cons_append, List.nil_append, Option.toList_some, Option.toList_none, List.map_cons, List.map_nil, List.sum_cons, List.sum_nil, cat_i, cat_r, cat_l, Nat.zero_le, Int32.reduceOfNat, Int32.reduceAdd, Int32.reduceLT, Int32.reduceLE, forall_const, true_implies, false_implies, not_false_eq_true, not_true_eq_false, bi_eq0, bi_ne0, sl_0, sl_3, va_rf, Nat.reduceEqDiff, if_false, ite_false, ite_true, reduceIte, List.set_cons_zero, List.set_cons_succ, Nat.succ_eq_add_one, mup_c, mup_s, mw_zero, ne_eq, lit_10, lit_01, lit_m10, lit_m11, nar_bi]
      have := hp4.pre (a := a) (by omega)
      dsimp only at this
      rw [← pOrL_pre, List.append_nil] at this
      exact hQ' _ _ rfl this
  refine b0_of_G0 (lv := [.ref 56]) (by decide +kernel) (Nat.le_of_ble_eq_true rfl) rfl ?_
  refine mw_ok (M := mX12_condition) (fun _ => false) okTX12 rfl 20 _ _ _ _ ?_
  simp only [eX12_condition_0, eX12_condition_1, eX12_condition_4, eX12_condition_5, eX12_condition_8, eX12_condition_9, eX12_condition_12, st_aload, st_inv, st_ret, HP_56, tab_148, tab_149, tab_150, mm_cut, cond_false, cond_true, List.getElem?_cons_succ, List.getElem?_cons_zero, Int.reduceToNat, Nat.reduceMod, Nat.reduceDiv, Nat.reduceAdd, true_and, and_true, mm_set, mm_set2, mm_pop, List.length_cons, List.length_nil, Nat.reduceLeDiff, Int32.reduceOfInt, Int64.reduceOfInt, nar_b0, nar_b1, List.cons_append, List.nil_append, Option.toList_some, Option.toList_none, List.map_cons, List.map_nil, List.sum_cons, List.sum_nil, cat_i, cat_r, cat_l, Nat.zero_le, Int32.reduceOfNat, Int32.reduceAdd, Int32.reduceLT, Int32.reduceLE, forall_const, true_implies, false_implies, not_false_eq_true, not_true_eq_false, bi_eq0, bi_ne0, sl_0, sl_3, va_rf, Nat.reduceEqDiff, if_false, ite_false, ite_true, reduceIte, List.set_cons_zero, List.set_cons_succ, Nat.succ_eq_add_one, mup_c, mup_s, mw_zero, ne_eq, lit_10, lit_01, lit_m10, lit_m11, nar_bi]
  rw [show d + 4 * f + 10 = (d + 2) + (4 * f + 8) by omega]
  refine hU _ _ _ _ _ _ _ _ _ _ r hM hdp ha hts ?_
  intro μ1 hp
  rw [show (d + 2) + (4 * f + 8) = d + 4 * f + 10 by omega]
  refine mw_ok (M := mX12_condition) (fun _ => false) okTX12 rfl 20 _ _ _ _ ?_
  simp only [eX12_condition_0, eX12_condition_1, eX12_condition_4, eX12_condition_5, eX12_condition_8, eX12_condition_9, eX12_condition_12, st_aload, st_inv, st_ret, HP_56, tab_148, tab_149, tab_150, mm_cut, cond_false, cond_true, List.getElem?_cons_succ, List.getElem?_cons_zero, Int.reduceToNat, Nat.reduceMod, Nat.reduceDiv, Nat.reduceAdd, true_and, and_true, mm_set, mm_set2, mm_pop, List.length_cons, List.length_nil, Nat.reduceLeDiff, Int32.reduceOfInt, Int64.reduceOfInt, nar_b0, nar_b1, List.cons_append, List.nil_append, Option.toList_some, Option.toList_none, List.map_cons, List.map_nil, List.sum_cons, List.sum_nil, cat_i, cat_r, cat_l, Nat.zero_le, Int32.reduceOfNat, Int32.reduceAdd, Int32.reduceLT, Int32.reduceLE, forall_const, true_implies, false_implies, not_false_eq_true, not_true_eq_false, bi_eq0, bi_ne0, sl_0, sl_3, va_rf, Nat.reduceEqDiff, if_false, ite_false, ite_true, reduceIte, List.set_cons_zero, List.set_cons_succ, Nat.succ_eq_add_one, mup_c, mup_s, mw_zero, ne_eq, lit_10, lit_01, lit_m10, lit_m11, nar_bi]
  have hok := pUnit_ok (tx := μ0 57) (sz := sz) f a ha
  unfold pTruth at fin
  dsimp only at hp
  cases hT : pUnit (μ0 57) sz f a with
  | inl p =>
    rw [hT] at hp fin hok
    have hpl : p ≤ sz := hok
    obtain ⟨a', dp', ts', q1, q2, q3, q4⟩ := hp.fail
    refine m_goOnAnd_wB (d := d + 4 * f + 9) q1 (nI_nm (by omega)) ?_
    refine mw_ok (M := mX12_condition) (fun _ => false) okTX12 rfl 20 _ _ _ _ ?_
    simp only [eX12_condition_0, eX12_condition_1, eX12_condition_4, eX12_condition_5, eX12_condition_8, eX12_condition_9, eX12_condition_12, st_aload, st_inv, st_ret, HP_56, tab_148, tab_149, tab_150, mm_cut, cond_false, cond_true, List.getElem?_cons_succ, List.getElem?_cons_zero, Int.reduceToNat, Nat.reduceMod, Nat.reduceDiv, Nat.reduceAdd, true_and, and_true, mm_set, mm_set2, mm_pop, List.length_cons, List.length_nil, Nat.reduceLeDiff, Int32.reduceOfInt, Int64.reduceOfInt, nar_b0, nar_b1, List.cons_append, List.nil_append, Option.toList_some, Option.toList_none, List.map_cons, List.map_nil, List.sum_cons, List.sum_nil, cat_i, cat_r, cat_l, Nat.zero_le, Int32.reduceOfNat, Int32.reduceAdd, Int32.reduceLT, Int32.reduceLE, forall_const, true_implies, false_implies, not_false_eq_true, not_true_eq_false, bi_eq0, bi_ne0, sl_0, sl_3, va_rf, Nat.reduceEqDiff, if_false, ite_false, ite_true, reduceIte, List.set_cons_zero, List.set_cons_succ, Nat.succ_eq_add_one, mup_c, mup_s, mw_zero, ne_eq, lit_10, lit_01, lit_m10, lit_m11, nar_bi]
    exact fin _ hp
  | inr q =>
    obtain ⟨b2, us2⟩ := q
    rw [hT] at hp fin hok
    obtain ⟨g1, g2, g3⟩ := hok
    rw [show d + 4 * f + 10 = (d + 1) + (4 * f + 9) by omega]
    refine m_goOnAnd hU _ _ _ _ _ _ _ _ _ _ r hp.good hdp g2 (by simp only [List.length_append]; omega) ?_
    intro μ4 hp4
    rw [show (d + 1) + (4 * f + 9) = d + 4 * f + 10 by omega]
    refine mw_ok (M := mX12_condition) (fun _ => false) okTX12 rfl 20 _ _ _ _ ?_
    simp only [eX12_condition_0, eX12_condition_1, eX12_condition_4, eX12_condition_5, eX12_condition_8, eX12_condition_9, eX12_condition_12, st_aload, st_inv, st_ret, HP_56, tab_148, tab_149, tab_150, mm_cut, cond_false, cond_true, List.getElem?_cons_succ, List.getElem?_cons_zero, Int.reduceToNat, Nat.reduceMod, Nat.reduceDiv, Nat.reduceAdd, true_and, and_true, mm_set, mm_set2, mm_pop, List.length_cons, List.length_nil, Nat.reduceLeDiff, Int32.reduceOfInt, Int64.reduceOfInt, nar_b0, nar_b1, List.cons_append, List.nil_append, Option.toList_some, Option.toList_none, List.map_cons, List.map_nil, List.sum_cons, List.sum_nil, cat_i, cat_r, cat_l, Nat.zero_le, Int32.reduceOfNat, Int32.reduceAdd, Int32.reduceLT, Int32.reduceLE, forall_const, true_implies, false_implies, not_false_eq_true, not_true_eq_false, bi_eq0, bi_ne0, sl_0, sl_3, va_rf, Nat.reduceEqDiff, if_false, ite_false, ite_true, reduceIte, List.set_cons_zero, List.set_cons_succ, Nat.succ_eq_add_one, mup_c, mup_s, mw_zero, ne_eq, lit_10, lit_01, lit_m10, lit_m11, nar_bi]
    refine fin _ ?_
    have := hp4.pre (a := a) (by omega)
    dsimp only at this ⊢
    rw [← pAndL_pre, List.append_nil] at this
    exact this
def subU (tx : Nat → Int32) (sz : Nat) : Nat → Option ((Nat → PR) × (Nat → PR))
  | 0 => none
  | g + 1 => some (pUnit tx sz g, pCondG tx sz (pUnit tx sz g))
theorem pUnit_is (tx : Nat → Int32) (sz f a : Nat) : pUnit tx sz f a = pUnitG tx sz (subU tx sz f) (pSum tx sz f) a := by cases f <;> rfl
set_option maxRecDepth 4000 in
theorem m_unit {f : Nat} (hU : ∀ g, f = g + 1 → RdC mX12_unit (4 * g + 8) (fun tx sz => pUnit tx sz g) g) : RdC mX12_unit (4 * f + 8) (fun tx sz => pUnit tx sz f) f := by
  intro d ε μ0 μ Q n a sz dp ts r hM hdp ha hts hQ
  have h240 := r.2.2.2
  have hk := sk_sz (tx := μ0 57) ha
  have hk2 := sk_le (tx := μ0 57) (sz := sz) a
  rw [show d + (4 * f + 8) = d + 4 * f + 7 + 1 by omega]
  have hQ' : ∀ (μ' : mm_mu) (x : PR), pUnit (μ0 57) sz f a = x → PO μ0 n sz dp a ts x μ' → Q none (HP ε μ') := fun μ' x hx hp => hQ μ' (by show PO μ0 n sz dp a ts (pUnit (μ0 57) sz f a) μ'; rw [hx]; exact hp)
  rw [pUnit_is] at hQ'
  unfold pUnitG at hQ'
  refine b0_of_G0 (lv := [.ref 56, .null]) (by decide +kernel) (Nat.le_of_ble_eq_true rfl) rfl ?_
  refine mw_ok (M := mX12_unit) (fun _ => false) okTX12 rfl 20 _ _ _ _ ?_
  simp only [eX12_unit_0, eX12_unit_1, eX12_unit_4, eX12_unit_5, eX12_unit_6, eX12_unit_8, eX12_unit_11, eX12_unit_12, eX12_unit_15, eX12_unit_16, eX12_unit_19, eX12_unit_20, eX12_unit_23, eX12_unit_24, eX12_unit_27, eX12_unit_28, eX12_unit_30, eX12_unit_31, eX12_unit_34, eX12_unit_35, eX12_unit_36, eX12_unit_39, eX12_unit_40, eX12_unit_41, eX12_unit_44, eX12_unit_47, eX12_unit_48, eX12_unit_50, eX12_unit_53, eX12_unit_54, eX12_unit_57, eX12_unit_58, eX12_unit_61, eX12_unit_62, eX12_unit_65, eX12_unit_66, eX12_unit_69, eX12_unit_70, eX12_unit_72, eX12_unit_75, eX12_unit_78, eX12_unit_79, eX12_unit_82, eX12_unit_83, eX12_unit_86, eX12_unit_87, eX12_unit_90, eX12_unit_91, eX12_unit_94, st_aload, st_dupi, st_dupr, st_goto, st_iconst, st_ic_eq, st_ic_ne, st_ic_lt, st_ic_ge, st_ic_gt, st_ic_le, st_iload, st_inv, st_istore, st_isub, st_ret, gf_56_1204, gf_56_1205, pf_56_1205, HP_56, tab_135, tab_138, tab_140, tab_141, tab_145, tab_147, tab_148, tab_151, mm_cut, cond_false, cond_true, List.getElem?_cons_succ, List.getElem?_cons_zero, Int.reduceToNat, Nat.reduceMod, Nat.reduceDiv, Nat.reduceAdd, true_and, and_true, mm_set, mm_set2, mm_pop, List.length_cons, List.length_nil, Nat.reduceLeDiff, Int32.reduceOfInt, Int64.reduceOfInt, nar_b0, nar_b1, List.cons_append, List.nil_append, Option.toList_some, Option.toList_none, List.map_cons, List.map_nil, List.sum_cons, List.sum_nil, cat_i, cat_r, cat_l, Nat.zero_le, Int32.reduceOfNat, Int32.reduceAdd, Int32.reduceLT, Int32.reduceLE, forall_const, true_implies, false_implies, not_false_eq_true, not_true_eq_false, bi_eq0, bi_ne0, sl_0, sl_3, va_rf, Nat.reduceEqDiff, if_false, ite_false, ite_true, reduceIte, List.set_cons_zero, List.set_cons_succ, Nat.succ_eq_add_one, mup_c, mup_s, mw_zero, ne_eq, lit_10, lit_01, lit_m10, lit_m11, nar_bi]
  refine m_lookB (d := d + 4 * f + 5) r hM (by omega) ?_
  intro μ1 hM1
  generalize hc : chr (μ0 57) sz (sk (μ0 57) sz a) = c
  rw [hc] at hQ'
  refine mw_ok (M := mX12_unit) (fun _ => false) okTX12 rfl 20 _ _ _ _ ?_
  simp only [eX12_unit_0, eX12_unit_1, eX12_unit_4, eX12_unit_5, eX12_unit_6, eX12_unit_8, eX12_unit_11, eX12_unit_12, eX12_unit_15, eX12_unit_16, eX12_unit_19, eX12_unit_20, eX12_unit_23, eX12_unit_24, eX12_unit_27, eX12_unit_28, eX12_unit_30, eX12_unit_31, eX12_unit_34, eX12_unit_35, eX12_unit_36, eX12_unit_39, eX12_unit_40, eX12_unit_41, eX12_unit_44, eX12_unit_47, eX12_unit_48, eX12_unit_50, eX12_unit_53, eX12_unit_54, eX12_unit_57, eX12_unit_58, eX12_unit_61, eX12_unit_62, eX12_unit_65, eX12_unit_66, eX12_unit_69, eX12_unit_70, eX12_unit_72, eX12_unit_75, eX12_unit_78, eX12_unit_79, eX12_unit_82, eX12_unit_83, eX12_unit_86, eX12_unit_87, eX12_unit_90, eX12_unit_91, eX12_unit_94, st_aload, st_dupi, st_dupr, st_goto, st_iconst, st_ic_eq, st_ic_ne, st_ic_lt, st_ic_ge, st_ic_gt, st_ic_le, st_iload, st_inv, st_istore, st_isub, st_ret, gf_56_1204, gf_56_1205, pf_56_1205, HP_56, tab_135, tab_138, tab_140, tab_141, tab_145, tab_147, tab_148, tab_151, mm_cut, cond_false, cond_true, List.getElem?_cons_succ, List.getElem?_cons_zero, Int.reduceToNat, Nat.reduceMod, Nat.reduceDiv, Nat.reduceAdd, true_and, and_true, mm_set, mm_set2, mm_pop, List.length_cons, List.length_nil, Nat.reduceLeDiff, Int32.reduceOfInt, Int64.reduceOfInt, nar_b0, nar_b1, List.cons_append, List.nil_append, Option.toList_some, Option.toList_none, List.map_cons, List.map_nil, List.sum_cons, List.sum_nil, cat_i, cat_r, cat_l, Nat.zero_le, Int32.reduceOfNat, Int32.reduceAdd, Int32.reduceLT, Int32.reduceLE, forall_const, true_implies, false_implies, not_false_eq_true, not_true_eq_false, bi_eq0, bi_ne0, sl_0, sl_3, va_rf, Nat.reduceEqDiff, if_false, ite_false, ite_true, reduceIte, List.set_cons_zero, List.set_cons_succ, Nat.succ_eq_add_one, mup_c, mup_s, mw_zero, ne_eq, lit_10, lit_01, lit_m10, lit_m11, nar_bi]
  refine ⟨fun h1 => ⟨fun h2 => ?_, fun h2 => ?_⟩, fun h1 => ?_⟩
  · rw [if_neg h1, if_neg h2] at hQ'
    rw [show d + 4 * f + 7 = (d + f + 1) + (3 * f + 6) by omega]
    refine m_sumF f _ _ _ _ _ _ _ _ _ _ r hM1 hdp hk (by omega) ?_
    intro μ2 hp
    rw [show (d + f + 1) + (3 * f + 6) = d + 4 * f + 7 by omega]
    have hok := pSum_ok (tx := μ0 57) (sz := sz) f (sk (μ0 57) sz a) hk
    dsimp only at hp
    cases hT : pSum (μ0 57) sz f (sk (μ0 57) sz a) with
    | inl p =>
      rw [hT] at hp hQ' hok
      have hpl : p ≤ sz := hok
      obtain ⟨a', dp', ts', q1, q2, q3, q4⟩ := hp.fail
      refine mw_ok (M := mX12_unit) (fun _ => false) okTX12 rfl 20 _ _ _ _ ?_
      simp only [eX12_unit_0, eX12_unit_1, eX12_unit_4, eX12_unit_5, eX12_unit_6, eX12_unit_8, eX12_unit_11, eX12_unit_12, eX12_unit_15, eX12_unit_16, eX12_unit_19, eX12_unit_20, eX12_unit_23, eX12_unit_24, eX12_unit_27, eX12_unit_28, eX12_unit_30, eX12_unit_31, eX12_unit_34, eX12_unit_35, eX12_unit_36, eX12_unit_39, eX12_unit_40, eX12_unit_41, eX12_unit_44, eX12_unit_47, eX12_unit_48, eX12_unit_50, eX12_unit_53, eX12_unit_54, eX12_unit_57, eX12_unit_58, eX12_unit_61, eX12_unit_62, eX12_unit_65, eX12_unit_66, eX12_unit_69, eX12_unit_70, eX12_unit_72, eX12_unit_75, eX12_unit_78, eX12_unit_79, eX12_unit_82, eX12_unit_83, eX12_unit_86, eX12_unit_87, eX12_unit_90, eX12_unit_91, eX12_unit_94, st_aload, st_dupi, st_dupr, st_goto, st_iconst, st_ic_eq, st_ic_ne, st_ic_lt, st_ic_ge, st_ic_gt, st_ic_le, st_iload, st_inv, st_istore, st_isub, st_ret, gf_56_1204, gf_56_1205, pf_56_1205, HP_56, tab_135, tab_138, tab_140, tab_141, tab_145, tab_147, tab_148, tab_151, mm_cut, cond_false, cond_true, List.getElem?_cons_succ, List.getElem?_cons_zero, Int.reduceToNat, Nat.reduceMod, Nat.reduceDiv, Nat.reduceAdd, true_and, and_true, mm_set, mm_set2, mm_pop, List.length_cons, List.length_nil, Nat.reduceLeDiff, Int32.reduceOfInt, Int64.reduceOfInt, nar_b0, nar_b1, List.cons_append, List.nil_append, Option.toList_some, Option.toList_none, List.map_cons, List.map_nil, List.sum_cons, List.sum_nil, cat_i, cat_r, cat_l, Nat.zero_le, Int32.reduceOfNat, Int32.reduceAdd, Int32.reduceLT, Int32.reduceLE, forall_const, true_implies, false_implies, not_false_eq_true, not_true_eq_false, bi_eq0, bi_ne0, sl_0, sl_3, va_rf, Nat.reduceEqDiff, if_false, ite_false, ite_true, reduceIte, List.set_cons_zero, List.set_cons_succ, Nat.succ_eq_add_one, mup_c, mup_s, mw_zero, ne_eq, lit_10, lit_01, lit_m10, lit_m11, nar_bi, q1.2.2.1, eq_false (nI_nm (p := p) (by omega))]
      exact hQ' _ _ rfl ⟨_, _, _, q1, q2, q3, by omega⟩
    | inr q =>
      obtain ⟨b2, us2⟩ := q
      rw [hT] at hp hQ' hok
      obtain ⟨g1, g2, g3⟩ := hok
      have hpg := hp.good
      refine mw_ok (M := mX12_unit) (fun _ => false) okTX12 rfl 20 _ _ _ _ ?_
      simp only [eX12_unit_0, eX12_unit_1, eX12_unit_4, eX12_unit_5, eX12_unit_6, eX12_unit_8, eX12_unit_11, eX12_unit_12, eX12_unit_15, eX12_unit_16, eX12_unit_19, eX12_unit_20, eX12_unit_23, eX12_unit_24, eX12_unit_27, eX12_unit_28, eX12_unit_30, eX12_unit_31, eX12_unit_34, eX12_unit_35, eX12_unit_36, eX12_unit_39, eX12_unit_40, eX12_unit_41, eX12_unit_44, eX12_unit_47, eX12_unit_48, eX12_unit_50, eX12_unit_53, eX12_unit_54, eX12_unit_57, eX12_unit_58, eX12_unit_61, eX12_unit_62, eX12_unit_65, eX12_unit_66, eX12_unit_69, eX12_unit_70, eX12_unit_72, eX12_unit_75, eX12_unit_78, eX12_unit_79, eX12_unit_82, eX12_unit_83, eX12_unit_86, eX12_unit_87, eX12_unit_90, eX12_unit_91, eX12_unit_94, st_aload, st_dupi, st_dupr, st_goto, st_iconst, st_ic_eq, st_ic_ne, st_ic_lt, st_ic_ge, st_ic_gt, st_ic_le, st_iload, st_inv, st_istore, st_isub, st_ret, gf_56_1204, gf_56_1205, pf_56_1205, HP_56, tab_135, tab_138, tab_140, tab_141, tab_145, tab_147, tab_148, tab_151, mm_cut, cond_false, cond_true, List.getElem?_cons_succ, List.getElem?_cons_zero, Int.reduceToNat, Nat.reduceMod, Nat.reduceDiv, Nat.reduceAdd, true_and, and_true, mm_set, mm_set2, mm_pop, List.length_cons, List.length_nil, Nat.reduceLeDiff, Int32.reduceOfInt, Int64.reduceOfInt, nar_b0, nar_b1, List.cons_append, List.nil_append, Option.toList_some, Option.toList_none, List.map_cons, List.map_nil, List.sum_cons, List.sum_nil, cat_i, cat_r, cat_l, Nat.zero_le, Int32.reduceOfNat, Int32.reduceAdd, Int32.reduceLT, Int32.reduceLE, forall_const, true_implies, false_implies, not_false_eq_true, not_true_eq_false, bi_eq0, bi_ne0, sl_0, sl_3, va_rf, Nat.reduceEqDiff, if_false, ite_false, ite_true, reduceIte, List.set_cons_zero, List.set_cons_succ, Nat.succ_eq_add_one, mup_c, mup_s, mw_zero, ne_eq, lit_10, lit_01, lit_m10, lit_m11, nar_bi, hpg.2.2.1]
      rw [show d + 4 * f + 7 = (d + f) + (3 * f + 7) by omega]
      refine m_compare (f := f) _ _ _ _ _ _ _ _ _ _ r hpg hdp g2 (by simp only [List.length_append]; omega) ?_
      intro μ4 hp4
      rw [show (d + f) + (3 * f + 7) = d + 4 * f + 7 by omega]
      refine mw_ok (M := mX12_unit) (fun _ => false) okTX12 rfl 20 _ _ _ _ ?_
      simp only [eX12_unit_0, eX12_unit_1, eX12_unit_4, eX12_unit_5, eX12_unit_6, eX12_unit_8, eX12_unit_11, eX12_unit_12, eX12_unit_15, eX12_unit_16, eX12_unit_19, eX12_unit_20, eX12_unit_23, eX12_unit_24, eX12_unit_27, eX12_unit_28, eX12_unit_30, eX12_unit_31, eX12_unit_34, eX12_unit_35, eX12_unit_36, eX12_unit_39, eX12_unit_40, eX12_unit_41, eX12_unit_44, eX12_unit_47, eX12_unit_48, eX12_unit_50, eX12_unit_53, eX12_unit_54, eX12_unit_57, eX12_unit_58, eX12_unit_61, eX12_unit_62, eX12_unit_65, eX12_unit_66, eX12_unit_69, eX12_unit_70, eX12_unit_72, eX12_unit_75, eX12_unit_78, eX12_unit_79, eX12_unit_82, eX12_unit_83, eX12_unit_86, eX12_unit_87, eX12_unit_90, eX12_unit_91, eX12_unit_94, st_aload, st_dupi, st_dupr, st_goto, st_iconst, st_ic_eq, st_ic_ne, st_ic_lt, st_ic_ge, st_ic_gt, st_ic_le, st_iload, st_inv, st_istore, st_isub, st_ret, gf_56_1204, gf_56_1205, pf_56_1205, HP_56, tab_135, tab_138, tab_140, tab_141, tab_145, tab_147, tab_148, tab_151, mm_cut, cond_false, cond_true, List.getElem?_cons_succ, List.getElem?_cons_zero, Int.reduceToNat, Nat.reduceMod, Nat.reduceDiv, Nat.reduceAdd, true_and, and_true, mm_set, mm_set2, mm_pop, List.length_cons, List.length_nil, Nat.reduceLeDiff, Int32.reduceOfInt, Int64.reduceOfInt, nar_b0, nar_b1, List.cons_append, List.nil_append, Option.toList_some, Option.toList_none, List.map_cons, List.map_nil, List.sum_cons, List.sum_nil, cat_i, cat_r, cat_l, Nat.zero_le, Int32.reduceOfNat, Int32.reduceAdd, Int32.reduceLT, Int32.reduceLE, forall_const, true_implies, false_implies, not_false_eq_true, not_true_eq_false, bi_eq0, bi_ne0, sl_0, sl_3, va_rf, Nat.reduceEqDiff, if_false, ite_false, ite_true, reduceIte, List.set_cons_zero, List.set_cons_succ, Nat.succ_eq_add_one, mup_c, mup_s, mw_zero, ne_eq, lit_10, lit_01, lit_m10, lit_m11, nar_bi]
      have := hp4.pre (a := a) (by omega)
      dsimp only at this
      rw [← pCmp_pre] at this
      exact hQ' _ _ rfl this
  · rw [if_neg h1, if_pos h2] at hQ'
    have hlt : sk (μ0 57) sz a < sz := chr_lt (tx := μ0 57) (by rw [hc, h2]; decide)
    refine m_opens (d := d + 4 * f + 5) hM1 (by omega) ?_
    intro μ2 hM2
    cases f with
    | zero =>
      rw [if_pos (by omega)] at hM2
      refine mw_ok (M := mX12_unit) (fun _ => false) okTX12 rfl 20 _ _ _ _ ?_
      simp only [eX12_unit_0, eX12_unit_1, eX12_unit_4, eX12_unit_5, eX12_unit_6, eX12_unit_8, eX12_unit_11, eX12_unit_12, eX12_unit_15, eX12_unit_16, eX12_unit_19, eX12_unit_20, eX12_unit_23, eX12_unit_24, eX12_unit_27, eX12_unit_28, eX12_unit_30, eX12_unit_31, eX12_unit_34, eX12_unit_35, eX12_unit_36, eX12_unit_39, eX12_unit_40, eX12_unit_41, eX12_unit_44, eX12_unit_47, eX12_unit_48, eX12_unit_50, eX12_unit_53, eX12_unit_54, eX12_unit_57, eX12_unit_58, eX12_unit_61, eX12_unit_62, eX12_unit_65, eX12_unit_66, eX12_unit_69, eX12_unit_70, eX12_unit_72, eX12_unit_75, eX12_unit_78, eX12_unit_79, eX12_unit_82, eX12_unit_83, eX12_unit_86, eX12_unit_87, eX12_unit_90, eX12_unit_91, eX12_unit_94, st_aload, st_dupi, st_dupr, st_goto, st_iconst, st_ic_eq, st_ic_ne, st_ic_lt, st_ic_ge, st_ic_gt, st_ic_le, st_iload, st_inv, st_istore, st_isub, st_ret, gf_56_1204, gf_56_1205, pf_56_1205, HP_56, tab_135, tab_138, tab_140, tab_141, tab_145, tab_147, tab_148, tab_151, mm_cut, cond_false, cond_true, List.getElem?_cons_succ, List.getElem?_cons_zero, Int.reduceToNat, Nat.reduceMod, Nat.reduceDiv, Nat.reduceAdd, true_and, and_true, mm_set, mm_set2, mm_pop, List.length_cons, List.length_nil, Nat.reduceLeDiff, Int32.reduceOfInt, Int64.reduceOfInt, nar_b0, nar_b1, List.cons_append, List.nil_append, Option.toList_some, Option.toList_none, List.map_cons, List.map_nil, List.sum_cons, List.sum_nil, cat_i, cat_r, cat_l, Nat.zero_le, Int32.reduceOfNat, Int32.reduceAdd, Int32.reduceLT, Int32.reduceLE, forall_const, true_implies, false_implies, not_false_eq_true, not_true_eq_false, bi_eq0, bi_ne0, sl_0, sl_3, va_rf, Nat.reduceEqDiff, if_false, ite_false, ite_true, reduceIte, List.set_cons_zero, List.set_cons_succ, Nat.succ_eq_add_one, mup_c, mup_s, mw_zero, ne_eq, lit_10, lit_01, lit_m10, lit_m11, nar_bi, hM2.2.2.1, eq_false (nI_nm (p := sk (μ0 57) sz a) (by omega))]
      exact hQ' _ _ rfl ⟨_, _, _, hM2, by omega, by omega, by omega⟩
    | succ g =>
      rw [if_neg (by omega)] at hM2
      simp only [subU] at hQ'
      refine mw_ok (M := mX12_unit) (fun _ => false) okTX12 rfl 20 _ _ _ _ ?_
      simp only [eX12_unit_0, eX12_unit_1, eX12_unit_4, eX12_unit_5, eX12_unit_6, eX12_unit_8, eX12_unit_11, eX12_unit_12, eX12_unit_15, eX12_unit_16, eX12_unit_19, eX12_unit_20, eX12_unit_23, eX12_unit_24, eX12_unit_27, eX12_unit_28, eX12_unit_30, eX12_unit_31, eX12_unit_34, eX12_unit_35, eX12_unit_36, eX12_unit_39, eX12_unit_40, eX12_unit_41, eX12_unit_44, eX12_unit_47, eX12_unit_48, eX12_unit_50, eX12_unit_53, eX12_unit_54, eX12_unit_57, eX12_unit_58, eX12_unit_61, eX12_unit_62, eX12_unit_65, eX12_unit_66, eX12_unit_69, eX12_unit_70, eX12_unit_72, eX12_unit_75, eX12_unit_78, eX12_unit_79, eX12_unit_82, eX12_unit_83, eX12_unit_86, eX12_unit_87, eX12_unit_90, eX12_unit_91, eX12_unit_94, st_aload, st_dupi, st_dupr, st_goto, st_iconst, st_ic_eq, st_ic_ne, st_ic_lt, st_ic_ge, st_ic_gt, st_ic_le, st_iload, st_inv, st_istore, st_isub, st_ret, gf_56_1204, gf_56_1205, pf_56_1205, HP_56, tab_135, tab_138, tab_140, tab_141, tab_145, tab_147, tab_148, tab_151, mm_cut, cond_false, cond_true, List.getElem?_cons_succ, List.getElem?_cons_zero, Int.reduceToNat, Nat.reduceMod, Nat.reduceDiv, Nat.reduceAdd, true_and, and_true, mm_set, mm_set2, mm_pop, List.length_cons, List.length_nil, Nat.reduceLeDiff, Int32.reduceOfInt, Int64.reduceOfInt, nar_b0, nar_b1, List.cons_append, List.nil_append, Option.toList_some, Option.toList_none, List.map_cons, List.map_nil, List.sum_cons, List.sum_nil, cat_i, cat_r, cat_l, Nat.zero_le, Int32.reduceOfNat, Int32.reduceAdd, Int32.reduceLT, Int32.reduceLE, forall_const, true_implies, false_implies, not_false_eq_true, not_true_eq_false, bi_eq0, bi_ne0, sl_0, sl_3, va_rf, Nat.reduceEqDiff, if_false, ite_false, ite_true, reduceIte, List.set_cons_zero, List.set_cons_succ, Nat.succ_eq_add_one, mup_c, mup_s, mw_zero, ne_eq, lit_10, lit_01, lit_m10, lit_m11, nar_bi, hM2.2.2.1]
      rw [show d + 4 * (g + 1) + 7 = d + (4 * g + 11) by omega]
      refine m_condition (hU g rfl) _ _ _ _ _ _ _ _ _ _ r hM2 (by omega) (by omega) (by omega) ?_
      intro μ3 hp
      have hok := pCond_ok (tx := μ0 57) (sz := sz) g (a := sk (μ0 57) sz a + 1) (by omega)
      rw [show d + (4 * g + 11) = d + 4 * g + 8 + 3 by omega]
      refine mw_ok (M := mX12_unit) (fun _ => false) okTX12 rfl 20 _ _ _ _ ?_
      simp only [eX12_unit_0, eX12_unit_1, eX12_unit_4, eX12_unit_5, eX12_unit_6, eX12_unit_8, eX12_unit_11, eX12_unit_12, eX12_unit_15, eX12_unit_16, eX12_unit_19, eX12_unit_20, eX12_unit_23, eX12_unit_24, eX12_unit_27, eX12_unit_28, eX12_unit_30, eX12_unit_31, eX12_unit_34, eX12_unit_35, eX12_unit_36, eX12_unit_39, eX12_unit_40, eX12_unit_41, eX12_unit_44, eX12_unit_47, eX12_unit_48, eX12_unit_50, eX12_unit_53, eX12_unit_54, eX12_unit_57, eX12_unit_58, eX12_unit_61, eX12_unit_62, eX12_unit_65, eX12_unit_66, eX12_unit_69, eX12_unit_70, eX12_unit_72, eX12_unit_75, eX12_unit_78, eX12_unit_79, eX12_unit_82, eX12_unit_83, eX12_unit_86, eX12_unit_87, eX12_unit_90, eX12_unit_91, eX12_unit_94, st_aload, st_dupi, st_dupr, st_goto, st_iconst, st_ic_eq, st_ic_ne, st_ic_lt, st_ic_ge, st_ic_gt, st_ic_le, st_iload, st_inv, st_istore, st_isub, st_ret, gf_56_1204, gf_56_1205, pf_56_1205, HP_56, tab_135, tab_138, tab_140, tab_141, tab_145, tab_147, tab_148, tab_151, mm_cut, cond_false, cond_true, List.getElem?_cons_succ, List.getElem?_cons_zero, Int.reduceToNat, Nat.reduceMod, Nat.reduceDiv, Nat.reduceAdd, true_and, and_true, mm_set, mm_set2, mm_pop, List.length_cons, List.length_nil, Nat.reduceLeDiff, Int32.reduceOfInt, Int64.reduceOfInt, nar_b0, nar_b1, List.cons_append, List.nil_append, Option.toList_some, Option.toList_none, List.map_cons, List.map_nil, List.sum_cons, List.sum_nil, cat_i, cat_r, cat_l, Nat.zero_le, Int32.reduceOfNat, Int32.reduceAdd, Int32.reduceLT, Int32.reduceLE, forall_const, true_implies, false_implies, not_false_eq_true, not_true_eq_false, bi_eq0, bi_ne0, sl_0, sl_3, va_rf, Nat.reduceEqDiff, if_false, ite_false, ite_true, reduceIte, List.set_cons_zero, List.set_cons_succ, Nat.succ_eq_add_one, mup_c, mup_s, mw_zero, ne_eq, lit_10, lit_01, lit_m10, lit_m11, nar_bi]
      have hp : PO μ0 n sz (dp + 1) (sk (μ0 57) sz a + 1) ts (pCondG (μ0 57) sz (pUnit (μ0 57) sz g) (sk (μ0 57) sz a + 1)) μ3 := hp
      rw [pCond] at hok
      cases hT : pCondG (μ0 57) sz (pUnit (μ0 57) sz g) (sk (μ0 57) sz a + 1) with
      | inl p =>
        rw [hT] at hp hQ' hok
        obtain ⟨a', dp', ts', q1, q2, q3, q4⟩ := hp.fail
        obtain ⟨dp2, rfl⟩ : ∃ k, dp' = k + 1 := ⟨dp' - 1, by omega⟩
        have hok : p ≤ sz := hok
        refine m_closes (d := d + 4 * g + 8) r q1 (by omega) ?_
        intro μ4 hM4
        rw [if_neg (nI_nm (by omega))] at hM4
        refine mw_ok (M := mX12_unit) (fun _ => false) okTX12 rfl 20 _ _ _ _ ?_
        simp only [eX12_unit_0, eX12_unit_1, eX12_unit_4, eX12_unit_5, eX12_unit_6, eX12_unit_8, eX12_unit_11, eX12_unit_12, eX12_unit_15, eX12_unit_16, eX12_unit_19, eX12_unit_20, eX12_unit_23, eX12_unit_24, eX12_unit_27, eX12_unit_28, eX12_unit_30, eX12_unit_31, eX12_unit_34, eX12_unit_35, eX12_unit_36, eX12_unit_39, eX12_unit_40, eX12_unit_41, eX12_unit_44, eX12_unit_47, eX12_unit_48, eX12_unit_50, eX12_unit_53, eX12_unit_54, eX12_unit_57, eX12_unit_58, eX12_unit_61, eX12_unit_62, eX12_unit_65, eX12_unit_66, eX12_unit_69, eX12_unit_70, eX12_unit_72, eX12_unit_75, eX12_unit_78, eX12_unit_79, eX12_unit_82, eX12_unit_83, eX12_unit_86, eX12_unit_87, eX12_unit_90, eX12_unit_91, eX12_unit_94, st_aload, st_dupi, st_dupr, st_goto, st_iconst, st_ic_eq, st_ic_ne, st_ic_lt, st_ic_ge, st_ic_gt, st_ic_le, st_iload, st_inv, st_istore, st_isub, st_ret, gf_56_1204, gf_56_1205, pf_56_1205, HP_56, tab_135, tab_138, tab_140, tab_141, tab_145, tab_147, tab_148, tab_151, mm_cut, cond_false, cond_true, List.getElem?_cons_succ, List.getElem?_cons_zero, Int.reduceToNat, Nat.reduceMod, Nat.reduceDiv, Nat.reduceAdd, true_and, and_true, mm_set, mm_set2, mm_pop, List.length_cons, List.length_nil, Nat.reduceLeDiff, Int32.reduceOfInt, Int64.reduceOfInt, nar_b0, nar_b1, List.cons_append, List.nil_append, Option.toList_some, Option.toList_none, List.map_cons, List.map_nil, List.sum_cons, List.sum_nil, cat_i, cat_r, cat_l, Nat.zero_le, Int32.reduceOfNat, Int32.reduceAdd, Int32.reduceLT, Int32.reduceLE, forall_const, true_implies, false_implies, not_false_eq_true, not_true_eq_false, bi_eq0, bi_ne0, sl_0, sl_3, va_rf, Nat.reduceEqDiff, if_false, ite_false, ite_true, reduceIte, List.set_cons_zero, List.set_cons_succ, Nat.succ_eq_add_one, mup_c, mup_s, mw_zero, ne_eq, lit_10, lit_01, lit_m10, lit_m11, nar_bi]
        exact hQ' _ _ rfl ⟨_, _, _, hM4, by omega, by omega, by omega⟩
      | inr q =>
        obtain ⟨b, us⟩ := q
        rw [hT] at hp hQ' hok
        obtain ⟨g1, g2, g3⟩ := hok
        have hb := sk_sz (tx := μ0 57) g2
        have hb2 := sk_le (tx := μ0 57) (sz := sz) b
        refine m_closes (d := d + 4 * g + 8) r hp.good (by omega) ?_
        intro μ4 hM4
        rw [if_pos rfl] at hM4
        refine mw_ok (M := mX12_unit) (fun _ => false) okTX12 rfl 20 _ _ _ _ ?_
        simp only [eX12_unit_0, eX12_unit_1, eX12_unit_4, eX12_unit_5, eX12_unit_6, eX12_unit_8, eX12_unit_11, eX12_unit_12, eX12_unit_15, eX12_unit_16, eX12_unit_19, eX12_unit_20, eX12_unit_23, eX12_unit_24, eX12_unit_27, eX12_unit_28, eX12_unit_30, eX12_unit_31, eX12_unit_34, eX12_unit_35, eX12_unit_36, eX12_unit_39, eX12_unit_40, eX12_unit_41, eX12_unit_44, eX12_unit_47, eX12_unit_48, eX12_unit_50, eX12_unit_53, eX12_unit_54, eX12_unit_57, eX12_unit_58, eX12_unit_61, eX12_unit_62, eX12_unit_65, eX12_unit_66, eX12_unit_69, eX12_unit_70, eX12_unit_72, eX12_unit_75, eX12_unit_78, eX12_unit_79, eX12_unit_82, eX12_unit_83, eX12_unit_86, eX12_unit_87, eX12_unit_90, eX12_unit_91, eX12_unit_94, st_aload, st_dupi, st_dupr, st_goto, st_iconst, st_ic_eq, st_ic_ne, st_ic_lt, st_ic_ge, st_ic_gt, st_ic_le, st_iload, st_inv, st_istore, st_isub, st_ret, gf_56_1204, gf_56_1205, pf_56_1205, HP_56, tab_135, tab_138, tab_140, tab_141, tab_145, tab_147, tab_148, tab_151, mm_cut, cond_false, cond_true, List.getElem?_cons_succ, List.getElem?_cons_zero, Int.reduceToNat, Nat.reduceMod, Nat.reduceDiv, Nat.reduceAdd, true_and, and_true, mm_set, mm_set2, mm_pop, List.length_cons, List.length_nil, Nat.reduceLeDiff, Int32.reduceOfInt, Int64.reduceOfInt, nar_b0, nar_b1, List.cons_append, List.nil_append, Option.toList_some, Option.toList_none, List.map_cons, List.map_nil, List.sum_cons, List.sum_nil, cat_i, cat_r, cat_l, Nat.zero_le, Int32.reduceOfNat, Int32.reduceAdd, Int32.reduceLT, Int32.reduceLE, forall_const, true_implies, false_implies, not_false_eq_true, not_true_eq_false, bi_eq0, bi_ne0, sl_0, sl_3, va_rf, Nat.reduceEqDiff, if_false, ite_false, ite_true, reduceIte, List.set_cons_zero, List.set_cons_succ, Nat.succ_eq_add_one, mup_c, mup_s, mw_zero, ne_eq, lit_10, lit_01, lit_m10, lit_m11, nar_bi]
        by_cases h5 : chr (μ0 57) sz (sk (μ0 57) sz b) = 41
        · rw [if_pos h5] at hM4
          exact hQ' _ _ (if_pos h5) hM4
        · rw [if_neg h5] at hM4
          exact hQ' _ _ (if_neg h5) ⟨_, _, _, hM4, by omega, Nat.le_refl _, by simp only [List.length_append]; omega⟩
  · rw [if_pos h1] at hQ'
    have hlt : sk (μ0 57) sz a < sz := chr_lt (tx := μ0 57) (by rw [hc, h1]; decide)
    refine m_opens (d := d + 4 * f + 5) hM1 (by omega) ?_
    intro μ2 hM2
    cases f with
    | zero =>
      rw [if_pos (by omega)] at hM2
      refine mw_ok (M := mX12_unit) (fun _ => false) okTX12 rfl 20 _ _ _ _ ?_
      simp only [eX12_unit_0, eX12_unit_1, eX12_unit_4, eX12_unit_5, eX12_unit_6, eX12_unit_8, eX12_unit_11, eX12_unit_12, eX12_unit_15, eX12_unit_16, eX12_unit_19, eX12_unit_20, eX12_unit_23, eX12_unit_24, eX12_unit_27, eX12_unit_28, eX12_unit_30, eX12_unit_31, eX12_unit_34, eX12_unit_35, eX12_unit_36, eX12_unit_39, eX12_unit_40, eX12_unit_41, eX12_unit_44, eX12_unit_47, eX12_unit_48, eX12_unit_50, eX12_unit_53, eX12_unit_54, eX12_unit_57, eX12_unit_58, eX12_unit_61, eX12_unit_62, eX12_unit_65, eX12_unit_66, eX12_unit_69, eX12_unit_70, eX12_unit_72, eX12_unit_75, eX12_unit_78, eX12_unit_79, eX12_unit_82, eX12_unit_83, eX12_unit_86, eX12_unit_87, eX12_unit_90, eX12_unit_91, eX12_unit_94, st_aload, st_dupi, st_dupr, st_goto, st_iconst, st_ic_eq, st_ic_ne, st_ic_lt, st_ic_ge, st_ic_gt, st_ic_le, st_iload, st_inv, st_istore, st_isub, st_ret, gf_56_1204, gf_56_1205, pf_56_1205, HP_56, tab_135, tab_138, tab_140, tab_141, tab_145, tab_147, tab_148, tab_151, mm_cut, cond_false, cond_true, List.getElem?_cons_succ, List.getElem?_cons_zero, Int.reduceToNat, Nat.reduceMod, Nat.reduceDiv, Nat.reduceAdd, true_and, and_true, mm_set, mm_set2, mm_pop, List.length_cons, List.length_nil, Nat.reduceLeDiff, Int32.reduceOfInt, Int64.reduceOfInt, nar_b0, nar_b1, List.cons_append, List.nil_append, Option.toList_some, Option.toList_none, List.map_cons, List.map_nil, List.sum_cons, List.sum_nil, cat_i, cat_r, cat_l, Nat.zero_le, Int32.reduceOfNat, Int32.reduceAdd, Int32.reduceLT, Int32.reduceLE, forall_const, true_implies, false_implies, not_false_eq_true, not_true_eq_false, bi_eq0, bi_ne0, sl_0, sl_3, va_rf, Nat.reduceEqDiff, if_false, ite_false, ite_true, reduceIte, List.set_cons_zero, List.set_cons_succ, Nat.succ_eq_add_one, mup_c, mup_s, mw_zero, ne_eq, lit_10, lit_01, lit_m10, lit_m11, nar_bi, hM2.2.2.1, eq_false (nI_nm (p := sk (μ0 57) sz a) (by omega))]
      exact hQ' _ _ rfl ⟨_, _, _, hM2, by omega, by omega, by omega⟩
    | succ g =>
      rw [if_neg (by omega)] at hM2
      simp only [subU] at hQ'
      refine mw_ok (M := mX12_unit) (fun _ => false) okTX12 rfl 20 _ _ _ _ ?_
      simp only [eX12_unit_0, eX12_unit_1, eX12_unit_4, eX12_unit_5, eX12_unit_6, eX12_unit_8, eX12_unit_11, eX12_unit_12, eX12_unit_15, eX12_unit_16, eX12_unit_19, eX12_unit_20, eX12_unit_23, eX12_unit_24, eX12_unit_27, eX12_unit_28, eX12_unit_30, eX12_unit_31, eX12_unit_34, eX12_unit_35, eX12_unit_36, eX12_unit_39, eX12_unit_40, eX12_unit_41, eX12_unit_44, eX12_unit_47, eX12_unit_48, eX12_unit_50, eX12_unit_53, eX12_unit_54, eX12_unit_57, eX12_unit_58, eX12_unit_61, eX12_unit_62, eX12_unit_65, eX12_unit_66, eX12_unit_69, eX12_unit_70, eX12_unit_72, eX12_unit_75, eX12_unit_78, eX12_unit_79, eX12_unit_82, eX12_unit_83, eX12_unit_86, eX12_unit_87, eX12_unit_90, eX12_unit_91, eX12_unit_94, st_aload, st_dupi, st_dupr, st_goto, st_iconst, st_ic_eq, st_ic_ne, st_ic_lt, st_ic_ge, st_ic_gt, st_ic_le, st_iload, st_inv, st_istore, st_isub, st_ret, gf_56_1204, gf_56_1205, pf_56_1205, HP_56, tab_135, tab_138, tab_140, tab_141, tab_145, tab_147, tab_148, tab_151, mm_cut, cond_false, cond_true, List.getElem?_cons_succ, List.getElem?_cons_zero, Int.reduceToNat, Nat.reduceMod, Nat.reduceDiv, Nat.reduceAdd, true_and, and_true, mm_set, mm_set2, mm_pop, List.length_cons, List.length_nil, Nat.reduceLeDiff, Int32.reduceOfInt, Int64.reduceOfInt, nar_b0, nar_b1, List.cons_append, List.nil_append, Option.toList_some, Option.toList_none, List.map_cons, List.map_nil, List.sum_cons, List.sum_nil, cat_i, cat_r, cat_l, Nat.zero_le, Int32.reduceOfNat, Int32.reduceAdd, Int32.reduceLT, Int32.reduceLE, forall_const, true_implies, false_implies, not_false_eq_true, not_true_eq_false, bi_eq0, bi_ne0, sl_0, sl_3, va_rf, Nat.reduceEqDiff, if_false, ite_false, ite_true, reduceIte, List.set_cons_zero, List.set_cons_succ, Nat.succ_eq_add_one, mup_c, mup_s, mw_zero, ne_eq, lit_10, lit_01, lit_m10, lit_m11, nar_bi, hM2.2.2.1]
      rw [show d + 4 * (g + 1) + 7 = (d + 3) + (4 * g + 8) by omega]
      refine hU g rfl _ _ _ _ _ _ _ _ _ _ r hM2 (by omega) (by omega) (by omega) ?_
      intro μ3 hp
      have hok := pUnit_ok (tx := μ0 57) (sz := sz) g (sk (μ0 57) sz a + 1) (by omega)
      rw [show (d + 3) + (4 * g + 8) = d + 4 * g + 10 + 1 by omega]
      refine mw_ok (M := mX12_unit) (fun _ => false) okTX12 rfl 20 _ _ _ _ ?_
      simp only [eX12_unit_0, eX12_unit_1, eX12_unit_4, eX12_unit_5, eX12_unit_6, eX12_unit_8, eX12_unit_11, eX12_unit_12, eX12_unit_15, eX12_unit_16, eX12_unit_19, eX12_unit_20, eX12_unit_23, eX12_unit_24, eX12_unit_27, eX12_unit_28, eX12_unit_30, eX12_unit_31, eX12_unit_34, eX12_unit_35, eX12_unit_36, eX12_unit_39, eX12_unit_40, eX12_unit_41, eX12_unit_44, eX12_unit_47, eX12_unit_48, eX12_unit_50, eX12_unit_53, eX12_unit_54, eX12_unit_57, eX12_unit_58, eX12_unit_61, eX12_unit_62, eX12_unit_65, eX12_unit_66, eX12_unit_69, eX12_unit_70, eX12_unit_72, eX12_unit_75, eX12_unit_78, eX12_unit_79, eX12_unit_82, eX12_unit_83, eX12_unit_86, eX12_unit_87, eX12_unit_90, eX12_unit_91, eX12_unit_94, st_aload, st_dupi, st_dupr, st_goto, st_iconst, st_ic_eq, st_ic_ne, st_ic_lt, st_ic_ge, st_ic_gt, st_ic_le, st_iload, st_inv, st_istore, st_isub, st_ret, gf_56_1204, gf_56_1205, pf_56_1205, HP_56, tab_135, tab_138, tab_140, tab_141, tab_145, tab_147, tab_148, tab_151, mm_cut, cond_false, cond_true, List.getElem?_cons_succ, List.getElem?_cons_zero, Int.reduceToNat, Nat.reduceMod, Nat.reduceDiv, Nat.reduceAdd, true_and, and_true, mm_set, mm_set2, mm_pop, List.length_cons, List.length_nil, Nat.reduceLeDiff, Int32.reduceOfInt, Int64.reduceOfInt, nar_b0, nar_b1, List.cons_append, List.nil_append, Option.toList_some, Option.toList_none, List.map_cons, List.map_nil, List.sum_cons, List.sum_nil, cat_i, cat_r, cat_l, Nat.zero_le, Int32.reduceOfNat, Int32.reduceAdd, Int32.reduceLT, Int32.reduceLE, forall_const, true_implies, false_implies, not_false_eq_true, not_true_eq_false, bi_eq0, bi_ne0, sl_0, sl_3, va_rf, Nat.reduceEqDiff, if_false, ite_false, ite_true, reduceIte, List.set_cons_zero, List.set_cons_succ, Nat.succ_eq_add_one, mup_c, mup_s, mw_zero, ne_eq, lit_10, lit_01, lit_m10, lit_m11, nar_bi]
      dsimp only at hp
      cases hT : pUnit (μ0 57) sz g (sk (μ0 57) sz a + 1) with
      | inl p =>
        rw [hT] at hp hQ' hok
        obtain ⟨a', dp', ts', q1, q2, q3, q4⟩ := hp.fail
        obtain ⟨dp2, rfl⟩ : ∃ k, dp' = k + 1 := ⟨dp' - 1, by omega⟩
        have hok : p ≤ sz := hok
        refine m_put (d := d + 4 * g + 10) r q1 (by omega) ?_
        intro μ4 hM4
        refine mw_ok (M := mX12_unit) (fun _ => false) okTX12 rfl 20 _ _ _ _ ?_
        simp only [eX12_unit_0, eX12_unit_1, eX12_unit_4, eX12_unit_5, eX12_unit_6, eX12_unit_8, eX12_unit_11, eX12_unit_12, eX12_unit_15, eX12_unit_16, eX12_unit_19, eX12_unit_20, eX12_unit_23, eX12_unit_24, eX12_unit_27, eX12_unit_28, eX12_unit_30, eX12_unit_31, eX12_unit_34, eX12_unit_35, eX12_unit_36, eX12_unit_39, eX12_unit_40, eX12_unit_41, eX12_unit_44, eX12_unit_47, eX12_unit_48, eX12_unit_50, eX12_unit_53, eX12_unit_54, eX12_unit_57, eX12_unit_58, eX12_unit_61, eX12_unit_62, eX12_unit_65, eX12_unit_66, eX12_unit_69, eX12_unit_70, eX12_unit_72, eX12_unit_75, eX12_unit_78, eX12_unit_79, eX12_unit_82, eX12_unit_83, eX12_unit_86, eX12_unit_87, eX12_unit_90, eX12_unit_91, eX12_unit_94, st_aload, st_dupi, st_dupr, st_goto, st_iconst, st_ic_eq, st_ic_ne, st_ic_lt, st_ic_ge, st_ic_gt, st_ic_le, st_iload, st_inv, st_istore, st_isub, st_ret, gf_56_1204, gf_56_1205, pf_56_1205, HP_56, tab_135, tab_138, tab_140, tab_141, tab_145, tab_147, tab_148, tab_151, mm_cut, cond_false, cond_true, List.getElem?_cons_succ, List.getElem?_cons_zero, Int.reduceToNat, Nat.reduceMod, Nat.reduceDiv, Nat.reduceAdd, true_and, and_true, mm_set, mm_set2, mm_pop, List.length_cons, List.length_nil, Nat.reduceLeDiff, Int32.reduceOfInt, Int64.reduceOfInt, nar_b0, nar_b1, List.cons_append, List.nil_append, Option.toList_some, Option.toList_none, List.map_cons, List.map_nil, List.sum_cons, List.sum_nil, cat_i, cat_r, cat_l, Nat.zero_le, Int32.reduceOfNat, Int32.reduceAdd, Int32.reduceLT, Int32.reduceLE, forall_const, true_implies, false_implies, not_false_eq_true, not_true_eq_false, bi_eq0, bi_ne0, sl_0, sl_3, va_rf, Nat.reduceEqDiff, if_false, ite_false, ite_true, reduceIte, List.set_cons_zero, List.set_cons_succ, Nat.succ_eq_add_one, mup_c, mup_s, mw_zero, ne_eq, lit_10, lit_01, lit_m10, lit_m11, nar_bi, hM4.2.2.2.1]
        refine hQ' _ _ rfl ⟨_, _, _, hM4.sd (nI_pred _), by omega, by omega, by simp only [List.length_append, List.length_cons, List.length_nil]; omega⟩
      | inr q =>
        obtain ⟨b, us⟩ := q
        rw [hT] at hp hQ' hok
        obtain ⟨g1, g2, g3⟩ := hok
        refine m_put (d := d + 4 * g + 10) r hp.good (by simp only [List.length_append]; omega) ?_
        intro μ4 hM4
        refine mw_ok (M := mX12_unit) (fun _ => false) okTX12 rfl 20 _ _ _ _ ?_
        simp only [eX12_unit_0, eX12_unit_1, eX12_unit_4, eX12_unit_5, eX12_unit_6, eX12_unit_8, eX12_unit_11, eX12_unit_12, eX12_unit_15, eX12_unit_16, eX12_unit_19, eX12_unit_20, eX12_unit_23, eX12_unit_24, eX12_unit_27, eX12_unit_28, eX12_unit_30, eX12_unit_31, eX12_unit_34, eX12_unit_35, eX12_unit_36, eX12_unit_39, eX12_unit_40, eX12_unit_41, eX12_unit_44, eX12_unit_47, eX12_unit_48, eX12_unit_50, eX12_unit_53, eX12_unit_54, eX12_unit_57, eX12_unit_58, eX12_unit_61, eX12_unit_62, eX12_unit_65, eX12_unit_66, eX12_unit_69, eX12_unit_70, eX12_unit_72, eX12_unit_75, eX12_unit_78, eX12_unit_79, eX12_unit_82, eX12_unit_83, eX12_unit_86, eX12_unit_87, eX12_unit_90, eX12_unit_91, eX12_unit_94, st_aload, st_dupi, st_dupr, st_goto, st_iconst, st_ic_eq, st_ic_ne, st_ic_lt, st_ic_ge, st_ic_gt, st_ic_le, st_iload, st_inv, st_istore, st_isub, st_ret, gf_56_1204, gf_56_1205, pf_56_1205, HP_56, tab_135, tab_138, tab_140, tab_141, tab_145, tab_147, tab_148, tab_151, mm_cut, cond_false, cond_true, List.getElem?_cons_succ, List.getElem?_cons_zero, Int.reduceToNat, Nat.reduceMod, Nat.reduceDiv, Nat.reduceAdd, true_and, and_true, mm_set, mm_set2, mm_pop, List.length_cons, List.length_nil, Nat.reduceLeDiff, Int32.reduceOfInt, Int64.reduceOfInt, nar_b0, nar_b1, List.cons_append, List.nil_append, Option.toList_some, Option.toList_none, List.map_cons, List.map_nil, List.sum_cons, List.sum_nil, cat_i, cat_r, cat_l, Nat.zero_le, Int32.reduceOfNat, Int32.reduceAdd, Int32.reduceLT, Int32.reduceLE, forall_const, true_implies, false_implies, not_false_eq_true, not_true_eq_false, bi_eq0, bi_ne0, sl_0, sl_3, va_rf, Nat.reduceEqDiff, if_false, ite_false, ite_true, reduceIte, List.set_cons_zero, List.set_cons_succ, Nat.succ_eq_add_one, mup_c, mup_s, mw_zero, ne_eq, lit_10, lit_01, lit_m10, lit_m11, nar_bi, hM4.2.2.2.1]
        refine hQ' _ _ rfl ?_
        show MP μ0 _ n b (-1) dp (ts ++ (us ++ [(9, 0)]))
        rw [← List.append_assoc]
        exact hM4.sd (nI_pred _)
theorem m_unitF : ∀ f, RdC mX12_unit (4 * f + 8) (fun tx sz => pUnit tx sz f) f
  | 0 => m_unit (f := 0) (fun g z => by omega)
  | f + 1 => m_unit (f := f + 1) (fun g z => by cases z; exact m_unitF f)
end M30
