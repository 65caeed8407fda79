/-- tokens set before an answer's -/
def preR (ts : List Tk) (r : PR) : PR := match r with
  | .inl p => .inl p
  | .inr (b, us) => .inr (b, ts ++ us)
theorem preR_preR {ts us : List Tk} {r : PR} : preR ts (preR us r) = preR (ts ++ us) r := by
  match r with
  | .inl p => rfl
  | .inr (b, vs) => simp [preR]
section M29
variable {tx : Nat → Int32} {sz : Nat}
theorem pCmp_pre {S : Nat → PR} {a : Nat} {ts : List Tk} : pCmp tx sz S a ts = preR ts (pCmp tx sz S a []) := by
  unfold pCmp
  split
  · cases S (sk tx sz a + 1) with
    | inl p => rfl
    | inr q => simp [preR]
  · rfl
theorem pAndL_pre {A : Nat → PR} : ∀ (n a : Nat) (ts us : List Tk), pAndL tx sz A n a (ts ++ us) = preR ts (pAndL tx sz A n a us)
  | 0, a, ts, us => rfl
  | n + 1, a, ts, us => by
    rw [pAndL, pAndL]
    split
    · cases A (sk tx sz a + 1) with
      | inl p => rfl
      | inr q =>
        obtain ⟨b, vs⟩ := q
        dsimp only
        rw [List.append_assoc ts us vs, List.append_assoc ts (us ++ vs), pAndL_pre n b ts]
    · rfl
theorem pOrL_pre {A : Nat → PR} : ∀ (n a : Nat) (ts us : List Tk), pOrL tx sz A n a (ts ++ us) = preR ts (pOrL tx sz A n a us)
  | 0, a, ts, us => rfl
  | n + 1, a, ts, us => by
    rw [pOrL, pOrL]
    split
    · cases A (sk tx sz a + 1) with
      | inl p => rfl
      | inr q =>
        obtain ⟨b, vs⟩ := q
        dsimp only
        rw [List.append_assoc ts us vs, List.append_assoc ts (us ++ vs), pOrL_pre n b ts]
    · rfl
theorem PO.pre {μ0 μ' : mm_mu} {n sz dp a b : Nat} {ts us : List Tk} {r : PR} (h : PO μ0 n sz dp b (ts ++ us) r μ') (hb : us.length + a ≤ b) : PO μ0 n sz dp a ts (preR us r) μ' := by
  match r, h with
  | .inl p, h =>
    obtain ⟨a', dp', ts', q1, q2, q3, q4⟩ := h
    exact ⟨a', dp', ts', q1, q2, q3, by simp only [List.length_append] at q4; omega⟩
  | .inr (c, vs), h =>
    have h : MP μ0 μ' n c (-1) dp (ts ++ us ++ vs) := h
    show MP μ0 μ' n c (-1) dp (ts ++ (us ++ vs))
    rw [← List.append_assoc]; exact h
set_option maxRecDepth 4000 in
theorem m_compare {f : Nat} : RdC mX12_compare (3 * f + 7) (fun tx sz a => pCmp tx sz (pSum tx sz f) a []) f := by
  intro d ε μ0 μ Q n a sz dp ts r hM hdp ha hts hQ
  have h240 := r.2.2.2
  have hk := sk_sz (tx := μ0 57) ha
  have hk2 := sk_le (tx := μ0 57) (sz := sz) a
  rw [show d + (3 * f + 7) = d + 3 * f + 6 + 1 by omega]
  refine b0_of_G0 (lv := [.ref 56, .null]) (by decide +kernel) (Nat.le_of_ble_eq_true rfl) rfl ?_
  refine mw_ok (M := mX12_compare) (fun _ => false) okTX12 rfl 20 _ _ _ _ ?_
  simp only [eX12_compare_0, eX12_compare_1, eX12_compare_4, eX12_compare_5, eX12_compare_8, eX12_compare_9, eX12_compare_12, eX12_compare_15, eX12_compare_16, eX12_compare_17, eX12_compare_18, eX12_compare_21, eX12_compare_24, eX12_compare_25, eX12_compare_28, eX12_compare_29, eX12_compare_30, eX12_compare_31, eX12_compare_34, eX12_compare_35, eX12_compare_36, eX12_compare_39, eX12_compare_40, eX12_compare_43, eX12_compare_44, eX12_compare_45, eX12_compare_47, eX12_compare_50, eX12_compare_52, eX12_compare_55, eX12_compare_56, eX12_compare_58, eX12_compare_61, eX12_compare_63, eX12_compare_66, eX12_compare_68, eX12_compare_69, eX12_compare_72, st_aload, st_dupi, st_dupr, st_goto, st_iadd, st_iconst, st_if_eq, st_if_ne, st_if_lt, st_if_ge, st_if_gt, st_if_le, st_ic_eq, st_ic_ne, st_ic_lt, st_ic_ge, st_ic_gt, st_ic_le, st_iload, st_ins, st_inv, st_istore, st_ret, gf_56_1203, gf_56_1204, pf_56_1203, HP_56, tab_135, tab_136, tab_138, tab_145, tab_146, mm_cut, cond_false, cond_true, List.getElem?_cons_succ, List.getElem?_cons_zero, Int.reduceToNat, Nat.reduceMod, Nat.reduceDiv, Nat.reduceAdd, true_and, and_true, mm_set, mm_set2, mm_pop, List.length_cons, List.length_nil, Nat.reduceLeDiff, Int32.reduceOfInt, Int64.reduceOfInt, nar_b0, nar_b1, List.cons_append, List.nil_append, Option.toList_some, Option.toList_none, List.map_cons, List.map_nil, List.sum_cons, List.sum_nil, cat_i, cat_r, cat_l, Nat.zero_le, Int32.reduceOfNat, Int32.reduceAdd, Int32.reduceLT, Int32.reduceLE, forall_const, true_implies, false_implies, not_false_eq_true, not_true_eq_false, bi_eq0, bi_ne0, sl_0, sl_3, va_rf, Nat.reduceEqDiff, if_false, ite_false, ite_true, reduceIte, List.set_cons_zero, List.set_cons_succ, Nat.succ_eq_add_one, mup_c, mup_s, mw_zero, ne_eq, lit_10, lit_01, lit_m10, lit_m11, nar_bi, hM.2.2.1]
  refine m_lookB (d := d + 3 * f + 4) r hM (by omega) ?_
  intro μ1 hM1
  refine mw_ok (M := mX12_compare) (fun _ => false) okTX12 rfl 20 _ _ _ _ ?_
  simp only [eX12_compare_0, eX12_compare_1, eX12_compare_4, eX12_compare_5, eX12_compare_8, eX12_compare_9, eX12_compare_12, eX12_compare_15, eX12_compare_16, eX12_compare_17, eX12_compare_18, eX12_compare_21, eX12_compare_24, eX12_compare_25, eX12_compare_28, eX12_compare_29, eX12_compare_30, eX12_compare_31, eX12_compare_34, eX12_compare_35, eX12_compare_36, eX12_compare_39, eX12_compare_40, eX12_compare_43, eX12_compare_44, eX12_compare_45, eX12_compare_47, eX12_compare_50, eX12_compare_52, eX12_compare_55, eX12_compare_56, eX12_compare_58, eX12_compare_61, eX12_compare_63, eX12_compare_66, eX12_compare_68, eX12_compare_69, eX12_compare_72, st_aload, st_dupi, st_dupr, st_goto, st_iadd, st_iconst, st_if_eq, st_if_ne, st_if_lt, st_if_ge, st_if_gt, st_if_le, st_ic_eq, st_ic_ne, st_ic_lt, st_ic_ge, st_ic_gt, st_ic_le, st_iload, st_ins, st_inv, st_istore, st_ret, gf_56_1203, gf_56_1204, pf_56_1203, HP_56, tab_135, tab_136, tab_138, tab_145, tab_146, mm_cut, cond_false, cond_true, List.getElem?_cons_succ, List.getElem?_cons_zero, Int.reduceToNat, Nat.reduceMod, Nat.reduceDiv, Nat.reduceAdd, true_and, and_true, mm_set, mm_set2, mm_pop, List.length_cons, List.length_nil, Nat.reduceLeDiff, Int32.reduceOfInt, Int64.reduceOfInt, nar_b0, nar_b1, List.cons_append, List.nil_append, Option.toList_some, Option.toList_none, List.map_cons, List.map_nil, List.sum_cons, List.sum_nil, cat_i, cat_r, cat_l, Nat.zero_le, Int32.reduceOfNat, Int32.reduceAdd, Int32.reduceLT, Int32.reduceLE, forall_const, true_implies, false_implies, not_false_eq_true, not_true_eq_false, bi_eq0, bi_ne0, sl_0, sl_3, va_rf, Nat.reduceEqDiff, if_false, ite_false, ite_true, reduceIte, List.set_cons_zero, List.set_cons_succ, Nat.succ_eq_add_one, mup_c, mup_s, mw_zero, ne_eq, lit_10, lit_01, lit_m10, lit_m11, nar_bi]
  refine m_isSign (d := d + 3 * f + 5) ?_
  refine mw_ok (M := mX12_compare) (fun _ => false) okTX12 rfl 20 _ _ _ _ ?_
  simp only [eX12_compare_0, eX12_compare_1, eX12_compare_4, eX12_compare_5, eX12_compare_8, eX12_compare_9, eX12_compare_12, eX12_compare_15, eX12_compare_16, eX12_compare_17, eX12_compare_18, eX12_compare_21, eX12_compare_24, eX12_compare_25, eX12_compare_28, eX12_compare_29, eX12_compare_30, eX12_compare_31, eX12_compare_34, eX12_compare_35, eX12_compare_36, eX12_compare_39, eX12_compare_40, eX12_compare_43, eX12_compare_44, eX12_compare_45, eX12_compare_47, eX12_compare_50, eX12_compare_52, eX12_compare_55, eX12_compare_56, eX12_compare_58, eX12_compare_61, eX12_compare_63, eX12_compare_66, eX12_compare_68, eX12_compare_69, eX12_compare_72, st_aload, st_dupi, st_dupr, st_goto, st_iadd, st_iconst, st_if_eq, st_if_ne, st_if_lt, st_if_ge, st_if_gt, st_if_le, st_ic_eq, st_ic_ne, st_ic_lt, st_ic_ge, st_ic_gt, st_ic_le, st_iload, st_ins, st_inv, st_istore, st_ret, gf_56_1203, gf_56_1204, pf_56_1203, HP_56, tab_135, tab_136, tab_138, tab_145, tab_146, mm_cut, cond_false, cond_true, List.getElem?_cons_succ, List.getElem?_cons_zero, Int.reduceToNat, Nat.reduceMod, Nat.reduceDiv, Nat.reduceAdd, true_and, and_true, mm_set, mm_set2, mm_pop, List.length_cons, List.length_nil, Nat.reduceLeDiff, Int32.reduceOfInt, Int64.reduceOfInt, nar_b0, nar_b1, List.cons_append, List.nil_append, Option.toList_some, Option.toList_none, List.map_cons, List.map_nil, List.sum_cons, List.sum_nil, cat_i, cat_r, cat_l, Nat.zero_le, Int32.reduceOfNat, Int32.reduceAdd, Int32.reduceLT, Int32.reduceLE, forall_const, true_implies, false_implies, not_false_eq_true, not_true_eq_false, bi_eq0, bi_ne0, sl_0, sl_3, va_rf, Nat.reduceEqDiff, if_false, ite_false, ite_true, reduceIte, List.set_cons_zero, List.set_cons_succ, Nat.succ_eq_add_one, mup_c, mup_s, mw_zero, ne_eq, lit_10, lit_01, lit_m10, lit_m11, nar_bi, hM1.2.1]
  have hQ' : ∀ (μ' : mm_mu) (x : PR), pCmp (μ0 57) sz (pSum (μ0 57) sz f) a [] = x → PO μ0 n sz dp a ts x μ' → Q none (HP ε μ') := fun μ' x hx hp => hQ μ' (by show PO μ0 n sz dp a ts (pCmp (μ0 57) sz (pSum (μ0 57) sz f) a []) μ'; rw [hx]; exact hp)
  unfold pCmp at hQ'
  generalize hc : chr (μ0 57) sz (sk (μ0 57) sz a) = c at hQ'
  refine ⟨fun h1 => ?_, fun h1 => ?_⟩
  · have h1 := h1
    rw [if_pos (by first | exact h1 | exact Classical.not_not.mp h1)] at hQ'
    have h1 : sgn c := by first | exact h1 | exact Classical.not_not.mp h1
    have hlt : sk (μ0 57) sz a < sz := chr_lt (tx := μ0 57) (by rw [hc]; intro z; rw [z] at h1; revert h1; decide)
    have hM2 := hM1.at (b := sk (μ0 57) sz a + 1) (x := nI (sk (μ0 57) sz a) + 1) (by rw [← nI_succ])
    rw [show d + 3 * f + 6 = d + (3 * f + 6) by omega]
    refine m_sumF f _ _ _ _ _ _ _ _ _ _ r hM2 hdp (by omega) (by omega) ?_
    intro μ3 hp
    rw [show d + (3 * f + 6) = d + 3 * f + 6 by omega]
    have hok := pSum_ok (tx := μ0 57) (sz := sz) f (sk (μ0 57) sz a + 1) (by omega)
    dsimp only at hp
    have fin : ∀ op : Int32, op = (if c = 61 then 6 else if c = 60 then 7 else 8) → B0 (d + 3 * f + 6) mX12_put [.ref 56, .int op, .int 0] (HP ε μ3) (fun v h' => G0 (d + 3 * f + 6 + 1) mX12_compare Q 72 [.ref 56, .int c] (v.toList ++ []) h') := by
      intro op hop
      cases hT : pSum (μ0 57) sz f (sk (μ0 57) sz a + 1) with
      | inl p =>
        rw [hT] at hp hQ' hok
        obtain ⟨a', dp', ts', q1, q2, q3, q4⟩ := hp
        refine m_put (d := d + 3 * f + 5) r q1 (by omega) ?_
        intro μ4 hM4
        refine mw_ok (M := mX12_compare) (fun _ => false) okTX12 rfl 20 _ _ _ _ ?_
        simp only [eX12_compare_0, eX12_compare_1, eX12_compare_4, eX12_compare_5, eX12_compare_8, eX12_compare_9, eX12_compare_12, eX12_compare_15, eX12_compare_16, eX12_compare_17, eX12_compare_18, eX12_compare_21, eX12_compare_24, eX12_compare_25, eX12_compare_28, eX12_compare_29, eX12_compare_30, eX12_compare_31, eX12_compare_34, eX12_compare_35, eX12_compare_36, eX12_compare_39, eX12_compare_40, eX12_compare_43, eX12_compare_44, eX12_compare_45, eX12_compare_47, eX12_compare_50, eX12_compare_52, eX12_compare_55, eX12_compare_56, eX12_compare_58, eX12_compare_61, eX12_compare_63, eX12_compare_66, eX12_compare_68, eX12_compare_69, eX12_compare_72, st_aload, st_dupi, st_dupr, st_goto, st_iadd, st_iconst, st_if_eq, st_if_ne, st_if_lt, st_if_ge, st_if_gt, st_if_le, st_ic_eq, st_ic_ne, st_ic_lt, st_ic_ge, st_ic_gt, st_ic_le, st_iload, st_ins, st_inv, st_istore, st_ret, gf_56_1203, gf_56_1204, pf_56_1203, HP_56, tab_135, tab_136, tab_138, tab_145, tab_146, mm_cut, cond_false, cond_true, List.getElem?_cons_succ, List.getElem?_cons_zero, Int.reduceToNat, Nat.reduceMod, Nat.reduceDiv, Nat.reduceAdd, true_and, and_true, mm_set, mm_set2, mm_pop, List.length_cons, List.length_nil, Nat.reduceLeDiff, Int32.reduceOfInt, Int64.reduceOfInt, nar_b0, nar_b1, List.cons_append, List.nil_append, Option.toList_some, Option.toList_none, List.map_cons, List.map_nil, List.sum_cons, List.sum_nil, cat_i, cat_r, cat_l, Nat.zero_le, Int32.reduceOfNat, Int32.reduceAdd, Int32.reduceLT, Int32.reduceLE, forall_const, true_implies, false_implies, not_false_eq_true, not_true_eq_false, bi_eq0, bi_ne0, sl_0, sl_3, va_rf, Nat.reduceEqDiff, if_false, ite_false, ite_true, reduceIte, List.set_cons_zero, List.set_cons_succ, Nat.succ_eq_add_one, mup_c, mup_s, mw_zero, ne_eq, lit_10, lit_01, lit_m10, lit_m11, nar_bi]
        exact hQ' _ _ rfl ⟨_, _, _, hM4, q2, q3, by simp only [List.length_append, List.length_cons, List.length_nil]; omega⟩
      | inr q =>
        obtain ⟨b, us⟩ := q
        rw [hT] at hp hQ' hok
        obtain ⟨g1, g2, g3⟩ := hok
        refine m_put (d := d + 3 * f + 5) r hp (by simp only [List.length_append]; omega) ?_
        intro μ4 hM4
        refine mw_ok (M := mX12_compare) (fun _ => false) okTX12 rfl 20 _ _ _ _ ?_
        simp only [eX12_compare_0, eX12_compare_1, eX12_compare_4, eX12_compare_5, eX12_compare_8, eX12_compare_9, eX12_compare_12, eX12_compare_15, eX12_compare_16, eX12_compare_17, eX12_compare_18, eX12_compare_21, eX12_compare_24, eX12_compare_25, eX12_compare_28, eX12_compare_29, eX12_compare_30, eX12_compare_31, eX12_compare_34, eX12_compare_35, eX12_compare_36, eX12_compare_39, eX12_compare_40, eX12_compare_43, eX12_compare_44, eX12_compare_45, eX12_compare_47, eX12_compare_50, eX12_compare_52, eX12_compare_55, eX12_compare_56, eX12_compare_58, eX12_compare_61, eX12_compare_63, eX12_compare_66, eX12_compare_68, eX12_compare_69, eX12_compare_72, st_aload, st_dupi, st_dupr, st_goto, st_iadd, st_iconst, st_if_eq, st_if_ne, st_if_lt, st_if_ge, st_if_gt, st_if_le, st_ic_eq, st_ic_ne, st_ic_lt, st_ic_ge, st_ic_gt, st_ic_le, st_iload, st_ins, st_inv, st_istore, st_ret, gf_56_1203, gf_56_1204, pf_56_1203, HP_56, tab_135, tab_136, tab_138, tab_145, tab_146, mm_cut, cond_false, cond_true, List.getElem?_cons_succ, List.getElem?_cons_zero, Int.reduceToNat, Nat.reduceMod, Nat.reduceDiv, Nat.reduceAdd, true_and, and_true, mm_set, mm_set2, mm_pop, List.length_cons, List.length_nil, Nat.reduceLeDiff, Int32.reduceOfInt, Int64.reduceOfInt, nar_b0, nar_b1, List.cons_append, List.nil_append, Option.toList_some, Option.toList_none, List.map_cons, List.map_nil, List.sum_cons, List.sum_nil, cat_i, cat_r, cat_l, Nat.zero_le, Int32.reduceOfNat, Int32.reduceAdd, Int32.reduceLT, Int32.reduceLE, forall_const, true_implies, false_implies, not_false_eq_true, not_true_eq_false, bi_eq0, bi_ne0, sl_0, sl_3, va_rf, Nat.reduceEqDiff, if_false, ite_false, ite_true, reduceIte, List.set_cons_zero, List.set_cons_succ, Nat.succ_eq_add_one, mup_c, mup_s, mw_zero, ne_eq, lit_10, lit_01, lit_m10, lit_m11, nar_bi]
        refine hQ' _ _ rfl ?_
        show MP μ0 μ4 n b (-1) dp (ts ++ ([] ++ us ++ [(_, 0)]))
        rw [List.nil_append, ← List.append_assoc, ← hop]; exact hM4
    refine mw_ok (M := mX12_compare) (fun _ => false) okTX12 rfl 20 _ _ _ _ ?_
    simp only [eX12_compare_0, eX12_compare_1, eX12_compare_4, eX12_compare_5, eX12_compare_8, eX12_compare_9, eX12_compare_12, eX12_compare_15, eX12_compare_16, eX12_compare_17, eX12_compare_18, eX12_compare_21, eX12_compare_24, eX12_compare_25, eX12_compare_28, eX12_compare_29, eX12_compare_30, eX12_compare_31, eX12_compare_34, eX12_compare_35, eX12_compare_36, eX12_compare_39, eX12_compare_40, eX12_compare_43, eX12_compare_44, eX12_compare_45, eX12_compare_47, eX12_compare_50, eX12_compare_52, eX12_compare_55, eX12_compare_56, eX12_compare_58, eX12_compare_61, eX12_compare_63, eX12_compare_66, eX12_compare_68, eX12_compare_69, eX12_compare_72, st_aload, st_dupi, st_dupr, st_goto, st_iadd, st_iconst, st_if_eq, st_if_ne, st_if_lt, st_if_ge, st_if_gt, st_if_le, st_ic_eq, st_ic_ne, st_ic_lt, st_ic_ge, st_ic_gt, st_ic_le, st_iload, st_ins, st_inv, st_istore, st_ret, gf_56_1203, gf_56_1204, pf_56_1203, HP_56, tab_135, tab_136, tab_138, tab_145, tab_146, mm_cut, cond_false, cond_true, List.getElem?_cons_succ, List.getElem?_cons_zero, Int.reduceToNat, Nat.reduceMod, Nat.reduceDiv, Nat.reduceAdd, true_and, and_true, mm_set, mm_set2, mm_pop, List.length_cons, List.length_nil, Nat.reduceLeDiff, Int32.reduceOfInt, Int64.reduceOfInt, nar_b0, nar_b1, List.cons_append, List.nil_append, Option.toList_some, Option.toList_none, List.map_cons, List.map_nil, List.sum_cons, List.sum_nil, cat_i, cat_r, cat_l, Nat.zero_le, Int32.reduceOfNat, Int32.reduceAdd, Int32.reduceLT, Int32.reduceLE, forall_const, true_implies, false_implies, not_false_eq_true, not_true_eq_false, bi_eq0, bi_ne0, sl_0, sl_3, va_rf, Nat.reduceEqDiff, if_false, ite_false, ite_true, reduceIte, List.set_cons_zero, List.set_cons_succ, Nat.succ_eq_add_one, mup_c, mup_s, mw_zero, ne_eq, lit_10, lit_01, lit_m10, lit_m11, nar_bi]
    refine ⟨fun h2 => ⟨fun h3 => ?_, fun h3 => ?_⟩, fun h2 => ?_⟩
    · exact fin _ (by rw [if_neg h2, if_neg h3])
    · exact fin _ (by rw [if_neg h2, if_pos h3])
    · exact fin _ (by rw [if_pos h2])
  · rw [if_neg (by first | exact h1 | exact fun z => h1 z)] at hQ'
    refine m_bad (d := d + 3 * f + 5) hM1 ?_
    intro μ3 hM3
    refine mw_ok (M := mX12_compare) (fun _ => false) okTX12 rfl 20 _ _ _ _ ?_
    simp only [eX12_compare_0, eX12_compare_1, eX12_compare_4, eX12_compare_5, eX12_compare_8, eX12_compare_9, eX12_compare_12, eX12_compare_15, eX12_compare_16, eX12_compare_17, eX12_compare_18, eX12_compare_21, eX12_compare_24, eX12_compare_25, eX12_compare_28, eX12_compare_29, eX12_compare_30, eX12_compare_31, eX12_compare_34, eX12_compare_35, eX12_compare_36, eX12_compare_39, eX12_compare_40, eX12_compare_43, eX12_compare_44, eX12_compare_45, eX12_compare_47, eX12_compare_50, eX12_compare_52, eX12_compare_55, eX12_compare_56, eX12_compare_58, eX12_compare_61, eX12_compare_63, eX12_compare_66, eX12_compare_68, eX12_compare_69, eX12_compare_72, st_aload, st_dupi, st_dupr, st_goto, st_iadd, st_iconst, st_if_eq, st_if_ne, st_if_lt, st_if_ge, st_if_gt, st_if_le, st_ic_eq, st_ic_ne, st_ic_lt, st_ic_ge, st_ic_gt, st_ic_le, st_iload, st_ins, st_inv, st_istore, st_ret, gf_56_1203, gf_56_1204, pf_56_1203, HP_56, tab_135, tab_136, tab_138, tab_145, tab_146, mm_cut, cond_false, cond_true, List.getElem?_cons_succ, List.getElem?_cons_zero, Int.reduceToNat, Nat.reduceMod, Nat.reduceDiv, Nat.reduceAdd, true_and, and_true, mm_set, mm_set2, mm_pop, List.length_cons, List.length_nil, Nat.reduceLeDiff, Int32.reduceOfInt, Int64.reduceOfInt, nar_b0, nar_b1, List.cons_append, List.nil_append, Option.toList_some, Option.toList_none, List.map_cons, List.map_nil, List.sum_cons, List.sum_nil, cat_i, cat_r, cat_l, Nat.zero_le, Int32.reduceOfNat, Int32.reduceAdd, Int32.reduceLT, Int32.reduceLE, forall_const, true_implies, false_implies, not_false_eq_true, not_true_eq_false, bi_eq0, bi_ne0, sl_0, sl_3, va_rf, Nat.reduceEqDiff, if_false, ite_false, ite_true, reduceIte, List.set_cons_zero, List.set_cons_succ, Nat.succ_eq_add_one, mup_c, mup_s, mw_zero, ne_eq, lit_10, lit_01, lit_m10, lit_m11, nar_bi]
    exact hQ' _ _ rfl ⟨_, _, _, hM3, by omega, Nat.le_refl _, by omega⟩
theorem m_goOnAnd_w {d : Nat} {ε : mm_X} {μ0 μ : mm_mu} {Q : mm_Q0} {n a dp : Nat} {w : Int32} {ts : List Tk} (hM : MP μ0 μ n a w dp ts) (hw : ¬ w = -1) (hQ : Q none (HP ε μ)) : G0 (d + 1) mX12_goOnAnd Q 0 [.ref 56] [] (HP ε μ) := by
  refine mw_ok (M := mX12_goOnAnd) (fun q => q == 0) okTX12 rfl 20 _ _ _ _ ?_
  simp only [eX12_goOnAnd_0, eX12_goOnAnd_1, eX12_goOnAnd_4, eX12_goOnAnd_5, eX12_goOnAnd_8, eX12_goOnAnd_9, eX12_goOnAnd_12, eX12_goOnAnd_14, eX12_goOnAnd_17, eX12_goOnAnd_18, eX12_goOnAnd_19, eX12_goOnAnd_22, eX12_goOnAnd_23, eX12_goOnAnd_24, eX12_goOnAnd_27, eX12_goOnAnd_28, eX12_goOnAnd_31, eX12_goOnAnd_32, eX12_goOnAnd_34, eX12_goOnAnd_35, eX12_goOnAnd_38, eX12_goOnAnd_41, st_aload, st_dupi, st_dupr, st_goto, st_iadd, st_iconst, st_ic_eq, st_ic_ne, st_ic_lt, st_ic_ge, st_ic_gt, st_ic_le, st_inv, st_ret, gf_56_1203, gf_56_1204, pf_56_1203, HP_56, tab_135, tab_138, tab_148, mm_cut, cond_false, cond_true, List.getElem?_cons_succ, List.getElem?_cons_zero, Int.reduceToNat, Nat.reduceMod, Nat.reduceDiv, Nat.reduceAdd, true_and, and_true, mm_set, mm_set2, mm_pop, List.length_cons, List.length_nil, Nat.reduceLeDiff, Int32.reduceOfInt, Int64.reduceOfInt, nar_b0, nar_b1, List.cons_append, List.nil_append, Option.toList_some, Option.toList_none, List.map_cons, List.map_nil, List.sum_cons, List.sum_nil, cat_i, cat_r, cat_l, Nat.zero_le, Int32.reduceOfNat, Int32.reduceAdd, Int32.reduceLT, Int32.reduceLE, forall_const, true_implies, false_implies, not_false_eq_true, not_true_eq_false, bi_eq0, bi_ne0, sl_0, sl_3, va_rf, Nat.reduceEqDiff, if_false, ite_false, ite_true, reduceIte, List.set_cons_zero, List.set_cons_succ, Nat.succ_eq_add_one, mup_c, mup_s, mw_zero, ne_eq, lit_10, lit_01, lit_m10, lit_m11, nar_bi, hM.2.2.1, eq_false hw, Nat.reduceBEq, Bool.or_false, Bool.false_or, Bool.or_true, Bool.true_or]
  exact hQ
theorem m_goOnAnd_wB {d : Nat} {ε : mm_X} {μ0 μ : mm_mu} {Q : mm_Q0} {n a dp : Nat} {w : Int32} {ts : List Tk} (hM : MP μ0 μ n a w dp ts) (hw : ¬ w = -1) (hQ : Q none (HP ε μ)) : B0 (d + 1) mX12_goOnAnd [.ref 56] (HP ε μ) Q := by
  refine b0_of_G0 (lv := [.ref 56]) (by decide +kernel) (Nat.le_of_ble_eq_true rfl) rfl ?_
  exact m_goOnAnd_w hM hw hQ
theorem m_goOnOr_w {d : Nat} {ε : mm_X} {μ0 μ : mm_mu} {Q : mm_Q0} {n a dp : Nat} {w : Int32} {ts : List Tk} (hM : MP μ0 μ n a w dp ts) (hw : ¬ w = -1) (hQ : Q none (HP ε μ)) : G0 (d + 1) mX12_goOnOr Q 0 [.ref 56] [] (HP ε μ) := by
  refine mw_ok (M := mX12_goOnOr) (fun q => q == 0) okTX12 rfl 20 _ _ _ _ ?_
  simp only [eX12_goOnOr_0, eX12_goOnOr_1, eX12_goOnOr_4, eX12_goOnOr_5, eX12_goOnOr_8, eX12_goOnOr_9, eX12_goOnOr_12, eX12_goOnOr_14, eX12_goOnOr_17, eX12_goOnOr_18, eX12_goOnOr_19, eX12_goOnOr_22, eX12_goOnOr_23, eX12_goOnOr_24, eX12_goOnOr_27, eX12_goOnOr_28, eX12_goOnOr_31, eX12_goOnOr_32, eX12_goOnOr_35, eX12_goOnOr_36, eX12_goOnOr_38, eX12_goOnOr_39, eX12_goOnOr_42, eX12_goOnOr_45, st_aload, st_dupi, st_dupr, st_goto, st_iadd, st_iconst, st_ic_eq, st_ic_ne, st_ic_lt, st_ic_ge, st_ic_gt, st_ic_le, st_inv, st_ret, gf_56_1203, gf_56_1204, pf_56_1203, HP_56, tab_135, tab_138, tab_148, tab_149, mm_cut, cond_false, cond_true, List.getElem?_cons_succ, List.getElem?_cons_zero, Int.reduceToNat, Nat.reduceMod, Nat.reduceDiv, Nat.reduceAdd, true_and, and_true, mm_set, mm_set2, mm_pop, List.length_cons, List.length_nil, Nat.reduceLeDiff, Int32.reduceOfInt, Int64.reduceOfInt, nar_b0, nar_b1, List.cons_append, List.nil_append, Option.toList_some, Option.toList_none, List.map_cons, List.map_nil, List.sum_cons, List.sum_nil, cat_i, cat_r, cat_l, Nat.zero_le, Int32.reduceOfNat, Int32.reduceAdd, Int32.reduceLT, Int32.reduceLE, forall_const, true_implies, false_implies, not_false_eq_true, not_true_eq_false, bi_eq0, bi_ne0, sl_0, sl_3, va_rf, Nat.reduceEqDiff, if_false, ite_false, ite_true, reduceIte, List.set_cons_zero, List.set_cons_succ, Nat.succ_eq_add_one, mup_c, mup_s, mw_zero, ne_eq, lit_10, lit_01, lit_m10, lit_m11, nar_bi, hM.2.2.1, eq_false hw, Nat.reduceBEq, Bool.or_false, Bool.false_or, Bool.or_true, Bool.true_or]
  exact hQ
theorem m_goOnOr_wB {d : Nat} {ε : mm_X} {μ0 μ : mm_mu} {Q : mm_Q0} {n a dp : Nat} {w : Int32} {ts : List Tk} (hM : MP μ0 μ n a w dp ts) (hw : ¬ w = -1) (hQ : Q none (HP ε μ)) : B0 (d + 1) mX12_goOnOr [.ref 56] (HP ε μ) Q := by
  refine b0_of_G0 (lv := [.ref 56]) (by decide +kernel) (Nat.le_of_ble_eq_true rfl) rfl ?_
  exact m_goOnOr_w hM hw hQ
set_option maxRecDepth 4000 in
theorem m_goOnAnd {f : Nat} (hU : RdC mX12_unit (4 * f + 8) (fun tx sz => pUnit tx sz f) f) : RdC mX12_goOnAnd (4 * f + 9) (fun tx sz a => pAndL tx sz (pUnit tx sz f) 240 a []) f := by
  intro d ε μ0 μ Q n a sz dp ts r hM hdp ha hts hQ
  have h240 := r.2.2.2
  rw [show d + (4 * f + 9) = d + 4 * f + 8 + 1 by omega]
  have key : ∀ (m b : Nat) (us : List Tk) (μ : mm_mu), sz ≤ b + m → a ≤ b → b ≤ sz → us.length ≤ b - a → (∀ μ', PO μ0 n sz dp a ts (pAndL (μ0 57) sz (pUnit (μ0 57) sz f) m b us) μ' → Q none (HP ε μ')) → MP μ0 μ n b (-1) dp (ts ++ us) → G0 (d + 4 * f + 8 + 1) mX12_goOnAnd Q 0 [.ref 56] [] (HP ε μ) := by
    intro m
    induction m with
    | zero =>
      intro b us μ hm h1 h2 h3 hQ hM
      have e1 : sk (μ0 57) sz b = b := sk_ge (by omega)
      have e2 : chr (μ0 57) sz b = -1 := chr_ge (by omega)
      refine mw_ok (M := mX12_goOnAnd) (fun q => q == 0) okTX12 rfl 20 _ _ _ _ ?_
      simp only [eX12_goOnAnd_0, eX12_goOnAnd_1, eX12_goOnAnd_4, eX12_goOnAnd_5, eX12_goOnAnd_8, eX12_goOnAnd_9, eX12_goOnAnd_12, eX12_goOnAnd_14, eX12_goOnAnd_17, eX12_goOnAnd_18, eX12_goOnAnd_19, eX12_goOnAnd_22, eX12_goOnAnd_23, eX12_goOnAnd_24, eX12_goOnAnd_27, eX12_goOnAnd_28, eX12_goOnAnd_31, eX12_goOnAnd_32, eX12_goOnAnd_34, eX12_goOnAnd_35, eX12_goOnAnd_38, eX12_goOnAnd_41, st_aload, st_dupi, st_dupr, st_goto, st_iadd, st_iconst, st_ic_eq, st_ic_ne, st_ic_lt, st_ic_ge, st_ic_gt, st_ic_le, st_inv, st_ret, gf_56_1203, gf_56_1204, pf_56_1203, HP_56, tab_135, tab_138, tab_148, mm_cut, cond_false, cond_true, List.getElem?_cons_succ, List.getElem?_cons_zero, Int.reduceToNat, Nat.reduceMod, Nat.reduceDiv, Nat.reduceAdd, true_and, and_true, mm_set, mm_set2, mm_pop, List.length_cons, List.length_nil, Nat.reduceLeDiff, Int32.reduceOfInt, Int64.reduceOfInt, nar_b0, nar_b1, List.cons_append, List.nil_append, Option.toList_some, Option.toList_none, List.map_cons, List.map_nil, List.sum_cons, List.sum_nil, cat_i, cat_r, cat_l, Nat.zero_le, Int32.reduceOfNat, Int32.reduceAdd, Int32.reduceLT, Int32.reduceLE, forall_const, true_implies, false_implies, not_false_eq_true, not_true_eq_false, bi_eq0, bi_ne0, sl_0, sl_3, va_rf, Nat.reduceEqDiff, if_false, ite_false, ite_true, reduceIte, List.set_cons_zero, List.set_cons_succ, Nat.succ_eq_add_one, mup_c, mup_s, mw_zero, ne_eq, lit_10, lit_01, lit_m10, lit_m11, nar_bi, hM.2.2.1, Nat.reduceBEq, Bool.or_false, Bool.false_or, Bool.or_true, Bool.true_or]
      refine m_lookB (d := d + 4 * f + 6) r hM (by omega) ?_
      intro μ1 hM1
      rw [e1] at hM1
      rw [e1, e2]
      refine mw_ok (M := mX12_goOnAnd) (fun q => q == 0) okTX12 rfl 20 _ _ _ _ ?_
      simp (decide := true) only [eX12_goOnAnd_0, eX12_goOnAnd_1, eX12_goOnAnd_4, eX12_goOnAnd_5, eX12_goOnAnd_8, eX12_goOnAnd_9, eX12_goOnAnd_12, eX12_goOnAnd_14, eX12_goOnAnd_17, eX12_goOnAnd_18, eX12_goOnAnd_19, eX12_goOnAnd_22, eX12_goOnAnd_23, eX12_goOnAnd_24, eX12_goOnAnd_27, eX12_goOnAnd_28, eX12_goOnAnd_31, eX12_goOnAnd_32, eX12_goOnAnd_34, eX12_goOnAnd_35, eX12_goOnAnd_38, eX12_goOnAnd_41, st_aload, st_dupi, st_dupr, st_goto, st_iadd, st_iconst, st_ic_eq, st_ic_ne, st_ic_lt, st_ic_ge, st_ic_gt, st_ic_le, st_inv, st_ret, gf_56_1203, gf_56_1204, pf_56_1203, HP_56, tab_135, tab_138, tab_148, mm_cut, cond_false, cond_true, List.getElem?_cons_succ, List.getElem?_cons_zero, Int.reduceToNat, Nat.reduceMod, Nat.reduceDiv, Nat.reduceAdd, true_and, and_true, mm_set, mm_set2, mm_pop, List.length_cons, List.length_nil, Nat.reduceLeDiff, Int32.reduceOfInt, Int64.reduceOfInt, nar_b0, nar_b1, List.cons_append, List.nil_append, Option.toList_some, Option.toList_none, List.map_cons, List.map_nil, List.sum_cons, List.sum_nil, cat_i, cat_r, cat_l, Nat.zero_le, Int32.reduceOfNat, Int32.reduceAdd, Int32.reduceLT, Int32.reduceLE, forall_const, true_implies, false_implies, not_false_eq_true, not_true_eq_false, bi_eq0, bi_ne0, sl_0, sl_3, va_rf, Nat.reduceEqDiff, if_false, ite_false, ite_true, reduceIte, List.set_cons_zero, List.set_cons_succ, Nat.succ_eq_add_one, mup_c, mup_s, mw_zero, ne_eq, lit_10, lit_01, lit_m10, lit_m11, nar_bi, Nat.reduceBEq, Bool.or_false, Bool.false_or, Bool.or_true, Bool.true_or]
      exact hQ _ hM1
    | succ m ih =>
      intro b us μ hm h1 h2 h3 hQ hM
      have hk := sk_sz (tx := μ0 57) h2
      have hk2 := sk_le (tx := μ0 57) (sz := sz) b
      rw [pAndL] at hQ
      refine mw_ok (M := mX12_goOnAnd) (fun q => q == 0) okTX12 rfl 20 _ _ _ _ ?_
      simp only [eX12_goOnAnd_0, eX12_goOnAnd_1, eX12_goOnAnd_4, eX12_goOnAnd_5, eX12_goOnAnd_8, eX12_goOnAnd_9, eX12_goOnAnd_12, eX12_goOnAnd_14, eX12_goOnAnd_17, eX12_goOnAnd_18, eX12_goOnAnd_19, eX12_goOnAnd_22, eX12_goOnAnd_23, eX12_goOnAnd_24, eX12_goOnAnd_27, eX12_goOnAnd_28, eX12_goOnAnd_31, eX12_goOnAnd_32, eX12_goOnAnd_34, eX12_goOnAnd_35, eX12_goOnAnd_38, eX12_goOnAnd_41, st_aload, st_dupi, st_dupr, st_goto, st_iadd, st_iconst, st_ic_eq, st_ic_ne, st_ic_lt, st_ic_ge, st_ic_gt, st_ic_le, st_inv, st_ret, gf_56_1203, gf_56_1204, pf_56_1203, HP_56, tab_135, tab_138, tab_148, mm_cut, cond_false, cond_true, List.getElem?_cons_succ, List.getElem?_cons_zero, Int.reduceToNat, Nat.reduceMod, Nat.reduceDiv, Nat.reduceAdd, true_and, and_true, mm_set, mm_set2, mm_pop, List.length_cons, List.length_nil, Nat.reduceLeDiff, Int32.reduceOfInt, Int64.reduceOfInt, nar_b0, nar_b1, List.cons_append, List.nil_append, Option.toList_some, Option.toList_none, List.map_cons, List.map_nil, List.sum_cons, List.sum_nil, cat_i, cat_r, cat_l, Nat.zero_le, Int32.reduceOfNat, Int32.reduceAdd, Int32.reduceLT, Int32.reduceLE, forall_const, true_implies, false_implies, not_false_eq_true, not_true_eq_false, bi_eq0, bi_ne0, sl_0, sl_3, va_rf, Nat.reduceEqDiff, if_false, ite_false, ite_true, reduceIte, List.set_cons_zero, List.set_cons_succ, Nat.succ_eq_add_one, mup_c, mup_s, mw_zero, ne_eq, lit_10, lit_01, lit_m10, lit_m11, nar_bi, hM.2.2.1, Nat.reduceBEq, Bool.or_false, Bool.false_or, Bool.or_true, Bool.true_or]
      refine m_lookB (d := d + 4 * f + 6) r hM (by omega) ?_
      intro μ1 hM1
      refine mw_ok (M := mX12_goOnAnd) (fun q => q == 0) okTX12 rfl 20 _ _ _ _ ?_
      simp only [eX12_goOnAnd_0, eX12_goOnAnd_1, eX12_goOnAnd_4, eX12_goOnAnd_5, eX12_goOnAnd_8, eX12_goOnAnd_9, eX12_goOnAnd_12, eX12_goOnAnd_14, eX12_goOnAnd_17, eX12_goOnAnd_18, eX12_goOnAnd_19, eX12_goOnAnd_22, eX12_goOnAnd_23, eX12_goOnAnd_24, eX12_goOnAnd_27, eX12_goOnAnd_28, eX12_goOnAnd_31, eX12_goOnAnd_32, eX12_goOnAnd_34, eX12_goOnAnd_35, eX12_goOnAnd_38, eX12_goOnAnd_41, st_aload, st_dupi, st_dupr, st_goto, st_iadd, st_iconst, st_ic_eq, st_ic_ne, st_ic_lt, st_ic_ge, st_ic_gt, st_ic_le, st_inv, st_ret, gf_56_1203, gf_56_1204, pf_56_1203, HP_56, tab_135, tab_138, tab_148, mm_cut, cond_false, cond_true, List.getElem?_cons_succ, List.getElem?_cons_zero, Int.reduceToNat, Nat.reduceMod, Nat.reduceDiv, Nat.reduceAdd, true_and, and_true, mm_set, mm_set2, mm_pop, List.length_cons, List.length_nil, Nat.reduceLeDiff, Int32.reduceOfInt, Int64.reduceOfInt, nar_b0, nar_b1, List.cons_append, List.nil_append, Option.toList_some, Option.toList_none, List.map_cons, List.map_nil, List.sum_cons, List.sum_nil, cat_i, cat_r, cat_l, Nat.zero_le, Int32.reduceOfNat, Int32.reduceAdd, Int32.reduceLT, Int32.reduceLE, forall_const, true_implies, false_implies, not_false_eq_true, not_true_eq_false, bi_eq0, bi_ne0, sl_0, sl_3, va_rf, Nat.reduceEqDiff, if_false, ite_false, ite_true, reduceIte, List.set_cons_zero, List.set_cons_succ, Nat.succ_eq_add_one, mup_c, mup_s, mw_zero, ne_eq, lit_10, lit_01, lit_m10, lit_m11, nar_bi, hM1.2.1, Nat.reduceBEq, Bool.or_false, Bool.false_or, Bool.or_true, Bool.true_or]
      refine ⟨fun hc => ?_, fun hc => ?_⟩
      · rw [if_neg hc] at hQ
        exact hQ _ hM1
      · rw [if_pos hc] at hQ
        have hlt : sk (μ0 57) sz b < sz := chr_lt (tx := μ0 57) (by rw [hc]; decide)
        have hM2 := hM1.at (b := sk (μ0 57) sz b + 1) (x := nI (sk (μ0 57) sz b) + 1) (by rw [← nI_succ])
        rw [show d + 4 * f + 8 = d + (4 * f + 8) by omega]
        refine hU _ _ _ _ _ _ _ _ _ _ r hM2 hdp (by omega) (by simp only [List.length_append]; omega) ?_
        intro μ3 hp
        rw [show d + (4 * f + 8) = d + 4 * f + 8 by omega]
        have hok := pUnit_ok (tx := μ0 57) (sz := sz) f (sk (μ0 57) sz b + 1) (by omega)
        dsimp only at hp
        refine mw_ok (M := mX12_goOnAnd) (fun q => q == 0) okTX12 rfl 20 _ _ _ _ ?_
        simp only [eX12_goOnAnd_0, eX12_goOnAnd_1, eX12_goOnAnd_4, eX12_goOnAnd_5, eX12_goOnAnd_8, eX12_goOnAnd_9, eX12_goOnAnd_12, eX12_goOnAnd_14, eX12_goOnAnd_17, eX12_goOnAnd_18, eX12_goOnAnd_19, eX12_goOnAnd_22, eX12_goOnAnd_23, eX12_goOnAnd_24, eX12_goOnAnd_27, eX12_goOnAnd_28, eX12_goOnAnd_31, eX12_goOnAnd_32, eX12_goOnAnd_34, eX12_goOnAnd_35, eX12_goOnAnd_38, eX12_goOnAnd_41, st_aload, st_dupi, st_dupr, st_goto, st_iadd, st_iconst, st_ic_eq, st_ic_ne, st_ic_lt, st_ic_ge, st_ic_gt, st_ic_le, st_inv, st_ret, gf_56_1203, gf_56_1204, pf_56_1203, HP_56, tab_135, tab_138, tab_148, mm_cut, cond_false, cond_true, List.getElem?_cons_succ, List.getElem?_cons_zero, Int.reduceToNat, Nat.reduceMod, Nat.reduceDiv, Nat.reduceAdd, true_and, and_true, mm_set, mm_set2, mm_pop, List.length_cons, List.length_nil, Nat.reduceLeDiff, Int32.reduceOfInt, Int64.reduceOfInt, nar_b0, nar_b1, List.cons_append, List.nil_append, Option.toList_some, Option.toList_none, List.map_cons, List.map_nil, List.sum_cons, List.sum_nil, cat_i, cat_r, cat_l, Nat.zero_le, Int32.reduceOfNat, Int32.reduceAdd, Int32.reduceLT, Int32.reduceLE, forall_const, true_implies, false_implies, not_false_eq_true, not_true_eq_false, bi_eq0, bi_ne0, sl_0, sl_3, va_rf, Nat.reduceEqDiff, if_false, ite_false, ite_true, reduceIte, List.set_cons_zero, List.set_cons_succ, Nat.succ_eq_add_one, mup_c, mup_s, mw_zero, ne_eq, lit_10, lit_01, lit_m10, lit_m11, nar_bi, Nat.reduceBEq, Bool.or_false, Bool.false_or, Bool.or_true, Bool.true_or]
        cases hT : pUnit (μ0 57) sz f (sk (μ0 57) sz b + 1) with
        | inl p =>
          rw [hT] at hp hQ hok
          have hpl : p ≤ sz := hok
          obtain ⟨a', dp', ts', q1, q2, q3, q4⟩ := hp
          refine m_put (d := d + 4 * f + 7) r q1 (by simp only [List.length_append] at q4; omega) ?_
          intro μ4 hM4
          refine mw_ok (M := mX12_goOnAnd) (fun q => q == 0) okTX12 rfl 20 _ _ _ _ ?_
          simp only [eX12_goOnAnd_0, eX12_goOnAnd_1, eX12_goOnAnd_4, eX12_goOnAnd_5, eX12_goOnAnd_8, eX12_goOnAnd_9, eX12_goOnAnd_12, eX12_goOnAnd_14, eX12_goOnAnd_17, eX12_goOnAnd_18, eX12_goOnAnd_19, eX12_goOnAnd_22, eX12_goOnAnd_23, eX12_goOnAnd_24, eX12_goOnAnd_27, eX12_goOnAnd_28, eX12_goOnAnd_31, eX12_goOnAnd_32, eX12_goOnAnd_34, eX12_goOnAnd_35, eX12_goOnAnd_38, eX12_goOnAnd_41, st_aload, st_dupi, st_dupr, st_goto, st_iadd, st_iconst, st_ic_eq, st_ic_ne, st_ic_lt, st_ic_ge, st_ic_gt, st_ic_le, st_inv, st_ret, gf_56_1203, gf_56_1204, pf_56_1203, HP_56, tab_135, tab_138, tab_148, mm_cut, cond_false, cond_true, List.getElem?_cons_succ, List.getElem?_cons_zero, Int.reduceToNat, Nat.reduceMod, Nat.reduceDiv, Nat.reduceAdd, true_and, and_true, mm_set, mm_set2, mm_pop, List.length_cons, List.length_nil, Nat.reduceLeDiff, Int32.reduceOfInt, Int64.reduceOfInt, nar_b0, nar_b1, List.cons_append, List.nil_append, Option.toList_some, Option.toList_none, List.map_cons, List.map_nil, List.sum_cons, List.sum_nil, cat_i, cat_r, cat_l, Nat.zero_le, Int32.reduceOfNat, Int32.reduceAdd, Int32.reduceLT, Int32.reduceLE, forall_const, true_implies, false_implies, not_false_eq_true, not_true_eq_false, bi_eq0, bi_ne0, sl_0, sl_3, va_rf, Nat.reduceEqDiff, if_false, ite_false, ite_true, reduceIte, List.set_cons_zero, List.set_cons_succ, Nat.succ_eq_add_one, mup_c, mup_s, mw_zero, ne_eq, lit_10, lit_01, lit_m10, lit_m11, nar_bi, Nat.reduceBEq, Bool.or_false, Bool.false_or, Bool.or_true, Bool.true_or]
          refine m_goOnAnd_w hM4 (nI_nm (by omega)) (hQ _ ?_)
          exact ⟨_, _, _, hM4, q2, q3, by simp only [List.length_append, List.length_cons, List.length_nil] at q4 ⊢; omega⟩
        | inr q =>
          obtain ⟨b2, us2⟩ := q
          rw [hT] at hp hQ hok
          obtain ⟨g1, g2, g3⟩ := hok
          refine m_put (d := d + 4 * f + 7) r hp (by simp only [List.length_append]; omega) ?_
          intro μ4 hM4
          refine mw_ok (M := mX12_goOnAnd) (fun q => q == 0) okTX12 rfl 20 _ _ _ _ ?_
          simp only [eX12_goOnAnd_0, eX12_goOnAnd_1, eX12_goOnAnd_4, eX12_goOnAnd_5, eX12_goOnAnd_8, eX12_goOnAnd_9, eX12_goOnAnd_12, eX12_goOnAnd_14, eX12_goOnAnd_17, eX12_goOnAnd_18, eX12_goOnAnd_19, eX12_goOnAnd_22, eX12_goOnAnd_23, eX12_goOnAnd_24, eX12_goOnAnd_27, eX12_goOnAnd_28, eX12_goOnAnd_31, eX12_goOnAnd_32, eX12_goOnAnd_34, eX12_goOnAnd_35, eX12_goOnAnd_38, eX12_goOnAnd_41, st_aload, st_dupi, st_dupr, st_goto, st_iadd, st_iconst, st_ic_eq, st_ic_ne, st_ic_lt, st_ic_ge, st_ic_gt, st_ic_le, st_inv, st_ret, gf_56_1203, gf_56_1204, pf_56_1203, HP_56, tab_135, tab_138, tab_148, mm_cut, cond_false, cond_true, List.getElem?_cons_succ, List.getElem?_cons_zero, Int.reduceToNat, Nat.reduceMod, Nat.reduceDiv, Nat.reduceAdd, true_and, and_true, mm_set, mm_set2, mm_pop, List.length_cons, List.length_nil, Nat.reduceLeDiff, Int32.reduceOfInt, Int64.reduceOfInt, nar_b0, nar_b1, List.cons_append, List.nil_append, Option.toList_some, Option.toList_none, List.map_cons, List.map_nil, List.sum_cons, List.sum_nil, cat_i, cat_r, cat_l, Nat.zero_le, Int32.reduceOfNat, Int32.reduceAdd, Int32.reduceLT, Int32.reduceLE, forall_const, true_implies, false_implies, not_false_eq_true, not_true_eq_false, bi_eq0, bi_ne0, sl_0, sl_3, va_rf, Nat.reduceEqDiff, if_false, ite_false, ite_true, reduceIte, List.set_cons_zero, List.set_cons_succ, Nat.succ_eq_add_one, mup_c, mup_s, mw_zero, ne_eq, lit_10, lit_01, lit_m10, lit_m11, nar_bi, Nat.reduceBEq, Bool.or_false, Bool.false_or, Bool.or_true, Bool.true_or]
          refine ih b2 (us ++ us2 ++ [(10, 0)]) μ4 (by omega) (by omega) g2 (by simp only [List.length_append, List.length_cons, List.length_nil]; omega) hQ ?_
          rw [show ts ++ (us ++ us2 ++ [(10, 0)]) = ts ++ us ++ us2 ++ [((10 : Int32), (0 : Int32))] by simp]
          exact hM4
  refine b0_of_G0 (lv := [.ref 56]) (by decide +kernel) (Nat.le_of_ble_eq_true rfl) rfl ?_
  exact key 240 a [] μ (by omega) (Nat.le_refl _) ha (by simp) hQ (by rw [List.append_nil]; exact hM)
end M29
