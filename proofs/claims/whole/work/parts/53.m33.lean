section CK
variable {tx : Nat → Int32} {sz : Nat}
def okCR (sz a : Nat) (r : CR) : Prop := match r with
  | .inl p => p ≤ sz
  | .inr (b, t, s) => a < b ∧ b ≤ sz ∧ t.length + s.length + 1 ≤ b - a + 1
theorem pTest_ok {a : Nat} (ha : a ≤ sz) : okCR sz a (pTest tx sz a) := by
  unfold pTest
  have := pCond_ok (tx := tx) 6 ha
  cases hT : pCond tx sz 6 a with
  | inl p => rw [hT] at this; exact this
  | inr q =>
    obtain ⟨b, ts⟩ := q
    rw [hT] at this
    obtain ⟨g1, g2, g3⟩ := this
    have h1 := sk_le (tx := tx) (sz := sz) b
    have h2 := sk_sz (tx := tx) g2
    dsimp only
    unfold pWorth
    split
    · rename_i hc
      have h3 : sk tx sz b < sz := chr_lt (tx := tx) (by rw [hc]; decide)
      have := pSum_ok (tx := tx) (sz := sz) 6 (sk tx sz b + 1) (by omega)
      cases hT : pSum tx sz 6 (sk tx sz b + 1) with
      | inl p => rw [hT] at this; exact this
      | inr q =>
        obtain ⟨b5, s⟩ := q
        rw [hT] at this
        obtain ⟨k1, k2, k3⟩ := this
        exact ⟨by omega, k2, by omega⟩
    · exact h2
theorem pBody_ok {a : Nat} (ha : a ≤ sz) : okCR sz a (pBody tx sz a) := by
  have h1 := sk_le (tx := tx) (sz := sz) a
  have h2 := sk_sz (tx := tx) ha
  have up : ∀ r : CR, okCR sz (sk tx sz a) r → okCR sz a r := by
    intro r hr
    match r, hr with
    | .inl p, hr => exact hr
    | .inr (b, t, s), hr => exact ⟨by have := hr.1; omega, hr.2.1, by have := hr.2.2; omega⟩
  unfold pBody
  split
  · exact up _ (pTest_ok h2)
  · have := pSum_ok (tx := tx) (sz := sz) 6 (sk tx sz a) h2
    cases hT : pSum tx sz 6 (sk tx sz a) with
    | inl p => rw [hT] at this; exact this
    | inr q =>
      obtain ⟨b, s⟩ := q
      rw [hT] at this
      obtain ⟨g1, g2, g3⟩ := this
      dsimp only
      split
      · exact up _ (pTest_ok h2)
      · have h3 := sk_le (tx := tx) (sz := sz) b
        have h4 := sk_sz (tx := tx) g2
        exact ⟨by omega, h4, by simp; omega⟩
theorem pClause_ok {a : Nat} (ha : a ≤ sz) : match pClause tx sz a with
    | .inl p => p ≤ sz
    | .inr (b, t, s) => a + 3 ≤ b ∧ b ≤ sz ∧ t.length + s.length + 2 ≤ b - a := by
  have h1 := sk_le (tx := tx) (sz := sz) a
  have h2 := sk_sz (tx := tx) ha
  unfold pClause
  split
  · rename_i x p hx
    split at hx
    · rename_i hc
      have h3 : sk tx sz a < sz := chr_lt (tx := tx) (by rw [hc]; decide)
      have h4 := sk_sz (tx := tx) (show sk tx sz a + 1 ≤ sz by omega)
      split at hx
      · rename_i hc2
        have h5 : sk tx sz (sk tx sz a + 1) < sz := chr_lt (tx := tx) (by rw [hc2]; decide)
        have := pBody_ok (tx := tx) (sz := sz) (a := sk tx sz (sk tx sz a + 1) + 1) (by omega)
        rw [hx] at this; exact this
      · cases hx; exact h4
    · cases hx; exact h2
  · rename_i x b t s hx
    split at hx
    · rename_i hc
      have h3 : sk tx sz a < sz := chr_lt (tx := tx) (by rw [hc]; decide)
      have h4 := sk_le (tx := tx) (sz := sz) (sk tx sz a + 1)
      split at hx
      · rename_i hc2
        have h5 : sk tx sz (sk tx sz a + 1) < sz := chr_lt (tx := tx) (by rw [hc2]; decide)
        have := pBody_ok (tx := tx) (sz := sz) (a := sk tx sz (sk tx sz a + 1) + 1) (by omega)
        rw [hx] at this
        obtain ⟨g1, g2, g3⟩ := this
        exact ⟨by omega, g2, by omega⟩
      · cases hx
    · cases hx
end CK
/-- a law's text as the reference has read it -/
def LwR (μ : mm_mu) (n : Nat) (cs : List (List Tk × List Tk)) : Prop := μ 60 n = nI (flat cs).length ∧ (∀ i, i < (flat cs).length → (μ 58 (520 * n + i), μ 59 (520 * n + i)) = (flat cs).getD i (0, 0)) ∧ μ 61 n = nI cs.length ∧ ∀ j, j < cs.length → μ 62 (140 * n + j) = nI (flat (cs.take j)).length ∧ μ 63 (140 * n + j) = nI ((flat (cs.take j)).length + (cs.getD j ([], [])).1.length) ∧ μ 64 (140 * n + j) = nI (flat (cs.take (j + 1))).length
/-- what reading a law's text n may change, the text's number among it -/
def LPs (μ0 μ : mm_mu) (n : Nat) : Prop := OffF [58, 59, 60, 61, 62, 63, 64] [3, 4, 5, 14] μ0 μ ∧ (∀ i, ¬ (520 * n ≤ i ∧ i < 520 * n + 520) → μ 58 i = μ0 58 i ∧ μ 59 i = μ0 59 i) ∧ (∀ i, i ≠ n → μ 60 i = μ0 60 i ∧ μ 61 i = μ0 61 i) ∧ ∀ i, ¬ (140 * n ≤ i ∧ i < 140 * n + 140) → μ 62 i = μ0 62 i ∧ μ 63 i = μ0 63 i ∧ μ 64 i = μ0 64 i
section M33
variable {d : Nat} {ε : mm_X} {μ0 μ : mm_mu} {Q : mm_Q0} {h : mm_H} {n a sz : Nat} {w : Int32} {cs : List (List Tk × List Tk)}
theorem m_open (hn : n < 5) (hQ : ∀ μ', LPs μ μ' n → MP μ' μ' n 0 (-1) 0 [] → μ' 56 14 = nI n → μ' 61 n = 0 → Q none (HP ε μ')) : B0 (d + 1) mX12_open [.ref 56, .int (nI n)] (HP ε μ) Q := by
  refine b0_of_G0 (lv := [.ref 56, .int (nI n)]) (by decide +kernel) (Nat.le_of_ble_eq_true rfl) rfl ?_
  refine mw_ok (M := mX12_open) (fun _ => false) okTX12 rfl 40 _ _ _ _ ?_
  simp only [eX12_open_0, eX12_open_1, eX12_open_2, eX12_open_5, eX12_open_6, eX12_open_7, eX12_open_10, eX12_open_11, eX12_open_12, eX12_open_15, eX12_open_16, eX12_open_17, eX12_open_20, eX12_open_21, eX12_open_24, eX12_open_25, eX12_open_26, eX12_open_27, eX12_open_28, eX12_open_31, eX12_open_32, eX12_open_33, eX12_open_34, st_aload, st_iconst, st_iload, st_ret, gf_56_1208, gf_56_1209, pf_56_1203, pf_56_1204, pf_56_1205, pf_56_1214, sv_57, sv_58, sv_59, sv_60, sv_61, sv_62, sv_63, sv_64, sv_65, sv_66, sv_67, sv_68, sv_69, sv_70, sv_71, sv_72, sv_73, sv_74, sv_75, sv_76, sv_77, sv_78, sv_79, sv_80, sv_81, sv_82, sv_83, sv_85, mm_cut, cond_false, cond_true, List.getElem?_cons_succ, List.getElem?_cons_zero, Int.reduceToNat, Nat.reduceMod, Nat.reduceDiv, Nat.reduceAdd, true_and, and_true, mm_set, mm_set2, mm_pop, List.length_cons, List.length_nil, Nat.reduceLeDiff, Int32.reduceOfInt, Int64.reduceOfInt, nar_b0, nar_b1, List.cons_append, List.nil_append, Option.toList_some, Option.toList_none, List.map_cons, List.map_nil, List.sum_cons, List.sum_nil, cat_i, cat_r, cat_l, Nat.zero_le, Int32.reduceOfNat, Int32.reduceAdd, Int32.reduceLT, Int32.reduceLE, forall_const, true_implies, false_implies, not_false_eq_true, not_true_eq_false, bi_eq0, bi_ne0, sl_0, sl_3, va_rf, Nat.reduceEqDiff, if_false, ite_false, ite_true, reduceIte, List.set_cons_zero, List.set_cons_succ, Nat.succ_eq_add_one, mup_c, mup_s, mw_zero, ne_eq, lit_10, lit_01, lit_m10, lit_m11, nar_bi, vinT (a := n) rfl (show n < 5 by omega), clp (a := n) rfl (by omega)]
  refine hQ _ ⟨(((((OffF.rf.upf (by decide)).upf (by decide)).upf (by decide)).upf (by decide)).up (by decide)).up (by decide), fun i hi => ?_, fun i hi => ?_, fun i hi => ?_⟩ ⟨MPr.rf, ?_, ?_, ?_, ?_, ?_⟩ ?_ ?_
  · simp [mup_c]
  · rw [mup_c (by decide), mup_s, if_neg hi, mup_s, if_neg hi]
    simp [mup_c]
  · simp [mup_c]
  · simp [mup_c, mup_s]; rfl
  · simp [mup_c, mup_s]
  · simp [mup_c, mup_s]; rfl
  · simp [mup_c, mup_s]; rfl
  · intro i hi; simp at hi
  · simp [mup_c, mup_s]
  · simp [mup_s]
theorem m_atEnd {dp : Nat} {ts : List Tk} (r : MR μ0 n sz) (hM : MP μ0 μ n a w dp ts) (ha : a < 50000) (hQ : ∀ μ' w', MPr μ0 μ' n → μ' 56 4 = w' → (w' = if w = -1 then (if chr (μ0 57) sz (sk (μ0 57) sz a) = -1 then -1 else nI (sk (μ0 57) sz a)) else w) → (w' = -1 → MP μ0 μ' n (sk (μ0 57) sz a) (-1) dp ts) → Q (some (.int w')) (HP ε μ')) : B0 (d + 3) mX12_atEnd [.ref 56] (HP ε μ) Q := by
  refine b0_of_G0 (lv := [.ref 56]) (by decide +kernel) (Nat.le_of_ble_eq_true rfl) rfl ?_
  refine mw_ok (M := mX12_atEnd) (fun _ => false) okTX12 rfl 20 _ _ _ _ ?_
  simp only [eX12_atEnd_0, eX12_atEnd_1, eX12_atEnd_4, eX12_atEnd_5, eX12_atEnd_8, eX12_atEnd_9, eX12_atEnd_12, eX12_atEnd_13, eX12_atEnd_16, eX12_atEnd_17, eX12_atEnd_20, eX12_atEnd_21, eX12_atEnd_24, st_aload, st_iconst, st_ic_eq, st_ic_ne, st_ic_lt, st_ic_ge, st_ic_gt, st_ic_le, st_inv, st_iret, st_zret, st_bret, gf_56_1204, HP_56, tab_135, tab_136, mm_cut, cond_false, cond_true, List.getElem?_cons_succ, List.getElem?_cons_zero, Int.reduceToNat, Nat.reduceMod, Nat.reduceDiv, Nat.reduceAdd, true_and, and_true, mm_set, mm_set2, mm_pop, List.length_cons, List.length_nil, Nat.reduceLeDiff, Int32.reduceOfInt, Int64.reduceOfInt, nar_b0, nar_b1, List.cons_append, List.nil_append, Option.toList_some, Option.toList_none, List.map_cons, List.map_nil, List.sum_cons, List.sum_nil, cat_i, cat_r, cat_l, Nat.zero_le, Int32.reduceOfNat, Int32.reduceAdd, Int32.reduceLT, Int32.reduceLE, forall_const, true_implies, false_implies, not_false_eq_true, not_true_eq_false, bi_eq0, bi_ne0, sl_0, sl_3, va_rf, Nat.reduceEqDiff, if_false, ite_false, ite_true, reduceIte, List.set_cons_zero, List.set_cons_succ, Nat.succ_eq_add_one, mup_c, mup_s, mw_zero, ne_eq, lit_10, lit_01, lit_m10, lit_m11, nar_bi, hM.2.2.1]
  refine ⟨fun h1 => ?_, fun h1 => ?_⟩
  · exact hQ μ w hM.1 hM.2.2.1 (by rw [if_neg h1]) (fun z => absurd z h1)
  · subst h1
    refine m_lookB r hM ha ?_
    intro μ1 hM1
    refine mw_ok (M := mX12_atEnd) (fun _ => false) okTX12 rfl 20 _ _ _ _ ?_
    simp only [eX12_atEnd_0, eX12_atEnd_1, eX12_atEnd_4, eX12_atEnd_5, eX12_atEnd_8, eX12_atEnd_9, eX12_atEnd_12, eX12_atEnd_13, eX12_atEnd_16, eX12_atEnd_17, eX12_atEnd_20, eX12_atEnd_21, eX12_atEnd_24, st_aload, st_iconst, st_ic_eq, st_ic_ne, st_ic_lt, st_ic_ge, st_ic_gt, st_ic_le, st_inv, st_iret, st_zret, st_bret, gf_56_1204, HP_56, tab_135, tab_136, mm_cut, cond_false, cond_true, List.getElem?_cons_succ, List.getElem?_cons_zero, Int.reduceToNat, Nat.reduceMod, Nat.reduceDiv, Nat.reduceAdd, true_and, and_true, mm_set, mm_set2, mm_pop, List.length_cons, List.length_nil, Nat.reduceLeDiff, Int32.reduceOfInt, Int64.reduceOfInt, nar_b0, nar_b1, List.cons_append, List.nil_append, Option.toList_some, Option.toList_none, List.map_cons, List.map_nil, List.sum_cons, List.sum_nil, cat_i, cat_r, cat_l, Nat.zero_le, Int32.reduceOfNat, Int32.reduceAdd, Int32.reduceLT, Int32.reduceLE, forall_const, true_implies, false_implies, not_false_eq_true, not_true_eq_false, bi_eq0, bi_ne0, sl_0, sl_3, va_rf, Nat.reduceEqDiff, if_false, ite_false, ite_true, reduceIte, List.set_cons_zero, List.set_cons_succ, Nat.succ_eq_add_one, mup_c, mup_s, mw_zero, ne_eq, lit_10, lit_01, lit_m10, lit_m11, nar_bi, hM1.2.2.1]
    refine ⟨fun h2 => ?_, fun h2 => ?_⟩
    · exact hQ μ1 (-1) hM1.1 hM1.2.2.1 (by rw [if_pos rfl, if_pos h2]) (fun _ => hM1)
    · refine m_bad hM1 ?_
      intro μ2 hM2
      refine mw_ok (M := mX12_atEnd) (fun _ => false) okTX12 rfl 20 _ _ _ _ ?_
      simp only [eX12_atEnd_0, eX12_atEnd_1, eX12_atEnd_4, eX12_atEnd_5, eX12_atEnd_8, eX12_atEnd_9, eX12_atEnd_12, eX12_atEnd_13, eX12_atEnd_16, eX12_atEnd_17, eX12_atEnd_20, eX12_atEnd_21, eX12_atEnd_24, st_aload, st_iconst, st_ic_eq, st_ic_ne, st_ic_lt, st_ic_ge, st_ic_gt, st_ic_le, st_inv, st_iret, st_zret, st_bret, gf_56_1204, HP_56, tab_135, tab_136, mm_cut, cond_false, cond_true, List.getElem?_cons_succ, List.getElem?_cons_zero, Int.reduceToNat, Nat.reduceMod, Nat.reduceDiv, Nat.reduceAdd, true_and, and_true, mm_set, mm_set2, mm_pop, List.length_cons, List.length_nil, Nat.reduceLeDiff, Int32.reduceOfInt, Int64.reduceOfInt, nar_b0, nar_b1, List.cons_append, List.nil_append, Option.toList_some, Option.toList_none, List.map_cons, List.map_nil, List.sum_cons, List.sum_nil, cat_i, cat_r, cat_l, Nat.zero_le, Int32.reduceOfNat, Int32.reduceAdd, Int32.reduceLT, Int32.reduceLE, forall_const, true_implies, false_implies, not_false_eq_true, not_true_eq_false, bi_eq0, bi_ne0, sl_0, sl_3, va_rf, Nat.reduceEqDiff, if_false, ite_false, ite_true, reduceIte, List.set_cons_zero, List.set_cons_succ, Nat.succ_eq_add_one, mup_c, mup_s, mw_zero, ne_eq, lit_10, lit_01, lit_m10, lit_m11, nar_bi, hM2.2.2.1]
      refine hQ μ2 _ hM2.1 hM2.2.2.1 (by rw [if_pos rfl, if_neg h2]) (fun z => ?_)
      exfalso
      refine h2 ?_
      refine chr_ge ?_
      rcases Nat.lt_or_ge (sk (μ0 57) sz a) 100000 with hh | hh
      · exact absurd z (nI_nm hh)
      · exact absurd (chr_lt (tx := μ0 57) h2) (by have := r.2.2.2; omega)
theorem m_atEnd_w {w : Int32} (hw : μ 56 4 = w) (hne : ¬ w = -1) (hQ : Q (some (.int w)) (HP ε μ)) : B0 (d + 1) mX12_atEnd [.ref 56] (HP ε μ) Q := by
  refine b0_of_G0 (lv := [.ref 56]) (by decide +kernel) (Nat.le_of_ble_eq_true rfl) rfl ?_
  refine mw_ok (M := mX12_atEnd) (fun _ => false) okTX12 rfl 20 _ _ _ _ ?_
  simp only [eX12_atEnd_0, eX12_atEnd_1, eX12_atEnd_4, eX12_atEnd_5, eX12_atEnd_8, eX12_atEnd_9, eX12_atEnd_12, eX12_atEnd_13, eX12_atEnd_16, eX12_atEnd_17, eX12_atEnd_20, eX12_atEnd_21, eX12_atEnd_24, st_aload, st_iconst, st_ic_eq, st_ic_ne, st_ic_lt, st_ic_ge, st_ic_gt, st_ic_le, st_inv, st_iret, st_zret, st_bret, gf_56_1204, HP_56, tab_135, tab_136, mm_cut, cond_false, cond_true, List.getElem?_cons_succ, List.getElem?_cons_zero, Int.reduceToNat, Nat.reduceMod, Nat.reduceDiv, Nat.reduceAdd, true_and, and_true, mm_set, mm_set2, mm_pop, List.length_cons, List.length_nil, Nat.reduceLeDiff, Int32.reduceOfInt, Int64.reduceOfInt, nar_b0, nar_b1, List.cons_append, List.nil_append, Option.toList_some, Option.toList_none, List.map_cons, List.map_nil, List.sum_cons, List.sum_nil, cat_i, cat_r, cat_l, Nat.zero_le, Int32.reduceOfNat, Int32.reduceAdd, Int32.reduceLT, Int32.reduceLE, forall_const, true_implies, false_implies, not_false_eq_true, not_true_eq_false, bi_eq0, bi_ne0, sl_0, sl_3, va_rf, Nat.reduceEqDiff, if_false, ite_false, ite_true, reduceIte, List.set_cons_zero, List.set_cons_succ, Nat.succ_eq_add_one, mup_c, mup_s, mw_zero, ne_eq, lit_10, lit_01, lit_m10, lit_m11, nar_bi, hw, eq_false hne]
  exact hQ
theorem LPs.of {μ0 μ1 μ : mm_mu} {n : Nat} (h1 : LPs μ0 μ1 n) (h : LPr μ1 μ n) : LPs μ0 μ n := by
  refine ⟨h1.1.tr (h.1.mono (fun _ z => z) (by decide)), fun i hi => ?_, fun i hi => ?_, fun i hi => ?_⟩
  · rw [(h.2.1 i hi).1, (h.2.1 i hi).2]; exact h1.2.1 i hi
  · rw [(h.2.2.1 i hi).1, (h.2.2.1 i hi).2]; exact h1.2.2.1 i hi
  · rw [(h.2.2.2 i hi).1, (h.2.2.2 i hi).2.1, (h.2.2.2 i hi).2.2]; exact h1.2.2.2 i hi
theorem LwP.R (h : LwP μ0 μ n a cs) : LwR μ n cs := ⟨h.2.1.2.2.2.2.1, h.2.1.2.2.2.2.2, h.2.2.1, h.2.2.2⟩
theorem LwP.step {μ' : mm_mu} {b : Nat} (h : LwP μ0 μ n a cs) (h2 : MP μ μ' n b (-1) 0 (flat cs)) : LwP μ0 μ' n b cs := ⟨h.1.step h2.1, h2.re, (ClS.step ⟨h.1, h.2.2⟩ h2.1).2⟩
set_option maxRecDepth 4000 in
theorem m_readLaw {x : Int32} (hx : x = nI n) (hn : n < 5) (h2 : μ 56 2 = nI sz) (hsz : sz ≤ 240)
    (hQ : ∀ μ' w', LPs μ μ' n → (match pLaw (μ 57) sz with | .inl p => p ≤ sz ∧ w' = nI p | .inr cs => w' = -1 ∧ LwR μ' n cs) → Q (some (.int w')) (HP ε μ')) : B0 (d + 37) mX12_readLaw [.ref 56, .int x] (HP ε μ) Q := by
  subst hx
  refine b0_of_G0 (lv := [.ref 56, .int (nI n)]) (by decide +kernel) (Nat.le_of_ble_eq_true rfl) rfl ?_
  refine mw_ok (M := mX12_readLaw) (fun q => q == 9) okTX12 rfl 20 _ _ _ _ ?_
  simp only [eX12_readLaw_0, eX12_readLaw_1, eX12_readLaw_2, eX12_readLaw_5, eX12_readLaw_6, eX12_readLaw_9, eX12_readLaw_10, eX12_readLaw_13, eX12_readLaw_14, eX12_readLaw_17, eX12_readLaw_18, eX12_readLaw_21, eX12_readLaw_23, eX12_readLaw_26, eX12_readLaw_27, eX12_readLaw_28, eX12_readLaw_31, eX12_readLaw_32, eX12_readLaw_33, eX12_readLaw_36, eX12_readLaw_37, eX12_readLaw_40, eX12_readLaw_43, eX12_readLaw_44, eX12_readLaw_47, st_aload, st_dupi, st_dupr, st_goto, st_iadd, st_iconst, st_ic_eq, st_ic_ne, st_ic_lt, st_ic_ge, st_ic_gt, st_ic_le, st_iload, st_inv, st_iret, st_zret, st_bret, gf_56_1203, gf_56_1204, pf_56_1203, HP_56, tab_135, tab_152, tab_153, tab_154, mm_cut, cond_false, cond_true, List.getElem?_cons_succ, List.getElem?_cons_zero, Int.reduceToNat, Nat.reduceMod, Nat.reduceDiv, Nat.reduceAdd, true_and, and_true, mm_set, mm_set2, mm_pop, List.length_cons, List.length_nil, Nat.reduceLeDiff, Int32.reduceOfInt, Int64.reduceOfInt, nar_b0, nar_b1, List.cons_append, List.nil_append, Option.toList_some, Option.toList_none, List.map_cons, List.map_nil, List.sum_cons, List.sum_nil, cat_i, cat_r, cat_l, Nat.zero_le, Int32.reduceOfNat, Int32.reduceAdd, Int32.reduceLT, Int32.reduceLE, forall_const, true_implies, false_implies, not_false_eq_true, not_true_eq_false, bi_eq0, bi_ne0, sl_0, sl_3, va_rf, Nat.reduceEqDiff, if_false, ite_false, ite_true, reduceIte, List.set_cons_zero, List.set_cons_succ, Nat.succ_eq_add_one, mup_c, mup_s, mw_zero, ne_eq, lit_10, lit_01, lit_m10, lit_m11, nar_bi, Nat.reduceBEq, Bool.or_false, Bool.false_or, Bool.or_true, Bool.true_or]
  refine m_open (d := d + 35) hn ?_
  intro β hβ hM0 h14 h61
  have b57 : β 57 = μ 57 := hβ.1.at (by decide)
  have rβ : MR β n sz := ⟨h14, hn, (hβ.1.2 2 (by decide)).trans h2, hsz⟩
  have hL0 : LwP β β n 0 [] := ⟨LPr.rf, hM0, h61, fun j hj => by simp at hj⟩
  -- the end
  have fin : ∀ (μ1 : mm_mu) (b dp : Nat) (w : Int32) (ts : List Tk), LPr β μ1 n → MP μ1 μ1 n b w dp ts → b < 50000 → (∀ μ' w', MPr μ1 μ' n → μ' 56 4 = w' → (w' = if w = -1 then (if chr (β 57) sz (sk (β 57) sz b) = -1 then -1 else nI (sk (β 57) sz b)) else w) → (w' = -1 → MP μ1 μ' n (sk (β 57) sz b) (-1) dp ts) → Q (some (.int w')) (HP ε μ')) → G0 (d + 36 + 1) mX12_readLaw Q 43 [.ref 56, .int (nI n)] [] (HP ε μ1) := by
    intro μ1 b dp w ts hr hM hb hq
    refine mw_ok (M := mX12_readLaw) (fun q => q == 9) okTX12 rfl 20 _ _ _ _ ?_
    simp only [eX12_readLaw_0, eX12_readLaw_1, eX12_readLaw_2, eX12_readLaw_5, eX12_readLaw_6, eX12_readLaw_9, eX12_readLaw_10, eX12_readLaw_13, eX12_readLaw_14, eX12_readLaw_17, eX12_readLaw_18, eX12_readLaw_21, eX12_readLaw_23, eX12_readLaw_26, eX12_readLaw_27, eX12_readLaw_28, eX12_readLaw_31, eX12_readLaw_32, eX12_readLaw_33, eX12_readLaw_36, eX12_readLaw_37, eX12_readLaw_40, eX12_readLaw_43, eX12_readLaw_44, eX12_readLaw_47, st_aload, st_dupi, st_dupr, st_goto, st_iadd, st_iconst, st_ic_eq, st_ic_ne, st_ic_lt, st_ic_ge, st_ic_gt, st_ic_le, st_iload, st_inv, st_iret, st_zret, st_bret, gf_56_1203, gf_56_1204, pf_56_1203, HP_56, tab_135, tab_152, tab_153, tab_154, mm_cut, cond_false, cond_true, List.getElem?_cons_succ, List.getElem?_cons_zero, Int.reduceToNat, Nat.reduceMod, Nat.reduceDiv, Nat.reduceAdd, true_and, and_true, mm_set, mm_set2, mm_pop, List.length_cons, List.length_nil, Nat.reduceLeDiff, Int32.reduceOfInt, Int64.reduceOfInt, nar_b0, nar_b1, List.cons_append, List.nil_append, Option.toList_some, Option.toList_none, List.map_cons, List.map_nil, List.sum_cons, List.sum_nil, cat_i, cat_r, cat_l, Nat.zero_le, Int32.reduceOfNat, Int32.reduceAdd, Int32.reduceLT, Int32.reduceLE, forall_const, true_implies, false_implies, not_false_eq_true, not_true_eq_false, bi_eq0, bi_ne0, sl_0, sl_3, va_rf, Nat.reduceEqDiff, if_false, ite_false, ite_true, reduceIte, List.set_cons_zero, List.set_cons_succ, Nat.succ_eq_add_one, mup_c, mup_s, mw_zero, ne_eq, lit_10, lit_01, lit_m10, lit_m11, nar_bi, Nat.reduceBEq, Bool.or_false, Bool.false_or, Bool.or_true, Bool.true_or]
    have e57 : μ1 57 = β 57 := hr.1.at (by decide)
    refine m_atEnd (d := d + 33) (rβ.re hr.1) hM hb ?_
    intro μ' w' q1 q2 q3 q4
    rw [e57] at q3 q4
    refine mw_ok (M := mX12_readLaw) (fun q => q == 9) okTX12 rfl 20 _ _ _ _ ?_
    simp only [eX12_readLaw_0, eX12_readLaw_1, eX12_readLaw_2, eX12_readLaw_5, eX12_readLaw_6, eX12_readLaw_9, eX12_readLaw_10, eX12_readLaw_13, eX12_readLaw_14, eX12_readLaw_17, eX12_readLaw_18, eX12_readLaw_21, eX12_readLaw_23, eX12_readLaw_26, eX12_readLaw_27, eX12_readLaw_28, eX12_readLaw_31, eX12_readLaw_32, eX12_readLaw_33, eX12_readLaw_36, eX12_readLaw_37, eX12_readLaw_40, eX12_readLaw_43, eX12_readLaw_44, eX12_readLaw_47, st_aload, st_dupi, st_dupr, st_goto, st_iadd, st_iconst, st_ic_eq, st_ic_ne, st_ic_lt, st_ic_ge, st_ic_gt, st_ic_le, st_iload, st_inv, st_iret, st_zret, st_bret, gf_56_1203, gf_56_1204, pf_56_1203, HP_56, tab_135, tab_152, tab_153, tab_154, mm_cut, cond_false, cond_true, List.getElem?_cons_succ, List.getElem?_cons_zero, Int.reduceToNat, Nat.reduceMod, Nat.reduceDiv, Nat.reduceAdd, true_and, and_true, mm_set, mm_set2, mm_pop, List.length_cons, List.length_nil, Nat.reduceLeDiff, Int32.reduceOfInt, Int64.reduceOfInt, nar_b0, nar_b1, List.cons_append, List.nil_append, Option.toList_some, Option.toList_none, List.map_cons, List.map_nil, List.sum_cons, List.sum_nil, cat_i, cat_r, cat_l, Nat.zero_le, Int32.reduceOfNat, Int32.reduceAdd, Int32.reduceLT, Int32.reduceLE, forall_const, true_implies, false_implies, not_false_eq_true, not_true_eq_false, bi_eq0, bi_ne0, sl_0, sl_3, va_rf, Nat.reduceEqDiff, if_false, ite_false, ite_true, reduceIte, List.set_cons_zero, List.set_cons_succ, Nat.succ_eq_add_one, mup_c, mup_s, mw_zero, ne_eq, lit_10, lit_01, lit_m10, lit_m11, nar_bi, Nat.reduceBEq, Bool.or_false, Bool.false_or, Bool.or_true, Bool.true_or]
    exact hq μ' w' q1 q2 q3 q4
  have key : ∀ (m : Nat) (a : Nat) (cs : List (List Tk × List Tk)) (μ1 : mm_mu), a ≤ sz → 720 ≤ a + 3 * (m + 1) → 2 * cs.length ≤ a → (flat cs).length ≤ a → CO β n cs (pClause (β 57) sz a) μ1 → (∀ μ' w', LPs μ μ' n → (match pLawL (β 57) sz (m + 1) a cs with | .inl p => p ≤ sz ∧ w' = nI p | .inr cs => w' = -1 ∧ LwR μ' n cs) → Q (some (.int w')) (HP ε μ')) → G0 (d + 36 + 1) mX12_readLaw Q 9 [.ref 56, .int (nI n)] [] (HP ε μ1) := by
    intro m
    induction m with
    | zero => intro a cs μ1 ha hf; omega
    | succ m ih =>
    intro a cs μ1 ha hf h2c hfl hco hQ
    rw [pLawL] at hQ
    have hok := pClause_ok (tx := β 57) (sz := sz) ha
    cases hT : pClause (β 57) sz a with
    | inl p =>
      rw [hT] at hco hQ hok
      dsimp only at hok hQ
      obtain ⟨hr, hw, b, hb, hb2⟩ : LF β μ1 n p := hco
      have hne := nI_nm (p := p) (by omega)
      refine mw_ok (M := mX12_readLaw) (fun q => q == 9) okTX12 rfl 20 _ _ _ _ ?_
      simp only [eX12_readLaw_0, eX12_readLaw_1, eX12_readLaw_2, eX12_readLaw_5, eX12_readLaw_6, eX12_readLaw_9, eX12_readLaw_10, eX12_readLaw_13, eX12_readLaw_14, eX12_readLaw_17, eX12_readLaw_18, eX12_readLaw_21, eX12_readLaw_23, eX12_readLaw_26, eX12_readLaw_27, eX12_readLaw_28, eX12_readLaw_31, eX12_readLaw_32, eX12_readLaw_33, eX12_readLaw_36, eX12_readLaw_37, eX12_readLaw_40, eX12_readLaw_43, eX12_readLaw_44, eX12_readLaw_47, st_aload, st_dupi, st_dupr, st_goto, st_iadd, st_iconst, st_ic_eq, st_ic_ne, st_ic_lt, st_ic_ge, st_ic_gt, st_ic_le, st_iload, st_inv, st_iret, st_zret, st_bret, gf_56_1203, gf_56_1204, pf_56_1203, HP_56, tab_135, tab_152, tab_153, tab_154, mm_cut, cond_false, cond_true, List.getElem?_cons_succ, List.getElem?_cons_zero, Int.reduceToNat, Nat.reduceMod, Nat.reduceDiv, Nat.reduceAdd, true_and, and_true, mm_set, mm_set2, mm_pop, List.length_cons, List.length_nil, Nat.reduceLeDiff, Int32.reduceOfInt, Int64.reduceOfInt, nar_b0, nar_b1, List.cons_append, List.nil_append, Option.toList_some, Option.toList_none, List.map_cons, List.map_nil, List.sum_cons, List.sum_nil, cat_i, cat_r, cat_l, Nat.zero_le, Int32.reduceOfNat, Int32.reduceAdd, Int32.reduceLT, Int32.reduceLE, forall_const, true_implies, false_implies, not_false_eq_true, not_true_eq_false, bi_eq0, bi_ne0, sl_0, sl_3, va_rf, Nat.reduceEqDiff, if_false, ite_false, ite_true, reduceIte, List.set_cons_zero, List.set_cons_succ, Nat.succ_eq_add_one, mup_c, mup_s, mw_zero, ne_eq, lit_10, lit_01, lit_m10, lit_m11, nar_bi, hw, eq_false hne, Nat.reduceBEq, Bool.or_false, Bool.false_or, Bool.or_true, Bool.true_or]
      refine m_atEnd_w (d := d + 35) hw hne ?_
      refine mw_ok (M := mX12_readLaw) (fun q => q == 9) okTX12 rfl 20 _ _ _ _ ?_
      simp only [eX12_readLaw_0, eX12_readLaw_1, eX12_readLaw_2, eX12_readLaw_5, eX12_readLaw_6, eX12_readLaw_9, eX12_readLaw_10, eX12_readLaw_13, eX12_readLaw_14, eX12_readLaw_17, eX12_readLaw_18, eX12_readLaw_21, eX12_readLaw_23, eX12_readLaw_26, eX12_readLaw_27, eX12_readLaw_28, eX12_readLaw_31, eX12_readLaw_32, eX12_readLaw_33, eX12_readLaw_36, eX12_readLaw_37, eX12_readLaw_40, eX12_readLaw_43, eX12_readLaw_44, eX12_readLaw_47, st_aload, st_dupi, st_dupr, st_goto, st_iadd, st_iconst, st_ic_eq, st_ic_ne, st_ic_lt, st_ic_ge, st_ic_gt, st_ic_le, st_iload, st_inv, st_iret, st_zret, st_bret, gf_56_1203, gf_56_1204, pf_56_1203, HP_56, tab_135, tab_152, tab_153, tab_154, mm_cut, cond_false, cond_true, List.getElem?_cons_succ, List.getElem?_cons_zero, Int.reduceToNat, Nat.reduceMod, Nat.reduceDiv, Nat.reduceAdd, true_and, and_true, mm_set, mm_set2, mm_pop, List.length_cons, List.length_nil, Nat.reduceLeDiff, Int32.reduceOfInt, Int64.reduceOfInt, nar_b0, nar_b1, List.cons_append, List.nil_append, Option.toList_some, Option.toList_none, List.map_cons, List.map_nil, List.sum_cons, List.sum_nil, cat_i, cat_r, cat_l, Nat.zero_le, Int32.reduceOfNat, Int32.reduceAdd, Int32.reduceLT, Int32.reduceLE, forall_const, true_implies, false_implies, not_false_eq_true, not_true_eq_false, bi_eq0, bi_ne0, sl_0, sl_3, va_rf, Nat.reduceEqDiff, if_false, ite_false, ite_true, reduceIte, List.set_cons_zero, List.set_cons_succ, Nat.succ_eq_add_one, mup_c, mup_s, mw_zero, ne_eq, lit_10, lit_01, lit_m10, lit_m11, nar_bi, Nat.reduceBEq, Bool.or_false, Bool.false_or, Bool.or_true, Bool.true_or]
      exact hQ μ1 _ (hβ.of hr) ⟨hok, rfl⟩
    | inr q =>
      obtain ⟨b, t, s⟩ := q
      rw [hT] at hco hQ hok
      dsimp only at hok hQ
      obtain ⟨g1, g2, g3⟩ := hok
      have hL : LwP β μ1 n b (cs ++ [(t, s)]) := hco
      have e57 : μ1 57 = β 57 := hL.1.1.at (by decide)
      have hk := sk_sz (tx := β 57) g2
      have hk2 := sk_le (tx := β 57) (sz := sz) b
      refine mw_ok (M := mX12_readLaw) (fun q => q == 9) okTX12 rfl 20 _ _ _ _ ?_
      simp only [eX12_readLaw_0, eX12_readLaw_1, eX12_readLaw_2, eX12_readLaw_5, eX12_readLaw_6, eX12_readLaw_9, eX12_readLaw_10, eX12_readLaw_13, eX12_readLaw_14, eX12_readLaw_17, eX12_readLaw_18, eX12_readLaw_21, eX12_readLaw_23, eX12_readLaw_26, eX12_readLaw_27, eX12_readLaw_28, eX12_readLaw_31, eX12_readLaw_32, eX12_readLaw_33, eX12_readLaw_36, eX12_readLaw_37, eX12_readLaw_40, eX12_readLaw_43, eX12_readLaw_44, eX12_readLaw_47, st_aload, st_dupi, st_dupr, st_goto, st_iadd, st_iconst, st_ic_eq, st_ic_ne, st_ic_lt, st_ic_ge, st_ic_gt, st_ic_le, st_iload, st_inv, st_iret, st_zret, st_bret, gf_56_1203, gf_56_1204, pf_56_1203, HP_56, tab_135, tab_152, tab_153, tab_154, mm_cut, cond_false, cond_true, List.getElem?_cons_succ, List.getElem?_cons_zero, Int.reduceToNat, Nat.reduceMod, Nat.reduceDiv, Nat.reduceAdd, true_and, and_true, mm_set, mm_set2, mm_pop, List.length_cons, List.length_nil, Nat.reduceLeDiff, Int32.reduceOfInt, Int64.reduceOfInt, nar_b0, nar_b1, List.cons_append, List.nil_append, Option.toList_some, Option.toList_none, List.map_cons, List.map_nil, List.sum_cons, List.sum_nil, cat_i, cat_r, cat_l, Nat.zero_le, Int32.reduceOfNat, Int32.reduceAdd, Int32.reduceLT, Int32.reduceLE, forall_const, true_implies, false_implies, not_false_eq_true, not_true_eq_false, bi_eq0, bi_ne0, sl_0, sl_3, va_rf, Nat.reduceEqDiff, if_false, ite_false, ite_true, reduceIte, List.set_cons_zero, List.set_cons_succ, Nat.succ_eq_add_one, mup_c, mup_s, mw_zero, ne_eq, lit_10, lit_01, lit_m10, lit_m11, nar_bi, hL.2.1.2.2.1, Nat.reduceBEq, Bool.or_false, Bool.false_or, Bool.or_true, Bool.true_or]
      refine m_lookB (d := d + 34) (rβ.re hL.1.1) hL.2.1 (by omega) ?_
      intro μ2 hM2
      rw [e57] at hM2
      rw [e57]
      have hL2 := hL.step hM2
      refine mw_ok (M := mX12_readLaw) (fun q => q == 9 || q == 43) okTX12 rfl 20 _ _ _ _ ?_
      simp only [eX12_readLaw_0, eX12_readLaw_1, eX12_readLaw_2, eX12_readLaw_5, eX12_readLaw_6, eX12_readLaw_9, eX12_readLaw_10, eX12_readLaw_13, eX12_readLaw_14, eX12_readLaw_17, eX12_readLaw_18, eX12_readLaw_21, eX12_readLaw_23, eX12_readLaw_26, eX12_readLaw_27, eX12_readLaw_28, eX12_readLaw_31, eX12_readLaw_32, eX12_readLaw_33, eX12_readLaw_36, eX12_readLaw_37, eX12_readLaw_40, eX12_readLaw_43, eX12_readLaw_44, eX12_readLaw_47, st_aload, st_dupi, st_dupr, st_goto, st_iadd, st_iconst, st_ic_eq, st_ic_ne, st_ic_lt, st_ic_ge, st_ic_gt, st_ic_le, st_iload, st_inv, st_iret, st_zret, st_bret, gf_56_1203, gf_56_1204, pf_56_1203, HP_56, tab_135, tab_152, tab_153, tab_154, mm_cut, cond_false, cond_true, List.getElem?_cons_succ, List.getElem?_cons_zero, Int.reduceToNat, Nat.reduceMod, Nat.reduceDiv, Nat.reduceAdd, true_and, and_true, mm_set, mm_set2, mm_pop, List.length_cons, List.length_nil, Nat.reduceLeDiff, Int32.reduceOfInt, Int64.reduceOfInt, nar_b0, nar_b1, List.cons_append, List.nil_append, Option.toList_some, Option.toList_none, List.map_cons, List.map_nil, List.sum_cons, List.sum_nil, cat_i, cat_r, cat_l, Nat.zero_le, Int32.reduceOfNat, Int32.reduceAdd, Int32.reduceLT, Int32.reduceLE, forall_const, true_implies, false_implies, not_false_eq_true, not_true_eq_false, bi_eq0, bi_ne0, sl_0, sl_3, va_rf, Nat.reduceEqDiff, if_false, ite_false, ite_true, reduceIte, List.set_cons_zero, List.set_cons_succ, Nat.succ_eq_add_one, mup_c, mup_s, mw_zero, ne_eq, lit_10, lit_01, lit_m10, lit_m11, nar_bi, hM2.2.1, Nat.reduceBEq, Bool.or_false, Bool.false_or, Bool.or_true, Bool.true_or]
      refine ⟨fun h1 => ?_, fun h1 => ?_⟩
      · refine fin μ2 _ _ _ _ hL2.1 hL2.2.1 (by omega) ?_
        intro μ' w' q1 q2 q3 q4
        rw [sk_sk, if_pos rfl] at q3
        rw [sk_sk] at q4
        by_cases h3 : chr (β 57) sz (sk (β 57) sz b) = -1
        · rw [if_pos h3] at q3 hQ
          exact hQ μ' w' (hβ.of (hL2.1.step q1)) ⟨q3, (hL2.step (q4 q3)).R⟩
        · rw [if_neg h3] at q3
          rw [if_neg h3, if_neg h1] at hQ
          exact hQ μ' w' (hβ.of (hL2.1.step q1)) ⟨hk, q3⟩
      · have hlt : sk (β 57) sz b < sz := chr_lt (tx := β 57) (by rw [h1]; decide)
        rw [if_neg (by rw [h1]; decide), if_pos h1] at hQ
        have hM3 := (hM2.re.at (b := sk (β 57) sz b + 1) (x := nI (sk (β 57) sz b) + 1) (by rw [← nI_succ]))
        have hL3 : LwP β (mup μ2 56 3 (nI (sk (β 57) sz b) + 1)) n (sk (β 57) sz b + 1) (cs ++ [(t, s)]) := hL2.step hM3
        have c1 : 2 * (cs ++ [(t, s)]).length ≤ sk (β 57) sz b + 1 := by simp only [List.length_append, List.length_cons, List.length_nil]; omega
        have c2 : (flat (cs ++ [(t, s)])).length ≤ sk (β 57) sz b + 1 := by rw [flat_app]; simp only [List.length_append]; omega
        refine m_clause (d := d) rβ hL3 (by omega) c1 c2 ?_
        intro μ4 hco4
        refine mw_ok (M := mX12_readLaw) (fun q => q == 9) okTX12 rfl 20 _ _ _ _ ?_
        simp only [eX12_readLaw_0, eX12_readLaw_1, eX12_readLaw_2, eX12_readLaw_5, eX12_readLaw_6, eX12_readLaw_9, eX12_readLaw_10, eX12_readLaw_13, eX12_readLaw_14, eX12_readLaw_17, eX12_readLaw_18, eX12_readLaw_21, eX12_readLaw_23, eX12_readLaw_26, eX12_readLaw_27, eX12_readLaw_28, eX12_readLaw_31, eX12_readLaw_32, eX12_readLaw_33, eX12_readLaw_36, eX12_readLaw_37, eX12_readLaw_40, eX12_readLaw_43, eX12_readLaw_44, eX12_readLaw_47, st_aload, st_dupi, st_dupr, st_goto, st_iadd, st_iconst, st_ic_eq, st_ic_ne, st_ic_lt, st_ic_ge, st_ic_gt, st_ic_le, st_iload, st_inv, st_iret, st_zret, st_bret, gf_56_1203, gf_56_1204, pf_56_1203, HP_56, tab_135, tab_152, tab_153, tab_154, mm_cut, cond_false, cond_true, List.getElem?_cons_succ, List.getElem?_cons_zero, Int.reduceToNat, Nat.reduceMod, Nat.reduceDiv, Nat.reduceAdd, true_and, and_true, mm_set, mm_set2, mm_pop, List.length_cons, List.length_nil, Nat.reduceLeDiff, Int32.reduceOfInt, Int64.reduceOfInt, nar_b0, nar_b1, List.cons_append, List.nil_append, Option.toList_some, Option.toList_none, List.map_cons, List.map_nil, List.sum_cons, List.sum_nil, cat_i, cat_r, cat_l, Nat.zero_le, Int32.reduceOfNat, Int32.reduceAdd, Int32.reduceLT, Int32.reduceLE, forall_const, true_implies, false_implies, not_false_eq_true, not_true_eq_false, bi_eq0, bi_ne0, sl_0, sl_3, va_rf, Nat.reduceEqDiff, if_false, ite_false, ite_true, reduceIte, List.set_cons_zero, List.set_cons_succ, Nat.succ_eq_add_one, mup_c, mup_s, mw_zero, ne_eq, lit_10, lit_01, lit_m10, lit_m11, nar_bi, Nat.reduceBEq, Bool.or_false, Bool.false_or, Bool.or_true, Bool.true_or]
        exact ih _ _ μ4 (by omega) (by omega) c1 c2 hco4 hQ
  refine mw_ok (M := mX12_readLaw) (fun q => q == 9) okTX12 rfl 20 _ _ _ _ ?_
  simp only [eX12_readLaw_0, eX12_readLaw_1, eX12_readLaw_2, eX12_readLaw_5, eX12_readLaw_6, eX12_readLaw_9, eX12_readLaw_10, eX12_readLaw_13, eX12_readLaw_14, eX12_readLaw_17, eX12_readLaw_18, eX12_readLaw_21, eX12_readLaw_23, eX12_readLaw_26, eX12_readLaw_27, eX12_readLaw_28, eX12_readLaw_31, eX12_readLaw_32, eX12_readLaw_33, eX12_readLaw_36, eX12_readLaw_37, eX12_readLaw_40, eX12_readLaw_43, eX12_readLaw_44, eX12_readLaw_47, st_aload, st_dupi, st_dupr, st_goto, st_iadd, st_iconst, st_ic_eq, st_ic_ne, st_ic_lt, st_ic_ge, st_ic_gt, st_ic_le, st_iload, st_inv, st_iret, st_zret, st_bret, gf_56_1203, gf_56_1204, pf_56_1203, HP_56, tab_135, tab_152, tab_153, tab_154, mm_cut, cond_false, cond_true, List.getElem?_cons_succ, List.getElem?_cons_zero, Int.reduceToNat, Nat.reduceMod, Nat.reduceDiv, Nat.reduceAdd, true_and, and_true, mm_set, mm_set2, mm_pop, List.length_cons, List.length_nil, Nat.reduceLeDiff, Int32.reduceOfInt, Int64.reduceOfInt, nar_b0, nar_b1, List.cons_append, List.nil_append, Option.toList_some, Option.toList_none, List.map_cons, List.map_nil, List.sum_cons, List.sum_nil, cat_i, cat_r, cat_l, Nat.zero_le, Int32.reduceOfNat, Int32.reduceAdd, Int32.reduceLT, Int32.reduceLE, forall_const, true_implies, false_implies, not_false_eq_true, not_true_eq_false, bi_eq0, bi_ne0, sl_0, sl_3, va_rf, Nat.reduceEqDiff, if_false, ite_false, ite_true, reduceIte, List.set_cons_zero, List.set_cons_succ, Nat.succ_eq_add_one, mup_c, mup_s, mw_zero, ne_eq, lit_10, lit_01, lit_m10, lit_m11, nar_bi, Nat.reduceBEq, Bool.or_false, Bool.false_or, Bool.or_true, Bool.true_or]
  refine m_clause (d := d) rβ hL0 (Nat.zero_le _) (by simp) (by simp [flat]) ?_
  intro μ1 hco
  refine key 239 0 [] μ1 (Nat.zero_le _) (by omega) (by simp) (by simp [flat]) hco ?_
  rw [b57]
  exact hQ
end M33
