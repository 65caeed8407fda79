section P9
variable {d : Nat} {ε : mm_X} {μ : mm_mu} {Q : mm_Q0} {h : mm_H} {tn gn a p ln sz m : Nat} {dy : Nat → Nat}
theorem p_undo (hJ : JX ε μ tn gn a p dy ln sz m) : Pr mX11_undo mX12_undo [] ε μ := by
  have hA := hJ.2.1
  have hg5 := hJ.1.2.1
  obtain ⟨hR, hP, h39, hrows, hdy⟩ := hA
  have hp40 := hP.2.1
  have ha40 := hP.2.2.2
  unfold Pr
  refine b0_of_G0 (lv := [.ref 0]) (by decide +kernel) (Nat.le_of_ble_eq_true rfl) rfl ?_
  refine mw_ok (M := mX11_undo) (fun _ => false) okTX11 rfl 20 _ _ _ _ ?_
  simp only [eX11_undo_0, eX11_undo_1, eX11_undo_4, eX11_undo_5, eX11_undo_8, eX11_undo_11, eX11_undo_14, eX11_undo_17, eX11_undo_18, eX11_undo_21, eX11_undo_24, eX11_undo_27, eX11_undo_28, st_aload, st_goto, st_iconst, st_if_eq, st_if_ne, st_if_lt, st_if_ge, st_if_gt, st_if_le, st_inv, st_iret, st_zret, st_bret, gf_17_401, gf_40_700, gf_0_1103, gf_0_1110, HP_40, tab_51, mm_cut, cond_false, cond_true, List.getElem?_cons_succ, List.getElem?_cons_zero, Int.reduceToNat, Nat.reduceMod, Nat.reduceDiv, Nat.reduceAdd, true_and, and_true, mm_set, mm_set2, mm_pop, List.length_cons, List.length_nil, Nat.reduceLeDiff, Int32.reduceOfInt, Int64.reduceOfInt, nar_b0, nar_b1, List.cons_append, List.nil_append, Option.toList_some, Option.toList_none, List.map_cons, List.map_nil, List.sum_cons, List.sum_nil, cat_i, cat_r, cat_l, Nat.zero_le, Int32.reduceOfNat, Int32.reduceAdd, Int32.reduceLT, Int32.reduceLE, forall_const, true_implies, false_implies, not_false_eq_true, not_true_eq_false, bi_eq0, bi_ne0, sl_0, sl_3, va_rf, Nat.reduceEqDiff, if_false, ite_false, ite_true, reduceIte, List.set_cons_zero, List.set_cons_succ, Nat.succ_eq_add_one, mup_c, mup_s, mw_zero, ne_eq, lit_10, lit_01, lit_m10, lit_m11, nar_bi]
  refine c_takeBack hP (fun ha => ?_) (fun μ1 ha ho1 hp1 f4 hs1 => ?_)
  · have : B0 100 mX12_undo [.ref 56] (HP ε μ) (fun w h' => ∃ x ε' μ', some (Value.int (-1)) = some (.int x) ∧ w = some (.int x) ∧ h' = HP ε' μ' ∧ J ε' μ') := by
      refine m_undo (a := a) (r := mrow μ) ⟨h39, ha40, fun _ _ _ _ => rfl⟩ (fun _ => PE.mk rfl hJ.j) (fun μ2 h0 => absurd ha (by omega))
    refine mw_ok (M := mX11_undo) (fun _ => false) okTX11 rfl 20 _ _ _ _ ?_
    simp only [eX11_undo_0, eX11_undo_1, eX11_undo_4, eX11_undo_5, eX11_undo_8, eX11_undo_11, eX11_undo_14, eX11_undo_17, eX11_undo_18, eX11_undo_21, eX11_undo_24, eX11_undo_27, eX11_undo_28, st_aload, st_goto, st_iconst, st_if_eq, st_if_ne, st_if_lt, st_if_ge, st_if_gt, st_if_le, st_inv, st_iret, st_zret, st_bret, gf_17_401, gf_40_700, gf_0_1103, gf_0_1110, HP_40, tab_51, mm_cut, cond_false, cond_true, List.getElem?_cons_succ, List.getElem?_cons_zero, Int.reduceToNat, Nat.reduceMod, Nat.reduceDiv, Nat.reduceAdd, true_and, and_true, mm_set, mm_set2, mm_pop, List.length_cons, List.length_nil, Nat.reduceLeDiff, Int32.reduceOfInt, Int64.reduceOfInt, nar_b0, nar_b1, List.cons_append, List.nil_append, Option.toList_some, Option.toList_none, List.map_cons, List.map_nil, List.sum_cons, List.sum_nil, cat_i, cat_r, cat_l, Nat.zero_le, Int32.reduceOfNat, Int32.reduceAdd, Int32.reduceLT, Int32.reduceLE, forall_const, true_implies, false_implies, not_false_eq_true, not_true_eq_false, bi_eq0, bi_ne0, sl_0, sl_3, va_rf, Nat.reduceEqDiff, if_false, ite_false, ite_true, reduceIte, List.set_cons_zero, List.set_cons_succ, Nat.succ_eq_add_one, mup_c, mup_s, mw_zero, ne_eq, lit_10, lit_01, lit_m10, lit_m11, nar_bi]
    exact this
  · have hk1 : KR μ1 a (mrow μ) := KR_off hJ.2.1 ho1 (by decide) (by decide)
    have e40 : μ1 40 0 = nI (a - 1) := hp1.2.2.1
    refine mw_ok (M := mX11_undo) (fun _ => false) okTX11 rfl 20 _ _ _ _ ?_
    simp only [eX11_undo_0, eX11_undo_1, eX11_undo_4, eX11_undo_5, eX11_undo_8, eX11_undo_11, eX11_undo_14, eX11_undo_17, eX11_undo_18, eX11_undo_21, eX11_undo_24, eX11_undo_27, eX11_undo_28, st_aload, st_goto, st_iconst, st_if_eq, st_if_ne, st_if_lt, st_if_ge, st_if_gt, st_if_le, st_inv, st_iret, st_zret, st_bret, gf_17_401, gf_40_700, gf_0_1103, gf_0_1110, HP_40, tab_51, mm_cut, cond_false, cond_true, List.getElem?_cons_succ, List.getElem?_cons_zero, Int.reduceToNat, Nat.reduceMod, Nat.reduceDiv, Nat.reduceAdd, true_and, and_true, mm_set, mm_set2, mm_pop, List.length_cons, List.length_nil, Nat.reduceLeDiff, Int32.reduceOfInt, Int64.reduceOfInt, nar_b0, nar_b1, List.cons_append, List.nil_append, Option.toList_some, Option.toList_none, List.map_cons, List.map_nil, List.sum_cons, List.sum_nil, cat_i, cat_r, cat_l, Nat.zero_le, Int32.reduceOfNat, Int32.reduceAdd, Int32.reduceLT, Int32.reduceLE, forall_const, true_implies, false_implies, not_false_eq_true, not_true_eq_false, bi_eq0, bi_ne0, sl_0, sl_3, va_rf, Nat.reduceEqDiff, if_false, ite_false, ite_true, reduceIte, List.set_cons_zero, List.set_cons_succ, Nat.succ_eq_add_one, mup_c, mup_s, mw_zero, ne_eq, lit_10, lit_01, lit_m10, lit_m11, nar_bi, e40]
    refine m_undo (a := a) (r := mrow μ) hk1 (fun h0 => absurd ha (by omega)) (fun μ2 _ ho2 h39' h72 => ?_)
    refine PE.mk rfl ?_
    obtain ⟨jE, jA, jI, jL, jT, jS, jM⟩ := hJ
    have c : ∀ k, k ≠ 56 → k ∉ [40, 24, 25, 26, 27, 72] → μ2 k = μ k := fun k hk hm => by
      rw [ho2.at (fun z => hm (by simp at z ⊢; omega)) hk, ho1 k (fun z => hm (by simp at z ⊢; omega))]
    have f : ∀ k, k ≠ 39 → μ2 56 k = μ 56 k := fun k hk => by rw [ho2.2 k (by simpa using hk), ho1 56 (by decide)]
    have e40' : μ2 40 = μ1 40 := ho2.at (by decide)
    refine ⟨tn, gn, a - 1, (p + 39) % 40, dy, ln, sz, m, jE.of (c _ (by decide) (by decide)) (c _ (by decide) (by decide)) (c _ (by decide) (by decide)) (c _ (by decide) (by decide)) (c _ (by decide) (by decide)) (c _ (by decide) (by decide)) (c _ (by decide) (by decide)) (f _ (by decide)) (f _ (by decide)), ⟨?_, ?_, h39', fun j hj => ?_, fun j hj => hdy j (by omega)⟩, ?_, jL.of (c _ (by decide) (by decide)) (c _ (by decide) (by decide)) (c _ (by decide) (by decide)) (c _ (by decide) (by decide)) (c _ (by decide) (by decide)) (c _ (by decide) (by decide)) (c _ (by decide) (by decide)) (c _ (by decide) (by decide)) (fun n hn => c _ (by omega) (by simp; omega)) (f _ (by decide)) (f _ (by decide)), jT.of (by rw [c 1 (by decide) (by decide)]) (c _ (by decide) (by decide)) (c _ (by decide) (by decide)) (f _ (by decide)), jS.of (c _ (by decide) (by decide)) (c _ (by decide) (by decide)) (c _ (by decide) (by decide)) (c _ (by decide) (by decide)) (c _ (by decide) (by decide)) (c _ (by decide) (by decide)) (c _ (by decide) (by decide)) (c _ (by decide) (by decide)) (c _ (by decide) (by decide)) (f _ (by decide)), jM.of (c _ (by decide) (by decide)) (c _ (by decide) (by decide)) (c _ (by decide) (by decide)) (c _ (by decide) (by decide)) (by rw [c 10 (by decide) (by decide)]) (f _ (by decide))⟩
    · have hr := hrows (a - 1) (by omega)
      rw [c 42 (by decide) (by decide)]
      have e : csv μ2 24 = csv μ1 24 := csv_of (ho2.at (by decide)) (ho2.at (by decide)) (ho2.at (by decide)) (ho2.at (by decide))
      rw [e]
      refine hr.cong hg5 (fun i hi => ?_) h72 (fun i _ => rfl)
      rw [hs1 i hi, show (p + 40 - a + (a - 1)) % 40 = (p + 39) % 40 by omega]
    · unfold PA at *; rw [e40']; exact hp1
    · refine (hrows j (by omega)).cong hg5 (fun i _ => ?_) (fun k _ => ?_) (fun i _ => by rw [c 42 (by decide) (by decide)])
      · rw [c 41 (by decide) (by decide), show ((p + 39) % 40 + 40 - (a - 1) + j) % 40 = (p + 40 - a + j) % 40 by omega]
      · unfold mrow; rw [c 78 (by decide) (by decide)]
    · unfold JI at *
      rw [e40', f4, f 51 (by decide), c 43 (by decide) (by decide), c 44 (by decide) (by decide), c 85 (by decide) (by decide)]
      exact jI
theorem p_image (hJ : JX ε μ tn gn a p dy ln sz m) : Pr mX11_image mX12_image [] ε μ := by
  obtain ⟨ht7, hg5, htg, h18, h18', h56, h56', hth⟩ := hJ.1
  have hR := hJ.2.1.1
  have h3 := hR.2.2.1.2.2
  rw [csv_lo (by decide)] at h3
  have hz : (nI tn = 0) = (tn = 0) := propext (nI_eq (b := 0) (by omega) (by decide))
  unfold Pr
  refine b0_of_G0 (lv := [.ref 0]) (by decide +kernel) (Nat.le_of_ble_eq_true rfl) rfl ?_
  refine mw_ok (M := mX11_image) (fun _ => false) okTX11 rfl 20 _ _ _ _ ?_
  simp only [eX11_image_0, eX11_image_1, eX11_image_4, eX11_image_7, eX11_image_8, eX11_image_9, eX11_image_10, eX11_image_13, eX11_image_14, eX11_image_17, eX11_image_20, eX11_image_23, eX11_image_24, eX11_image_27, eX11_image_30, eX11_image_33, st_aload, st_iconst, st_if_eq, st_if_ne, st_if_lt, st_if_ge, st_if_gt, st_if_le, st_inv, st_iret, st_zret, st_bret, gf_17_401, gf_10_805, gf_24_805, gf_28_805, gf_0_1103, gf_0_1110, HP_0, HP_40, tab_54, tab_107, mm_cut, cond_false, cond_true, List.getElem?_cons_succ, List.getElem?_cons_zero, Int.reduceToNat, Nat.reduceMod, Nat.reduceDiv, Nat.reduceAdd, true_and, and_true, mm_set, mm_set2, mm_pop, List.length_cons, List.length_nil, Nat.reduceLeDiff, Int32.reduceOfInt, Int64.reduceOfInt, nar_b0, nar_b1, List.cons_append, List.nil_append, Option.toList_some, Option.toList_none, List.map_cons, List.map_nil, List.sum_cons, List.sum_nil, cat_i, cat_r, cat_l, Nat.zero_le, Int32.reduceOfNat, Int32.reduceAdd, Int32.reduceLT, Int32.reduceLE, forall_const, true_implies, false_implies, not_false_eq_true, not_true_eq_false, bi_eq0, bi_ne0, sl_0, sl_3, va_rf, Nat.reduceEqDiff, if_false, ite_false, ite_true, reduceIte, List.set_cons_zero, List.set_cons_succ, Nat.succ_eq_add_one, mup_c, mup_s, mw_zero, ne_eq, lit_10, lit_01, lit_m10, lit_m11, nar_bi]
  refine c_hasE h18 ht7 ?_
  by_cases ht0 : 0 < tn
  · rw [bi1 ht0]
    refine mw_ok (M := mX11_image) (fun _ => false) okTX11 rfl 20 _ _ _ _ ?_
    simp (decide := true) only [eX11_image_0, eX11_image_1, eX11_image_4, eX11_image_7, eX11_image_8, eX11_image_9, eX11_image_10, eX11_image_13, eX11_image_14, eX11_image_17, eX11_image_20, eX11_image_23, eX11_image_24, eX11_image_27, eX11_image_30, eX11_image_33, st_aload, st_iconst, st_if_eq, st_if_ne, st_if_lt, st_if_ge, st_if_gt, st_if_le, st_inv, st_iret, st_zret, st_bret, gf_17_401, gf_10_805, gf_24_805, gf_28_805, gf_0_1103, gf_0_1110, HP_0, HP_40, tab_54, tab_107, mm_cut, cond_false, cond_true, List.getElem?_cons_succ, List.getElem?_cons_zero, Int.reduceToNat, Nat.reduceMod, Nat.reduceDiv, Nat.reduceAdd, true_and, and_true, mm_set, mm_set2, mm_pop, List.length_cons, List.length_nil, Nat.reduceLeDiff, Int32.reduceOfInt, Int64.reduceOfInt, nar_b0, nar_b1, List.cons_append, List.nil_append, Option.toList_some, Option.toList_none, List.map_cons, List.map_nil, List.sum_cons, List.sum_nil, cat_i, cat_r, cat_l, Nat.zero_le, Int32.reduceOfNat, Int32.reduceAdd, Int32.reduceLT, Int32.reduceLE, forall_const, true_implies, false_implies, not_false_eq_true, not_true_eq_false, bi_eq0, bi_ne0, sl_0, sl_3, va_rf, Nat.reduceEqDiff, if_false, ite_false, ite_true, reduceIte, List.set_cons_zero, List.set_cons_succ, Nat.succ_eq_add_one, mup_c, mup_s, mw_zero, ne_eq, lit_10, lit_01, lit_m10, lit_m11, nar_bi]
    refine c_keepImage ?_
    intro μ1 ho1 f0 f1 f4 hs1 hr1
    have e24 : μ1 24 = μ 24 := ho1 24 (by decide)
    refine mw_ok (M := mX11_image) (fun _ => false) okTX11 rfl 20 _ _ _ _ ?_
    simp only [eX11_image_0, eX11_image_1, eX11_image_4, eX11_image_7, eX11_image_8, eX11_image_9, eX11_image_10, eX11_image_13, eX11_image_14, eX11_image_17, eX11_image_20, eX11_image_23, eX11_image_24, eX11_image_27, eX11_image_30, eX11_image_33, st_aload, st_iconst, st_if_eq, st_if_ne, st_if_lt, st_if_ge, st_if_gt, st_if_le, st_inv, st_iret, st_zret, st_bret, gf_17_401, gf_10_805, gf_24_805, gf_28_805, gf_0_1103, gf_0_1110, HP_0, HP_40, tab_54, tab_107, mm_cut, cond_false, cond_true, List.getElem?_cons_succ, List.getElem?_cons_zero, Int.reduceToNat, Nat.reduceMod, Nat.reduceDiv, Nat.reduceAdd, true_and, and_true, mm_set, mm_set2, mm_pop, List.length_cons, List.length_nil, Nat.reduceLeDiff, Int32.reduceOfInt, Int64.reduceOfInt, nar_b0, nar_b1, List.cons_append, List.nil_append, Option.toList_some, Option.toList_none, List.map_cons, List.map_nil, List.sum_cons, List.sum_nil, cat_i, cat_r, cat_l, Nat.zero_le, Int32.reduceOfNat, Int32.reduceAdd, Int32.reduceLT, Int32.reduceLE, forall_const, true_implies, false_implies, not_false_eq_true, not_true_eq_false, bi_eq0, bi_ne0, sl_0, sl_3, va_rf, Nat.reduceEqDiff, if_false, ite_false, ite_true, reduceIte, List.set_cons_zero, List.set_cons_succ, Nat.succ_eq_add_one, mup_c, mup_s, mw_zero, ne_eq, lit_10, lit_01, lit_m10, lit_m11, nar_bi, e24, h3]
    refine m_image (fun h0 => ?_) (fun μ2 _ ho2 h51 h85 => ?_)
    · rw [ho1 56 (by decide), h56, hz] at h0; omega
    · rw [ho1 72 (by decide)] at h85
      refine PE.mk (by rw [ho1 72 (by decide)]) ?_
      obtain ⟨jE, jA, jI, jL, jT, jS, jM⟩ := hJ
      have c : ∀ k, k ≠ 56 → k ∉ [40, 43, 44, 85] → μ2 k = μ k := fun k hk hm => by
        rw [ho2.at (fun z => hm (by simp at z ⊢; omega)) hk, ho1 k (fun z => hm (by simp at z ⊢; omega))]
      have f : ∀ k, k ≠ 51 → μ2 56 k = μ 56 k := fun k hk => by rw [ho2.2 k (by simpa using hk), ho1 56 (by decide)]
      have e40' : μ2 40 = μ1 40 := ho2.at (by decide)
      refine ⟨tn, gn, a, p, dy, ln, sz, m, jE.of (c _ (by decide) (by decide)) (c _ (by decide) (by decide)) (c _ (by decide) (by decide)) (c _ (by decide) (by decide)) (c _ (by decide) (by decide)) (c _ (by decide) (by decide)) (c _ (by decide) (by decide)) (f _ (by decide)) (f _ (by decide)), ?_, Or.inr ⟨by rw [e40']; exact f4, h51, dy a, ?_⟩, jL.of (c _ (by decide) (by decide)) (c _ (by decide) (by decide)) (c _ (by decide) (by decide)) (c _ (by decide) (by decide)) (c _ (by decide) (by decide)) (c _ (by decide) (by decide)) (c _ (by decide) (by decide)) (c _ (by decide) (by decide)) (fun n hn => c _ (by omega) (by simp; omega)) (f _ (by decide)) (f _ (by decide)), jT.of (by rw [c 1 (by decide) (by decide)]) (c _ (by decide) (by decide)) (c _ (by decide) (by decide)) (f _ (by decide)), jS.of (c _ (by decide) (by decide)) (c _ (by decide) (by decide)) (c _ (by decide) (by decide)) (c _ (by decide) (by decide)) (c _ (by decide) (by decide)) (c _ (by decide) (by decide)) (c _ (by decide) (by decide)) (c _ (by decide) (by decide)) (c _ (by decide) (by decide)) (f _ (by decide)), jM.of (c _ (by decide) (by decide)) (c _ (by decide) (by decide)) (c _ (by decide) (by decide)) (c _ (by decide) (by decide)) (by rw [c 10 (by decide) (by decide)]) (f _ (by decide))⟩
      · unfold JA PA mrow at *
        rw [csv_of (c 24 (by decide) (by decide)) (c 25 (by decide) (by decide)) (c 26 (by decide) (by decide)) (c 27 (by decide) (by decide)), c 72 (by decide) (by decide), c 41 (by decide) (by decide), c 42 (by decide) (by decide), c 78 (by decide) (by decide), f 39 (by decide), e40', f0, f1]
        exact jA
      · refine hR.cong hg5 (fun i hi => ?_) h85 (fun i _ => ?_)
        · rw [ho2.at (by decide)]; exact hs1 i hi
        · rw [ho2.at (show 44 ∉ [85] by decide)]; exact hr1 _ (by omega)
  · have : B0 100 mX12_image [.ref 56] (HP ε μ) (fun w h' => ∃ x ε' μ', some (Value.int (-1)) = some (.int x) ∧ w = some (.int x) ∧ h' = HP ε' μ' ∧ J ε' μ') := by
      refine m_image (fun _ => PE.mk rfl hJ.j) (fun μ2 h0 => absurd (by rw [h56, hz]; omega) h0)
    rw [bi0 ht0]
    refine mw_ok (M := mX11_image) (fun _ => false) okTX11 rfl 20 _ _ _ _ ?_
    simp only [eX11_image_0, eX11_image_1, eX11_image_4, eX11_image_7, eX11_image_8, eX11_image_9, eX11_image_10, eX11_image_13, eX11_image_14, eX11_image_17, eX11_image_20, eX11_image_23, eX11_image_24, eX11_image_27, eX11_image_30, eX11_image_33, st_aload, st_iconst, st_if_eq, st_if_ne, st_if_lt, st_if_ge, st_if_gt, st_if_le, st_inv, st_iret, st_zret, st_bret, gf_17_401, gf_10_805, gf_24_805, gf_28_805, gf_0_1103, gf_0_1110, HP_0, HP_40, tab_54, tab_107, mm_cut, cond_false, cond_true, List.getElem?_cons_succ, List.getElem?_cons_zero, Int.reduceToNat, Nat.reduceMod, Nat.reduceDiv, Nat.reduceAdd, true_and, and_true, mm_set, mm_set2, mm_pop, List.length_cons, List.length_nil, Nat.reduceLeDiff, Int32.reduceOfInt, Int64.reduceOfInt, nar_b0, nar_b1, List.cons_append, List.nil_append, Option.toList_some, Option.toList_none, List.map_cons, List.map_nil, List.sum_cons, List.sum_nil, cat_i, cat_r, cat_l, Nat.zero_le, Int32.reduceOfNat, Int32.reduceAdd, Int32.reduceLT, Int32.reduceLE, forall_const, true_implies, false_implies, not_false_eq_true, not_true_eq_false, bi_eq0, bi_ne0, sl_0, sl_3, va_rf, Nat.reduceEqDiff, if_false, ite_false, ite_true, reduceIte, List.set_cons_zero, List.set_cons_succ, Nat.succ_eq_add_one, mup_c, mup_s, mw_zero, ne_eq, lit_10, lit_01, lit_m10, lit_m11, nar_bi]
    exact this
theorem p_back (hJ : JX ε μ tn gn a p dy ln sz m) : Pr mX11_back mX12_back [] ε μ := by
  have hg5 := hJ.1.2.1
  have hI := hJ.2.2.1
  have hP := hJ.2.1.2.1
  unfold Pr
  refine b0_of_G0 (lv := [.ref 0]) (by decide +kernel) (Nat.le_of_ble_eq_true rfl) rfl ?_
  refine mw_ok (M := mX11_back) (fun _ => false) okTX11 rfl 20 _ _ _ _ ?_
  simp only [eX11_back_0, eX11_back_1, eX11_back_4, eX11_back_5, eX11_back_8, eX11_back_11, eX11_back_14, eX11_back_17, eX11_back_18, eX11_back_21, eX11_back_24, eX11_back_27, eX11_back_30, eX11_back_31, st_aload, st_goto, st_iconst, st_if_eq, st_if_ne, st_if_lt, st_if_ge, st_if_gt, st_if_le, st_inv, st_iret, st_zret, st_bret, gf_17_401, gf_10_805, gf_24_805, gf_28_805, gf_0_1103, gf_0_1110, HP_40, tab_55, mm_cut, cond_false, cond_true, List.getElem?_cons_succ, List.getElem?_cons_zero, Int.reduceToNat, Nat.reduceMod, Nat.reduceDiv, Nat.reduceAdd, true_and, and_true, mm_set, mm_set2, mm_pop, List.length_cons, List.length_nil, Nat.reduceLeDiff, Int32.reduceOfInt, Int64.reduceOfInt, nar_b0, nar_b1, List.cons_append, List.nil_append, Option.toList_some, Option.toList_none, List.map_cons, List.map_nil, List.sum_cons, List.sum_nil, cat_i, cat_r, cat_l, Nat.zero_le, Int32.reduceOfNat, Int32.reduceAdd, Int32.reduceLT, Int32.reduceLE, forall_const, true_implies, false_implies, not_false_eq_true, not_true_eq_false, bi_eq0, bi_ne0, sl_0, sl_3, va_rf, Nat.reduceEqDiff, if_false, ite_false, ite_true, reduceIte, List.set_cons_zero, List.set_cons_succ, Nat.succ_eq_add_one, mup_c, mup_s, mw_zero, ne_eq, lit_10, lit_01, lit_m10, lit_m11, nar_bi]
  refine c_bringBack (fun h0 => ?_) (fun μ1 h0 ho1 f0 f1 f4 hs1 hr1 => ?_)
  · have h51 : μ 56 51 = 0 := by
      rcases hI with hI | hI
      · exact hI.2
      · rw [hI.1] at h0; exact absurd h0 (by decide)
    have : B0 100 mX12_back [.ref 56] (HP ε μ) (fun w h' => ∃ x ε' μ', some (Value.int (-1)) = some (.int x) ∧ w = some (.int x) ∧ h' = HP ε' μ' ∧ J ε' μ') := m_back (fun _ => PE.mk rfl hJ.j) (fun μ2 h0 => absurd h51 h0)
    refine mw_ok (M := mX11_back) (fun _ => false) okTX11 rfl 20 _ _ _ _ ?_
    simp only [eX11_back_0, eX11_back_1, eX11_back_4, eX11_back_5, eX11_back_8, eX11_back_11, eX11_back_14, eX11_back_17, eX11_back_18, eX11_back_21, eX11_back_24, eX11_back_27, eX11_back_30, eX11_back_31, st_aload, st_goto, st_iconst, st_if_eq, st_if_ne, st_if_lt, st_if_ge, st_if_gt, st_if_le, st_inv, st_iret, st_zret, st_bret, gf_17_401, gf_10_805, gf_24_805, gf_28_805, gf_0_1103, gf_0_1110, HP_40, tab_55, mm_cut, cond_false, cond_true, List.getElem?_cons_succ, List.getElem?_cons_zero, Int.reduceToNat, Nat.reduceMod, Nat.reduceDiv, Nat.reduceAdd, true_and, and_true, mm_set, mm_set2, mm_pop, List.length_cons, List.length_nil, Nat.reduceLeDiff, Int32.reduceOfInt, Int64.reduceOfInt, nar_b0, nar_b1, List.cons_append, List.nil_append, Option.toList_some, Option.toList_none, List.map_cons, List.map_nil, List.sum_cons, List.sum_nil, cat_i, cat_r, cat_l, Nat.zero_le, Int32.reduceOfNat, Int32.reduceAdd, Int32.reduceLT, Int32.reduceLE, forall_const, true_implies, false_implies, not_false_eq_true, not_true_eq_false, bi_eq0, bi_ne0, sl_0, sl_3, va_rf, Nat.reduceEqDiff, if_false, ite_false, ite_true, reduceIte, List.set_cons_zero, List.set_cons_succ, Nat.succ_eq_add_one, mup_c, mup_s, mw_zero, ne_eq, lit_10, lit_01, lit_m10, lit_m11, nar_bi]
    exact this
  · obtain ⟨i1, i2, D, hR⟩ := hI.resolve_left (fun z => h0 z.1)
    have h24 : μ1 24 5 = μ 43 5 := by
      have := hs1 5 (by decide)
      rw [csv_lo (by decide)] at this
      exact this
    refine mw_ok (M := mX11_back) (fun _ => false) okTX11 rfl 20 _ _ _ _ ?_
    simp only [eX11_back_0, eX11_back_1, eX11_back_4, eX11_back_5, eX11_back_8, eX11_back_11, eX11_back_14, eX11_back_17, eX11_back_18, eX11_back_21, eX11_back_24, eX11_back_27, eX11_back_30, eX11_back_31, st_aload, st_goto, st_iconst, st_if_eq, st_if_ne, st_if_lt, st_if_ge, st_if_gt, st_if_le, st_inv, st_iret, st_zret, st_bret, gf_17_401, gf_10_805, gf_24_805, gf_28_805, gf_0_1103, gf_0_1110, HP_40, tab_55, mm_cut, cond_false, cond_true, List.getElem?_cons_succ, List.getElem?_cons_zero, Int.reduceToNat, Nat.reduceMod, Nat.reduceDiv, Nat.reduceAdd, true_and, and_true, mm_set, mm_set2, mm_pop, List.length_cons, List.length_nil, Nat.reduceLeDiff, Int32.reduceOfInt, Int64.reduceOfInt, nar_b0, nar_b1, List.cons_append, List.nil_append, Option.toList_some, Option.toList_none, List.map_cons, List.map_nil, List.sum_cons, List.sum_nil, cat_i, cat_r, cat_l, Nat.zero_le, Int32.reduceOfNat, Int32.reduceAdd, Int32.reduceLT, Int32.reduceLE, forall_const, true_implies, false_implies, not_false_eq_true, not_true_eq_false, bi_eq0, bi_ne0, sl_0, sl_3, va_rf, Nat.reduceEqDiff, if_false, ite_false, ite_true, reduceIte, List.set_cons_zero, List.set_cons_succ, Nat.succ_eq_add_one, mup_c, mup_s, mw_zero, ne_eq, lit_10, lit_01, lit_m10, lit_m11, nar_bi, h24]
    refine m_back (fun h0 => ?_) (fun μ2 _ ho2 h39 h72 => ?_)
    · rw [ho1 56 (by decide), i2] at h0; exact absurd h0 (by decide)
    · rw [ho1 85 (by decide)] at h72 ⊢
      refine PE.mk hR.2.2.1.2.2 ?_
      obtain ⟨jE, jA, jI, jL, jT, jS, jM⟩ := hJ
      have c : ∀ k, k ≠ 56 → k ∉ [40, 42, 24, 25, 26, 27, 72] → μ2 k = μ k := fun k hk hm => by
        rw [ho2.at (fun z => hm (by simp at z ⊢; omega)) hk, ho1 k (fun z => hm (by simp at z ⊢; omega))]
      have f : ∀ k, k ≠ 39 → μ2 56 k = μ 56 k := fun k hk => by rw [ho2.2 k (by simpa using hk), ho1 56 (by decide)]
      have e40' : μ2 40 = μ1 40 := ho2.at (by decide)
      refine ⟨tn, gn, 0, p, fun _ => D, ln, sz, m, jE.of (c _ (by decide) (by decide)) (c _ (by decide) (by decide)) (c _ (by decide) (by decide)) (c _ (by decide) (by decide)) (c _ (by decide) (by decide)) (c _ (by decide) (by decide)) (c _ (by decide) (by decide)) (f _ (by decide)) (f _ (by decide)), ⟨?_, ⟨by rw [e40', f1]; exact hP.1, hP.2.1, by rw [e40', f0]; rfl, by omega⟩, by rw [h39]; rfl, fun j hj => by omega, fun j hj => by omega⟩, Or.inr ⟨by rw [e40', f4]; exact i1, by rw [f 51 (by decide)]; exact i2, D, ?_⟩, jL.of (c _ (by decide) (by decide)) (c _ (by decide) (by decide)) (c _ (by decide) (by decide)) (c _ (by decide) (by decide)) (c _ (by decide) (by decide)) (c _ (by decide) (by decide)) (c _ (by decide) (by decide)) (c _ (by decide) (by decide)) (fun n hn => c _ (by omega) (by simp; omega)) (f _ (by decide)) (f _ (by decide)), jT.of (by rw [c 1 (by decide) (by decide)]) (c _ (by decide) (by decide)) (c _ (by decide) (by decide)) (f _ (by decide)), jS.of (c _ (by decide) (by decide)) (c _ (by decide) (by decide)) (c _ (by decide) (by decide)) (c _ (by decide) (by decide)) (c _ (by decide) (by decide)) (c _ (by decide) (by decide)) (c _ (by decide) (by decide)) (c _ (by decide) (by decide)) (c _ (by decide) (by decide)) (f _ (by decide)), jM.of (c _ (by decide) (by decide)) (c _ (by decide) (by decide)) (c _ (by decide) (by decide)) (c _ (by decide) (by decide)) (by rw [c 10 (by decide) (by decide)]) (f _ (by decide))⟩
      · have e : csv μ2 24 = csv μ1 24 := csv_of (ho2.at (by decide)) (ho2.at (by decide)) (ho2.at (by decide)) (ho2.at (by decide))
        rw [e]
        refine hR.cong hg5 hs1 h72 (fun i _ => ?_)
        rw [ho2.at (show 42 ∉ [72] by decide)]; exact hr1 _ (by omega)
      · rw [c 43 (by decide) (by decide), c 44 (by decide) (by decide), c 85 (by decide) (by decide)]; exact hR
theorem m_end {x : Int32} (hQ0 : ¬ (0 ≤ x ∧ x ≤ μ 56 2) → Q (some (.int 0)) (HP ε μ)) (hQ1 : (0 ≤ x ∧ x ≤ μ 56 2) → Q (some (.int 1)) (HP ε (mup μ 56 2 x))) : B0 (d + 1) mX12_end [.ref 56, .int x] (HP ε μ) Q := by
  refine b0_of_G0 (lv := [.ref 56, .int x]) (by decide +kernel) (Nat.le_of_ble_eq_true rfl) rfl ?_
  refine mw_ok (M := mX12_end) (fun _ => false) okTX12 rfl 20 _ _ _ _ ?_
  simp only [eX12_end_0, eX12_end_1, eX12_end_4, eX12_end_5, eX12_end_6, eX12_end_9, eX12_end_12, eX12_end_13, eX12_end_14, eX12_end_15, eX12_end_16, eX12_end_19, eX12_end_20, st_aload, st_iconst, st_if_eq, st_if_ne, st_if_lt, st_if_ge, st_if_gt, st_if_le, st_ic_eq, st_ic_ne, st_ic_lt, st_ic_ge, st_ic_gt, st_ic_le, st_iload, st_iret, st_zret, st_bret, gf_56_1202, pf_56_1202, mm_cut, cond_false, cond_true, List.getElem?_cons_succ, List.getElem?_cons_zero, Int.reduceToNat, Nat.reduceMod, Nat.reduceDiv, Nat.reduceAdd, true_and, and_true, mm_set, mm_set2, mm_pop, List.length_cons, List.length_nil, Nat.reduceLeDiff, Int32.reduceOfInt, Int64.reduceOfInt, nar_b0, nar_b1, List.cons_append, List.nil_append, Option.toList_some, Option.toList_none, List.map_cons, List.map_nil, List.sum_cons, List.sum_nil, cat_i, cat_r, cat_l, Nat.zero_le, Int32.reduceOfNat, Int32.reduceAdd, Int32.reduceLT, Int32.reduceLE, forall_const, true_implies, false_implies, not_false_eq_true, not_true_eq_false, bi_eq0, bi_ne0, sl_0, sl_3, va_rf, Nat.reduceEqDiff, if_false, ite_false, ite_true, reduceIte, List.set_cons_zero, List.set_cons_succ, Nat.succ_eq_add_one, mup_c, mup_s, mw_zero, ne_eq, lit_10, lit_01, lit_m10, lit_m11, nar_bi]
  exact ⟨fun q => hQ0 (fun z => absurd z.1 (by simp only [Int32.le_iff_toInt_le, Int32.lt_iff_toInt_lt, ← Int32.toInt_inj, Int32.reduceToInt, ne_eq] at *; omega)), fun q1 => ⟨fun q2 => hQ1 ⟨(by simp only [Int32.le_iff_toInt_le, Int32.lt_iff_toInt_lt, ← Int32.toInt_inj, Int32.reduceToInt, ne_eq] at *; omega), q2⟩, fun q2 => hQ0 (fun z => q2 z.2)⟩⟩
theorem p_end {x : Int32} (hJ : JX ε μ tn gn a p dy ln sz m) : Pr mX11_end mX12_end [.int x] ε μ := by
  obtain ⟨t1, t2, t3, t4⟩ := hJ.2.2.2.2.1
  have e := nI_toInt (n := sz) (by omega)
  unfold Pr
  have fin : ∀ n, n ≤ sz → x = nI n → J ε (mup (mup μ 1 1 x) 56 2 x) := by
    intro n hn hx
    obtain ⟨jE, jA, jI, jL, jT, jS, jM⟩ := hJ
    have k : ∀ i, i ≠ 2 → mup (mup μ 1 1 x) 56 2 x 56 i = μ 56 i := fun i hi => by rw [mup_s, if_neg hi, mup_c (by decide)]
    refine ⟨tn, gn, a, p, dy, ln, n, m, jE.of rfl rfl rfl rfl rfl rfl rfl (k _ (by decide)) (k _ (by decide)), jA.of rfl rfl rfl rfl rfl rfl rfl rfl rfl (k _ (by decide)), jI.of rfl rfl rfl rfl (k _ (by decide)), jL.of rfl rfl rfl rfl rfl rfl rfl rfl (fun n hn => by rw [mup_c (by omega), mup_c (by omega)]) (k _ (by decide)) (k _ (by decide)), ⟨?_, ?_, by omega, fun i hi => t4 i (by omega)⟩, jS.of rfl rfl rfl rfl rfl rfl rfl rfl rfl (k _ (by decide)), jM.of rfl rfl rfl rfl rfl (k _ (by decide))⟩
    · rw [mup_c (by decide), mup_s, if_pos rfl]; exact hx
    · rw [mup_s, if_pos rfl]; exact hx
  refine b0_of_G0 (lv := [.ref 0, .int x]) (by decide +kernel) (Nat.le_of_ble_eq_true rfl) rfl ?_
  refine mw_ok (M := mX11_end) (fun _ => false) okTX11 rfl 20 _ _ _ _ ?_
  simp only [eX11_end_0, eX11_end_1, eX11_end_4, eX11_end_5, eX11_end_6, eX11_end_9, eX11_end_12, eX11_end_15, eX11_end_16, eX11_end_17, eX11_end_18, eX11_end_21, eX11_end_22, eX11_end_25, eX11_end_26, st_aload, st_iconst, st_if_eq, st_if_ne, st_if_lt, st_if_ge, st_if_gt, st_if_le, st_ic_eq, st_ic_ne, st_ic_lt, st_ic_ge, st_ic_gt, st_ic_le, st_iload, st_iret, st_zret, st_bret, gf_1_1001, gf_0_1100, pf_1_1001, mm_cut, cond_false, cond_true, List.getElem?_cons_succ, List.getElem?_cons_zero, Int.reduceToNat, Nat.reduceMod, Nat.reduceDiv, Nat.reduceAdd, true_and, and_true, mm_set, mm_set2, mm_pop, List.length_cons, List.length_nil, Nat.reduceLeDiff, Int32.reduceOfInt, Int64.reduceOfInt, nar_b0, nar_b1, List.cons_append, List.nil_append, Option.toList_some, Option.toList_none, List.map_cons, List.map_nil, List.sum_cons, List.sum_nil, cat_i, cat_r, cat_l, Nat.zero_le, Int32.reduceOfNat, Int32.reduceAdd, Int32.reduceLT, Int32.reduceLE, forall_const, true_implies, false_implies, not_false_eq_true, not_true_eq_false, bi_eq0, bi_ne0, sl_0, sl_3, va_rf, Nat.reduceEqDiff, if_false, ite_false, ite_true, reduceIte, List.set_cons_zero, List.set_cons_succ, Nat.succ_eq_add_one, mup_c, mup_s, mw_zero, ne_eq, lit_10, lit_01, lit_m10, lit_m11, nar_bi, t1]
  have bad : ¬ (0 ≤ x ∧ x ≤ nI sz) → B0 100 mX12_end [.ref 56, .int x] (HP ε μ) (fun w h' => ∃ x ε' μ', some (Value.int 0) = some (.int x) ∧ w = some (.int x) ∧ h' = HP ε' μ' ∧ J ε' μ') := by
    intro hb
    refine m_end (fun _ => PE.mk rfl hJ.j) (fun hg => absurd (by rw [t2] at hg; exact hg) hb)
  refine ⟨fun q => bad (by simp only [Int32.le_iff_toInt_le, Int32.lt_iff_toInt_lt, ← Int32.toInt_inj, Int32.reduceToInt, ne_eq] at *; omega), fun q1 => ⟨fun q2 => ?_, fun q2 => bad (by simp only [Int32.le_iff_toInt_le, Int32.lt_iff_toInt_lt, ← Int32.toInt_inj, Int32.reduceToInt, ne_eq] at *; omega)⟩⟩
  obtain ⟨n, hn, hx⟩ := nI_of2 (x := x) (M := nI sz) (n := sz) e q1 q2
  refine m_end (fun hb => absurd (show 0 ≤ x ∧ x ≤ nI sz from ⟨(by simp only [Int32.le_iff_toInt_le, Int32.lt_iff_toInt_lt, ← Int32.toInt_inj, Int32.reduceToInt, ne_eq] at *; omega), q2⟩) ?_) (fun _ => PE.mk rfl (fin n hn hx))
  rw [mup_c (by decide), t2] at hb
  exact hb
end P9
