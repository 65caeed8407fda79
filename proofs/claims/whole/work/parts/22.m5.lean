/-- the first of the greatest: which, and how much, among the first so many -/
def tkr (r : Nat → Int32) : Nat → Int32 × Int32
  | 0 => (-1, 0)
  | g + 1 => if (tkr r g).2 < r g then (nI g, r g) else tkr r g
theorem tkr_cong {r r' : Nat → Int32} : ∀ {n : Nat}, (∀ g, g < n → r g = r' g) → tkr r n = tkr r' n
  | 0, _ => rfl
  | n + 1, h => by rw [tkr, tkr, tkr_cong (fun g hg => h g (by omega)), h n (by omega)]
theorem tkr_is {r : Nat → Int32} : ∀ n, (tkr r n).1 = -1 ∨ ∃ g, g < n ∧ (tkr r n).1 = nI g
  | 0 => Or.inl rfl
  | n + 1 => by
    rw [tkr]
    split
    · exact Or.inr ⟨n, by omega, rfl⟩
    · rcases tkr_is (r := r) n with h | ⟨g, h1, h2⟩
      · exact Or.inl h
      · exact Or.inr ⟨g, by omega, h2⟩
section M5
variable {d : Nat} {ε : mm_X} {μ : mm_mu} {Q : mm_Q0} {h : mm_H}
theorem mLaw_off {μ μ' : mm_mu} {l : List Nat} (ho : Off l μ μ') (hl : ∀ c, 58 ≤ c → c ≤ 64 → c ∉ l) (h28 : μ' 56 28 = μ 56 28) : mLaw μ' = mLaw μ := by
  rw [mLaw, mLaw, h28, mWorth_off ho hl]
theorem okHold_off {μ μ' : mm_mu} {l : List Nat} (ho : Off l μ μ') (hl : ∀ c, 58 ≤ c → c ≤ 64 → c ∉ l) (h28 : μ' 56 28 = μ 56 28) (h : okHold μ) : okHold μ' := by
  rcases h with h | ⟨n, h1, h2, h3⟩
  · exact Or.inl (by rw [h28]; exact h)
  · exact Or.inr ⟨n, h1, by rw [h28]; exact h2, okLaw_off ho hl h3⟩
/-- the reference's reach -/
def mrch (μ : mm_mu) (t : Nat) (c : Int32) (g : Nat) : Int32 := rch (mLaw μ) (μ 71 (5 * t + 3)) (μ 71 (5 * t + 4)) (far (μ 72 g) c) (μ 72 (5 + g)) (μ 71 (5 * t + 1)) (μ 76 g)
def mtk (μ : mm_mu) (gn t : Nat) (c : Int32) : Int32 := if c = 10 then -1 else (tkr (mrch μ t c) gn).1
theorem m_takes {xt c : Int32} {t gn : Nat} (ht : xt = nI t) (ht7 : t < 7) (hgn : μ 56 25 = nI gn) (hg5 : gn ≤ 5) (hh : okHold μ) (hQ : ∀ μ', Off [65, 66] μ μ' → Q (some (.int (mtk μ gn t c))) (HP ε μ')) : B0 (d + 7) mX12_takes [.ref 56, .int xt, .int c] (HP ε μ) Q := by
  refine b0_of_G0 (lv := [.ref 56, .int xt, .int c, .null, .null, .null, .null]) (by decide +kernel) (Nat.le_of_ble_eq_true rfl) rfl ?_
  refine mw_ok (M := mX12_takes) (fun q => q == 8) okTX12 rfl 20 _ _ _ _ ?_
  simp only [eX12_takes_0, eX12_takes_1, eX12_takes_2, eX12_takes_3, eX12_takes_5, eX12_takes_6, eX12_takes_8, eX12_takes_10, eX12_takes_11, eX12_takes_14, eX12_takes_17, eX12_takes_18, eX12_takes_20, eX12_takes_23, eX12_takes_24, eX12_takes_26, eX12_takes_27, eX12_takes_28, eX12_takes_29, eX12_takes_32, eX12_takes_34, eX12_takes_35, eX12_takes_38, eX12_takes_40, eX12_takes_42, eX12_takes_44, eX12_takes_47, eX12_takes_49, eX12_takes_52, eX12_takes_53, eX12_takes_54, eX12_takes_56, eX12_takes_58, eX12_takes_61, eX12_takes_63, eX12_takes_66, eX12_takes_69, eX12_takes_70, st_aload, st_goto, st_iconst, st_ic_eq, st_ic_ne, st_ic_lt, st_ic_ge, st_ic_gt, st_ic_le, st_iinc, st_iload, st_ins, st_inv, st_iret, st_zret, st_bret, st_istore, gf_56_1225, gf_56_1232, ld_57, ld_58, ld_59, ld_60, ld_61, ld_62, ld_63, ld_64, ld_65, ld_66, ld_67, ld_68, ld_69, ld_70, ld_71, ld_72, ld_73, ld_74, ld_75, ld_76, ld_77, ld_78, ld_79, ld_80, ld_81, ld_82, ld_83, ld_85, HP_56, tab_179, tab_262, mm_cut, cond_false, cond_true, List.getElem?_cons_succ, List.getElem?_cons_zero, Int.reduceToNat, Nat.reduceMod, Nat.reduceDiv, Nat.reduceAdd, true_and, and_true, mm_set, mm_set2, mm_pop, List.length_cons, List.length_nil, Nat.reduceLeDiff, Int32.reduceOfInt, Int64.reduceOfInt, nar_b0, nar_b1, List.cons_append, List.nil_append, Option.toList_some, Option.toList_none, List.map_cons, List.map_nil, List.sum_cons, List.sum_nil, cat_i, cat_r, cat_l, Nat.zero_le, Int32.reduceOfNat, Int32.reduceAdd, Int32.reduceLT, Int32.reduceLE, forall_const, true_implies, false_implies, not_false_eq_true, not_true_eq_false, bi_eq0, bi_ne0, sl_0, sl_3, va_rf, Nat.reduceEqDiff, if_false, ite_false, ite_true, reduceIte, List.set_cons_zero, List.set_cons_succ, Nat.succ_eq_add_one, mup_c, mup_s, mw_zero, ne_eq, lit_10, lit_01, lit_m10, lit_m11, nar_bi, Nat.reduceBEq, Bool.or_false, Bool.false_or, Bool.or_true, Bool.true_or]
  have key : ∀ g, g ≤ gn → ∀ μ' b m y, Off [65, 66] μ μ' → (b, m) = tkr (mrch μ t c) g → (c = 10 → g = 0) → G0 (d + 6 + 1) mX12_takes Q 8 [.ref 56, .int xt, .int c, .int b, .int m, .int (nI g), y] [] (HP ε μ') := by
    refine mm_dn ?_ ?_
    · intro μ' b m y ho hbm hc
      have e56 : μ' 56 = μ 56 := ho 56 (by decide)
      refine mw_ok (M := mX12_takes) (fun q => q == 8) okTX12 rfl 20 _ _ _ _ ?_
      simp only [eX12_takes_0, eX12_takes_1, eX12_takes_2, eX12_takes_3, eX12_takes_5, eX12_takes_6, eX12_takes_8, eX12_takes_10, eX12_takes_11, eX12_takes_14, eX12_takes_17, eX12_takes_18, eX12_takes_20, eX12_takes_23, eX12_takes_24, eX12_takes_26, eX12_takes_27, eX12_takes_28, eX12_takes_29, eX12_takes_32, eX12_takes_34, eX12_takes_35, eX12_takes_38, eX12_takes_40, eX12_takes_42, eX12_takes_44, eX12_takes_47, eX12_takes_49, eX12_takes_52, eX12_takes_53, eX12_takes_54, eX12_takes_56, eX12_takes_58, eX12_takes_61, eX12_takes_63, eX12_takes_66, eX12_takes_69, eX12_takes_70, st_aload, st_goto, st_iconst, st_ic_eq, st_ic_ne, st_ic_lt, st_ic_ge, st_ic_gt, st_ic_le, st_iinc, st_iload, st_ins, st_inv, st_iret, st_zret, st_bret, st_istore, gf_56_1225, gf_56_1232, ld_57, ld_58, ld_59, ld_60, ld_61, ld_62, ld_63, ld_64, ld_65, ld_66, ld_67, ld_68, ld_69, ld_70, ld_71, ld_72, ld_73, ld_74, ld_75, ld_76, ld_77, ld_78, ld_79, ld_80, ld_81, ld_82, ld_83, ld_85, HP_56, tab_179, tab_262, mm_cut, cond_false, cond_true, List.getElem?_cons_succ, List.getElem?_cons_zero, Int.reduceToNat, Nat.reduceMod, Nat.reduceDiv, Nat.reduceAdd, true_and, and_true, mm_set, mm_set2, mm_pop, List.length_cons, List.length_nil, Nat.reduceLeDiff, Int32.reduceOfInt, Int64.reduceOfInt, nar_b0, nar_b1, List.cons_append, List.nil_append, Option.toList_some, Option.toList_none, List.map_cons, List.map_nil, List.sum_cons, List.sum_nil, cat_i, cat_r, cat_l, Nat.zero_le, Int32.reduceOfNat, Int32.reduceAdd, Int32.reduceLT, Int32.reduceLE, forall_const, true_implies, false_implies, not_false_eq_true, not_true_eq_false, bi_eq0, bi_ne0, sl_0, sl_3, va_rf, Nat.reduceEqDiff, if_false, ite_false, ite_true, reduceIte, List.set_cons_zero, List.set_cons_succ, Nat.succ_eq_add_one, mup_c, mup_s, mw_zero, ne_eq, lit_10, lit_01, lit_m10, lit_m11, nar_bi, e56, hgn, leT (Nat.le_refl gn) (show gn < 2147483648 by omega), Nat.reduceBEq, Bool.or_false, Bool.false_or, Bool.or_true, Bool.true_or]
      have := hQ μ' ho
      rw [mtk] at this
      split at this
      · rename_i hc10
        have := hc hc10
        subst this
        cases hbm
        assumption
      · rw [← hbm] at this; exact this
    · intro g hg ih μ' b m y ho hbm hc
      have e56 : μ' 56 = μ 56 := ho 56 (by decide)
      have e76 : μ' 76 = μ 76 := ho 76 (by decide)
      refine mw_ok (M := mX12_takes) (fun q => q == 8) okTX12 rfl 40 _ _ _ _ ?_
      simp only [eX12_takes_0, eX12_takes_1, eX12_takes_2, eX12_takes_3, eX12_takes_5, eX12_takes_6, eX12_takes_8, eX12_takes_10, eX12_takes_11, eX12_takes_14, eX12_takes_17, eX12_takes_18, eX12_takes_20, eX12_takes_23, eX12_takes_24, eX12_takes_26, eX12_takes_27, eX12_takes_28, eX12_takes_29, eX12_takes_32, eX12_takes_34, eX12_takes_35, eX12_takes_38, eX12_takes_40, eX12_takes_42, eX12_takes_44, eX12_takes_47, eX12_takes_49, eX12_takes_52, eX12_takes_53, eX12_takes_54, eX12_takes_56, eX12_takes_58, eX12_takes_61, eX12_takes_63, eX12_takes_66, eX12_takes_69, eX12_takes_70, st_aload, st_goto, st_iconst, st_ic_eq, st_ic_ne, st_ic_lt, st_ic_ge, st_ic_gt, st_ic_le, st_iinc, st_iload, st_ins, st_inv, st_iret, st_zret, st_bret, st_istore, gf_56_1225, gf_56_1232, ld_57, ld_58, ld_59, ld_60, ld_61, ld_62, ld_63, ld_64, ld_65, ld_66, ld_67, ld_68, ld_69, ld_70, ld_71, ld_72, ld_73, ld_74, ld_75, ld_76, ld_77, ld_78, ld_79, ld_80, ld_81, ld_82, ld_83, ld_85, HP_56, tab_179, tab_262, mm_cut, cond_false, cond_true, List.getElem?_cons_succ, List.getElem?_cons_zero, Int.reduceToNat, Nat.reduceMod, Nat.reduceDiv, Nat.reduceAdd, true_and, and_true, mm_set, mm_set2, mm_pop, List.length_cons, List.length_nil, Nat.reduceLeDiff, Int32.reduceOfInt, Int64.reduceOfInt, nar_b0, nar_b1, List.cons_append, List.nil_append, Option.toList_some, Option.toList_none, List.map_cons, List.map_nil, List.sum_cons, List.sum_nil, cat_i, cat_r, cat_l, Nat.zero_le, Int32.reduceOfNat, Int32.reduceAdd, Int32.reduceLT, Int32.reduceLE, forall_const, true_implies, false_implies, not_false_eq_true, not_true_eq_false, bi_eq0, bi_ne0, sl_0, sl_3, va_rf, Nat.reduceEqDiff, if_false, ite_false, ite_true, reduceIte, List.set_cons_zero, List.set_cons_succ, Nat.succ_eq_add_one, mup_c, mup_s, mw_zero, ne_eq, lit_10, lit_01, lit_m10, lit_m11, nar_bi, e56, hgn, leF hg (show gn < 2147483648 by omega), e76, vinT (a := g) rfl (show g < 5 by omega), clp (a := g) rfl (by omega), Nat.reduceBEq, Bool.or_false, Bool.false_or, Bool.or_true, Bool.true_or]
      refine ⟨fun hc10 => ?_, fun hc10 => ?_⟩
      · have := hc hc10
        subst this
        cases hbm
        have := hQ μ' ho
        rw [mtk, if_pos hc10] at this
        exact this
      · refine m_reachOf rfl (by omega) ht ht7 (okHold_off ho (by intro c h1 h2; simp; omega) (by rw [e56]) hh) ?_
        intro μ2 ho2
        have e71 : μ' 71 = μ 71 := ho 71 (by decide)
        have e72 : μ' 72 = μ 72 := ho 72 (by decide)
        rw [mLaw_off ho (by intro c h1 h2; simp; omega) (by rw [e56]), e71, e72]
        refine mw_ok (M := mX12_takes) (fun q => q == 8) okTX12 rfl 40 _ _ _ _ ?_
        simp only [eX12_takes_0, eX12_takes_1, eX12_takes_2, eX12_takes_3, eX12_takes_5, eX12_takes_6, eX12_takes_8, eX12_takes_10, eX12_takes_11, eX12_takes_14, eX12_takes_17, eX12_takes_18, eX12_takes_20, eX12_takes_23, eX12_takes_24, eX12_takes_26, eX12_takes_27, eX12_takes_28, eX12_takes_29, eX12_takes_32, eX12_takes_34, eX12_takes_35, eX12_takes_38, eX12_takes_40, eX12_takes_42, eX12_takes_44, eX12_takes_47, eX12_takes_49, eX12_takes_52, eX12_takes_53, eX12_takes_54, eX12_takes_56, eX12_takes_58, eX12_takes_61, eX12_takes_63, eX12_takes_66, eX12_takes_69, eX12_takes_70, st_aload, st_goto, st_iconst, st_ic_eq, st_ic_ne, st_ic_lt, st_ic_ge, st_ic_gt, st_ic_le, st_iinc, st_iload, st_ins, st_inv, st_iret, st_zret, st_bret, st_istore, gf_56_1225, gf_56_1232, ld_57, ld_58, ld_59, ld_60, ld_61, ld_62, ld_63, ld_64, ld_65, ld_66, ld_67, ld_68, ld_69, ld_70, ld_71, ld_72, ld_73, ld_74, ld_75, ld_76, ld_77, ld_78, ld_79, ld_80, ld_81, ld_82, ld_83, ld_85, HP_56, tab_179, tab_262, mm_cut, cond_false, cond_true, List.getElem?_cons_succ, List.getElem?_cons_zero, Int.reduceToNat, Nat.reduceMod, Nat.reduceDiv, Nat.reduceAdd, true_and, and_true, mm_set, mm_set2, mm_pop, List.length_cons, List.length_nil, Nat.reduceLeDiff, Int32.reduceOfInt, Int64.reduceOfInt, nar_b0, nar_b1, List.cons_append, List.nil_append, Option.toList_some, Option.toList_none, List.map_cons, List.map_nil, List.sum_cons, List.sum_nil, cat_i, cat_r, cat_l, Nat.zero_le, Int32.reduceOfNat, Int32.reduceAdd, Int32.reduceLT, Int32.reduceLE, forall_const, true_implies, false_implies, not_false_eq_true, not_true_eq_false, bi_eq0, bi_ne0, sl_0, sl_3, va_rf, Nat.reduceEqDiff, if_false, ite_false, ite_true, reduceIte, List.set_cons_zero, List.set_cons_succ, Nat.succ_eq_add_one, mup_c, mup_s, mw_zero, ne_eq, lit_10, lit_01, lit_m10, lit_m11, nar_bi, Nat.reduceBEq, Bool.or_false, Bool.false_or, Bool.or_true, Bool.true_or]
        have hr : rch (mLaw μ) (μ 71 (5 * t + 3)) (μ 71 (5 * t + 4)) (far (μ 72 g) c) (μ 72 (5 + g)) (μ 71 (5 * t + 1)) (μ 76 g) = mrch μ t c g := rfl
        rw [hr, ← nI_succ]
        have h1 : b = (tkr (mrch μ t c) g).1 := congrArg Prod.fst hbm
        have h2 : m = (tkr (mrch μ t c) g).2 := congrArg Prod.snd hbm
        refine ⟨fun h3 => ?_, fun h3 => ?_⟩
        · have h4 : ¬ m < mrch μ t c g := (by simp only [Int32.le_iff_toInt_le, Int32.lt_iff_toInt_lt, ← Int32.toInt_inj, Int32.reduceToInt, ne_eq] at *; omega)
          rw [if_neg h4]
          refine ih μ2 _ _ _ (ho.tr ho2) ?_ (fun z => absurd z hc10)
          rw [tkr, if_neg (by rw [← h2]; exact h4)]
          exact hbm
        · have h4 : m < mrch μ t c g := (by simp only [Int32.le_iff_toInt_le, Int32.lt_iff_toInt_lt, ← Int32.toInt_inj, Int32.reduceToInt, ne_eq] at *; omega)
          rw [if_pos h4]
          refine ih μ2 _ _ _ (ho.tr ho2) ?_ (fun z => absurd z hc10)
          rw [tkr, if_pos (by rw [← h2]; exact h4)]
  exact key 0 (Nat.zero_le _) μ _ _ _ Off.rf rfl (fun _ => rfl)
end M5
