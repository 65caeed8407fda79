/-! PAIRS: what was seen -/
theorem lyN_cong {q q' : Nat → Bool} : ∀ {n : Nat}, (∀ k, k < n → q k = q' k) → lyN q n = lyN q' n
  | 0, _ => rfl
  | n + 1, h => by rw [lyN, lyN, lyN_cong (fun t ht => h t (by omega)), h n (by omega)]
def fitN (q : Nat → Bool) : Nat → Nat
  | 0 => 0
  | n + 1 => fitN q n + (if q n = true then 1 else 0)
def ovN (q : Nat → Bool) (ov : Nat → Int32) (col : Int32) : Nat → Nat
  | 0 => 0
  | n + 1 => ovN q ov col n + (if q n = true ∧ ov n = col then 1 else 0)
def noN (q : Nat → Bool) (ov : Nat → Int32) (col : Int32) : Nat → Nat
  | 0 => 0
  | n + 1 => noN q ov col n + (if q n = true ∧ ¬ ov n = col then 1 else 0)
theorem fit_sum {q : Nat → Bool} {ov : Nat → Int32} {col : Int32} : ∀ n, ovN q ov col n + noN q ov col n = fitN q n ∧ fitN q n ≤ n
  | 0 => ⟨rfl, Nat.le_refl _⟩
  | n + 1 => by
    have := fit_sum (q := q) (ov := ov) (col := col) n
    rw [ovN, noN, fitN]
    by_cases h1 : q n = true
    · by_cases h2 : ov n = col
      · simp [h1, h2]; omega
      · simp [h1, h2]; omega
    · simp [h1]; omega
theorem askV_is {q : Nat → Bool} {ov : Nat → Int32} {col : Int32} : ∀ n, n ≤ 10 → askV q ov col n = nI (ovN q ov col n) - nI (noN q ov col n)
  | 0, _ => by show (0 : Int32) = nI 0 - nI 0; decide
  | n + 1, hn => by
    have hs := fit_sum (q := q) (ov := ov) (col := col) n
    have key : ∀ a, a < 11 → ∀ b, b < 11 → (nI a - nI b + 1 = nI (a + 1) - nI b ∧ nI a - nI b + -1 = nI a - nI (b + 1) ∧ nI a - nI b + 0 = nI a - nI b) := by decide +kernel
    have k := key (ovN q ov col n) (by omega) (noN q ov col n) (by omega)
    rw [askV, ovN, noN, askV_is n (by omega)]
    by_cases h1 : q n = true
    · by_cases h2 : ov n = col
      · rw [if_pos h1, if_pos h2, if_pos ⟨h1, h2⟩, if_neg (fun z => z.2 h2)]; exact k.1
      · rw [if_pos h1, if_neg h2, if_neg (fun z => h2 z.2), if_pos ⟨h1, h2⟩]; exact k.2.1
    · rw [if_neg h1, if_neg (fun z => h1 z.1), if_neg (fun z => h1 z.1)]; exact k.2.2
theorem iabs_nm (x : Int32) : ¬ iabs x = -1 := by
  unfold iabs
  split
  · rename_i h; intro z; rw [z] at h; exact absurd h (by decide)
  · rename_i h
    intro z
    have : x = 0 - (0 - x) := by simp
    rw [z] at this
    rw [this] at h
    exact absurd h (by decide)
theorem lay0_is {q : Nat → Bool} : ∀ (k c : Nat), c + k = 10 → (layN q 0 k c 0 = -1 ↔ ∀ j, c ≤ j → j < 10 → ¬ q j = true)
  | 0, c, h => by
    rw [layN, if_neg (by decide)]
    exact ⟨fun _ j h1 h2 => by omega, fun _ => rfl⟩
  | k + 1, c, h => by
    rw [layN]
    by_cases hq : q c = true
    · rw [if_pos hq, if_pos rfl]
      exact ⟨fun z => absurd z (nI_nm (by omega)), fun z => absurd hq (z c (Nat.le_refl _) (by omega))⟩
    · rw [if_neg hq, lay0_is k (c + 1) (by omega)]
      refine ⟨fun z j h1 h2 => ?_, fun z j h1 h2 => z j (by omega) h2⟩
      by_cases hj : j = c
      · rw [hj]; exact hq
      · exact z j (by omega) h2
theorem fit_0 {q : Nat → Bool} : ∀ n, (fitN q n = 0 ↔ ∀ j, j < n → ¬ q j = true)
  | 0 => ⟨fun _ j h => by omega, fun _ => rfl⟩
  | n + 1 => by
    rw [fitN]
    have := fit_0 (q := q) n
    refine ⟨fun z j hj hq => ?_, fun z => ?_⟩
    · by_cases hjn : j = n
      · subst hjn; rw [if_pos hq] at z; omega
      · exact this.mp (by omega) j (by omega) hq
    · rw [if_neg (z n (by omega)), this.mpr (fun j hj => z j (by omega))]
section P10
variable {d : Nat} {ε : mm_X} {μ : mm_mu} {Q : mm_Q0} {h : mm_H} {tn gn a p ln sz m : Nat} {dy : Nat → Nat}
def cQ (μ : mm_mu) (t n : Nat) (c : Nat) : Bool := lyN (ntB (μ 46) (μ 47) (μ 48) (μ 49) (fun w => fly (nI c) (μ 21 t) (μ 20 t) w) (nI t)) n
theorem JX.qq (hJ : JX ε μ tn gn a p dy ln sz m) {t : Nat} (ht : t < tn) : cQ μ t m = mQ μ t m := by
  funext c
  have hE := hJ.1.2.2.2.2.2.2.2 t ht
  obtain ⟨s1, s2, s3, s4⟩ := hJ.2.2.2.2.2.1
  unfold cQ mQ
  refine lyN_cong (fun k hk => ?_)
  obtain ⟨q1, q2, q3, q4⟩ := s4 k hk
  simp only [ntB, q1, q2, q3, q4, hE.1.2.1, hE.1.2.2.1]
theorem c_fit {t n c : Nat} (ht : t < 7) (hn : μ 45 0 = nI n) (hn10 : n ≤ 10) (hQ : Q (some (.int (bi (cQ μ t n c = true)))) (HP ε μ)) : B0 (d + 2) mX9_fit [.ref 45, .ref 18, .int (nI t), .int (nI c)] (HP ε μ) Q := by
  refine b0_of_G0 (lv := [.ref 45, .ref 18, .int (nI t), .int (nI c), .null, .null]) (by decide +kernel) (Nat.le_of_ble_eq_true rfl) rfl ?_
  have key : ∀ k, k ≤ n → ∀ y, lyN (ntB (μ 46) (μ 47) (μ 48) (μ 49) (fun w => fly (nI c) (μ 21 t) (μ 20 t) w) (nI t)) k = true → G0 (d + 1 + 1) mX9_fit Q 3 [.ref 45, .ref 18, .int (nI t), .int (nI c), .int (nI k), y] [] (HP ε μ) := by
    refine mm_dn ?_ ?_
    · intro y hy
      rw [bi1 (show cQ μ t n c = true from hy)] at hQ
      refine mw_ok (M := mX9_fit) (fun q => q == 3) okTX9 rfl 20 _ _ _ _ ?_
      simp only [eX9_fit_0, eX9_fit_1, eX9_fit_3, eX9_fit_5, eX9_fit_6, eX9_fit_9, eX9_fit_12, eX9_fit_13, eX9_fit_14, eX9_fit_15, eX9_fit_16, eX9_fit_19, eX9_fit_21, eX9_fit_22, eX9_fit_25, eX9_fit_26, eX9_fit_29, eX9_fit_31, eX9_fit_32, eX9_fit_35, eX9_fit_36, eX9_fit_39, eX9_fit_40, eX9_fit_42, eX9_fit_43, eX9_fit_46, eX9_fit_48, eX9_fit_49, eX9_fit_50, eX9_fit_53, eX9_fit_55, eX9_fit_56, eX9_fit_59, eX9_fit_61, eX9_fit_62, eX9_fit_65, eX9_fit_66, eX9_fit_67, eX9_fit_70, eX9_fit_73, eX9_fit_74, st_aload, st_goto, st_iconst, st_ic_eq, st_ic_ne, st_ic_lt, st_ic_ge, st_ic_gt, st_ic_le, st_iinc, st_iload, st_inv, st_iret, st_zret, st_bret, st_istore, gf_45_900, gf_45_901, gf_45_902, gf_45_903, gf_45_904, ld_5, ld_6, ld_7, ld_8, ld_9, ld_11, ld_12, ld_13, ld_14, ld_16, ld_19, ld_20, ld_21, ld_22, ld_23, ld_25, ld_26, ld_27, ld_29, ld_30, ld_31, ld_32, ld_33, ld_34, ld_35, ld_36, ld_37, ld_39, ld_41, ld_42, ld_43, ld_44, ld_46, ld_47, ld_48, ld_49, ld_51, ld_52, ld_54, ld_55, HP_4, HP_18, tab_11, mm_cut, cond_false, cond_true, List.getElem?_cons_succ, List.getElem?_cons_zero, Int.reduceToNat, Nat.reduceMod, Nat.reduceDiv, Nat.reduceAdd, true_and, and_true, mm_set, mm_set2, mm_pop, List.length_cons, List.length_nil, Nat.reduceLeDiff, Int32.reduceOfInt, Int64.reduceOfInt, nar_b0, nar_b1, List.cons_append, List.nil_append, Option.toList_some, Option.toList_none, List.map_cons, List.map_nil, List.sum_cons, List.sum_nil, cat_i, cat_r, cat_l, Nat.zero_le, Int32.reduceOfNat, Int32.reduceAdd, Int32.reduceLT, Int32.reduceLE, forall_const, true_implies, false_implies, not_false_eq_true, not_true_eq_false, bi_eq0, bi_ne0, sl_0, sl_3, va_rf, Nat.reduceEqDiff, if_false, ite_false, ite_true, reduceIte, List.set_cons_zero, List.set_cons_succ, Nat.succ_eq_add_one, mup_c, mup_s, mw_zero, ne_eq, lit_10, lit_01, lit_m10, lit_m11, nar_bi, hn, leT (Nat.le_refl n) (show n < 2147483648 by omega), Nat.reduceBEq, Bool.or_false, Bool.false_or, Bool.or_true, Bool.true_or]
      exact hQ
    · intro k hk ih y hy
      refine mw_ok (M := mX9_fit) (fun q => q == 3) okTX9 rfl 20 _ _ _ _ ?_
      simp only [eX9_fit_0, eX9_fit_1, eX9_fit_3, eX9_fit_5, eX9_fit_6, eX9_fit_9, eX9_fit_12, eX9_fit_13, eX9_fit_14, eX9_fit_15, eX9_fit_16, eX9_fit_19, eX9_fit_21, eX9_fit_22, eX9_fit_25, eX9_fit_26, eX9_fit_29, eX9_fit_31, eX9_fit_32, eX9_fit_35, eX9_fit_36, eX9_fit_39, eX9_fit_40, eX9_fit_42, eX9_fit_43, eX9_fit_46, eX9_fit_48, eX9_fit_49, eX9_fit_50, eX9_fit_53, eX9_fit_55, eX9_fit_56, eX9_fit_59, eX9_fit_61, eX9_fit_62, eX9_fit_65, eX9_fit_66, eX9_fit_67, eX9_fit_70, eX9_fit_73, eX9_fit_74, st_aload, st_goto, st_iconst, st_ic_eq, st_ic_ne, st_ic_lt, st_ic_ge, st_ic_gt, st_ic_le, st_iinc, st_iload, st_inv, st_iret, st_zret, st_bret, st_istore, gf_45_900, gf_45_901, gf_45_902, gf_45_903, gf_45_904, ld_5, ld_6, ld_7, ld_8, ld_9, ld_11, ld_12, ld_13, ld_14, ld_16, ld_19, ld_20, ld_21, ld_22, ld_23, ld_25, ld_26, ld_27, ld_29, ld_30, ld_31, ld_32, ld_33, ld_34, ld_35, ld_36, ld_37, ld_39, ld_41, ld_42, ld_43, ld_44, ld_46, ld_47, ld_48, ld_49, ld_51, ld_52, ld_54, ld_55, HP_4, HP_18, tab_11, mm_cut, cond_false, cond_true, List.getElem?_cons_succ, List.getElem?_cons_zero, Int.reduceToNat, Nat.reduceMod, Nat.reduceDiv, Nat.reduceAdd, true_and, and_true, mm_set, mm_set2, mm_pop, List.length_cons, List.length_nil, Nat.reduceLeDiff, Int32.reduceOfInt, Int64.reduceOfInt, nar_b0, nar_b1, List.cons_append, List.nil_append, Option.toList_some, Option.toList_none, List.map_cons, List.map_nil, List.sum_cons, List.sum_nil, cat_i, cat_r, cat_l, Nat.zero_le, Int32.reduceOfNat, Int32.reduceAdd, Int32.reduceLT, Int32.reduceLE, forall_const, true_implies, false_implies, not_false_eq_true, not_true_eq_false, bi_eq0, bi_ne0, sl_0, sl_3, va_rf, Nat.reduceEqDiff, if_false, ite_false, ite_true, reduceIte, List.set_cons_zero, List.set_cons_succ, Nat.succ_eq_add_one, mup_c, mup_s, mw_zero, ne_eq, lit_10, lit_01, lit_m10, lit_m11, nar_bi, hn, leF hk (show n < 2147483648 by omega), vinT (a := k) rfl (show k < 10 by omega), clp (a := k) rfl (by omega), Nat.reduceBEq, Bool.or_false, Bool.false_or, Bool.or_true, Bool.true_or]
      refine c_overFrom rfl ht ?_
      have go : ∀ (b : Int32), b = bi (fly (nI c) (μ 21 t) (μ 20 t) (μ 47 k) = μ 48 k) → G0 (d + 1 + 1) mX9_fit Q 40 [.ref 45, .ref 18, .int (nI t), .int (nI c), .int (nI k), y] [.int b] (HP ε μ) := by
        intro b hb
        have hst : ∀ y', (μ 46 k = nI t ∧ ¬ b = μ 49 k → False) → G0 (d + 1 + 1) mX9_fit Q 3 [.ref 45, .ref 18, .int (nI t), .int (nI c), .int (nI (k + 1)), y'] [] (HP ε μ) := by
          intro y' hno
          refine ih y' ?_
          rw [lyN, hy]
          have : ntB (μ 46) (μ 47) (μ 48) (μ 49) (fun w => fly (nI c) (μ 21 t) (μ 20 t) w) (nI t) k = false := by
            unfold ntB
            simp only [decide_eq_false_iff_not]
            rw [← hb]
            exact fun z => hno z
          rw [this]; rfl
        refine mw_ok (M := mX9_fit) (fun q => q == 3) okTX9 rfl 20 _ _ _ _ ?_
        simp only [eX9_fit_0, eX9_fit_1, eX9_fit_3, eX9_fit_5, eX9_fit_6, eX9_fit_9, eX9_fit_12, eX9_fit_13, eX9_fit_14, eX9_fit_15, eX9_fit_16, eX9_fit_19, eX9_fit_21, eX9_fit_22, eX9_fit_25, eX9_fit_26, eX9_fit_29, eX9_fit_31, eX9_fit_32, eX9_fit_35, eX9_fit_36, eX9_fit_39, eX9_fit_40, eX9_fit_42, eX9_fit_43, eX9_fit_46, eX9_fit_48, eX9_fit_49, eX9_fit_50, eX9_fit_53, eX9_fit_55, eX9_fit_56, eX9_fit_59, eX9_fit_61, eX9_fit_62, eX9_fit_65, eX9_fit_66, eX9_fit_67, eX9_fit_70, eX9_fit_73, eX9_fit_74, st_aload, st_goto, st_iconst, st_ic_eq, st_ic_ne, st_ic_lt, st_ic_ge, st_ic_gt, st_ic_le, st_iinc, st_iload, st_inv, st_iret, st_zret, st_bret, st_istore, gf_45_900, gf_45_901, gf_45_902, gf_45_903, gf_45_904, ld_5, ld_6, ld_7, ld_8, ld_9, ld_11, ld_12, ld_13, ld_14, ld_16, ld_19, ld_20, ld_21, ld_22, ld_23, ld_25, ld_26, ld_27, ld_29, ld_30, ld_31, ld_32, ld_33, ld_34, ld_35, ld_36, ld_37, ld_39, ld_41, ld_42, ld_43, ld_44, ld_46, ld_47, ld_48, ld_49, ld_51, ld_52, ld_54, ld_55, HP_4, HP_18, tab_11, mm_cut, cond_false, cond_true, List.getElem?_cons_succ, List.getElem?_cons_zero, Int.reduceToNat, Nat.reduceMod, Nat.reduceDiv, Nat.reduceAdd, true_and, and_true, mm_set, mm_set2, mm_pop, List.length_cons, List.length_nil, Nat.reduceLeDiff, Int32.reduceOfInt, Int64.reduceOfInt, nar_b0, nar_b1, List.cons_append, List.nil_append, Option.toList_some, Option.toList_none, List.map_cons, List.map_nil, List.sum_cons, List.sum_nil, cat_i, cat_r, cat_l, Nat.zero_le, Int32.reduceOfNat, Int32.reduceAdd, Int32.reduceLT, Int32.reduceLE, forall_const, true_implies, false_implies, not_false_eq_true, not_true_eq_false, bi_eq0, bi_ne0, sl_0, sl_3, va_rf, Nat.reduceEqDiff, if_false, ite_false, ite_true, reduceIte, List.set_cons_zero, List.set_cons_succ, Nat.succ_eq_add_one, mup_c, mup_s, mw_zero, ne_eq, lit_10, lit_01, lit_m10, lit_m11, nar_bi, vinT (a := k) rfl (show k < 10 by omega), clp (a := k) rfl (by omega), nI_1, Nat.reduceBEq, Bool.or_false, Bool.false_or, Bool.or_true, Bool.true_or]
        refine ⟨fun q1 => hst _ (fun z => q1 z.1), fun q1 => ⟨fun q2 => hst _ (fun z => z.2 q2), fun q2 => ?_⟩⟩
        have : ¬ cQ μ t n c = true := by
          have : ntB (μ 46) (μ 47) (μ 48) (μ 49) (fun w => fly (nI c) (μ 21 t) (μ 20 t) w) (nI t) k = true := by
            unfold ntB
            simp only [decide_eq_true_eq]
            rw [← hb]
            exact ⟨q1, q2⟩
          unfold cQ
          rw [lyN_false this hk]; decide
        rw [bi0 this] at hQ
        exact hQ
      refine mw_ok (M := mX9_fit) (fun q => q == 3 || q == 40) okTX9 rfl 20 _ _ _ _ ?_
      simp only [eX9_fit_0, eX9_fit_1, eX9_fit_3, eX9_fit_5, eX9_fit_6, eX9_fit_9, eX9_fit_12, eX9_fit_13, eX9_fit_14, eX9_fit_15, eX9_fit_16, eX9_fit_19, eX9_fit_21, eX9_fit_22, eX9_fit_25, eX9_fit_26, eX9_fit_29, eX9_fit_31, eX9_fit_32, eX9_fit_35, eX9_fit_36, eX9_fit_39, eX9_fit_40, eX9_fit_42, eX9_fit_43, eX9_fit_46, eX9_fit_48, eX9_fit_49, eX9_fit_50, eX9_fit_53, eX9_fit_55, eX9_fit_56, eX9_fit_59, eX9_fit_61, eX9_fit_62, eX9_fit_65, eX9_fit_66, eX9_fit_67, eX9_fit_70, eX9_fit_73, eX9_fit_74, st_aload, st_goto, st_iconst, st_ic_eq, st_ic_ne, st_ic_lt, st_ic_ge, st_ic_gt, st_ic_le, st_iinc, st_iload, st_inv, st_iret, st_zret, st_bret, st_istore, gf_45_900, gf_45_901, gf_45_902, gf_45_903, gf_45_904, ld_5, ld_6, ld_7, ld_8, ld_9, ld_11, ld_12, ld_13, ld_14, ld_16, ld_19, ld_20, ld_21, ld_22, ld_23, ld_25, ld_26, ld_27, ld_29, ld_30, ld_31, ld_32, ld_33, ld_34, ld_35, ld_36, ld_37, ld_39, ld_41, ld_42, ld_43, ld_44, ld_46, ld_47, ld_48, ld_49, ld_51, ld_52, ld_54, ld_55, HP_4, HP_18, tab_11, mm_cut, cond_false, cond_true, List.getElem?_cons_succ, List.getElem?_cons_zero, Int.reduceToNat, Nat.reduceMod, Nat.reduceDiv, Nat.reduceAdd, true_and, and_true, mm_set, mm_set2, mm_pop, List.length_cons, List.length_nil, Nat.reduceLeDiff, Int32.reduceOfInt, Int64.reduceOfInt, nar_b0, nar_b1, List.cons_append, List.nil_append, Option.toList_some, Option.toList_none, List.map_cons, List.map_nil, List.sum_cons, List.sum_nil, cat_i, cat_r, cat_l, Nat.zero_le, Int32.reduceOfNat, Int32.reduceAdd, Int32.reduceLT, Int32.reduceLE, forall_const, true_implies, false_implies, not_false_eq_true, not_true_eq_false, bi_eq0, bi_ne0, sl_0, sl_3, va_rf, Nat.reduceEqDiff, if_false, ite_false, ite_true, reduceIte, List.set_cons_zero, List.set_cons_succ, Nat.succ_eq_add_one, mup_c, mup_s, mw_zero, ne_eq, lit_10, lit_01, lit_m10, lit_m11, nar_bi, vinT (a := k) rfl (show k < 10 by omega), clp (a := k) rfl (by omega), Nat.reduceBEq, Bool.or_false, Bool.false_or, Bool.or_true, Bool.true_or]
      exact ⟨fun q => go 0 (by rw [bi0 q]), fun q => go 1 (by rw [bi1 q])⟩
  refine mw_ok (M := mX9_fit) (fun q => q == 3) okTX9 rfl 20 _ _ _ _ ?_
  simp only [eX9_fit_0, eX9_fit_1, eX9_fit_3, eX9_fit_5, eX9_fit_6, eX9_fit_9, eX9_fit_12, eX9_fit_13, eX9_fit_14, eX9_fit_15, eX9_fit_16, eX9_fit_19, eX9_fit_21, eX9_fit_22, eX9_fit_25, eX9_fit_26, eX9_fit_29, eX9_fit_31, eX9_fit_32, eX9_fit_35, eX9_fit_36, eX9_fit_39, eX9_fit_40, eX9_fit_42, eX9_fit_43, eX9_fit_46, eX9_fit_48, eX9_fit_49, eX9_fit_50, eX9_fit_53, eX9_fit_55, eX9_fit_56, eX9_fit_59, eX9_fit_61, eX9_fit_62, eX9_fit_65, eX9_fit_66, eX9_fit_67, eX9_fit_70, eX9_fit_73, eX9_fit_74, st_aload, st_goto, st_iconst, st_ic_eq, st_ic_ne, st_ic_lt, st_ic_ge, st_ic_gt, st_ic_le, st_iinc, st_iload, st_inv, st_iret, st_zret, st_bret, st_istore, gf_45_900, gf_45_901, gf_45_902, gf_45_903, gf_45_904, ld_5, ld_6, ld_7, ld_8, ld_9, ld_11, ld_12, ld_13, ld_14, ld_16, ld_19, ld_20, ld_21, ld_22, ld_23, ld_25, ld_26, ld_27, ld_29, ld_30, ld_31, ld_32, ld_33, ld_34, ld_35, ld_36, ld_37, ld_39, ld_41, ld_42, ld_43, ld_44, ld_46, ld_47, ld_48, ld_49, ld_51, ld_52, ld_54, ld_55, HP_4, HP_18, tab_11, mm_cut, cond_false, cond_true, List.getElem?_cons_succ, List.getElem?_cons_zero, Int.reduceToNat, Nat.reduceMod, Nat.reduceDiv, Nat.reduceAdd, true_and, and_true, mm_set, mm_set2, mm_pop, List.length_cons, List.length_nil, Nat.reduceLeDiff, Int32.reduceOfInt, Int64.reduceOfInt, nar_b0, nar_b1, List.cons_append, List.nil_append, Option.toList_some, Option.toList_none, List.map_cons, List.map_nil, List.sum_cons, List.sum_nil, cat_i, cat_r, cat_l, Nat.zero_le, Int32.reduceOfNat, Int32.reduceAdd, Int32.reduceLT, Int32.reduceLE, forall_const, true_implies, false_implies, not_false_eq_true, not_true_eq_false, bi_eq0, bi_ne0, sl_0, sl_3, va_rf, Nat.reduceEqDiff, if_false, ite_false, ite_true, reduceIte, List.set_cons_zero, List.set_cons_succ, Nat.succ_eq_add_one, mup_c, mup_s, mw_zero, ne_eq, lit_10, lit_01, lit_m10, lit_m11, nar_bi, Nat.reduceBEq, Bool.or_false, Bool.false_or, Bool.or_true, Bool.true_or]
  exact key 0 (Nat.zero_le _) _ rfl
theorem c_apart {t n : Nat} {col wind : Int32} (ht : t < 7) (hn : μ 45 0 = nI n) (hn10 : n ≤ 10) (hQ : Q (some (.int (if fitN (cQ μ t n) 10 = 0 then -1 else iabs (askV (cQ μ t n) (fun c => fly (nI c) (μ 21 t) (μ 20 t) wind) col 10)))) (HP ε μ)) : B0 (d + 3) mX9_apart [.ref 45, .ref 18, .int (nI t), .int col, .int wind] (HP ε μ) Q := by
  refine b0_of_G0 (lv := [.ref 45, .ref 18, .int (nI t), .int col, .int wind, .null, .null, .null]) (by decide +kernel) (Nat.le_of_ble_eq_true rfl) rfl ?_
  have key : ∀ k, k ≤ 10 → G0 (d + 2 + 1) mX9_apart Q 9 [.ref 45, .ref 18, .int (nI t), .int col, .int wind, .int (nI (ovN (cQ μ t n) (fun c => fly (nI c) (μ 21 t) (μ 20 t) wind) col k)), .int (nI (noN (cQ μ t n) (fun c => fly (nI c) (μ 21 t) (μ 20 t) wind) col k)), .int (nI k)] [] (HP ε μ) := by
    refine mm_dn ?_ ?_
    · have hs := fit_sum (q := cQ μ t n) (ov := fun c => fly (nI c) (μ 21 t) (μ 20 t) wind) (col := col) 10
      rw [askV_is 10 (Nat.le_refl _)] at hQ
      generalize ovN (cQ μ t n) (fun c => fly (nI c) (μ 21 t) (μ 20 t) wind) col 10 = o at *
      generalize noN (cQ μ t n) (fun c => fly (nI c) (μ 21 t) (μ 20 t) wind) col 10 = no at *
      rw [← hs.1] at hQ
      have hz : (nI (o + no) = 0) = (o + no = 0) := propext (nI_eq (b := 0) (by omega) (by decide))
      refine mw_ok (M := mX9_apart) (fun q => q == 9) okTX9 rfl 20 _ _ _ _ ?_
      simp only [eX9_apart_0, eX9_apart_1, eX9_apart_3, eX9_apart_4, eX9_apart_6, eX9_apart_7, eX9_apart_9, eX9_apart_11, eX9_apart_13, eX9_apart_16, eX9_apart_17, eX9_apart_18, eX9_apart_19, eX9_apart_21, eX9_apart_24, eX9_apart_27, eX9_apart_28, eX9_apart_29, eX9_apart_31, eX9_apart_33, eX9_apart_36, eX9_apart_37, eX9_apart_40, eX9_apart_43, eX9_apart_46, eX9_apart_49, eX9_apart_52, eX9_apart_55, eX9_apart_57, eX9_apart_59, eX9_apart_60, eX9_apart_63, eX9_apart_64, eX9_apart_67, eX9_apart_69, eX9_apart_71, eX9_apart_72, eX9_apart_75, st_aload, st_goto, st_iadd, st_iconst, st_if_eq, st_if_ne, st_if_lt, st_if_ge, st_if_gt, st_if_le, st_ic_eq, st_ic_ne, st_ic_lt, st_ic_ge, st_ic_gt, st_ic_le, st_iinc, st_iload, st_ins, st_inv, st_iret, st_zret, st_bret, st_istore, st_isub, HP_4, HP_18, HP_45, tab_11, tab_63, tab_264, mm_cut, cond_false, cond_true, List.getElem?_cons_succ, List.getElem?_cons_zero, Int.reduceToNat, Nat.reduceMod, Nat.reduceDiv, Nat.reduceAdd, true_and, and_true, mm_set, mm_set2, mm_pop, List.length_cons, List.length_nil, Nat.reduceLeDiff, Int32.reduceOfInt, Int64.reduceOfInt, nar_b0, nar_b1, List.cons_append, List.nil_append, Option.toList_some, Option.toList_none, List.map_cons, List.map_nil, List.sum_cons, List.sum_nil, cat_i, cat_r, cat_l, Nat.zero_le, Int32.reduceOfNat, Int32.reduceAdd, Int32.reduceLT, Int32.reduceLE, forall_const, true_implies, false_implies, not_false_eq_true, not_true_eq_false, bi_eq0, bi_ne0, sl_0, sl_3, va_rf, Nat.reduceEqDiff, if_false, ite_false, ite_true, reduceIte, List.set_cons_zero, List.set_cons_succ, Nat.succ_eq_add_one, mup_c, mup_s, mw_zero, ne_eq, lit_10, lit_01, lit_m10, lit_m11, nar_bi, l10, leT (Nat.le_refl 10), nI_add, hz, iabs_r, Nat.reduceBEq, Bool.or_false, Bool.false_or, Bool.or_true, Bool.true_or]
      refine ⟨fun q => ?_, fun q => ?_⟩
      · rw [if_neg q] at hQ; exact hQ
      · rw [if_pos q] at hQ; exact hQ
    · intro k hk ih
      refine mw_ok (M := mX9_apart) (fun q => q == 9) okTX9 rfl 20 _ _ _ _ ?_
      simp only [eX9_apart_0, eX9_apart_1, eX9_apart_3, eX9_apart_4, eX9_apart_6, eX9_apart_7, eX9_apart_9, eX9_apart_11, eX9_apart_13, eX9_apart_16, eX9_apart_17, eX9_apart_18, eX9_apart_19, eX9_apart_21, eX9_apart_24, eX9_apart_27, eX9_apart_28, eX9_apart_29, eX9_apart_31, eX9_apart_33, eX9_apart_36, eX9_apart_37, eX9_apart_40, eX9_apart_43, eX9_apart_46, eX9_apart_49, eX9_apart_52, eX9_apart_55, eX9_apart_57, eX9_apart_59, eX9_apart_60, eX9_apart_63, eX9_apart_64, eX9_apart_67, eX9_apart_69, eX9_apart_71, eX9_apart_72, eX9_apart_75, st_aload, st_goto, st_iadd, st_iconst, st_if_eq, st_if_ne, st_if_lt, st_if_ge, st_if_gt, st_if_le, st_ic_eq, st_ic_ne, st_ic_lt, st_ic_ge, st_ic_gt, st_ic_le, st_iinc, st_iload, st_ins, st_inv, st_iret, st_zret, st_bret, st_istore, st_isub, HP_4, HP_18, HP_45, tab_11, tab_63, tab_264, mm_cut, cond_false, cond_true, List.getElem?_cons_succ, List.getElem?_cons_zero, Int.reduceToNat, Nat.reduceMod, Nat.reduceDiv, Nat.reduceAdd, true_and, and_true, mm_set, mm_set2, mm_pop, List.length_cons, List.length_nil, Nat.reduceLeDiff, Int32.reduceOfInt, Int64.reduceOfInt, nar_b0, nar_b1, List.cons_append, List.nil_append, Option.toList_some, Option.toList_none, List.map_cons, List.map_nil, List.sum_cons, List.sum_nil, cat_i, cat_r, cat_l, Nat.zero_le, Int32.reduceOfNat, Int32.reduceAdd, Int32.reduceLT, Int32.reduceLE, forall_const, true_implies, false_implies, not_false_eq_true, not_true_eq_false, bi_eq0, bi_ne0, sl_0, sl_3, va_rf, Nat.reduceEqDiff, if_false, ite_false, ite_true, reduceIte, List.set_cons_zero, List.set_cons_succ, Nat.succ_eq_add_one, mup_c, mup_s, mw_zero, ne_eq, lit_10, lit_01, lit_m10, lit_m11, nar_bi, l10, leF hk (show 10 < 2147483648 by decide), Nat.reduceBEq, Bool.or_false, Bool.false_or, Bool.or_true, Bool.true_or]
      refine c_fit ht hn hn10 ?_
      rw [ovN, noN] at ih
      refine mw_ok (M := mX9_apart) (fun q => q == 9) okTX9 rfl 20 _ _ _ _ ?_
      simp only [eX9_apart_0, eX9_apart_1, eX9_apart_3, eX9_apart_4, eX9_apart_6, eX9_apart_7, eX9_apart_9, eX9_apart_11, eX9_apart_13, eX9_apart_16, eX9_apart_17, eX9_apart_18, eX9_apart_19, eX9_apart_21, eX9_apart_24, eX9_apart_27, eX9_apart_28, eX9_apart_29, eX9_apart_31, eX9_apart_33, eX9_apart_36, eX9_apart_37, eX9_apart_40, eX9_apart_43, eX9_apart_46, eX9_apart_49, eX9_apart_52, eX9_apart_55, eX9_apart_57, eX9_apart_59, eX9_apart_60, eX9_apart_63, eX9_apart_64, eX9_apart_67, eX9_apart_69, eX9_apart_71, eX9_apart_72, eX9_apart_75, st_aload, st_goto, st_iadd, st_iconst, st_if_eq, st_if_ne, st_if_lt, st_if_ge, st_if_gt, st_if_le, st_ic_eq, st_ic_ne, st_ic_lt, st_ic_ge, st_ic_gt, st_ic_le, st_iinc, st_iload, st_ins, st_inv, st_iret, st_zret, st_bret, st_istore, st_isub, HP_4, HP_18, HP_45, tab_11, tab_63, tab_264, mm_cut, cond_false, cond_true, List.getElem?_cons_succ, List.getElem?_cons_zero, Int.reduceToNat, Nat.reduceMod, Nat.reduceDiv, Nat.reduceAdd, true_and, and_true, mm_set, mm_set2, mm_pop, List.length_cons, List.length_nil, Nat.reduceLeDiff, Int32.reduceOfInt, Int64.reduceOfInt, nar_b0, nar_b1, List.cons_append, List.nil_append, Option.toList_some, Option.toList_none, List.map_cons, List.map_nil, List.sum_cons, List.sum_nil, cat_i, cat_r, cat_l, Nat.zero_le, Int32.reduceOfNat, Int32.reduceAdd, Int32.reduceLT, Int32.reduceLE, forall_const, true_implies, false_implies, not_false_eq_true, not_true_eq_false, bi_eq0, bi_ne0, sl_0, sl_3, va_rf, Nat.reduceEqDiff, if_false, ite_false, ite_true, reduceIte, List.set_cons_zero, List.set_cons_succ, Nat.succ_eq_add_one, mup_c, mup_s, mw_zero, ne_eq, lit_10, lit_01, lit_m10, lit_m11, nar_bi, nI_1, Nat.reduceBEq, Bool.or_false, Bool.false_or, Bool.or_true, Bool.true_or]
      refine ⟨fun q => ?_, fun q => ?_⟩
      · rw [if_neg (fun z => q z.1), if_neg (fun z => q z.1)] at ih; exact ih
      · have q := Classical.not_not.mp q
        refine c_overFrom rfl ht ?_
        refine mw_ok (M := mX9_apart) (fun q => q == 9) okTX9 rfl 20 _ _ _ _ ?_
        simp only [eX9_apart_0, eX9_apart_1, eX9_apart_3, eX9_apart_4, eX9_apart_6, eX9_apart_7, eX9_apart_9, eX9_apart_11, eX9_apart_13, eX9_apart_16, eX9_apart_17, eX9_apart_18, eX9_apart_19, eX9_apart_21, eX9_apart_24, eX9_apart_27, eX9_apart_28, eX9_apart_29, eX9_apart_31, eX9_apart_33, eX9_apart_36, eX9_apart_37, eX9_apart_40, eX9_apart_43, eX9_apart_46, eX9_apart_49, eX9_apart_52, eX9_apart_55, eX9_apart_57, eX9_apart_59, eX9_apart_60, eX9_apart_63, eX9_apart_64, eX9_apart_67, eX9_apart_69, eX9_apart_71, eX9_apart_72, eX9_apart_75, st_aload, st_goto, st_iadd, st_iconst, st_if_eq, st_if_ne, st_if_lt, st_if_ge, st_if_gt, st_if_le, st_ic_eq, st_ic_ne, st_ic_lt, st_ic_ge, st_ic_gt, st_ic_le, st_iinc, st_iload, st_ins, st_inv, st_iret, st_zret, st_bret, st_istore, st_isub, HP_4, HP_18, HP_45, tab_11, tab_63, tab_264, mm_cut, cond_false, cond_true, List.getElem?_cons_succ, List.getElem?_cons_zero, Int.reduceToNat, Nat.reduceMod, Nat.reduceDiv, Nat.reduceAdd, true_and, and_true, mm_set, mm_set2, mm_pop, List.length_cons, List.length_nil, Nat.reduceLeDiff, Int32.reduceOfInt, Int64.reduceOfInt, nar_b0, nar_b1, List.cons_append, List.nil_append, Option.toList_some, Option.toList_none, List.map_cons, List.map_nil, List.sum_cons, List.sum_nil, cat_i, cat_r, cat_l, Nat.zero_le, Int32.reduceOfNat, Int32.reduceAdd, Int32.reduceLT, Int32.reduceLE, forall_const, true_implies, false_implies, not_false_eq_true, not_true_eq_false, bi_eq0, bi_ne0, sl_0, sl_3, va_rf, Nat.reduceEqDiff, if_false, ite_false, ite_true, reduceIte, List.set_cons_zero, List.set_cons_succ, Nat.succ_eq_add_one, mup_c, mup_s, mw_zero, ne_eq, lit_10, lit_01, lit_m10, lit_m11, nar_bi, nI_1, Nat.reduceBEq, Bool.or_false, Bool.false_or, Bool.or_true, Bool.true_or]
        refine ⟨fun q2 => ?_, fun q2 => ?_⟩
        · rw [if_neg (fun z => q2 z.2), if_pos ⟨q, q2⟩] at ih; exact ih
        · rw [if_pos ⟨q, q2⟩, if_neg (fun z => z.2 q2)] at ih; exact ih
  refine mw_ok (M := mX9_apart) (fun q => q == 9) okTX9 rfl 20 _ _ _ _ ?_
  simp only [eX9_apart_0, eX9_apart_1, eX9_apart_3, eX9_apart_4, eX9_apart_6, eX9_apart_7, eX9_apart_9, eX9_apart_11, eX9_apart_13, eX9_apart_16, eX9_apart_17, eX9_apart_18, eX9_apart_19, eX9_apart_21, eX9_apart_24, eX9_apart_27, eX9_apart_28, eX9_apart_29, eX9_apart_31, eX9_apart_33, eX9_apart_36, eX9_apart_37, eX9_apart_40, eX9_apart_43, eX9_apart_46, eX9_apart_49, eX9_apart_52, eX9_apart_55, eX9_apart_57, eX9_apart_59, eX9_apart_60, eX9_apart_63, eX9_apart_64, eX9_apart_67, eX9_apart_69, eX9_apart_71, eX9_apart_72, eX9_apart_75, st_aload, st_goto, st_iadd, st_iconst, st_if_eq, st_if_ne, st_if_lt, st_if_ge, st_if_gt, st_if_le, st_ic_eq, st_ic_ne, st_ic_lt, st_ic_ge, st_ic_gt, st_ic_le, st_iinc, st_iload, st_ins, st_inv, st_iret, st_zret, st_bret, st_istore, st_isub, HP_4, HP_18, HP_45, tab_11, tab_63, tab_264, mm_cut, cond_false, cond_true, List.getElem?_cons_succ, List.getElem?_cons_zero, Int.reduceToNat, Nat.reduceMod, Nat.reduceDiv, Nat.reduceAdd, true_and, and_true, mm_set, mm_set2, mm_pop, List.length_cons, List.length_nil, Nat.reduceLeDiff, Int32.reduceOfInt, Int64.reduceOfInt, nar_b0, nar_b1, List.cons_append, List.nil_append, Option.toList_some, Option.toList_none, List.map_cons, List.map_nil, List.sum_cons, List.sum_nil, cat_i, cat_r, cat_l, Nat.zero_le, Int32.reduceOfNat, Int32.reduceAdd, Int32.reduceLT, Int32.reduceLE, forall_const, true_implies, false_implies, not_false_eq_true, not_true_eq_false, bi_eq0, bi_ne0, sl_0, sl_3, va_rf, Nat.reduceEqDiff, if_false, ite_false, ite_true, reduceIte, List.set_cons_zero, List.set_cons_succ, Nat.succ_eq_add_one, mup_c, mup_s, mw_zero, ne_eq, lit_10, lit_01, lit_m10, lit_m11, nar_bi, Nat.reduceBEq, Bool.or_false, Bool.false_or, Bool.or_true, Bool.true_or]
  exact key 0 (Nat.zero_le _)
end P10
