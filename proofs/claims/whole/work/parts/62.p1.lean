/-! PAIRS: a call on the class, and the same on the reference: alike, and the invariant again -/
def Pr (M1 M2 : mm_M) (A : List Value) (ε : mm_X) (μ : mm_mu) : Prop := B0 100 M1 (.ref 0 :: A) (HP ε μ) (fun v h => B0 100 M2 (.ref 56 :: A) h (fun w h' => ∃ x ε' μ', v = some (.int x) ∧ w = some (.int x) ∧ h' = HP ε' μ' ∧ J ε' μ'))
/-- the end of a pair -/
abbrev PE (v w : Int32) (ε : mm_X) (μ : mm_mu) : Prop := ∃ x ε' μ', some (Value.int v) = some (.int x) ∧ some (Value.int w) = some (.int x) ∧ HP ε μ = HP ε' μ' ∧ J ε' μ'
theorem PE.mk {v w : Int32} {ε : mm_X} {μ : mm_mu} (h : v = w) (hJ : J ε μ) : PE v w ε μ := ⟨v, ε, μ, rfl, by rw [h], rfl, hJ⟩
theorem HPc_gl {ε : mm_X} {c : Nat} {r : Option Nat} {f : Nat → Int32} (h : c ≠ 17) : HPc (ε.1, r, ε.2.2) c f = HPc ε c f := by
  unfold HPc
  split
  all_goals first | rfl | exact absurd rfl h
theorem HP_gl {ε : mm_X} {μ : mm_mu} {r : Option Nat} : va_up (HP ε μ) 17 (HPc (ε.1, r, ε.2.2) 17 (μ 17)) = HP (ε.1, r, ε.2.2) μ := by
  funext c
  by_cases hc : c = 17
  · subst hc; simp [va_up, HP]
  · show (if c = 17 then _ else HP ε μ c) = HPc _ c (μ c)
    rw [if_neg hc]
    exact (HPc_gl hc).symm
theorem fit_43 {v : Value} (h3 : narrow (.object "BeatenAfternoon$Law") v = v) (h4 : fits (.object "BeatenAfternoon$Law") v = true) : mm_fit 4 3 v := by
  have h2 : parseFieldDescriptor (TX4 3).2.2.1 = some (.object "BeatenAfternoon$Law") := tyX4_ok 3 (by decide)
  have h1 : mm_cl[4]? = some (RX4, TX4, 14) := rfl
  unfold mm_fit
  rw [h1]
  dsimp only
  rw [h2]
  exact ⟨h3, h4⟩
theorem nar_r (s : String) (r : Nat) : narrow (.object s) (.ref r) = .ref r := rfl
theorem nar_n (s : String) : narrow (.object s) .null = .null := rfl
theorem fit_r (s : String) (r : Nat) : fits (.object s) (.ref r) = true := rfl
theorem fit_n (s : String) : fits (.object s) .null = true := rfl
theorem fit_43r (r : Nat) : mm_fit 4 3 (.ref r) := fit_43 (v := .ref r) (nar_r _ r) (fit_r _ r)
theorem fit_43n : mm_fit 4 3 .null := fit_43 (v := .null) (nar_n _) (fit_n _)
section PL
variable {tab : Nat → Option (mm_M × Nat × Nat × Nat)} {Bd : mm_M → List Value → mm_H → mm_Q0 → Prop} {B K : Nat → List Value → List Value → mm_H → Prop} {Q : mm_Q0} {nx : Nat} {lv st : List Value} {ε : mm_X} {μ : mm_mu}
theorem pf_gen2 {ε' : mm_X} {r j ci k : Nat} {fs : List Value} {v : Value} (h1 : HP ε μ r = some (.inr (ci, fs))) (h2 : ci = j / 100) (h3 : k = j % 100) (h4 : k < fs.length) (h5 : mm_fit ci k v) (h6 : (some (.inr (ci, fs.set k v)) : Option mm_C) = HPc ε' r (μ r)) (h7 : va_up (HP ε μ) r (HPc ε' r (μ r)) = HP ε' μ) : mm_step tab Bd B K Q (.putfield j) nx lv (v :: .ref r :: st) (HP ε μ) = K nx lv st (HP ε' μ) := by
  subst h2; subst h3
  simp only [st_putf, h1, true_and, h4, h5, h6, h7]
theorem pf_17_403r {r : Nat} : mm_step tab Bd B K Q (.putfield 403) nx lv (.ref r :: .ref 17 :: st) (HP ε μ) = K nx lv st (HP (ε.1, some r, ε.2.2) μ) := pf_gen2 (ε' := (ε.1, some r, ε.2.2)) (ci := 4) (k := 3) HP_17 rfl rfl (Nat.le_of_ble_eq_true rfl) (fit_43r r) rfl (HP_gl (ε := ε) (μ := μ) (r := some r))
theorem pf_17_403n : mm_step tab Bd B K Q (.putfield 403) nx lv (.null :: .ref 17 :: st) (HP ε μ) = K nx lv st (HP (ε.1, none, ε.2.2) μ) := pf_gen2 (ε' := (ε.1, none, ε.2.2)) (ci := 4) (k := 3) HP_17 rfl rfl (Nat.le_of_ble_eq_true rfl) fit_43n rfl (HP_gl (ε := ε) (μ := μ) (r := none))
theorem ld_38 {i : Int32} : mm_step tab Bd B K Q .aaload nx lv (.int i :: .ref 38 :: st) (HP ε μ) = (vp_in i 4 ∧ K nx lv (va_rf (ε.2.2.1 i.toNatClampNeg) :: st) (HP ε μ)) := rfl
theorem pfL_0 {x : Int64} : mm_step tab Bd B K Q (.putfield 1108) nx lv (.long x :: .ref 0 :: st) (HP ε μ) = K nx lv st (HP (va_up ε.1 0 x, ε.2) μ) := by
  simp only [st_putf, HP_0]
  rw [← HP_lg]
  have hf : mm_fit (1108 / 100) (1108 % 100) (.long x) := mm_fit_of rfl (tyX11_ok 8 (by decide)) rfl rfl
  simp only [hf, Nat.reduceDiv, Nat.reduceMod, true_and]
  exact propext ⟨fun z => z.2, fun z => ⟨Nat.le_of_ble_eq_true rfl, z⟩⟩
end PL
section P1
variable {d : Nat} {ε : mm_X} {μ : mm_mu} {Q : mm_Q0} {h : mm_H} {tn gn a p ln sz m : Nat} {dy : Nat → Nat}
theorem c_hasE (htn : μ 18 0 = nI tn) (ht : tn ≤ 7) (hQ : Q (some (.int (bi (0 < tn)))) (HP ε μ)) : B0 (d + 1) mX11_hasEstate [.ref 0] (HP ε μ) Q := by
  refine c_hasEstate ?_
  have e : (0 < μ 18 0) = (0 < tn) := by rw [htn]; exact propext (nI_ltI (a := 0) (by decide) (by omega))
  have e2 : bi (0 < μ 18 0) = bi (0 < tn) := by unfold bi; simp only [e]
  rw [e2]; exact hQ
theorem p_rule {x : Int32} (hJ : JX ε μ tn gn a p dy ln sz m) : Pr mX11_rule mX12_rule [.int x] ε μ := by
  have hj : J ε μ := ⟨_, _, _, _, _, _, _, _, hJ⟩
  obtain ⟨hE, hA, -⟩ := hJ
  obtain ⟨ht7, hg5, htg, h18, h18', h56, h56', hth⟩ := hE
  obtain ⟨hR, -⟩ := hA
  obtain ⟨-, h2, h3, -⟩ := hR
  rw [csv_lo (by decide), csv_lo (by decide), csv_lo (by decide)] at h2 h3
  have hz : (nI tn = 0) = (tn = 0) := propext (nI_eq (b := 0) (by omega) (by decide))
  have key : ∀ v, v = spRule (nI tn) (μ 72 15) (μ 72 19) (μ 72 16) (μ 72 17) x → B0 100 mX12_rule [.ref 56, .int x] (HP ε μ) (fun w h' => ∃ x ε' μ', some (Value.int v) = some (.int x) ∧ w = some (.int x) ∧ h' = HP ε' μ' ∧ J ε' μ') := by
    intro v hv
    refine m_rule ?_
    rw [h56]
    exact PE.mk hv hj
  unfold Pr
  refine b0_of_G0 (lv := [.ref 0, .int x]) (by decide +kernel) (Nat.le_of_ble_eq_true rfl) rfl ?_
  refine mw_ok (M := mX11_rule) (fun _ => false) okTX11 rfl 20 _ _ _ _ ?_
  simp only [eX11_rule_0, eX11_rule_1, eX11_rule_4, eX11_rule_7, eX11_rule_8, eX11_rule_9, eX11_rule_10, eX11_rule_40, eX11_rule_41, eX11_rule_44, eX11_rule_47, eX11_rule_50, eX11_rule_51, eX11_rule_52, eX11_rule_55, eX11_rule_58, eX11_rule_61, eX11_rule_62, eX11_rule_63, eX11_rule_66, eX11_rule_69, eX11_rule_72, eX11_rule_73, eX11_rule_74, eX11_rule_77, eX11_rule_80, eX11_rule_83, eX11_rule_84, eX11_rule_85, st_aload, st_iconst, st_if_eq, st_if_ne, st_if_lt, st_if_ge, st_if_gt, st_if_le, st_iload, st_inv, st_iret, st_zret, st_bret, st_tsw, mm_tsw, gf_17_401, gf_10_800, gf_24_800, gf_28_800, gf_10_801, gf_24_801, gf_28_801, gf_10_802, gf_24_802, gf_28_802, gf_10_803, gf_24_803, gf_28_803, gf_0_1103, HP_0, tab_107, mm_cut, cond_false, cond_true, List.getElem?_cons_succ, List.getElem?_cons_zero, Int.reduceToNat, Nat.reduceMod, Nat.reduceDiv, Nat.reduceAdd, true_and, and_true, mm_set, mm_set2, mm_pop, List.length_cons, List.length_nil, Nat.reduceLeDiff, Int32.reduceOfInt, Int64.reduceOfInt, nar_b0, nar_b1, List.cons_append, List.nil_append, Option.toList_some, Option.toList_none, List.map_cons, List.map_nil, List.sum_cons, List.sum_nil, cat_i, cat_r, cat_l, Nat.zero_le, Int32.reduceOfNat, Int32.reduceAdd, Int32.reduceLT, Int32.reduceLE, forall_const, true_implies, false_implies, not_false_eq_true, not_true_eq_false, bi_eq0, bi_ne0, sl_0, sl_3, va_rf, Nat.reduceEqDiff, if_false, ite_false, ite_true, reduceIte, List.set_cons_zero, List.set_cons_succ, Nat.succ_eq_add_one, mup_c, mup_s, mw_zero, ne_eq, lit_10, lit_01, lit_m10, lit_m11, nar_bi]
  refine c_hasE h18 ht7 ?_
  refine mw_ok (M := mX11_rule) (fun _ => false) okTX11 rfl 30 _ _ _ _ ?_
  simp only [eX11_rule_0, eX11_rule_1, eX11_rule_4, eX11_rule_7, eX11_rule_8, eX11_rule_9, eX11_rule_10, eX11_rule_40, eX11_rule_41, eX11_rule_44, eX11_rule_47, eX11_rule_50, eX11_rule_51, eX11_rule_52, eX11_rule_55, eX11_rule_58, eX11_rule_61, eX11_rule_62, eX11_rule_63, eX11_rule_66, eX11_rule_69, eX11_rule_72, eX11_rule_73, eX11_rule_74, eX11_rule_77, eX11_rule_80, eX11_rule_83, eX11_rule_84, eX11_rule_85, st_aload, st_iconst, st_if_eq, st_if_ne, st_if_lt, st_if_ge, st_if_gt, st_if_le, st_iload, st_inv, st_iret, st_zret, st_bret, st_tsw, mm_tsw, gf_17_401, gf_10_800, gf_24_800, gf_28_800, gf_10_801, gf_24_801, gf_28_801, gf_10_802, gf_24_802, gf_28_802, gf_10_803, gf_24_803, gf_28_803, gf_0_1103, HP_0, tab_107, mm_cut, cond_false, cond_true, List.getElem?_cons_succ, List.getElem?_cons_zero, Int.reduceToNat, Nat.reduceMod, Nat.reduceDiv, Nat.reduceAdd, true_and, and_true, mm_set, mm_set2, mm_pop, List.length_cons, List.length_nil, Nat.reduceLeDiff, Int32.reduceOfInt, Int64.reduceOfInt, nar_b0, nar_b1, List.cons_append, List.nil_append, Option.toList_some, Option.toList_none, List.map_cons, List.map_nil, List.sum_cons, List.sum_nil, cat_i, cat_r, cat_l, Nat.zero_le, Int32.reduceOfNat, Int32.reduceAdd, Int32.reduceLT, Int32.reduceLE, forall_const, true_implies, false_implies, not_false_eq_true, not_true_eq_false, bi_eq0, bi_ne0, sl_0, sl_3, va_rf, Nat.reduceEqDiff, if_false, ite_false, ite_true, reduceIte, List.set_cons_zero, List.set_cons_succ, Nat.succ_eq_add_one, mup_c, mup_s, mw_zero, ne_eq, lit_10, lit_01, lit_m10, lit_m11, nar_bi]
  unfold spRule at key
  simp only [hz] at key
  refine ⟨fun h1 => ?_, fun h1 => ?_⟩
  · have h1 := Classical.not_not.mp h1
    have h2 := h2 (htg h1)
    refine ⟨fun q => ?_, fun q0 => ⟨fun q => ?_, fun q1 => ⟨fun q => ?_, fun q2 => ⟨fun q => ?_, fun q3 => ?_⟩⟩⟩⟩
    · refine key _ ?_
      have : x = 0 := Int32.toInt_inj.mp q
      subst this
      rw [if_neg (by simp; omega), if_pos rfl]; exact h2.1
    · refine key _ ?_
      have : x = 1 := Int32.toInt_inj.mp q
      subst this
      rw [if_neg (by simp; omega), if_neg (by decide), if_pos rfl]; exact h3.2.1
    · refine key _ ?_
      have : x = 2 := Int32.toInt_inj.mp q
      subst this
      rw [if_neg (by simp; omega), if_neg (by decide), if_neg (by decide), if_pos rfl]; exact h2.2.1
    · refine key _ ?_
      have : x = 3 := Int32.toInt_inj.mp q
      subst this
      rw [if_neg (by simp; omega), if_neg (by decide), if_neg (by decide), if_neg (by decide)]; exact h2.2.2
    · refine key _ ?_
      rw [if_pos (Or.inr (by simp only [Int32.le_iff_toInt_le, Int32.lt_iff_toInt_lt, ← Int32.toInt_inj, Int32.reduceToInt, ne_eq] at *; omega))]
  · refine key _ ?_
    rw [if_pos (Or.inl (by omega))]
theorem p_law {x : Int32} (hJ : JX ε μ tn gn a p dy ln sz m) : Pr mX11_law mX12_law [.int x] ε μ := by
  have hj : J ε μ := ⟨_, _, _, _, _, _, _, _, hJ⟩
  have hL := hJ.2.2.2.1
  obtain ⟨l1, l2, l3, l4, l5, l6, l7⟩ := hL
  have e := nI_toInt (n := ln) (by omega)
  have e2 : (nI ln - 1).toInt = (ln : Int) - 1 := nI_sub1 (by omega)
  unfold Pr
  refine b0_of_G0 (lv := [.ref 0, .int x]) (by decide +kernel) (Nat.le_of_ble_eq_true rfl) rfl ?_
  by_cases hx : -1 ≤ x ∧ x ≤ nI ln - 1
  · have f1 : (x < -1) = False := eq_false (by simp only [Int32.le_iff_toInt_le, Int32.lt_iff_toInt_lt, ← Int32.toInt_inj, Int32.reduceToInt, ne_eq] at *; omega)
    have f2 : (x < nI ln) = True := eq_true (by simp only [Int32.le_iff_toInt_le, Int32.lt_iff_toInt_lt, ← Int32.toInt_inj, Int32.reduceToInt, ne_eq] at *; omega)
    have fin : ∀ r, ((x = -1 ∧ r = none) ∨ ∃ n, n < ln ∧ x = nI n ∧ r = some (87 + 3 * n)) → J (ε.1, r, ε.2.2) (mup (mup μ 0 6 x) 56 28 x) := by
      intro r hr
      obtain ⟨jE, jA, jI, jL, jT, jS, jM⟩ := hJ
      refine ⟨tn, gn, a, p, dy, ln, sz, m, jE.of rfl rfl rfl rfl rfl rfl rfl (by rw [mup_s, if_neg (by decide), mup_c (by decide)]) (by rw [mup_s, if_neg (by decide), mup_c (by decide)]), jA.of rfl rfl rfl rfl rfl rfl rfl rfl rfl (by rw [mup_s, if_neg (by decide), mup_c (by decide)]), jI.of rfl rfl rfl rfl (by rw [mup_s, if_neg (by decide), mup_c (by decide)]), ?_, jT.of (by rw [mup_c (by decide), mup_c (by decide)]) rfl rfl (by rw [mup_s, if_neg (by decide), mup_c (by decide)]), jS.of rfl rfl rfl rfl rfl rfl rfl rfl rfl (by rw [mup_s, if_neg (by decide), mup_c (by decide)]), ?_⟩
      · refine ⟨l1, l2, ?_, ?_, ?_, ?_, ?_⟩
        · rw [mup_c (by decide), mup_s, if_neg (by decide)]; exact l3
        · rw [mup_s, if_neg (by decide), mup_c (by decide)]; exact l4
        · intro n hn
          obtain ⟨q1, cs, q2, q3, q4⟩ := l5 n hn
          refine ⟨q1, cs, ⟨q2.1, q2.2.1, ?_, q2.2.2.2⟩, q3.of rfl rfl rfl rfl rfl rfl rfl, q4⟩
          rw [mup_c (by omega), mup_c (by omega)]; exact q2.2.2.1
        · rw [mup_c (by decide), mup_s, if_pos rfl, mup_s, if_pos rfl]
        · rw [mup_s, if_pos rfl]; exact hr
      · obtain ⟨m1, m2, m3, m4⟩ := jM
        refine ⟨?_, m2, m3, m4⟩
        rw [mup_c (by decide), mup_s, if_neg (by decide), mup_s, if_neg (by decide), mup_c (by decide)]; exact m1
    have go : ∀ r, ((x = -1 ∧ r = none) ∨ ∃ n, n < ln ∧ x = nI n ∧ r = some (87 + 3 * n)) → B0 100 mX12_law [.ref 56, .int x] (HP (ε.1, r, ε.2.2) (mup μ 0 6 x)) (fun w h' => ∃ x ε' μ', some (Value.int 1) = some (.int x) ∧ w = some (.int x) ∧ h' = HP ε' μ' ∧ J ε' μ') := by
      intro r hr
      refine m_law (fun hn => ?_) (fun _ => ?_)
      · exact absurd (by rw [mup_c (by decide), l4]; exact hx) hn
      · exact PE.mk rfl (fin r hr)
    by_cases hx1 : x = -1
    · have := go none (Or.inl ⟨hx1, rfl⟩)
      refine mw_ok (M := mX11_law) (fun _ => false) okTX11 rfl 30 _ _ _ _ ?_
      simp only [eX11_law_0, eX11_law_1, eX11_law_2, eX11_law_5, eX11_law_6, eX11_law_7, eX11_law_10, eX11_law_13, eX11_law_14, eX11_law_15, eX11_law_16, eX11_law_17, eX11_law_20, eX11_law_21, eX11_law_24, eX11_law_25, eX11_law_26, eX11_law_29, eX11_law_30, eX11_law_33, eX11_law_34, eX11_law_37, eX11_law_38, eX11_law_39, eX11_law_42, eX11_law_43, st_anull, st_aload, st_goto, st_iconst, st_ic_eq, st_ic_ne, st_ic_lt, st_ic_ge, st_ic_gt, st_ic_le, st_iload, st_iret, st_zret, st_bret, gf_0_1103, gf_0_1104, gf_0_1105, pf_0_1106, mm_cut, cond_false, cond_true, List.getElem?_cons_succ, List.getElem?_cons_zero, Int.reduceToNat, Nat.reduceMod, Nat.reduceDiv, Nat.reduceAdd, true_and, and_true, mm_set, mm_set2, mm_pop, List.length_cons, List.length_nil, Nat.reduceLeDiff, Int32.reduceOfInt, Int64.reduceOfInt, nar_b0, nar_b1, List.cons_append, List.nil_append, Option.toList_some, Option.toList_none, List.map_cons, List.map_nil, List.sum_cons, List.sum_nil, cat_i, cat_r, cat_l, Nat.zero_le, Int32.reduceOfNat, Int32.reduceAdd, Int32.reduceLT, Int32.reduceLE, forall_const, true_implies, false_implies, not_false_eq_true, not_true_eq_false, bi_eq0, bi_ne0, sl_0, sl_3, va_rf, Nat.reduceEqDiff, if_false, ite_false, ite_true, reduceIte, List.set_cons_zero, List.set_cons_succ, Nat.succ_eq_add_one, mup_c, mup_s, mw_zero, ne_eq, lit_10, lit_01, lit_m10, lit_m11, nar_bi, l3, f1, f2, eq_true hx1, pf_17_403n, pf_17_403r]
      exact this
    · obtain ⟨n, hn, hxn⟩ := ix_of (x := x) (n := ln) (by omega) ⟨(by simp only [Int32.le_iff_toInt_le, Int32.lt_iff_toInt_lt, ← Int32.toInt_inj, Int32.reduceToInt, ne_eq] at *; omega), hx.2⟩
      have := go (some (87 + 3 * n)) (Or.inr ⟨n, hn, hxn, rfl⟩)
      rw [hxn] at this hx1 f1 f2 ⊢
      refine mw_ok (M := mX11_law) (fun _ => false) okTX11 rfl 30 _ _ _ _ ?_
      simp only [eX11_law_0, eX11_law_1, eX11_law_2, eX11_law_5, eX11_law_6, eX11_law_7, eX11_law_10, eX11_law_13, eX11_law_14, eX11_law_15, eX11_law_16, eX11_law_17, eX11_law_20, eX11_law_21, eX11_law_24, eX11_law_25, eX11_law_26, eX11_law_29, eX11_law_30, eX11_law_33, eX11_law_34, eX11_law_37, eX11_law_38, eX11_law_39, eX11_law_42, eX11_law_43, st_anull, st_aload, st_goto, st_iconst, st_ic_eq, st_ic_ne, st_ic_lt, st_ic_ge, st_ic_gt, st_ic_le, st_iload, st_iret, st_zret, st_bret, gf_0_1103, gf_0_1104, gf_0_1105, pf_0_1106, mm_cut, cond_false, cond_true, List.getElem?_cons_succ, List.getElem?_cons_zero, Int.reduceToNat, Nat.reduceMod, Nat.reduceDiv, Nat.reduceAdd, true_and, and_true, mm_set, mm_set2, mm_pop, List.length_cons, List.length_nil, Nat.reduceLeDiff, Int32.reduceOfInt, Int64.reduceOfInt, nar_b0, nar_b1, List.cons_append, List.nil_append, Option.toList_some, Option.toList_none, List.map_cons, List.map_nil, List.sum_cons, List.sum_nil, cat_i, cat_r, cat_l, Nat.zero_le, Int32.reduceOfNat, Int32.reduceAdd, Int32.reduceLT, Int32.reduceLE, forall_const, true_implies, false_implies, not_false_eq_true, not_true_eq_false, bi_eq0, bi_ne0, sl_0, sl_3, va_rf, Nat.reduceEqDiff, if_false, ite_false, ite_true, reduceIte, List.set_cons_zero, List.set_cons_succ, Nat.succ_eq_add_one, mup_c, mup_s, mw_zero, ne_eq, lit_10, lit_01, lit_m10, lit_m11, nar_bi, l3, f1, f2, eq_false hx1, pf_17_403n, pf_17_403r, ld_38, vinT (a := n) rfl (show n < 4 by omega), clp (a := n) rfl (by omega), (l5 n hn).1]
      exact this
  · have go : B0 100 mX12_law [.ref 56, .int x] (HP ε μ) (fun w h' => ∃ x ε' μ', some (Value.int 0) = some (.int x) ∧ w = some (.int x) ∧ h' = HP ε' μ' ∧ J ε' μ') := by
      refine m_law (fun _ => PE.mk rfl hj) (fun hn => absurd (by rw [l4] at hn; exact hn) hx)
    refine mw_ok (M := mX11_law) (fun _ => false) okTX11 rfl 30 _ _ _ _ ?_
    simp only [eX11_law_0, eX11_law_1, eX11_law_2, eX11_law_5, eX11_law_6, eX11_law_7, eX11_law_10, eX11_law_13, eX11_law_14, eX11_law_15, eX11_law_16, eX11_law_17, eX11_law_20, eX11_law_21, eX11_law_24, eX11_law_25, eX11_law_26, eX11_law_29, eX11_law_30, eX11_law_33, eX11_law_34, eX11_law_37, eX11_law_38, eX11_law_39, eX11_law_42, eX11_law_43, st_anull, st_aload, st_goto, st_iconst, st_ic_eq, st_ic_ne, st_ic_lt, st_ic_ge, st_ic_gt, st_ic_le, st_iload, st_iret, st_zret, st_bret, gf_0_1103, gf_0_1104, gf_0_1105, pf_0_1106, mm_cut, cond_false, cond_true, List.getElem?_cons_succ, List.getElem?_cons_zero, Int.reduceToNat, Nat.reduceMod, Nat.reduceDiv, Nat.reduceAdd, true_and, and_true, mm_set, mm_set2, mm_pop, List.length_cons, List.length_nil, Nat.reduceLeDiff, Int32.reduceOfInt, Int64.reduceOfInt, nar_b0, nar_b1, List.cons_append, List.nil_append, Option.toList_some, Option.toList_none, List.map_cons, List.map_nil, List.sum_cons, List.sum_nil, cat_i, cat_r, cat_l, Nat.zero_le, Int32.reduceOfNat, Int32.reduceAdd, Int32.reduceLT, Int32.reduceLE, forall_const, true_implies, false_implies, not_false_eq_true, not_true_eq_false, bi_eq0, bi_ne0, sl_0, sl_3, va_rf, Nat.reduceEqDiff, if_false, ite_false, ite_true, reduceIte, List.set_cons_zero, List.set_cons_succ, Nat.succ_eq_add_one, mup_c, mup_s, mw_zero, ne_eq, lit_10, lit_01, lit_m10, lit_m11, nar_bi, l3]
    refine ⟨fun _ => go, fun q1 => ⟨fun q2 => absurd ⟨(by simp only [Int32.le_iff_toInt_le, Int32.lt_iff_toInt_lt, ← Int32.toInt_inj, Int32.reduceToInt, ne_eq] at *; omega), (by simp only [Int32.le_iff_toInt_le, Int32.lt_iff_toInt_lt, ← Int32.toInt_inj, Int32.reduceToInt, ne_eq] at *; omega)⟩ hx, fun q2 => go⟩⟩
theorem p_lots {x : Int32} (hJ : JX ε μ tn gn a p dy ln sz m) : Pr mX11_lots mX12_lots [.int x] ε μ := by
  have hj : J ε μ := ⟨_, _, _, _, _, _, _, _, hJ⟩
  obtain ⟨jE, jA, jI, jL, jT, jS, m1, m2⟩ := hJ
  unfold Pr
  refine b0_of_G0 (lv := [.ref 0, .int x]) (by decide +kernel) (Nat.le_of_ble_eq_true rfl) rfl ?_
  have go0 : (¬ (0 ≤ x ∧ x ≤ 9) ∨ x = μ 0 7) → B0 100 mX12_lots [.ref 56, .int x] (HP ε μ) (fun w h' => ∃ x ε' μ', some (Value.int 0) = some (.int x) ∧ w = some (.int x) ∧ h' = HP ε' μ' ∧ J ε' μ') := by
    intro hc
    rw [m1] at hc
    refine m_lots (fun _ => PE.mk rfl hj) (fun q1 q2 => absurd hc (fun z => z.elim (fun z => z q1) q2))
  have go1 : (0 ≤ x ∧ x ≤ 9) → ¬ x = μ 0 7 → B0 100 mX12_lots [.ref 56, .int x] (HP ε (mup μ 0 7 x)) (fun w h' => ∃ x ε' μ', some (Value.int 1) = some (.int x) ∧ w = some (.int x) ∧ h' = HP ε' μ' ∧ J ε' μ') := by
    intro q1 q2
    rw [m1] at q2
    refine m_lots (fun hc => ?_) (fun _ _ => PE.mk rfl ?_)
    · rw [mup_c (by decide)] at hc
      exact absurd hc (fun z => z.elim (fun z => z q1) q2)
    · obtain ⟨l1, l2, l3, l4, l5, l6, l7⟩ := jL
      have k : ∀ i, i ≠ 29 → mup (mup μ 0 7 x) 56 29 x 56 i = μ 56 i := fun i hi => by rw [mup_s, if_neg hi, mup_c (by decide)]
      refine ⟨tn, gn, a, p, dy, ln, sz, m, jE.of rfl rfl rfl rfl rfl rfl rfl (k _ (by decide)) (k _ (by decide)), jA.of rfl rfl rfl rfl rfl rfl rfl rfl rfl (k _ (by decide)), jI.of rfl rfl rfl rfl (k _ (by decide)), ?_, jT.of rfl rfl rfl (k _ (by decide)), jS.of rfl rfl rfl rfl rfl rfl rfl rfl rfl (k _ (by decide)), ?_, m2⟩
      · refine ⟨l1, l2, ?_, ?_, ?_, ?_, ?_⟩
        · rw [mup_c (by decide), mup_s, if_neg (by decide)]; exact l3
        · rw [k _ (by decide)]; exact l4
        · intro n hn
          obtain ⟨q1, cs, q2, q3, q4⟩ := l5 n hn
          refine ⟨q1, cs, ⟨q2.1, q2.2.1, ?_, q2.2.2.2⟩, q3.of rfl rfl rfl rfl rfl rfl rfl, q4⟩
          rw [mup_c (by omega), mup_c (by omega)]; exact q2.2.2.1
        · rw [mup_c (by decide), mup_s, if_neg (by decide), k _ (by decide)]; exact l6
        · rw [k _ (by decide)]; exact l7
      · rw [mup_c (by decide), mup_s, if_pos rfl, mup_s, if_pos rfl]
  refine mw_ok (M := mX11_lots) (fun _ => false) okTX11 rfl 30 _ _ _ _ ?_
  simp only [eX11_lots_0, eX11_lots_1, eX11_lots_4, eX11_lots_5, eX11_lots_7, eX11_lots_10, eX11_lots_11, eX11_lots_12, eX11_lots_15, eX11_lots_18, eX11_lots_19, eX11_lots_20, eX11_lots_21, eX11_lots_22, eX11_lots_25, eX11_lots_26, st_aload, st_iconst, st_if_eq, st_if_ne, st_if_lt, st_if_ge, st_if_gt, st_if_le, st_ic_eq, st_ic_ne, st_ic_lt, st_ic_ge, st_ic_gt, st_ic_le, st_iload, st_iret, st_zret, st_bret, gf_0_1107, pf_0_1107, mm_cut, cond_false, cond_true, List.getElem?_cons_succ, List.getElem?_cons_zero, Int.reduceToNat, Nat.reduceMod, Nat.reduceDiv, Nat.reduceAdd, true_and, and_true, mm_set, mm_set2, mm_pop, List.length_cons, List.length_nil, Nat.reduceLeDiff, Int32.reduceOfInt, Int64.reduceOfInt, nar_b0, nar_b1, List.cons_append, List.nil_append, Option.toList_some, Option.toList_none, List.map_cons, List.map_nil, List.sum_cons, List.sum_nil, cat_i, cat_r, cat_l, Nat.zero_le, Int32.reduceOfNat, Int32.reduceAdd, Int32.reduceLT, Int32.reduceLE, forall_const, true_implies, false_implies, not_false_eq_true, not_true_eq_false, bi_eq0, bi_ne0, sl_0, sl_3, va_rf, Nat.reduceEqDiff, if_false, ite_false, ite_true, reduceIte, List.set_cons_zero, List.set_cons_succ, Nat.succ_eq_add_one, mup_c, mup_s, mw_zero, ne_eq, lit_10, lit_01, lit_m10, lit_m11, nar_bi]
  refine ⟨fun q => go0 (Or.inl (by simp only [Int32.le_iff_toInt_le, Int32.lt_iff_toInt_lt, ← Int32.toInt_inj, Int32.reduceToInt, ne_eq] at *; omega)), fun q1 => ⟨fun q => go0 (Or.inl (by simp only [Int32.le_iff_toInt_le, Int32.lt_iff_toInt_lt, ← Int32.toInt_inj, Int32.reduceToInt, ne_eq] at *; omega)), fun q2 => ⟨fun q3 => go1 ⟨(by simp only [Int32.le_iff_toInt_le, Int32.lt_iff_toInt_lt, ← Int32.toInt_inj, Int32.reduceToInt, ne_eq] at *; omega), (by simp only [Int32.le_iff_toInt_le, Int32.lt_iff_toInt_lt, ← Int32.toInt_inj, Int32.reduceToInt, ne_eq] at *; omega)⟩ q3, fun q3 => go0 (Or.inr q3)⟩⟩⟩
theorem p_status {x : Int32} (hJ : JX ε μ tn gn a p dy ln sz m) : Pr mX11_status mX12_status [.int x] ε μ := by
  have hj : J ε μ := ⟨_, _, _, _, _, _, _, _, hJ⟩
  obtain ⟨-, -, -, -, -, -, -, m2, -⟩ := hJ
  unfold Pr
  refine b0_of_G0 (lv := [.ref 0, .int x]) (by decide +kernel) (Nat.le_of_ble_eq_true rfl) rfl ?_
  have go : ∀ v, v = (if 0 ≤ x ∧ x ≤ 4 then μ 73 x.toNatClampNeg else -1) → B0 100 mX12_status [.ref 56, .int x] (HP ε μ) (fun w h' => ∃ x ε' μ', some (Value.int v) = some (.int x) ∧ w = some (.int x) ∧ h' = HP ε' μ' ∧ J ε' μ') := fun v hv => m_status (PE.mk hv hj)
  by_cases hx : 0 ≤ x ∧ x ≤ 4
  · obtain ⟨k, hk, rfl⟩ := ix9 (n := 4) (m := 4) rfl hx
    have := go (μ 39 k) (by rw [if_pos hx, clp (a := k) rfl (by omega)]; exact m2 k (by omega))
    have f1 : (nI k < 0) = False := eq_false (by simp only [Int32.le_iff_toInt_le, Int32.lt_iff_toInt_lt, ← Int32.toInt_inj, Int32.reduceToInt, ne_eq] at *; omega)
    have f2 : (nI k < 5) = True := eq_true (by simp only [Int32.le_iff_toInt_le, Int32.lt_iff_toInt_lt, ← Int32.toInt_inj, Int32.reduceToInt, ne_eq] at *; omega)
    refine mw_ok (M := mX11_status) (fun _ => false) okTX11 rfl 30 _ _ _ _ ?_
    simp only [eX11_status_0, eX11_status_1, eX11_status_4, eX11_status_5, eX11_status_6, eX11_status_9, eX11_status_10, eX11_status_13, eX11_status_14, eX11_status_17, eX11_status_18, eX11_status_19, st_aload, st_goto, st_iconst, st_if_eq, st_if_ne, st_if_lt, st_if_ge, st_if_gt, st_if_le, st_ic_eq, st_ic_ne, st_ic_lt, st_ic_ge, st_ic_gt, st_ic_le, st_iload, st_iret, st_zret, st_bret, gf_0_1109, ld_5, ld_6, ld_7, ld_8, ld_9, ld_11, ld_12, ld_13, ld_14, ld_16, ld_19, ld_20, ld_21, ld_22, ld_23, ld_25, ld_26, ld_27, ld_29, ld_30, ld_31, ld_32, ld_33, ld_34, ld_35, ld_36, ld_37, ld_39, ld_41, ld_42, ld_43, ld_44, ld_46, ld_47, ld_48, ld_51, ld_52, ld_54, ld_55, mm_cut, cond_false, cond_true, List.getElem?_cons_succ, List.getElem?_cons_zero, Int.reduceToNat, Nat.reduceMod, Nat.reduceDiv, Nat.reduceAdd, true_and, and_true, mm_set, mm_set2, mm_pop, List.length_cons, List.length_nil, Nat.reduceLeDiff, Int32.reduceOfInt, Int64.reduceOfInt, nar_b0, nar_b1, List.cons_append, List.nil_append, Option.toList_some, Option.toList_none, List.map_cons, List.map_nil, List.sum_cons, List.sum_nil, cat_i, cat_r, cat_l, Nat.zero_le, Int32.reduceOfNat, Int32.reduceAdd, Int32.reduceLT, Int32.reduceLE, forall_const, true_implies, false_implies, not_false_eq_true, not_true_eq_false, bi_eq0, bi_ne0, sl_0, sl_3, va_rf, Nat.reduceEqDiff, if_false, ite_false, ite_true, reduceIte, List.set_cons_zero, List.set_cons_succ, Nat.succ_eq_add_one, mup_c, mup_s, mw_zero, ne_eq, lit_10, lit_01, lit_m10, lit_m11, nar_bi, f1, f2, vinT (a := k) rfl (show k < 5 by omega), clp (a := k) rfl (by omega)]
    exact this
  · have := go (-1) (by rw [if_neg hx])
    refine mw_ok (M := mX11_status) (fun _ => false) okTX11 rfl 30 _ _ _ _ ?_
    simp only [eX11_status_0, eX11_status_1, eX11_status_4, eX11_status_5, eX11_status_6, eX11_status_9, eX11_status_10, eX11_status_13, eX11_status_14, eX11_status_17, eX11_status_18, eX11_status_19, st_aload, st_goto, st_iconst, st_if_eq, st_if_ne, st_if_lt, st_if_ge, st_if_gt, st_if_le, st_ic_eq, st_ic_ne, st_ic_lt, st_ic_ge, st_ic_gt, st_ic_le, st_iload, st_iret, st_zret, st_bret, gf_0_1109, ld_5, ld_6, ld_7, ld_8, ld_9, ld_11, ld_12, ld_13, ld_14, ld_16, ld_19, ld_20, ld_21, ld_22, ld_23, ld_25, ld_26, ld_27, ld_29, ld_30, ld_31, ld_32, ld_33, ld_34, ld_35, ld_36, ld_37, ld_39, ld_41, ld_42, ld_43, ld_44, ld_46, ld_47, ld_48, ld_51, ld_52, ld_54, ld_55, mm_cut, cond_false, cond_true, List.getElem?_cons_succ, List.getElem?_cons_zero, Int.reduceToNat, Nat.reduceMod, Nat.reduceDiv, Nat.reduceAdd, true_and, and_true, mm_set, mm_set2, mm_pop, List.length_cons, List.length_nil, Nat.reduceLeDiff, Int32.reduceOfInt, Int64.reduceOfInt, nar_b0, nar_b1, List.cons_append, List.nil_append, Option.toList_some, Option.toList_none, List.map_cons, List.map_nil, List.sum_cons, List.sum_nil, cat_i, cat_r, cat_l, Nat.zero_le, Int32.reduceOfNat, Int32.reduceAdd, Int32.reduceLT, Int32.reduceLE, forall_const, true_implies, false_implies, not_false_eq_true, not_true_eq_false, bi_eq0, bi_ne0, sl_0, sl_3, va_rf, Nat.reduceEqDiff, if_false, ite_false, ite_true, reduceIte, List.set_cons_zero, List.set_cons_succ, Nat.succ_eq_add_one, mup_c, mup_s, mw_zero, ne_eq, lit_10, lit_01, lit_m10, lit_m11, nar_bi]
    refine ⟨fun _ => this, fun q1 => ⟨fun q2 => absurd ⟨(by simp only [Int32.le_iff_toInt_le, Int32.lt_iff_toInt_lt, ← Int32.toInt_inj, Int32.reduceToInt, ne_eq] at *; omega), (by simp only [Int32.le_iff_toInt_le, Int32.lt_iff_toInt_lt, ← Int32.toInt_inj, Int32.reduceToInt, ne_eq] at *; omega)⟩ hx, fun _ => this⟩⟩
theorem p_taker {x : Int32} (hJ : JX ε μ tn gn a p dy ln sz m) : Pr mX11_taker mX12_taker [.int x] ε μ := by
  have hj : J ε μ := ⟨_, _, _, _, _, _, _, _, hJ⟩
  obtain ⟨hE, hA, -, hL, -⟩ := hJ
  obtain ⟨ht7, hg5, htg, h18, h18', h56, h56', hth⟩ := hE
  obtain ⟨hok, hch⟩ := hL.lw
  unfold Pr
  refine b0_of_G0 (lv := [.ref 0, .int x]) (by decide +kernel) (Nat.le_of_ble_eq_true rfl) rfl ?_
  refine mw_ok (M := mX11_taker) (fun _ => false) okTX11 rfl 20 _ _ _ _ ?_
  simp only [eX11_taker_0, eX11_taker_1, eX11_taker_2, eX11_taker_5, eX11_taker_8, eX11_taker_9, eX11_taker_10, eX11_taker_11, eX11_taker_14, eX11_taker_15, eX11_taker_18, eX11_taker_21, eX11_taker_24, eX11_taker_25, eX11_taker_28, eX11_taker_31, eX11_taker_32, eX11_taker_33, st_aload, st_iconst, st_if_eq, st_if_ne, st_if_lt, st_if_ge, st_if_gt, st_if_le, st_iload, st_inv, st_iret, st_zret, st_bret, gf_17_401, gf_17_406, gf_0_1103, ld_5, ld_6, ld_7, ld_8, ld_9, ld_11, ld_12, ld_13, ld_14, ld_16, ld_19, ld_20, ld_21, ld_22, ld_23, ld_25, ld_26, ld_27, ld_29, ld_30, ld_31, ld_32, ld_33, ld_34, ld_35, ld_36, ld_37, ld_39, ld_41, ld_42, ld_43, ld_44, ld_46, ld_47, ld_48, ld_51, ld_52, ld_54, ld_55, HP_0, HP_17, tab_22, tab_108, mm_cut, cond_false, cond_true, List.getElem?_cons_succ, List.getElem?_cons_zero, Int.reduceToNat, Nat.reduceMod, Nat.reduceDiv, Nat.reduceAdd, true_and, and_true, mm_set, mm_set2, mm_pop, List.length_cons, List.length_nil, Nat.reduceLeDiff, Int32.reduceOfInt, Int64.reduceOfInt, nar_b0, nar_b1, List.cons_append, List.nil_append, Option.toList_some, Option.toList_none, List.map_cons, List.map_nil, List.sum_cons, List.sum_nil, cat_i, cat_r, cat_l, Nat.zero_le, Int32.reduceOfNat, Int32.reduceAdd, Int32.reduceLT, Int32.reduceLE, forall_const, true_implies, false_implies, not_false_eq_true, not_true_eq_false, bi_eq0, bi_ne0, sl_0, sl_3, va_rf, Nat.reduceEqDiff, if_false, ite_false, ite_true, reduceIte, List.set_cons_zero, List.set_cons_succ, Nat.succ_eq_add_one, mup_c, mup_s, mw_zero, ne_eq, lit_10, lit_01, lit_m10, lit_m11, nar_bi]
  refine c_isThing h18 ht7 ?_
  refine mw_ok (M := mX11_taker) (fun _ => false) okTX11 rfl 20 _ _ _ _ ?_
  simp only [eX11_taker_0, eX11_taker_1, eX11_taker_2, eX11_taker_5, eX11_taker_8, eX11_taker_9, eX11_taker_10, eX11_taker_11, eX11_taker_14, eX11_taker_15, eX11_taker_18, eX11_taker_21, eX11_taker_24, eX11_taker_25, eX11_taker_28, eX11_taker_31, eX11_taker_32, eX11_taker_33, st_aload, st_iconst, st_if_eq, st_if_ne, st_if_lt, st_if_ge, st_if_gt, st_if_le, st_iload, st_inv, st_iret, st_zret, st_bret, gf_17_401, gf_17_406, gf_0_1103, ld_5, ld_6, ld_7, ld_8, ld_9, ld_11, ld_12, ld_13, ld_14, ld_16, ld_19, ld_20, ld_21, ld_22, ld_23, ld_25, ld_26, ld_27, ld_29, ld_30, ld_31, ld_32, ld_33, ld_34, ld_35, ld_36, ld_37, ld_39, ld_41, ld_42, ld_43, ld_44, ld_46, ld_47, ld_48, ld_51, ld_52, ld_54, ld_55, HP_0, HP_17, tab_22, tab_108, mm_cut, cond_false, cond_true, List.getElem?_cons_succ, List.getElem?_cons_zero, Int.reduceToNat, Nat.reduceMod, Nat.reduceDiv, Nat.reduceAdd, true_and, and_true, mm_set, mm_set2, mm_pop, List.length_cons, List.length_nil, Nat.reduceLeDiff, Int32.reduceOfInt, Int64.reduceOfInt, nar_b0, nar_b1, List.cons_append, List.nil_append, Option.toList_some, Option.toList_none, List.map_cons, List.map_nil, List.sum_cons, List.sum_nil, cat_i, cat_r, cat_l, Nat.zero_le, Int32.reduceOfNat, Int32.reduceAdd, Int32.reduceLT, Int32.reduceLE, forall_const, true_implies, false_implies, not_false_eq_true, not_true_eq_false, bi_eq0, bi_ne0, sl_0, sl_3, va_rf, Nat.reduceEqDiff, if_false, ite_false, ite_true, reduceIte, List.set_cons_zero, List.set_cons_succ, Nat.succ_eq_add_one, mup_c, mup_s, mw_zero, ne_eq, lit_10, lit_01, lit_m10, lit_m11, nar_bi]
  refine ⟨fun hx => ?_, fun hx => ?_⟩
  · have hx := Classical.not_not.mp hx
    obtain ⟨t, ht, rfl⟩ := ix_of (by omega) hx
    obtain ⟨hsb, hos⟩ := hA.1.sb (htg (by omega)) hg5
    refine c_run (Or.inl rfl) h18 ht7 h18' hg5 hch hos ?_
    intro μ1 ho1 hcd
    rw [DRV_SB ⟨ht7, hg5, htg, h18, h18', h56, h56', hth⟩ hsb] at hcd
    refine mw_ok (M := mX11_taker) (fun _ => false) okTX11 rfl 20 _ _ _ _ ?_
    simp only [eX11_taker_0, eX11_taker_1, eX11_taker_2, eX11_taker_5, eX11_taker_8, eX11_taker_9, eX11_taker_10, eX11_taker_11, eX11_taker_14, eX11_taker_15, eX11_taker_18, eX11_taker_21, eX11_taker_24, eX11_taker_25, eX11_taker_28, eX11_taker_31, eX11_taker_32, eX11_taker_33, st_aload, st_iconst, st_if_eq, st_if_ne, st_if_lt, st_if_ge, st_if_gt, st_if_le, st_iload, st_inv, st_iret, st_zret, st_bret, gf_17_401, gf_17_406, gf_0_1103, ld_5, ld_6, ld_7, ld_8, ld_9, ld_11, ld_12, ld_13, ld_14, ld_16, ld_19, ld_20, ld_21, ld_22, ld_23, ld_25, ld_26, ld_27, ld_29, ld_30, ld_31, ld_32, ld_33, ld_34, ld_35, ld_36, ld_37, ld_39, ld_41, ld_42, ld_43, ld_44, ld_46, ld_47, ld_48, ld_51, ld_52, ld_54, ld_55, HP_0, HP_17, tab_22, tab_108, mm_cut, cond_false, cond_true, List.getElem?_cons_succ, List.getElem?_cons_zero, Int.reduceToNat, Nat.reduceMod, Nat.reduceDiv, Nat.reduceAdd, true_and, and_true, mm_set, mm_set2, mm_pop, List.length_cons, List.length_nil, Nat.reduceLeDiff, Int32.reduceOfInt, Int64.reduceOfInt, nar_b0, nar_b1, List.cons_append, List.nil_append, Option.toList_some, Option.toList_none, List.map_cons, List.map_nil, List.sum_cons, List.sum_nil, cat_i, cat_r, cat_l, Nat.zero_le, Int32.reduceOfNat, Int32.reduceAdd, Int32.reduceLT, Int32.reduceLE, forall_const, true_implies, false_implies, not_false_eq_true, not_true_eq_false, bi_eq0, bi_ne0, sl_0, sl_3, va_rf, Nat.reduceEqDiff, if_false, ite_false, ite_true, reduceIte, List.set_cons_zero, List.set_cons_succ, Nat.succ_eq_add_one, mup_c, mup_s, mw_zero, ne_eq, lit_10, lit_01, lit_m10, lit_m11, nar_bi, vinT (a := t) rfl (show t < 7 by omega), clp (a := t) rfl (by omega), hcd.2.2.2.2.1 t (by omega)]
    have hF : OffF cG [] μ μ1 := ho1.F (by decide)
    have hj1 := hj.offC ho1 (by decide)
    refine m_taker (tn := tn) (gn := gn) (by rw [ho1 56 (by decide)]; exact h56) ht7 (by rw [ho1 56 (by decide)]; exact h56') hg5 (okHold_F hF (by intro c h1 h2; simp; omega) (by decide) hok) (fun q => ?_) (fun μ2 t' S hS ht' hx' ho2 => ?_)
    · exact absurd hx q
    · have : t = t' := (nI_eq (by omega) (by omega)).mp hx'
      subst this
      refine PE.mk ?_ (hj1.off ho2.F (by decide) (by decide))
      rw [hS, DRV_is, mLaw_F hF (by intro c h1 h2; simp; omega) (by decide), ho1 71 (by decide), ho1 72 (by decide)]
  · exact m_taker (tn := tn) (gn := gn) h56 ht7 h56' hg5 hok (fun q => PE.mk rfl hj) (fun μ2 t' S hS ht' hx' ho2 => absurd (by rw [hx']; exact (ix_iff (by omega) (by omega)).mpr ht') hx)
end P1
