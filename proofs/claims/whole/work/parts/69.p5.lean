/-! PAIRS: years -/
def CY (lw : Option ((Nat → Int32) → Int32)) (tn gn : Nat) (lot : Int32) : Nat → Nat → Nat → Nat → Int64 → mm_mu → Int64 → mm_mu → Prop
  | 0, _, _, _, s, μ, s', μ' => s' = s ∧ μ' = μ
  | k + 1, p, a, D, s, μ, s', μ' => ∃ μ1 μ2 μ3, CKp p a μ μ1 ∧ CDw tn gn s lot μ1 μ2 ∧ CDr lw tn gn D μ2 μ3 ∧ CY lw tn gn lot k ((p + 1) % 40) (knum a) (D + 1) (dS s lot) μ3 s' μ'
section P5
variable {d : Nat} {ε : mm_X} {μ : mm_mu} {Q : mm_Q0} {h : mm_H} {tn gn a p ln sz m D : Nat} {dy : Nat → Nat} {lw : Option ((Nat → Int32) → Int32)} {s : Int64} {lot : Int32}
theorem pick10 (s : Int64) : 0 ≤ pick s 10 ∧ pick s 10 ≤ 9 := by
  obtain ⟨k, hk, e⟩ := pick_is (s := s) (m := 10) (by decide) (by decide)
  have e : pick s 10 = nI k := e
  rw [e]
  exact ⟨nI_pos' (by omega), nI_le (b := 9) (by omega) (by decide)⟩
theorem CP.draw {μ' : mm_mu} (h : CP ε μ lw tn gn D) (hg0 : 0 < gn) (hk : CDw tn gn s lot μ μ') : CP ε μ' lw tn gn D := by
  obtain ⟨h1, h2, h3, h4, h5, h6, h7⟩ := h
  obtain ⟨ho, q1, q2, q3, q4⟩ := hk
  refine ⟨?_, h2, ?_, h4, h5.off ho (noC_of (by decide)), fun g hg => ?_, ?_⟩
  · rw [ho 18 (by decide)]; exact h1
  · rw [ho 18 (by decide)]; exact h3
  · rw [ho (24 + 2) (by decide)]
    refine ⟨?_, (h6 g hg).2⟩
    show 0 ≤ μ' 25 g ∧ μ' 25 g ≤ 9
    rw [q4]
    split
    · by_cases hx : g = (pick (drw (drw (drw (drw s)))) (nI gn)).toNatClampNeg
      · rw [← hx, us]; exact pick10 _
      · rw [un hx]; exact (h6 g hg).1
    · exact (h6 g hg).1
  · rw [q1 5 (by decide) (by decide)]; exact h7
/-- the draws, on both sides -/
theorem RW.draw {μc μc' : mm_mu} {mm mm' ring : Nat → Int32} (h : RW gn (csv μc 24) mm ring D) (hg5 : gn ≤ 5) (hg0 : 0 < gn) (hc : CDw tn gn s lot μc μc') (hm : ∀ i, mm' i = dA s (nI tn) (nI gn) lot mm i) : RW gn (csv μc' 24) mm' ring D := by
  have hm : mm' = dA s (nI tn) (nI gn) lot mm := funext hm
  obtain ⟨ho, q1, q2, q3, q4⟩ := hc
  have e18 : mm 18 = μc 24 4 := by
    have := h.2.2.1.1
    rw [csv_lo (by decide)] at this
    exact this.symm
  obtain ⟨g, hgl, hge⟩ := pick_is (s := drw (drw (drw (drw s)))) (m := gn) hg0 (by omega)
  have base : ∀ j, csv μc' 24 j = (if pick (drw (drw (drw s))) 10 < lot then upd (upd (upd (csv μc 24) 0 (pick (drw s) 9)) 4 (mm 18 ||| (1 : Int32) <<< (pick (drw (drw s)) (nI tn) &&& 31))) (6 + g) (pick (drw (drw (drw (drw (drw s))))) 10) else upd (upd (csv μc 24) 0 (pick (drw s) 9)) 4 (mm 18 ||| (1 : Int32) <<< (pick (drw (drw s)) (nI tn) &&& 31))) j := by
    intro j
    have low : j < 6 → csv μc' 24 j = upd (upd (csv μc 24) 0 (pick (drw s) 9)) 4 (mm 18 ||| (1 : Int32) <<< (pick (drw (drw s)) (nI tn) &&& 31)) j := by
      intro hj
      rw [csv_lo hj]
      by_cases h4 : j = 4
      · subst h4; rw [us, q3, e18]
      · by_cases h0 : j = 0
        · subst h0; rw [un (by decide), us, q2]
        · rw [un h4, un h0, csv_lo hj]; exact q1 j h0 h4
    have high : ¬ j < 6 → upd (upd (csv μc 24) 0 (pick (drw s) 9)) 4 (mm 18 ||| (1 : Int32) <<< (pick (drw (drw s)) (nI tn) &&& 31)) j = csv μc 24 j := fun hj => by rw [un (by omega), un (by omega)]
    by_cases hj : j < 6
    · rw [low hj]
      split
      · rw [un (show j ≠ 6 + g by omega)]
      · rfl
    · have e : csv μc' 24 j = if j < 11 then μc' 25 (j - 6) else csv μc 24 j := by
        unfold csv
        rw [ho (24 + 2) (by decide), ho (24 + 3) (by decide)]
        simp only [if_neg hj]
        split <;> rfl
      rw [e, q4]
      split
      · rename_i h11
        have e2 : csv μc 24 j = μc 25 (j - 6) := by unfold csv; rw [if_neg hj, if_pos h11]
        split
        · rw [hge, clp (a := g) rfl (by omega)]
          by_cases hx : j = 6 + g
          · rw [hx, us, show 6 + g - 6 = g by omega, us]
          · rw [un (show j - 6 ≠ g by omega), un hx, high hj, e2]
        · rw [high hj, e2]
      · split
        · rw [un (show j ≠ 6 + g by omega), high hj]
        · rw [high hj]
  have hb := (h.wind (x := pick (drw s) 9) hg5).out (x := mm 18 ||| (1 : Int32) <<< (pick (drw (drw s)) (nI tn) &&& 31)) hg5
  rw [show csv μc' 24 = _ from funext base, hm]
  unfold dA
  dsimp only
  split
  · rw [hge, clp (a := g) rfl (by omega)]
    exact hb.peg hg5 hgl (pick10 _)
  · exact hb
theorem CY_MY : ∀ (k : Nat) (p a : Nat) (dy : Nat → Nat) (s sc sm : Int64) (μc μm μc' μm' : mm_mu), JX ε (mix μc μm) tn gn a p dy ln sz m → mLaw μm = lw → μm 56 29 = lot → 0 < tn → dy a + k ≤ 999 → CY lw tn gn lot k p a (dy a) s μc sc μc' → MY tn gn lot k a (min (dy a) 60) s μm sm μm' → J ε (mix μc' μm') ∧ μm' 72 20 = nI (dy a + k)
  | 0, p, a, dy, s, sc, sm, μc, μm, μc', μm', h, hlw, hlo, ht0, hD, hc, hm => by
    rw [show μc' = μc from hc.2, show μm' = μm from hm.2]
    exact ⟨⟨_, _, _, _, _, _, _, _, h⟩, h.2.1.1.2.2.2.2.2.2.1⟩
  | k + 1, p, a, dy, s, sc, sm, μc, μm, μc', μm', h, hlw, hlo, ht0, hD, hc, hm => by
    obtain ⟨μc1, μb, μc2, hck, hcw, hcd, hci⟩ := hc
    obtain ⟨μm1, μn, μm2, hmk, hmw, hmd, hmi⟩ := hm
    have hg5 := h.1.2.1
    have hg0 := h.1.2.2.1 ht0
    have hlo1 : μm1 56 29 = lot := by rw [hmk.1.2 29 (by decide)]; exact hlo
    have hR1 : RW gn (csv μc1 24) (μm1 72) (μc 42) (dy a) := by
      have := h.2.1.1
      have e1 : csv (mix μc μm) 24 = csv μc1 24 := (csv_of (hck.1 24 (by decide)) (hck.1 25 (by decide)) (hck.1 26 (by decide)) (hck.1 27 (by decide))).symm
      have e2 : mix μc μm 72 = μm1 72 := (hmk.1.at (by decide)).symm
      rw [e1, e2] at this
      exact this
    have hR := hR1.draw hg5 hg0 hcw (by rw [← hlo1]; exact hmw.2)
    have hmo : OffF [72] [] μm1 μn := hmw.1.F (by decide)
    obtain ⟨⟨dy', hJ', hdy'⟩, hlw'⟩ := pair_step h hlw ht0 hck hmk hcw.1 hmo hR hcd hmd (by omega)
    have hlo2 : μm2 56 29 = lot := by rw [hmd.choose_spec.2.1.2 29 (by decide), hmo.2 29 (by decide)]; exact hlo1
    have hln : lnum (min (dy a) 60) = min (dy' (knum a)) 60 := by rw [hdy']; unfold lnum; split <;> omega
    rw [hln] at hmi
    rw [← hdy'] at hci
    have := CY_MY k ((p + 1) % 40) (knum a) dy' _ sc sm μc2 μm2 μc' μm' hJ' hlw' hlo2 ht0 (by omega) hci hmi
    rw [hdy', show dy a + 1 + k = dy a + (k + 1) by omega] at this
    exact this
theorem CY_off : ∀ (k p a D : Nat) (s s' : Int64) (μ μ' : mm_mu), CY lw tn gn lot k p a D s μ s' μ' → Off (25 :: 40 :: 41 :: cW) μ μ'
  | 0, _, _, _, s, s', μ, μ', h => by rw [show μ' = μ from h.2]; exact Off.rf
  | k + 1, p, a, D, s, s', μ, μ', h => by
    obtain ⟨μ1, μ2, μ3, h1, h2, h3, h4⟩ := h
    have := CY_off k _ _ _ _ _ μ3 μ' h4
    exact (((h1.1.mono (by simp)).tr (h2.1.mono (by simp))).tr (h3.choose_spec.2.1.mono (by intro c hc; exact List.mem_cons_of_mem _ (List.mem_cons_of_mem _ (List.mem_cons_of_mem _ hc))))).tr this
theorem MY_off : ∀ (k a n : Nat) (s s' : Int64) (μ μ' : mm_mu), MY tn gn lot k a n s μ s' μ' → OffF [78, 72, 65, 66, 74, 75, 76, 77] [39, 34, 35, 36, 37] μ μ'
  | 0, _, _, s, s', μ, μ', h => by rw [show μ' = μ from h.2]; exact OffF.rf
  | k + 1, a, n, s, s', μ, μ', h => by
    obtain ⟨μ1, μ2, μ3, h1, h2, h3, h4⟩ := h
    have := MY_off k _ _ _ _ μ3 μ' h4
    exact (((h1.1.mono (by simp) (by simp)).tr ((h2.1.F (fl := []) (by decide)).mono (by simp) (by simp))).tr (h3.choose_spec.2.1.mono (by simp) (by simp))).tr this
theorem CP_lg {k : Nat} {v : Int64} (h : CP ε μ lw tn gn D) : CP (va_up ε.1 k v, ε.2) μ lw tn gn D := h
theorem HP_lgg {k : Nat} {v w : Int64} : HP (va_up (va_up ε.1 k v, ε.2).1 k w, (va_up ε.1 k v, ε.2).2) μ = HP (va_up ε.1 k w, ε.2) μ := by
  show HP (va_up (va_up ε.1 k v) k w, ε.2) μ = _
  rw [vaup2]
theorem lg_at {k : Nat} {v : Int64} : ((va_up ε.1 k v, ε.2) : mm_X).1 k = v := lgs
theorem c_yrLoop {n : Nat} (hn : n ≤ 60) (ht0 : 0 < tn) (hg0 : 0 < gn) : ∀ (k i p a D : Nat) (s : Int64) (ε : mm_X) (μ : mm_mu) (y : Value), i + k = n → ε.1 0 = s → μ 0 7 = lot → CP ε μ lw tn gn D → PA μ p a → D + k ≤ 999 → (∀ s' μ', CY lw tn gn lot k p a D s μ s' μ' → Q (some (.int (nI (D + k)))) (HP (va_up ε.1 0 s', ε.2) μ')) → G0 (d + 7) mX11_years Q 46 [.ref 0, .int (nI n), y, .null, .int (nI i)] [] (HP ε μ) := by
  intro k
  induction k with
  | zero =>
    intro i p a D s ε μ y hi hs hlo hc hp hD hQ
    rw [Nat.add_zero] at hi hQ
    subst hi
    have := hQ s μ ⟨rfl, rfl⟩
    have e : va_up ε.1 0 s = ε.1 := by
      funext j
      simp only [va_up]
      split
      · rename_i hj; rw [hj, hs]
      · rfl
    rw [e] at this
    refine mw_ok (M := mX11_years) (fun q => q == 46) okTX11 rfl 20 _ _ _ _ ?_
    simp only [eX11_years_0, eX11_years_1, eX11_years_4, eX11_years_7, eX11_years_8, eX11_years_9, eX11_years_12, eX11_years_13, eX11_years_15, eX11_years_18, eX11_years_19, eX11_years_22, eX11_years_25, eX11_years_28, eX11_years_29, eX11_years_30, eX11_years_33, eX11_years_36, eX11_years_37, eX11_years_38, eX11_years_39, eX11_years_40, eX11_years_43, eX11_years_44, eX11_years_46, eX11_years_48, eX11_years_49, eX11_years_52, eX11_years_53, eX11_years_56, eX11_years_57, eX11_years_60, eX11_years_63, eX11_years_66, eX11_years_67, eX11_years_70, eX11_years_71, eX11_years_74, eX11_years_77, eX11_years_80, eX11_years_81, eX11_years_84, eX11_years_87, eX11_years_90, st_aload, st_goto, st_iadd, st_iconst, st_if_eq, st_if_ne, st_if_lt, st_if_ge, st_if_gt, st_if_le, st_ic_eq, st_ic_ne, st_ic_lt, st_ic_ge, st_ic_gt, st_ic_le, st_iinc, st_iload, st_inv, st_iret, st_zret, st_bret, st_istore, st_lload, gf_17_401, gf_10_805, gf_24_805, gf_28_805, gf_0_1103, gf_0_1110, HP_0, HP_40, tab_50, tab_107, tab_119, tab_120, mm_cut, cond_false, cond_true, List.getElem?_cons_succ, List.getElem?_cons_zero, Int.reduceToNat, Nat.reduceMod, Nat.reduceDiv, Nat.reduceAdd, true_and, and_true, mm_set, mm_set2, mm_pop, List.length_cons, List.length_nil, Nat.reduceLeDiff, Int32.reduceOfInt, Int64.reduceOfInt, nar_b0, nar_b1, List.cons_append, List.nil_append, Option.toList_some, Option.toList_none, List.map_cons, List.map_nil, List.sum_cons, List.sum_nil, cat_i, cat_r, cat_l, Nat.zero_le, Int32.reduceOfNat, Int32.reduceAdd, Int32.reduceLT, Int32.reduceLE, forall_const, true_implies, false_implies, not_false_eq_true, not_true_eq_false, bi_eq0, bi_ne0, sl_0, sl_3, va_rf, Nat.reduceEqDiff, if_false, ite_false, ite_true, reduceIte, List.set_cons_zero, List.set_cons_succ, Nat.succ_eq_add_one, mup_c, mup_s, mw_zero, ne_eq, lit_10, lit_01, lit_m10, lit_m11, nar_bi, leT (Nat.le_refl i) (show i < 2147483648 by omega), hc.2.2.2.2.2.2, Nat.reduceBEq, Bool.or_false, Bool.false_or, Bool.or_true, Bool.true_or]
    exact this
  | succ k ih =>
    intro i p a D s ε μ y hi hs hlo hc hp hD hQ
    refine mw_ok (M := mX11_years) (fun q => q == 46) okTX11 rfl 20 _ _ _ _ ?_
    simp only [eX11_years_0, eX11_years_1, eX11_years_4, eX11_years_7, eX11_years_8, eX11_years_9, eX11_years_12, eX11_years_13, eX11_years_15, eX11_years_18, eX11_years_19, eX11_years_22, eX11_years_25, eX11_years_28, eX11_years_29, eX11_years_30, eX11_years_33, eX11_years_36, eX11_years_37, eX11_years_38, eX11_years_39, eX11_years_40, eX11_years_43, eX11_years_44, eX11_years_46, eX11_years_48, eX11_years_49, eX11_years_52, eX11_years_53, eX11_years_56, eX11_years_57, eX11_years_60, eX11_years_63, eX11_years_66, eX11_years_67, eX11_years_70, eX11_years_71, eX11_years_74, eX11_years_77, eX11_years_80, eX11_years_81, eX11_years_84, eX11_years_87, eX11_years_90, st_aload, st_goto, st_iadd, st_iconst, st_if_eq, st_if_ne, st_if_lt, st_if_ge, st_if_gt, st_if_le, st_ic_eq, st_ic_ne, st_ic_lt, st_ic_ge, st_ic_gt, st_ic_le, st_iinc, st_iload, st_inv, st_iret, st_zret, st_bret, st_istore, st_lload, gf_17_401, gf_10_805, gf_24_805, gf_28_805, gf_0_1103, gf_0_1110, HP_0, HP_40, tab_50, tab_107, tab_119, tab_120, mm_cut, cond_false, cond_true, List.getElem?_cons_succ, List.getElem?_cons_zero, Int.reduceToNat, Nat.reduceMod, Nat.reduceDiv, Nat.reduceAdd, true_and, and_true, mm_set, mm_set2, mm_pop, List.length_cons, List.length_nil, Nat.reduceLeDiff, Int32.reduceOfInt, Int64.reduceOfInt, nar_b0, nar_b1, List.cons_append, List.nil_append, Option.toList_some, Option.toList_none, List.map_cons, List.map_nil, List.sum_cons, List.sum_nil, cat_i, cat_r, cat_l, Nat.zero_le, Int32.reduceOfNat, Int32.reduceAdd, Int32.reduceLT, Int32.reduceLE, forall_const, true_implies, false_implies, not_false_eq_true, not_true_eq_false, bi_eq0, bi_ne0, sl_0, sl_3, va_rf, Nat.reduceEqDiff, if_false, ite_false, ite_true, reduceIte, List.set_cons_zero, List.set_cons_succ, Nat.succ_eq_add_one, mup_c, mup_s, mw_zero, ne_eq, lit_10, lit_01, lit_m10, lit_m11, nar_bi, leF (show i < n by omega) (show n < 2147483648 by omega), Nat.reduceBEq, Bool.or_false, Bool.false_or, Bool.or_true, Bool.true_or]
    refine c_keepK hp ?_
    intro μ1 hk1
    have hc1 := hc.keep hk1
    have hlo1 : μ1 0 7 = lot := by rw [hk1.1 0 (by decide)]; exact hlo
    refine mw_ok (M := mX11_years) (fun q => q == 46) okTX11 rfl 20 _ _ _ _ ?_
    simp only [eX11_years_0, eX11_years_1, eX11_years_4, eX11_years_7, eX11_years_8, eX11_years_9, eX11_years_12, eX11_years_13, eX11_years_15, eX11_years_18, eX11_years_19, eX11_years_22, eX11_years_25, eX11_years_28, eX11_years_29, eX11_years_30, eX11_years_33, eX11_years_36, eX11_years_37, eX11_years_38, eX11_years_39, eX11_years_40, eX11_years_43, eX11_years_44, eX11_years_46, eX11_years_48, eX11_years_49, eX11_years_52, eX11_years_53, eX11_years_56, eX11_years_57, eX11_years_60, eX11_years_63, eX11_years_66, eX11_years_67, eX11_years_70, eX11_years_71, eX11_years_74, eX11_years_77, eX11_years_80, eX11_years_81, eX11_years_84, eX11_years_87, eX11_years_90, st_aload, st_goto, st_iadd, st_iconst, st_if_eq, st_if_ne, st_if_lt, st_if_ge, st_if_gt, st_if_le, st_ic_eq, st_ic_ne, st_ic_lt, st_ic_ge, st_ic_gt, st_ic_le, st_iinc, st_iload, st_inv, st_iret, st_zret, st_bret, st_istore, st_lload, gf_17_401, gf_10_805, gf_24_805, gf_28_805, gf_0_1103, gf_0_1110, HP_0, HP_40, tab_50, tab_107, tab_119, tab_120, mm_cut, cond_false, cond_true, List.getElem?_cons_succ, List.getElem?_cons_zero, Int.reduceToNat, Nat.reduceMod, Nat.reduceDiv, Nat.reduceAdd, true_and, and_true, mm_set, mm_set2, mm_pop, List.length_cons, List.length_nil, Nat.reduceLeDiff, Int32.reduceOfInt, Int64.reduceOfInt, nar_b0, nar_b1, List.cons_append, List.nil_append, Option.toList_some, Option.toList_none, List.map_cons, List.map_nil, List.sum_cons, List.sum_nil, cat_i, cat_r, cat_l, Nat.zero_le, Int32.reduceOfNat, Int32.reduceAdd, Int32.reduceLT, Int32.reduceLE, forall_const, true_implies, false_implies, not_false_eq_true, not_true_eq_false, bi_eq0, bi_ne0, sl_0, sl_3, va_rf, Nat.reduceEqDiff, if_false, ite_false, ite_true, reduceIte, List.set_cons_zero, List.set_cons_succ, Nat.succ_eq_add_one, mup_c, mup_s, mw_zero, ne_eq, lit_10, lit_01, lit_m10, lit_m11, nar_bi, Nat.reduceBEq, Bool.or_false, Bool.false_or, Bool.or_true, Bool.true_or]
    refine c_drawAhead hc1.1 hc1.2.1 ht0 hc1.2.2.1 hc1.2.2.2.1 hg0 ?_
    intro μ2 hw2
    rw [hs, hlo1] at hw2
    rw [hs, hlo1]
    have hc2 : CP (va_up ε.1 0 (dS s lot), ε.2) μ2 lw tn gn D := CP_lg (hc1.draw hg0 hw2)
    refine mw_ok (M := mX11_years) (fun q => q == 46) okTX11 rfl 20 _ _ _ _ ?_
    simp only [eX11_years_0, eX11_years_1, eX11_years_4, eX11_years_7, eX11_years_8, eX11_years_9, eX11_years_12, eX11_years_13, eX11_years_15, eX11_years_18, eX11_years_19, eX11_years_22, eX11_years_25, eX11_years_28, eX11_years_29, eX11_years_30, eX11_years_33, eX11_years_36, eX11_years_37, eX11_years_38, eX11_years_39, eX11_years_40, eX11_years_43, eX11_years_44, eX11_years_46, eX11_years_48, eX11_years_49, eX11_years_52, eX11_years_53, eX11_years_56, eX11_years_57, eX11_years_60, eX11_years_63, eX11_years_66, eX11_years_67, eX11_years_70, eX11_years_71, eX11_years_74, eX11_years_77, eX11_years_80, eX11_years_81, eX11_years_84, eX11_years_87, eX11_years_90, st_aload, st_goto, st_iadd, st_iconst, st_if_eq, st_if_ne, st_if_lt, st_if_ge, st_if_gt, st_if_le, st_ic_eq, st_ic_ne, st_ic_lt, st_ic_ge, st_ic_gt, st_ic_le, st_iinc, st_iload, st_inv, st_iret, st_zret, st_bret, st_istore, st_lload, gf_17_401, gf_10_805, gf_24_805, gf_28_805, gf_0_1103, gf_0_1110, HP_0, HP_40, tab_50, tab_107, tab_119, tab_120, mm_cut, cond_false, cond_true, List.getElem?_cons_succ, List.getElem?_cons_zero, Int.reduceToNat, Nat.reduceMod, Nat.reduceDiv, Nat.reduceAdd, true_and, and_true, mm_set, mm_set2, mm_pop, List.length_cons, List.length_nil, Nat.reduceLeDiff, Int32.reduceOfInt, Int64.reduceOfInt, nar_b0, nar_b1, List.cons_append, List.nil_append, Option.toList_some, Option.toList_none, List.map_cons, List.map_nil, List.sum_cons, List.sum_nil, cat_i, cat_r, cat_l, Nat.zero_le, Int32.reduceOfNat, Int32.reduceAdd, Int32.reduceLT, Int32.reduceLE, forall_const, true_implies, false_implies, not_false_eq_true, not_true_eq_false, bi_eq0, bi_ne0, sl_0, sl_3, va_rf, Nat.reduceEqDiff, if_false, ite_false, ite_true, reduceIte, List.set_cons_zero, List.set_cons_succ, Nat.succ_eq_add_one, mup_c, mup_s, mw_zero, ne_eq, lit_10, lit_01, lit_m10, lit_m11, nar_bi, Nat.reduceBEq, Bool.or_false, Bool.false_or, Bool.or_true, Bool.true_or]
    refine c_driveOnce (ε := (va_up ε.1 0 (dS s lot), ε.2)) (lw := lw) (tn := tn) (gn := gn) (D := D) hc2 (by omega) ?_
    intro μ3 hd3
    have hc3 : CP (va_up ε.1 0 (dS s lot), ε.2) μ3 lw tn gn (D + 1) := hc2.drive hd3
    have hp3 : PA μ3 ((p + 1) % 40) (knum a) := (hk1.2.1.off hw2.1 (by decide)).off hd3.choose_spec.2.1 (by decide)
    have hlo3 : μ3 0 7 = lot := by rw [hd3.choose_spec.2.1 0 (by decide), hw2.1 0 (by decide)]; exact hlo1
    refine mw_ok (M := mX11_years) (fun q => q == 46) okTX11 rfl 20 _ _ _ _ ?_
    simp only [eX11_years_0, eX11_years_1, eX11_years_4, eX11_years_7, eX11_years_8, eX11_years_9, eX11_years_12, eX11_years_13, eX11_years_15, eX11_years_18, eX11_years_19, eX11_years_22, eX11_years_25, eX11_years_28, eX11_years_29, eX11_years_30, eX11_years_33, eX11_years_36, eX11_years_37, eX11_years_38, eX11_years_39, eX11_years_40, eX11_years_43, eX11_years_44, eX11_years_46, eX11_years_48, eX11_years_49, eX11_years_52, eX11_years_53, eX11_years_56, eX11_years_57, eX11_years_60, eX11_years_63, eX11_years_66, eX11_years_67, eX11_years_70, eX11_years_71, eX11_years_74, eX11_years_77, eX11_years_80, eX11_years_81, eX11_years_84, eX11_years_87, eX11_years_90, st_aload, st_goto, st_iadd, st_iconst, st_if_eq, st_if_ne, st_if_lt, st_if_ge, st_if_gt, st_if_le, st_ic_eq, st_ic_ne, st_ic_lt, st_ic_ge, st_ic_gt, st_ic_le, st_iinc, st_iload, st_inv, st_iret, st_zret, st_bret, st_istore, st_lload, gf_17_401, gf_10_805, gf_24_805, gf_28_805, gf_0_1103, gf_0_1110, HP_0, HP_40, tab_50, tab_107, tab_119, tab_120, mm_cut, cond_false, cond_true, List.getElem?_cons_succ, List.getElem?_cons_zero, Int.reduceToNat, Nat.reduceMod, Nat.reduceDiv, Nat.reduceAdd, true_and, and_true, mm_set, mm_set2, mm_pop, List.length_cons, List.length_nil, Nat.reduceLeDiff, Int32.reduceOfInt, Int64.reduceOfInt, nar_b0, nar_b1, List.cons_append, List.nil_append, Option.toList_some, Option.toList_none, List.map_cons, List.map_nil, List.sum_cons, List.sum_nil, cat_i, cat_r, cat_l, Nat.zero_le, Int32.reduceOfNat, Int32.reduceAdd, Int32.reduceLT, Int32.reduceLE, forall_const, true_implies, false_implies, not_false_eq_true, not_true_eq_false, bi_eq0, bi_ne0, sl_0, sl_3, va_rf, Nat.reduceEqDiff, if_false, ite_false, ite_true, reduceIte, List.set_cons_zero, List.set_cons_succ, Nat.succ_eq_add_one, mup_c, mup_s, mw_zero, ne_eq, lit_10, lit_01, lit_m10, lit_m11, nar_bi, nI_1, Nat.reduceBEq, Bool.or_false, Bool.false_or, Bool.or_true, Bool.true_or]
    refine ih (i + 1) _ _ (D + 1) (dS s lot) (va_up ε.1 0 (dS s lot), ε.2) μ3 y (by omega) lg_at hlo3 hc3 hp3 (by omega) ?_
    intro s' μ' hci
    rw [show D + 1 + k = D + (k + 1) by omega, HP_lgg]
    exact hQ s' μ' ⟨μ1, μ2, μ3, hk1, hw2, hd3, hci⟩
theorem J_lg {k : Nat} {v : Int64} (h : J ε μ) : J (va_up ε.1 k v, ε.2) μ := h
set_option maxRecDepth 4000 in
theorem p_years {x : Int32} {s0 : Int64} (hJ : JX ε μ tn gn a p dy ln sz m) : Pr mX11_years mX12_years [.int x, .long s0] ε μ := by
  have hj : J ε μ := ⟨_, _, _, _, _, _, _, _, hJ⟩
  have hA := hJ.2.1
  obtain ⟨ht7, hg5, htg, h18, h18', h56, h56', hth⟩ := hJ.1
  have hR := hA.1
  have hL := hJ.2.2.2.1.lw
  have h20 := hR.2.2.2.2.2.2.1
  have hlg : LG (μ 72) (min (dy a) 60) (mlog (μ 72)) := ⟨hR.2.2.2.2.2.2.2.1, by omega, fun _ _ _ _ => rfl⟩
  have h3 := hR.2.2.1
  rw [csv_lo (by decide), csv_lo (by decide), csv_lo (by decide)] at h3
  have hD := hR.2.2.2.2.2.1
  have hz : (nI tn = 0) = (tn = 0) := propext (nI_eq (b := 0) (by omega) (by decide))
  have ref : wDriv (nI tn) x (μ 72 20) ≠ -1 → B0 100 mX12_years [.ref 56, .int x, .long s0] (HP ε μ) (fun w h' => ∃ x ε' μ', some (Value.int (-1)) = some (.int x) ∧ w = some (.int x) ∧ h' = HP ε' μ' ∧ J ε' μ') := by
    intro hw
    exact m_years (a := a) (tn := tn) (gn := gn) (n := min (dy a) 60) h56 ht7 h56' htg hg5 hL.1 ⟨hA.2.2.1, hA.2.1.2.2.2, fun _ _ _ _ => rfl⟩ hlg (fun _ => PE.mk rfl hj) (fun hw' => absurd hw' hw)
  unfold Pr
  refine b0_of_G0 (lv := [.ref 0, .int x, .long s0, .null, .null]) (by decide +kernel) (Nat.le_of_ble_eq_true rfl) rfl ?_
  refine mw_ok (M := mX11_years) (fun _ => false) okTX11 rfl 20 _ _ _ _ ?_
  simp only [eX11_years_0, eX11_years_1, eX11_years_4, eX11_years_7, eX11_years_8, eX11_years_9, eX11_years_12, eX11_years_13, eX11_years_15, eX11_years_18, eX11_years_19, eX11_years_22, eX11_years_25, eX11_years_28, eX11_years_29, eX11_years_30, eX11_years_33, eX11_years_36, eX11_years_37, eX11_years_38, eX11_years_39, eX11_years_40, eX11_years_43, eX11_years_44, eX11_years_46, eX11_years_48, eX11_years_49, eX11_years_52, eX11_years_53, eX11_years_56, eX11_years_57, eX11_years_60, eX11_years_63, eX11_years_66, eX11_years_67, eX11_years_70, eX11_years_71, eX11_years_74, eX11_years_77, eX11_years_80, eX11_years_81, eX11_years_84, eX11_years_87, eX11_years_90, st_aload, st_goto, st_iadd, st_iconst, st_if_eq, st_if_ne, st_if_lt, st_if_ge, st_if_gt, st_if_le, st_ic_eq, st_ic_ne, st_ic_lt, st_ic_ge, st_ic_gt, st_ic_le, st_iinc, st_iload, st_inv, st_iret, st_zret, st_bret, st_istore, st_lload, gf_17_401, gf_10_805, gf_24_805, gf_28_805, gf_0_1103, gf_0_1110, HP_0, HP_40, tab_50, tab_107, tab_119, tab_120, mm_cut, cond_false, cond_true, List.getElem?_cons_succ, List.getElem?_cons_zero, Int.reduceToNat, Nat.reduceMod, Nat.reduceDiv, Nat.reduceAdd, true_and, and_true, mm_set, mm_set2, mm_pop, List.length_cons, List.length_nil, Nat.reduceLeDiff, Int32.reduceOfInt, Int64.reduceOfInt, nar_b0, nar_b1, List.cons_append, List.nil_append, Option.toList_some, Option.toList_none, List.map_cons, List.map_nil, List.sum_cons, List.sum_nil, cat_i, cat_r, cat_l, Nat.zero_le, Int32.reduceOfNat, Int32.reduceAdd, Int32.reduceLT, Int32.reduceLE, forall_const, true_implies, false_implies, not_false_eq_true, not_true_eq_false, bi_eq0, bi_ne0, sl_0, sl_3, va_rf, Nat.reduceEqDiff, if_false, ite_false, ite_true, reduceIte, List.set_cons_zero, List.set_cons_succ, Nat.succ_eq_add_one, mup_c, mup_s, mw_zero, ne_eq, lit_10, lit_01, lit_m10, lit_m11, nar_bi]
  refine c_hasE h18 ht7 ?_
  refine mw_ok (M := mX11_years) (fun q => q == 46) okTX11 rfl 40 _ _ _ _ ?_
  simp only [eX11_years_0, eX11_years_1, eX11_years_4, eX11_years_7, eX11_years_8, eX11_years_9, eX11_years_12, eX11_years_13, eX11_years_15, eX11_years_18, eX11_years_19, eX11_years_22, eX11_years_25, eX11_years_28, eX11_years_29, eX11_years_30, eX11_years_33, eX11_years_36, eX11_years_37, eX11_years_38, eX11_years_39, eX11_years_40, eX11_years_43, eX11_years_44, eX11_years_46, eX11_years_48, eX11_years_49, eX11_years_52, eX11_years_53, eX11_years_56, eX11_years_57, eX11_years_60, eX11_years_63, eX11_years_66, eX11_years_67, eX11_years_70, eX11_years_71, eX11_years_74, eX11_years_77, eX11_years_80, eX11_years_81, eX11_years_84, eX11_years_87, eX11_years_90, st_aload, st_goto, st_iadd, st_iconst, st_if_eq, st_if_ne, st_if_lt, st_if_ge, st_if_gt, st_if_le, st_ic_eq, st_ic_ne, st_ic_lt, st_ic_ge, st_ic_gt, st_ic_le, st_iinc, st_iload, st_inv, st_iret, st_zret, st_bret, st_istore, st_lload, gf_17_401, gf_10_805, gf_24_805, gf_28_805, gf_0_1103, gf_0_1110, HP_0, HP_40, tab_50, tab_107, tab_119, tab_120, mm_cut, cond_false, cond_true, List.getElem?_cons_succ, List.getElem?_cons_zero, Int.reduceToNat, Nat.reduceMod, Nat.reduceDiv, Nat.reduceAdd, true_and, and_true, mm_set, mm_set2, mm_pop, List.length_cons, List.length_nil, Nat.reduceLeDiff, Int32.reduceOfInt, Int64.reduceOfInt, nar_b0, nar_b1, List.cons_append, List.nil_append, Option.toList_some, Option.toList_none, List.map_cons, List.map_nil, List.sum_cons, List.sum_nil, cat_i, cat_r, cat_l, Nat.zero_le, Int32.reduceOfNat, Int32.reduceAdd, Int32.reduceLT, Int32.reduceLE, forall_const, true_implies, false_implies, not_false_eq_true, not_true_eq_false, bi_eq0, bi_ne0, sl_0, sl_3, va_rf, Nat.reduceEqDiff, if_false, ite_false, ite_true, reduceIte, List.set_cons_zero, List.set_cons_succ, Nat.succ_eq_add_one, mup_c, mup_s, mw_zero, ne_eq, lit_10, lit_01, lit_m10, lit_m11, nar_bi, h3.2.2, pfL_0, Nat.reduceBEq, Bool.or_false, Bool.false_or, Bool.or_true, Bool.true_or]
  refine ⟨fun h1 => ?_, fun h1 => ?_⟩
  · exact ref (by unfold wDriv; rw [if_pos (by rw [hz]; omega)]; decide)
  · have h1 := Classical.not_not.mp h1
    have hz0 : ¬ nI tn = 0 := by rw [hz]; omega
    have bad : ¬ (1 ≤ x ∧ x ≤ 60) → _ := fun hb => ref (by unfold wDriv; rw [if_neg hz0, if_pos hb]; decide)
    refine ⟨fun q => bad (by simp only [Int32.le_iff_toInt_le, Int32.lt_iff_toInt_lt, ← Int32.toInt_inj, Int32.reduceToInt, ne_eq] at *; omega), fun q1 => ⟨fun q => bad (by simp only [Int32.le_iff_toInt_le, Int32.lt_iff_toInt_lt, ← Int32.toInt_inj, Int32.reduceToInt, ne_eq] at *; omega), fun q2 => ?_⟩⟩
    have q : 1 ≤ x ∧ x ≤ 60 := ⟨(by simp only [Int32.le_iff_toInt_le, Int32.lt_iff_toInt_lt, ← Int32.toInt_inj, Int32.reduceToInt, ne_eq] at *; omega), (by simp only [Int32.le_iff_toInt_le, Int32.lt_iff_toInt_lt, ← Int32.toInt_inj, Int32.reduceToInt, ne_eq] at *; omega)⟩
    obtain ⟨k, hk, hxk⟩ := ix9 (x := x) (n := 60) (m := 60) rfl ⟨(by simp only [Int32.le_iff_toInt_le, Int32.lt_iff_toInt_lt, ← Int32.toInt_inj, Int32.reduceToInt, ne_eq] at *; omega), q.2⟩
    have hlast : wDriv (nI tn) x (μ 72 20) = if ¬ (nI (dy a + k) ≤ 999) then 4 else -1 := by
      unfold wDriv
      rw [if_neg hz0, if_neg (fun z => z q), h20, hxk, nI_add]
    rw [h20, hxk, nI_add]
    refine ⟨fun q3 => ?_, fun q3 => ?_⟩
    · have hk9 : dy a + k ≤ 999 := (nI_leI (b := 999) (by omega) (by decide)).mp q3
      refine c_yrLoop (d := 93) (lot := μ 0 7) (lw := mLaw μ) hk h1 (htg h1) k 0 p a (dy a) s0 (va_up ε.1 0 s0, ε.2) μ _ (by omega) lg_at rfl (CP_lg (hJ.CP h1)) hA.2.1 hk9 ?_
      intro s' μ1 hci
      have ho1 := CY_off k p a (dy a) s0 s' μ μ1 hci
      have e56 : μ1 56 = μ 56 := ho1 56 (by decide)
      have e72 : μ1 72 = μ 72 := ho1 72 (by decide)
      rw [← hxk]
      have hw : wDriv (nI tn) x (μ 72 20) = -1 := by rw [hlast, if_neg (fun z => z q3)]
      have hkr : KR μ1 a (mrow μ1) := (KR_off hA ho1 (by decide) (by decide)).row
      rw [HP_lgg]
      refine m_years (a := a) (tn := tn) (gn := gn) (n := min (dy a) 60) (by rw [e56]; exact h56) ht7 (by rw [e56]; exact h56') htg hg5 (okHold_F (ho1.F (fl := []) (by decide)) (by intro c h1 h2; simp; omega) (by decide) hL.1) hkr (by rw [e72]; exact hlg) (fun hw' => ?_) (fun _ k' s2 μ2 hk' hxk' hmi => ?_)
      · rw [e72] at hw'
        exact absurd hw hw'
      · have : k = k' := (nI_eq (by omega) (by omega)).mp (hxk.symm.trans hxk')
        subst this
        have hml : mLaw μ1 = mLaw μ := mLaw_F (ho1.F (fl := []) (by decide)) (by intro c h1 h2; simp; omega) (by decide)
        have hmx : mix μ μ1 = μ := by
          funext c
          unfold mix
          split
          · rename_i hc; exact ho1 c (by simp; omega)
          · rfl
        have hlo : μ1 56 29 = μ 0 7 := by rw [e56]; exact hJ.2.2.2.2.2.2.1.symm
        rw [hlo] at hmi
        obtain ⟨hj, hday⟩ := CY_MY k p a dy s0 s' s2 μ μ1 μ1 μ2 (by rw [hmx]; exact hJ) hml hlo h1 hk9 hci hmi
        rw [mix_final (l := []) (MY_off _ _ _ _ _ _ _ hmi) (by decide)] at hj
        exact PE.mk hday.symm (J_lg (J_lg hj))
    · rw [← hxk]
      refine ref ?_
      rw [hlast, if_pos q3]; decide
end P5
