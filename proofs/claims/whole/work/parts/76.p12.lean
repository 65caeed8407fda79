/-! PAIRS: the best line, the best peg, games -/
/-- the first of the greatest, as the class finds it -/
def cm (F : Nat → Int32 × Int32) : Nat → Int32 × Int32
  | 0 => (-1, -1)
  | k + 1 => if (cm F k).2 < (F k).2 then F k else cm F k
theorem cm_row {F : Nat → Int32 × Int32} {ρ : Nat → Nat} (h1 : ∀ f, (F f).1 = nI (ρ f)) (hv : ∀ f, 0 ≤ (F f).2) : ∀ k, 0 < k → ∃ f, f < k ∧ (cm F k).1 = nI (ρ f)
  | 0, h => by omega
  | k + 1, _ => by
    rw [cm]
    split
    · exact ⟨k, by omega, h1 k⟩
    · rename_i hn
      rcases Nat.eq_zero_or_pos k with hk | hk
      · subst hk
        exfalso
        have := hv 0
        have e : (cm F 0).2 = -1 := rfl
        rw [e] at hn
        simp only [Int32.le_iff_toInt_le, Int32.lt_iff_toInt_lt, Int32.reduceToInt] at *
        omega
      · obtain ⟨f, q1, q2⟩ := cm_row h1 hv k hk
        exact ⟨f, by omega, q2⟩
theorem trN_cm {F : Nat → Int32 × Int32} {ρ : Nat → Nat} {z : Int32} (h1 : ∀ f, (F f).1 = nI (ρ f)) (hm : ∀ f g, f < g → ρ f < ρ g) (N : Nat) (hb : ∀ f, f < N → ρ f < 100000) (hv : ∀ f, 0 ≤ (F f).2) : ∀ k, 0 < k → k ≤ N → trN false F (-1, z) k = cm F k
  | 0, h, _ => by omega
  | k + 1, _, hN => by
    rw [trN, cm]
    rcases Nat.eq_zero_or_pos k with hk | hk
    · subst hk
      have e : (cm F 0).2 < (F 0).2 := by
        have := hv 0
        show (-1 : Int32) < (F 0).2
        simp only [Int32.le_iff_toInt_le, Int32.lt_iff_toInt_lt, Int32.reduceToInt] at *
        omega
      rw [if_pos e, trN, tr, if_pos (Or.inl rfl)]
    · rw [trN_cm h1 hm N hb hv k hk (by omega)]
      obtain ⟨f, q1, q2⟩ := cm_row h1 hv k hk
      unfold tr
      have n1 : ¬ (cm F k).1 = -1 := by rw [q2]; exact nI_nm (hb f (by omega))
      have n3 : ¬ (F k).1 < (cm F k).1 := by rw [h1, q2]; exact nI_nlt (Nat.le_of_lt (hm f k q1)) (by have := hb k (by omega); omega)
      by_cases h : (cm F k).2 < (F k).2
      · rw [if_pos h, if_pos (Or.inr (Or.inl (by simpa using h)))]
      · rw [if_neg h, if_neg]
        exact fun z => z.elim n1 (fun z => z.elim (fun z => h (by simpa using z)) (fun z => n3 z.2))
/-- a season beside a row, but for the line -/
def SB' (gn : Nat) (μ : mm_mu) (s : Nat) (now : Nat → Int32) : Prop := (∀ g, g < gn → μ (s + 1) g = now g ∧ μ (s + 2) g = now (5 + g)) ∧ μ s 0 = now 15 ∧ μ s 4 = now 18
section P12
variable {d : Nat} {ε : mm_X} {μ : mm_mu} {Q : mm_Q0} {h : mm_H} {tn gn a p ln sz m : Nat} {dy : Nat → Nat} {now : Nat → Int32}
theorem SB.w (h : SB gn μ 28 now) : SB' gn μ 28 now := ⟨h.1, h.2.1, h.2.2.2.2⟩
theorem SB'.line {x y : Int32} (h : SB' gn μ 28 now) (hg5 : gn ≤ 5) : SB gn (mup (mup μ 28 2 x) 28 3 y) 28 (upd (upd now 16 x) 17 y) := by
  obtain ⟨h1, h2, h3⟩ := h
  refine ⟨fun g hg => ?_, ?_, ?_, ?_, ?_⟩
  · rw [mup_c (by decide), mup_c (by decide), mup_c (by decide), mup_c (by decide), un (by omega), un (by omega), un (by omega), un (by omega)]; exact h1 g hg
  · rw [mup_s, if_neg (by decide), mup_s, if_neg (by decide), un (by decide), un (by decide)]; exact h2
  · rw [mup_s, if_neg (by decide), mup_s, if_pos rfl, un (by decide), us]
  · rw [mup_s, if_pos rfl, us]
  · rw [mup_s, if_neg (by decide), mup_s, if_neg (by decide), un (by decide), un (by decide)]; exact h3
theorem SB'.unl {x y : Int32} (h : SB' gn μ 28 now) : SB' gn (mup (mup μ 28 2 x) 28 3 y) 28 now := by
  obtain ⟨h1, h2, h3⟩ := h
  refine ⟨fun g hg => ?_, ?_, ?_⟩
  · rw [mup_c (by decide), mup_c (by decide), mup_c (by decide), mup_c (by decide)]; exact h1 g hg
  · rw [mup_s, if_neg (by decide), mup_s, if_neg (by decide)]; exact h2
  · rw [mup_s, if_neg (by decide), mup_s, if_neg (by decide)]; exact h3
theorem SB.peg {x : Int32} {e : Nat} (h : SB gn μ 28 now) (hg5 : gn ≤ 5) (he : e < gn) : SB gn (mup μ 29 e x) 28 (upd now e x) := by
  obtain ⟨h1, h2, h3, h4, h5⟩ := h
  refine ⟨fun g hg => ?_, ?_, ?_, ?_, ?_⟩
  · rw [mup_c (show (28 : Nat) + 2 ≠ 29 by decide), un (show 5 + g ≠ e by omega)]
    refine ⟨?_, (h1 g hg).2⟩
    show mup μ 29 e x 29 g = _
    rw [mup_s]
    by_cases hge : g = e
    · rw [if_pos hge, hge, us]
    · rw [if_neg hge, un hge]; exact (h1 g hg).1
  · rw [mup_c (by decide), un (by omega)]; exact h2
  · rw [mup_c (by decide), un (by omega)]; exact h3
  · rw [mup_c (by decide), un (by omega)]; exact h4
  · rw [mup_c (by decide), un (by omega)]; exact h5
theorem okS.peg {x : Int32} {e : Nat} (h : okS μ 28 gn) (hx : 0 ≤ x ∧ x ≤ 9) : okS (mup μ 29 e x) 28 gn := by
  intro g hg
  rw [mup_c (show (28 : Nat) + 2 ≠ 29 by decide)]
  refine ⟨?_, (h g hg).2⟩
  show 0 ≤ mup μ 29 e x 29 g ∧ mup μ 29 e x 29 g ≤ 9
  rw [mup_s]
  split
  · exact hx
  · exact (h g hg).1
theorem SB.off {μ' : mm_mu} {l : List Nat} (h : SB gn μ 28 now) (ho : Off l μ μ') (h0 : 28 ∉ l) (h1 : 29 ∉ l) (h2 : 30 ∉ l) : SB gn μ' 28 now := by
  obtain ⟨q1, q2, q3, q4, q5⟩ := h
  refine ⟨fun g hg => ?_, ?_, ?_, ?_, ?_⟩
  · rw [ho (28 + 1) h1, ho (28 + 2) h2]; exact q1 g hg
  · rw [ho 28 h0]; exact q2
  · rw [ho 28 h0]; exact q3
  · rw [ho 28 h0]; exact q4
  · rw [ho 28 h0]; exact q5
theorem SB'.off {μ' : mm_mu} {l : List Nat} (h : SB' gn μ 28 now) (ho : Off l μ μ') (h0 : 28 ∉ l) (h1 : 29 ∉ l) (h2 : 30 ∉ l) : SB' gn μ' 28 now := by
  obtain ⟨q1, q2, q3⟩ := h
  refine ⟨fun g hg => ?_, ?_, ?_⟩
  · rw [ho (28 + 1) h1, ho (28 + 2) h2]; exact q1 g hg
  · rw [ho 28 h0]; exact q2
  · rw [ho 28 h0]; exact q3
theorem okS.off {μ' : mm_mu} {l : List Nat} {s : Nat} (h : okS μ s gn) (ho : Off l μ μ') (h1 : s + 1 ∉ l) (h2 : s + 2 ∉ l) : okS μ' s gn := fun g hg => by
  rw [ho (s + 1) h1, ho (s + 2) h2]; exact h g hg
theorem JX.trial (hJ : JX ε μ tn gn a p dy ln sz m) (hg0 : 0 < gn) (hQ : ∀ μ1, Off [28, 29, 30, 31] μ μ1 → JX ε μ1 tn gn a p dy ln sz m → SB gn μ1 28 (μ1 72) → okS μ1 28 gn → Q (some (.ref 28)) (HP ε μ1)) : B0 (d + 2) mX4_freshTrial [.ref 17] (HP ε μ) Q := by
  have hg5 := hJ.1.2.1
  obtain ⟨⟨b1, b2, b3, b4, b5⟩, hos⟩ := hJ.2.1.1.sb hg0 hg5
  refine c_freshTrial ?_
  intro μ1 ho h6 h5
  have e1 : ∀ g, g < gn → μ1 (28 + 1) g = μ (24 + 1) g ∧ μ1 (28 + 2) g = μ (24 + 2) g := fun g hg => ⟨(h5 g (by omega)).1, (h5 g (by omega)).2.1⟩
  refine hQ μ1 ho (hJ.offC ho (by decide)) ⟨fun g hg => ?_, ?_, ?_, ?_, ?_⟩ (fun g hg => ?_)
  · rw [(e1 g hg).1, (e1 g hg).2, ho 72 (by decide)]; exact b1 g hg
  · rw [h6 0 (by decide), ho 72 (by decide)]; exact b2
  · rw [h6 2 (by decide), ho 72 (by decide)]; exact b3
  · rw [h6 3 (by decide), ho 72 (by decide)]; exact b4
  · rw [h6 4 (by decide), ho 72 (by decide)]; exact b5
  · rw [(e1 g hg).1, (e1 g hg).2]; exact hos g hg
theorem JX.runT (hJ : JX ε μ tn gn a p dy ln sz m) (hsb : SB gn μ 28 now) (hos : okS μ 28 gn) (hQ : ∀ μ1, Off cG μ μ1 → JX ε μ1 tn gn a p dy ln sz m → CD μ1 (DRV (mLaw μ1) (μ1 71) now tn gn) → Q none (HP ε μ1)) : B0 (d + 5) mX4_run [.ref 17, .ref 28] (HP ε μ) Q := by
  obtain ⟨ht7, hg5, htg, h18, h18', h56, h56', hth⟩ := hJ.1
  refine c_run (Or.inr rfl) h18 ht7 h18' hg5 hJ.2.2.2.1.lw.2 hos ?_
  intro μ1 ho1 hcd
  rw [DRV_SB hJ.1 hsb] at hcd
  refine hQ μ1 ho1 (hJ.offC ho1 (by decide)) ?_
  rw [mLaw_F (ho1.F (fl := []) (by decide)) (by intro c h1 h2; simp; omega) (by decide), ho1 71 (by decide)]
  exact hcd
theorem OffF.wo72 {fl : List Nat} {μ' : mm_mu} (h : OffF cD fl μ μ') (h72 : ∀ i, μ' 72 i = μ 72 i) : OffF [65, 66, 74, 75, 76, 77] fl μ μ' := ⟨fun c hc => by
  by_cases h2 : c = 72
  · rw [h2]; exact funext h72
  · exact h.1 c (fun z => hc (by simp at z ⊢; omega)), h.2⟩
theorem JX.bs (hJ : JX ε μ tn gn a p dy ln sz m) {lw : Option ((Nat → Int32) → Int32)} : BS (DRV lw (μ 71) now tn gn) 63 := BS_DRV hJ.1.1 (fun t ht => by
  have q := hJ.1.2.2.2.2.2.2.2 t ht
  rw [← q.1.2.2.2.1]; exact q.2)
abbrev PQ (M2 : mm_M) (A : List Value) : mm_Q0 := fun v h => B0 100 M2 (.ref 56 :: A) h (fun w h' => ∃ x ε' μ', v = some (.int x) ∧ w = some (.int x) ∧ h' = HP ε' μ' ∧ J ε' μ')
set_option maxRecDepth 4000 in
theorem p_bestLine {x y : Int32} (hJ : JX ε μ tn gn a p dy ln sz m) : Pr mX11_bestLine mX12_bestLine [.int x, .int y] ε μ := by
  obtain ⟨ht7, hg5, htg, h18, h18', h56, h56', hth⟩ := hJ.1
  show B0 100 mX11_bestLine [.ref 0, .int x, .int y] (HP ε μ) (PQ mX12_bestLine [.int x, .int y])
  have bad : (tn = 0 ∨ ¬ (1 ≤ x ∧ x ≤ 10) ∨ ¬ (0 ≤ y ∧ y ≤ 1)) → PQ mX12_bestLine [.int x, .int y] (some (.int (-1))) (HP ε μ) := by
    intro hb
    refine m_bestLine (tn := tn) (gn := gn) h56 ht7 h56' hg5 hJ.2.2.2.1.lw.1 (fun _ => PE.mk rfl hJ.j) (fun μ2 n ht h1 h2 hx hy _ _ => ?_)
    refine absurd hb (fun z => z.elim (fun z => by omega) (fun z => z.elim (fun z => z ?_) (fun z => z hy)))
    rw [hx]; exact ⟨nI_le (a := 1) (by omega) (by omega), nI_le (b := 10) (by omega) (by decide)⟩
  refine b0_of_G0 (lv := [.ref 0, .int x, .int y, .null, .null, .null, .null]) (by decide +kernel) (Nat.le_of_ble_eq_true rfl) rfl ?_
  refine mw_ok (M := mX11_bestLine) (fun _ => false) okTX11 rfl 20 _ _ _ _ ?_
  simp only [eX11_bestLine_0, eX11_bestLine_1, eX11_bestLine_4, eX11_bestLine_7, eX11_bestLine_8, eX11_bestLine_9, eX11_bestLine_12, eX11_bestLine_13, eX11_bestLine_15, eX11_bestLine_18, eX11_bestLine_19, eX11_bestLine_22, eX11_bestLine_25, eX11_bestLine_26, eX11_bestLine_27, eX11_bestLine_28, eX11_bestLine_31, eX11_bestLine_34, eX11_bestLine_35, eX11_bestLine_36, eX11_bestLine_38, eX11_bestLine_39, eX11_bestLine_41, eX11_bestLine_42, eX11_bestLine_44, eX11_bestLine_46, eX11_bestLine_47, eX11_bestLine_48, eX11_bestLine_50, eX11_bestLine_53, eX11_bestLine_54, eX11_bestLine_56, eX11_bestLine_59, eX11_bestLine_60, eX11_bestLine_62, eX11_bestLine_63, eX11_bestLine_64, eX11_bestLine_65, eX11_bestLine_66, eX11_bestLine_69, eX11_bestLine_70, eX11_bestLine_73, eX11_bestLine_74, eX11_bestLine_77, eX11_bestLine_78, eX11_bestLine_81, eX11_bestLine_84, eX11_bestLine_86, eX11_bestLine_89, eX11_bestLine_90, eX11_bestLine_93, eX11_bestLine_96, eX11_bestLine_98, eX11_bestLine_100, eX11_bestLine_101, eX11_bestLine_104, eX11_bestLine_105, eX11_bestLine_106, eX11_bestLine_109, eX11_bestLine_110, eX11_bestLine_112, eX11_bestLine_115, eX11_bestLine_118, eX11_bestLine_119, eX11_bestLine_122, eX11_bestLine_124, eX11_bestLine_127, eX11_bestLine_129, st_aload, st_astore, st_goto, st_iadd, st_iconst, st_if_eq, st_if_ne, st_if_lt, st_if_ge, st_if_gt, st_if_le, st_ic_eq, st_ic_ne, st_ic_lt, st_ic_ge, st_ic_gt, st_ic_le, st_iinc, st_iload, st_imul, st_ins, st_inv, st_iret, st_zret, st_bret, st_istore, st_isub, gf_17_411, gf_10_802, gf_24_802, gf_28_802, gf_10_803, gf_24_803, gf_28_803, gf_0_1103, pf_10_802, pf_24_802, pf_28_802, pf_10_803, pf_24_803, pf_28_803, HP_0, HP_17, tab_19, tab_22, tab_107, tab_113, mm_cut, cond_false, cond_true, List.getElem?_cons_succ, List.getElem?_cons_zero, Int.reduceToNat, Nat.reduceMod, Nat.reduceDiv, Nat.reduceAdd, true_and, and_true, mm_set, mm_set2, mm_pop, List.length_cons, List.length_nil, Nat.reduceLeDiff, Int32.reduceOfInt, Int64.reduceOfInt, nar_b0, nar_b1, List.cons_append, List.nil_append, Option.toList_some, Option.toList_none, List.map_cons, List.map_nil, List.sum_cons, List.sum_nil, cat_i, cat_r, cat_l, Nat.zero_le, Int32.reduceOfNat, Int32.reduceAdd, Int32.reduceLT, Int32.reduceLE, forall_const, true_implies, false_implies, not_false_eq_true, not_true_eq_false, bi_eq0, bi_ne0, sl_0, sl_3, va_rf, Nat.reduceEqDiff, if_false, ite_false, ite_true, reduceIte, List.set_cons_zero, List.set_cons_succ, Nat.succ_eq_add_one, mup_c, mup_s, mw_zero, ne_eq, lit_10, lit_01, lit_m10, lit_m11, nar_bi]
  refine c_hasE h18 ht7 ?_
  by_cases ht0 : 0 < tn
  · rw [bi1 ht0]
    by_cases hx : 1 ≤ x ∧ x ≤ 10
    · have f1 : (x < 1) = False := eq_false (by simp only [Int32.le_iff_toInt_le, Int32.lt_iff_toInt_lt, ← Int32.toInt_inj, Int32.reduceToInt, ne_eq] at *; omega)
      have f2 : (10 < x) = False := eq_false (by simp only [Int32.le_iff_toInt_le, Int32.lt_iff_toInt_lt, ← Int32.toInt_inj, Int32.reduceToInt, ne_eq] at *; omega)
      refine mw_ok (M := mX11_bestLine) (fun _ => false) okTX11 rfl 20 _ _ _ _ ?_
      simp (decide := true) only [eX11_bestLine_0, eX11_bestLine_1, eX11_bestLine_4, eX11_bestLine_7, eX11_bestLine_8, eX11_bestLine_9, eX11_bestLine_12, eX11_bestLine_13, eX11_bestLine_15, eX11_bestLine_18, eX11_bestLine_19, eX11_bestLine_22, eX11_bestLine_25, eX11_bestLine_26, eX11_bestLine_27, eX11_bestLine_28, eX11_bestLine_31, eX11_bestLine_34, eX11_bestLine_35, eX11_bestLine_36, eX11_bestLine_38, eX11_bestLine_39, eX11_bestLine_41, eX11_bestLine_42, eX11_bestLine_44, eX11_bestLine_46, eX11_bestLine_47, eX11_bestLine_48, eX11_bestLine_50, eX11_bestLine_53, eX11_bestLine_54, eX11_bestLine_56, eX11_bestLine_59, eX11_bestLine_60, eX11_bestLine_62, eX11_bestLine_63, eX11_bestLine_64, eX11_bestLine_65, eX11_bestLine_66, eX11_bestLine_69, eX11_bestLine_70, eX11_bestLine_73, eX11_bestLine_74, eX11_bestLine_77, eX11_bestLine_78, eX11_bestLine_81, eX11_bestLine_84, eX11_bestLine_86, eX11_bestLine_89, eX11_bestLine_90, eX11_bestLine_93, eX11_bestLine_96, eX11_bestLine_98, eX11_bestLine_100, eX11_bestLine_101, eX11_bestLine_104, eX11_bestLine_105, eX11_bestLine_106, eX11_bestLine_109, eX11_bestLine_110, eX11_bestLine_112, eX11_bestLine_115, eX11_bestLine_118, eX11_bestLine_119, eX11_bestLine_122, eX11_bestLine_124, eX11_bestLine_127, eX11_bestLine_129, st_aload, st_astore, st_goto, st_iadd, st_iconst, st_if_eq, st_if_ne, st_if_lt, st_if_ge, st_if_gt, st_if_le, st_ic_eq, st_ic_ne, st_ic_lt, st_ic_ge, st_ic_gt, st_ic_le, st_iinc, st_iload, st_imul, st_ins, st_inv, st_iret, st_zret, st_bret, st_istore, st_isub, gf_17_411, gf_10_802, gf_24_802, gf_28_802, gf_10_803, gf_24_803, gf_28_803, gf_0_1103, pf_10_802, pf_24_802, pf_28_802, pf_10_803, pf_24_803, pf_28_803, HP_0, HP_17, tab_19, tab_22, tab_107, tab_113, mm_cut, cond_false, cond_true, List.getElem?_cons_succ, List.getElem?_cons_zero, Int.reduceToNat, Nat.reduceMod, Nat.reduceDiv, Nat.reduceAdd, true_and, and_true, mm_set, mm_set2, mm_pop, List.length_cons, List.length_nil, Nat.reduceLeDiff, Int32.reduceOfInt, Int64.reduceOfInt, nar_b0, nar_b1, List.cons_append, List.nil_append, Option.toList_some, Option.toList_none, List.map_cons, List.map_nil, List.sum_cons, List.sum_nil, cat_i, cat_r, cat_l, Nat.zero_le, Int32.reduceOfNat, Int32.reduceAdd, Int32.reduceLT, Int32.reduceLE, forall_const, true_implies, false_implies, not_false_eq_true, not_true_eq_false, bi_eq0, bi_ne0, sl_0, sl_3, va_rf, Nat.reduceEqDiff, if_false, ite_false, ite_true, reduceIte, List.set_cons_zero, List.set_cons_succ, Nat.succ_eq_add_one, mup_c, mup_s, mw_zero, ne_eq, lit_10, lit_01, lit_m10, lit_m11, nar_bi, f1, f2]
      refine c_isPair ?_
      by_cases hy : 0 ≤ y ∧ y ≤ 1
      · rw [bi1 hy]
        refine mw_ok (M := mX11_bestLine) (fun _ => false) okTX11 rfl 20 _ _ _ _ ?_
        simp (decide := true) only [eX11_bestLine_0, eX11_bestLine_1, eX11_bestLine_4, eX11_bestLine_7, eX11_bestLine_8, eX11_bestLine_9, eX11_bestLine_12, eX11_bestLine_13, eX11_bestLine_15, eX11_bestLine_18, eX11_bestLine_19, eX11_bestLine_22, eX11_bestLine_25, eX11_bestLine_26, eX11_bestLine_27, eX11_bestLine_28, eX11_bestLine_31, eX11_bestLine_34, eX11_bestLine_35, eX11_bestLine_36, eX11_bestLine_38, eX11_bestLine_39, eX11_bestLine_41, eX11_bestLine_42, eX11_bestLine_44, eX11_bestLine_46, eX11_bestLine_47, eX11_bestLine_48, eX11_bestLine_50, eX11_bestLine_53, eX11_bestLine_54, eX11_bestLine_56, eX11_bestLine_59, eX11_bestLine_60, eX11_bestLine_62, eX11_bestLine_63, eX11_bestLine_64, eX11_bestLine_65, eX11_bestLine_66, eX11_bestLine_69, eX11_bestLine_70, eX11_bestLine_73, eX11_bestLine_74, eX11_bestLine_77, eX11_bestLine_78, eX11_bestLine_81, eX11_bestLine_84, eX11_bestLine_86, eX11_bestLine_89, eX11_bestLine_90, eX11_bestLine_93, eX11_bestLine_96, eX11_bestLine_98, eX11_bestLine_100, eX11_bestLine_101, eX11_bestLine_104, eX11_bestLine_105, eX11_bestLine_106, eX11_bestLine_109, eX11_bestLine_110, eX11_bestLine_112, eX11_bestLine_115, eX11_bestLine_118, eX11_bestLine_119, eX11_bestLine_122, eX11_bestLine_124, eX11_bestLine_127, eX11_bestLine_129, st_aload, st_astore, st_goto, st_iadd, st_iconst, st_if_eq, st_if_ne, st_if_lt, st_if_ge, st_if_gt, st_if_le, st_ic_eq, st_ic_ne, st_ic_lt, st_ic_ge, st_ic_gt, st_ic_le, st_iinc, st_iload, st_imul, st_ins, st_inv, st_iret, st_zret, st_bret, st_istore, st_isub, gf_17_411, gf_10_802, gf_24_802, gf_28_802, gf_10_803, gf_24_803, gf_28_803, gf_0_1103, pf_10_802, pf_24_802, pf_28_802, pf_10_803, pf_24_803, pf_28_803, HP_0, HP_17, tab_19, tab_22, tab_107, tab_113, mm_cut, cond_false, cond_true, List.getElem?_cons_succ, List.getElem?_cons_zero, Int.reduceToNat, Nat.reduceMod, Nat.reduceDiv, Nat.reduceAdd, true_and, and_true, mm_set, mm_set2, mm_pop, List.length_cons, List.length_nil, Nat.reduceLeDiff, Int32.reduceOfInt, Int64.reduceOfInt, nar_b0, nar_b1, List.cons_append, List.nil_append, Option.toList_some, Option.toList_none, List.map_cons, List.map_nil, List.sum_cons, List.sum_nil, cat_i, cat_r, cat_l, Nat.zero_le, Int32.reduceOfNat, Int32.reduceAdd, Int32.reduceLT, Int32.reduceLE, forall_const, true_implies, false_implies, not_false_eq_true, not_true_eq_false, bi_eq0, bi_ne0, sl_0, sl_3, va_rf, Nat.reduceEqDiff, if_false, ite_false, ite_true, reduceIte, List.set_cons_zero, List.set_cons_succ, Nat.succ_eq_add_one, mup_c, mup_s, mw_zero, ne_eq, lit_10, lit_01, lit_m10, lit_m11, nar_bi]
        refine hJ.trial (htg ht0) ?_
        intro μ0 ho0 hj0 hsb0 hos0
        obtain ⟨n, hn, hxn⟩ := ix9 (x := x) (n := 10) (m := 10) rfl ⟨(by simp only [Int32.le_iff_toInt_le, Int32.lt_iff_toInt_lt, ← Int32.toInt_inj, Int32.reduceToInt, ne_eq] at *; omega), hx.2⟩
        have hn1 : 1 ≤ n := by
          rcases Nat.eq_zero_or_pos n with z | z
          · rw [z] at hxn; rw [hxn] at hx; exact absurd hx.1 (by decide)
          · exact z
        generalize hF : fLine (mLaw μ0) (μ0 71) (μ0 72) tn gn n = F
        have hrow : ∀ f, (F f).1 = nI (11 * f + n - 1) := by
          intro f
          rw [← hF]
          show 10 * nI f + nI f + nI n - 1 = _
          rw [l10, pk_mul, nI_add, nI_add, show 10 * f + f + n = (11 * f + n - 1) + 1 by omega, nI_pred]
        have hto : ∀ f, nI f + nI n - 1 = nI (f + n - 1) := fun f => by rw [nI_add, show f + n = (f + n - 1) + 1 by omega, nI_pred]; rfl
        have hval : ∀ f, 0 ≤ (F f).2 := by
          intro f
          rw [← hF]
          obtain ⟨-, -, ⟨v, v1, v2⟩, -⟩ := hj0.bs (lw := mLaw μ0) (now := upd (upd (μ0 72) 16 (nI f)) 17 (nI f + nI n - 1))
          show 0 ≤ (DRV _ _ _ _ _).2.2.2.1
          rw [v2]; exact nI_pos' (by omega)
        have hcm := trN_cm (F := F) (ρ := fun f => 11 * f + n - 1) (z := μ0 56 42) hrow (fun f g hfg => by omega) (11 - n) (fun f hf => by omega) hval (11 - n) (by omega) (Nat.le_refl _)
        have fin : ∀ (μ1 : mm_mu) (v : Int32), Off (cG ++ [28, 29, 30, 31]) μ0 μ1 → JX ε μ1 tn gn a p dy ln sz m → v = (if y = 0 then (cm F (11 - n)).1 else (cm F (11 - n)).2) → PQ mX12_bestLine [.int x, .int y] (some (.int v)) (HP ε μ1) := by
          intro μ1 v ho1 hj1 hv
          obtain ⟨-, -, -, -, -, k56, k56', -⟩ := hj1.1
          refine m_bestLine (tn := tn) (gn := gn) k56 ht7 k56' hg5 hj1.2.2.2.1.lw.1 (fun hb => absurd hb (fun z => z.elim (fun z => by omega) (fun z => z.elim (fun z => z hx) (fun z => z hy)))) (fun μ2 n' _ _ _ hx' _ ho2 h72 => ?_)
          have : n = n' := (nI_eq (by omega) (by omega)).mp (hxn.symm.trans hx')
          subst this
          refine PE.mk ?_ (hj1.j.off (ho2.wo72 h72) (by decide) (by decide))
          rw [hv, mLaw_F (ho1.F (fl := []) (by decide)) (by intro c h1 h2; simp; omega) (by decide), ho1 71 (by decide), ho1 72 (by decide), ho1 56 (by decide), hF, hcm]
        have key : ∀ f, f ≤ 11 - n → ∀ μ1, Off (cG ++ [28, 29, 30, 31]) μ0 μ1 → JX ε μ1 tn gn a p dy ln sz m → SB' gn μ1 28 (μ0 72) → okS μ1 28 gn → G0 (99 + 1) mX11_bestLine (PQ mX12_bestLine [.int x, .int y]) 44 [.ref 0, .int x, .int y, .ref 28, .int (cm F f).1, .int (cm F f).2, .int (nI f)] [] (HP ε μ1) := by
          refine mm_dn ?_ ?_
          · intro μ1 ho1 hj1 _ _
            have f3 : (10 < nI (11 - n) + nI n) = True := by rw [nI_add]; exact ltT (a := 10) (by omega) (by omega)
            rw [hxn] at *
            refine mw_ok (M := mX11_bestLine) (fun q => q == 44) okTX11 rfl 20 _ _ _ _ ?_
            simp only [eX11_bestLine_0, eX11_bestLine_1, eX11_bestLine_4, eX11_bestLine_7, eX11_bestLine_8, eX11_bestLine_9, eX11_bestLine_12, eX11_bestLine_13, eX11_bestLine_15, eX11_bestLine_18, eX11_bestLine_19, eX11_bestLine_22, eX11_bestLine_25, eX11_bestLine_26, eX11_bestLine_27, eX11_bestLine_28, eX11_bestLine_31, eX11_bestLine_34, eX11_bestLine_35, eX11_bestLine_36, eX11_bestLine_38, eX11_bestLine_39, eX11_bestLine_41, eX11_bestLine_42, eX11_bestLine_44, eX11_bestLine_46, eX11_bestLine_47, eX11_bestLine_48, eX11_bestLine_50, eX11_bestLine_53, eX11_bestLine_54, eX11_bestLine_56, eX11_bestLine_59, eX11_bestLine_60, eX11_bestLine_62, eX11_bestLine_63, eX11_bestLine_64, eX11_bestLine_65, eX11_bestLine_66, eX11_bestLine_69, eX11_bestLine_70, eX11_bestLine_73, eX11_bestLine_74, eX11_bestLine_77, eX11_bestLine_78, eX11_bestLine_81, eX11_bestLine_84, eX11_bestLine_86, eX11_bestLine_89, eX11_bestLine_90, eX11_bestLine_93, eX11_bestLine_96, eX11_bestLine_98, eX11_bestLine_100, eX11_bestLine_101, eX11_bestLine_104, eX11_bestLine_105, eX11_bestLine_106, eX11_bestLine_109, eX11_bestLine_110, eX11_bestLine_112, eX11_bestLine_115, eX11_bestLine_118, eX11_bestLine_119, eX11_bestLine_122, eX11_bestLine_124, eX11_bestLine_127, eX11_bestLine_129, st_aload, st_astore, st_goto, st_iadd, st_iconst, st_if_eq, st_if_ne, st_if_lt, st_if_ge, st_if_gt, st_if_le, st_ic_eq, st_ic_ne, st_ic_lt, st_ic_ge, st_ic_gt, st_ic_le, st_iinc, st_iload, st_imul, st_ins, st_inv, st_iret, st_zret, st_bret, st_istore, st_isub, gf_17_411, gf_10_802, gf_24_802, gf_28_802, gf_10_803, gf_24_803, gf_28_803, gf_0_1103, pf_10_802, pf_24_802, pf_28_802, pf_10_803, pf_24_803, pf_28_803, HP_0, HP_17, tab_19, tab_22, tab_107, tab_113, mm_cut, cond_false, cond_true, List.getElem?_cons_succ, List.getElem?_cons_zero, Int.reduceToNat, Nat.reduceMod, Nat.reduceDiv, Nat.reduceAdd, true_and, and_true, mm_set, mm_set2, mm_pop, List.length_cons, List.length_nil, Nat.reduceLeDiff, Int32.reduceOfInt, Int64.reduceOfInt, nar_b0, nar_b1, List.cons_append, List.nil_append, Option.toList_some, Option.toList_none, List.map_cons, List.map_nil, List.sum_cons, List.sum_nil, cat_i, cat_r, cat_l, Nat.zero_le, Int32.reduceOfNat, Int32.reduceAdd, Int32.reduceLT, Int32.reduceLE, forall_const, true_implies, false_implies, not_false_eq_true, not_true_eq_false, bi_eq0, bi_ne0, sl_0, sl_3, va_rf, Nat.reduceEqDiff, if_false, ite_false, ite_true, reduceIte, List.set_cons_zero, List.set_cons_succ, Nat.succ_eq_add_one, mup_c, mup_s, mw_zero, ne_eq, lit_10, lit_01, lit_m10, lit_m11, nar_bi, f3, Nat.reduceBEq, Bool.or_false, Bool.false_or, Bool.or_true, Bool.true_or]
            refine ⟨fun q => ?_, fun q => ?_⟩
            · exact fin μ1 _ ho1 hj1 (by rw [if_neg q])
            · exact fin μ1 _ ho1 hj1 (by rw [if_pos q])
          · intro f hf ih μ1 ho1 hj1 hsb hos
            have f3 : (10 < nI f + nI n) = False := by rw [nI_add]; exact ltF (b := f + n) (a := 10) (by omega) (by omega)
            rw [hxn] at *
            refine mw_ok (M := mX11_bestLine) (fun q => q == 44) okTX11 rfl 20 _ _ _ _ ?_
            simp only [eX11_bestLine_0, eX11_bestLine_1, eX11_bestLine_4, eX11_bestLine_7, eX11_bestLine_8, eX11_bestLine_9, eX11_bestLine_12, eX11_bestLine_13, eX11_bestLine_15, eX11_bestLine_18, eX11_bestLine_19, eX11_bestLine_22, eX11_bestLine_25, eX11_bestLine_26, eX11_bestLine_27, eX11_bestLine_28, eX11_bestLine_31, eX11_bestLine_34, eX11_bestLine_35, eX11_bestLine_36, eX11_bestLine_38, eX11_bestLine_39, eX11_bestLine_41, eX11_bestLine_42, eX11_bestLine_44, eX11_bestLine_46, eX11_bestLine_47, eX11_bestLine_48, eX11_bestLine_50, eX11_bestLine_53, eX11_bestLine_54, eX11_bestLine_56, eX11_bestLine_59, eX11_bestLine_60, eX11_bestLine_62, eX11_bestLine_63, eX11_bestLine_64, eX11_bestLine_65, eX11_bestLine_66, eX11_bestLine_69, eX11_bestLine_70, eX11_bestLine_73, eX11_bestLine_74, eX11_bestLine_77, eX11_bestLine_78, eX11_bestLine_81, eX11_bestLine_84, eX11_bestLine_86, eX11_bestLine_89, eX11_bestLine_90, eX11_bestLine_93, eX11_bestLine_96, eX11_bestLine_98, eX11_bestLine_100, eX11_bestLine_101, eX11_bestLine_104, eX11_bestLine_105, eX11_bestLine_106, eX11_bestLine_109, eX11_bestLine_110, eX11_bestLine_112, eX11_bestLine_115, eX11_bestLine_118, eX11_bestLine_119, eX11_bestLine_122, eX11_bestLine_124, eX11_bestLine_127, eX11_bestLine_129, st_aload, st_astore, st_goto, st_iadd, st_iconst, st_if_eq, st_if_ne, st_if_lt, st_if_ge, st_if_gt, st_if_le, st_ic_eq, st_ic_ne, st_ic_lt, st_ic_ge, st_ic_gt, st_ic_le, st_iinc, st_iload, st_imul, st_ins, st_inv, st_iret, st_zret, st_bret, st_istore, st_isub, gf_17_411, gf_10_802, gf_24_802, gf_28_802, gf_10_803, gf_24_803, gf_28_803, gf_0_1103, pf_10_802, pf_24_802, pf_28_802, pf_10_803, pf_24_803, pf_28_803, HP_0, HP_17, tab_19, tab_22, tab_107, tab_113, mm_cut, cond_false, cond_true, List.getElem?_cons_succ, List.getElem?_cons_zero, Int.reduceToNat, Nat.reduceMod, Nat.reduceDiv, Nat.reduceAdd, true_and, and_true, mm_set, mm_set2, mm_pop, List.length_cons, List.length_nil, Nat.reduceLeDiff, Int32.reduceOfInt, Int64.reduceOfInt, nar_b0, nar_b1, List.cons_append, List.nil_append, Option.toList_some, Option.toList_none, List.map_cons, List.map_nil, List.sum_cons, List.sum_nil, cat_i, cat_r, cat_l, Nat.zero_le, Int32.reduceOfNat, Int32.reduceAdd, Int32.reduceLT, Int32.reduceLE, forall_const, true_implies, false_implies, not_false_eq_true, not_true_eq_false, bi_eq0, bi_ne0, sl_0, sl_3, va_rf, Nat.reduceEqDiff, if_false, ite_false, ite_true, reduceIte, List.set_cons_zero, List.set_cons_succ, Nat.succ_eq_add_one, mup_c, mup_s, mw_zero, ne_eq, lit_10, lit_01, lit_m10, lit_m11, nar_bi, f3, Nat.reduceBEq, Bool.or_false, Bool.false_or, Bool.or_true, Bool.true_or]
            have hm : Off (cG ++ [28, 29, 30, 31]) μ0 (mup (mup μ1 28 2 (nI f)) 28 3 (nI f + nI n - 1)) := (ho1.up (by decide)).up (by decide)
            have hm1 : Off [28] μ1 (mup (mup μ1 28 2 (nI f)) 28 3 (nI f + nI n - 1)) := (Off.rf.up (by decide)).up (by decide)
            refine JX.runT (hj1.offC hm1 (by decide)) (hsb.line hg5) (hos.off hm1 (by decide) (by decide)) ?_
            intro μ2 ho2 hj2 hcd
            have ho02 : Off (cG ++ [28, 29, 30, 31]) μ0 μ2 := hm.tr (ho2.mono (by simp))
            have hv : μ2 17 11 = (F f).2 := by
              rw [hcd.2.2.2.1, ← hF, mLaw_F (ho02.F (fl := []) (by decide)) (by intro c h1 h2; simp; omega) (by decide), ho02 71 (by decide)]
              rfl
            have g2 : μ2 28 2 = nI f := by rw [ho2 28 (by decide), mup_s, if_neg (by decide), mup_s, if_pos rfl]
            have g3 : μ2 28 3 = nI f + nI n - 1 := by rw [ho2 28 (by decide), mup_s, if_pos rfl]
            have hr : 10 * nI f + (nI f + nI n - 1) = (F f).1 := by
              rw [hrow, hto, l10, pk_mul, nI_add]; congr 1; omega
            have ih2 := ih μ2 ho02 hj2 ((hsb.unl).off ho2 (by decide) (by decide) (by decide)) ((hos.off hm1 (by decide) (by decide)).off ho2 (by decide) (by decide))
            rw [cm] at ih2
            refine mw_ok (M := mX11_bestLine) (fun q => q == 44) okTX11 rfl 40 _ _ _ _ ?_
            simp only [eX11_bestLine_0, eX11_bestLine_1, eX11_bestLine_4, eX11_bestLine_7, eX11_bestLine_8, eX11_bestLine_9, eX11_bestLine_12, eX11_bestLine_13, eX11_bestLine_15, eX11_bestLine_18, eX11_bestLine_19, eX11_bestLine_22, eX11_bestLine_25, eX11_bestLine_26, eX11_bestLine_27, eX11_bestLine_28, eX11_bestLine_31, eX11_bestLine_34, eX11_bestLine_35, eX11_bestLine_36, eX11_bestLine_38, eX11_bestLine_39, eX11_bestLine_41, eX11_bestLine_42, eX11_bestLine_44, eX11_bestLine_46, eX11_bestLine_47, eX11_bestLine_48, eX11_bestLine_50, eX11_bestLine_53, eX11_bestLine_54, eX11_bestLine_56, eX11_bestLine_59, eX11_bestLine_60, eX11_bestLine_62, eX11_bestLine_63, eX11_bestLine_64, eX11_bestLine_65, eX11_bestLine_66, eX11_bestLine_69, eX11_bestLine_70, eX11_bestLine_73, eX11_bestLine_74, eX11_bestLine_77, eX11_bestLine_78, eX11_bestLine_81, eX11_bestLine_84, eX11_bestLine_86, eX11_bestLine_89, eX11_bestLine_90, eX11_bestLine_93, eX11_bestLine_96, eX11_bestLine_98, eX11_bestLine_100, eX11_bestLine_101, eX11_bestLine_104, eX11_bestLine_105, eX11_bestLine_106, eX11_bestLine_109, eX11_bestLine_110, eX11_bestLine_112, eX11_bestLine_115, eX11_bestLine_118, eX11_bestLine_119, eX11_bestLine_122, eX11_bestLine_124, eX11_bestLine_127, eX11_bestLine_129, st_aload, st_astore, st_goto, st_iadd, st_iconst, st_if_eq, st_if_ne, st_if_lt, st_if_ge, st_if_gt, st_if_le, st_ic_eq, st_ic_ne, st_ic_lt, st_ic_ge, st_ic_gt, st_ic_le, st_iinc, st_iload, st_imul, st_ins, st_inv, st_iret, st_zret, st_bret, st_istore, st_isub, gf_17_411, gf_10_802, gf_24_802, gf_28_802, gf_10_803, gf_24_803, gf_28_803, gf_0_1103, pf_10_802, pf_24_802, pf_28_802, pf_10_803, pf_24_803, pf_28_803, HP_0, HP_17, tab_19, tab_22, tab_107, tab_113, mm_cut, cond_false, cond_true, List.getElem?_cons_succ, List.getElem?_cons_zero, Int.reduceToNat, Nat.reduceMod, Nat.reduceDiv, Nat.reduceAdd, true_and, and_true, mm_set, mm_set2, mm_pop, List.length_cons, List.length_nil, Nat.reduceLeDiff, Int32.reduceOfInt, Int64.reduceOfInt, nar_b0, nar_b1, List.cons_append, List.nil_append, Option.toList_some, Option.toList_none, List.map_cons, List.map_nil, List.sum_cons, List.sum_nil, cat_i, cat_r, cat_l, Nat.zero_le, Int32.reduceOfNat, Int32.reduceAdd, Int32.reduceLT, Int32.reduceLE, forall_const, true_implies, false_implies, not_false_eq_true, not_true_eq_false, bi_eq0, bi_ne0, sl_0, sl_3, va_rf, Nat.reduceEqDiff, if_false, ite_false, ite_true, reduceIte, List.set_cons_zero, List.set_cons_succ, Nat.succ_eq_add_one, mup_c, mup_s, mw_zero, ne_eq, lit_10, lit_01, lit_m10, lit_m11, nar_bi, hv, g2, g3, hr, nI_1, Nat.reduceBEq, Bool.or_false, Bool.false_or, Bool.or_true, Bool.true_or]
            refine ⟨fun q => ?_, fun q => ?_⟩
            · rw [if_neg (by simp only [Int32.le_iff_toInt_le, Int32.lt_iff_toInt_lt, ← Int32.toInt_inj, Int32.reduceToInt, ne_eq] at *; omega)] at ih2; exact ih2
            · rw [if_pos (by simp only [Int32.le_iff_toInt_le, Int32.lt_iff_toInt_lt, ← Int32.toInt_inj, Int32.reduceToInt, ne_eq] at *; omega)] at ih2; exact ih2
        refine mw_ok (M := mX11_bestLine) (fun q => q == 44) okTX11 rfl 20 _ _ _ _ ?_
        simp only [eX11_bestLine_0, eX11_bestLine_1, eX11_bestLine_4, eX11_bestLine_7, eX11_bestLine_8, eX11_bestLine_9, eX11_bestLine_12, eX11_bestLine_13, eX11_bestLine_15, eX11_bestLine_18, eX11_bestLine_19, eX11_bestLine_22, eX11_bestLine_25, eX11_bestLine_26, eX11_bestLine_27, eX11_bestLine_28, eX11_bestLine_31, eX11_bestLine_34, eX11_bestLine_35, eX11_bestLine_36, eX11_bestLine_38, eX11_bestLine_39, eX11_bestLine_41, eX11_bestLine_42, eX11_bestLine_44, eX11_bestLine_46, eX11_bestLine_47, eX11_bestLine_48, eX11_bestLine_50, eX11_bestLine_53, eX11_bestLine_54, eX11_bestLine_56, eX11_bestLine_59, eX11_bestLine_60, eX11_bestLine_62, eX11_bestLine_63, eX11_bestLine_64, eX11_bestLine_65, eX11_bestLine_66, eX11_bestLine_69, eX11_bestLine_70, eX11_bestLine_73, eX11_bestLine_74, eX11_bestLine_77, eX11_bestLine_78, eX11_bestLine_81, eX11_bestLine_84, eX11_bestLine_86, eX11_bestLine_89, eX11_bestLine_90, eX11_bestLine_93, eX11_bestLine_96, eX11_bestLine_98, eX11_bestLine_100, eX11_bestLine_101, eX11_bestLine_104, eX11_bestLine_105, eX11_bestLine_106, eX11_bestLine_109, eX11_bestLine_110, eX11_bestLine_112, eX11_bestLine_115, eX11_bestLine_118, eX11_bestLine_119, eX11_bestLine_122, eX11_bestLine_124, eX11_bestLine_127, eX11_bestLine_129, st_aload, st_astore, st_goto, st_iadd, st_iconst, st_if_eq, st_if_ne, st_if_lt, st_if_ge, st_if_gt, st_if_le, st_ic_eq, st_ic_ne, st_ic_lt, st_ic_ge, st_ic_gt, st_ic_le, st_iinc, st_iload, st_imul, st_ins, st_inv, st_iret, st_zret, st_bret, st_istore, st_isub, gf_17_411, gf_10_802, gf_24_802, gf_28_802, gf_10_803, gf_24_803, gf_28_803, gf_0_1103, pf_10_802, pf_24_802, pf_28_802, pf_10_803, pf_24_803, pf_28_803, HP_0, HP_17, tab_19, tab_22, tab_107, tab_113, mm_cut, cond_false, cond_true, List.getElem?_cons_succ, List.getElem?_cons_zero, Int.reduceToNat, Nat.reduceMod, Nat.reduceDiv, Nat.reduceAdd, true_and, and_true, mm_set, mm_set2, mm_pop, List.length_cons, List.length_nil, Nat.reduceLeDiff, Int32.reduceOfInt, Int64.reduceOfInt, nar_b0, nar_b1, List.cons_append, List.nil_append, Option.toList_some, Option.toList_none, List.map_cons, List.map_nil, List.sum_cons, List.sum_nil, cat_i, cat_r, cat_l, Nat.zero_le, Int32.reduceOfNat, Int32.reduceAdd, Int32.reduceLT, Int32.reduceLE, forall_const, true_implies, false_implies, not_false_eq_true, not_true_eq_false, bi_eq0, bi_ne0, sl_0, sl_3, va_rf, Nat.reduceEqDiff, if_false, ite_false, ite_true, reduceIte, List.set_cons_zero, List.set_cons_succ, Nat.succ_eq_add_one, mup_c, mup_s, mw_zero, ne_eq, lit_10, lit_01, lit_m10, lit_m11, nar_bi, Nat.reduceBEq, Bool.or_false, Bool.false_or, Bool.or_true, Bool.true_or]
        exact key 0 (Nat.zero_le _) μ0 Off.rf hj0 hsb0.w hos0
      · have := bad (Or.inr (Or.inr hy))
        rw [bi0 hy]
        refine mw_ok (M := mX11_bestLine) (fun _ => false) okTX11 rfl 20 _ _ _ _ ?_
        simp (decide := true) only [eX11_bestLine_0, eX11_bestLine_1, eX11_bestLine_4, eX11_bestLine_7, eX11_bestLine_8, eX11_bestLine_9, eX11_bestLine_12, eX11_bestLine_13, eX11_bestLine_15, eX11_bestLine_18, eX11_bestLine_19, eX11_bestLine_22, eX11_bestLine_25, eX11_bestLine_26, eX11_bestLine_27, eX11_bestLine_28, eX11_bestLine_31, eX11_bestLine_34, eX11_bestLine_35, eX11_bestLine_36, eX11_bestLine_38, eX11_bestLine_39, eX11_bestLine_41, eX11_bestLine_42, eX11_bestLine_44, eX11_bestLine_46, eX11_bestLine_47, eX11_bestLine_48, eX11_bestLine_50, eX11_bestLine_53, eX11_bestLine_54, eX11_bestLine_56, eX11_bestLine_59, eX11_bestLine_60, eX11_bestLine_62, eX11_bestLine_63, eX11_bestLine_64, eX11_bestLine_65, eX11_bestLine_66, eX11_bestLine_69, eX11_bestLine_70, eX11_bestLine_73, eX11_bestLine_74, eX11_bestLine_77, eX11_bestLine_78, eX11_bestLine_81, eX11_bestLine_84, eX11_bestLine_86, eX11_bestLine_89, eX11_bestLine_90, eX11_bestLine_93, eX11_bestLine_96, eX11_bestLine_98, eX11_bestLine_100, eX11_bestLine_101, eX11_bestLine_104, eX11_bestLine_105, eX11_bestLine_106, eX11_bestLine_109, eX11_bestLine_110, eX11_bestLine_112, eX11_bestLine_115, eX11_bestLine_118, eX11_bestLine_119, eX11_bestLine_122, eX11_bestLine_124, eX11_bestLine_127, eX11_bestLine_129, st_aload, st_astore, st_goto, st_iadd, st_iconst, st_if_eq, st_if_ne, st_if_lt, st_if_ge, st_if_gt, st_if_le, st_ic_eq, st_ic_ne, st_ic_lt, st_ic_ge, st_ic_gt, st_ic_le, st_iinc, st_iload, st_imul, st_ins, st_inv, st_iret, st_zret, st_bret, st_istore, st_isub, gf_17_411, gf_10_802, gf_24_802, gf_28_802, gf_10_803, gf_24_803, gf_28_803, gf_0_1103, pf_10_802, pf_24_802, pf_28_802, pf_10_803, pf_24_803, pf_28_803, HP_0, HP_17, tab_19, tab_22, tab_107, tab_113, mm_cut, cond_false, cond_true, List.getElem?_cons_succ, List.getElem?_cons_zero, Int.reduceToNat, Nat.reduceMod, Nat.reduceDiv, Nat.reduceAdd, true_and, and_true, mm_set, mm_set2, mm_pop, List.length_cons, List.length_nil, Nat.reduceLeDiff, Int32.reduceOfInt, Int64.reduceOfInt, nar_b0, nar_b1, List.cons_append, List.nil_append, Option.toList_some, Option.toList_none, List.map_cons, List.map_nil, List.sum_cons, List.sum_nil, cat_i, cat_r, cat_l, Nat.zero_le, Int32.reduceOfNat, Int32.reduceAdd, Int32.reduceLT, Int32.reduceLE, forall_const, true_implies, false_implies, not_false_eq_true, not_true_eq_false, bi_eq0, bi_ne0, sl_0, sl_3, va_rf, Nat.reduceEqDiff, if_false, ite_false, ite_true, reduceIte, List.set_cons_zero, List.set_cons_succ, Nat.succ_eq_add_one, mup_c, mup_s, mw_zero, ne_eq, lit_10, lit_01, lit_m10, lit_m11, nar_bi]
        exact this
    · have := bad (Or.inr (Or.inl hx))
      refine mw_ok (M := mX11_bestLine) (fun _ => false) okTX11 rfl 12 _ _ _ _ ?_
      simp only [eX11_bestLine_0, eX11_bestLine_1, eX11_bestLine_4, eX11_bestLine_7, eX11_bestLine_8, eX11_bestLine_9, eX11_bestLine_12, eX11_bestLine_13, eX11_bestLine_15, eX11_bestLine_18, eX11_bestLine_19, eX11_bestLine_22, eX11_bestLine_25, eX11_bestLine_26, eX11_bestLine_27, eX11_bestLine_28, eX11_bestLine_31, eX11_bestLine_34, eX11_bestLine_35, eX11_bestLine_36, eX11_bestLine_38, eX11_bestLine_39, eX11_bestLine_41, eX11_bestLine_42, eX11_bestLine_44, eX11_bestLine_46, eX11_bestLine_47, eX11_bestLine_48, eX11_bestLine_50, eX11_bestLine_53, eX11_bestLine_54, eX11_bestLine_56, eX11_bestLine_59, eX11_bestLine_60, eX11_bestLine_62, eX11_bestLine_63, eX11_bestLine_64, eX11_bestLine_65, eX11_bestLine_66, eX11_bestLine_69, eX11_bestLine_70, eX11_bestLine_73, eX11_bestLine_74, eX11_bestLine_77, eX11_bestLine_78, eX11_bestLine_81, eX11_bestLine_84, eX11_bestLine_86, eX11_bestLine_89, eX11_bestLine_90, eX11_bestLine_93, eX11_bestLine_96, eX11_bestLine_98, eX11_bestLine_100, eX11_bestLine_101, eX11_bestLine_104, eX11_bestLine_105, eX11_bestLine_106, eX11_bestLine_109, eX11_bestLine_110, eX11_bestLine_112, eX11_bestLine_115, eX11_bestLine_118, eX11_bestLine_119, eX11_bestLine_122, eX11_bestLine_124, eX11_bestLine_127, eX11_bestLine_129, st_aload, st_astore, st_goto, st_iadd, st_iconst, st_if_eq, st_if_ne, st_if_lt, st_if_ge, st_if_gt, st_if_le, st_ic_eq, st_ic_ne, st_ic_lt, st_ic_ge, st_ic_gt, st_ic_le, st_iinc, st_iload, st_imul, st_ins, st_inv, st_iret, st_zret, st_bret, st_istore, st_isub, gf_17_411, gf_10_802, gf_24_802, gf_28_802, gf_10_803, gf_24_803, gf_28_803, gf_0_1103, pf_10_802, pf_24_802, pf_28_802, pf_10_803, pf_24_803, pf_28_803, HP_0, HP_17, tab_19, tab_22, tab_107, tab_113, mm_cut, cond_false, cond_true, List.getElem?_cons_succ, List.getElem?_cons_zero, Int.reduceToNat, Nat.reduceMod, Nat.reduceDiv, Nat.reduceAdd, true_and, and_true, mm_set, mm_set2, mm_pop, List.length_cons, List.length_nil, Nat.reduceLeDiff, Int32.reduceOfInt, Int64.reduceOfInt, nar_b0, nar_b1, List.cons_append, List.nil_append, Option.toList_some, Option.toList_none, List.map_cons, List.map_nil, List.sum_cons, List.sum_nil, cat_i, cat_r, cat_l, Nat.zero_le, Int32.reduceOfNat, Int32.reduceAdd, Int32.reduceLT, Int32.reduceLE, forall_const, true_implies, false_implies, not_false_eq_true, not_true_eq_false, bi_eq0, bi_ne0, sl_0, sl_3, va_rf, Nat.reduceEqDiff, if_false, ite_false, ite_true, reduceIte, List.set_cons_zero, List.set_cons_succ, Nat.succ_eq_add_one, mup_c, mup_s, mw_zero, ne_eq, lit_10, lit_01, lit_m10, lit_m11, nar_bi]
      refine ⟨fun _ => this, fun q1 => ⟨fun _ => this, fun q2 => absurd ⟨(by simp only [Int32.le_iff_toInt_le, Int32.lt_iff_toInt_lt, ← Int32.toInt_inj, Int32.reduceToInt, ne_eq] at *; omega), (by simp only [Int32.le_iff_toInt_le, Int32.lt_iff_toInt_lt, ← Int32.toInt_inj, Int32.reduceToInt, ne_eq] at *; omega)⟩ hx⟩⟩
  · have := bad (Or.inl (by omega))
    rw [bi0 ht0]
    refine mw_ok (M := mX11_bestLine) (fun _ => false) okTX11 rfl 20 _ _ _ _ ?_
    simp only [eX11_bestLine_0, eX11_bestLine_1, eX11_bestLine_4, eX11_bestLine_7, eX11_bestLine_8, eX11_bestLine_9, eX11_bestLine_12, eX11_bestLine_13, eX11_bestLine_15, eX11_bestLine_18, eX11_bestLine_19, eX11_bestLine_22, eX11_bestLine_25, eX11_bestLine_26, eX11_bestLine_27, eX11_bestLine_28, eX11_bestLine_31, eX11_bestLine_34, eX11_bestLine_35, eX11_bestLine_36, eX11_bestLine_38, eX11_bestLine_39, eX11_bestLine_41, eX11_bestLine_42, eX11_bestLine_44, eX11_bestLine_46, eX11_bestLine_47, eX11_bestLine_48, eX11_bestLine_50, eX11_bestLine_53, eX11_bestLine_54, eX11_bestLine_56, eX11_bestLine_59, eX11_bestLine_60, eX11_bestLine_62, eX11_bestLine_63, eX11_bestLine_64, eX11_bestLine_65, eX11_bestLine_66, eX11_bestLine_69, eX11_bestLine_70, eX11_bestLine_73, eX11_bestLine_74, eX11_bestLine_77, eX11_bestLine_78, eX11_bestLine_81, eX11_bestLine_84, eX11_bestLine_86, eX11_bestLine_89, eX11_bestLine_90, eX11_bestLine_93, eX11_bestLine_96, eX11_bestLine_98, eX11_bestLine_100, eX11_bestLine_101, eX11_bestLine_104, eX11_bestLine_105, eX11_bestLine_106, eX11_bestLine_109, eX11_bestLine_110, eX11_bestLine_112, eX11_bestLine_115, eX11_bestLine_118, eX11_bestLine_119, eX11_bestLine_122, eX11_bestLine_124, eX11_bestLine_127, eX11_bestLine_129, st_aload, st_astore, st_goto, st_iadd, st_iconst, st_if_eq, st_if_ne, st_if_lt, st_if_ge, st_if_gt, st_if_le, st_ic_eq, st_ic_ne, st_ic_lt, st_ic_ge, st_ic_gt, st_ic_le, st_iinc, st_iload, st_imul, st_ins, st_inv, st_iret, st_zret, st_bret, st_istore, st_isub, gf_17_411, gf_10_802, gf_24_802, gf_28_802, gf_10_803, gf_24_803, gf_28_803, gf_0_1103, pf_10_802, pf_24_802, pf_28_802, pf_10_803, pf_24_803, pf_28_803, HP_0, HP_17, tab_19, tab_22, tab_107, tab_113, mm_cut, cond_false, cond_true, List.getElem?_cons_succ, List.getElem?_cons_zero, Int.reduceToNat, Nat.reduceMod, Nat.reduceDiv, Nat.reduceAdd, true_and, and_true, mm_set, mm_set2, mm_pop, List.length_cons, List.length_nil, Nat.reduceLeDiff, Int32.reduceOfInt, Int64.reduceOfInt, nar_b0, nar_b1, List.cons_append, List.nil_append, Option.toList_some, Option.toList_none, List.map_cons, List.map_nil, List.sum_cons, List.sum_nil, cat_i, cat_r, cat_l, Nat.zero_le, Int32.reduceOfNat, Int32.reduceAdd, Int32.reduceLT, Int32.reduceLE, forall_const, true_implies, false_implies, not_false_eq_true, not_true_eq_false, bi_eq0, bi_ne0, sl_0, sl_3, va_rf, Nat.reduceEqDiff, if_false, ite_false, ite_true, reduceIte, List.set_cons_zero, List.set_cons_succ, Nat.succ_eq_add_one, mup_c, mup_s, mw_zero, ne_eq, lit_10, lit_01, lit_m10, lit_m11, nar_bi]
    exact this
end P12
