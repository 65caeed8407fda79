/-- how surely a gun takes a thing: without a law, or by its worth -/
def lets (v k far s r m : Int32) : Nat → Int32 := fun i => if i = 0 then v else if i = 1 then k else if i = 2 then far else if i = 3 then s else if i = 4 then r else m
def far (p c : Int32) : Int32 := if 0 ≤ p - c then p - c else 0 - (p - c)
def clamp20 (v : Int32) : Int32 := if 0 < (if v < 20 then v else 20) then (if v < 20 then v else 20) else 0
def rch (lw : Option ((Nat → Int32) → Int32)) (v k f s r m : Int32) : Int32 := clamp20 (match lw with
  | none => s - 2 * f
  | some w => w (lets v k f s r m))
/-- the reference's law -/
def mLaw (μ : mm_mu) : Option ((Nat → Int32) → Int32) := if μ 56 28 = -1 then none else some (mWorth μ (μ 56 28).toNatClampNeg)
def okHold (μ : mm_mu) : Prop := μ 56 28 = -1 ∨ ∃ n, n < 4 ∧ μ 56 28 = nI n ∧ okLaw μ n
/-- an int comparison that is a choice -/
theorem far_r {p c : Int32} : (if (0 : Int32) ≤ p - c then p - c else 0 - (p - c)) = far p c := rfl
theorem clamp_r {v : Int32} : (if (0 : Int32) < (if v < 20 then v else 20) then (if v < 20 then v else 20) else 0) = clamp20 v := rfl
section M4
variable {d : Nat} {ε : mm_X} {μ : mm_mu} {Q : mm_Q0} {h : mm_H}
theorem evL_cong {L L' : Nat → Int32} : ∀ (l : List (Int32 × Int32)) (s : List Int32) (ts ts' : List Bool), s.length = ts.length → tyk l ts = some ts' → (∀ i, i < 6 → L i = L' i) → ev L l s = ev L' l s
  | [], _, _, _, _, _, _ => rfl
  | tk :: l, s, ts, ts', h, h2, hL => by
    have h0 := h2
    simp only [tyk] at h2
    cases ht : ty1 tk ts with
    | none => rw [ht] at h2; cases h2
    | some t1 =>
      rw [ht] at h2
      have e : ev1 L tk s = ev1 L' tk s := by
        unfold ev1
        by_cases c1 : tk.1 = 1
        · unfold ty1 at ht
          have c0 : ¬ tk.1 = 0 := by rw [c1]; decide
          rw [if_neg c0, if_pos c1] at ht
          split at ht
          · rename_i hb
            rw [if_neg c0, if_neg c0, if_pos c1, if_pos c1, hL]
            have := hb.2
            have h6 : vp_in tk.2 6 := vp6 (m := 6) rfl this.1 this.2
            exact Nat.lt_of_not_le (fun z => h6 (Or.inr z))
          · cases ht
        · rw [if_neg c1, if_neg c1]
      show ev L l (ev1 L tk s) = ev L' l (ev1 L' tk s)
      rw [e]
      have hl := ev_len (L := L') [tk] s ts t1 h (by simp only [tyk, ht])
      exact evL_cong l _ t1 ts' hl h2 hL
theorem mworth_cong {n : Nat} {L L' : Nat → Int32} (hL : ∀ i, i < 6 → L i = L' i) {m : Nat} (hcl : ∀ c, c < m → okCl μ n c) : ∀ k c, c + k ≤ m → mworth μ n L k c = mworth μ n L' k c
  | 0, c, h => rfl
  | k + 1, c, h => by
    obtain ⟨p, q, r, h62, h63, h64, hpq, hqr, hr, htest, hsum⟩ := hcl c (by omega)
    rw [mworth, mworth, mworth_cong hL hcl k (c + 1) (by omega), h62, h63, h64, clp (a := p) rfl, clp (a := q) rfl, clp (a := r) rfl]
    rw [evL_cong _ [] [] _ rfl hsum hL]
    rcases htest with z | z
    · subst z; simp
    · rw [evL_cong _ [] [] _ rfl z hL]
theorem mWorth_cong {n : Nat} {L L' : Nat → Int32} (hok : okLaw μ n) (hL : ∀ i, i < 6 → L i = L' i) : mWorth μ n L = mWorth μ n L' := by
  obtain ⟨m, hm, hm2, hcl⟩ := hok
  rw [mWorth, mWorth, hm, clp (a := m) rfl]
  exact mworth_cong hL hcl m 0 (by omega)
theorem mworth_mu {μ μ' : mm_mu} {n : Nat} {L : Nat → Int32} (h58 : μ' 58 = μ 58) (h59 : μ' 59 = μ 59) (h62 : μ' 62 = μ 62) (h63 : μ' 63 = μ 63) (h64 : μ' 64 = μ 64) : ∀ k c, mworth μ' n L k c = mworth μ n L k c
  | 0, c => rfl
  | k + 1, c => by rw [mworth, mworth, mworth_mu h58 h59 h62 h63 h64 k (c + 1), h62, h63, h64, mtoks_cong h58 h59, mtoks_cong h58 h59]
theorem mWorth_off {μ μ' : mm_mu} {n : Nat} {l : List Nat} (ho : Off l μ μ') (hl : ∀ c, 58 ≤ c → c ≤ 64 → c ∉ l) : mWorth μ' n = mWorth μ n := by
  funext L
  rw [mWorth, mWorth, ho 61 (hl 61 (by decide) (by decide))]
  exact mworth_mu (ho 58 (hl 58 (by decide) (by decide))) (ho 59 (hl 59 (by decide) (by decide))) (ho 62 (hl 62 (by decide) (by decide))) (ho 63 (hl 63 (by decide) (by decide))) (ho 64 (hl 64 (by decide) (by decide))) _ _
theorem okLaw_off {μ μ' : mm_mu} {n : Nat} {l : List Nat} (ho : Off l μ μ') (hl : ∀ c, 58 ≤ c → c ≤ 64 → c ∉ l) (h : okLaw μ n) : okLaw μ' n := by
  have e58 := ho 58 (hl 58 (by decide) (by decide))
  have e59 := ho 59 (hl 59 (by decide) (by decide))
  obtain ⟨m, hm, hm2, hcl⟩ := h
  refine ⟨m, by rw [ho 61 (hl 61 (by decide) (by decide))]; exact hm, hm2, fun c hc => ?_⟩
  obtain ⟨p, q, r, h62, h63, h64, hpq, hqr, hr, htest, hsum⟩ := hcl c hc
  refine ⟨p, q, r, ?_, ?_, ?_, hpq, hqr, hr, ?_, ?_⟩
  · rw [ho 62 (hl 62 (by decide) (by decide))]; exact h62
  · rw [ho 63 (hl 63 (by decide) (by decide))]; exact h63
  · rw [ho 64 (hl 64 (by decide) (by decide))]; exact h64
  · rw [mtoks_cong e58 e59]; exact htest
  · rw [mtoks_cong e58 e59]; exact hsum
theorem m_reachOf {xg xt c many : Int32} {g t : Nat} (hg : xg = nI g) (hg5 : g < 5) (ht : xt = nI t) (ht7 : t < 7) (hh : okHold μ) (hQ : ∀ μ', Off [65, 66] μ μ' → Q (some (.int (rch (mLaw μ) (μ 71 (5 * t + 3)) (μ 71 (5 * t + 4)) (far (μ 72 g) c) (μ 72 (5 + g)) (μ 71 (5 * t + 1)) many))) (HP ε μ')) : B0 (d + 6) mX12_reachOf [.ref 56, .int xg, .int xt, .int c, .int many] (HP ε μ) Q := by
  refine b0_of_G0 (lv := [.ref 56, .int xg, .int xt, .int c, .int many, .null, .null]) (by decide +kernel) (Nat.le_of_ble_eq_true rfl) rfl ?_
  have e0 : (0 : Int32) + xg = nI g := by rw [hg, l0, nI_add, Nat.zero_add]
  have e5 : 5 + xg = nI (5 + g) := by rw [hg, l5, nI_add]
  have v0 : ∀ k : Nat, k < 6 → vp_in (nI k) 6 = True := fun k hk => vinT rfl hk
  refine mw_ok (M := mX12_reachOf) (fun _ => false) okTX12 rfl 60 _ _ _ _ ?_
  simp only [eX12_reachOf_0, eX12_reachOf_1, eX12_reachOf_4, eX12_reachOf_5, eX12_reachOf_6, eX12_reachOf_7, eX12_reachOf_8, eX12_reachOf_9, eX12_reachOf_10, eX12_reachOf_13, eX12_reachOf_15, eX12_reachOf_16, eX12_reachOf_19, eX12_reachOf_20, eX12_reachOf_21, eX12_reachOf_22, eX12_reachOf_23, eX12_reachOf_24, eX12_reachOf_26, eX12_reachOf_27, eX12_reachOf_28, eX12_reachOf_30, eX12_reachOf_31, eX12_reachOf_34, eX12_reachOf_35, eX12_reachOf_38, eX12_reachOf_39, eX12_reachOf_42, eX12_reachOf_43, eX12_reachOf_44, eX12_reachOf_45, eX12_reachOf_46, eX12_reachOf_49, eX12_reachOf_50, eX12_reachOf_51, eX12_reachOf_54, eX12_reachOf_55, eX12_reachOf_56, eX12_reachOf_57, eX12_reachOf_58, eX12_reachOf_61, eX12_reachOf_62, eX12_reachOf_63, eX12_reachOf_66, eX12_reachOf_67, eX12_reachOf_69, eX12_reachOf_70, eX12_reachOf_71, eX12_reachOf_74, eX12_reachOf_75, eX12_reachOf_76, eX12_reachOf_79, eX12_reachOf_80, eX12_reachOf_81, eX12_reachOf_82, eX12_reachOf_83, eX12_reachOf_84, eX12_reachOf_85, eX12_reachOf_88, eX12_reachOf_89, eX12_reachOf_90, eX12_reachOf_91, eX12_reachOf_92, eX12_reachOf_95, eX12_reachOf_96, eX12_reachOf_97, eX12_reachOf_100, eX12_reachOf_101, eX12_reachOf_103, eX12_reachOf_104, eX12_reachOf_105, eX12_reachOf_106, eX12_reachOf_109, eX12_reachOf_112, eX12_reachOf_114, eX12_reachOf_115, eX12_reachOf_117, eX12_reachOf_119, eX12_reachOf_122, eX12_reachOf_125, st_aload, st_iadd, st_iconst, st_ic_eq, st_ic_ne, st_ic_lt, st_ic_ge, st_ic_gt, st_ic_le, st_iload, st_imul, st_ins, st_inv, st_iret, st_zret, st_bret, st_istore, st_isub, gf_56_1215, gf_56_1226, gf_56_1228, ld_57, sv_57, ld_58, sv_58, ld_59, sv_59, ld_60, sv_60, ld_61, sv_61, ld_62, sv_62, ld_63, sv_63, ld_64, sv_64, ld_65, sv_65, ld_66, sv_66, ld_67, sv_67, ld_68, sv_68, ld_69, sv_69, ld_70, sv_70, ld_71, sv_71, ld_72, sv_72, ld_73, sv_73, ld_74, sv_74, ld_75, sv_75, ld_76, sv_76, ld_77, sv_77, ld_78, sv_78, ld_79, sv_79, ld_80, sv_80, ld_81, sv_81, ld_82, sv_82, ld_83, sv_83, ld_85, sv_85, HP_56, tab_159, tab_169, tab_262, tab_263, tab_264, mm_cut, cond_false, cond_true, List.getElem?_cons_succ, List.getElem?_cons_zero, Int.reduceToNat, Nat.reduceMod, Nat.reduceDiv, Nat.reduceAdd, true_and, and_true, mm_set, mm_set2, mm_pop, List.length_cons, List.length_nil, Nat.reduceLeDiff, Int32.reduceOfInt, Int64.reduceOfInt, nar_b0, nar_b1, List.cons_append, List.nil_append, Option.toList_some, Option.toList_none, List.map_cons, List.map_nil, List.sum_cons, List.sum_nil, cat_i, cat_r, cat_l, Nat.zero_le, Int32.reduceOfNat, Int32.reduceAdd, Int32.reduceLT, Int32.reduceLE, forall_const, true_implies, false_implies, not_false_eq_true, not_true_eq_false, bi_eq0, bi_ne0, sl_0, sl_3, va_rf, Nat.reduceEqDiff, if_false, ite_false, ite_true, reduceIte, List.set_cons_zero, List.set_cons_succ, Nat.succ_eq_add_one, mup_c, mup_s, mw_zero, ne_eq, lit_10, lit_01, lit_m10, lit_m11, nar_bi, e0, e5, clp (a := g) rfl (by omega), clp (a := 5 + g) rfl (by omega), vinT (a := g) rfl (show g < 202 by omega), vinT (a := 5 + g) rfl (show 5 + g < 202 by omega), far_r, clamp_r]
  refine ⟨fun h1 => ?_, fun h1 => ?_⟩
  · have := hQ μ Off.rf
    rw [mLaw, if_pos h1] at this
    exact this
  · obtain ⟨n, hn4, hn, hok⟩ := hh.resolve_left h1
    have hl : mLaw μ = some (mWorth μ n) := by rw [mLaw, if_neg h1, hn, clp (a := n) rfl]
    refine m_of ht (k := 3) rfl (by omega) ?_
    refine mw_ok (M := mX12_reachOf) (fun _ => false) okTX12 rfl 40 _ _ _ _ ?_
    simp only [eX12_reachOf_0, eX12_reachOf_1, eX12_reachOf_4, eX12_reachOf_5, eX12_reachOf_6, eX12_reachOf_7, eX12_reachOf_8, eX12_reachOf_9, eX12_reachOf_10, eX12_reachOf_13, eX12_reachOf_15, eX12_reachOf_16, eX12_reachOf_19, eX12_reachOf_20, eX12_reachOf_21, eX12_reachOf_22, eX12_reachOf_23, eX12_reachOf_24, eX12_reachOf_26, eX12_reachOf_27, eX12_reachOf_28, eX12_reachOf_30, eX12_reachOf_31, eX12_reachOf_34, eX12_reachOf_35, eX12_reachOf_38, eX12_reachOf_39, eX12_reachOf_42, eX12_reachOf_43, eX12_reachOf_44, eX12_reachOf_45, eX12_reachOf_46, eX12_reachOf_49, eX12_reachOf_50, eX12_reachOf_51, eX12_reachOf_54, eX12_reachOf_55, eX12_reachOf_56, eX12_reachOf_57, eX12_reachOf_58, eX12_reachOf_61, eX12_reachOf_62, eX12_reachOf_63, eX12_reachOf_66, eX12_reachOf_67, eX12_reachOf_69, eX12_reachOf_70, eX12_reachOf_71, eX12_reachOf_74, eX12_reachOf_75, eX12_reachOf_76, eX12_reachOf_79, eX12_reachOf_80, eX12_reachOf_81, eX12_reachOf_82, eX12_reachOf_83, eX12_reachOf_84, eX12_reachOf_85, eX12_reachOf_88, eX12_reachOf_89, eX12_reachOf_90, eX12_reachOf_91, eX12_reachOf_92, eX12_reachOf_95, eX12_reachOf_96, eX12_reachOf_97, eX12_reachOf_100, eX12_reachOf_101, eX12_reachOf_103, eX12_reachOf_104, eX12_reachOf_105, eX12_reachOf_106, eX12_reachOf_109, eX12_reachOf_112, eX12_reachOf_114, eX12_reachOf_115, eX12_reachOf_117, eX12_reachOf_119, eX12_reachOf_122, eX12_reachOf_125, st_aload, st_iadd, st_iconst, st_ic_eq, st_ic_ne, st_ic_lt, st_ic_ge, st_ic_gt, st_ic_le, st_iload, st_imul, st_ins, st_inv, st_iret, st_zret, st_bret, st_istore, st_isub, gf_56_1215, gf_56_1226, gf_56_1228, ld_57, sv_57, ld_58, sv_58, ld_59, sv_59, ld_60, sv_60, ld_61, sv_61, ld_62, sv_62, ld_63, sv_63, ld_64, sv_64, ld_65, sv_65, ld_66, sv_66, ld_67, sv_67, ld_68, sv_68, ld_69, sv_69, ld_70, sv_70, ld_71, sv_71, ld_72, sv_72, ld_73, sv_73, ld_74, sv_74, ld_75, sv_75, ld_76, sv_76, ld_77, sv_77, ld_78, sv_78, ld_79, sv_79, ld_80, sv_80, ld_81, sv_81, ld_82, sv_82, ld_83, sv_83, ld_85, sv_85, HP_56, tab_159, tab_169, tab_262, tab_263, tab_264, mm_cut, cond_false, cond_true, List.getElem?_cons_succ, List.getElem?_cons_zero, Int.reduceToNat, Nat.reduceMod, Nat.reduceDiv, Nat.reduceAdd, true_and, and_true, mm_set, mm_set2, mm_pop, List.length_cons, List.length_nil, Nat.reduceLeDiff, Int32.reduceOfInt, Int64.reduceOfInt, nar_b0, nar_b1, List.cons_append, List.nil_append, Option.toList_some, Option.toList_none, List.map_cons, List.map_nil, List.sum_cons, List.sum_nil, cat_i, cat_r, cat_l, Nat.zero_le, Int32.reduceOfNat, Int32.reduceAdd, Int32.reduceLT, Int32.reduceLE, forall_const, true_implies, false_implies, not_false_eq_true, not_true_eq_false, bi_eq0, bi_ne0, sl_0, sl_3, va_rf, Nat.reduceEqDiff, if_false, ite_false, ite_true, reduceIte, List.set_cons_zero, List.set_cons_succ, Nat.succ_eq_add_one, mup_c, mup_s, mw_zero, ne_eq, lit_10, lit_01, lit_m10, lit_m11, nar_bi, vinT (a := 0) l0 (show 0 < 6 by decide), clp (a := 0) l0, far_r]
    refine m_of ht (k := 4) rfl (by omega) ?_
    refine mw_ok (M := mX12_reachOf) (fun _ => false) okTX12 rfl 40 _ _ _ _ ?_
    simp only [eX12_reachOf_0, eX12_reachOf_1, eX12_reachOf_4, eX12_reachOf_5, eX12_reachOf_6, eX12_reachOf_7, eX12_reachOf_8, eX12_reachOf_9, eX12_reachOf_10, eX12_reachOf_13, eX12_reachOf_15, eX12_reachOf_16, eX12_reachOf_19, eX12_reachOf_20, eX12_reachOf_21, eX12_reachOf_22, eX12_reachOf_23, eX12_reachOf_24, eX12_reachOf_26, eX12_reachOf_27, eX12_reachOf_28, eX12_reachOf_30, eX12_reachOf_31, eX12_reachOf_34, eX12_reachOf_35, eX12_reachOf_38, eX12_reachOf_39, eX12_reachOf_42, eX12_reachOf_43, eX12_reachOf_44, eX12_reachOf_45, eX12_reachOf_46, eX12_reachOf_49, eX12_reachOf_50, eX12_reachOf_51, eX12_reachOf_54, eX12_reachOf_55, eX12_reachOf_56, eX12_reachOf_57, eX12_reachOf_58, eX12_reachOf_61, eX12_reachOf_62, eX12_reachOf_63, eX12_reachOf_66, eX12_reachOf_67, eX12_reachOf_69, eX12_reachOf_70, eX12_reachOf_71, eX12_reachOf_74, eX12_reachOf_75, eX12_reachOf_76, eX12_reachOf_79, eX12_reachOf_80, eX12_reachOf_81, eX12_reachOf_82, eX12_reachOf_83, eX12_reachOf_84, eX12_reachOf_85, eX12_reachOf_88, eX12_reachOf_89, eX12_reachOf_90, eX12_reachOf_91, eX12_reachOf_92, eX12_reachOf_95, eX12_reachOf_96, eX12_reachOf_97, eX12_reachOf_100, eX12_reachOf_101, eX12_reachOf_103, eX12_reachOf_104, eX12_reachOf_105, eX12_reachOf_106, eX12_reachOf_109, eX12_reachOf_112, eX12_reachOf_114, eX12_reachOf_115, eX12_reachOf_117, eX12_reachOf_119, eX12_reachOf_122, eX12_reachOf_125, st_aload, st_iadd, st_iconst, st_ic_eq, st_ic_ne, st_ic_lt, st_ic_ge, st_ic_gt, st_ic_le, st_iload, st_imul, st_ins, st_inv, st_iret, st_zret, st_bret, st_istore, st_isub, gf_56_1215, gf_56_1226, gf_56_1228, ld_57, sv_57, ld_58, sv_58, ld_59, sv_59, ld_60, sv_60, ld_61, sv_61, ld_62, sv_62, ld_63, sv_63, ld_64, sv_64, ld_65, sv_65, ld_66, sv_66, ld_67, sv_67, ld_68, sv_68, ld_69, sv_69, ld_70, sv_70, ld_71, sv_71, ld_72, sv_72, ld_73, sv_73, ld_74, sv_74, ld_75, sv_75, ld_76, sv_76, ld_77, sv_77, ld_78, sv_78, ld_79, sv_79, ld_80, sv_80, ld_81, sv_81, ld_82, sv_82, ld_83, sv_83, ld_85, sv_85, HP_56, tab_159, tab_169, tab_262, tab_263, tab_264, mm_cut, cond_false, cond_true, List.getElem?_cons_succ, List.getElem?_cons_zero, Int.reduceToNat, Nat.reduceMod, Nat.reduceDiv, Nat.reduceAdd, true_and, and_true, mm_set, mm_set2, mm_pop, List.length_cons, List.length_nil, Nat.reduceLeDiff, Int32.reduceOfInt, Int64.reduceOfInt, nar_b0, nar_b1, List.cons_append, List.nil_append, Option.toList_some, Option.toList_none, List.map_cons, List.map_nil, List.sum_cons, List.sum_nil, cat_i, cat_r, cat_l, Nat.zero_le, Int32.reduceOfNat, Int32.reduceAdd, Int32.reduceLT, Int32.reduceLE, forall_const, true_implies, false_implies, not_false_eq_true, not_true_eq_false, bi_eq0, bi_ne0, sl_0, sl_3, va_rf, Nat.reduceEqDiff, if_false, ite_false, ite_true, reduceIte, List.set_cons_zero, List.set_cons_succ, Nat.succ_eq_add_one, mup_c, mup_s, mw_zero, ne_eq, lit_10, lit_01, lit_m10, lit_m11, nar_bi, vinT (a := 1) l1 (show 1 < 6 by decide), clp (a := 1) l1, vinT (a := 2) l2 (show 2 < 6 by decide), clp (a := 2) l2, vinT (a := 3) l3 (show 3 < 6 by decide), clp (a := 3) l3, e5, clp (a := 5 + g) rfl (by omega), vinT (a := 5 + g) rfl (show 5 + g < 202 by omega)]
    refine m_of ht (k := 1) rfl (by omega) ?_
    refine mw_ok (M := mX12_reachOf) (fun _ => false) okTX12 rfl 40 _ _ _ _ ?_
    simp only [eX12_reachOf_0, eX12_reachOf_1, eX12_reachOf_4, eX12_reachOf_5, eX12_reachOf_6, eX12_reachOf_7, eX12_reachOf_8, eX12_reachOf_9, eX12_reachOf_10, eX12_reachOf_13, eX12_reachOf_15, eX12_reachOf_16, eX12_reachOf_19, eX12_reachOf_20, eX12_reachOf_21, eX12_reachOf_22, eX12_reachOf_23, eX12_reachOf_24, eX12_reachOf_26, eX12_reachOf_27, eX12_reachOf_28, eX12_reachOf_30, eX12_reachOf_31, eX12_reachOf_34, eX12_reachOf_35, eX12_reachOf_38, eX12_reachOf_39, eX12_reachOf_42, eX12_reachOf_43, eX12_reachOf_44, eX12_reachOf_45, eX12_reachOf_46, eX12_reachOf_49, eX12_reachOf_50, eX12_reachOf_51, eX12_reachOf_54, eX12_reachOf_55, eX12_reachOf_56, eX12_reachOf_57, eX12_reachOf_58, eX12_reachOf_61, eX12_reachOf_62, eX12_reachOf_63, eX12_reachOf_66, eX12_reachOf_67, eX12_reachOf_69, eX12_reachOf_70, eX12_reachOf_71, eX12_reachOf_74, eX12_reachOf_75, eX12_reachOf_76, eX12_reachOf_79, eX12_reachOf_80, eX12_reachOf_81, eX12_reachOf_82, eX12_reachOf_83, eX12_reachOf_84, eX12_reachOf_85, eX12_reachOf_88, eX12_reachOf_89, eX12_reachOf_90, eX12_reachOf_91, eX12_reachOf_92, eX12_reachOf_95, eX12_reachOf_96, eX12_reachOf_97, eX12_reachOf_100, eX12_reachOf_101, eX12_reachOf_103, eX12_reachOf_104, eX12_reachOf_105, eX12_reachOf_106, eX12_reachOf_109, eX12_reachOf_112, eX12_reachOf_114, eX12_reachOf_115, eX12_reachOf_117, eX12_reachOf_119, eX12_reachOf_122, eX12_reachOf_125, st_aload, st_iadd, st_iconst, st_ic_eq, st_ic_ne, st_ic_lt, st_ic_ge, st_ic_gt, st_ic_le, st_iload, st_imul, st_ins, st_inv, st_iret, st_zret, st_bret, st_istore, st_isub, gf_56_1215, gf_56_1226, gf_56_1228, ld_57, sv_57, ld_58, sv_58, ld_59, sv_59, ld_60, sv_60, ld_61, sv_61, ld_62, sv_62, ld_63, sv_63, ld_64, sv_64, ld_65, sv_65, ld_66, sv_66, ld_67, sv_67, ld_68, sv_68, ld_69, sv_69, ld_70, sv_70, ld_71, sv_71, ld_72, sv_72, ld_73, sv_73, ld_74, sv_74, ld_75, sv_75, ld_76, sv_76, ld_77, sv_77, ld_78, sv_78, ld_79, sv_79, ld_80, sv_80, ld_81, sv_81, ld_82, sv_82, ld_83, sv_83, ld_85, sv_85, HP_56, tab_159, tab_169, tab_262, tab_263, tab_264, mm_cut, cond_false, cond_true, List.getElem?_cons_succ, List.getElem?_cons_zero, Int.reduceToNat, Nat.reduceMod, Nat.reduceDiv, Nat.reduceAdd, true_and, and_true, mm_set, mm_set2, mm_pop, List.length_cons, List.length_nil, Nat.reduceLeDiff, Int32.reduceOfInt, Int64.reduceOfInt, nar_b0, nar_b1, List.cons_append, List.nil_append, Option.toList_some, Option.toList_none, List.map_cons, List.map_nil, List.sum_cons, List.sum_nil, cat_i, cat_r, cat_l, Nat.zero_le, Int32.reduceOfNat, Int32.reduceAdd, Int32.reduceLT, Int32.reduceLE, forall_const, true_implies, false_implies, not_false_eq_true, not_true_eq_false, bi_eq0, bi_ne0, sl_0, sl_3, va_rf, Nat.reduceEqDiff, if_false, ite_false, ite_true, reduceIte, List.set_cons_zero, List.set_cons_succ, Nat.succ_eq_add_one, mup_c, mup_s, mw_zero, ne_eq, lit_10, lit_01, lit_m10, lit_m11, nar_bi, vinT (a := 4) l4 (show 4 < 6 by decide), clp (a := 4) l4, vinT (a := 5) l5 (show 5 < 6 by decide), clp (a := 5) l5]
    have hoff : Off [65] μ (mup (mup (mup (mup (mup (mup μ 65 0 (μ 71 (5 * t + 3))) 65 1 (μ 71 (5 * t + 4))) 65 2 (far (μ 72 g) c)) 65 3 (μ 72 (5 + g))) 65 4 (μ 71 (5 * t + 1))) 65 5 many) := ((((((Off.rf.up (by decide)).up (by decide)).up (by decide)).up (by decide)).up (by decide)).up (by decide))
    refine m_worthOf hn (by omega) (okLaw_off hoff (by intro c h1 h2; simp; omega) hok) ?_
    intro μ2 ho2
    rw [mWorth_off hoff (by intro c h1 h2; simp; omega)]
    refine mw_ok (M := mX12_reachOf) (fun _ => false) okTX12 rfl 40 _ _ _ _ ?_
    simp only [eX12_reachOf_0, eX12_reachOf_1, eX12_reachOf_4, eX12_reachOf_5, eX12_reachOf_6, eX12_reachOf_7, eX12_reachOf_8, eX12_reachOf_9, eX12_reachOf_10, eX12_reachOf_13, eX12_reachOf_15, eX12_reachOf_16, eX12_reachOf_19, eX12_reachOf_20, eX12_reachOf_21, eX12_reachOf_22, eX12_reachOf_23, eX12_reachOf_24, eX12_reachOf_26, eX12_reachOf_27, eX12_reachOf_28, eX12_reachOf_30, eX12_reachOf_31, eX12_reachOf_34, eX12_reachOf_35, eX12_reachOf_38, eX12_reachOf_39, eX12_reachOf_42, eX12_reachOf_43, eX12_reachOf_44, eX12_reachOf_45, eX12_reachOf_46, eX12_reachOf_49, eX12_reachOf_50, eX12_reachOf_51, eX12_reachOf_54, eX12_reachOf_55, eX12_reachOf_56, eX12_reachOf_57, eX12_reachOf_58, eX12_reachOf_61, eX12_reachOf_62, eX12_reachOf_63, eX12_reachOf_66, eX12_reachOf_67, eX12_reachOf_69, eX12_reachOf_70, eX12_reachOf_71, eX12_reachOf_74, eX12_reachOf_75, eX12_reachOf_76, eX12_reachOf_79, eX12_reachOf_80, eX12_reachOf_81, eX12_reachOf_82, eX12_reachOf_83, eX12_reachOf_84, eX12_reachOf_85, eX12_reachOf_88, eX12_reachOf_89, eX12_reachOf_90, eX12_reachOf_91, eX12_reachOf_92, eX12_reachOf_95, eX12_reachOf_96, eX12_reachOf_97, eX12_reachOf_100, eX12_reachOf_101, eX12_reachOf_103, eX12_reachOf_104, eX12_reachOf_105, eX12_reachOf_106, eX12_reachOf_109, eX12_reachOf_112, eX12_reachOf_114, eX12_reachOf_115, eX12_reachOf_117, eX12_reachOf_119, eX12_reachOf_122, eX12_reachOf_125, st_aload, st_iadd, st_iconst, st_ic_eq, st_ic_ne, st_ic_lt, st_ic_ge, st_ic_gt, st_ic_le, st_iload, st_imul, st_ins, st_inv, st_iret, st_zret, st_bret, st_istore, st_isub, gf_56_1215, gf_56_1226, gf_56_1228, ld_57, sv_57, ld_58, sv_58, ld_59, sv_59, ld_60, sv_60, ld_61, sv_61, ld_62, sv_62, ld_63, sv_63, ld_64, sv_64, ld_65, sv_65, ld_66, sv_66, ld_67, sv_67, ld_68, sv_68, ld_69, sv_69, ld_70, sv_70, ld_71, sv_71, ld_72, sv_72, ld_73, sv_73, ld_74, sv_74, ld_75, sv_75, ld_76, sv_76, ld_77, sv_77, ld_78, sv_78, ld_79, sv_79, ld_80, sv_80, ld_81, sv_81, ld_82, sv_82, ld_83, sv_83, ld_85, sv_85, HP_56, tab_159, tab_169, tab_262, tab_263, tab_264, mm_cut, cond_false, cond_true, List.getElem?_cons_succ, List.getElem?_cons_zero, Int.reduceToNat, Nat.reduceMod, Nat.reduceDiv, Nat.reduceAdd, true_and, and_true, mm_set, mm_set2, mm_pop, List.length_cons, List.length_nil, Nat.reduceLeDiff, Int32.reduceOfInt, Int64.reduceOfInt, nar_b0, nar_b1, List.cons_append, List.nil_append, Option.toList_some, Option.toList_none, List.map_cons, List.map_nil, List.sum_cons, List.sum_nil, cat_i, cat_r, cat_l, Nat.zero_le, Int32.reduceOfNat, Int32.reduceAdd, Int32.reduceLT, Int32.reduceLE, forall_const, true_implies, false_implies, not_false_eq_true, not_true_eq_false, bi_eq0, bi_ne0, sl_0, sl_3, va_rf, Nat.reduceEqDiff, if_false, ite_false, ite_true, reduceIte, List.set_cons_zero, List.set_cons_succ, Nat.succ_eq_add_one, mup_c, mup_s, mw_zero, ne_eq, lit_10, lit_01, lit_m10, lit_m11, nar_bi, clamp_r]
    have := hQ μ2 ((hoff.mono (by simp)).tr (ho2.mono (by simp)))
    rw [hl] at this
    simp only [rch] at this
    rw [mWorth_cong hok (L' := lets (μ 71 (5 * t + 3)) (μ 71 (5 * t + 4)) (far (μ 72 g) c) (μ 72 (5 + g)) (μ 71 (5 * t + 1)) many)]
    · exact this
    · intro i hi
      simp only [mup_s, lets]
      rcases (show i = 0 ∨ i = 1 ∨ i = 2 ∨ i = 3 ∨ i = 4 ∨ i = 5 by omega) with rfl | rfl | rfl | rfl | rfl | rfl <;> rfl
end M4
