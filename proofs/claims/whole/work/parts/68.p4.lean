/-! PAIRS: drives and years -/
/-- the class's cells of one, the reference's of the other -/
def mix (μc μm : mm_mu) : mm_mu := fun c => if 56 ≤ c ∧ c < 87 then μm c else μc c
theorem mix_c {μc μm : mm_mu} {c : Nat} (h : ¬ (56 ≤ c ∧ c < 87)) : mix μc μm c = μc c := if_neg h
theorem mix_m {μc μm : mm_mu} {c : Nat} (h : 56 ≤ c ∧ c < 87) : mix μc μm c = μm c := if_pos h
theorem mix_self {μ : mm_mu} : mix μ μ = μ := by funext c; unfold mix; split <;> rfl
theorem mix_off {lc lm fm : List Nat} {μc μc' μm μm' : mm_mu} (hc : Off lc μc μc') (hm : OffF lm fm μm μm') : OffF (lc ++ lm) fm (mix μc μm) (mix μc' μm') := by
  refine ⟨fun c hcm => ?_, fun i hi => ?_⟩
  · unfold mix
    simp only [List.mem_cons, List.mem_append, not_or] at hcm
    split
    · exact hm.at hcm.2.2 hcm.1
    · exact hc c hcm.2.1
  · show μm' 56 i = μm 56 i
    exact hm.2 i hi
abbrev lD : List Nat := [24, 25, 27, 42, 17, 32, 33, 34, 35, 37, 89, 92, 95, 98, 72, 65, 66, 74, 75, 76, 77]
section P4
variable {d : Nat} {ε : mm_X} {μ : mm_mu} {Q : mm_Q0} {h : mm_H} {tn gn a p ln sz m : Nat} {dy : Nat → Nat} {lw : Option ((Nat → Int32) → Int32)}
theorem JX.actD {μ2 μ3 : mm_mu} (h : JX ε μ tn gn a p dy ln sz m) (hp1 : PA μ2 ((p + 1) % 40) (knum a)) (hs1 : ∀ j, j < 21 → μ2 41 (21 * p + j) = csv μ 24 j) (hr1 : ∀ i, ¬ (21 * p ≤ i ∧ i < 21 * p + 21) → μ2 41 i = μ 41 i) (f4 : μ2 40 4 = μ 40 4) (hk2 : KR μ2 (knum a) (kput a (mrow μ) (μ 72))) (ho : OffF [40, 41, 78] [39] μ μ2)
    (ho3 : OffF lD [34, 35, 36, 37] μ2 μ3) (h42 : ∀ i, i ≠ dy a % 100 → μ3 42 i = μ2 42 i) (hR : RW gn (csv μ3 24) (μ3 72) (μ3 42) (dy a + 1)) : ∃ dy', JX ε μ3 tn gn (knum a) ((p + 1) % 40) dy' ln sz m ∧ dy' (knum a) = dy a + 1 := by
  obtain ⟨jE, jA, jI, jL, jT, jS, jM⟩ := h
  have hg5 := jE.2.1
  have e42 : μ2 42 = μ 42 := ho.at (by decide)
  obtain ⟨dy', hK⟩ := jA.keep hg5 hp1 hs1 hr1 e42 hk2
  have hK3 : JK μ3 gn (knum a) ((p + 1) % 40) dy' (dy a) := hK.ring hg5 (ho3.at (by decide)) (ho3.at (by decide)) h42 (ho3.at (by decide)) (ho3.2 39 (by decide))
  have c : ∀ k, k ≠ 56 → k ∉ 40 :: 41 :: 78 :: lD → μ3 k = μ k := fun k hk hm => by
    rw [ho3.at (fun z => hm (List.mem_cons_of_mem _ (List.mem_cons_of_mem _ (List.mem_cons_of_mem _ z)))) hk, ho.at (fun z => hm (by simp at z ⊢; omega)) hk]
  have f : ∀ k, k ≠ 39 → k ∉ [34, 35, 36, 37] → μ3 56 k = μ 56 k := fun k hk hm => by
    rw [ho3.2 k hm, ho.2 k (by simpa using hk)]
  have f40 : μ3 40 4 = μ 40 4 := by rw [ho3.at (show 40 ∉ lD by decide), f4]
  obtain ⟨q1, q2, q3, q4, q5, q6⟩ := hK3
  refine ⟨fun j => if j = knum a then dy a + 1 else dy' j, ⟨jE.of (c _ (by decide) (by decide)) (c _ (by decide) (by decide)) (c _ (by decide) (by decide)) (c _ (by decide) (by decide)) (c _ (by decide) (by decide)) (c _ (by decide) (by decide)) (c _ (by decide) (by decide)) (f _ (by decide) (by decide)) (f _ (by decide) (by decide)), ⟨?_, q1, q2, fun j hj => ?_, fun j hj => ?_⟩, ?_, jL.of (c _ (by decide) (by decide)) (c _ (by decide) (by decide)) (c _ (by decide) (by decide)) (c _ (by decide) (by decide)) (c _ (by decide) (by decide)) (c _ (by decide) (by decide)) (c _ (by decide) (by decide)) (c _ (by decide) (by decide)) (fun n hn => c _ (by omega) (by simp; omega)) (f _ (by decide) (by decide)) (f _ (by decide) (by decide)), jT.of (by rw [c 1 (by decide) (by decide)]) (c _ (by decide) (by decide)) (c _ (by decide) (by decide)) (f _ (by decide) (by decide)), jS.of (c _ (by decide) (by decide)) (c _ (by decide) (by decide)) (c _ (by decide) (by decide)) (c _ (by decide) (by decide)) (c _ (by decide) (by decide)) (c _ (by decide) (by decide)) (c _ (by decide) (by decide)) (c _ (by decide) (by decide)) (c _ (by decide) (by decide)) (f _ (by decide) (by decide)), jM.of (c _ (by decide) (by decide)) (c _ (by decide) (by decide)) (c _ (by decide) (by decide)) (c _ (by decide) (by decide)) (by rw [c 10 (by decide) (by decide)]) (f _ (by decide) (by decide))⟩, by simp⟩
  · simp only [if_true]; exact hR
  · simp only [if_neg (show ¬ j = knum a by omega)]; exact q5 j hj
  · dsimp only
    rw [if_neg (show ¬ j = knum a by omega)]
    by_cases hja : j + 1 = knum a
    · rw [if_pos hja]
      rw [show knum a - 1 = j by omega] at q4
      omega
    · rw [if_neg hja]; exact q6 j (by omega)
  · unfold JI at *
    rw [f40, f 51 (by decide) (by decide), c 43 (by decide) (by decide), c 44 (by decide) (by decide), c 85 (by decide) (by decide)]
    exact jI
theorem cth_of {μ' : mm_mu} (h : ∀ c, 19 ≤ c → c ≤ 23 → μ' c = μ c) : cth μ' = cth μ := by
  funext i; unfold cth; rw [h _ (by omega) (by omega)]
theorem cnow_of {μ' : mm_mu} {s : Nat} (e0 : μ' s = μ s) (e1 : μ' (s + 1) = μ (s + 1)) (e2 : μ' (s + 2) = μ (s + 2)) (e3 : μ' (s + 3) = μ (s + 3)) : cnow μ' s = cnow μ s := by
  funext i; unfold cnow; rw [e0, e1, e2, e3]
/-- kept, then a drive, on both sides; what is between (draws) changes the season alike -/
theorem pair_step {μc μc1 μb μc2 μm μm1 μn μm2 : mm_mu} (h : JX ε (mix μc μm) tn gn a p dy ln sz m) (hlw : mLaw μm = lw) (ht0 : 0 < tn) (hk : CKp p a μc μc1) (hm : MKp a μm μm1) (hb : Off [24, 25] μc1 μb) (hn : OffF [72] [] μm1 μn) (hR : RW gn (csv μb 24) (μn 72) (μc 42) (dy a)) (hc : CDr lw tn gn (dy a) μb μc2) (hd : MDr tn gn (min (dy a) 60) μn μm2) (hD : dy a < 999) : (∃ dy', JX ε (mix μc2 μm2) tn gn (knum a) ((p + 1) % 40) dy' ln sz m ∧ dy' (knum a) = dy a + 1) ∧ mLaw μm2 = lw := by
  obtain ⟨k1, k2, k3, k4, k5⟩ := hk
  obtain ⟨m1, m2⟩ := hm
  obtain ⟨S, hS, c1, c2, c3, c4, c5, c6, c7, c8⟩ := hc
  obtain ⟨S', hS', d1, d2, d3⟩ := hd
  have jE := h.1
  have hg5 := jE.2.1
  have ht7 := jE.1
  have hl1 : mLaw μm1 = lw := by rw [mLaw_F m1 (by intro c h1 h2; simp; omega) (by decide)]; exact hlw
  have hln : mLaw μn = lw := by rw [mLaw_F hn (by intro c h1 h2; simp; omega) (by decide)]; exact hl1
  have hSS : S' = S := by
    rw [hS', hS, DRV_is, hln]
    have e1 : cth μb = cth (mix μc μm) := by
      rw [cth_of (μ := μc1) (fun c h1 h2 => hb c (by simp; omega)), cth_of (μ := μc) (fun c h1 h2 => k1 c (by simp; omega))]
      exact (cth_of (fun c h1 h2 => mix_c (by omega))).symm
    have e2 : μn 71 = mix μc μm 71 := by rw [hn.at (by decide), m1.at (by decide)]; rfl
    obtain ⟨r1, r2, r3, -⟩ := hR
    have r2 := r2 (jE.2.2.1 ht0)
    rw [e1, e2]
    refine (DRV_cong (fun t ht => jE.th ht) (fun g hg => ?_) ?_ ?_ ?_ ?_).symm
    · have := r1 g hg
      rw [csv_p (by omega), csv_s (by omega)] at this
      rw [cnow_p (by omega), cnow_s (by omega)]
      exact ⟨this.1, this.2.1⟩
    · exact r2.1
    · exact r2.2.1
    · exact r2.2.2
    · exact r3.1
  subst hSS
  refine ⟨?_, by rw [mLaw_F d1 (by intro c h1 h2; simp; omega) (by decide)]; exact hln⟩
  have hbs : BS S' 63 := by
    rw [hS', DRV_is]
    refine BS_DRV ht7 (fun t ht => ?_)
    rw [hn.at (show 71 ∉ [72] by decide), m1.at (show 71 ∉ [78] by decide)]
    have q := jE.2.2.2.2.2.2.2 t ht
    have e : mix μc μm 71 = μm 71 := rfl
    rw [e] at q
    rw [← q.1.2.2.2.1]; exact q.2
  have hR3 := hR.drive (c' := csv μc2 24) (m' := μm2 72) hg5 hD hbs d2 d3 (fun i h16 i1 i4 i5 => by
      by_cases h6 : i < 6
      · rw [csv_lo h6, csv_lo h6]; exact c2 i i1 i4 i5
      · unfold csv
        rw [c1 (24 + 1) (by decide), c1 (24 + 2) (by decide)]
        simp only [if_neg h6, if_pos h16]) (by rw [csv_lo (by decide), csv_lo (by decide)]; exact c3) (by rw [csv_lo (by decide), csv_lo (by decide)]; exact c4) (by rw [csv_lo (by decide), csv_lo (by decide)]; exact c5) (fun g hg => by rw [csv_b (by omega), csv_b (by omega)]; exact c6 g hg) (fun g g1 g2 => by rw [csv_b g2, csv_b g2]; exact c7 g g1)
  have e42 : μb 42 = μc 42 := by rw [hb 42 (by decide), k1 42 (by decide)]
  rw [e42] at c8
  rw [← c8] at hR3
  refine h.actD (μ2 := mix μc1 μm1) (μ3 := mix μc2 μm2) k2 k4 k5 k3 ?_ ?_ ?_ ?_ hR3
  · exact m2
  · exact (mix_off k1 m1).mono (by simp) (by simp)
  · have hcc : Off [24, 25, 27, 42, 17, 32, 33, 34, 35, 37, 89, 92, 95, 98] μc1 μc2 := (hb.mono (by simp)).tr (c1.mono (by simp))
    have hmm : OffF [72, 65, 66, 74, 75, 76, 77] [34, 35, 36, 37] μm1 μm2 := (hn.mono (by simp) (by simp)).tr d1
    exact (mix_off hcc hmm).mono (by simp) (by simp)
  · intro i hi
    show μc2 42 i = μc1 42 i
    rw [c8, un hi, k1 42 (by decide)]
theorem CI_MI : ∀ (k : Nat) (p a : Nat) (dy : Nat → Nat) (μc μm μc' μm' : mm_mu), JX ε (mix μc μm) tn gn a p dy ln sz m → mLaw μm = lw → 0 < tn → dy a + k ≤ 999 → CI lw tn gn k p a (dy a) μc μc' → MI tn gn k a (min (dy a) 60) μm μm' → J ε (mix μc' μm') ∧ μm' 72 20 = nI (dy a + k)
  | 0, p, a, dy, μc, μm, μc', μm', h, hlw, ht0, hD, hc, hm => by
    rw [show μc' = μc from hc, show μm' = μm from hm]
    exact ⟨⟨_, _, _, _, _, _, _, _, h⟩, h.2.1.1.2.2.2.2.2.2.1⟩
  | k + 1, p, a, dy, μc, μm, μc', μm', h, hlw, ht0, hD, hc, hm => by
    obtain ⟨μc1, μc2, hck, hcd, hci⟩ := hc
    obtain ⟨μm1, μm2, hmk, hmd, hmi⟩ := hm
    have hR : RW gn (csv μc1 24) (μm1 72) (μc 42) (dy a) := by
      have := h.2.1.1
      have e1 : csv (mix μc μm) 24 = csv μc1 24 := (csv_of (hck.1 24 (by decide)) (hck.1 25 (by decide)) (hck.1 26 (by decide)) (hck.1 27 (by decide))).symm
      have e2 : mix μc μm 72 = μm1 72 := (hmk.1.at (by decide)).symm
      rw [e1, e2] at this
      exact this
    obtain ⟨⟨dy', hJ', hdy'⟩, hlw'⟩ := pair_step h hlw ht0 hck hmk Off.rf OffF.rf hR hcd hmd (by omega)
    have hln : lnum (min (dy a) 60) = min (dy' (knum a)) 60 := by rw [hdy']; unfold lnum; split <;> omega
    rw [hln] at hmi
    rw [← hdy'] at hci
    have := CI_MI k ((p + 1) % 40) (knum a) dy' μc2 μm2 μc' μm' hJ' hlw' ht0 (by omega) hci hmi
    rw [hdy', show dy a + 1 + k = dy a + (k + 1) by omega] at this
    exact this
theorem PA.off {μ' : mm_mu} {l : List Nat} (h : PA μ p a) (ho : Off l μ μ') (hl : 40 ∉ l) : PA μ' p a := by
  unfold PA at *; rw [ho 40 hl]; exact h
theorem c_drvLoop {n : Nat} (hn : n ≤ 60) : ∀ (k i p a D : Nat) (μ : mm_mu), i + k = n → CP ε μ lw tn gn D → PA μ p a → D + k ≤ 999 → (∀ μ', CI lw tn gn k p a D μ μ' → CP ε μ' lw tn gn (D + k) → Q (some (.int (nI (D + k)))) (HP ε μ')) → G0 (d + 7) mX11_drives Q 56 [.ref 0, .int (nI n), .int (nI i)] [] (HP ε μ)
  | 0, i, p, a, D, μ, hi, hc, hp, hD, hQ => by
    rw [Nat.add_zero] at hi hQ
    subst hi
    have := hQ μ rfl hc
    refine mw_ok (M := mX11_drives) (fun q => q == 56) okTX11 rfl 20 _ _ _ _ ?_
    simp only [eX11_drives_0, eX11_drives_1, eX11_drives_4, eX11_drives_7, eX11_drives_8, eX11_drives_9, eX11_drives_12, eX11_drives_13, eX11_drives_14, eX11_drives_15, eX11_drives_18, eX11_drives_19, eX11_drives_21, eX11_drives_24, eX11_drives_25, eX11_drives_26, eX11_drives_29, eX11_drives_30, eX11_drives_31, eX11_drives_34, eX11_drives_37, eX11_drives_40, eX11_drives_41, eX11_drives_42, eX11_drives_45, eX11_drives_48, eX11_drives_49, eX11_drives_50, eX11_drives_53, eX11_drives_54, eX11_drives_55, eX11_drives_56, eX11_drives_57, eX11_drives_58, eX11_drives_61, eX11_drives_62, eX11_drives_65, eX11_drives_66, eX11_drives_69, eX11_drives_72, eX11_drives_75, eX11_drives_76, eX11_drives_79, eX11_drives_82, eX11_drives_85, eX11_drives_86, eX11_drives_89, eX11_drives_92, eX11_drives_95, st_aload, st_goto, st_iadd, st_iconst, st_if_eq, st_if_ne, st_if_lt, st_if_ge, st_if_gt, st_if_le, st_ic_eq, st_ic_ne, st_ic_lt, st_ic_ge, st_ic_gt, st_ic_le, st_iinc, st_iload, st_inv, st_iret, st_zret, st_bret, st_istore, gf_17_401, gf_10_805, gf_24_805, gf_28_805, gf_0_1103, gf_0_1110, HP_0, HP_40, tab_50, tab_107, tab_114, tab_119, mm_cut, cond_false, cond_true, List.getElem?_cons_succ, List.getElem?_cons_zero, Int.reduceToNat, Nat.reduceMod, Nat.reduceDiv, Nat.reduceAdd, true_and, and_true, mm_set, mm_set2, mm_pop, List.length_cons, List.length_nil, Nat.reduceLeDiff, Int32.reduceOfInt, Int64.reduceOfInt, nar_b0, nar_b1, List.cons_append, List.nil_append, Option.toList_some, Option.toList_none, List.map_cons, List.map_nil, List.sum_cons, List.sum_nil, cat_i, cat_r, cat_l, Nat.zero_le, Int32.reduceOfNat, Int32.reduceAdd, Int32.reduceLT, Int32.reduceLE, forall_const, true_implies, false_implies, not_false_eq_true, not_true_eq_false, bi_eq0, bi_ne0, sl_0, sl_3, va_rf, Nat.reduceEqDiff, if_false, ite_false, ite_true, reduceIte, List.set_cons_zero, List.set_cons_succ, Nat.succ_eq_add_one, mup_c, mup_s, mw_zero, ne_eq, lit_10, lit_01, lit_m10, lit_m11, nar_bi, leT (Nat.le_refl i) (show i < 2147483648 by omega), hc.2.2.2.2.2.2, Nat.reduceBEq, Bool.or_false, Bool.false_or, Bool.or_true, Bool.true_or]
    exact this
  | k + 1, i, p, a, D, μ, hi, hc, hp, hD, hQ => by
    refine mw_ok (M := mX11_drives) (fun q => q == 56) okTX11 rfl 20 _ _ _ _ ?_
    simp only [eX11_drives_0, eX11_drives_1, eX11_drives_4, eX11_drives_7, eX11_drives_8, eX11_drives_9, eX11_drives_12, eX11_drives_13, eX11_drives_14, eX11_drives_15, eX11_drives_18, eX11_drives_19, eX11_drives_21, eX11_drives_24, eX11_drives_25, eX11_drives_26, eX11_drives_29, eX11_drives_30, eX11_drives_31, eX11_drives_34, eX11_drives_37, eX11_drives_40, eX11_drives_41, eX11_drives_42, eX11_drives_45, eX11_drives_48, eX11_drives_49, eX11_drives_50, eX11_drives_53, eX11_drives_54, eX11_drives_55, eX11_drives_56, eX11_drives_57, eX11_drives_58, eX11_drives_61, eX11_drives_62, eX11_drives_65, eX11_drives_66, eX11_drives_69, eX11_drives_72, eX11_drives_75, eX11_drives_76, eX11_drives_79, eX11_drives_82, eX11_drives_85, eX11_drives_86, eX11_drives_89, eX11_drives_92, eX11_drives_95, st_aload, st_goto, st_iadd, st_iconst, st_if_eq, st_if_ne, st_if_lt, st_if_ge, st_if_gt, st_if_le, st_ic_eq, st_ic_ne, st_ic_lt, st_ic_ge, st_ic_gt, st_ic_le, st_iinc, st_iload, st_inv, st_iret, st_zret, st_bret, st_istore, gf_17_401, gf_10_805, gf_24_805, gf_28_805, gf_0_1103, gf_0_1110, HP_0, HP_40, tab_50, tab_107, tab_114, tab_119, mm_cut, cond_false, cond_true, List.getElem?_cons_succ, List.getElem?_cons_zero, Int.reduceToNat, Nat.reduceMod, Nat.reduceDiv, Nat.reduceAdd, true_and, and_true, mm_set, mm_set2, mm_pop, List.length_cons, List.length_nil, Nat.reduceLeDiff, Int32.reduceOfInt, Int64.reduceOfInt, nar_b0, nar_b1, List.cons_append, List.nil_append, Option.toList_some, Option.toList_none, List.map_cons, List.map_nil, List.sum_cons, List.sum_nil, cat_i, cat_r, cat_l, Nat.zero_le, Int32.reduceOfNat, Int32.reduceAdd, Int32.reduceLT, Int32.reduceLE, forall_const, true_implies, false_implies, not_false_eq_true, not_true_eq_false, bi_eq0, bi_ne0, sl_0, sl_3, va_rf, Nat.reduceEqDiff, if_false, ite_false, ite_true, reduceIte, List.set_cons_zero, List.set_cons_succ, Nat.succ_eq_add_one, mup_c, mup_s, mw_zero, ne_eq, lit_10, lit_01, lit_m10, lit_m11, nar_bi, leF (show i < n by omega) (show n < 2147483648 by omega), Nat.reduceBEq, Bool.or_false, Bool.false_or, Bool.or_true, Bool.true_or]
    refine c_keepK hp ?_
    intro μ1 hk1
    refine mw_ok (M := mX11_drives) (fun q => q == 56) okTX11 rfl 20 _ _ _ _ ?_
    simp only [eX11_drives_0, eX11_drives_1, eX11_drives_4, eX11_drives_7, eX11_drives_8, eX11_drives_9, eX11_drives_12, eX11_drives_13, eX11_drives_14, eX11_drives_15, eX11_drives_18, eX11_drives_19, eX11_drives_21, eX11_drives_24, eX11_drives_25, eX11_drives_26, eX11_drives_29, eX11_drives_30, eX11_drives_31, eX11_drives_34, eX11_drives_37, eX11_drives_40, eX11_drives_41, eX11_drives_42, eX11_drives_45, eX11_drives_48, eX11_drives_49, eX11_drives_50, eX11_drives_53, eX11_drives_54, eX11_drives_55, eX11_drives_56, eX11_drives_57, eX11_drives_58, eX11_drives_61, eX11_drives_62, eX11_drives_65, eX11_drives_66, eX11_drives_69, eX11_drives_72, eX11_drives_75, eX11_drives_76, eX11_drives_79, eX11_drives_82, eX11_drives_85, eX11_drives_86, eX11_drives_89, eX11_drives_92, eX11_drives_95, st_aload, st_goto, st_iadd, st_iconst, st_if_eq, st_if_ne, st_if_lt, st_if_ge, st_if_gt, st_if_le, st_ic_eq, st_ic_ne, st_ic_lt, st_ic_ge, st_ic_gt, st_ic_le, st_iinc, st_iload, st_inv, st_iret, st_zret, st_bret, st_istore, gf_17_401, gf_10_805, gf_24_805, gf_28_805, gf_0_1103, gf_0_1110, HP_0, HP_40, tab_50, tab_107, tab_114, tab_119, mm_cut, cond_false, cond_true, List.getElem?_cons_succ, List.getElem?_cons_zero, Int.reduceToNat, Nat.reduceMod, Nat.reduceDiv, Nat.reduceAdd, true_and, and_true, mm_set, mm_set2, mm_pop, List.length_cons, List.length_nil, Nat.reduceLeDiff, Int32.reduceOfInt, Int64.reduceOfInt, nar_b0, nar_b1, List.cons_append, List.nil_append, Option.toList_some, Option.toList_none, List.map_cons, List.map_nil, List.sum_cons, List.sum_nil, cat_i, cat_r, cat_l, Nat.zero_le, Int32.reduceOfNat, Int32.reduceAdd, Int32.reduceLT, Int32.reduceLE, forall_const, true_implies, false_implies, not_false_eq_true, not_true_eq_false, bi_eq0, bi_ne0, sl_0, sl_3, va_rf, Nat.reduceEqDiff, if_false, ite_false, ite_true, reduceIte, List.set_cons_zero, List.set_cons_succ, Nat.succ_eq_add_one, mup_c, mup_s, mw_zero, ne_eq, lit_10, lit_01, lit_m10, lit_m11, nar_bi, Nat.reduceBEq, Bool.or_false, Bool.false_or, Bool.or_true, Bool.true_or]
    refine c_driveOnce (hc.keep hk1) (by omega) ?_
    intro μ2 hd2
    have hc2 := (hc.keep hk1).drive hd2
    have hp2 : PA μ2 ((p + 1) % 40) (knum a) := hk1.2.1.off hd2.choose_spec.2.1 (by decide)
    refine mw_ok (M := mX11_drives) (fun q => q == 56) okTX11 rfl 20 _ _ _ _ ?_
    simp only [eX11_drives_0, eX11_drives_1, eX11_drives_4, eX11_drives_7, eX11_drives_8, eX11_drives_9, eX11_drives_12, eX11_drives_13, eX11_drives_14, eX11_drives_15, eX11_drives_18, eX11_drives_19, eX11_drives_21, eX11_drives_24, eX11_drives_25, eX11_drives_26, eX11_drives_29, eX11_drives_30, eX11_drives_31, eX11_drives_34, eX11_drives_37, eX11_drives_40, eX11_drives_41, eX11_drives_42, eX11_drives_45, eX11_drives_48, eX11_drives_49, eX11_drives_50, eX11_drives_53, eX11_drives_54, eX11_drives_55, eX11_drives_56, eX11_drives_57, eX11_drives_58, eX11_drives_61, eX11_drives_62, eX11_drives_65, eX11_drives_66, eX11_drives_69, eX11_drives_72, eX11_drives_75, eX11_drives_76, eX11_drives_79, eX11_drives_82, eX11_drives_85, eX11_drives_86, eX11_drives_89, eX11_drives_92, eX11_drives_95, st_aload, st_goto, st_iadd, st_iconst, st_if_eq, st_if_ne, st_if_lt, st_if_ge, st_if_gt, st_if_le, st_ic_eq, st_ic_ne, st_ic_lt, st_ic_ge, st_ic_gt, st_ic_le, st_iinc, st_iload, st_inv, st_iret, st_zret, st_bret, st_istore, gf_17_401, gf_10_805, gf_24_805, gf_28_805, gf_0_1103, gf_0_1110, HP_0, HP_40, tab_50, tab_107, tab_114, tab_119, mm_cut, cond_false, cond_true, List.getElem?_cons_succ, List.getElem?_cons_zero, Int.reduceToNat, Nat.reduceMod, Nat.reduceDiv, Nat.reduceAdd, true_and, and_true, mm_set, mm_set2, mm_pop, List.length_cons, List.length_nil, Nat.reduceLeDiff, Int32.reduceOfInt, Int64.reduceOfInt, nar_b0, nar_b1, List.cons_append, List.nil_append, Option.toList_some, Option.toList_none, List.map_cons, List.map_nil, List.sum_cons, List.sum_nil, cat_i, cat_r, cat_l, Nat.zero_le, Int32.reduceOfNat, Int32.reduceAdd, Int32.reduceLT, Int32.reduceLE, forall_const, true_implies, false_implies, not_false_eq_true, not_true_eq_false, bi_eq0, bi_ne0, sl_0, sl_3, va_rf, Nat.reduceEqDiff, if_false, ite_false, ite_true, reduceIte, List.set_cons_zero, List.set_cons_succ, Nat.succ_eq_add_one, mup_c, mup_s, mw_zero, ne_eq, lit_10, lit_01, lit_m10, lit_m11, nar_bi, nI_1, Nat.reduceBEq, Bool.or_false, Bool.false_or, Bool.or_true, Bool.true_or]
    refine c_drvLoop hn k (i + 1) _ _ (D + 1) μ2 (by omega) hc2 hp2 (by omega) ?_
    intro μ' hci hcp
    rw [show D + 1 + k = D + (k + 1) by omega] at hcp ⊢
    exact hQ μ' ⟨μ1, μ2, hk1, hd2, hci⟩ hcp
/-- what a run of drives changes in the class, and in the reference -/
theorem CI_off : ∀ (k p a D : Nat) (μ μ' : mm_mu), CI lw tn gn k p a D μ μ' → Off (40 :: 41 :: cW) μ μ'
  | 0, _, _, _, μ, μ', h => by rw [show μ' = μ from h]; exact Off.rf
  | k + 1, p, a, D, μ, μ', h => by
    obtain ⟨μ1, μ2, h1, h2, h3⟩ := h
    have := CI_off k _ _ _ μ2 μ' h3
    exact ((h1.1.mono (by simp)).tr (h2.choose_spec.2.1.mono (by intro c hc; exact List.mem_cons_of_mem _ (List.mem_cons_of_mem _ hc)))).tr this
theorem MI_off : ∀ (k a n : Nat) (μ μ' : mm_mu), MI tn gn k a n μ μ' → OffF [78, 72, 65, 66, 74, 75, 76, 77] [39, 34, 35, 36, 37] μ μ'
  | 0, _, _, μ, μ', h => by rw [show μ' = μ from h]; exact OffF.rf
  | k + 1, a, n, μ, μ', h => by
    obtain ⟨μ1, μ2, h1, h2, h3⟩ := h
    have := MI_off k _ _ μ2 μ' h3
    exact ((h1.1.mono (by simp) (by simp)).tr (h2.choose_spec.2.1.mono (by simp) (by simp))).tr this
theorem mix_final {μ1 μ2 : mm_mu} {l lm fl : List Nat} (h2 : OffF lm fl μ1 μ2) (hl : ∀ c ∈ lm, 56 ≤ c ∧ c < 87) : mix μ1 μ2 = μ2 := by
  funext c
  unfold mix
  split
  · rfl
  · rename_i hc
    exact (h2.at (fun z => hc (hl c z)) (by omega)).symm
theorem JX.CP (h : JX ε μ tn gn a p dy ln sz m) (ht0 : 0 < tn) : CP ε μ (mLaw μ) tn gn (dy a) := by
  obtain ⟨jE, jA, jI, jL, -⟩ := h
  obtain ⟨ht7, hg5, htg, h18, h18', -⟩ := jE
  refine ⟨h18, ht7, h18', hg5, jL.lw.2, (jA.1.sb (htg ht0) hg5).2, ?_⟩
  have := jA.1.2.2.1.2.2
  rw [csv_lo (by decide)] at this
  rw [this]; exact jA.1.2.2.2.2.2.2.1
set_option maxRecDepth 4000 in
theorem p_drives {x : Int32} (hJ : JX ε μ tn gn a p dy ln sz m) : Pr mX11_drives mX12_drives [.int x] ε μ := by
  have hA := hJ.2.1
  obtain ⟨ht7, hg5, htg, h18, h18', h56, h56', hth⟩ := hJ.1
  have hR := hA.1
  have hL := hJ.2.2.2.1.lw
  have h20 := hR.2.2.2.2.2.2.1
  have hlg : LG (μ 72) (min (dy a) 60) (mlog (μ 72)) := ⟨hR.2.2.2.2.2.2.2.1, by omega, fun _ _ _ _ => rfl⟩
  have h3 := hR.2.2.1
  rw [csv_lo (by decide), csv_lo (by decide), csv_lo (by decide)] at h3
  have hD := hR.2.2.2.2.2.1
  have hz : (nI tn = 0) = (tn = 0) := propext (nI_eq (b := 0) (by omega) (by decide))
  have ref : ∀ k, k < 5 → wDriv (nI tn) x (μ 72 20) = nI k → B0 100 mX12_drives [.ref 56, .int x] (HP ε (mup μ 39 k (μ 39 k + 1))) (fun w h' => ∃ x ε' μ', some (Value.int (-1)) = some (.int x) ∧ w = some (.int x) ∧ h' = HP ε' μ' ∧ J ε' μ') := by
    intro k hk hw
    obtain ⟨r1, r2⟩ := wref hk hw
    have ho : Off [39] μ (mup μ 39 k (μ 39 k + 1)) := Off.rf.up (by decide)
    refine m_drives (a := a) (tn := tn) (gn := gn) (n := min (dy a) 60) h56 ht7 h56' hg5 (okHold_F (ho.F (fl := []) (by decide)) (by intro c h1 h2; simp; omega) (by decide) hL.1) (KR_off hA ho (by decide) (by decide)).row hlg (fun k' hk' hw' => ?_) (fun hw' => absurd hw' r2)
    have := r1 k' hk' hw'
    subst this
    exact PE.mk rfl (hJ.refuse hk)
  unfold Pr
  refine b0_of_G0 (lv := [.ref 0, .int x, .null]) (by decide +kernel) (Nat.le_of_ble_eq_true rfl) rfl ?_
  refine mw_ok (M := mX11_drives) (fun _ => false) okTX11 rfl 20 _ _ _ _ ?_
  simp only [eX11_drives_0, eX11_drives_1, eX11_drives_4, eX11_drives_7, eX11_drives_8, eX11_drives_9, eX11_drives_12, eX11_drives_13, eX11_drives_14, eX11_drives_15, eX11_drives_18, eX11_drives_19, eX11_drives_21, eX11_drives_24, eX11_drives_25, eX11_drives_26, eX11_drives_29, eX11_drives_30, eX11_drives_31, eX11_drives_34, eX11_drives_37, eX11_drives_40, eX11_drives_41, eX11_drives_42, eX11_drives_45, eX11_drives_48, eX11_drives_49, eX11_drives_50, eX11_drives_53, eX11_drives_54, eX11_drives_55, eX11_drives_56, eX11_drives_57, eX11_drives_58, eX11_drives_61, eX11_drives_62, eX11_drives_65, eX11_drives_66, eX11_drives_69, eX11_drives_72, eX11_drives_75, eX11_drives_76, eX11_drives_79, eX11_drives_82, eX11_drives_85, eX11_drives_86, eX11_drives_89, eX11_drives_92, eX11_drives_95, st_aload, st_goto, st_iadd, st_iconst, st_if_eq, st_if_ne, st_if_lt, st_if_ge, st_if_gt, st_if_le, st_ic_eq, st_ic_ne, st_ic_lt, st_ic_ge, st_ic_gt, st_ic_le, st_iinc, st_iload, st_inv, st_iret, st_zret, st_bret, st_istore, gf_17_401, gf_10_805, gf_24_805, gf_28_805, gf_0_1103, gf_0_1110, HP_0, HP_40, tab_50, tab_107, tab_114, tab_119, mm_cut, cond_false, cond_true, List.getElem?_cons_succ, List.getElem?_cons_zero, Int.reduceToNat, Nat.reduceMod, Nat.reduceDiv, Nat.reduceAdd, true_and, and_true, mm_set, mm_set2, mm_pop, List.length_cons, List.length_nil, Nat.reduceLeDiff, Int32.reduceOfInt, Int64.reduceOfInt, nar_b0, nar_b1, List.cons_append, List.nil_append, Option.toList_some, Option.toList_none, List.map_cons, List.map_nil, List.sum_cons, List.sum_nil, cat_i, cat_r, cat_l, Nat.zero_le, Int32.reduceOfNat, Int32.reduceAdd, Int32.reduceLT, Int32.reduceLE, forall_const, true_implies, false_implies, not_false_eq_true, not_true_eq_false, bi_eq0, bi_ne0, sl_0, sl_3, va_rf, Nat.reduceEqDiff, if_false, ite_false, ite_true, reduceIte, List.set_cons_zero, List.set_cons_succ, Nat.succ_eq_add_one, mup_c, mup_s, mw_zero, ne_eq, lit_10, lit_01, lit_m10, lit_m11, nar_bi]
  refine c_hasE h18 ht7 ?_
  refine mw_ok (M := mX11_drives) (fun q => q == 56) okTX11 rfl 40 _ _ _ _ ?_
  simp only [eX11_drives_0, eX11_drives_1, eX11_drives_4, eX11_drives_7, eX11_drives_8, eX11_drives_9, eX11_drives_12, eX11_drives_13, eX11_drives_14, eX11_drives_15, eX11_drives_18, eX11_drives_19, eX11_drives_21, eX11_drives_24, eX11_drives_25, eX11_drives_26, eX11_drives_29, eX11_drives_30, eX11_drives_31, eX11_drives_34, eX11_drives_37, eX11_drives_40, eX11_drives_41, eX11_drives_42, eX11_drives_45, eX11_drives_48, eX11_drives_49, eX11_drives_50, eX11_drives_53, eX11_drives_54, eX11_drives_55, eX11_drives_56, eX11_drives_57, eX11_drives_58, eX11_drives_61, eX11_drives_62, eX11_drives_65, eX11_drives_66, eX11_drives_69, eX11_drives_72, eX11_drives_75, eX11_drives_76, eX11_drives_79, eX11_drives_82, eX11_drives_85, eX11_drives_86, eX11_drives_89, eX11_drives_92, eX11_drives_95, st_aload, st_goto, st_iadd, st_iconst, st_if_eq, st_if_ne, st_if_lt, st_if_ge, st_if_gt, st_if_le, st_ic_eq, st_ic_ne, st_ic_lt, st_ic_ge, st_ic_gt, st_ic_le, st_iinc, st_iload, st_inv, st_iret, st_zret, st_bret, st_istore, gf_17_401, gf_10_805, gf_24_805, gf_28_805, gf_0_1103, gf_0_1110, HP_0, HP_40, tab_50, tab_107, tab_114, tab_119, mm_cut, cond_false, cond_true, List.getElem?_cons_succ, List.getElem?_cons_zero, Int.reduceToNat, Nat.reduceMod, Nat.reduceDiv, Nat.reduceAdd, true_and, and_true, mm_set, mm_set2, mm_pop, List.length_cons, List.length_nil, Nat.reduceLeDiff, Int32.reduceOfInt, Int64.reduceOfInt, nar_b0, nar_b1, List.cons_append, List.nil_append, Option.toList_some, Option.toList_none, List.map_cons, List.map_nil, List.sum_cons, List.sum_nil, cat_i, cat_r, cat_l, Nat.zero_le, Int32.reduceOfNat, Int32.reduceAdd, Int32.reduceLT, Int32.reduceLE, forall_const, true_implies, false_implies, not_false_eq_true, not_true_eq_false, bi_eq0, bi_ne0, sl_0, sl_3, va_rf, Nat.reduceEqDiff, if_false, ite_false, ite_true, reduceIte, List.set_cons_zero, List.set_cons_succ, Nat.succ_eq_add_one, mup_c, mup_s, mw_zero, ne_eq, lit_10, lit_01, lit_m10, lit_m11, nar_bi, h3.2.2, Nat.reduceBEq, Bool.or_false, Bool.false_or, Bool.or_true, Bool.true_or]
  refine ⟨fun h1 => ?_, fun h1 => ?_⟩
  · have h1 := Classical.not_not.mp h1
    have hz0 : ¬ nI tn = 0 := by rw [hz]; omega
    have bad : ¬ (1 ≤ x ∧ x ≤ 60) → B0 99 mX11_refuse [.ref 0, .int 1] (HP ε μ) (fun v h' => G0 (99 + 1) mX11_drives (fun v h => B0 100 mX12_drives [.ref 56, .int x] h (fun w h' => ∃ x ε' μ', v = some (.int x) ∧ w = some (.int x) ∧ h' = HP ε' μ' ∧ J ε' μ')) 29 [.ref 0, .int x, .null] (v.toList ++ []) h') := by
      intro hb
      refine c_refuse (k := 1) rfl (by decide) ?_
      refine mw_ok (M := mX11_drives) (fun _ => false) okTX11 rfl 20 _ _ _ _ ?_
      simp only [eX11_drives_0, eX11_drives_1, eX11_drives_4, eX11_drives_7, eX11_drives_8, eX11_drives_9, eX11_drives_12, eX11_drives_13, eX11_drives_14, eX11_drives_15, eX11_drives_18, eX11_drives_19, eX11_drives_21, eX11_drives_24, eX11_drives_25, eX11_drives_26, eX11_drives_29, eX11_drives_30, eX11_drives_31, eX11_drives_34, eX11_drives_37, eX11_drives_40, eX11_drives_41, eX11_drives_42, eX11_drives_45, eX11_drives_48, eX11_drives_49, eX11_drives_50, eX11_drives_53, eX11_drives_54, eX11_drives_55, eX11_drives_56, eX11_drives_57, eX11_drives_58, eX11_drives_61, eX11_drives_62, eX11_drives_65, eX11_drives_66, eX11_drives_69, eX11_drives_72, eX11_drives_75, eX11_drives_76, eX11_drives_79, eX11_drives_82, eX11_drives_85, eX11_drives_86, eX11_drives_89, eX11_drives_92, eX11_drives_95, st_aload, st_goto, st_iadd, st_iconst, st_if_eq, st_if_ne, st_if_lt, st_if_ge, st_if_gt, st_if_le, st_ic_eq, st_ic_ne, st_ic_lt, st_ic_ge, st_ic_gt, st_ic_le, st_iinc, st_iload, st_inv, st_iret, st_zret, st_bret, st_istore, gf_17_401, gf_10_805, gf_24_805, gf_28_805, gf_0_1103, gf_0_1110, HP_0, HP_40, tab_50, tab_107, tab_114, tab_119, mm_cut, cond_false, cond_true, List.getElem?_cons_succ, List.getElem?_cons_zero, Int.reduceToNat, Nat.reduceMod, Nat.reduceDiv, Nat.reduceAdd, true_and, and_true, mm_set, mm_set2, mm_pop, List.length_cons, List.length_nil, Nat.reduceLeDiff, Int32.reduceOfInt, Int64.reduceOfInt, nar_b0, nar_b1, List.cons_append, List.nil_append, Option.toList_some, Option.toList_none, List.map_cons, List.map_nil, List.sum_cons, List.sum_nil, cat_i, cat_r, cat_l, Nat.zero_le, Int32.reduceOfNat, Int32.reduceAdd, Int32.reduceLT, Int32.reduceLE, forall_const, true_implies, false_implies, not_false_eq_true, not_true_eq_false, bi_eq0, bi_ne0, sl_0, sl_3, va_rf, Nat.reduceEqDiff, if_false, ite_false, ite_true, reduceIte, List.set_cons_zero, List.set_cons_succ, Nat.succ_eq_add_one, mup_c, mup_s, mw_zero, ne_eq, lit_10, lit_01, lit_m10, lit_m11, nar_bi]
      exact ref 1 (by decide) (by unfold wDriv; rw [if_neg hz0, if_pos hb]; rfl)
    refine ⟨fun q => bad (by simp only [Int32.le_iff_toInt_le, Int32.lt_iff_toInt_lt, ← Int32.toInt_inj, Int32.reduceToInt, ne_eq] at *; omega), fun q1 => ⟨fun q2 => ?_, fun q => bad (by simp only [Int32.le_iff_toInt_le, Int32.lt_iff_toInt_lt, ← Int32.toInt_inj, Int32.reduceToInt, ne_eq] at *; omega)⟩⟩
    have q : 1 ≤ x ∧ x ≤ 60 := ⟨(by simp only [Int32.le_iff_toInt_le, Int32.lt_iff_toInt_lt, ← Int32.toInt_inj, Int32.reduceToInt, ne_eq] at *; omega), q2⟩
    obtain ⟨k, hk, hxk⟩ := ix9 (x := x) (n := 60) (m := 60) rfl ⟨(by simp only [Int32.le_iff_toInt_le, Int32.lt_iff_toInt_lt, ← Int32.toInt_inj, Int32.reduceToInt, ne_eq] at *; omega), q2⟩
    rw [h20, hxk, nI_add]
    refine ⟨fun q3 => ?_, fun q3 => ?_⟩
    · have hk9 : dy a + k ≤ 999 := (nI_leI (b := 999) (by omega) (by decide)).mp q3
      refine c_drvLoop (d := 93) hk k 0 p a (dy a) μ (by omega) (hJ.CP h1) hA.2.1 hk9 ?_
      intro μ1 hci hcp
      have ho1 := CI_off k p a (dy a) μ μ1 hci
      have e56 : μ1 56 = μ 56 := ho1 56 (by decide)
      have e72 : μ1 72 = μ 72 := ho1 72 (by decide)
      rw [← hxk]
      have hw : wDriv (nI tn) x (μ 72 20) = -1 := by
        unfold wDriv
        rw [if_neg hz0, if_neg (fun z => z q), if_neg (by rw [h20, hxk, nI_add]; exact fun z => z q3)]
      have hkr : KR μ1 a (mrow μ1) := (KR_off hA ho1 (by decide) (by decide)).row
      refine m_drives (a := a) (tn := tn) (gn := gn) (n := min (dy a) 60) (by rw [e56]; exact h56) ht7 (by rw [e56]; exact h56') hg5 (okHold_F (ho1.F (fl := []) (by decide)) (by intro c h1 h2; simp; omega) (by decide) hL.1) hkr (by rw [e72]; exact hlg) (fun k' hk' hw' => ?_) (fun _ k' μ2 hk' hxk' hmi => ?_)
      · rw [e72] at hw'
        exact absurd hw ((wref hk' hw').2)
      · have : k = k' := (nI_eq (by omega) (by omega)).mp (hxk.symm.trans hxk')
        subst this
        have hml : mLaw μ1 = mLaw μ := mLaw_F (ho1.F (fl := []) (by decide)) (by intro c h1 h2; simp; omega) (by decide)
        have hmx : mix μ μ1 = μ := by
          funext c
          unfold mix
          split
          · rename_i hc; exact ho1 c (by simp; omega)
          · rfl
        obtain ⟨hj, hday⟩ := CI_MI k p a dy μ μ1 μ1 μ2 (by rw [hmx]; exact hJ) hml h1 hk9 hci hmi
        rw [mix_final (l := []) (MI_off _ _ _ _ _ hmi) (by decide)] at hj
        exact PE.mk hday.symm hj
    · refine c_refuse (k := 4) rfl (by decide) ?_
      rw [← hxk]
      refine mw_ok (M := mX11_drives) (fun _ => false) okTX11 rfl 20 _ _ _ _ ?_
      simp only [eX11_drives_0, eX11_drives_1, eX11_drives_4, eX11_drives_7, eX11_drives_8, eX11_drives_9, eX11_drives_12, eX11_drives_13, eX11_drives_14, eX11_drives_15, eX11_drives_18, eX11_drives_19, eX11_drives_21, eX11_drives_24, eX11_drives_25, eX11_drives_26, eX11_drives_29, eX11_drives_30, eX11_drives_31, eX11_drives_34, eX11_drives_37, eX11_drives_40, eX11_drives_41, eX11_drives_42, eX11_drives_45, eX11_drives_48, eX11_drives_49, eX11_drives_50, eX11_drives_53, eX11_drives_54, eX11_drives_55, eX11_drives_56, eX11_drives_57, eX11_drives_58, eX11_drives_61, eX11_drives_62, eX11_drives_65, eX11_drives_66, eX11_drives_69, eX11_drives_72, eX11_drives_75, eX11_drives_76, eX11_drives_79, eX11_drives_82, eX11_drives_85, eX11_drives_86, eX11_drives_89, eX11_drives_92, eX11_drives_95, st_aload, st_goto, st_iadd, st_iconst, st_if_eq, st_if_ne, st_if_lt, st_if_ge, st_if_gt, st_if_le, st_ic_eq, st_ic_ne, st_ic_lt, st_ic_ge, st_ic_gt, st_ic_le, st_iinc, st_iload, st_inv, st_iret, st_zret, st_bret, st_istore, gf_17_401, gf_10_805, gf_24_805, gf_28_805, gf_0_1103, gf_0_1110, HP_0, HP_40, tab_50, tab_107, tab_114, tab_119, mm_cut, cond_false, cond_true, List.getElem?_cons_succ, List.getElem?_cons_zero, Int.reduceToNat, Nat.reduceMod, Nat.reduceDiv, Nat.reduceAdd, true_and, and_true, mm_set, mm_set2, mm_pop, List.length_cons, List.length_nil, Nat.reduceLeDiff, Int32.reduceOfInt, Int64.reduceOfInt, nar_b0, nar_b1, List.cons_append, List.nil_append, Option.toList_some, Option.toList_none, List.map_cons, List.map_nil, List.sum_cons, List.sum_nil, cat_i, cat_r, cat_l, Nat.zero_le, Int32.reduceOfNat, Int32.reduceAdd, Int32.reduceLT, Int32.reduceLE, forall_const, true_implies, false_implies, not_false_eq_true, not_true_eq_false, bi_eq0, bi_ne0, sl_0, sl_3, va_rf, Nat.reduceEqDiff, if_false, ite_false, ite_true, reduceIte, List.set_cons_zero, List.set_cons_succ, Nat.succ_eq_add_one, mup_c, mup_s, mw_zero, ne_eq, lit_10, lit_01, lit_m10, lit_m11, nar_bi]
      refine ref 4 (by decide) ?_
      unfold wDriv
      rw [if_neg hz0, if_neg (fun z => z q), if_pos (by rw [h20, hxk, nI_add]; exact q3)]; rfl
  · refine c_refuse (k := 0) rfl (by decide) ?_
    refine mw_ok (M := mX11_drives) (fun _ => false) okTX11 rfl 20 _ _ _ _ ?_
    simp only [eX11_drives_0, eX11_drives_1, eX11_drives_4, eX11_drives_7, eX11_drives_8, eX11_drives_9, eX11_drives_12, eX11_drives_13, eX11_drives_14, eX11_drives_15, eX11_drives_18, eX11_drives_19, eX11_drives_21, eX11_drives_24, eX11_drives_25, eX11_drives_26, eX11_drives_29, eX11_drives_30, eX11_drives_31, eX11_drives_34, eX11_drives_37, eX11_drives_40, eX11_drives_41, eX11_drives_42, eX11_drives_45, eX11_drives_48, eX11_drives_49, eX11_drives_50, eX11_drives_53, eX11_drives_54, eX11_drives_55, eX11_drives_56, eX11_drives_57, eX11_drives_58, eX11_drives_61, eX11_drives_62, eX11_drives_65, eX11_drives_66, eX11_drives_69, eX11_drives_72, eX11_drives_75, eX11_drives_76, eX11_drives_79, eX11_drives_82, eX11_drives_85, eX11_drives_86, eX11_drives_89, eX11_drives_92, eX11_drives_95, st_aload, st_goto, st_iadd, st_iconst, st_if_eq, st_if_ne, st_if_lt, st_if_ge, st_if_gt, st_if_le, st_ic_eq, st_ic_ne, st_ic_lt, st_ic_ge, st_ic_gt, st_ic_le, st_iinc, st_iload, st_inv, st_iret, st_zret, st_bret, st_istore, gf_17_401, gf_10_805, gf_24_805, gf_28_805, gf_0_1103, gf_0_1110, HP_0, HP_40, tab_50, tab_107, tab_114, tab_119, mm_cut, cond_false, cond_true, List.getElem?_cons_succ, List.getElem?_cons_zero, Int.reduceToNat, Nat.reduceMod, Nat.reduceDiv, Nat.reduceAdd, true_and, and_true, mm_set, mm_set2, mm_pop, List.length_cons, List.length_nil, Nat.reduceLeDiff, Int32.reduceOfInt, Int64.reduceOfInt, nar_b0, nar_b1, List.cons_append, List.nil_append, Option.toList_some, Option.toList_none, List.map_cons, List.map_nil, List.sum_cons, List.sum_nil, cat_i, cat_r, cat_l, Nat.zero_le, Int32.reduceOfNat, Int32.reduceAdd, Int32.reduceLT, Int32.reduceLE, forall_const, true_implies, false_implies, not_false_eq_true, not_true_eq_false, bi_eq0, bi_ne0, sl_0, sl_3, va_rf, Nat.reduceEqDiff, if_false, ite_false, ite_true, reduceIte, List.set_cons_zero, List.set_cons_succ, Nat.succ_eq_add_one, mup_c, mup_s, mw_zero, ne_eq, lit_10, lit_01, lit_m10, lit_m11, nar_bi]
    exact ref 0 (by decide) (by unfold wDriv; rw [if_pos (by rw [hz]; omega)]; rfl)
end P4
