-- wb_..: from kit/laws/BITS.to-paste (a starting text)
theorem wb_tb (n : Nat) : (lN n).toBitVec = BitVec.ofNat 64 n := rfl
theorem wb_inj {a b : Int64} (h : a.toBitVec = b.toBitVec) : a = b := Int64.toBitVec_inj.mp h
theorem wb_tn {n : Nat} (h : n < 2 ^ 64) : (lN n).toBitVec.toNat = n := by rw [wb_tb, BitVec.toNat_ofNat, Nat.mod_eq_of_lt h]
theorem wb_of (x : Int64) : ∃ n, n < 2 ^ 64 ∧ x = lN n := ⟨x.toBitVec.toNat, x.toBitVec.isLt, wb_inj (by rw [wb_tb]; simp)⟩
theorem wb_of32 (x : Int32) : ∃ n, n < 2 ^ 32 ∧ x = nI n := ⟨x.toBitVec.toNat, x.toBitVec.isLt, Int32.toBitVec_inj.mp (by show _ = BitVec.ofNat 32 _; simp)⟩
theorem wb_c : ∀ k, k < 64 → ((nI k).toInt64 &&& 63) = lN k := by decide +kernel
theorem wb_cu : ∀ k, k < 64 → ((nI k).toInt64.toUInt64 &&& Int64.toUInt64 63) = UInt64.ofNat k := by decide +kernel
theorem wb_sm : ∀ k, k < 64 → (BitVec.ofNat 64 k).smod 64 = BitVec.ofNat 64 k := by decide +kernel
theorem wb_pw {a b : Nat} (h : a ≤ b) : 2 ^ b = 2 ^ a * 2 ^ (b - a) := by rw [← Nat.pow_add]; congr 1; omega
theorem wb_lt2 {a b : Nat} (h : a < b) : 2 ^ a < 2 ^ b := Nat.pow_lt_pow_right (by decide) h
theorem wb_mod (n : Nat) : lN n = lN (n % 2 ^ 64) := wb_inj (by rw [wb_tb, wb_tb]; apply BitVec.eq_of_toNat_eq; rw [BitVec.toNat_ofNat, BitVec.toNat_ofNat, Nat.mod_mod])
theorem wb_shr {n k : Nat} (hn : n < 2 ^ 64) (hk : k < 64) : ((lN n).toUInt64 >>> ((nI k).toInt64.toUInt64 &&& Int64.toUInt64 63)).toInt64 = lN (n / 2 ^ k) := by
  rw [wb_cu k hk]
  apply wb_inj
  apply BitVec.eq_of_toNat_eq
  show ((lN n).toUInt64 >>> UInt64.ofNat k).toNat = (BitVec.ofNat 64 _).toNat
  have h1 : (UInt64.ofNat k).toNat = k := by
    show (BitVec.ofNat 64 k).toNat = k
    rw [BitVec.toNat_ofNat, Nat.mod_eq_of_lt (by omega)]
  have h2 : (lN n).toUInt64.toNat = n := wb_tn hn
  rw [UInt64.toNat_shiftRight, h1, h2, Nat.mod_eq_of_lt hk, Nat.shiftRight_eq_div_pow, BitVec.toNat_ofNat, Nat.mod_eq_of_lt (Nat.lt_of_le_of_lt (Nat.div_le_self _ _) hn)]
/-- the next of the draws, and what it picks among m -/
def drw (s : Int64) : Int64 := s * 6364136223846793005 + 1442695040888963407
def pick (s : Int64) (m : Int32) : Int32 := ((s.toUInt64 >>> ((33 : Int32).toInt64.toUInt64 &&& Int64.toUInt64 63)).toInt64 - (s.toUInt64 >>> ((33 : Int32).toInt64.toUInt64 &&& Int64.toUInt64 63)).toInt64 / m.toInt64 * m.toInt64).toInt32
theorem pick_is {s : Int64} {m : Nat} (h0 : 0 < m) (hm : m < 2147483648) : ∃ k, k < m ∧ pick s (nI m) = nI k := by
  obtain ⟨n, hn, rfl⟩ := wb_of s
  have e1 : ((lN n).toUInt64 >>> ((33 : Int32).toInt64.toUInt64 &&& Int64.toUInt64 63)).toInt64 = lN (n / 2 ^ 33) := wb_shr (k := 33) hn (by decide)
  have hb : n / 2 ^ 33 < 2 ^ 31 := by
    rw [Nat.div_lt_iff_lt_mul (by decide)]
    omega
  refine ⟨n / 2 ^ 33 % m, Nat.mod_lt _ h0, ?_⟩
  rw [pick, e1, nI_l hm, pk_lRem (by omega) h0 (by omega), lN_i]
theorem m64 {m : Nat} (h0 : 0 < m) (hm : m < 2147483648) : ¬ (nI m).toInt64 = 0 := by
  rw [nI_l hm]
  intro z
  have := (pk_lEQ (a := m) (b := 0) (by omega) (by decide)).mp z
  omega
theorem HPc_lg {ε : mm_X} {c k : Nat} {v : Int64} {f : Nat → Int32} (h : c ≠ k) : HPc (va_up ε.1 k v, ε.2) c f = HPc ε c f := by
  have e : ∀ j, j ≠ k → va_up ε.1 k v j = ε.1 j := fun j hj => by simp [va_up, hj]
  by_cases h0 : c = 0
  · subst h0; simp only [HPc, e 0 h]
  by_cases h1 : c = 56
  · subst h1; simp only [HPc, e 56 h]
  by_cases h2 : c = 86
  · subst h2; simp only [HPc, e 86 h]
  unfold HPc
  split
  all_goals first | rfl | exact absurd rfl h0 | exact absurd rfl h1 | exact absurd rfl h2
theorem HP_lg {ε : mm_X} {μ : mm_mu} {k : Nat} {v : Int64} : va_up (HP ε μ) k (HPc (va_up ε.1 k v, ε.2) k (μ k)) = HP (va_up ε.1 k v, ε.2) μ := by
  funext c
  by_cases hc : c = k
  · subst hc; simp [va_up, HP]
  · show (if c = k then _ else HP ε μ c) = HPc _ c (μ c)
    rw [if_neg hc]
    exact (HPc_lg hc).symm
section PL
variable {tab : Nat → Option (mm_M × Nat × Nat × Nat)} {Bd : mm_M → List Value → mm_H → mm_Q0 → Prop} {B K : Nat → List Value → List Value → mm_H → Prop} {Q : mm_Q0} {nx : Nat} {lv st : List Value} {ε : mm_X} {μ : mm_mu}
theorem pfL_56 {x : Int64} : mm_step tab Bd B K Q (.putfield 1240) nx lv (.long x :: .ref 56 :: st) (HP ε μ) = K nx lv st (HP (va_up ε.1 56 x, ε.2) μ) := by
  simp only [st_putf, HP_56]
  rw [← HP_lg]
  have hf : mm_fit (1240 / 100) (1240 % 100) (.long x) := mm_fit_of rfl (tyX12_ok 40 (by decide)) rfl rfl
  simp only [hf, Nat.reduceDiv, Nat.reduceMod, true_and]
  exact propext ⟨fun z => z.2, fun z => ⟨Nat.le_of_ble_eq_true rfl, z⟩⟩
end PL
section M12
variable {d : Nat} {ε : mm_X} {μ : mm_mu} {Q : mm_Q0} {h : mm_H}
theorem m_draw {x : Int32} (hx : ¬ x.toInt64 = 0) (hQ : Q (some (.int (pick (drw (ε.1 56)) x))) (HP (va_up ε.1 56 (drw (ε.1 56)), ε.2) μ)) : B0 (d + 1) mX12_draw [.ref 56, .int x] (HP ε μ) Q := by
  refine b0_of_G0 (lv := [.ref 56, .int x]) (by decide +kernel) (Nat.le_of_ble_eq_true rfl) rfl ?_
  refine mw_ok (M := mX12_draw) (fun _ => false) okTX12 rfl 30 _ _ _ _ ?_
  simp only [eX12_draw_0, eX12_draw_1, eX12_draw_2, eX12_draw_5, eX12_draw_8, eX12_draw_9, eX12_draw_12, eX12_draw_13, eX12_draw_16, eX12_draw_17, eX12_draw_20, eX12_draw_22, eX12_draw_23, eX12_draw_24, eX12_draw_25, eX12_draw_26, eX12_draw_27, st_aload, st_i2l, st_iconst, st_iload, st_iret, st_zret, st_bret, st_l2i, st_ladd, st_lmul, st_lrem, st_lushr, st_lconst, gf_56_1240, mm_cut, cond_false, cond_true, List.getElem?_cons_succ, List.getElem?_cons_zero, Int.reduceToNat, Nat.reduceMod, Nat.reduceDiv, Nat.reduceAdd, true_and, and_true, mm_set, mm_set2, mm_pop, List.length_cons, List.length_nil, Nat.reduceLeDiff, Int32.reduceOfInt, Int64.reduceOfInt, nar_b0, nar_b1, List.cons_append, List.nil_append, Option.toList_some, Option.toList_none, List.map_cons, List.map_nil, List.sum_cons, List.sum_nil, cat_i, cat_r, cat_l, Nat.zero_le, Int32.reduceOfNat, Int32.reduceAdd, Int32.reduceLT, Int32.reduceLE, forall_const, true_implies, false_implies, not_false_eq_true, not_true_eq_false, bi_eq0, bi_ne0, sl_0, sl_3, va_rf, Nat.reduceEqDiff, if_false, ite_false, ite_true, reduceIte, List.set_cons_zero, List.set_cons_succ, Nat.succ_eq_add_one, mup_c, mup_s, mw_zero, ne_eq, lit_10, lit_01, lit_m10, lit_m11, nar_bi, pfL_56, va_up, if_true]
  exact ⟨hx, hQ⟩
/-- the draws ahead of a drive: the wind, what is put out, a peg -/
def dA (s : Int64) (tn gn lot : Int32) (now : Nat → Int32) : Nat → Int32 :=
  let n1 := upd (upd now 15 (pick (drw s) 9)) 18 (now 18 ||| (1 : Int32) <<< (pick (drw (drw s)) tn &&& 31))
  if pick (drw (drw (drw s))) 10 < lot then upd n1 (pick (drw (drw (drw (drw s)))) gn).toNatClampNeg (pick (drw (drw (drw (drw (drw s))))) 10) else n1
def dS (s : Int64) (lot : Int32) : Int64 := if pick (drw (drw (drw s))) 10 < lot then drw (drw (drw (drw (drw s)))) else drw (drw (drw s))
theorem lgg {ε : mm_X} {k : Nat} {v w : Int64} : (va_up (va_up ε.1 k v, ε.2).1 k w, (va_up ε.1 k v, ε.2).2) = ((va_up ε.1 k w, ε.2) : mm_X) := by
  have : va_up (va_up ε.1 k v) k w = va_up ε.1 k w := by
    funext j; simp only [va_up]; split <;> rfl
  simp only [this]
theorem vaup2 {α : Type} {f : Nat → α} {k : Nat} {v w : α} : va_up (va_up f k v) k w = va_up f k w := by
  funext j; simp only [va_up]; split <;> rfl
theorem lgs {f : Nat → Int64} {k : Nat} {v : Int64} : va_up f k v k = v := by simp [va_up]
set_option maxRecDepth 4000 in
theorem m_drawDrive {tn gn : Nat} (htn : μ 56 24 = nI tn) (ht0 : 0 < tn) (ht7 : tn ≤ 7) (hgn : μ 56 25 = nI gn) (hg0 : 0 < gn) (hg5 : gn ≤ 5) (hQ : ∀ μ', Off [72] μ μ' → (∀ i, μ' 72 i = dA (ε.1 56) (nI tn) (nI gn) (μ 56 29) (μ 72) i) → Q none (HP (va_up ε.1 56 (dS (ε.1 56) (μ 56 29)), ε.2) μ')) : B0 (d + 2) mX12_drawDrive [.ref 56] (HP ε μ) Q := by
  refine b0_of_G0 (lv := [.ref 56, .null]) (by decide +kernel) (Nat.le_of_ble_eq_true rfl) rfl ?_
  refine mw_ok (M := mX12_drawDrive) (fun _ => false) okTX12 rfl 30 _ _ _ _ ?_
  simp only [eX12_drawDrive_0, eX12_drawDrive_1, eX12_drawDrive_4, eX12_drawDrive_6, eX12_drawDrive_7, eX12_drawDrive_9, eX12_drawDrive_12, eX12_drawDrive_13, eX12_drawDrive_14, eX12_drawDrive_17, eX12_drawDrive_19, eX12_drawDrive_20, eX12_drawDrive_21, eX12_drawDrive_22, eX12_drawDrive_23, eX12_drawDrive_24, eX12_drawDrive_27, eX12_drawDrive_30, eX12_drawDrive_31, eX12_drawDrive_32, eX12_drawDrive_33, eX12_drawDrive_34, eX12_drawDrive_36, eX12_drawDrive_39, eX12_drawDrive_40, eX12_drawDrive_43, eX12_drawDrive_46, eX12_drawDrive_47, eX12_drawDrive_48, eX12_drawDrive_51, eX12_drawDrive_54, eX12_drawDrive_55, eX12_drawDrive_56, eX12_drawDrive_59, eX12_drawDrive_60, eX12_drawDrive_61, eX12_drawDrive_62, eX12_drawDrive_63, eX12_drawDrive_65, eX12_drawDrive_68, eX12_drawDrive_69, st_aload, st_dup2, st_iadd, st_iconst, st_ic_eq, st_ic_ne, st_ic_lt, st_ic_ge, st_ic_gt, st_ic_le, st_iload, st_inv, st_ior, st_ishl, st_istore, st_ret, gf_56_1224, gf_56_1225, gf_56_1226, gf_56_1229, ld_57, sv_57, ld_58, sv_58, ld_59, sv_59, ld_60, sv_60, ld_61, sv_61, ld_62, sv_62, ld_63, sv_63, ld_64, sv_64, ld_65, sv_65, ld_66, sv_66, ld_67, sv_67, ld_68, sv_68, ld_69, sv_69, ld_70, sv_70, ld_71, sv_71, ld_72, sv_72, ld_73, sv_73, ld_74, sv_74, ld_75, sv_75, ld_76, sv_76, ld_77, sv_77, ld_78, sv_78, ld_79, sv_79, ld_80, sv_80, ld_81, sv_81, ld_82, sv_82, ld_83, sv_83, ld_85, sv_85, HP_56, tab_197, mm_cut, cond_false, cond_true, List.getElem?_cons_succ, List.getElem?_cons_zero, Int.reduceToNat, Nat.reduceMod, Nat.reduceDiv, Nat.reduceAdd, true_and, and_true, mm_set, mm_set2, mm_pop, List.length_cons, List.length_nil, Nat.reduceLeDiff, Int32.reduceOfInt, Int64.reduceOfInt, nar_b0, nar_b1, List.cons_append, List.nil_append, Option.toList_some, Option.toList_none, List.map_cons, List.map_nil, List.sum_cons, List.sum_nil, cat_i, cat_r, cat_l, Nat.zero_le, Int32.reduceOfNat, Int32.reduceAdd, Int32.reduceLT, Int32.reduceLE, forall_const, true_implies, false_implies, not_false_eq_true, not_true_eq_false, bi_eq0, bi_ne0, sl_0, sl_3, va_rf, Nat.reduceEqDiff, if_false, ite_false, ite_true, reduceIte, List.set_cons_zero, List.set_cons_succ, Nat.succ_eq_add_one, mup_c, mup_s, mw_zero, ne_eq, lit_10, lit_01, lit_m10, lit_m11, nar_bi]
  refine m_draw (by decide) ?_
  refine mw_ok (M := mX12_drawDrive) (fun _ => false) okTX12 rfl 30 _ _ _ _ ?_
  simp only [eX12_drawDrive_0, eX12_drawDrive_1, eX12_drawDrive_4, eX12_drawDrive_6, eX12_drawDrive_7, eX12_drawDrive_9, eX12_drawDrive_12, eX12_drawDrive_13, eX12_drawDrive_14, eX12_drawDrive_17, eX12_drawDrive_19, eX12_drawDrive_20, eX12_drawDrive_21, eX12_drawDrive_22, eX12_drawDrive_23, eX12_drawDrive_24, eX12_drawDrive_27, eX12_drawDrive_30, eX12_drawDrive_31, eX12_drawDrive_32, eX12_drawDrive_33, eX12_drawDrive_34, eX12_drawDrive_36, eX12_drawDrive_39, eX12_drawDrive_40, eX12_drawDrive_43, eX12_drawDrive_46, eX12_drawDrive_47, eX12_drawDrive_48, eX12_drawDrive_51, eX12_drawDrive_54, eX12_drawDrive_55, eX12_drawDrive_56, eX12_drawDrive_59, eX12_drawDrive_60, eX12_drawDrive_61, eX12_drawDrive_62, eX12_drawDrive_63, eX12_drawDrive_65, eX12_drawDrive_68, eX12_drawDrive_69, st_aload, st_dup2, st_iadd, st_iconst, st_ic_eq, st_ic_ne, st_ic_lt, st_ic_ge, st_ic_gt, st_ic_le, st_iload, st_inv, st_ior, st_ishl, st_istore, st_ret, gf_56_1224, gf_56_1225, gf_56_1226, gf_56_1229, ld_57, sv_57, ld_58, sv_58, ld_59, sv_59, ld_60, sv_60, ld_61, sv_61, ld_62, sv_62, ld_63, sv_63, ld_64, sv_64, ld_65, sv_65, ld_66, sv_66, ld_67, sv_67, ld_68, sv_68, ld_69, sv_69, ld_70, sv_70, ld_71, sv_71, ld_72, sv_72, ld_73, sv_73, ld_74, sv_74, ld_75, sv_75, ld_76, sv_76, ld_77, sv_77, ld_78, sv_78, ld_79, sv_79, ld_80, sv_80, ld_81, sv_81, ld_82, sv_82, ld_83, sv_83, ld_85, sv_85, HP_56, tab_197, mm_cut, cond_false, cond_true, List.getElem?_cons_succ, List.getElem?_cons_zero, Int.reduceToNat, Nat.reduceMod, Nat.reduceDiv, Nat.reduceAdd, true_and, and_true, mm_set, mm_set2, mm_pop, List.length_cons, List.length_nil, Nat.reduceLeDiff, Int32.reduceOfInt, Int64.reduceOfInt, nar_b0, nar_b1, List.cons_append, List.nil_append, Option.toList_some, Option.toList_none, List.map_cons, List.map_nil, List.sum_cons, List.sum_nil, cat_i, cat_r, cat_l, Nat.zero_le, Int32.reduceOfNat, Int32.reduceAdd, Int32.reduceLT, Int32.reduceLE, forall_const, true_implies, false_implies, not_false_eq_true, not_true_eq_false, bi_eq0, bi_ne0, sl_0, sl_3, va_rf, Nat.reduceEqDiff, if_false, ite_false, ite_true, reduceIte, List.set_cons_zero, List.set_cons_succ, Nat.succ_eq_add_one, mup_c, mup_s, mw_zero, ne_eq, lit_10, lit_01, lit_m10, lit_m11, nar_bi, vinT (a := 15) l15 (show 15 < 202 by decide), clp (a := 15) l15, vinT (a := 18) l18 (show 18 < 202 by decide), clp (a := 18) l18, htn]
  refine m_draw (m64 ht0 (by omega)) ?_
  simp only [lgg, lgs]
  refine mw_ok (M := mX12_drawDrive) (fun _ => false) okTX12 rfl 30 _ _ _ _ ?_
  simp only [eX12_drawDrive_0, eX12_drawDrive_1, eX12_drawDrive_4, eX12_drawDrive_6, eX12_drawDrive_7, eX12_drawDrive_9, eX12_drawDrive_12, eX12_drawDrive_13, eX12_drawDrive_14, eX12_drawDrive_17, eX12_drawDrive_19, eX12_drawDrive_20, eX12_drawDrive_21, eX12_drawDrive_22, eX12_drawDrive_23, eX12_drawDrive_24, eX12_drawDrive_27, eX12_drawDrive_30, eX12_drawDrive_31, eX12_drawDrive_32, eX12_drawDrive_33, eX12_drawDrive_34, eX12_drawDrive_36, eX12_drawDrive_39, eX12_drawDrive_40, eX12_drawDrive_43, eX12_drawDrive_46, eX12_drawDrive_47, eX12_drawDrive_48, eX12_drawDrive_51, eX12_drawDrive_54, eX12_drawDrive_55, eX12_drawDrive_56, eX12_drawDrive_59, eX12_drawDrive_60, eX12_drawDrive_61, eX12_drawDrive_62, eX12_drawDrive_63, eX12_drawDrive_65, eX12_drawDrive_68, eX12_drawDrive_69, st_aload, st_dup2, st_iadd, st_iconst, st_ic_eq, st_ic_ne, st_ic_lt, st_ic_ge, st_ic_gt, st_ic_le, st_iload, st_inv, st_ior, st_ishl, st_istore, st_ret, gf_56_1224, gf_56_1225, gf_56_1226, gf_56_1229, ld_57, sv_57, ld_58, sv_58, ld_59, sv_59, ld_60, sv_60, ld_61, sv_61, ld_62, sv_62, ld_63, sv_63, ld_64, sv_64, ld_65, sv_65, ld_66, sv_66, ld_67, sv_67, ld_68, sv_68, ld_69, sv_69, ld_70, sv_70, ld_71, sv_71, ld_72, sv_72, ld_73, sv_73, ld_74, sv_74, ld_75, sv_75, ld_76, sv_76, ld_77, sv_77, ld_78, sv_78, ld_79, sv_79, ld_80, sv_80, ld_81, sv_81, ld_82, sv_82, ld_83, sv_83, ld_85, sv_85, HP_56, tab_197, mm_cut, cond_false, cond_true, List.getElem?_cons_succ, List.getElem?_cons_zero, Int.reduceToNat, Nat.reduceMod, Nat.reduceDiv, Nat.reduceAdd, true_and, and_true, mm_set, mm_set2, mm_pop, List.length_cons, List.length_nil, Nat.reduceLeDiff, Int32.reduceOfInt, Int64.reduceOfInt, nar_b0, nar_b1, List.cons_append, List.nil_append, Option.toList_some, Option.toList_none, List.map_cons, List.map_nil, List.sum_cons, List.sum_nil, cat_i, cat_r, cat_l, Nat.zero_le, Int32.reduceOfNat, Int32.reduceAdd, Int32.reduceLT, Int32.reduceLE, forall_const, true_implies, false_implies, not_false_eq_true, not_true_eq_false, bi_eq0, bi_ne0, sl_0, sl_3, va_rf, Nat.reduceEqDiff, if_false, ite_false, ite_true, reduceIte, List.set_cons_zero, List.set_cons_succ, Nat.succ_eq_add_one, mup_c, mup_s, mw_zero, ne_eq, lit_10, lit_01, lit_m10, lit_m11, nar_bi, vinT (a := 18) l18 (show 18 < 202 by decide), clp (a := 18) l18]
  refine m_draw (by decide) ?_
  simp only [lgg, lgs]
  refine mw_ok (M := mX12_drawDrive) (fun _ => false) okTX12 rfl 30 _ _ _ _ ?_
  simp only [eX12_drawDrive_0, eX12_drawDrive_1, eX12_drawDrive_4, eX12_drawDrive_6, eX12_drawDrive_7, eX12_drawDrive_9, eX12_drawDrive_12, eX12_drawDrive_13, eX12_drawDrive_14, eX12_drawDrive_17, eX12_drawDrive_19, eX12_drawDrive_20, eX12_drawDrive_21, eX12_drawDrive_22, eX12_drawDrive_23, eX12_drawDrive_24, eX12_drawDrive_27, eX12_drawDrive_30, eX12_drawDrive_31, eX12_drawDrive_32, eX12_drawDrive_33, eX12_drawDrive_34, eX12_drawDrive_36, eX12_drawDrive_39, eX12_drawDrive_40, eX12_drawDrive_43, eX12_drawDrive_46, eX12_drawDrive_47, eX12_drawDrive_48, eX12_drawDrive_51, eX12_drawDrive_54, eX12_drawDrive_55, eX12_drawDrive_56, eX12_drawDrive_59, eX12_drawDrive_60, eX12_drawDrive_61, eX12_drawDrive_62, eX12_drawDrive_63, eX12_drawDrive_65, eX12_drawDrive_68, eX12_drawDrive_69, st_aload, st_dup2, st_iadd, st_iconst, st_ic_eq, st_ic_ne, st_ic_lt, st_ic_ge, st_ic_gt, st_ic_le, st_iload, st_inv, st_ior, st_ishl, st_istore, st_ret, gf_56_1224, gf_56_1225, gf_56_1226, gf_56_1229, ld_57, sv_57, ld_58, sv_58, ld_59, sv_59, ld_60, sv_60, ld_61, sv_61, ld_62, sv_62, ld_63, sv_63, ld_64, sv_64, ld_65, sv_65, ld_66, sv_66, ld_67, sv_67, ld_68, sv_68, ld_69, sv_69, ld_70, sv_70, ld_71, sv_71, ld_72, sv_72, ld_73, sv_73, ld_74, sv_74, ld_75, sv_75, ld_76, sv_76, ld_77, sv_77, ld_78, sv_78, ld_79, sv_79, ld_80, sv_80, ld_81, sv_81, ld_82, sv_82, ld_83, sv_83, ld_85, sv_85, HP_56, tab_197, mm_cut, cond_false, cond_true, List.getElem?_cons_succ, List.getElem?_cons_zero, Int.reduceToNat, Nat.reduceMod, Nat.reduceDiv, Nat.reduceAdd, true_and, and_true, mm_set, mm_set2, mm_pop, List.length_cons, List.length_nil, Nat.reduceLeDiff, Int32.reduceOfInt, Int64.reduceOfInt, nar_b0, nar_b1, List.cons_append, List.nil_append, Option.toList_some, Option.toList_none, List.map_cons, List.map_nil, List.sum_cons, List.sum_nil, cat_i, cat_r, cat_l, Nat.zero_le, Int32.reduceOfNat, Int32.reduceAdd, Int32.reduceLT, Int32.reduceLE, forall_const, true_implies, false_implies, not_false_eq_true, not_true_eq_false, bi_eq0, bi_ne0, sl_0, sl_3, va_rf, Nat.reduceEqDiff, if_false, ite_false, ite_true, reduceIte, List.set_cons_zero, List.set_cons_succ, Nat.succ_eq_add_one, mup_c, mup_s, mw_zero, ne_eq, lit_10, lit_01, lit_m10, lit_m11, nar_bi, hgn]
  refine ⟨fun h1 => ?_, fun h1 => ?_⟩
  · have h2 : ¬ pick (drw (drw (drw (ε.1 56)))) 10 < μ 56 29 := (by simp only [Int32.le_iff_toInt_le, Int32.lt_iff_toInt_lt, ← Int32.toInt_inj, Int32.reduceToInt, ne_eq] at *; omega)
    have := hQ (mup (mup μ 72 15 (pick (drw (ε.1 56)) 9)) 72 18 (μ 72 18 ||| (1 : Int32) <<< (pick (drw (drw (ε.1 56))) (nI tn) &&& 31))) ((Off.rf.up (by decide)).up (by decide)) (fun i => by
      rw [dA, if_neg h2, mup_s, mup_s]; rfl)
    rw [dS, if_neg h2] at this
    simp only [vaup2]
    exact this
  · have h2 : pick (drw (drw (drw (ε.1 56)))) 10 < μ 56 29 := (by simp only [Int32.le_iff_toInt_le, Int32.lt_iff_toInt_lt, ← Int32.toInt_inj, Int32.reduceToInt, ne_eq] at *; omega)
    refine m_draw (m64 hg0 (by omega)) ?_
    simp only [lgg, lgs]
    obtain ⟨k, hk, hp⟩ := pick_is (s := drw (drw (drw (drw (ε.1 56))))) hg0 (show gn < 2147483648 by omega)
    have e0 : (0 : Int32) + nI k = nI k := by rw [l0, nI_add, Nat.zero_add]
    rw [hp]
    refine mw_ok (M := mX12_drawDrive) (fun _ => false) okTX12 rfl 30 _ _ _ _ ?_
    simp only [eX12_drawDrive_0, eX12_drawDrive_1, eX12_drawDrive_4, eX12_drawDrive_6, eX12_drawDrive_7, eX12_drawDrive_9, eX12_drawDrive_12, eX12_drawDrive_13, eX12_drawDrive_14, eX12_drawDrive_17, eX12_drawDrive_19, eX12_drawDrive_20, eX12_drawDrive_21, eX12_drawDrive_22, eX12_drawDrive_23, eX12_drawDrive_24, eX12_drawDrive_27, eX12_drawDrive_30, eX12_drawDrive_31, eX12_drawDrive_32, eX12_drawDrive_33, eX12_drawDrive_34, eX12_drawDrive_36, eX12_drawDrive_39, eX12_drawDrive_40, eX12_drawDrive_43, eX12_drawDrive_46, eX12_drawDrive_47, eX12_drawDrive_48, eX12_drawDrive_51, eX12_drawDrive_54, eX12_drawDrive_55, eX12_drawDrive_56, eX12_drawDrive_59, eX12_drawDrive_60, eX12_drawDrive_61, eX12_drawDrive_62, eX12_drawDrive_63, eX12_drawDrive_65, eX12_drawDrive_68, eX12_drawDrive_69, st_aload, st_dup2, st_iadd, st_iconst, st_ic_eq, st_ic_ne, st_ic_lt, st_ic_ge, st_ic_gt, st_ic_le, st_iload, st_inv, st_ior, st_ishl, st_istore, st_ret, gf_56_1224, gf_56_1225, gf_56_1226, gf_56_1229, ld_57, sv_57, ld_58, sv_58, ld_59, sv_59, ld_60, sv_60, ld_61, sv_61, ld_62, sv_62, ld_63, sv_63, ld_64, sv_64, ld_65, sv_65, ld_66, sv_66, ld_67, sv_67, ld_68, sv_68, ld_69, sv_69, ld_70, sv_70, ld_71, sv_71, ld_72, sv_72, ld_73, sv_73, ld_74, sv_74, ld_75, sv_75, ld_76, sv_76, ld_77, sv_77, ld_78, sv_78, ld_79, sv_79, ld_80, sv_80, ld_81, sv_81, ld_82, sv_82, ld_83, sv_83, ld_85, sv_85, HP_56, tab_197, mm_cut, cond_false, cond_true, List.getElem?_cons_succ, List.getElem?_cons_zero, Int.reduceToNat, Nat.reduceMod, Nat.reduceDiv, Nat.reduceAdd, true_and, and_true, mm_set, mm_set2, mm_pop, List.length_cons, List.length_nil, Nat.reduceLeDiff, Int32.reduceOfInt, Int64.reduceOfInt, nar_b0, nar_b1, List.cons_append, List.nil_append, Option.toList_some, Option.toList_none, List.map_cons, List.map_nil, List.sum_cons, List.sum_nil, cat_i, cat_r, cat_l, Nat.zero_le, Int32.reduceOfNat, Int32.reduceAdd, Int32.reduceLT, Int32.reduceLE, forall_const, true_implies, false_implies, not_false_eq_true, not_true_eq_false, bi_eq0, bi_ne0, sl_0, sl_3, va_rf, Nat.reduceEqDiff, if_false, ite_false, ite_true, reduceIte, List.set_cons_zero, List.set_cons_succ, Nat.succ_eq_add_one, mup_c, mup_s, mw_zero, ne_eq, lit_10, lit_01, lit_m10, lit_m11, nar_bi, e0]
    refine m_draw (by decide) ?_
    simp only [lgg, lgs]
    refine mw_ok (M := mX12_drawDrive) (fun _ => false) okTX12 rfl 30 _ _ _ _ ?_
    simp only [eX12_drawDrive_0, eX12_drawDrive_1, eX12_drawDrive_4, eX12_drawDrive_6, eX12_drawDrive_7, eX12_drawDrive_9, eX12_drawDrive_12, eX12_drawDrive_13, eX12_drawDrive_14, eX12_drawDrive_17, eX12_drawDrive_19, eX12_drawDrive_20, eX12_drawDrive_21, eX12_drawDrive_22, eX12_drawDrive_23, eX12_drawDrive_24, eX12_drawDrive_27, eX12_drawDrive_30, eX12_drawDrive_31, eX12_drawDrive_32, eX12_drawDrive_33, eX12_drawDrive_34, eX12_drawDrive_36, eX12_drawDrive_39, eX12_drawDrive_40, eX12_drawDrive_43, eX12_drawDrive_46, eX12_drawDrive_47, eX12_drawDrive_48, eX12_drawDrive_51, eX12_drawDrive_54, eX12_drawDrive_55, eX12_drawDrive_56, eX12_drawDrive_59, eX12_drawDrive_60, eX12_drawDrive_61, eX12_drawDrive_62, eX12_drawDrive_63, eX12_drawDrive_65, eX12_drawDrive_68, eX12_drawDrive_69, st_aload, st_dup2, st_iadd, st_iconst, st_ic_eq, st_ic_ne, st_ic_lt, st_ic_ge, st_ic_gt, st_ic_le, st_iload, st_inv, st_ior, st_ishl, st_istore, st_ret, gf_56_1224, gf_56_1225, gf_56_1226, gf_56_1229, ld_57, sv_57, ld_58, sv_58, ld_59, sv_59, ld_60, sv_60, ld_61, sv_61, ld_62, sv_62, ld_63, sv_63, ld_64, sv_64, ld_65, sv_65, ld_66, sv_66, ld_67, sv_67, ld_68, sv_68, ld_69, sv_69, ld_70, sv_70, ld_71, sv_71, ld_72, sv_72, ld_73, sv_73, ld_74, sv_74, ld_75, sv_75, ld_76, sv_76, ld_77, sv_77, ld_78, sv_78, ld_79, sv_79, ld_80, sv_80, ld_81, sv_81, ld_82, sv_82, ld_83, sv_83, ld_85, sv_85, HP_56, tab_197, mm_cut, cond_false, cond_true, List.getElem?_cons_succ, List.getElem?_cons_zero, Int.reduceToNat, Nat.reduceMod, Nat.reduceDiv, Nat.reduceAdd, true_and, and_true, mm_set, mm_set2, mm_pop, List.length_cons, List.length_nil, Nat.reduceLeDiff, Int32.reduceOfInt, Int64.reduceOfInt, nar_b0, nar_b1, List.cons_append, List.nil_append, Option.toList_some, Option.toList_none, List.map_cons, List.map_nil, List.sum_cons, List.sum_nil, cat_i, cat_r, cat_l, Nat.zero_le, Int32.reduceOfNat, Int32.reduceAdd, Int32.reduceLT, Int32.reduceLE, forall_const, true_implies, false_implies, not_false_eq_true, not_true_eq_false, bi_eq0, bi_ne0, sl_0, sl_3, va_rf, Nat.reduceEqDiff, if_false, ite_false, ite_true, reduceIte, List.set_cons_zero, List.set_cons_succ, Nat.succ_eq_add_one, mup_c, mup_s, mw_zero, ne_eq, lit_10, lit_01, lit_m10, lit_m11, nar_bi, vinT (a := k) rfl (show k < 202 by omega), clp (a := k) rfl (by omega)]
    have := hQ (mup (mup (mup μ 72 15 (pick (drw (ε.1 56)) 9)) 72 18 (μ 72 18 ||| (1 : Int32) <<< (pick (drw (drw (ε.1 56))) (nI tn) &&& 31))) 72 k (pick (drw (drw (drw (drw (drw (ε.1 56)))))) 10)) (((Off.rf.up (by decide)).up (by decide)).up (by decide)) (fun i => by
      rw [dA, if_pos h2, hp, clp (a := k) rfl, mup_s, mup_s, mup_s]; rfl)
    rw [dS, if_pos h2] at this
    simp only [vaup2]
    exact this
end M12
