/-! TEXT(1): no cell names a reference that isn't there -/
def mm_lt87 (v : Value) : Bool := match v with
  | .ref k => Nat.blt k 87
  | _ => true
theorem nor87 {m : Nat} (hm : 87 ≤ m) {ci : Nat} {fs : List Value} (h : fs.all mm_lt87 = true) : mm_nor m (.inr (ci, fs)) := by
  intro v hv z
  have h1 := List.all_eq_true.mp h v hv
  rw [z] at h1
  have h2 : Nat.blt m 87 = true := h1
  have h3 := Nat.le_of_ble_eq_true h2
  omega
theorem HP_nor {ε : mm_X} {μ : mm_mu} {n m k : Nat} {x : mm_C} (h1 : ∀ i j, ε.2.2.1 i = some j → j < n) (h2 : ∀ j, ε.2.1 = some j → j < n) (hn : 87 + 3 * ε.2.2.2.1 ≤ n) (hm : n ≤ m) (hx : HP ε μ k = some x) : mm_nor m x := by
  have h87 : 87 ≤ m := by omega
  have hx' : HPc ε k (μ k) = some x := hx
  unfold HPc at hx'
  split at hx'
  case h_18 =>
    cases hx'
    intro v hv z
    have : v = va_rf ε.2.1 ∨ v ∈ ([.ref 18, .ref 24, .ref 28, .int (μ 17 4), .ref 32, .ref 33, .ref 34, .ref 35, .int (μ 17 9), .int (μ 17 10), .int (μ 17 11), .ref 36, .ref 37] : List Value) := by
      simp only [List.mem_cons, List.not_mem_nil, or_false] at hv
      rcases hv with h | h | h | h | h | h | h | h | h | h | h | h | h | h <;> first | exact Or.inl h | (right; rw [h]; simp)
    rcases this with e | e
    · rw [z] at e
      cases h : ε.2.1 with
      | none => rw [h] at e; cases e
      | some j =>
        rw [h] at e
        have := h2 j h
        cases e
        omega
    · exact nor87 (ci := 0) h87 rfl v e z
  case h_39 =>
    cases hx'
    intro i z
    have := h1 i m z
    omega
  case h_88 =>
    unfold mm_law at hx'
    split at hx'
    · rename_i hk
      split at hx'
      · cases hx'
        intro v hv z
        simp only [List.mem_cons, List.not_mem_nil, or_false] at hv
        rw [z] at hv
        rcases hv with e | e
        · have : m = _ := Value.ref.inj e
          omega
        · have : m = _ := Value.ref.inj e
          omega
      · split at hx'
        · cases hx'; trivial
        · cases hx'; trivial
    · cases hx'
  all_goals first | (cases hx'; exact nor87 h87 rfl) | (cases hx'; trivial)
section X3
variable {ε : mm_X} {μ : mm_mu} {tn gn a p ln sz m : Nat} {dy : Nat → Nat}
theorem JX.nor (hJ : JX ε μ tn gn a p dy ln sz m) {μ' : mm_mu} : ∀ m' k x, 87 + 3 * ln ≤ m' → HP ε μ' k = some x → mm_nor m' x := by
  obtain ⟨h1, h2, h3, h4, h5, h6, h7⟩ := hJ.2.2.2.1
  intro m' k x hm hx
  refine HP_nor (n := 87 + 3 * ln) (fun i j e => ?_) (fun j e => ?_) (by rw [h2.1]; omega) hm hx
  · by_cases hi : i < ln
    · rw [(h5 i hi).1] at e
      cases e; omega
    · rw [h2.2 i (by omega)] at e; cases e
  · rcases h7 with h7 | ⟨q, q1, q2, q3⟩
    · rw [h7.2] at e; cases e
    · rw [q3] at e; cases e; omega
/-- the class's text(1), where there is room for a law -/
theorem c_text1 {Q : mm_Q} {n : Nat} (hJ : JX ε μ tn gn a p dy ln sz m) (hln : ln < 4) (hn : n = 87 + 3 * ln)
    (hbad : ∀ μ' q, pLaw (μ 57) sz = .inl q → OT [1, 15, 16] μ μ' q → Q (some (.int (-1))) n (HP ε μ'))
    (hgood : ∀ μ' b cs, pLaw (μ 57) sz = .inr cs → OT [1, 15, 16] μ μ' b → WR μ μ' 0 (ccode 0 cs) → (ccode 0 cs).length ≤ 240 → Q (some (.int (nI ln))) (n + 3) (HP (eps1 ε ln (ccode 0 cs).length) (mu1 μ' ln (va_cpy (μ' 16) (fun _ => 0) 0 0 (ccode 0 cs).length)))) : Body 100 3 274 mX11_text [.ref 0, .int 1] n (HP ε μ) Q := by
  have h05 : μ 0 5 = nI ln := hJ.2.2.2.1.2.2.1
  have hnor := hJ.nor (μ' := μ)
  refine body_of_G (lv := [.ref 0, .int 1]) (by decide +kernel) (Nat.le_of_ble_eq_true rfl) rfl ?_
  refine sn_iload_n (j := 1) (x := 1) (by decide +kernel) rfl ?_
  refine sn_if_ne (off := 26) (by decide +kernel) (by decide) (fun _ => ?_) (fun z => absurd z (by decide))
  refine sn_iload_n (j := 1) (x := 1) (by decide +kernel) rfl ?_
  refine sn_iconst (j := 1) (by decide +kernel) ?_
  refine sn_icmp_ne (off := 11) (by decide +kernel) (by decide) (fun z => absurd rfl z) (fun _ => ?_)
  refine sn_aload_n (j := 0) (x := 0) (by decide +kernel) rfl ?_
  refine sn_getfield (own := RX11) (j := 43) (ci := 11) (k := 5) (v := .int (μ 0 5)) (q := (RX11, TX11, 14)) rfl rfl okcX11 (by decide) (mm_in 2 117 rfl rfl) rfl rfl (by decide +kernel) ?_
  refine sn_iconst (j := 4) (by decide +kernel) ?_
  refine sn_icmp_lt (off := 5) (by decide +kernel) (by decide) (fun _ => ?_) (fun z => absurd (by rw [h05]; exact nI_lt (a := ln) (b := 4) hln (by omega)) z)
  refine sn_aload_n (j := 0) (x := 0) (by decide +kernel) rfl ?_
  refine sn_getfield (own := RX11) (j := 26) (ci := 11) (k := 2) (v := .ref 15) (q := (RX11, TX11, 14)) rfl rfl okcX11 (by decide) (mm_in 2 114 rfl rfl) rfl rfl (by decide +kernel) ?_
  refine sn_aload_n (j := 0) (x := 0) (by decide +kernel) rfl ?_
  refine sn_getfield (own := RX11) (j := 10) (ci := 11) (k := 0) (v := .ref 1) (q := (RX11, TX11, 14)) rfl rfl okcX11 (by decide) (mm_in 2 112 rfl rfl) rfl rfl (by decide +kernel) ?_
  refine sn_callV (M' := mX6_read) (j := 100) (r := 15) (ci := 6) (q := (RX6, TX6, 2)) (mc' := 0) (ms' := 0) (As := [.ref 1]) (st := []) okM_X6_read (Or.inl (mm_in 3 85 rfl rfl)) (mm_in 3 86 rfl rfl) (mm_in 3 87 rfl rfl) rfl rfl rfl (Nat.le_of_ble_eq_true rfl) (by decide +kernel) (by decide) (by decide)
    (c_law (d := 68) (tx := μ 57) (sz := sz) (Q := fun v h' => (∃ μ' q, pLaw (μ 57) sz = .inl q ∧ OT [1, 15, 16] μ μ' q ∧ v = some (.int 0) ∧ h' = HP ε μ') ∨ (∃ μ' b cs, pLaw (μ 57) sz = .inr cs ∧ OT [1, 15, 16] μ μ' b ∧ WR μ μ' 0 (ccode 0 cs) ∧ (ccode 0 cs).length ≤ 240 ∧ v = some (.int 1) ∧ h' = HP ε μ')) hJ.ts (by
      cases hp : pLaw (μ 57) sz with
      | inl q => exact fun μ' ho => Or.inl ⟨μ', q, rfl, ho, rfl, rfl⟩
      | inr cs => exact fun μ' b ho hw hl => Or.inr ⟨μ', b, cs, rfl, ho, hw, hl, rfl, rfl⟩) n) ?_
  rintro v n' h' ⟨rfl, hq⟩
  refine ⟨fun ad ad' hk => ⟨?_, rfl⟩, ?_⟩
  · simp only [List.map_cons, List.map_nil, mm_t, hk 0 (by omega)]
  rcases hq with ⟨μ', q, hp, ho, rfl, rfl⟩ | ⟨μ', b, cs, hp, ho, hw, hl, rfl, rfl⟩
  · refine sn_if_eq (off := 10) (by decide +kernel) (by decide) (fun _ => ?_) (fun z => absurd rfl z)
    refine sn_iconst (j := -1) (by decide +kernel) ?_
    exact sn_ireturn rfl (by decide +kernel) (hbad μ' q hp ho)
  · refine sn_if_eq (off := 10) (by decide +kernel) (by decide) (fun z => absurd z (by decide)) (fun _ => ?_)
    refine sn_aload_n (j := 0) (x := 0) (by decide +kernel) rfl ?_
    have h05' : μ' 0 5 = nI ln := by rw [ho.1 0 (by decide)]; exact h05
    have hN : μ' 15 1 = nI (ccode 0 cs).length := by
      have := hw.1
      rwa [Nat.zero_add] at this
    have hnor' := hJ.nor (μ' := μ')
    refine sn_callV (M' := mX11_enact) (j := 108) (r := 0) (ci := 11) (q := (RX11, TX11, 14)) (mc' := 3) (ms' := 274) (As := []) (st := []) (Q1 := fun v n1 h1 => v = some (.int (nI ln)) ∧ n1 = n' + 3 ∧ h1 = HP (eps1 ε ln (ccode 0 cs).length) (mu1 μ' ln (va_cpy (μ' 16) (fun _ => 0) 0 0 (ccode 0 cs).length))) okM_X11_enact (Or.inl (mm_in 3 160 rfl rfl)) (mm_in 3 162 rfl rfl) (mm_in 0 18 rfl rfl) rfl rfl rfl (Nat.le_of_ble_eq_true rfl) (by decide +kernel) (by decide) (by decide)
      (b_enact (d := 96) (N := (ccode 0 cs).length) (ln := ln) (f := μ' 16) (g := va_cpy (μ' 16) (fun _ => 0) 0 0 (ccode 0 cs).length) (L := ε.2.2.1) (F := [.ref 1, .ref 3, .ref 15, .ref 17, .ref 38, .int (μ' 0 5), .int (μ' 0 6), .int (μ' 0 7), .long (ε.1 0), .ref 39, .ref 40, .ref 45, .ref 50, .ref 53]) (x := .int (μ' 1 1)) (y := .int (μ' 1 2)) (by omega) (by omega) hln (fun m' k x hm hx => hnor' m' k x (by omega) hx) rfl ⟨rfl, rfl, rfl, congrArg (fun z => some (Value.int z)) h05', rfl⟩ rfl rfl (by rw [← hN]; rfl) ?_ ?_) ?_
    · intro Q1 hQ1
      refine b_copyAny (f := μ' 16) (k := 240) (by omega) (fun k x hx => ?_) ?_ (by omega) hl (by decide) hQ1
      · by_cases hk : k = n'
        · subst hk
          simp only [va_up, if_true] at hx
          cases hx
          intro v hv z
          simp only [List.mem_cons, List.not_mem_nil, or_false, or_self] at hv
          rw [hv] at z; cases z
        · simp only [va_up, if_neg hk] at hx
          exact hnor' _ k x (by omega) hx
      · rw [show va_up (HP ε μ') n' (some (.inr (5, [.null, .null]))) 16 = HP ε μ' 16 by simp [va_up, show 16 ≠ n' by omega]]
        rfl
    · intro h' hh
      refine ⟨rfl, rfl, ?_⟩
      funext k
      rw [hh k, HP_e1 (ε := ε) (μ := μ') hln hJ.2.2.2.1.2.1.1 k, hn]
      rfl
    rintro v n1 h1 ⟨rfl, rfl, rfl⟩
    refine ⟨fun ad ad' hk => ⟨?_, rfl⟩, ?_⟩
    · simp only [List.map_cons, List.map_nil, mm_t, hk 0 (by omega)]
    refine sn_goto (off := 4) (by decide +kernel) (by decide) ?_
    exact sn_ireturn rfl (by decide +kernel) (hgood μ' b cs hp ho hw hl)
/-- class, then reference, where cells may be made -/
def PrB (M1 M2 : mm_M) (A : List Value) (ε : mm_X) (μ : mm_mu) : Prop := Body 100 3 274 M1 (.ref 0 :: A) (87 + 3 * ε.2.2.2.1) (HP ε μ) (fun v _ h => PQ M2 A v h)
theorem r_text1 {tx : Nat → Int32} {cs : List (List Tk × List Tk)} (hln : ln < 4) (h13 : μ 56 13 = nI ln) (h2 : μ 56 2 = nI sz) (h57 : μ 57 = tx) (hsz : sz ≤ 240) (hp : pLaw tx sz = .inr cs) (hJ : ∀ μ2, LPs μ μ2 ln → LwR μ2 ln cs → J ε (mup (mup μ2 56 2 0) 56 13 (nI (ln + 1)))) : PQ mX12_text [.int 1] (some (.int (nI ln))) (HP ε μ) := by
  show B0 100 mX12_text [.ref 56, .int 1] (HP ε μ) _
  refine b0_of_G0 (lv := [.ref 56, .int 1]) (by decide +kernel) (Nat.le_of_ble_eq_true rfl) rfl ?_
  have f1 : ((4 : Int32) ≤ nI ln) = False := eq_false (by
    intro z
    exact absurd (nI_lt (a := ln) (b := 4) hln (by omega)) (Int32.not_lt.mpr z))
  refine mw_ok (M := mX12_text) (fun _ => false) okTX12 rfl 20 _ _ _ _ ?_
  simp (decide := true) only [eX12_text_0, eX12_text_1, eX12_text_4, eX12_text_5, eX12_text_8, eX12_text_9, eX12_text_12, eX12_text_13, eX12_text_14, eX12_text_17, eX12_text_18, eX12_text_21, eX12_text_22, eX12_text_23, eX12_text_24, eX12_text_27, eX12_text_28, eX12_text_31, eX12_text_32, eX12_text_35, eX12_text_36, eX12_text_37, eX12_text_40, eX12_text_43, eX12_text_44, eX12_text_47, eX12_text_48, eX12_text_49, eX12_text_52, eX12_text_53, eX12_text_54, eX12_text_57, eX12_text_58, eX12_text_59, eX12_text_62, eX12_text_63, eX12_text_66, eX12_text_67, eX12_text_68, eX12_text_69, eX12_text_70, st_aload, st_dupi, st_dupr, st_iadd, st_iconst, st_if_eq, st_if_ne, st_if_lt, st_if_ge, st_if_gt, st_if_le, st_ic_eq, st_ic_ne, st_ic_lt, st_ic_ge, st_ic_gt, st_ic_le, st_iload, st_inv, st_iret, st_zret, st_bret, st_isub, gf_56_1213, pf_56_1202, pf_56_1213, HP_56, tab_155, tab_165, tab_167, mm_cut, cond_false, cond_true, List.getElem?_cons_succ, List.getElem?_cons_zero, Int.reduceToNat, Nat.reduceMod, Nat.reduceDiv, Nat.reduceAdd, true_and, and_true, mm_set, mm_set2, mm_pop, List.length_cons, List.length_nil, Nat.reduceLeDiff, Int32.reduceOfInt, Int64.reduceOfInt, nar_b0, nar_b1, List.cons_append, List.nil_append, Option.toList_some, Option.toList_none, List.map_cons, List.map_nil, List.sum_cons, List.sum_nil, cat_i, cat_r, cat_l, Nat.zero_le, Int32.reduceOfNat, Int32.reduceAdd, Int32.reduceLT, Int32.reduceLE, forall_const, true_implies, false_implies, not_false_eq_true, not_true_eq_false, bi_eq0, bi_ne0, sl_0, sl_3, va_rf, Nat.reduceEqDiff, if_false, ite_false, ite_true, reduceIte, List.set_cons_zero, List.set_cons_succ, Nat.succ_eq_add_one, mup_c, mup_s, mw_zero, ne_eq, lit_10, lit_01, lit_m10, lit_m11, nar_bi, h13, f1]
  refine m_readLaw (d := 62) (sz := sz) rfl (by omega) h2 hsz (fun μ2 w ho2 hw => ?_)
  rw [h57, hp] at hw
  obtain ⟨rfl, hw⟩ := hw
  have g13 : μ2 56 13 = nI ln := by rw [ho2.1.2 13 (by decide)]; exact h13
  have e2 : nI (ln + 1) - 1 = nI ln := nI_sub (a := ln + 1) (by omega)
  refine mw_ok (M := mX12_text) (fun _ => false) okTX12 rfl 20 _ _ _ _ ?_
  simp (decide := true) only [eX12_text_0, eX12_text_1, eX12_text_4, eX12_text_5, eX12_text_8, eX12_text_9, eX12_text_12, eX12_text_13, eX12_text_14, eX12_text_17, eX12_text_18, eX12_text_21, eX12_text_22, eX12_text_23, eX12_text_24, eX12_text_27, eX12_text_28, eX12_text_31, eX12_text_32, eX12_text_35, eX12_text_36, eX12_text_37, eX12_text_40, eX12_text_43, eX12_text_44, eX12_text_47, eX12_text_48, eX12_text_49, eX12_text_52, eX12_text_53, eX12_text_54, eX12_text_57, eX12_text_58, eX12_text_59, eX12_text_62, eX12_text_63, eX12_text_66, eX12_text_67, eX12_text_68, eX12_text_69, eX12_text_70, st_aload, st_dupi, st_dupr, st_iadd, st_iconst, st_if_eq, st_if_ne, st_if_lt, st_if_ge, st_if_gt, st_if_le, st_ic_eq, st_ic_ne, st_ic_lt, st_ic_ge, st_ic_gt, st_ic_le, st_iload, st_inv, st_iret, st_zret, st_bret, st_isub, gf_56_1213, pf_56_1202, pf_56_1213, HP_56, tab_155, tab_165, tab_167, mm_cut, cond_false, cond_true, List.getElem?_cons_succ, List.getElem?_cons_zero, Int.reduceToNat, Nat.reduceMod, Nat.reduceDiv, Nat.reduceAdd, true_and, and_true, mm_set, mm_set2, mm_pop, List.length_cons, List.length_nil, Nat.reduceLeDiff, Int32.reduceOfInt, Int64.reduceOfInt, nar_b0, nar_b1, List.cons_append, List.nil_append, Option.toList_some, Option.toList_none, List.map_cons, List.map_nil, List.sum_cons, List.sum_nil, cat_i, cat_r, cat_l, Nat.zero_le, Int32.reduceOfNat, Int32.reduceAdd, Int32.reduceLT, Int32.reduceLE, forall_const, true_implies, false_implies, not_false_eq_true, not_true_eq_false, bi_eq0, bi_ne0, sl_0, sl_3, va_rf, Nat.reduceEqDiff, if_false, ite_false, ite_true, reduceIte, List.set_cons_zero, List.set_cons_succ, Nat.succ_eq_add_one, mup_c, mup_s, mw_zero, ne_eq, lit_10, lit_01, lit_m10, lit_m11, nar_bi, g13, nI_1, e2]
  exact PE.mk rfl (hJ μ2 ho2 hw)
theorem p_text1 (hJ : JX ε μ tn gn a p dy ln sz m) (hln : ln < 4) : PrB mX11_text mX12_text [.int 1] ε μ := by
  obtain ⟨t1, t2, t3, t4⟩ := hJ.2.2.2.2.1
  have he : ε.2.2.2.1 = ln := hJ.2.2.2.1.2.1.1
  have h13 : μ 56 13 = nI ln := hJ.2.2.2.1.2.2.2.1
  refine c_text1 hJ hln (by rw [he]) (fun μ1 q hp ho => ?_) (fun μ1 b cs hp ho hw hl => ?_)
  · have hj1 := hJ.scr (ho.1.mono (by decide)) ho.2.1 (by rw [ho.1 10 (by decide)])
    have h13' : μ1 56 13 = nI ln := by rw [ho.1 56 (by decide)]; exact h13
    show B0 100 mX12_text [.ref 56, .int 1] (HP ε μ1) _
    refine b0_of_G0 (lv := [.ref 56, .int 1]) (by decide +kernel) (Nat.le_of_ble_eq_true rfl) rfl ?_
    have f1 : ((4 : Int32) ≤ nI ln) = False := eq_false (by
      intro z
      exact absurd (nI_lt (a := ln) (b := 4) hln (by omega)) (Int32.not_lt.mpr z))
    refine mw_ok (M := mX12_text) (fun _ => false) okTX12 rfl 20 _ _ _ _ ?_
    simp (decide := true) only [eX12_text_0, eX12_text_1, eX12_text_4, eX12_text_5, eX12_text_8, eX12_text_9, eX12_text_12, eX12_text_13, eX12_text_14, eX12_text_17, eX12_text_18, eX12_text_21, eX12_text_22, eX12_text_23, eX12_text_24, eX12_text_27, eX12_text_28, eX12_text_31, eX12_text_32, eX12_text_35, eX12_text_36, eX12_text_37, eX12_text_40, eX12_text_43, eX12_text_44, eX12_text_47, eX12_text_48, eX12_text_49, eX12_text_52, eX12_text_53, eX12_text_54, eX12_text_57, eX12_text_58, eX12_text_59, eX12_text_62, eX12_text_63, eX12_text_66, eX12_text_67, eX12_text_68, eX12_text_69, eX12_text_70, st_aload, st_dupi, st_dupr, st_iadd, st_iconst, st_if_eq, st_if_ne, st_if_lt, st_if_ge, st_if_gt, st_if_le, st_ic_eq, st_ic_ne, st_ic_lt, st_ic_ge, st_ic_gt, st_ic_le, st_iload, st_inv, st_iret, st_zret, st_bret, st_isub, gf_56_1213, pf_56_1202, pf_56_1213, HP_56, tab_155, tab_165, tab_167, mm_cut, cond_false, cond_true, List.getElem?_cons_succ, List.getElem?_cons_zero, Int.reduceToNat, Nat.reduceMod, Nat.reduceDiv, Nat.reduceAdd, true_and, and_true, mm_set, mm_set2, mm_pop, List.length_cons, List.length_nil, Nat.reduceLeDiff, Int32.reduceOfInt, Int64.reduceOfInt, nar_b0, nar_b1, List.cons_append, List.nil_append, Option.toList_some, Option.toList_none, List.map_cons, List.map_nil, List.sum_cons, List.sum_nil, cat_i, cat_r, cat_l, Nat.zero_le, Int32.reduceOfNat, Int32.reduceAdd, Int32.reduceLT, Int32.reduceLE, forall_const, true_implies, false_implies, not_false_eq_true, not_true_eq_false, bi_eq0, bi_ne0, sl_0, sl_3, va_rf, Nat.reduceEqDiff, if_false, ite_false, ite_true, reduceIte, List.set_cons_zero, List.set_cons_succ, Nat.succ_eq_add_one, mup_c, mup_s, mw_zero, ne_eq, lit_10, lit_01, lit_m10, lit_m11, nar_bi, h13', f1]
    refine m_readLaw (d := 62) (sz := sz) rfl (by omega) hj1.2.2.2.2.1.2.1 t3 (fun μ2 w ho2 hw => ?_)
    rw [ho.1 57 (by decide), hp] at hw
    obtain ⟨hq, rfl⟩ := hw
    have f2 : (nI q = -1) = False := eq_false (nI_nm (by omega))
    refine mw_ok (M := mX12_text) (fun _ => false) okTX12 rfl 20 _ _ _ _ ?_
    simp (decide := true) only [eX12_text_0, eX12_text_1, eX12_text_4, eX12_text_5, eX12_text_8, eX12_text_9, eX12_text_12, eX12_text_13, eX12_text_14, eX12_text_17, eX12_text_18, eX12_text_21, eX12_text_22, eX12_text_23, eX12_text_24, eX12_text_27, eX12_text_28, eX12_text_31, eX12_text_32, eX12_text_35, eX12_text_36, eX12_text_37, eX12_text_40, eX12_text_43, eX12_text_44, eX12_text_47, eX12_text_48, eX12_text_49, eX12_text_52, eX12_text_53, eX12_text_54, eX12_text_57, eX12_text_58, eX12_text_59, eX12_text_62, eX12_text_63, eX12_text_66, eX12_text_67, eX12_text_68, eX12_text_69, eX12_text_70, st_aload, st_dupi, st_dupr, st_iadd, st_iconst, st_if_eq, st_if_ne, st_if_lt, st_if_ge, st_if_gt, st_if_le, st_ic_eq, st_ic_ne, st_ic_lt, st_ic_ge, st_ic_gt, st_ic_le, st_iload, st_inv, st_iret, st_zret, st_bret, st_isub, gf_56_1213, pf_56_1202, pf_56_1213, HP_56, tab_155, tab_165, tab_167, mm_cut, cond_false, cond_true, List.getElem?_cons_succ, List.getElem?_cons_zero, Int.reduceToNat, Nat.reduceMod, Nat.reduceDiv, Nat.reduceAdd, true_and, and_true, mm_set, mm_set2, mm_pop, List.length_cons, List.length_nil, Nat.reduceLeDiff, Int32.reduceOfInt, Int64.reduceOfInt, nar_b0, nar_b1, List.cons_append, List.nil_append, Option.toList_some, Option.toList_none, List.map_cons, List.map_nil, List.sum_cons, List.sum_nil, cat_i, cat_r, cat_l, Nat.zero_le, Int32.reduceOfNat, Int32.reduceAdd, Int32.reduceLT, Int32.reduceLE, forall_const, true_implies, false_implies, not_false_eq_true, not_true_eq_false, bi_eq0, bi_ne0, sl_0, sl_3, va_rf, Nat.reduceEqDiff, if_false, ite_false, ite_true, reduceIte, List.set_cons_zero, List.set_cons_succ, Nat.succ_eq_add_one, mup_c, mup_s, mw_zero, ne_eq, lit_10, lit_01, lit_m10, lit_m11, nar_bi, f2]
    exact PE.mk rfl (hj1.lps ho2 (Nat.le_refl _)).j
  · have hj1 := hJ.scr (ho.1.mono (by decide)) ho.2.1 (by rw [ho.1 10 (by decide)])
    obtain ⟨c1, c2, c3⟩ := pLaw_c hp
    have e57 : μ1 57 = μ 57 := ho.1 57 (by decide)
    refine r_text1 (sz := sz) (tx := μ 57) hln ?_ ?_ ?_ t3 hp ?_
    · rw [mu1_o (by decide) (by decide) (by omega) (by omega), ho.1 56 (by decide)]; exact h13
    · rw [mu1_o (by decide) (by decide) (by omega) (by omega)]; exact hj1.2.2.2.2.1.2.1
    · rw [mu1_o (by decide) (by decide) (by omega) (by omega)]; exact e57
    · intro μ2 ho2 hw2
      refine (JX.enact hj1 hln rfl hl ?_ c3 (by omega) (by omega) ho2 hw2).j
      exact At_cong _ 0 (fun i hi => by simp [va_cpy, show i < (ccode 0 cs).length by omega]) hw.2.2
theorem p_text4 (hJ : JX ε μ tn gn a p dy 4 sz m) : Pr mX11_text mX12_text [.int 1] ε μ := by
  have h05 : μ 0 5 = 4 := hJ.2.2.2.1.2.2.1
  have h13 : μ 56 13 = 4 := hJ.2.2.2.1.2.2.2.1
  show B0 100 mX11_text [.ref 0, .int 1] (HP ε μ) (PQ mX12_text [.int 1])
  refine b0_of_G0 (lv := [.ref 0, .int 1]) (by decide +kernel) (Nat.le_of_ble_eq_true rfl) rfl ?_
  refine mw_ok (M := mX11_text) (fun _ => false) okTX11 rfl 20 _ _ _ _ ?_
  simp (decide := true) only [eX11_text_0, eX11_text_1, eX11_text_4, eX11_text_5, eX11_text_8, eX11_text_9, eX11_text_12, eX11_text_15, eX11_text_18, eX11_text_19, eX11_text_22, eX11_text_25, eX11_text_26, eX11_text_27, eX11_text_28, eX11_text_29, eX11_text_32, eX11_text_33, eX11_text_36, eX11_text_37, eX11_text_40, eX11_text_41, eX11_text_42, eX11_text_43, eX11_text_46, eX11_text_47, eX11_text_50, eX11_text_53, eX11_text_56, eX11_text_57, eX11_text_60, eX11_text_63, eX11_text_64, st_aload, st_goto, st_iconst, st_if_eq, st_if_ne, st_if_lt, st_if_ge, st_if_gt, st_if_le, st_ic_eq, st_ic_ne, st_ic_lt, st_ic_ge, st_ic_gt, st_ic_le, st_iload, st_inv, st_iret, st_zret, st_bret, gf_0_1100, gf_0_1101, gf_0_1102, gf_0_1105, HP_0, HP_3, HP_15, tab_12, tab_37, tab_115, tab_116, mm_cut, cond_false, cond_true, List.getElem?_cons_succ, List.getElem?_cons_zero, Int.reduceToNat, Nat.reduceMod, Nat.reduceDiv, Nat.reduceAdd, true_and, and_true, mm_set, mm_set2, mm_pop, List.length_cons, List.length_nil, Nat.reduceLeDiff, Int32.reduceOfInt, Int64.reduceOfInt, nar_b0, nar_b1, List.cons_append, List.nil_append, Option.toList_some, Option.toList_none, List.map_cons, List.map_nil, List.sum_cons, List.sum_nil, cat_i, cat_r, cat_l, Nat.zero_le, Int32.reduceOfNat, Int32.reduceAdd, Int32.reduceLT, Int32.reduceLE, forall_const, true_implies, false_implies, not_false_eq_true, not_true_eq_false, bi_eq0, bi_ne0, sl_0, sl_3, va_rf, Nat.reduceEqDiff, if_false, ite_false, ite_true, reduceIte, List.set_cons_zero, List.set_cons_succ, Nat.succ_eq_add_one, mup_c, mup_s, mw_zero, ne_eq, lit_10, lit_01, lit_m10, lit_m11, nar_bi, h05]
  show B0 100 mX12_text [.ref 56, .int 1] (HP ε μ) _
  refine b0_of_G0 (lv := [.ref 56, .int 1]) (by decide +kernel) (Nat.le_of_ble_eq_true rfl) rfl ?_
  refine mw_ok (M := mX12_text) (fun _ => false) okTX12 rfl 20 _ _ _ _ ?_
  simp (decide := true) only [eX12_text_0, eX12_text_1, eX12_text_4, eX12_text_5, eX12_text_8, eX12_text_9, eX12_text_12, eX12_text_13, eX12_text_14, eX12_text_17, eX12_text_18, eX12_text_21, eX12_text_22, eX12_text_23, eX12_text_24, eX12_text_27, eX12_text_28, eX12_text_31, eX12_text_32, eX12_text_35, eX12_text_36, eX12_text_37, eX12_text_40, eX12_text_43, eX12_text_44, eX12_text_47, eX12_text_48, eX12_text_49, eX12_text_52, eX12_text_53, eX12_text_54, eX12_text_57, eX12_text_58, eX12_text_59, eX12_text_62, eX12_text_63, eX12_text_66, eX12_text_67, eX12_text_68, eX12_text_69, eX12_text_70, st_aload, st_dupi, st_dupr, st_iadd, st_iconst, st_if_eq, st_if_ne, st_if_lt, st_if_ge, st_if_gt, st_if_le, st_ic_eq, st_ic_ne, st_ic_lt, st_ic_ge, st_ic_gt, st_ic_le, st_iload, st_inv, st_iret, st_zret, st_bret, st_isub, gf_56_1213, pf_56_1202, pf_56_1213, HP_56, tab_155, tab_165, tab_167, mm_cut, cond_false, cond_true, List.getElem?_cons_succ, List.getElem?_cons_zero, Int.reduceToNat, Nat.reduceMod, Nat.reduceDiv, Nat.reduceAdd, true_and, and_true, mm_set, mm_set2, mm_pop, List.length_cons, List.length_nil, Nat.reduceLeDiff, Int32.reduceOfInt, Int64.reduceOfInt, nar_b0, nar_b1, List.cons_append, List.nil_append, Option.toList_some, Option.toList_none, List.map_cons, List.map_nil, List.sum_cons, List.sum_nil, cat_i, cat_r, cat_l, Nat.zero_le, Int32.reduceOfNat, Int32.reduceAdd, Int32.reduceLT, Int32.reduceLE, forall_const, true_implies, false_implies, not_false_eq_true, not_true_eq_false, bi_eq0, bi_ne0, sl_0, sl_3, va_rf, Nat.reduceEqDiff, if_false, ite_false, ite_true, reduceIte, List.set_cons_zero, List.set_cons_succ, Nat.succ_eq_add_one, mup_c, mup_s, mw_zero, ne_eq, lit_10, lit_01, lit_m10, lit_m11, nar_bi, h13]
  exact PE.mk rfl hJ.j
end X3
