/-! THE LAW: thing, the switch, the loop -/
section LW3
variable {Γ : mm_Γ} {cl sl n : Nat} {ε : mm_X} {μ : mm_mu} {L i : Nat} {xs : Nat → Int32}
theorem okL_X12_thing : mm_okM mX12_thing 2 := ⟨mm_in 7 31 rfl rfl, (mm_in 1 12 rfl rfl), ⟨by decide +kernel, by decide +kernel, by decide +kernel⟩, by decide⟩
theorem okL_X12_thrown : mm_okM mX12_thrown 0 := ⟨mm_in 6 128 rfl rfl, (mm_in 1 12 rfl rfl), ⟨by decide +kernel, by decide +kernel, by decide +kernel⟩, by decide⟩
theorem good_of {t w tn : Nat} (ht : t < tn) (hw : w ≤ 6) (h7 : tn ≤ 7) : (0 ≤ nI t ∧ nI t ≤ nI tn - 1) ∧ (0 ≤ nI w ∧ nI w ≤ 6) := by
  have e1 := nI_toInt (n := t) (by omega)
  have e2 : (nI tn - 1).toInt = (tn : Int) - 1 := nI_sub1 (by omega)
  have e3 := nI_toInt (n := w) (by omega)
  simp only [Int32.le_iff_toInt_le, e1, e2, e3, Int32.reduceToInt]
  omega
theorem law_5 (c : LC Γ L xs cl sl) (hi : i + 6 ≤ L) (hJ : J ε μ) (hK : LK Γ cl sl i) : GZ Γ mL_law cl sl 377 (lvL i) [] n (HP ε μ) := by
  obtain ⟨tn, gn, a, p, dy, ln, sz, m, hJ⟩ := hJ
  have h7 := hJ.1.1
  have hj0 : ∀ v : Int32, J ε (mup μ 56 0 v) := fun v => (hJ.off (l := []) (fl := [0]) ⟨fun k hk => mup_c (by simpa using hk), fun k hk => by rw [mup_s, if_neg (by simpa using hk)]⟩ (by decide) (by decide)).j
  refine gz_dom (fun hdom => ?_)
  have h87 : 86 < n := (hdom.2 86).mp rfl
  refine gz_aload_n (j := 1) (x := 0) (by decide +kernel) rfl ?_
  refine gz_rd (k := 1) (j := 1) c.1 hi c.2.1 (by decide) rfl (by decide +kernel) (by decide +kernel) (by decide +kernel) (by decide +kernel) (by decide +kernel) ?_
  refine gz_rd (k := 2) (j := 2) c.1 hi c.2.1 (by decide) rfl (by decide +kernel) (by decide +kernel) (by decide +kernel) (by decide +kernel) (by decide +kernel) ?_
  refine gz_aload_n (j := 3) (x := 86) (by decide +kernel) rfl ?_
  refine gz_callT (x := xs (i + 1)) (y := xs (i + 2)) (st := []) (Q1 := fun v n' h' => n' = n ∧ ((¬ ((0 ≤ xs (i + 1) ∧ xs (i + 1) ≤ nI tn - 1) ∧ (0 ≤ xs (i + 2) ∧ xs (i + 2) ≤ 6)) ∧ v = some (.int 1) ∧ h' = HP ε μ) ∨ ∃ t w, t < tn ∧ w ≤ 6 ∧ xs (i + 1) = nI t ∧ xs (i + 2) = nI w ∧ v = some (.int 0) ∧ h' = HP (va_up ε.1 86 (spThing (μ 71) (μ 72) t w).toInt64, ε.2) μ)) rfl (Nat.zero_le _) (by decide +kernel) (by rw [c.2.2.1]; decide) (c.c (by decide)) (c.s (by decide)) (l_thing c.2.2.2.1 (by omega) hJ (fun hb => ⟨rfl, Or.inl ⟨hb, rfl, rfl⟩⟩) (fun t w ht hw e1 e2 => ⟨rfl, Or.inr ⟨t, w, ht, hw, e1, e2, rfl, rfl⟩⟩)) ?_
  rintro v n' h' ⟨rfl, hq⟩ -
  refine ⟨fun ad ad' hk => ⟨lvL_u ad ad' (fun k z => hk k (by omega)), rfl⟩, ?_⟩
  rcases hq with ⟨hb, rfl, rfl⟩ | ⟨t, w, ht, hw, hx, hy, rfl, rfl⟩
  · refine gz_istore (j := 5) (x := 1) (by decide +kernel) (by decide) ?_
    show GZ Γ mL_law _ _ _ [.ref 1030, .ref 0, .ref 56, .ref 86, .int (nI i), .int 1, .null] _ _ _
    refine gz_aload_n (j := 2) (x := 56) (by decide +kernel) rfl ?_
    refine gz_rd (k := 1) (j := 1) c.1 hi c.2.1 (by decide) rfl (by decide +kernel) (by decide +kernel) (by decide +kernel) (by decide +kernel) (by decide +kernel) ?_
    refine gz_rd (k := 2) (j := 2) c.1 hi c.2.1 (by decide) rfl (by decide +kernel) (by decide +kernel) (by decide +kernel) (by decide +kernel) (by decide +kernel) ?_
    refine gz_callV (M' := mX12_thing) (d := 100) (j := 47) (r := 56) (ci := 12) (q := (RX12, TX12, 52)) (mc' := 0) (ms' := 0) (As := [.int (xs (i + 1)), .int (xs (i + 2))]) (st := []) okL_X12_thing (mm_in 7 28 rfl rfl) (mm_in 7 29 rfl rfl) (mm_in 7 30 rfl rfl) rfl rfl rfl (Nat.zero_le _) (by decide +kernel) c.r (c.c (by decide)) (c.s (by decide))
      (m_thing (d := 95) (Q := fun v h' => v = some (.int 0) ∧ h' = HP ε (mup μ 56 0 1)) hJ.1.2.2.2.2.2.1 hJ.1.1 (fun _ => ⟨rfl, rfl⟩) (fun t w ht hw e1 e2 => absurd (by rw [e1, e2]; exact good_of ht hw h7) hb) n') ?_
    rintro v n1 h1 ⟨rfl, rfl, rfl⟩ -
    refine ⟨fun ad ad' hk => ⟨lvL_up (fun k z => by cases z) (fun k z => by cases z) ad ad' (fun k z => hk k (by omega)), rfl⟩, ?_⟩
    refine gz_istore (j := 6) (x := 0) (by decide +kernel) (by decide) ?_
    show GZ Γ mL_law _ _ _ [.ref 1030, .ref 0, .ref 56, .ref 86, .int (nI i), .int 1, .int 0] _ _ _
    refine gz_aload_n (j := 2) (x := 56) (by decide +kernel) rfl ?_
    refine gz_callV (M' := mX12_thrown) (d := 100) (j := 48) (r := 56) (ci := 12) (q := (RX12, TX12, 52)) (mc' := 0) (ms' := 0) (As := []) (st := []) okL_X12_thrown (mm_in 6 125 rfl rfl) (mm_in 6 126 rfl rfl) (mm_in 6 127 rfl rfl) rfl rfl rfl (Nat.zero_le _) (by decide +kernel) c.r (c.c (by decide)) (c.s (by decide))
      (m_thrown (d := 99) (Q := fun v h' => v = some (.int 1) ∧ h' = HP ε (mup μ 56 0 1)) ⟨by rw [mup_s, if_pos rfl], rfl⟩ n1) ?_
    rintro v n2 h2 ⟨rfl, rfl, rfl⟩ -
    refine ⟨fun ad ad' hk => ⟨lvL_up (fun k z => by cases z) (fun k z => by cases z) ad ad' (fun k z => hk k (by omega)), rfl⟩, ?_⟩
    refine gz_iload (j := 5) (x := 1) (by decide +kernel) rfl ?_
    refine gz_icmp_eq (off := 5) (by decide +kernel) (by decide) (fun _ => ?_) (fun z => absurd rfl z)
    refine gz_iload (j := 5) (x := 1) (by decide +kernel) rfl ?_
    refine gz_if_ne (off := 15) (by decide +kernel) (by decide) (fun _ => ?_) (fun z => absurd z (by decide))
    refine gz_goto (off := 1030) (by decide +kernel) (by decide) ?_
    refine gz_lv (lv' := lvL i) rfl (fun k v hk hv => ?_) (gz_widen (cl' := cl + 3) (sl' := sl + 274) (by omega) (by omega) (hK _ ε (mup μ 56 0 1) (hj0 1)))
    match k, hk with
    | 0, hk => exact hk
    | 1, hk => exact hk
    | 2, hk => exact hk
    | 3, hk => exact hk
    | 4, hk => exact hk
    | 5, hk => exact absurd (Option.some.inj hk).symm hv
    | 6, hk => exact absurd (Option.some.inj hk).symm hv
    | k + 7, hk => cases hk
  · refine gz_istore (j := 5) (x := 0) (by decide +kernel) (by decide) ?_
    show GZ Γ mL_law _ _ _ [.ref 1030, .ref 0, .ref 56, .ref 86, .int (nI i), .int 0, .null] _ _ _
    refine gz_aload_n (j := 2) (x := 56) (by decide +kernel) rfl ?_
    refine gz_rd (k := 1) (j := 1) c.1 hi c.2.1 (by decide) rfl (by decide +kernel) (by decide +kernel) (by decide +kernel) (by decide +kernel) (by decide +kernel) ?_
    refine gz_rd (k := 2) (j := 2) c.1 hi c.2.1 (by decide) rfl (by decide +kernel) (by decide +kernel) (by decide +kernel) (by decide +kernel) (by decide +kernel) ?_
    refine gz_callV (M' := mX12_thing) (d := 100) (j := 47) (r := 56) (ci := 12) (q := (RX12, TX12, 52)) (mc' := 0) (ms' := 0) (As := [.int (xs (i + 1)), .int (xs (i + 2))]) (st := []) okL_X12_thing (mm_in 7 28 rfl rfl) (mm_in 7 29 rfl rfl) (mm_in 7 30 rfl rfl) rfl rfl rfl (Nat.zero_le _) (by decide +kernel) c.r (c.c (by decide)) (c.s (by decide))
      (m_thing (d := 95) (Q := fun v h' => v = some (.int (spThing (μ 71) (μ 72) t w)) ∧ h' = HP (va_up ε.1 86 (spThing (μ 71) (μ 72) t w).toInt64, ε.2) (mup μ 56 0 0)) hJ.1.2.2.2.2.2.1 hJ.1.1 (fun hb => absurd (by rw [hx, hy]; exact good_of ht hw h7) hb) (fun t' w' ht' hw' e1 e2 => by have et : t = t' := (nI_eq (by omega) (by omega)).mp (hx.symm.trans e1); have ew : w = w' := (nI_eq (by omega) (by omega)).mp (hy.symm.trans e2); subst et; subst ew; exact ⟨rfl, rfl⟩) n') ?_
    rintro v n1 h1 ⟨rfl, rfl, rfl⟩ -
    refine ⟨fun ad ad' hk => ⟨lvL_up (fun k z => by cases z) (fun k z => by cases z) ad ad' (fun k z => hk k (by omega)), rfl⟩, ?_⟩
    refine gz_istore (j := 6) (x := (spThing (μ 71) (μ 72) t w)) (by decide +kernel) (by decide) ?_
    show GZ Γ mL_law _ _ _ [.ref 1030, .ref 0, .ref 56, .ref 86, .int (nI i), .int 0, .int (spThing (μ 71) (μ 72) t w)] _ _ _
    refine gz_aload_n (j := 2) (x := 56) (by decide +kernel) rfl ?_
    refine gz_callV (M' := mX12_thrown) (d := 100) (j := 48) (r := 56) (ci := 12) (q := (RX12, TX12, 52)) (mc' := 0) (ms' := 0) (As := []) (st := []) okL_X12_thrown (mm_in 6 125 rfl rfl) (mm_in 6 126 rfl rfl) (mm_in 6 127 rfl rfl) rfl rfl rfl (Nat.zero_le _) (by decide +kernel) c.r (c.c (by decide)) (c.s (by decide))
      (m_thrown (d := 99) (Q := fun v h' => v = some (.int 0) ∧ h' = HP (va_up ε.1 86 (spThing (μ 71) (μ 72) t w).toInt64, ε.2) (mup μ 56 0 0)) ⟨by rw [mup_s, if_pos rfl], rfl⟩ n1) ?_
    rintro v n2 h2 ⟨rfl, rfl, rfl⟩ -
    refine ⟨fun ad ad' hk => ⟨lvL_up (fun k z => by cases z) (fun k z => by cases z) ad ad' (fun k z => hk k (by omega)), rfl⟩, ?_⟩
    refine gz_iload (j := 5) (x := 0) (by decide +kernel) rfl ?_
    refine gz_icmp_eq (off := 5) (by decide +kernel) (by decide) (fun _ => ?_) (fun z => absurd rfl z)
    refine gz_iload (j := 5) (x := 0) (by decide +kernel) rfl ?_
    refine gz_if_ne (off := 15) (by decide +kernel) (by decide) (fun z => absurd rfl z) (fun _ => ?_)
    refine gz_aload_n (j := 3) (x := 86) (by decide +kernel) rfl ?_
    refine gz_iconst (j := 0) (by decide +kernel) ?_
    refine gz_lald (r := 86) (k := 1) (f := fun _ => va_up ε.1 86 (spThing (μ 71) (μ 72) t w).toInt64 86) rfl (vin (x := Int32.ofInt 0) (a := 0) rfl (by decide)) (by decide +kernel) ?_
    refine gz_iload (j := 6) (x := (spThing (μ 71) (μ 72) t w)) (by decide +kernel) rfl ?_
    refine gz_i2l (by decide +kernel) ?_
    refine gz_lcmp (by decide +kernel) ?_
    rw [show lg_cmp (va_up ε.1 86 (spThing (μ 71) (μ 72) t w).toInt64 86) (spThing (μ 71) (μ 72) t w).toInt64 = 0 by rw [show va_up ε.1 86 (spThing (μ 71) (μ 72) t w).toInt64 86 = (spThing (μ 71) (μ 72) t w).toInt64 by simp [va_up]]; simp [lg_cmp]]
    refine gz_if_eq (off := 5) (by decide +kernel) (by decide) (fun _ => ?_) (fun z => absurd rfl z)
    refine gz_goto (off := 1030) (by decide +kernel) (by decide) ?_
    refine gz_lv (lv' := lvL i) rfl (fun k v hk hv => ?_) (gz_widen (cl' := cl + 3) (sl' := sl + 274) (by omega) (by omega) (hK _ (va_up ε.1 86 (spThing (μ 71) (μ 72) t w).toInt64, ε.2) (mup μ 56 0 0) (hj0 0)))
    match k, hk with
    | 0, hk => exact hk
    | 1, hk => exact hk
    | 2, hk => exact hk
    | 3, hk => exact hk
    | 4, hk => exact hk
    | 5, hk => exact absurd (Option.some.inj hk).symm hv
    | 6, hk => exact absurd (Option.some.inj hk).symm hv
    | k + 7, hk => cases hk
theorem law_d40 : decode mL_law.2.1 40 = .ok (.tableswitch 1432 0 36 #[164, 237, 262, 287, 312, 337, 405, 442, 467, 492, 529, 566, 591, 616, 641, 666, 735, 760, 773, 810, 835, 872, 909, 934, 1011, 1048, 1085, 1110, 1183, 1232, 1269, 1306, 1331, 1356, 1381, 1394, 1407], 164) := by decide +kernel
theorem law_sw {x : Int32} (c : LC Γ L xs cl sl) (hi : i + 6 ≤ L) (hJ : J ε μ) (hK : LK Γ cl sl i) : GZ Γ mL_law cl sl 40 (lvL i) [.int x] n (HP ε μ) := by
  by_cases h0 : x.toInt < 0 ∨ 36 < x.toInt
  · exact gz_tabO law_d40 h0 (by decide) (gz_widen (cl' := cl + 3) (sl' := sl + 274) (by omega) (by omega) (hK n ε μ hJ))
  · obtain ⟨j, hj, hx⟩ : ∃ j : Nat, j ≤ 36 ∧ x.toInt = j := ⟨x.toInt.toNat, by omega, by omega⟩
    rcases (show j = 0 ∨ j = 1 ∨ j = 2 ∨ j = 3 ∨ j = 4 ∨ j = 5 ∨ j = 6 ∨ j = 7 ∨ j = 8 ∨ j = 9 ∨ j = 10 ∨ j = 11 ∨ j = 12 ∨ j = 13 ∨ j = 14 ∨ j = 15 ∨ j = 16 ∨ j = 17 ∨ j = 18 ∨ j = 19 ∨ j = 20 ∨ j = 21 ∨ j = 22 ∨ j = 23 ∨ j = 24 ∨ j = 25 ∨ j = 26 ∨ j = 27 ∨ j = 28 ∨ j = 29 ∨ j = 30 ∨ j = 31 ∨ j = 32 ∨ j = 33 ∨ j = 34 ∨ j = 35 ∨ j = 36 by omega) with rfl | rfl | rfl | rfl | rfl | rfl | rfl | rfl | rfl | rfl | rfl | rfl | rfl | rfl | rfl | rfl | rfl | rfl | rfl | rfl | rfl | rfl | rfl | rfl | rfl | rfl | rfl | rfl | rfl | rfl | rfl | rfl | rfl | rfl | rfl | rfl | rfl
    · exact gz_tabI (off := 164) law_d40 (by omega) (by omega) (by rw [hx]; rfl) (by decide) (law_0 c hi hJ hK)
    · exact gz_tabI (off := 237) law_d40 (by omega) (by omega) (by rw [hx]; rfl) (by decide) (law_1 c hi hJ hK)
    · exact gz_tabI (off := 262) law_d40 (by omega) (by omega) (by rw [hx]; rfl) (by decide) (law_2 c hi hJ hK)
    · exact gz_tabI (off := 287) law_d40 (by omega) (by omega) (by rw [hx]; rfl) (by decide) (law_3 c hi hJ hK)
    · exact gz_tabI (off := 312) law_d40 (by omega) (by omega) (by rw [hx]; rfl) (by decide) (law_4 c hi hJ hK)
    · exact gz_tabI (off := 337) law_d40 (by omega) (by omega) (by rw [hx]; rfl) (by decide) (law_5 c hi hJ hK)
    · exact gz_tabI (off := 405) law_d40 (by omega) (by omega) (by rw [hx]; rfl) (by decide) (law_6 c hi hJ hK)
    · exact gz_tabI (off := 442) law_d40 (by omega) (by omega) (by rw [hx]; rfl) (by decide) (law_7 c hi hJ hK)
    · exact gz_tabI (off := 467) law_d40 (by omega) (by omega) (by rw [hx]; rfl) (by decide) (law_8 c hi hJ hK)
    · exact gz_tabI (off := 492) law_d40 (by omega) (by omega) (by rw [hx]; rfl) (by decide) (law_9 c hi hJ hK)
    · exact gz_tabI (off := 529) law_d40 (by omega) (by omega) (by rw [hx]; rfl) (by decide) (law_10 c hi hJ hK)
    · exact gz_tabI (off := 566) law_d40 (by omega) (by omega) (by rw [hx]; rfl) (by decide) (law_11 c hi hJ hK)
    · exact gz_tabI (off := 591) law_d40 (by omega) (by omega) (by rw [hx]; rfl) (by decide) (law_12 c hi hJ hK)
    · exact gz_tabI (off := 616) law_d40 (by omega) (by omega) (by rw [hx]; rfl) (by decide) (law_13 c hi hJ hK)
    · exact gz_tabI (off := 641) law_d40 (by omega) (by omega) (by rw [hx]; rfl) (by decide) (law_14 c hi hJ hK)
    · exact gz_tabI (off := 666) law_d40 (by omega) (by omega) (by rw [hx]; rfl) (by decide) (law_15 c hi hJ hK)
    · exact gz_tabI (off := 735) law_d40 (by omega) (by omega) (by rw [hx]; rfl) (by decide) (law_16 c hi hJ hK)
    · exact gz_tabI (off := 760) law_d40 (by omega) (by omega) (by rw [hx]; rfl) (by decide) (law_17 c hi hJ hK)
    · exact gz_tabI (off := 773) law_d40 (by omega) (by omega) (by rw [hx]; rfl) (by decide) (law_18 c hi hJ hK)
    · exact gz_tabI (off := 810) law_d40 (by omega) (by omega) (by rw [hx]; rfl) (by decide) (law_19 c hi hJ hK)
    · exact gz_tabI (off := 835) law_d40 (by omega) (by omega) (by rw [hx]; rfl) (by decide) (law_20 c hi hJ hK)
    · exact gz_tabI (off := 872) law_d40 (by omega) (by omega) (by rw [hx]; rfl) (by decide) (law_21 c hi hJ hK)
    · exact gz_tabI (off := 909) law_d40 (by omega) (by omega) (by rw [hx]; rfl) (by decide) (law_22 c hi hJ hK)
    · exact gz_tabI (off := 934) law_d40 (by omega) (by omega) (by rw [hx]; rfl) (by decide) (law_23 c hi hJ hK)
    · exact gz_tabI (off := 1011) law_d40 (by omega) (by omega) (by rw [hx]; rfl) (by decide) (law_24 c hi hJ hK)
    · exact gz_tabI (off := 1048) law_d40 (by omega) (by omega) (by rw [hx]; rfl) (by decide) (law_25 c hi hJ hK)
    · exact gz_tabI (off := 1085) law_d40 (by omega) (by omega) (by rw [hx]; rfl) (by decide) (law_26 c hi hJ hK)
    · exact gz_tabI (off := 1110) law_d40 (by omega) (by omega) (by rw [hx]; rfl) (by decide) (law_27 c hi hJ hK)
    · exact gz_tabI (off := 1183) law_d40 (by omega) (by omega) (by rw [hx]; rfl) (by decide) (law_28 c hi hJ hK)
    · exact gz_tabI (off := 1232) law_d40 (by omega) (by omega) (by rw [hx]; rfl) (by decide) (law_29 c hi hJ hK)
    · exact gz_tabI (off := 1269) law_d40 (by omega) (by omega) (by rw [hx]; rfl) (by decide) (law_30 c hi hJ hK)
    · exact gz_tabI (off := 1306) law_d40 (by omega) (by omega) (by rw [hx]; rfl) (by decide) (law_31 c hi hJ hK)
    · exact gz_tabI (off := 1331) law_d40 (by omega) (by omega) (by rw [hx]; rfl) (by decide) (law_32 c hi hJ hK)
    · exact gz_tabI (off := 1356) law_d40 (by omega) (by omega) (by rw [hx]; rfl) (by decide) (law_33 c hi hJ hK)
    · exact gz_tabI (off := 1381) law_d40 (by omega) (by omega) (by rw [hx]; rfl) (by decide) (law_34 c hi hJ hK)
    · exact gz_tabI (off := 1394) law_d40 (by omega) (by omega) (by rw [hx]; rfl) (by decide) (law_35 c hi hJ hK)
    · exact gz_tabI (off := 1407) law_d40 (by omega) (by omega) (by rw [hx]; rfl) (by decide) (law_36 c hi hJ hK)
theorem law_loop (hX : mm_scr Γ L xs) (hL : L ≤ 3072) (hR : Γ.R = room_1) (hl : Γ.l.stackTraces = false) (hexit : ∀ cl sl n h i, cl ≤ 601024 → sl ≤ 7293034 → GZ Γ mL_law cl sl 1478 (lvL i) [] n h) : ∀ f i cl sl n ε μ, L < i + 6 * (f + 1) → i ≤ 4000 → cl + 3 * f ≤ 601024 → sl + 274 * f ≤ 7293034 → J ε μ → GZ Γ mL_law cl sl 23 (lvL i) [] n (HP ε μ) := by
  have e6 : (Int32.ofNat L - (Int8.ofInt 6).toInt32).toInt = (L : Int) - 6 := by
    have e1 := nI_toInt (n := L) (by omega)
    rw [Int32.toInt_sub]
    show ((nI L).toInt - 6).bmod _ = _
    rw [e1]
    apply Int.bmod_eq_of_le <;> omega
  have head : ∀ i cl sl n ε μ, i ≤ 4000 → cl ≤ 601024 → sl ≤ 7293034 → (i + 6 ≤ L → GZ Γ mL_law cl sl 33 (lvL i) [] n (HP ε μ)) → GZ Γ mL_law cl sl 23 (lvL i) [] n (HP ε μ) := by
    intro i cl sl n ε μ hi4 hc hs k
    refine gz_iload (j := 4) (x := nI i) (by decide +kernel) rfl ?_
    refine gz_aload_n (j := 0) (x := 1030) (by decide +kernel) rfl ?_
    refine gz_slen hX (by decide +kernel) ?_
    refine gz_bipush (j := 6) (by decide +kernel) ?_
    refine gz_isub (by decide +kernel) ?_
    have e2 := nI_toInt (n := i) (by omega)
    refine gz_icmp_gt (off := 1448) (by decide +kernel) (by decide) (fun _ => hexit cl sl n _ i hc hs) (fun z => k ?_)
    rw [Int32.lt_iff_toInt_lt, e6, e2] at z
    omega
  intro f
  induction f with
  | zero =>
    intro i cl sl n ε μ h1 h2 h3 h4 hJ
    exact head i cl sl n ε μ h2 (by omega) (by omega) (fun z => by omega)
  | succ f ih =>
    intro i cl sl n ε μ h1 h2 h3 h4 hJ
    refine head i cl sl n ε μ h2 (by omega) (by omega) (fun hi => ?_)
    refine gz_aload_n (j := 0) (x := 1030) (by decide +kernel) rfl ?_
    refine gz_iload (j := 4) (x := nI i) (by decide +kernel) rfl ?_
    refine gz_sld hX (vin rfl (by omega) (by omega)) (by decide +kernel) ?_
    refine gz_bipush (j := 63) (by decide +kernel) ?_
    refine gz_iand (by decide +kernel) ?_
    have hc1 : cl + 3 ≤ 601024 := by omega
    have hc2 : sl + 274 ≤ 7293034 := Nat.le_trans (Nat.add_le_add_left (Nat.le_mul_of_pos_right 274 (Nat.succ_pos f)) sl) h4
    have c : LC Γ L xs cl sl := ⟨hX, hL, hR, hl, hc1, hc2⟩
    refine law_sw c hi hJ (fun n' ε' μ' hj => ?_)
    refine gz_iinc (j := 4) (z := 6) (x := nI i) (by decide +kernel) rfl ?_
    refine gz_goto (off := -1452) (by decide +kernel) (by decide) ?_
    have e : nI i + Int32.ofInt 6 = nI (i + 6) := nI_add i 6
    rw [e]
    exact ih (i + 6) (cl + 3) (sl + 274) n' ε' μ' (by omega) (by omega) (by omega) (by rw [Nat.add_assoc, Nat.add_comm 274]; exact h4) hj
end LW3
