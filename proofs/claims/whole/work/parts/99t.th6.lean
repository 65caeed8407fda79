/-! THE LAW'S thing: its contract, its call -/
theorem okM_X11_thing : mm_okM mX11_thing 2 := ⟨mm_in 5 131 rfl rfl, mm_in 1 1 rfl rfl, ⟨by decide +kernel, by decide +kernel, by decide +kernel⟩, by decide⟩
def xL : ExceptionTableEntry := ⟨0, 10, 13, 13⟩
section TH6
variable {Γ : mm_Γ} {n : Nat} {ε : mm_X} {μ : mm_mu} {tn gn a p ln sz m : Nat} {dy : Nat → Nat}
theorem z_lthing {Q : mm_Q} {x y : Int32} (hl : Γ.l.stackTraces = false) (hP : Γ.P = MQ Γ.below (mm_Qc Γ.D Γ.ad0 Γ.n0 Γ.A Q) Γ.args Γ.s 1 6 Γ.A) (hR : Γ.R = mm_R 102 1 6) (htab : Γ.c.exceptionTable.toList = [xL]) (hn87 : 87 ≤ n) (hJ : JX ε μ tn gn a p dy ln sz m) (hQ0 : ¬ ((0 ≤ x ∧ x ≤ nI tn - 1) ∧ (0 ≤ y ∧ y ≤ 6)) → Q (some (.int 1)) n (HP ε μ)) (hQ1 : ∀ t w, t < tn → w ≤ 6 → x = nI t → y = nI w → Q (some (.int 0)) n (HP (va_up ε.1 86 (spThing (μ 71) (μ 72) t w).toInt64, ε.2) μ)) : GZ Γ mL_thing 0 0 0 [.ref 0, .int x, .int y, .ref 86, .null] [] n (HP ε μ) := by
  refine gz_aload_n (j := 3) (x := 86) (by decide +kernel) rfl ?_
  refine gz_iconst (j := 0) (by decide +kernel) ?_
  refine gz_aload_n (j := 0) (x := 0) (by decide +kernel) rfl ?_
  refine gz_iload_n (j := 1) (x := x) (by decide +kernel) rfl ?_
  refine gz_iload_n (j := 2) (x := y) (by decide +kernel) rfl ?_
  by_cases hb : (0 ≤ x ∧ x ≤ nI tn - 1) ∧ (0 ≤ y ∧ y ≤ 6)
  · obtain ⟨t, ht, rfl⟩ := ix_of (by have := hJ.1.1; omega) hb.1
    obtain ⟨w, hw, rfl⟩ := ix9 (n := 6) (m := 6) rfl hb.2
    refine gz_callV (M' := mX11_thing) (d := 100) (j := 7) (r := 0) (ci := 11) (q := (RX11, TX11, 14)) (mc' := 0) (ms' := 0) (As := [.int (nI t), .int (nI w)]) (st := [.int (Int32.ofInt 0), .ref 86]) okM_X11_thing (mm_in 5 128 rfl rfl) (mm_in 5 129 rfl rfl) (mm_in 5 130 rfl rfl) rfl rfl rfl (Nat.le_of_ble_eq_true rfl) (by decide +kernel) (by rw [hR]; decide) (by rw [hR]; decide) (by rw [hR]; decide)
      (c_thing (Q := fun v h' => v = some (.int (spThing (μ 71) (μ 72) t w)) ∧ h' = HP ε μ) hJ ht hw ⟨rfl, rfl⟩ n) ?_
    rintro v n' h' ⟨rfl, rfl, rfl⟩ -
    refine ⟨fun ad1 ad2 hk => ⟨?_, ?_⟩, ?_⟩
    · simp only [List.map_cons, List.map_nil, mm_t, hk 0 (by omega), hk 86 (by omega)]
    · simp only [List.map_cons, List.map_nil, mm_t, hk 86 (by omega)]
    refine gz_i2l (by decide +kernel) ?_
    refine gz_last (r := 86) (k := 1) (f := fun _ => ε.1 86) rfl (vin (x := Int32.ofInt 0) (a := 0) rfl (by decide)) (by decide +kernel) ?_
    refine gz_alt (r := 86) (ty := .long) (a := (1, .inr (.inl (vp_updL (fun _ => ε.1 86) (Int32.ofInt 0).toNatClampNeg (spThing (μ 71) (μ 72) t w).toInt64)))) (a' := (1, .inr (.inl fun _ => (spThing (μ 71) (μ 72) t w).toInt64))) (by simp [va_up]) (fun ad cA => ?_) ?_
    · show vp_cell cA (1, .inr (.inl fun _ => (spThing (μ 71) (μ 72) t w).toInt64)) = vp_cell cA (1, .inr (.inl (vp_updL (fun _ => ε.1 86) (Int32.ofInt 0).toNatClampNeg (spThing (μ 71) (μ 72) t w).toInt64)))
      rw [vp_cell_l, vp_cell_l]
      refine arrV_cg (fun j hj => ?_)
      obtain rfl : j = 0 := by omega
      rfl
    rw [show ∀ (X Y : Option mm_C), va_up (va_up (HP ε μ) 86 X) 86 Y = va_up (HP ε μ) 86 Y from fun X Y => by funext k; by_cases e : k = 86 <;> simp [va_up, e], HP_86]
    refine gz_goto (off := 7) (by decide +kernel) (by decide) ?_
    refine gz_iconst (j := 0) (by decide +kernel) ?_
    exact gz_ireturn hP rfl (by decide) (by decide) (by decide +kernel) (hQ1 t w ht hw rfl rfl)
  · refine gz_callX (M' := mX11_thing) (d := 100) (j := 7) (r := 0) (ci := 11) (q := (RX11, TX11, 14)) (mc' := 1) (ms' := 6) (ct := 13) (x := xL) (As := [.int x, .int y]) (st := [.int (Int32.ofInt 0), .ref 86]) okM_X11_thing (mm_in 5 128 rfl rfl) (mm_in 5 129 rfl rfl) (mm_in 5 130 rfl rfl) rfl rfl rfl (Nat.le_of_ble_eq_true rfl) (by decide +kernel) (by rw [hR]; decide) (by rw [hR]; decide) (by rw [hR]; decide) (fun ad ac sz' => x_thing hl hJ hb) htab (by decide) rfl (by decide) (mm_in 5 127 rfl rfl) ?_
    intro q9 H locs ls ad ac hA hS hAA hSim hlv hn0 had
    have k15 : GZ Γ mL_thing 1 6 15 [.ref 0, .int x, .int y, .ref 86, .null] [] n (HP ε μ) := by
      refine gz_iconst (j := 1) (by decide +kernel) ?_
      exact gz_ireturn hP rfl (by decide) (by decide) (by decide +kernel) (hQ0 hb)
    have hlv9 : mm_lv (va_up ad 999 q9) [.ref 0, .int x, .int y, .ref 86, .null] ls 5 := mm_lv_up hlv (fun v hv => by
      simp only [List.mem_cons, List.not_mem_nil, or_false] at hv
      rcases hv with rfl | rfl | rfl | rfl | rfl <;> intro z <;> cases z)
    refine lv_astore (i := 4) (nL := 5) (x := q9) hA.1 hA.2.1 (by decide +kernel) (mm_lv_has hlv9) (by decide) rfl (fun ls1 hl1 => ?_)
    have e9 : mm_t (va_up ad 999 q9) (.ref 999) = .ref q9 := by simp [mm_t, va_up]
    rw [← e9] at hl1
    have h2 := mm_lv_st1 (v := .ref 999) hlv9 hl1
    refine k15 H locs ls1 ad ac hA hS hAA hSim ⟨h2.1, h2.2.1, rfl, fun i v hi hv => ?_⟩ hn0 had
    have g : ∀ (i : Nat) (v : Value), v ≠ .ref 999 → (mm_set [.ref 0, .int x, .int y, .ref 86, .null] 4 (.ref 999))[i]? = some v → v ≠ .null → ls1[i]? = some (.val (mm_t ad v)) := by
      intro i v h9 hi hv
      rw [h2.2.2.2 i v hi hv, mm_t_up h9]
    match i, hi with
    | 0, hi => cases hi; exact g 0 _ (by intro z; cases z) rfl hv
    | 1, hi => cases hi; exact g 1 _ (by intro z; cases z) rfl hv
    | 2, hi => cases hi; exact g 2 _ (by intro z; cases z) rfl hv
    | 3, hi => cases hi; exact g 3 _ (by intro z; cases z) rfl hv
    | 4, hi => cases hi; exact absurd rfl hv
    | i + 5, hi => cases hi
theorem l_thing {Q : mm_Q} {x y : Int32} {l : Launch} (hl : l.stackTraces = false) (hn87 : 87 ≤ n) (hJ : JX ε μ tn gn a p dy ln sz m) (hQ0 : ¬ ((0 ≤ x ∧ x ≤ nI tn - 1) ∧ (0 ≤ y ∧ y ≤ 6)) → Q (some (.int 1)) n (HP ε μ)) (hQ1 : ∀ t w, t < tn → w ≤ 6 → x = nI t → y = nI w → Q (some (.int 0)) n (HP (va_up ε.1 86 (spThing (μ 71) (μ 72) t w).toInt64, ε.2) μ)) (D : va_G) (ad : Nat → Nat) (ac : Nat → ClassId) (sz' : Nat) : Met l yL_thing wL_thing (mm_R 102 1 6) (va_Pc (([.ref 0, .int x, .int y, .ref 86] : List Value).map (mm_t ad)) (fun U => U.heap.size = sz' ∧ mm_Sim D ad ac n (HP ε μ) (va_A (mm_ws ad ac n (HP ε μ)) sz') U U.heap)) (mm_Qc D ad n (va_A (mm_ws ad ac n (HP ε μ)) sz') Q) 1 6 (va_A (mm_ws ad ac n (HP ε μ)) sz') := by
  refine va_MetW (cc := cL_thing) (maxL := 5) (ret := some .int) (hh := [(0, 10, 13, 13)]) (ws' := mm_gw) (by decide +kernel) rfl ?_
  intro p0 e s m0 args below meth c s₁ B hml hv
  obtain ⟨rfl, hsz, hSim⟩ := hv
  have hts := atoms_spec (ws := wL_thing) B.pre
  have htab : c.exceptionTable.toList = [xL] := vx_table (x := yL_thing) (hh := [(0, 10, 13, 13)]) B (hts _ List.mem_cons_self)
  rw [lg_entry_eq]
  subst hsz
  have hAZ : mm_AtZ p0 s m0 (([.ref 0, .int x, .int y, .ref 86] : List Value).map (mm_t ad)).toArray meth c mL_thing := ⟨B.exec, B.bytes, B.returns, hml, findClass_of_methodNamed B.named, fun w hw => hts w (List.mem_cons_of_mem _ hw), B.notSynchronized⟩
  exact z_lthing (Γ := (l, D, p0, e, s, m0, (([.ref 0, .int x, .int y, .ref 86] : List Value).map (mm_t ad)).toArray, below, meth, c, va_A (mm_ws ad ac n (HP ε μ)) s.heap.size, mm_R 102 1 6, MQ below (mm_Qc D ad n (va_A (mm_ws ad ac n (HP ε μ)) s.heap.size) Q) (([.ref 0, .int x, .int y, .ref 86] : List Value).map (mm_t ad)).toArray s 1 6 (va_A (mm_ws ad ac n (HP ε μ)) s.heap.size), ad, n)) hl rfl rfl htab hn87 hJ hQ0 hQ1 s.heap [] _ ad ac hAZ va_S.rf (fun q hq => Or.inr hq) hSim (mm_ent_lv ad [.ref 0, .int x, .int y, .ref 86] (Nat.le_of_ble_eq_true rfl)) (Nat.le_refl n) (fun _ _ => rfl)
/-- the call of thing in the law's body -/
theorem gz_callT {M : mm_M} {cl sl pc : Nat} {lv st : List Value} {h : mm_H} {Q1 : mm_Q} {x y : Int32} (ho : M.1.cls = RL) (hcat : (st.map fun v => v.category).sum ≤ 8) (hd : decode M.2.1 pc = .ok (.invokestatic 42, 3)) (hR : 104 ≤ Γ.R.frames ∧ 40 * 104 ≤ Γ.R.locals) (hcl : cl + 1 ≤ Γ.R.cells) (hsl : sl + 6 ≤ Γ.R.slots)
    (hB : ∀ (D : va_G) (ad : Nat → Nat) (ac : Nat → ClassId) (sz' : Nat), Met Γ.l yL_thing wL_thing (mm_R 102 1 6) (va_Pc (([.ref 0, .int x, .int y, .ref 86] : List Value).map (mm_t ad)) (fun U => U.heap.size = sz' ∧ mm_Sim D ad ac n h (va_A (mm_ws ad ac n h) sz') U U.heap)) (mm_Qc D ad n (va_A (mm_ws ad ac n h) sz') Q1) 1 6 (va_A (mm_ws ad ac n h) sz'))
    (hQ1 : ∀ v n' h', Q1 v n' h' → (n' ≤ 1000 ∧ ∀ k, (h' k).isSome = true ↔ k < n') → (∀ ad ad' : Nat → Nat, (∀ k, k < n ∨ n' ≤ k → ad' k = ad k) → lv.map (mm_t ad') = lv.map (mm_t ad) ∧ st.map (mm_t ad') = st.map (mm_t ad)) ∧ GZ Γ M (cl + 1) (sl + 6) (pc + 3) lv (v.toList ++ st) n' h') :
    GZ Γ M cl sl pc lv (.ref 86 :: .int y :: .int x :: .ref 0 :: st) n h := by
  intro H locs ls ad ac hA hS hAA hSim hlv hn0 had
  have hts := hA.2.2.2.2.2.1
  have hP := mm_preS (l := Γ.l) hS hAA hSim [.ref 0, .int x, .int y, .ref 86]
  refine gz_after hA hS hAA hSim hlv hn0 had (mc' := 1) (ms' := 6) (fun v n' h' z z2 => ⟨(hQ1 v n' h' z z2).1 ad, (hQ1 v n' h' z z2).2⟩) ?_ (a := (([.ref 0, .int x, .int y, .ref 86] : List Value).map (mm_t ad)).toArray)
  have hG : GoodIn mm_gw (va_wsS RL 42 yL_thing wL_thing) := mm_goodZ (fun w hw => by
    simp only [va_wsS, wL_thing, List.cons_append, List.nil_append, List.mem_cons] at hw
    rcases hw with rfl | rfl | rfl | rfl | z
    · exact mm_in 5 124 rfl rfl
    · exact mm_in 5 125 rfl rfl
    · exact mm_in 1 0 rfl rfl
    · exact mm_in 5 126 rfl rfl
    · exact z)
  exact vx_runSW (As := ([.ref 0, .int x, .int y, .ref 86] : List Value).map (mm_t ad)) (rest := st.map (mm_t ad)) (index := 42) (y := yL_thing) (bytes := cL_thing) (maxL := 5) (ret := some .int) (hh := [(0, 10, 13, 13)]) (n := 4) (own := RL) (Ts := mm_gw) ⟨hA.1, hA.2.1, hA.2.2.2.1, by rw [← ho]; exact hA.2.2.2.2.1, hts⟩ (hB Γ.D ad ac H.size)
    (vx_cwSW 4 hts hG rfl rfl rfl (by decide +kernel) ⟨hR.1, by show 8 + (5 + 11) + 40 * (102 + 1) ≤ Γ.R.locals; omega⟩) hP rfl rfl hlv.1 rfl (lv_room (mm_cats ad hcat)) hd ⟨hcl, hsl⟩
end TH6
