/-! THE LAW'S CASES -/
def LC (Γ : mm_Γ) (L : Nat) (xs : Nat → Int32) (cl sl : Nat) : Prop := mm_scr Γ L xs ∧ L ≤ 3072 ∧ Γ.R = room_1 ∧ Γ.l.stackTraces = false ∧ cl + 3 ≤ 601024 ∧ sl + 274 ≤ 7293034
section LW2
variable {Γ : mm_Γ} {cl sl n : Nat} {ε : mm_X} {μ : mm_mu} {L i : Nat} {xs : Nat → Int32}
theorem LC.r (c : LC Γ L xs cl sl) : 102 ≤ Γ.R.frames ∧ 40 * 102 ≤ Γ.R.locals := by rw [c.2.2.1]; decide
theorem LC.c (c : LC Γ L xs cl sl) {k : Nat} (hk : k ≤ 3) : cl + k ≤ Γ.R.cells := by rw [c.2.2.1]; show cl + k ≤ 601024; have := c.2.2.2.2.1; omega
theorem LC.s (c : LC Γ L xs cl sl) {k : Nat} (hk : k ≤ 274) : sl + k ≤ Γ.R.slots := by rw [c.2.2.1]; show sl + k ≤ 7293034; have := c.2.2.2.2.2; omega
theorem lvL_up {v5 v6 : Value} (h5 : ∀ k, v5 ≠ .ref k) (h6 : ∀ k, v6 ≠ .ref k) : ∀ ad ad' : Nat → Nat, (∀ k, k < 87 ∨ 1000 ≤ k → ad' k = ad k) → ([.ref 1030, .ref 0, .ref 56, .ref 86, .int (nI i), v5, v6] : List Value).map (mm_t ad') = ([.ref 1030, .ref 0, .ref 56, .ref 86, .int (nI i), v5, v6] : List Value).map (mm_t ad) := by
  intro ad ad' hk
  have e5 : mm_t ad' v5 = mm_t ad v5 := by
    cases v5 with
    | ref k => exact absurd rfl (h5 k)
    | _ => rfl
  have e6 : mm_t ad' v6 = mm_t ad v6 := by
    cases v6 with
    | ref k => exact absurd rfl (h6 k)
    | _ => rfl
  simp only [List.map_cons, List.map_nil, mm_t, e5, e6, hk 1030 (by decide), hk 0 (by decide), hk 56 (by decide), hk 86 (by decide)]
theorem lvL_u : ∀ ad ad' : Nat → Nat, (∀ k, k < 87 ∨ 1000 ≤ k → ad' k = ad k) → (lvL i).map (mm_t ad') = (lvL i).map (mm_t ad) := lvL_up (fun k z => by cases z) (fun k z => by cases z)
theorem body_mono {d mc ms : Nat} {M : mm_M} {av : List Value} {n : Nat} {h : mm_H} {Q Q' : mm_Q} (hB : Body d mc ms M av n h Q) (hQ : ∀ v n' h', Q v n' h' → Q' v n' h') : Body d mc ms M av n h Q' := by
  intro l D ad ac sz
  refine MetFree.mono (hB l D ad ac sz) (fun _ _ z => z) (fun _ _ _ _ _ z => z) (fun a s o t hp hq => ?_)
  obtain ⟨⟨⟨rr, n', h', ad', ac', hv, hq1, hnn, had', hSim'⟩, hF⟩, L, hE, hL⟩ := hq
  exact ⟨⟨⟨rr, n', h', ad', ac', hv, hQ _ _ _ hq1, hnn, had', hSim'⟩, hF⟩, L, hE, hL⟩
theorem pr_body {M1 M2 : mm_M} {A : List Value} (h : Pr M1 M2 A ε μ) : Body 100 0 0 M1 (.ref 0 :: A) n (HP ε μ) (fun v _ h => PQ M2 A v h) := body_mono (h n) (fun _ _ _ z => z.2)
abbrev LK (Γ : mm_Γ) (cl sl i : Nat) : Prop := ∀ n' ε' μ', J ε' μ' → GZ Γ mL_law (cl + 3) (sl + 274) 1472 (lvL i) [] n' (HP ε' μ')
theorem okL_X11_feed : mm_okM mX11_feed 5 := ⟨mm_in 2 158 rfl rfl, (mm_in 1 1 rfl rfl), ⟨by decide +kernel, by decide +kernel, by decide +kernel⟩, by decide⟩
theorem okL_X12_feed : mm_okM mX12_feed 5 := ⟨mm_in 6 132 rfl rfl, (mm_in 1 12 rfl rfl), ⟨by decide +kernel, by decide +kernel, by decide +kernel⟩, by decide⟩
theorem law_0 (c : LC Γ L xs cl sl) (hi : i + 6 ≤ L) (hJ : J ε μ) (hK : LK Γ cl sl i) : GZ Γ mL_law cl sl 204 (lvL i) [] n (HP ε μ) := by
  obtain ⟨tn, gn, a, p, dy, ln, sz, m, hJ⟩ := hJ
  refine gz_aload_n (j := 1) (x := 0) (by decide +kernel) rfl ?_
  refine gz_rd (k := 1) (j := 1) c.1 hi c.2.1 (by decide) rfl (by decide +kernel) (by decide +kernel) (by decide +kernel) (by decide +kernel) (by decide +kernel) ?_
  refine gz_rd (k := 2) (j := 2) c.1 hi c.2.1 (by decide) rfl (by decide +kernel) (by decide +kernel) (by decide +kernel) (by decide +kernel) (by decide +kernel) ?_
  refine gz_rd (k := 3) (j := 3) c.1 hi c.2.1 (by decide) rfl (by decide +kernel) (by decide +kernel) (by decide +kernel) (by decide +kernel) (by decide +kernel) ?_
  refine gz_rd (k := 4) (j := 4) c.1 hi c.2.1 (by decide) rfl (by decide +kernel) (by decide +kernel) (by decide +kernel) (by decide +kernel) (by decide +kernel) ?_
  refine gz_rd (k := 5) (j := 5) c.1 hi c.2.1 (by decide) rfl (by decide +kernel) (by decide +kernel) (by decide +kernel) (by decide +kernel) (by decide +kernel) ?_
  refine gz_p1 (M1 := mX11_feed) (M2 := mX12_feed) (j := 19) (mc' := 0) (ms' := 0) (As := [.int (xs (i + 1)), .int (xs (i + 2)), .int (xs (i + 3)), .int (xs (i + 4)), .int (xs (i + 5))]) okL_X11_feed (mm_in 2 155 rfl rfl) (mm_in 2 156 rfl rfl) (mm_in 2 157 rfl rfl) rfl (by decide +kernel) c.r (c.c (by decide)) (c.s (by decide)) (pr_body (p_feed hJ)) lvL_u ?_
  intro v n' h' fs' hq hf
  refine gz_aload_n (j := 2) (x := 56) (by decide +kernel) rfl ?_
  refine gz_rd (k := 1) (j := 1) c.1 hi c.2.1 (by decide) rfl (by decide +kernel) (by decide +kernel) (by decide +kernel) (by decide +kernel) (by decide +kernel) ?_
  refine gz_rd (k := 2) (j := 2) c.1 hi c.2.1 (by decide) rfl (by decide +kernel) (by decide +kernel) (by decide +kernel) (by decide +kernel) (by decide +kernel) ?_
  refine gz_rd (k := 3) (j := 3) c.1 hi c.2.1 (by decide) rfl (by decide +kernel) (by decide +kernel) (by decide +kernel) (by decide +kernel) (by decide +kernel) ?_
  refine gz_rd (k := 4) (j := 4) c.1 hi c.2.1 (by decide) rfl (by decide +kernel) (by decide +kernel) (by decide +kernel) (by decide +kernel) (by decide +kernel) ?_
  refine gz_rd (k := 5) (j := 5) c.1 hi c.2.1 (by decide) rfl (by decide +kernel) (by decide +kernel) (by decide +kernel) (by decide +kernel) (by decide +kernel) ?_
  exact gz_p2 (M2 := mX12_feed) (off := 1200) (j := 23) (As := [.int (xs (i + 1)), .int (xs (i + 2)), .int (xs (i + 3)), .int (xs (i + 4)), .int (xs (i + 5))]) okL_X12_feed (mm_in 6 129 rfl rfl) (mm_in 6 130 rfl rfl) (mm_in 6 131 rfl rfl) rfl (by decide +kernel) (by decide +kernel) (by decide) c.r (c.c (by decide)) (c.s (by decide)) hq hf (fun ε' μ' hj => gz_widen (cl' := cl + 3) (sl' := sl + 274) (by omega) (by omega) (hK n' ε' μ' hj))
theorem okL_X11_end : mm_okM mX11_end 1 := ⟨mm_in 2 170 rfl rfl, (mm_in 1 1 rfl rfl), ⟨by decide +kernel, by decide +kernel, by decide +kernel⟩, by decide⟩
theorem okL_X12_end : mm_okM mX12_end 1 := ⟨mm_in 6 139 rfl rfl, (mm_in 1 12 rfl rfl), ⟨by decide +kernel, by decide +kernel, by decide +kernel⟩, by decide⟩
theorem law_1 (c : LC Γ L xs cl sl) (hi : i + 6 ≤ L) (hJ : J ε μ) (hK : LK Γ cl sl i) : GZ Γ mL_law cl sl 277 (lvL i) [] n (HP ε μ) := by
  obtain ⟨tn, gn, a, p, dy, ln, sz, m, hJ⟩ := hJ
  refine gz_aload_n (j := 1) (x := 0) (by decide +kernel) rfl ?_
  refine gz_rd (k := 1) (j := 1) c.1 hi c.2.1 (by decide) rfl (by decide +kernel) (by decide +kernel) (by decide +kernel) (by decide +kernel) (by decide +kernel) ?_
  refine gz_p1 (M1 := mX11_end) (M2 := mX12_end) (j := 24) (mc' := 0) (ms' := 0) (As := [.int (xs (i + 1))]) okL_X11_end (mm_in 2 167 rfl rfl) (mm_in 2 168 rfl rfl) (mm_in 2 169 rfl rfl) rfl (by decide +kernel) c.r (c.c (by decide)) (c.s (by decide)) (pr_body (p_end hJ)) lvL_u ?_
  intro v n' h' fs' hq hf
  refine gz_aload_n (j := 2) (x := 56) (by decide +kernel) rfl ?_
  refine gz_rd (k := 1) (j := 1) c.1 hi c.2.1 (by decide) rfl (by decide +kernel) (by decide +kernel) (by decide +kernel) (by decide +kernel) (by decide +kernel) ?_
  exact gz_p2 (M2 := mX12_end) (off := 1175) (j := 28) (As := [.int (xs (i + 1))]) okL_X12_end (mm_in 6 136 rfl rfl) (mm_in 6 137 rfl rfl) (mm_in 6 138 rfl rfl) rfl (by decide +kernel) (by decide +kernel) (by decide) c.r (c.c (by decide)) (c.s (by decide)) hq hf (fun ε' μ' hj => gz_widen (cl' := cl + 3) (sl' := sl + 274) (by omega) (by omega) (hK n' ε' μ' hj))
theorem okL_X11_fault : mm_okM mX11_fault 1 := ⟨mm_in 2 174 rfl rfl, (mm_in 1 1 rfl rfl), ⟨by decide +kernel, by decide +kernel, by decide +kernel⟩, by decide⟩
theorem okL_X12_fault : mm_okM mX12_fault 1 := ⟨mm_in 6 143 rfl rfl, (mm_in 1 12 rfl rfl), ⟨by decide +kernel, by decide +kernel, by decide +kernel⟩, by decide⟩
theorem law_2 (c : LC Γ L xs cl sl) (hi : i + 6 ≤ L) (hJ : J ε μ) (hK : LK Γ cl sl i) : GZ Γ mL_law cl sl 302 (lvL i) [] n (HP ε μ) := by
  obtain ⟨tn, gn, a, p, dy, ln, sz, m, hJ⟩ := hJ
  refine gz_aload_n (j := 1) (x := 0) (by decide +kernel) rfl ?_
  refine gz_rd (k := 1) (j := 1) c.1 hi c.2.1 (by decide) rfl (by decide +kernel) (by decide +kernel) (by decide +kernel) (by decide +kernel) (by decide +kernel) ?_
  refine gz_p1 (M1 := mX11_fault) (M2 := mX12_fault) (j := 29) (mc' := 0) (ms' := 0) (As := [.int (xs (i + 1))]) okL_X11_fault (mm_in 2 171 rfl rfl) (mm_in 2 172 rfl rfl) (mm_in 2 173 rfl rfl) rfl (by decide +kernel) c.r (c.c (by decide)) (c.s (by decide)) (pr_body (p_fault hJ)) lvL_u ?_
  intro v n' h' fs' hq hf
  refine gz_aload_n (j := 2) (x := 56) (by decide +kernel) rfl ?_
  refine gz_rd (k := 1) (j := 1) c.1 hi c.2.1 (by decide) rfl (by decide +kernel) (by decide +kernel) (by decide +kernel) (by decide +kernel) (by decide +kernel) ?_
  exact gz_p2 (M2 := mX12_fault) (off := 1150) (j := 33) (As := [.int (xs (i + 1))]) okL_X12_fault (mm_in 6 140 rfl rfl) (mm_in 6 141 rfl rfl) (mm_in 6 142 rfl rfl) rfl (by decide +kernel) (by decide +kernel) (by decide) c.r (c.c (by decide)) (c.s (by decide)) hq hf (fun ε' μ' hj => gz_widen (cl' := cl + 3) (sl' := sl + 274) (by omega) (by omega) (hK n' ε' μ' hj))
theorem okL_X11_text : mm_okM mX11_text 1 := ⟨mm_in 3 141 rfl rfl, (mm_in 1 1 rfl rfl), ⟨by decide +kernel, by decide +kernel, by decide +kernel⟩, by decide⟩
theorem okL_X12_text : mm_okM mX12_text 1 := ⟨mm_in 7 19 rfl rfl, (mm_in 1 12 rfl rfl), ⟨by decide +kernel, by decide +kernel, by decide +kernel⟩, by decide⟩
theorem law_3a (c : LC Γ L xs cl sl) (hi : i + 6 ≤ L)  {mc' ms' : Nat} (hm : mc' ≤ 3 ∧ ms' ≤ 274) (hB : Body 100 mc' ms' mX11_text (.ref 0 :: [.int (xs (i + 1))]) n (HP ε μ) (fun v _ h => PQ mX12_text [.int (xs (i + 1))] v h)) (hK : LK Γ cl sl i) : GZ Γ mL_law cl sl 327 (lvL i) [] n (HP ε μ) := by
  refine gz_aload_n (j := 1) (x := 0) (by decide +kernel) rfl ?_
  refine gz_rd (k := 1) (j := 1) c.1 hi c.2.1 (by decide) rfl (by decide +kernel) (by decide +kernel) (by decide +kernel) (by decide +kernel) (by decide +kernel) ?_
  refine gz_p1 (M1 := mX11_text) (M2 := mX12_text) (j := 34) (mc' := mc') (ms' := ms') (As := [.int (xs (i + 1))]) okL_X11_text (mm_in 3 138 rfl rfl) (mm_in 3 139 rfl rfl) (mm_in 3 140 rfl rfl) rfl (by decide +kernel) c.r (c.c hm.1) (c.s hm.2) hB lvL_u ?_
  intro v n' h' fs' hq hf
  refine gz_aload_n (j := 2) (x := 56) (by decide +kernel) rfl ?_
  refine gz_rd (k := 1) (j := 1) c.1 hi c.2.1 (by decide) rfl (by decide +kernel) (by decide +kernel) (by decide +kernel) (by decide +kernel) (by decide +kernel) ?_
  exact gz_p2 (M2 := mX12_text) (off := 1125) (j := 37) (As := [.int (xs (i + 1))]) okL_X12_text (mm_in 7 16 rfl rfl) (mm_in 7 17 rfl rfl) (mm_in 7 18 rfl rfl) rfl (by decide +kernel) (by decide +kernel) (by decide) c.r (c.c hm.1) (c.s hm.2) hq hf (fun ε' μ' hj => gz_widen (cl' := cl + 3) (sl' := sl + 274) (by omega) (by omega) (hK n' ε' μ' hj))
theorem okL_X11_rule : mm_okM mX11_rule 1 := ⟨mm_in 3 196 rfl rfl, (mm_in 1 1 rfl rfl), ⟨by decide +kernel, by decide +kernel, by decide +kernel⟩, by decide⟩
theorem okL_X12_rule : mm_okM mX12_rule 1 := ⟨mm_in 7 27 rfl rfl, (mm_in 1 12 rfl rfl), ⟨by decide +kernel, by decide +kernel, by decide +kernel⟩, by decide⟩
theorem law_4 (c : LC Γ L xs cl sl) (hi : i + 6 ≤ L) (hJ : J ε μ) (hK : LK Γ cl sl i) : GZ Γ mL_law cl sl 352 (lvL i) [] n (HP ε μ) := by
  obtain ⟨tn, gn, a, p, dy, ln, sz, m, hJ⟩ := hJ
  refine gz_aload_n (j := 1) (x := 0) (by decide +kernel) rfl ?_
  refine gz_rd (k := 1) (j := 1) c.1 hi c.2.1 (by decide) rfl (by decide +kernel) (by decide +kernel) (by decide +kernel) (by decide +kernel) (by decide +kernel) ?_
  refine gz_p1 (M1 := mX11_rule) (M2 := mX12_rule) (j := 38) (mc' := 0) (ms' := 0) (As := [.int (xs (i + 1))]) okL_X11_rule (mm_in 3 193 rfl rfl) (mm_in 3 194 rfl rfl) (mm_in 3 195 rfl rfl) rfl (by decide +kernel) c.r (c.c (by decide)) (c.s (by decide)) (pr_body (p_rule hJ)) lvL_u ?_
  intro v n' h' fs' hq hf
  refine gz_aload_n (j := 2) (x := 56) (by decide +kernel) rfl ?_
  refine gz_rd (k := 1) (j := 1) c.1 hi c.2.1 (by decide) rfl (by decide +kernel) (by decide +kernel) (by decide +kernel) (by decide +kernel) (by decide +kernel) ?_
  exact gz_p2 (M2 := mX12_rule) (off := 1100) (j := 41) (As := [.int (xs (i + 1))]) okL_X12_rule (mm_in 7 24 rfl rfl) (mm_in 7 25 rfl rfl) (mm_in 7 26 rfl rfl) rfl (by decide +kernel) (by decide +kernel) (by decide) c.r (c.c (by decide)) (c.s (by decide)) hq hf (fun ε' μ' hj => gz_widen (cl' := cl + 3) (sl' := sl + 274) (by omega) (by omega) (hK n' ε' μ' hj))
theorem okL_X11_gun : mm_okM mX11_gun 2 := ⟨mm_in 3 204 rfl rfl, (mm_in 1 1 rfl rfl), ⟨by decide +kernel, by decide +kernel, by decide +kernel⟩, by decide⟩
theorem okL_X12_gun : mm_okM mX12_gun 2 := ⟨mm_in 7 57 rfl rfl, (mm_in 1 12 rfl rfl), ⟨by decide +kernel, by decide +kernel, by decide +kernel⟩, by decide⟩
theorem law_6 (c : LC Γ L xs cl sl) (hi : i + 6 ≤ L) (hJ : J ε μ) (hK : LK Γ cl sl i) : GZ Γ mL_law cl sl 445 (lvL i) [] n (HP ε μ) := by
  obtain ⟨tn, gn, a, p, dy, ln, sz, m, hJ⟩ := hJ
  refine gz_aload_n (j := 1) (x := 0) (by decide +kernel) rfl ?_
  refine gz_rd (k := 1) (j := 1) c.1 hi c.2.1 (by decide) rfl (by decide +kernel) (by decide +kernel) (by decide +kernel) (by decide +kernel) (by decide +kernel) ?_
  refine gz_rd (k := 2) (j := 2) c.1 hi c.2.1 (by decide) rfl (by decide +kernel) (by decide +kernel) (by decide +kernel) (by decide +kernel) (by decide +kernel) ?_
  refine gz_p1 (M1 := mX11_gun) (M2 := mX12_gun) (j := 52) (mc' := 0) (ms' := 0) (As := [.int (xs (i + 1)), .int (xs (i + 2))]) okL_X11_gun (mm_in 3 201 rfl rfl) (mm_in 3 202 rfl rfl) (mm_in 3 203 rfl rfl) rfl (by decide +kernel) c.r (c.c (by decide)) (c.s (by decide)) (pr_body (p_gun hJ)) lvL_u ?_
  intro v n' h' fs' hq hf
  refine gz_aload_n (j := 2) (x := 56) (by decide +kernel) rfl ?_
  refine gz_rd (k := 1) (j := 1) c.1 hi c.2.1 (by decide) rfl (by decide +kernel) (by decide +kernel) (by decide +kernel) (by decide +kernel) (by decide +kernel) ?_
  refine gz_rd (k := 2) (j := 2) c.1 hi c.2.1 (by decide) rfl (by decide +kernel) (by decide +kernel) (by decide +kernel) (by decide +kernel) (by decide +kernel) ?_
  exact gz_p2 (M2 := mX12_gun) (off := 995) (j := 55) (As := [.int (xs (i + 1)), .int (xs (i + 2))]) okL_X12_gun (mm_in 7 54 rfl rfl) (mm_in 7 55 rfl rfl) (mm_in 7 56 rfl rfl) rfl (by decide +kernel) (by decide +kernel) (by decide) c.r (c.c (by decide)) (c.s (by decide)) hq hf (fun ε' μ' hj => gz_widen (cl' := cl + 3) (sl' := sl + 274) (by omega) (by omega) (hK n' ε' μ' hj))
theorem okL_X11_law : mm_okM mX11_law 1 := ⟨mm_in 4 30 rfl rfl, (mm_in 1 1 rfl rfl), ⟨by decide +kernel, by decide +kernel, by decide +kernel⟩, by decide⟩
theorem okL_X12_law : mm_okM mX12_law 1 := ⟨mm_in 7 110 rfl rfl, (mm_in 1 12 rfl rfl), ⟨by decide +kernel, by decide +kernel, by decide +kernel⟩, by decide⟩
theorem law_7 (c : LC Γ L xs cl sl) (hi : i + 6 ≤ L) (hJ : J ε μ) (hK : LK Γ cl sl i) : GZ Γ mL_law cl sl 482 (lvL i) [] n (HP ε μ) := by
  obtain ⟨tn, gn, a, p, dy, ln, sz, m, hJ⟩ := hJ
  refine gz_aload_n (j := 1) (x := 0) (by decide +kernel) rfl ?_
  refine gz_rd (k := 1) (j := 1) c.1 hi c.2.1 (by decide) rfl (by decide +kernel) (by decide +kernel) (by decide +kernel) (by decide +kernel) (by decide +kernel) ?_
  refine gz_p1 (M1 := mX11_law) (M2 := mX12_law) (j := 56) (mc' := 0) (ms' := 0) (As := [.int (xs (i + 1))]) okL_X11_law (mm_in 4 27 rfl rfl) (mm_in 4 28 rfl rfl) (mm_in 4 29 rfl rfl) rfl (by decide +kernel) c.r (c.c (by decide)) (c.s (by decide)) (pr_body (p_law hJ)) lvL_u ?_
  intro v n' h' fs' hq hf
  refine gz_aload_n (j := 2) (x := 56) (by decide +kernel) rfl ?_
  refine gz_rd (k := 1) (j := 1) c.1 hi c.2.1 (by decide) rfl (by decide +kernel) (by decide +kernel) (by decide +kernel) (by decide +kernel) (by decide +kernel) ?_
  exact gz_p2 (M2 := mX12_law) (off := 970) (j := 59) (As := [.int (xs (i + 1))]) okL_X12_law (mm_in 7 107 rfl rfl) (mm_in 7 108 rfl rfl) (mm_in 7 109 rfl rfl) rfl (by decide +kernel) (by decide +kernel) (by decide) c.r (c.c (by decide)) (c.s (by decide)) hq hf (fun ε' μ' hj => gz_widen (cl' := cl + 3) (sl' := sl + 274) (by omega) (by omega) (hK n' ε' μ' hj))
theorem okL_X11_drives : mm_okM mX11_drives 1 := ⟨mm_in 4 34 rfl rfl, (mm_in 1 1 rfl rfl), ⟨by decide +kernel, by decide +kernel, by decide +kernel⟩, by decide⟩
theorem okL_X12_drives : mm_okM mX12_drives 1 := ⟨mm_in 7 114 rfl rfl, (mm_in 1 12 rfl rfl), ⟨by decide +kernel, by decide +kernel, by decide +kernel⟩, by decide⟩
theorem law_8 (c : LC Γ L xs cl sl) (hi : i + 6 ≤ L) (hJ : J ε μ) (hK : LK Γ cl sl i) : GZ Γ mL_law cl sl 507 (lvL i) [] n (HP ε μ) := by
  obtain ⟨tn, gn, a, p, dy, ln, sz, m, hJ⟩ := hJ
  refine gz_aload_n (j := 1) (x := 0) (by decide +kernel) rfl ?_
  refine gz_rd (k := 1) (j := 1) c.1 hi c.2.1 (by decide) rfl (by decide +kernel) (by decide +kernel) (by decide +kernel) (by decide +kernel) (by decide +kernel) ?_
  refine gz_p1 (M1 := mX11_drives) (M2 := mX12_drives) (j := 60) (mc' := 0) (ms' := 0) (As := [.int (xs (i + 1))]) okL_X11_drives (mm_in 4 31 rfl rfl) (mm_in 4 32 rfl rfl) (mm_in 4 33 rfl rfl) rfl (by decide +kernel) c.r (c.c (by decide)) (c.s (by decide)) (pr_body (p_drives hJ)) lvL_u ?_
  intro v n' h' fs' hq hf
  refine gz_aload_n (j := 2) (x := 56) (by decide +kernel) rfl ?_
  refine gz_rd (k := 1) (j := 1) c.1 hi c.2.1 (by decide) rfl (by decide +kernel) (by decide +kernel) (by decide +kernel) (by decide +kernel) (by decide +kernel) ?_
  exact gz_p2 (M2 := mX12_drives) (off := 945) (j := 63) (As := [.int (xs (i + 1))]) okL_X12_drives (mm_in 7 111 rfl rfl) (mm_in 7 112 rfl rfl) (mm_in 7 113 rfl rfl) rfl (by decide +kernel) (by decide +kernel) (by decide) c.r (c.c (by decide)) (c.s (by decide)) hq hf (fun ε' μ' hj => gz_widen (cl' := cl + 3) (sl' := sl + 274) (by omega) (by omega) (hK n' ε' μ' hj))
theorem okL_X11_line : mm_okM mX11_line 2 := ⟨mm_in 4 63 rfl rfl, (mm_in 1 1 rfl rfl), ⟨by decide +kernel, by decide +kernel, by decide +kernel⟩, by decide⟩
theorem okL_X12_line : mm_okM mX12_line 2 := ⟨mm_in 7 134 rfl rfl, (mm_in 1 12 rfl rfl), ⟨by decide +kernel, by decide +kernel, by decide +kernel⟩, by decide⟩
theorem law_9 (c : LC Γ L xs cl sl) (hi : i + 6 ≤ L) (hJ : J ε μ) (hK : LK Γ cl sl i) : GZ Γ mL_law cl sl 532 (lvL i) [] n (HP ε μ) := by
  obtain ⟨tn, gn, a, p, dy, ln, sz, m, hJ⟩ := hJ
  refine gz_aload_n (j := 1) (x := 0) (by decide +kernel) rfl ?_
  refine gz_rd (k := 1) (j := 1) c.1 hi c.2.1 (by decide) rfl (by decide +kernel) (by decide +kernel) (by decide +kernel) (by decide +kernel) (by decide +kernel) ?_
  refine gz_rd (k := 2) (j := 2) c.1 hi c.2.1 (by decide) rfl (by decide +kernel) (by decide +kernel) (by decide +kernel) (by decide +kernel) (by decide +kernel) ?_
  refine gz_p1 (M1 := mX11_line) (M2 := mX12_line) (j := 64) (mc' := 0) (ms' := 0) (As := [.int (xs (i + 1)), .int (xs (i + 2))]) okL_X11_line (mm_in 4 60 rfl rfl) (mm_in 4 61 rfl rfl) (mm_in 4 62 rfl rfl) rfl (by decide +kernel) c.r (c.c (by decide)) (c.s (by decide)) (pr_body (p_line hJ)) lvL_u ?_
  intro v n' h' fs' hq hf
  refine gz_aload_n (j := 2) (x := 56) (by decide +kernel) rfl ?_
  refine gz_rd (k := 1) (j := 1) c.1 hi c.2.1 (by decide) rfl (by decide +kernel) (by decide +kernel) (by decide +kernel) (by decide +kernel) (by decide +kernel) ?_
  refine gz_rd (k := 2) (j := 2) c.1 hi c.2.1 (by decide) rfl (by decide +kernel) (by decide +kernel) (by decide +kernel) (by decide +kernel) (by decide +kernel) ?_
  exact gz_p2 (M2 := mX12_line) (off := 908) (j := 67) (As := [.int (xs (i + 1)), .int (xs (i + 2))]) okL_X12_line (mm_in 7 131 rfl rfl) (mm_in 7 132 rfl rfl) (mm_in 7 133 rfl rfl) rfl (by decide +kernel) (by decide +kernel) (by decide) c.r (c.c (by decide)) (c.s (by decide)) hq hf (fun ε' μ' hj => gz_widen (cl' := cl + 3) (sl' := sl + 274) (by omega) (by omega) (hK n' ε' μ' hj))
theorem okL_X11_move : mm_okM mX11_move 2 := ⟨mm_in 4 68 rfl rfl, (mm_in 1 1 rfl rfl), ⟨by decide +kernel, by decide +kernel, by decide +kernel⟩, by decide⟩
theorem okL_X12_move : mm_okM mX12_move 2 := ⟨mm_in 7 138 rfl rfl, (mm_in 1 12 rfl rfl), ⟨by decide +kernel, by decide +kernel, by decide +kernel⟩, by decide⟩
theorem law_10 (c : LC Γ L xs cl sl) (hi : i + 6 ≤ L) (hJ : J ε μ) (hK : LK Γ cl sl i) : GZ Γ mL_law cl sl 569 (lvL i) [] n (HP ε μ) := by
  obtain ⟨tn, gn, a, p, dy, ln, sz, m, hJ⟩ := hJ
  refine gz_aload_n (j := 1) (x := 0) (by decide +kernel) rfl ?_
  refine gz_rd (k := 1) (j := 1) c.1 hi c.2.1 (by decide) rfl (by decide +kernel) (by decide +kernel) (by decide +kernel) (by decide +kernel) (by decide +kernel) ?_
  refine gz_rd (k := 2) (j := 2) c.1 hi c.2.1 (by decide) rfl (by decide +kernel) (by decide +kernel) (by decide +kernel) (by decide +kernel) (by decide +kernel) ?_
  refine gz_p1 (M1 := mX11_move) (M2 := mX12_move) (j := 68) (mc' := 0) (ms' := 0) (As := [.int (xs (i + 1)), .int (xs (i + 2))]) okL_X11_move (mm_in 4 65 rfl rfl) (mm_in 4 66 rfl rfl) (mm_in 4 67 rfl rfl) rfl (by decide +kernel) c.r (c.c (by decide)) (c.s (by decide)) (pr_body (p_move hJ)) lvL_u ?_
  intro v n' h' fs' hq hf
  refine gz_aload_n (j := 2) (x := 56) (by decide +kernel) rfl ?_
  refine gz_rd (k := 1) (j := 1) c.1 hi c.2.1 (by decide) rfl (by decide +kernel) (by decide +kernel) (by decide +kernel) (by decide +kernel) (by decide +kernel) ?_
  refine gz_rd (k := 2) (j := 2) c.1 hi c.2.1 (by decide) rfl (by decide +kernel) (by decide +kernel) (by decide +kernel) (by decide +kernel) (by decide +kernel) ?_
  exact gz_p2 (M2 := mX12_move) (off := 871) (j := 71) (As := [.int (xs (i + 1)), .int (xs (i + 2))]) okL_X12_move (mm_in 7 135 rfl rfl) (mm_in 7 136 rfl rfl) (mm_in 7 137 rfl rfl) rfl (by decide +kernel) (by decide +kernel) (by decide) c.r (c.c (by decide)) (c.s (by decide)) hq hf (fun ε' μ' hj => gz_widen (cl' := cl + 3) (sl' := sl + 274) (by omega) (by omega) (hK n' ε' μ' hj))
theorem okL_X11_practise : mm_okM mX11_practise 1 := ⟨mm_in 4 73 rfl rfl, (mm_in 1 1 rfl rfl), ⟨by decide +kernel, by decide +kernel, by decide +kernel⟩, by decide⟩
theorem okL_X12_practise : mm_okM mX12_practise 1 := ⟨mm_in 7 142 rfl rfl, (mm_in 1 12 rfl rfl), ⟨by decide +kernel, by decide +kernel, by decide +kernel⟩, by decide⟩
theorem law_11 (c : LC Γ L xs cl sl) (hi : i + 6 ≤ L) (hJ : J ε μ) (hK : LK Γ cl sl i) : GZ Γ mL_law cl sl 606 (lvL i) [] n (HP ε μ) := by
  obtain ⟨tn, gn, a, p, dy, ln, sz, m, hJ⟩ := hJ
  refine gz_aload_n (j := 1) (x := 0) (by decide +kernel) rfl ?_
  refine gz_rd (k := 1) (j := 1) c.1 hi c.2.1 (by decide) rfl (by decide +kernel) (by decide +kernel) (by decide +kernel) (by decide +kernel) (by decide +kernel) ?_
  refine gz_p1 (M1 := mX11_practise) (M2 := mX12_practise) (j := 72) (mc' := 0) (ms' := 0) (As := [.int (xs (i + 1))]) okL_X11_practise (mm_in 4 70 rfl rfl) (mm_in 4 71 rfl rfl) (mm_in 4 72 rfl rfl) rfl (by decide +kernel) c.r (c.c (by decide)) (c.s (by decide)) (pr_body (p_practise hJ)) lvL_u ?_
  intro v n' h' fs' hq hf
  refine gz_aload_n (j := 2) (x := 56) (by decide +kernel) rfl ?_
  refine gz_rd (k := 1) (j := 1) c.1 hi c.2.1 (by decide) rfl (by decide +kernel) (by decide +kernel) (by decide +kernel) (by decide +kernel) (by decide +kernel) ?_
  exact gz_p2 (M2 := mX12_practise) (off := 846) (j := 75) (As := [.int (xs (i + 1))]) okL_X12_practise (mm_in 7 139 rfl rfl) (mm_in 7 140 rfl rfl) (mm_in 7 141 rfl rfl) rfl (by decide +kernel) (by decide +kernel) (by decide) c.r (c.c (by decide)) (c.s (by decide)) hq hf (fun ε' μ' hj => gz_widen (cl' := cl + 3) (sl' := sl + 274) (by omega) (by omega) (hK n' ε' μ' hj))
theorem okL_X11_wind : mm_okM mX11_wind 1 := ⟨mm_in 4 77 rfl rfl, (mm_in 1 1 rfl rfl), ⟨by decide +kernel, by decide +kernel, by decide +kernel⟩, by decide⟩
theorem okL_X12_wind : mm_okM mX12_wind 1 := ⟨mm_in 7 146 rfl rfl, (mm_in 1 12 rfl rfl), ⟨by decide +kernel, by decide +kernel, by decide +kernel⟩, by decide⟩
theorem law_12 (c : LC Γ L xs cl sl) (hi : i + 6 ≤ L) (hJ : J ε μ) (hK : LK Γ cl sl i) : GZ Γ mL_law cl sl 631 (lvL i) [] n (HP ε μ) := by
  obtain ⟨tn, gn, a, p, dy, ln, sz, m, hJ⟩ := hJ
  refine gz_aload_n (j := 1) (x := 0) (by decide +kernel) rfl ?_
  refine gz_rd (k := 1) (j := 1) c.1 hi c.2.1 (by decide) rfl (by decide +kernel) (by decide +kernel) (by decide +kernel) (by decide +kernel) (by decide +kernel) ?_
  refine gz_p1 (M1 := mX11_wind) (M2 := mX12_wind) (j := 76) (mc' := 0) (ms' := 0) (As := [.int (xs (i + 1))]) okL_X11_wind (mm_in 4 74 rfl rfl) (mm_in 4 75 rfl rfl) (mm_in 4 76 rfl rfl) rfl (by decide +kernel) c.r (c.c (by decide)) (c.s (by decide)) (pr_body (p_wind hJ)) lvL_u ?_
  intro v n' h' fs' hq hf
  refine gz_aload_n (j := 2) (x := 56) (by decide +kernel) rfl ?_
  refine gz_rd (k := 1) (j := 1) c.1 hi c.2.1 (by decide) rfl (by decide +kernel) (by decide +kernel) (by decide +kernel) (by decide +kernel) (by decide +kernel) ?_
  exact gz_p2 (M2 := mX12_wind) (off := 821) (j := 79) (As := [.int (xs (i + 1))]) okL_X12_wind (mm_in 7 143 rfl rfl) (mm_in 7 144 rfl rfl) (mm_in 7 145 rfl rfl) rfl (by decide +kernel) (by decide +kernel) (by decide) c.r (c.c (by decide)) (c.s (by decide)) hq hf (fun ε' μ' hj => gz_widen (cl' := cl + 3) (sl' := sl + 274) (by omega) (by omega) (hK n' ε' μ' hj))
theorem okL_X11_putOut : mm_okM mX11_putOut 1 := ⟨mm_in 4 84 rfl rfl, (mm_in 1 1 rfl rfl), ⟨by decide +kernel, by decide +kernel, by decide +kernel⟩, by decide⟩
theorem okL_X12_putOut : mm_okM mX12_putOut 1 := ⟨mm_in 7 153 rfl rfl, (mm_in 1 12 rfl rfl), ⟨by decide +kernel, by decide +kernel, by decide +kernel⟩, by decide⟩
theorem law_13 (c : LC Γ L xs cl sl) (hi : i + 6 ≤ L) (hJ : J ε μ) (hK : LK Γ cl sl i) : GZ Γ mL_law cl sl 656 (lvL i) [] n (HP ε μ) := by
  obtain ⟨tn, gn, a, p, dy, ln, sz, m, hJ⟩ := hJ
  refine gz_aload_n (j := 1) (x := 0) (by decide +kernel) rfl ?_
  refine gz_rd (k := 1) (j := 1) c.1 hi c.2.1 (by decide) rfl (by decide +kernel) (by decide +kernel) (by decide +kernel) (by decide +kernel) (by decide +kernel) ?_
  refine gz_p1 (M1 := mX11_putOut) (M2 := mX12_putOut) (j := 80) (mc' := 0) (ms' := 0) (As := [.int (xs (i + 1))]) okL_X11_putOut (mm_in 4 81 rfl rfl) (mm_in 4 82 rfl rfl) (mm_in 4 83 rfl rfl) rfl (by decide +kernel) c.r (c.c (by decide)) (c.s (by decide)) (pr_body (p_putOut hJ)) lvL_u ?_
  intro v n' h' fs' hq hf
  refine gz_aload_n (j := 2) (x := 56) (by decide +kernel) rfl ?_
  refine gz_rd (k := 1) (j := 1) c.1 hi c.2.1 (by decide) rfl (by decide +kernel) (by decide +kernel) (by decide +kernel) (by decide +kernel) (by decide +kernel) ?_
  exact gz_p2 (M2 := mX12_putOut) (off := 796) (j := 83) (As := [.int (xs (i + 1))]) okL_X12_putOut (mm_in 7 150 rfl rfl) (mm_in 7 151 rfl rfl) (mm_in 7 152 rfl rfl) rfl (by decide +kernel) (by decide +kernel) (by decide) c.r (c.c (by decide)) (c.s (by decide)) hq hf (fun ε' μ' hj => gz_widen (cl' := cl + 3) (sl' := sl + 274) (by omega) (by omega) (hK n' ε' μ' hj))
theorem okL_X11_lots : mm_okM mX11_lots 1 := ⟨mm_in 4 93 rfl rfl, (mm_in 1 1 rfl rfl), ⟨by decide +kernel, by decide +kernel, by decide +kernel⟩, by decide⟩
theorem okL_X12_lots : mm_okM mX12_lots 1 := ⟨mm_in 7 157 rfl rfl, (mm_in 1 12 rfl rfl), ⟨by decide +kernel, by decide +kernel, by decide +kernel⟩, by decide⟩
theorem law_14 (c : LC Γ L xs cl sl) (hi : i + 6 ≤ L) (hJ : J ε μ) (hK : LK Γ cl sl i) : GZ Γ mL_law cl sl 681 (lvL i) [] n (HP ε μ) := by
  obtain ⟨tn, gn, a, p, dy, ln, sz, m, hJ⟩ := hJ
  refine gz_aload_n (j := 1) (x := 0) (by decide +kernel) rfl ?_
  refine gz_rd (k := 1) (j := 1) c.1 hi c.2.1 (by decide) rfl (by decide +kernel) (by decide +kernel) (by decide +kernel) (by decide +kernel) (by decide +kernel) ?_
  refine gz_p1 (M1 := mX11_lots) (M2 := mX12_lots) (j := 84) (mc' := 0) (ms' := 0) (As := [.int (xs (i + 1))]) okL_X11_lots (mm_in 4 90 rfl rfl) (mm_in 4 91 rfl rfl) (mm_in 4 92 rfl rfl) rfl (by decide +kernel) c.r (c.c (by decide)) (c.s (by decide)) (pr_body (p_lots hJ)) lvL_u ?_
  intro v n' h' fs' hq hf
  refine gz_aload_n (j := 2) (x := 56) (by decide +kernel) rfl ?_
  refine gz_rd (k := 1) (j := 1) c.1 hi c.2.1 (by decide) rfl (by decide +kernel) (by decide +kernel) (by decide +kernel) (by decide +kernel) (by decide +kernel) ?_
  exact gz_p2 (M2 := mX12_lots) (off := 771) (j := 87) (As := [.int (xs (i + 1))]) okL_X12_lots (mm_in 7 154 rfl rfl) (mm_in 7 155 rfl rfl) (mm_in 7 156 rfl rfl) rfl (by decide +kernel) (by decide +kernel) (by decide) c.r (c.c (by decide)) (c.s (by decide)) hq hf (fun ε' μ' hj => gz_widen (cl' := cl + 3) (sl' := sl + 274) (by omega) (by omega) (hK n' ε' μ' hj))
theorem okL_X11_status : mm_okM mX11_status 1 := ⟨mm_in 4 111 rfl rfl, (mm_in 1 1 rfl rfl), ⟨by decide +kernel, by decide +kernel, by decide +kernel⟩, by decide⟩
theorem okL_X12_status : mm_okM mX12_status 1 := ⟨mm_in 7 175 rfl rfl, (mm_in 1 12 rfl rfl), ⟨by decide +kernel, by decide +kernel, by decide +kernel⟩, by decide⟩
theorem law_16 (c : LC Γ L xs cl sl) (hi : i + 6 ≤ L) (hJ : J ε μ) (hK : LK Γ cl sl i) : GZ Γ mL_law cl sl 775 (lvL i) [] n (HP ε μ) := by
  obtain ⟨tn, gn, a, p, dy, ln, sz, m, hJ⟩ := hJ
  refine gz_aload_n (j := 1) (x := 0) (by decide +kernel) rfl ?_
  refine gz_rd (k := 1) (j := 1) c.1 hi c.2.1 (by decide) rfl (by decide +kernel) (by decide +kernel) (by decide +kernel) (by decide +kernel) (by decide +kernel) ?_
  refine gz_p1 (M1 := mX11_status) (M2 := mX12_status) (j := 95) (mc' := 0) (ms' := 0) (As := [.int (xs (i + 1))]) okL_X11_status (mm_in 4 108 rfl rfl) (mm_in 4 109 rfl rfl) (mm_in 4 110 rfl rfl) rfl (by decide +kernel) c.r (c.c (by decide)) (c.s (by decide)) (pr_body (p_status hJ)) lvL_u ?_
  intro v n' h' fs' hq hf
  refine gz_aload_n (j := 2) (x := 56) (by decide +kernel) rfl ?_
  refine gz_rd (k := 1) (j := 1) c.1 hi c.2.1 (by decide) rfl (by decide +kernel) (by decide +kernel) (by decide +kernel) (by decide +kernel) (by decide +kernel) ?_
  exact gz_p2 (M2 := mX12_status) (off := 677) (j := 98) (As := [.int (xs (i + 1))]) okL_X12_status (mm_in 7 172 rfl rfl) (mm_in 7 173 rfl rfl) (mm_in 7 174 rfl rfl) rfl (by decide +kernel) (by decide +kernel) (by decide) c.r (c.c (by decide)) (c.s (by decide)) hq hf (fun ε' μ' hj => gz_widen (cl' := cl + 3) (sl' := sl + 274) (by omega) (by omega) (hK n' ε' μ' hj))
theorem okL_X11_undo : mm_okM mX11_undo 0 := ⟨mm_in 4 115 rfl rfl, (mm_in 1 1 rfl rfl), ⟨by decide +kernel, by decide +kernel, by decide +kernel⟩, by decide⟩
theorem okL_X12_undo : mm_okM mX12_undo 0 := ⟨mm_in 7 179 rfl rfl, (mm_in 1 12 rfl rfl), ⟨by decide +kernel, by decide +kernel, by decide +kernel⟩, by decide⟩
theorem law_17 (c : LC Γ L xs cl sl) (hi : i + 6 ≤ L) (hJ : J ε μ) (hK : LK Γ cl sl i) : GZ Γ mL_law cl sl 800 (lvL i) [] n (HP ε μ) := by
  obtain ⟨tn, gn, a, p, dy, ln, sz, m, hJ⟩ := hJ
  refine gz_aload_n (j := 1) (x := 0) (by decide +kernel) rfl ?_
  refine gz_p1 (M1 := mX11_undo) (M2 := mX12_undo) (j := 99) (mc' := 0) (ms' := 0) (As := []) okL_X11_undo (mm_in 4 112 rfl rfl) (mm_in 4 113 rfl rfl) (mm_in 4 114 rfl rfl) rfl (by decide +kernel) c.r (c.c (by decide)) (c.s (by decide)) (pr_body (p_undo hJ)) lvL_u ?_
  intro v n' h' fs' hq hf
  refine gz_aload_n (j := 2) (x := 56) (by decide +kernel) rfl ?_
  exact gz_p2 (M2 := mX12_undo) (off := 664) (j := 102) (As := []) okL_X12_undo (mm_in 7 176 rfl rfl) (mm_in 7 177 rfl rfl) (mm_in 7 178 rfl rfl) rfl (by decide +kernel) (by decide +kernel) (by decide) c.r (c.c (by decide)) (c.s (by decide)) hq hf (fun ε' μ' hj => gz_widen (cl' := cl + 3) (sl' := sl + 274) (by omega) (by omega) (hK n' ε' μ' hj))
theorem okL_X11_log : mm_okM mX11_log 2 := ⟨mm_in 4 127 rfl rfl, (mm_in 1 1 rfl rfl), ⟨by decide +kernel, by decide +kernel, by decide +kernel⟩, by decide⟩
theorem okL_X12_log : mm_okM mX12_log 2 := ⟨mm_in 7 183 rfl rfl, (mm_in 1 12 rfl rfl), ⟨by decide +kernel, by decide +kernel, by decide +kernel⟩, by decide⟩
theorem law_18 (c : LC Γ L xs cl sl) (hi : i + 6 ≤ L) (hJ : J ε μ) (hK : LK Γ cl sl i) : GZ Γ mL_law cl sl 813 (lvL i) [] n (HP ε μ) := by
  obtain ⟨tn, gn, a, p, dy, ln, sz, m, hJ⟩ := hJ
  refine gz_aload_n (j := 1) (x := 0) (by decide +kernel) rfl ?_
  refine gz_rd (k := 1) (j := 1) c.1 hi c.2.1 (by decide) rfl (by decide +kernel) (by decide +kernel) (by decide +kernel) (by decide +kernel) (by decide +kernel) ?_
  refine gz_rd (k := 2) (j := 2) c.1 hi c.2.1 (by decide) rfl (by decide +kernel) (by decide +kernel) (by decide +kernel) (by decide +kernel) (by decide +kernel) ?_
  refine gz_p1 (M1 := mX11_log) (M2 := mX12_log) (j := 103) (mc' := 0) (ms' := 0) (As := [.int (xs (i + 1)), .int (xs (i + 2))]) okL_X11_log (mm_in 4 124 rfl rfl) (mm_in 4 125 rfl rfl) (mm_in 4 126 rfl rfl) rfl (by decide +kernel) c.r (c.c (by decide)) (c.s (by decide)) (pr_body (p_log hJ)) lvL_u ?_
  intro v n' h' fs' hq hf
  refine gz_aload_n (j := 2) (x := 56) (by decide +kernel) rfl ?_
  refine gz_rd (k := 1) (j := 1) c.1 hi c.2.1 (by decide) rfl (by decide +kernel) (by decide +kernel) (by decide +kernel) (by decide +kernel) (by decide +kernel) ?_
  refine gz_rd (k := 2) (j := 2) c.1 hi c.2.1 (by decide) rfl (by decide +kernel) (by decide +kernel) (by decide +kernel) (by decide +kernel) (by decide +kernel) ?_
  exact gz_p2 (M2 := mX12_log) (off := 627) (j := 106) (As := [.int (xs (i + 1)), .int (xs (i + 2))]) okL_X12_log (mm_in 7 180 rfl rfl) (mm_in 7 181 rfl rfl) (mm_in 7 182 rfl rfl) rfl (by decide +kernel) (by decide +kernel) (by decide) c.r (c.c (by decide)) (c.s (by decide)) hq hf (fun ε' μ' hj => gz_widen (cl' := cl + 3) (sl' := sl + 274) (by omega) (by omega) (hK n' ε' μ' hj))
theorem okL_X11_taker : mm_okM mX11_taker 1 := ⟨mm_in 4 139 rfl rfl, (mm_in 1 1 rfl rfl), ⟨by decide +kernel, by decide +kernel, by decide +kernel⟩, by decide⟩
theorem okL_X12_taker : mm_okM mX12_taker 1 := ⟨mm_in 7 187 rfl rfl, (mm_in 1 12 rfl rfl), ⟨by decide +kernel, by decide +kernel, by decide +kernel⟩, by decide⟩
theorem law_19 (c : LC Γ L xs cl sl) (hi : i + 6 ≤ L) (hJ : J ε μ) (hK : LK Γ cl sl i) : GZ Γ mL_law cl sl 850 (lvL i) [] n (HP ε μ) := by
  obtain ⟨tn, gn, a, p, dy, ln, sz, m, hJ⟩ := hJ
  refine gz_aload_n (j := 1) (x := 0) (by decide +kernel) rfl ?_
  refine gz_rd (k := 1) (j := 1) c.1 hi c.2.1 (by decide) rfl (by decide +kernel) (by decide +kernel) (by decide +kernel) (by decide +kernel) (by decide +kernel) ?_
  refine gz_p1 (M1 := mX11_taker) (M2 := mX12_taker) (j := 107) (mc' := 0) (ms' := 0) (As := [.int (xs (i + 1))]) okL_X11_taker (mm_in 4 136 rfl rfl) (mm_in 4 137 rfl rfl) (mm_in 4 138 rfl rfl) rfl (by decide +kernel) c.r (c.c (by decide)) (c.s (by decide)) (pr_body (p_taker hJ)) lvL_u ?_
  intro v n' h' fs' hq hf
  refine gz_aload_n (j := 2) (x := 56) (by decide +kernel) rfl ?_
  refine gz_rd (k := 1) (j := 1) c.1 hi c.2.1 (by decide) rfl (by decide +kernel) (by decide +kernel) (by decide +kernel) (by decide +kernel) (by decide +kernel) ?_
  exact gz_p2 (M2 := mX12_taker) (off := 602) (j := 110) (As := [.int (xs (i + 1))]) okL_X12_taker (mm_in 7 184 rfl rfl) (mm_in 7 185 rfl rfl) (mm_in 7 186 rfl rfl) rfl (by decide +kernel) (by decide +kernel) (by decide) c.r (c.c (by decide)) (c.s (by decide)) hq hf (fun ε' μ' hj => gz_widen (cl' := cl + 3) (sl' := sl + 274) (by omega) (by omega) (hK n' ε' μ' hj))
theorem okL_X11_bestLine : mm_okM mX11_bestLine 2 := ⟨mm_in 4 143 rfl rfl, (mm_in 1 1 rfl rfl), ⟨by decide +kernel, by decide +kernel, by decide +kernel⟩, by decide⟩
theorem okL_X12_bestLine : mm_okM mX12_bestLine 2 := ⟨mm_in 7 191 rfl rfl, (mm_in 1 12 rfl rfl), ⟨by decide +kernel, by decide +kernel, by decide +kernel⟩, by decide⟩
theorem law_20 (c : LC Γ L xs cl sl) (hi : i + 6 ≤ L) (hJ : J ε μ) (hK : LK Γ cl sl i) : GZ Γ mL_law cl sl 875 (lvL i) [] n (HP ε μ) := by
  obtain ⟨tn, gn, a, p, dy, ln, sz, m, hJ⟩ := hJ
  refine gz_aload_n (j := 1) (x := 0) (by decide +kernel) rfl ?_
  refine gz_rd (k := 1) (j := 1) c.1 hi c.2.1 (by decide) rfl (by decide +kernel) (by decide +kernel) (by decide +kernel) (by decide +kernel) (by decide +kernel) ?_
  refine gz_rd (k := 2) (j := 2) c.1 hi c.2.1 (by decide) rfl (by decide +kernel) (by decide +kernel) (by decide +kernel) (by decide +kernel) (by decide +kernel) ?_
  refine gz_p1 (M1 := mX11_bestLine) (M2 := mX12_bestLine) (j := 111) (mc' := 0) (ms' := 0) (As := [.int (xs (i + 1)), .int (xs (i + 2))]) okL_X11_bestLine (mm_in 4 140 rfl rfl) (mm_in 4 141 rfl rfl) (mm_in 4 142 rfl rfl) rfl (by decide +kernel) c.r (c.c (by decide)) (c.s (by decide)) (pr_body (p_bestLine hJ)) lvL_u ?_
  intro v n' h' fs' hq hf
  refine gz_aload_n (j := 2) (x := 56) (by decide +kernel) rfl ?_
  refine gz_rd (k := 1) (j := 1) c.1 hi c.2.1 (by decide) rfl (by decide +kernel) (by decide +kernel) (by decide +kernel) (by decide +kernel) (by decide +kernel) ?_
  refine gz_rd (k := 2) (j := 2) c.1 hi c.2.1 (by decide) rfl (by decide +kernel) (by decide +kernel) (by decide +kernel) (by decide +kernel) (by decide +kernel) ?_
  exact gz_p2 (M2 := mX12_bestLine) (off := 565) (j := 114) (As := [.int (xs (i + 1)), .int (xs (i + 2))]) okL_X12_bestLine (mm_in 7 188 rfl rfl) (mm_in 7 189 rfl rfl) (mm_in 7 190 rfl rfl) rfl (by decide +kernel) (by decide +kernel) (by decide) c.r (c.c (by decide)) (c.s (by decide)) hq hf (fun ε' μ' hj => gz_widen (cl' := cl + 3) (sl' := sl + 274) (by omega) (by omega) (hK n' ε' μ' hj))
theorem okL_X11_bestPeg : mm_okM mX11_bestPeg 2 := ⟨mm_in 4 155 rfl rfl, (mm_in 1 1 rfl rfl), ⟨by decide +kernel, by decide +kernel, by decide +kernel⟩, by decide⟩
theorem okL_X12_bestPeg : mm_okM mX12_bestPeg 2 := ⟨mm_in 7 199 rfl rfl, (mm_in 1 12 rfl rfl), ⟨by decide +kernel, by decide +kernel, by decide +kernel⟩, by decide⟩
theorem law_21 (c : LC Γ L xs cl sl) (hi : i + 6 ≤ L) (hJ : J ε μ) (hK : LK Γ cl sl i) : GZ Γ mL_law cl sl 912 (lvL i) [] n (HP ε μ) := by
  obtain ⟨tn, gn, a, p, dy, ln, sz, m, hJ⟩ := hJ
  refine gz_aload_n (j := 1) (x := 0) (by decide +kernel) rfl ?_
  refine gz_rd (k := 1) (j := 1) c.1 hi c.2.1 (by decide) rfl (by decide +kernel) (by decide +kernel) (by decide +kernel) (by decide +kernel) (by decide +kernel) ?_
  refine gz_rd (k := 2) (j := 2) c.1 hi c.2.1 (by decide) rfl (by decide +kernel) (by decide +kernel) (by decide +kernel) (by decide +kernel) (by decide +kernel) ?_
  refine gz_p1 (M1 := mX11_bestPeg) (M2 := mX12_bestPeg) (j := 115) (mc' := 0) (ms' := 0) (As := [.int (xs (i + 1)), .int (xs (i + 2))]) okL_X11_bestPeg (mm_in 4 152 rfl rfl) (mm_in 4 153 rfl rfl) (mm_in 4 154 rfl rfl) rfl (by decide +kernel) c.r (c.c (by decide)) (c.s (by decide)) (pr_body (p_bestPeg hJ)) lvL_u ?_
  intro v n' h' fs' hq hf
  refine gz_aload_n (j := 2) (x := 56) (by decide +kernel) rfl ?_
  refine gz_rd (k := 1) (j := 1) c.1 hi c.2.1 (by decide) rfl (by decide +kernel) (by decide +kernel) (by decide +kernel) (by decide +kernel) (by decide +kernel) ?_
  refine gz_rd (k := 2) (j := 2) c.1 hi c.2.1 (by decide) rfl (by decide +kernel) (by decide +kernel) (by decide +kernel) (by decide +kernel) (by decide +kernel) ?_
  exact gz_p2 (M2 := mX12_bestPeg) (off := 528) (j := 118) (As := [.int (xs (i + 1)), .int (xs (i + 2))]) okL_X12_bestPeg (mm_in 7 196 rfl rfl) (mm_in 7 197 rfl rfl) (mm_in 7 198 rfl rfl) rfl (by decide +kernel) (by decide +kernel) (by decide) c.r (c.c (by decide)) (c.s (by decide)) hq hf (fun ε' μ' hj => gz_widen (cl' := cl + 3) (sl' := sl + 274) (by omega) (by omega) (hK n' ε' μ' hj))
theorem okL_X11_dealt : mm_okM mX11_dealt 1 := ⟨mm_in 4 159 rfl rfl, (mm_in 1 1 rfl rfl), ⟨by decide +kernel, by decide +kernel, by decide +kernel⟩, by decide⟩
theorem okL_X12_dealt : mm_okM mX12_dealt 1 := ⟨mm_in 7 203 rfl rfl, (mm_in 1 12 rfl rfl), ⟨by decide +kernel, by decide +kernel, by decide +kernel⟩, by decide⟩
theorem law_22 (c : LC Γ L xs cl sl) (hi : i + 6 ≤ L) (hJ : J ε μ) (hK : LK Γ cl sl i) : GZ Γ mL_law cl sl 949 (lvL i) [] n (HP ε μ) := by
  obtain ⟨tn, gn, a, p, dy, ln, sz, m, hJ⟩ := hJ
  refine gz_aload_n (j := 1) (x := 0) (by decide +kernel) rfl ?_
  refine gz_rd (k := 1) (j := 1) c.1 hi c.2.1 (by decide) rfl (by decide +kernel) (by decide +kernel) (by decide +kernel) (by decide +kernel) (by decide +kernel) ?_
  refine gz_p1 (M1 := mX11_dealt) (M2 := mX12_dealt) (j := 119) (mc' := 0) (ms' := 0) (As := [.int (xs (i + 1))]) okL_X11_dealt (mm_in 4 156 rfl rfl) (mm_in 4 157 rfl rfl) (mm_in 4 158 rfl rfl) rfl (by decide +kernel) c.r (c.c (by decide)) (c.s (by decide)) (pr_body (p_dealt hJ)) lvL_u ?_
  intro v n' h' fs' hq hf
  refine gz_aload_n (j := 2) (x := 56) (by decide +kernel) rfl ?_
  refine gz_rd (k := 1) (j := 1) c.1 hi c.2.1 (by decide) rfl (by decide +kernel) (by decide +kernel) (by decide +kernel) (by decide +kernel) (by decide +kernel) ?_
  exact gz_p2 (M2 := mX12_dealt) (off := 503) (j := 122) (As := [.int (xs (i + 1))]) okL_X12_dealt (mm_in 7 200 rfl rfl) (mm_in 7 201 rfl rfl) (mm_in 7 202 rfl rfl) rfl (by decide +kernel) (by decide +kernel) (by decide) c.r (c.c (by decide)) (c.s (by decide)) hq hf (fun ε' μ' hj => gz_widen (cl' := cl + 3) (sl' := sl + 274) (by omega) (by omega) (hK n' ε' μ' hj))
theorem okL_X11_lay : mm_okM mX11_lay 2 := ⟨mm_in 4 188 rfl rfl, (mm_in 1 1 rfl rfl), ⟨by decide +kernel, by decide +kernel, by decide +kernel⟩, by decide⟩
theorem okL_X12_lay : mm_okM mX12_lay 2 := ⟨mm_in 7 223 rfl rfl, (mm_in 1 12 rfl rfl), ⟨by decide +kernel, by decide +kernel, by decide +kernel⟩, by decide⟩
theorem law_24 (c : LC Γ L xs cl sl) (hi : i + 6 ≤ L) (hJ : J ε μ) (hK : LK Γ cl sl i) : GZ Γ mL_law cl sl 1051 (lvL i) [] n (HP ε μ) := by
  obtain ⟨tn, gn, a, p, dy, ln, sz, m, hJ⟩ := hJ
  refine gz_aload_n (j := 1) (x := 0) (by decide +kernel) rfl ?_
  refine gz_rd (k := 1) (j := 1) c.1 hi c.2.1 (by decide) rfl (by decide +kernel) (by decide +kernel) (by decide +kernel) (by decide +kernel) (by decide +kernel) ?_
  refine gz_rd (k := 2) (j := 2) c.1 hi c.2.1 (by decide) rfl (by decide +kernel) (by decide +kernel) (by decide +kernel) (by decide +kernel) (by decide +kernel) ?_
  refine gz_p1 (M1 := mX11_lay) (M2 := mX12_lay) (j := 128) (mc' := 0) (ms' := 0) (As := [.int (xs (i + 1)), .int (xs (i + 2))]) okL_X11_lay (mm_in 4 185 rfl rfl) (mm_in 4 186 rfl rfl) (mm_in 4 187 rfl rfl) rfl (by decide +kernel) c.r (c.c (by decide)) (c.s (by decide)) (pr_body (p_lay hJ)) lvL_u ?_
  intro v n' h' fs' hq hf
  refine gz_aload_n (j := 2) (x := 56) (by decide +kernel) rfl ?_
  refine gz_rd (k := 1) (j := 1) c.1 hi c.2.1 (by decide) rfl (by decide +kernel) (by decide +kernel) (by decide +kernel) (by decide +kernel) (by decide +kernel) ?_
  refine gz_rd (k := 2) (j := 2) c.1 hi c.2.1 (by decide) rfl (by decide +kernel) (by decide +kernel) (by decide +kernel) (by decide +kernel) (by decide +kernel) ?_
  exact gz_p2 (M2 := mX12_lay) (off := 389) (j := 131) (As := [.int (xs (i + 1)), .int (xs (i + 2))]) okL_X12_lay (mm_in 7 220 rfl rfl) (mm_in 7 221 rfl rfl) (mm_in 7 222 rfl rfl) rfl (by decide +kernel) (by decide +kernel) (by decide) c.r (c.c (by decide)) (c.s (by decide)) hq hf (fun ε' μ' hj => gz_widen (cl' := cl + 3) (sl' := sl + 274) (by omega) (by omega) (hK n' ε' μ' hj))
theorem okL_X11_ask : mm_okM mX11_ask 2 := ⟨mm_in 4 197 rfl rfl, (mm_in 1 1 rfl rfl), ⟨by decide +kernel, by decide +kernel, by decide +kernel⟩, by decide⟩
theorem okL_X12_ask : mm_okM mX12_ask 2 := ⟨mm_in 7 231 rfl rfl, (mm_in 1 12 rfl rfl), ⟨by decide +kernel, by decide +kernel, by decide +kernel⟩, by decide⟩
theorem law_25 (c : LC Γ L xs cl sl) (hi : i + 6 ≤ L) (hJ : J ε μ) (hK : LK Γ cl sl i) : GZ Γ mL_law cl sl 1088 (lvL i) [] n (HP ε μ) := by
  obtain ⟨tn, gn, a, p, dy, ln, sz, m, hJ⟩ := hJ
  refine gz_aload_n (j := 1) (x := 0) (by decide +kernel) rfl ?_
  refine gz_rd (k := 1) (j := 1) c.1 hi c.2.1 (by decide) rfl (by decide +kernel) (by decide +kernel) (by decide +kernel) (by decide +kernel) (by decide +kernel) ?_
  refine gz_rd (k := 2) (j := 2) c.1 hi c.2.1 (by decide) rfl (by decide +kernel) (by decide +kernel) (by decide +kernel) (by decide +kernel) (by decide +kernel) ?_
  refine gz_p1 (M1 := mX11_ask) (M2 := mX12_ask) (j := 132) (mc' := 0) (ms' := 0) (As := [.int (xs (i + 1)), .int (xs (i + 2))]) okL_X11_ask (mm_in 4 194 rfl rfl) (mm_in 4 195 rfl rfl) (mm_in 4 196 rfl rfl) rfl (by decide +kernel) c.r (c.c (by decide)) (c.s (by decide)) (pr_body (p_ask hJ)) lvL_u ?_
  intro v n' h' fs' hq hf
  refine gz_aload_n (j := 2) (x := 56) (by decide +kernel) rfl ?_
  refine gz_rd (k := 1) (j := 1) c.1 hi c.2.1 (by decide) rfl (by decide +kernel) (by decide +kernel) (by decide +kernel) (by decide +kernel) (by decide +kernel) ?_
  refine gz_rd (k := 2) (j := 2) c.1 hi c.2.1 (by decide) rfl (by decide +kernel) (by decide +kernel) (by decide +kernel) (by decide +kernel) (by decide +kernel) ?_
  exact gz_p2 (M2 := mX12_ask) (off := 352) (j := 135) (As := [.int (xs (i + 1)), .int (xs (i + 2))]) okL_X12_ask (mm_in 7 228 rfl rfl) (mm_in 7 229 rfl rfl) (mm_in 7 230 rfl rfl) rfl (by decide +kernel) (by decide +kernel) (by decide) c.r (c.c (by decide)) (c.s (by decide)) hq hf (fun ε' μ' hj => gz_widen (cl' := cl + 3) (sl' := sl + 274) (by omega) (by omega) (hK n' ε' μ' hj))
theorem okL_X11_claim : mm_okM mX11_claim 1 := ⟨mm_in 4 207 rfl rfl, (mm_in 1 1 rfl rfl), ⟨by decide +kernel, by decide +kernel, by decide +kernel⟩, by decide⟩
theorem okL_X12_claim : mm_okM mX12_claim 1 := ⟨mm_in 7 236 rfl rfl, (mm_in 1 12 rfl rfl), ⟨by decide +kernel, by decide +kernel, by decide +kernel⟩, by decide⟩
theorem law_26 (c : LC Γ L xs cl sl) (hi : i + 6 ≤ L) (hJ : J ε μ) (hK : LK Γ cl sl i) : GZ Γ mL_law cl sl 1125 (lvL i) [] n (HP ε μ) := by
  obtain ⟨tn, gn, a, p, dy, ln, sz, m, hJ⟩ := hJ
  refine gz_aload_n (j := 1) (x := 0) (by decide +kernel) rfl ?_
  refine gz_rd (k := 1) (j := 1) c.1 hi c.2.1 (by decide) rfl (by decide +kernel) (by decide +kernel) (by decide +kernel) (by decide +kernel) (by decide +kernel) ?_
  refine gz_p1 (M1 := mX11_claim) (M2 := mX12_claim) (j := 136) (mc' := 0) (ms' := 0) (As := [.int (xs (i + 1))]) okL_X11_claim (mm_in 4 204 rfl rfl) (mm_in 4 205 rfl rfl) (mm_in 4 206 rfl rfl) rfl (by decide +kernel) c.r (c.c (by decide)) (c.s (by decide)) (pr_body (p_claim hJ)) lvL_u ?_
  intro v n' h' fs' hq hf
  refine gz_aload_n (j := 2) (x := 56) (by decide +kernel) rfl ?_
  refine gz_rd (k := 1) (j := 1) c.1 hi c.2.1 (by decide) rfl (by decide +kernel) (by decide +kernel) (by decide +kernel) (by decide +kernel) (by decide +kernel) ?_
  exact gz_p2 (M2 := mX12_claim) (off := 327) (j := 139) (As := [.int (xs (i + 1))]) okL_X12_claim (mm_in 7 233 rfl rfl) (mm_in 7 234 rfl rfl) (mm_in 7 235 rfl rfl) rfl (by decide +kernel) (by decide +kernel) (by decide) c.r (c.c (by decide)) (c.s (by decide)) hq hf (fun ε' μ' hj => gz_widen (cl' := cl + 3) (sl' := sl + 274) (by omega) (by omega) (hK n' ε' μ' hj))
theorem okL_X11_game : mm_okM mX11_game 5 := ⟨mm_in 5 1 rfl rfl, (mm_in 1 1 rfl rfl), ⟨by decide +kernel, by decide +kernel, by decide +kernel⟩, by decide⟩
theorem okL_X12_game : mm_okM mX12_game 5 := ⟨mm_in 8 8 rfl rfl, (mm_in 1 12 rfl rfl), ⟨by decide +kernel, by decide +kernel, by decide +kernel⟩, by decide⟩
theorem law_27 (c : LC Γ L xs cl sl) (hi : i + 6 ≤ L) (hJ : J ε μ) (hK : LK Γ cl sl i) : GZ Γ mL_law cl sl 1150 (lvL i) [] n (HP ε μ) := by
  obtain ⟨tn, gn, a, p, dy, ln, sz, m, hJ⟩ := hJ
  refine gz_aload_n (j := 1) (x := 0) (by decide +kernel) rfl ?_
  refine gz_rd (k := 1) (j := 1) c.1 hi c.2.1 (by decide) rfl (by decide +kernel) (by decide +kernel) (by decide +kernel) (by decide +kernel) (by decide +kernel) ?_
  refine gz_rd (k := 2) (j := 2) c.1 hi c.2.1 (by decide) rfl (by decide +kernel) (by decide +kernel) (by decide +kernel) (by decide +kernel) (by decide +kernel) ?_
  refine gz_rd (k := 3) (j := 3) c.1 hi c.2.1 (by decide) rfl (by decide +kernel) (by decide +kernel) (by decide +kernel) (by decide +kernel) (by decide +kernel) ?_
  refine gz_rd (k := 4) (j := 4) c.1 hi c.2.1 (by decide) rfl (by decide +kernel) (by decide +kernel) (by decide +kernel) (by decide +kernel) (by decide +kernel) ?_
  refine gz_rd (k := 5) (j := 5) c.1 hi c.2.1 (by decide) rfl (by decide +kernel) (by decide +kernel) (by decide +kernel) (by decide +kernel) (by decide +kernel) ?_
  refine gz_p1 (M1 := mX11_game) (M2 := mX12_game) (j := 140) (mc' := 0) (ms' := 0) (As := [.int (xs (i + 1)), .int (xs (i + 2)), .int (xs (i + 3)), .int (xs (i + 4)), .int (xs (i + 5))]) okL_X11_game (mm_in 4 238 rfl rfl) (mm_in 4 239 rfl rfl) (mm_in 5 0 rfl rfl) rfl (by decide +kernel) c.r (c.c (by decide)) (c.s (by decide)) (pr_body (p_game hJ)) lvL_u ?_
  intro v n' h' fs' hq hf
  refine gz_aload_n (j := 2) (x := 56) (by decide +kernel) rfl ?_
  refine gz_rd (k := 1) (j := 1) c.1 hi c.2.1 (by decide) rfl (by decide +kernel) (by decide +kernel) (by decide +kernel) (by decide +kernel) (by decide +kernel) ?_
  refine gz_rd (k := 2) (j := 2) c.1 hi c.2.1 (by decide) rfl (by decide +kernel) (by decide +kernel) (by decide +kernel) (by decide +kernel) (by decide +kernel) ?_
  refine gz_rd (k := 3) (j := 3) c.1 hi c.2.1 (by decide) rfl (by decide +kernel) (by decide +kernel) (by decide +kernel) (by decide +kernel) (by decide +kernel) ?_
  refine gz_rd (k := 4) (j := 4) c.1 hi c.2.1 (by decide) rfl (by decide +kernel) (by decide +kernel) (by decide +kernel) (by decide +kernel) (by decide +kernel) ?_
  refine gz_rd (k := 5) (j := 5) c.1 hi c.2.1 (by decide) rfl (by decide +kernel) (by decide +kernel) (by decide +kernel) (by decide +kernel) (by decide +kernel) ?_
  exact gz_p2 (M2 := mX12_game) (off := 254) (j := 143) (As := [.int (xs (i + 1)), .int (xs (i + 2)), .int (xs (i + 3)), .int (xs (i + 4)), .int (xs (i + 5))]) okL_X12_game (mm_in 8 5 rfl rfl) (mm_in 8 6 rfl rfl) (mm_in 8 7 rfl rfl) rfl (by decide +kernel) (by decide +kernel) (by decide) c.r (c.c (by decide)) (c.s (by decide)) hq hf (fun ε' μ' hj => gz_widen (cl' := cl + 3) (sl' := sl + 274) (by omega) (by omega) (hK n' ε' μ' hj))
theorem okL_X11_rests : mm_okM mX11_rests 3 := ⟨mm_in 5 17 rfl rfl, (mm_in 1 1 rfl rfl), ⟨by decide +kernel, by decide +kernel, by decide +kernel⟩, by decide⟩
theorem okL_X12_rests : mm_okM mX12_rests 3 := ⟨mm_in 8 21 rfl rfl, (mm_in 1 12 rfl rfl), ⟨by decide +kernel, by decide +kernel, by decide +kernel⟩, by decide⟩
theorem law_28 (c : LC Γ L xs cl sl) (hi : i + 6 ≤ L) (hJ : J ε μ) (hK : LK Γ cl sl i) : GZ Γ mL_law cl sl 1223 (lvL i) [] n (HP ε μ) := by
  obtain ⟨tn, gn, a, p, dy, ln, sz, m, hJ⟩ := hJ
  refine gz_aload_n (j := 1) (x := 0) (by decide +kernel) rfl ?_
  refine gz_rd (k := 1) (j := 1) c.1 hi c.2.1 (by decide) rfl (by decide +kernel) (by decide +kernel) (by decide +kernel) (by decide +kernel) (by decide +kernel) ?_
  refine gz_rd (k := 2) (j := 2) c.1 hi c.2.1 (by decide) rfl (by decide +kernel) (by decide +kernel) (by decide +kernel) (by decide +kernel) (by decide +kernel) ?_
  refine gz_rd (k := 3) (j := 3) c.1 hi c.2.1 (by decide) rfl (by decide +kernel) (by decide +kernel) (by decide +kernel) (by decide +kernel) (by decide +kernel) ?_
  refine gz_p1 (M1 := mX11_rests) (M2 := mX12_rests) (j := 144) (mc' := 0) (ms' := 0) (As := [.int (xs (i + 1)), .int (xs (i + 2)), .int (xs (i + 3))]) okL_X11_rests (mm_in 5 14 rfl rfl) (mm_in 5 15 rfl rfl) (mm_in 5 16 rfl rfl) rfl (by decide +kernel) c.r (c.c (by decide)) (c.s (by decide)) (pr_body (p_rests hJ)) lvL_u ?_
  intro v n' h' fs' hq hf
  refine gz_aload_n (j := 2) (x := 56) (by decide +kernel) rfl ?_
  refine gz_rd (k := 1) (j := 1) c.1 hi c.2.1 (by decide) rfl (by decide +kernel) (by decide +kernel) (by decide +kernel) (by decide +kernel) (by decide +kernel) ?_
  refine gz_rd (k := 2) (j := 2) c.1 hi c.2.1 (by decide) rfl (by decide +kernel) (by decide +kernel) (by decide +kernel) (by decide +kernel) (by decide +kernel) ?_
  refine gz_rd (k := 3) (j := 3) c.1 hi c.2.1 (by decide) rfl (by decide +kernel) (by decide +kernel) (by decide +kernel) (by decide +kernel) (by decide +kernel) ?_
  exact gz_p2 (M2 := mX12_rests) (off := 205) (j := 148) (As := [.int (xs (i + 1)), .int (xs (i + 2)), .int (xs (i + 3))]) okL_X12_rests (mm_in 8 18 rfl rfl) (mm_in 8 19 rfl rfl) (mm_in 8 20 rfl rfl) rfl (by decide +kernel) (by decide +kernel) (by decide) c.r (c.c (by decide)) (c.s (by decide)) hq hf (fun ε' μ' hj => gz_widen (cl' := cl + 3) (sl' := sl + 274) (by omega) (by omega) (hK n' ε' μ' hj))
theorem okL_X11_odds : mm_okM mX11_odds 2 := ⟨mm_in 5 31 rfl rfl, (mm_in 1 1 rfl rfl), ⟨by decide +kernel, by decide +kernel, by decide +kernel⟩, by decide⟩
theorem okL_X12_odds : mm_okM mX12_odds 2 := ⟨mm_in 8 29 rfl rfl, (mm_in 1 12 rfl rfl), ⟨by decide +kernel, by decide +kernel, by decide +kernel⟩, by decide⟩
theorem law_29 (c : LC Γ L xs cl sl) (hi : i + 6 ≤ L) (hJ : J ε μ) (hK : LK Γ cl sl i) : GZ Γ mL_law cl sl 1272 (lvL i) [] n (HP ε μ) := by
  obtain ⟨tn, gn, a, p, dy, ln, sz, m, hJ⟩ := hJ
  refine gz_aload_n (j := 1) (x := 0) (by decide +kernel) rfl ?_
  refine gz_rd (k := 1) (j := 1) c.1 hi c.2.1 (by decide) rfl (by decide +kernel) (by decide +kernel) (by decide +kernel) (by decide +kernel) (by decide +kernel) ?_
  refine gz_rd (k := 2) (j := 2) c.1 hi c.2.1 (by decide) rfl (by decide +kernel) (by decide +kernel) (by decide +kernel) (by decide +kernel) (by decide +kernel) ?_
  refine gz_p1 (M1 := mX11_odds) (M2 := mX12_odds) (j := 149) (mc' := 0) (ms' := 0) (As := [.int (xs (i + 1)), .int (xs (i + 2))]) okL_X11_odds (mm_in 5 28 rfl rfl) (mm_in 5 29 rfl rfl) (mm_in 5 30 rfl rfl) rfl (by decide +kernel) c.r (c.c (by decide)) (c.s (by decide)) (pr_body (p_odds hJ)) lvL_u ?_
  intro v n' h' fs' hq hf
  refine gz_aload_n (j := 2) (x := 56) (by decide +kernel) rfl ?_
  refine gz_rd (k := 1) (j := 1) c.1 hi c.2.1 (by decide) rfl (by decide +kernel) (by decide +kernel) (by decide +kernel) (by decide +kernel) (by decide +kernel) ?_
  refine gz_rd (k := 2) (j := 2) c.1 hi c.2.1 (by decide) rfl (by decide +kernel) (by decide +kernel) (by decide +kernel) (by decide +kernel) (by decide +kernel) ?_
  exact gz_p2 (M2 := mX12_odds) (off := 168) (j := 152) (As := [.int (xs (i + 1)), .int (xs (i + 2))]) okL_X12_odds (mm_in 8 26 rfl rfl) (mm_in 8 27 rfl rfl) (mm_in 8 28 rfl rfl) rfl (by decide +kernel) (by decide +kernel) (by decide) c.r (c.c (by decide)) (c.s (by decide)) hq hf (fun ε' μ' hj => gz_widen (cl' := cl + 3) (sl' := sl + 274) (by omega) (by omega) (hK n' ε' μ' hj))
theorem okL_X11_shares : mm_okM mX11_shares 2 := ⟨mm_in 5 49 rfl rfl, (mm_in 1 1 rfl rfl), ⟨by decide +kernel, by decide +kernel, by decide +kernel⟩, by decide⟩
theorem okL_X12_shares : mm_okM mX12_shares 2 := ⟨mm_in 8 39 rfl rfl, (mm_in 1 12 rfl rfl), ⟨by decide +kernel, by decide +kernel, by decide +kernel⟩, by decide⟩
theorem law_30 (c : LC Γ L xs cl sl) (hi : i + 6 ≤ L) (hJ : J ε μ) (hK : LK Γ cl sl i) : GZ Γ mL_law cl sl 1309 (lvL i) [] n (HP ε μ) := by
  obtain ⟨tn, gn, a, p, dy, ln, sz, m, hJ⟩ := hJ
  refine gz_aload_n (j := 1) (x := 0) (by decide +kernel) rfl ?_
  refine gz_rd (k := 1) (j := 1) c.1 hi c.2.1 (by decide) rfl (by decide +kernel) (by decide +kernel) (by decide +kernel) (by decide +kernel) (by decide +kernel) ?_
  refine gz_rd (k := 2) (j := 2) c.1 hi c.2.1 (by decide) rfl (by decide +kernel) (by decide +kernel) (by decide +kernel) (by decide +kernel) (by decide +kernel) ?_
  refine gz_p1 (M1 := mX11_shares) (M2 := mX12_shares) (j := 153) (mc' := 0) (ms' := 0) (As := [.int (xs (i + 1)), .int (xs (i + 2))]) okL_X11_shares (mm_in 5 46 rfl rfl) (mm_in 5 47 rfl rfl) (mm_in 5 48 rfl rfl) rfl (by decide +kernel) c.r (c.c (by decide)) (c.s (by decide)) (pr_body (p_shares hJ)) lvL_u ?_
  intro v n' h' fs' hq hf
  refine gz_aload_n (j := 2) (x := 56) (by decide +kernel) rfl ?_
  refine gz_rd (k := 1) (j := 1) c.1 hi c.2.1 (by decide) rfl (by decide +kernel) (by decide +kernel) (by decide +kernel) (by decide +kernel) (by decide +kernel) ?_
  refine gz_rd (k := 2) (j := 2) c.1 hi c.2.1 (by decide) rfl (by decide +kernel) (by decide +kernel) (by decide +kernel) (by decide +kernel) (by decide +kernel) ?_
  exact gz_p2 (M2 := mX12_shares) (off := 131) (j := 156) (As := [.int (xs (i + 1)), .int (xs (i + 2))]) okL_X12_shares (mm_in 8 36 rfl rfl) (mm_in 8 37 rfl rfl) (mm_in 8 38 rfl rfl) rfl (by decide +kernel) (by decide +kernel) (by decide) c.r (c.c (by decide)) (c.s (by decide)) hq hf (fun ε' μ' hj => gz_widen (cl' := cl + 3) (sl' := sl + 274) (by omega) (by omega) (hK n' ε' μ' hj))
theorem okL_X11_rising : mm_okM mX11_rising 1 := ⟨mm_in 5 57 rfl rfl, (mm_in 1 1 rfl rfl), ⟨by decide +kernel, by decide +kernel, by decide +kernel⟩, by decide⟩
theorem okL_X12_rising : mm_okM mX12_rising 1 := ⟨mm_in 8 47 rfl rfl, (mm_in 1 12 rfl rfl), ⟨by decide +kernel, by decide +kernel, by decide +kernel⟩, by decide⟩
theorem law_31 (c : LC Γ L xs cl sl) (hi : i + 6 ≤ L) (hJ : J ε μ) (hK : LK Γ cl sl i) : GZ Γ mL_law cl sl 1346 (lvL i) [] n (HP ε μ) := by
  obtain ⟨tn, gn, a, p, dy, ln, sz, m, hJ⟩ := hJ
  refine gz_aload_n (j := 1) (x := 0) (by decide +kernel) rfl ?_
  refine gz_rd (k := 1) (j := 1) c.1 hi c.2.1 (by decide) rfl (by decide +kernel) (by decide +kernel) (by decide +kernel) (by decide +kernel) (by decide +kernel) ?_
  refine gz_p1 (M1 := mX11_rising) (M2 := mX12_rising) (j := 157) (mc' := 0) (ms' := 0) (As := [.int (xs (i + 1))]) okL_X11_rising (mm_in 5 54 rfl rfl) (mm_in 5 55 rfl rfl) (mm_in 5 56 rfl rfl) rfl (by decide +kernel) c.r (c.c (by decide)) (c.s (by decide)) (pr_body (p_rising hJ)) lvL_u ?_
  intro v n' h' fs' hq hf
  refine gz_aload_n (j := 2) (x := 56) (by decide +kernel) rfl ?_
  refine gz_rd (k := 1) (j := 1) c.1 hi c.2.1 (by decide) rfl (by decide +kernel) (by decide +kernel) (by decide +kernel) (by decide +kernel) (by decide +kernel) ?_
  exact gz_p2 (M2 := mX12_rising) (off := 106) (j := 160) (As := [.int (xs (i + 1))]) okL_X12_rising (mm_in 8 44 rfl rfl) (mm_in 8 45 rfl rfl) (mm_in 8 46 rfl rfl) rfl (by decide +kernel) (by decide +kernel) (by decide) c.r (c.c (by decide)) (c.s (by decide)) hq hf (fun ε' μ' hj => gz_widen (cl' := cl + 3) (sl' := sl + 274) (by omega) (by omega) (hK n' ε' μ' hj))
theorem okL_X11_most : mm_okM mX11_most 1 := ⟨mm_in 5 62 rfl rfl, (mm_in 1 1 rfl rfl), ⟨by decide +kernel, by decide +kernel, by decide +kernel⟩, by decide⟩
theorem okL_X12_most : mm_okM mX12_most 1 := ⟨mm_in 8 51 rfl rfl, (mm_in 1 12 rfl rfl), ⟨by decide +kernel, by decide +kernel, by decide +kernel⟩, by decide⟩
theorem law_32 (c : LC Γ L xs cl sl) (hi : i + 6 ≤ L) (hJ : J ε μ) (hK : LK Γ cl sl i) : GZ Γ mL_law cl sl 1371 (lvL i) [] n (HP ε μ) := by
  obtain ⟨tn, gn, a, p, dy, ln, sz, m, hJ⟩ := hJ
  refine gz_aload_n (j := 1) (x := 0) (by decide +kernel) rfl ?_
  refine gz_rd (k := 1) (j := 1) c.1 hi c.2.1 (by decide) rfl (by decide +kernel) (by decide +kernel) (by decide +kernel) (by decide +kernel) (by decide +kernel) ?_
  refine gz_p1 (M1 := mX11_most) (M2 := mX12_most) (j := 161) (mc' := 0) (ms' := 0) (As := [.int (xs (i + 1))]) okL_X11_most (mm_in 5 59 rfl rfl) (mm_in 5 60 rfl rfl) (mm_in 5 61 rfl rfl) rfl (by decide +kernel) c.r (c.c (by decide)) (c.s (by decide)) (pr_body (p_most hJ)) lvL_u ?_
  intro v n' h' fs' hq hf
  refine gz_aload_n (j := 2) (x := 56) (by decide +kernel) rfl ?_
  refine gz_rd (k := 1) (j := 1) c.1 hi c.2.1 (by decide) rfl (by decide +kernel) (by decide +kernel) (by decide +kernel) (by decide +kernel) (by decide +kernel) ?_
  exact gz_p2 (M2 := mX12_most) (off := 81) (j := 164) (As := [.int (xs (i + 1))]) okL_X12_most (mm_in 8 48 rfl rfl) (mm_in 8 49 rfl rfl) (mm_in 8 50 rfl rfl) rfl (by decide +kernel) (by decide +kernel) (by decide) c.r (c.c (by decide)) (c.s (by decide)) hq hf (fun ε' μ' hj => gz_widen (cl' := cl + 3) (sl' := sl + 274) (by omega) (by omega) (hK n' ε' μ' hj))
theorem okL_X11_ahead : mm_okM mX11_ahead 1 := ⟨mm_in 5 102 rfl rfl, (mm_in 1 1 rfl rfl), ⟨by decide +kernel, by decide +kernel, by decide +kernel⟩, by decide⟩
theorem okL_X12_ahead : mm_okM mX12_ahead 1 := ⟨mm_in 8 76 rfl rfl, (mm_in 1 12 rfl rfl), ⟨by decide +kernel, by decide +kernel, by decide +kernel⟩, by decide⟩
theorem law_33 (c : LC Γ L xs cl sl) (hi : i + 6 ≤ L) (hJ : J ε μ) (hK : LK Γ cl sl i) : GZ Γ mL_law cl sl 1396 (lvL i) [] n (HP ε μ) := by
  obtain ⟨tn, gn, a, p, dy, ln, sz, m, hJ⟩ := hJ
  refine gz_aload_n (j := 1) (x := 0) (by decide +kernel) rfl ?_
  refine gz_rd (k := 1) (j := 1) c.1 hi c.2.1 (by decide) rfl (by decide +kernel) (by decide +kernel) (by decide +kernel) (by decide +kernel) (by decide +kernel) ?_
  refine gz_p1 (M1 := mX11_ahead) (M2 := mX12_ahead) (j := 165) (mc' := 0) (ms' := 0) (As := [.int (xs (i + 1))]) okL_X11_ahead (mm_in 5 99 rfl rfl) (mm_in 5 100 rfl rfl) (mm_in 5 101 rfl rfl) rfl (by decide +kernel) c.r (c.c (by decide)) (c.s (by decide)) (pr_body (p_ahead hJ)) lvL_u ?_
  intro v n' h' fs' hq hf
  refine gz_aload_n (j := 2) (x := 56) (by decide +kernel) rfl ?_
  refine gz_rd (k := 1) (j := 1) c.1 hi c.2.1 (by decide) rfl (by decide +kernel) (by decide +kernel) (by decide +kernel) (by decide +kernel) (by decide +kernel) ?_
  exact gz_p2 (M2 := mX12_ahead) (off := 56) (j := 168) (As := [.int (xs (i + 1))]) okL_X12_ahead (mm_in 8 73 rfl rfl) (mm_in 8 74 rfl rfl) (mm_in 8 75 rfl rfl) rfl (by decide +kernel) (by decide +kernel) (by decide) c.r (c.c (by decide)) (c.s (by decide)) hq hf (fun ε' μ' hj => gz_widen (cl' := cl + 3) (sl' := sl + 274) (by omega) (by omega) (hK n' ε' μ' hj))
theorem okL_X11_image : mm_okM mX11_image 0 := ⟨mm_in 5 106 rfl rfl, (mm_in 1 1 rfl rfl), ⟨by decide +kernel, by decide +kernel, by decide +kernel⟩, by decide⟩
theorem okL_X12_image : mm_okM mX12_image 0 := ⟨mm_in 8 80 rfl rfl, (mm_in 1 12 rfl rfl), ⟨by decide +kernel, by decide +kernel, by decide +kernel⟩, by decide⟩
theorem law_34 (c : LC Γ L xs cl sl) (hi : i + 6 ≤ L) (hJ : J ε μ) (hK : LK Γ cl sl i) : GZ Γ mL_law cl sl 1421 (lvL i) [] n (HP ε μ) := by
  obtain ⟨tn, gn, a, p, dy, ln, sz, m, hJ⟩ := hJ
  refine gz_aload_n (j := 1) (x := 0) (by decide +kernel) rfl ?_
  refine gz_p1 (M1 := mX11_image) (M2 := mX12_image) (j := 169) (mc' := 0) (ms' := 0) (As := []) okL_X11_image (mm_in 5 103 rfl rfl) (mm_in 5 104 rfl rfl) (mm_in 5 105 rfl rfl) rfl (by decide +kernel) c.r (c.c (by decide)) (c.s (by decide)) (pr_body (p_image hJ)) lvL_u ?_
  intro v n' h' fs' hq hf
  refine gz_aload_n (j := 2) (x := 56) (by decide +kernel) rfl ?_
  exact gz_p2 (M2 := mX12_image) (off := 43) (j := 172) (As := []) okL_X12_image (mm_in 8 77 rfl rfl) (mm_in 8 78 rfl rfl) (mm_in 8 79 rfl rfl) rfl (by decide +kernel) (by decide +kernel) (by decide) c.r (c.c (by decide)) (c.s (by decide)) hq hf (fun ε' μ' hj => gz_widen (cl' := cl + 3) (sl' := sl + 274) (by omega) (by omega) (hK n' ε' μ' hj))
theorem okL_X11_back : mm_okM mX11_back 0 := ⟨mm_in 5 115 rfl rfl, (mm_in 1 1 rfl rfl), ⟨by decide +kernel, by decide +kernel, by decide +kernel⟩, by decide⟩
theorem okL_X12_back : mm_okM mX12_back 0 := ⟨mm_in 8 84 rfl rfl, (mm_in 1 12 rfl rfl), ⟨by decide +kernel, by decide +kernel, by decide +kernel⟩, by decide⟩
theorem law_35 (c : LC Γ L xs cl sl) (hi : i + 6 ≤ L) (hJ : J ε μ) (hK : LK Γ cl sl i) : GZ Γ mL_law cl sl 1434 (lvL i) [] n (HP ε μ) := by
  obtain ⟨tn, gn, a, p, dy, ln, sz, m, hJ⟩ := hJ
  refine gz_aload_n (j := 1) (x := 0) (by decide +kernel) rfl ?_
  refine gz_p1 (M1 := mX11_back) (M2 := mX12_back) (j := 173) (mc' := 0) (ms' := 0) (As := []) okL_X11_back (mm_in 5 112 rfl rfl) (mm_in 5 113 rfl rfl) (mm_in 5 114 rfl rfl) rfl (by decide +kernel) c.r (c.c (by decide)) (c.s (by decide)) (pr_body (p_back hJ)) lvL_u ?_
  intro v n' h' fs' hq hf
  refine gz_aload_n (j := 2) (x := 56) (by decide +kernel) rfl ?_
  exact gz_p2 (M2 := mX12_back) (off := 30) (j := 176) (As := []) okL_X12_back (mm_in 8 81 rfl rfl) (mm_in 8 82 rfl rfl) (mm_in 8 83 rfl rfl) rfl (by decide +kernel) (by decide +kernel) (by decide) c.r (c.c (by decide)) (c.s (by decide)) hq hf (fun ε' μ' hj => gz_widen (cl' := cl + 3) (sl' := sl + 274) (by omega) (by omega) (hK n' ε' μ' hj))
theorem okL_X11_count : mm_okM mX11_count 1 := ⟨mm_in 5 123 rfl rfl, (mm_in 1 1 rfl rfl), ⟨by decide +kernel, by decide +kernel, by decide +kernel⟩, by decide⟩
theorem okL_X12_count : mm_okM mX12_count 1 := ⟨mm_in 8 88 rfl rfl, (mm_in 1 12 rfl rfl), ⟨by decide +kernel, by decide +kernel, by decide +kernel⟩, by decide⟩
theorem law_36 (c : LC Γ L xs cl sl) (hi : i + 6 ≤ L) (hJ : J ε μ) (hK : LK Γ cl sl i) : GZ Γ mL_law cl sl 1447 (lvL i) [] n (HP ε μ) := by
  obtain ⟨tn, gn, a, p, dy, ln, sz, m, hJ⟩ := hJ
  refine gz_aload_n (j := 1) (x := 0) (by decide +kernel) rfl ?_
  refine gz_rd (k := 1) (j := 1) c.1 hi c.2.1 (by decide) rfl (by decide +kernel) (by decide +kernel) (by decide +kernel) (by decide +kernel) (by decide +kernel) ?_
  refine gz_p1 (M1 := mX11_count) (M2 := mX12_count) (j := 177) (mc' := 0) (ms' := 0) (As := [.int (xs (i + 1))]) okL_X11_count (mm_in 5 120 rfl rfl) (mm_in 5 121 rfl rfl) (mm_in 5 122 rfl rfl) rfl (by decide +kernel) c.r (c.c (by decide)) (c.s (by decide)) (pr_body (p_count hJ)) lvL_u ?_
  intro v n' h' fs' hq hf
  refine gz_aload_n (j := 2) (x := 56) (by decide +kernel) rfl ?_
  refine gz_rd (k := 1) (j := 1) c.1 hi c.2.1 (by decide) rfl (by decide +kernel) (by decide +kernel) (by decide +kernel) (by decide +kernel) (by decide +kernel) ?_
  exact gz_p2 (M2 := mX12_count) (off := 5) (j := 180) (As := [.int (xs (i + 1))]) okL_X12_count (mm_in 8 85 rfl rfl) (mm_in 8 86 rfl rfl) (mm_in 8 87 rfl rfl) rfl (by decide +kernel) (by decide +kernel) (by decide) c.r (c.c (by decide)) (c.s (by decide)) hq hf (fun ε' μ' hj => gz_widen (cl' := cl + 3) (sl' := sl + 274) (by omega) (by omega) (hK n' ε' μ' hj))
theorem law_3 (c : LC Γ L xs cl sl) (hi : i + 6 ≤ L) (hJ : J ε μ) (hK : LK Γ cl sl i) : GZ Γ mL_law cl sl 327 (lvL i) [] n (HP ε μ) := by
  obtain ⟨tn, gn, a, p, dy, ln, sz, m, hJ⟩ := hJ
  by_cases hs : xs (i + 1) = 1
  · by_cases hln : ln < 4
    · refine gz_dom (fun hdom => ?_)
      have he : ε.2.2.2.1 = ln := hJ.2.2.2.1.2.1.1
      have hn : n = 87 + 3 * ε.2.2.2.1 := by
        have h1 := hdom.2
        have h2 : ∀ k, (HP ε μ (k + 87)).isSome = true ↔ (k < 12 ∧ k / 3 < ln) := by
          intro k
          show (mm_law ε k (μ (k + 87))).isSome = true ↔ _
          unfold mm_law
          rw [he]
          by_cases hk : k < 12 ∧ k / 3 < ln
          · rw [if_pos hk]
            refine ⟨fun _ => hk, fun _ => ?_⟩
            split
            · rfl
            · split <;> rfl
          · rw [if_neg hk]
            exact ⟨fun z => (by cases z), fun z => absurd z hk⟩
        have h86 : 86 < n := (h1 86).mp rfl
        rw [he]
        rcases Nat.lt_trichotomy n (87 + 3 * ln) with z | z | z
        · have := (h1 n).mp (by
            obtain ⟨k, rfl⟩ : ∃ k, n = k + 87 := ⟨n - 87, by omega⟩
            exact (h2 k).mpr (by omega))
          omega
        · exact z
        · have := (h2 (3 * ln)).mp ((h1 (3 * ln + 87)).mpr (by omega))
          omega
      subst hn
      refine law_3a c hi (mc' := 3) (ms' := 274) (by decide) ?_ hK
      rw [hs]; exact p_text1 hJ hln
    · have h4 : ln = 4 := by have := hJ.2.2.2.1.1; omega
      subst h4
      refine law_3a c hi (mc' := 0) (ms' := 0) (by decide) ?_ hK
      rw [hs]; exact pr_body (p_text4 hJ)
  · exact law_3a c hi (mc' := 0) (ms' := 0) (by decide) (pr_body (p_text0 hs hJ)) hK
theorem okL_X11_years : mm_okM mX11_years 2 := ⟨mm_in 4 97 rfl rfl, (mm_in 1 1 rfl rfl), ⟨by decide +kernel, by decide +kernel, by decide +kernel⟩, by decide⟩
theorem okL_X12_years : mm_okM mX12_years 2 := ⟨mm_in 7 161 rfl rfl, (mm_in 1 12 rfl rfl), ⟨by decide +kernel, by decide +kernel, by decide +kernel⟩, by decide⟩
theorem law_15 (c : LC Γ L xs cl sl) (hi : i + 6 ≤ L) (hJ : J ε μ) (hK : LK Γ cl sl i) : GZ Γ mL_law cl sl 706 (lvL i) [] n (HP ε μ) := by
  obtain ⟨tn, gn, a, p, dy, ln, sz, m, hJ⟩ := hJ
  refine gz_aload_n (j := 1) (x := 0) (by decide +kernel) rfl ?_
  refine gz_rd (k := 1) (j := 1) c.1 hi c.2.1 (by decide) rfl (by decide +kernel) (by decide +kernel) (by decide +kernel) (by decide +kernel) (by decide +kernel) ?_
  refine gz_rd (k := 2) (j := 2) c.1 hi c.2.1 (by decide) rfl (by decide +kernel) (by decide +kernel) (by decide +kernel) (by decide +kernel) (by decide +kernel) ?_
  refine gz_i2l (by decide +kernel) ?_
  refine gz_bipush (j := 32) (by decide +kernel) ?_
  refine gz_lshl (by decide +kernel) ?_
  refine gz_rd (k := 3) (j := 3) c.1 hi c.2.1 (by decide) rfl (by decide +kernel) (by decide +kernel) (by decide +kernel) (by decide +kernel) (by decide +kernel) ?_
  refine gz_i2l (by decide +kernel) ?_
  refine gz_ldc2 (own := RL) (j := 88) (v := 4294967295) rfl (mm_in 8 89 rfl rfl) (by decide +kernel) ?_
  refine gz_land (by decide +kernel) ?_
  refine gz_lor (by decide +kernel) ?_
  refine gz_p1 (M1 := mX11_years) (M2 := mX12_years) (j := 90) (mc' := 0) (ms' := 0) (As := [.int (xs (i + 1)), .long ((xs (i + 2)).toInt64 <<< ((Int8.ofInt 32).toInt32.toInt64 &&& 63) ||| (xs (i + 3)).toInt64 &&& 4294967295)]) okL_X11_years (mm_in 4 94 rfl rfl) (mm_in 4 95 rfl rfl) (mm_in 4 96 rfl rfl) rfl (by decide +kernel) c.r (c.c (by decide)) (c.s (by decide)) (pr_body (p_years hJ)) lvL_u ?_
  intro v n' h' fs' hq hf
  refine gz_aload_n (j := 2) (x := 56) (by decide +kernel) rfl ?_
  refine gz_rd (k := 1) (j := 1) c.1 hi c.2.1 (by decide) rfl (by decide +kernel) (by decide +kernel) (by decide +kernel) (by decide +kernel) (by decide +kernel) ?_
  refine gz_rd (k := 2) (j := 2) c.1 hi c.2.1 (by decide) rfl (by decide +kernel) (by decide +kernel) (by decide +kernel) (by decide +kernel) (by decide +kernel) ?_
  refine gz_i2l (by decide +kernel) ?_
  refine gz_bipush (j := 32) (by decide +kernel) ?_
  refine gz_lshl (by decide +kernel) ?_
  refine gz_rd (k := 3) (j := 3) c.1 hi c.2.1 (by decide) rfl (by decide +kernel) (by decide +kernel) (by decide +kernel) (by decide +kernel) (by decide +kernel) ?_
  refine gz_i2l (by decide +kernel) ?_
  refine gz_ldc2 (own := RL) (j := 88) (v := 4294967295) rfl (mm_in 8 89 rfl rfl) (by decide +kernel) ?_
  refine gz_land (by decide +kernel) ?_
  refine gz_lor (by decide +kernel) ?_
  exact gz_p2 (M2 := mX12_years) (off := 702) (j := 94) (As := [.int (xs (i + 1)), .long ((xs (i + 2)).toInt64 <<< ((Int8.ofInt 32).toInt32.toInt64 &&& 63) ||| (xs (i + 3)).toInt64 &&& 4294967295)]) okL_X12_years (mm_in 7 158 rfl rfl) (mm_in 7 159 rfl rfl) (mm_in 7 160 rfl rfl) rfl (by decide +kernel) (by decide +kernel) (by decide) c.r (c.c (by decide)) (c.s (by decide)) hq hf (fun ε' μ' hj => gz_widen (cl' := cl + 3) (sl' := sl + 274) (by omega) (by omega) (hK n' ε' μ' hj))
theorem okL_X11_seen : mm_okM mX11_seen 4 := ⟨mm_in 4 180 rfl rfl, (mm_in 1 1 rfl rfl), ⟨by decide +kernel, by decide +kernel, by decide +kernel⟩, by decide⟩
theorem okL_X12_seen : mm_okM mX12_seen 4 := ⟨mm_in 7 219 rfl rfl, (mm_in 1 12 rfl rfl), ⟨by decide +kernel, by decide +kernel, by decide +kernel⟩, by decide⟩
theorem law_23 (c : LC Γ L xs cl sl) (hi : i + 6 ≤ L) (hJ : J ε μ) (hK : LK Γ cl sl i) : GZ Γ mL_law cl sl 974 (lvL i) [] n (HP ε μ) := by
  obtain ⟨tn, gn, a, p, dy, ln, sz, m, hJ⟩ := hJ
  by_cases hb : xs (i + 4) = 0
  · refine gz_aload_n (j := 1) (x := 0) (by decide +kernel) rfl ?_
    refine gz_rd (k := 1) (j := 1) c.1 hi c.2.1 (by decide) rfl (by decide +kernel) (by decide +kernel) (by decide +kernel) (by decide +kernel) (by decide +kernel) ?_
    refine gz_rd (k := 2) (j := 2) c.1 hi c.2.1 (by decide) rfl (by decide +kernel) (by decide +kernel) (by decide +kernel) (by decide +kernel) (by decide +kernel) ?_
    refine gz_rd (k := 3) (j := 3) c.1 hi c.2.1 (by decide) rfl (by decide +kernel) (by decide +kernel) (by decide +kernel) (by decide +kernel) (by decide +kernel) ?_
    refine gz_rd (k := 4) (j := 4) c.1 hi c.2.1 (by decide) rfl (by decide +kernel) (by decide +kernel) (by decide +kernel) (by decide +kernel) (by decide +kernel) ?_
    refine gz_if_eq (off := 7) (by decide +kernel) (by decide) (fun _ => ?_) (fun z => absurd hb z)
    refine gz_iconst (j := 0) (by decide +kernel) ?_
    refine gz_p1 (pc := 1007) (M1 := mX11_seen) (M2 := mX12_seen) (j := 123) (mc' := 0) (ms' := 0) (As := [.int (xs (i + 1)), .int (xs (i + 2)), .int (xs (i + 3)), .int (Int32.ofInt 0)]) okL_X11_seen (mm_in 4 177 rfl rfl) (mm_in 4 178 rfl rfl) (mm_in 4 179 rfl rfl) rfl (by decide +kernel) c.r (c.c (by decide)) (c.s (by decide)) (pr_body (p_seen hJ)) lvL_u ?_
    intro v n' h' fs' hq hf
    refine gz_aload_n (j := 2) (x := 56) (by decide +kernel) rfl ?_
    refine gz_rd (k := 1) (j := 1) c.1 hi c.2.1 (by decide) rfl (by decide +kernel) (by decide +kernel) (by decide +kernel) (by decide +kernel) (by decide +kernel) ?_
    refine gz_rd (k := 2) (j := 2) c.1 hi c.2.1 (by decide) rfl (by decide +kernel) (by decide +kernel) (by decide +kernel) (by decide +kernel) (by decide +kernel) ?_
    refine gz_rd (k := 3) (j := 3) c.1 hi c.2.1 (by decide) rfl (by decide +kernel) (by decide +kernel) (by decide +kernel) (by decide +kernel) (by decide +kernel) ?_
    refine gz_rd (k := 4) (j := 4) c.1 hi c.2.1 (by decide) rfl (by decide +kernel) (by decide +kernel) (by decide +kernel) (by decide +kernel) (by decide +kernel) ?_
    refine gz_if_eq (off := 7) (by decide +kernel) (by decide) (fun _ => ?_) (fun z => absurd hb z)
    refine gz_iconst (j := 0) (by decide +kernel) ?_
    exact gz_p2 (pc := 1043) (M2 := mX12_seen) (off := 426) (j := 127) (As := [.int (xs (i + 1)), .int (xs (i + 2)), .int (xs (i + 3)), .int (Int32.ofInt 0)]) okL_X12_seen (mm_in 7 216 rfl rfl) (mm_in 7 217 rfl rfl) (mm_in 7 218 rfl rfl) rfl (by decide +kernel) (by decide +kernel) (by decide) c.r (c.c (by decide)) (c.s (by decide)) hq hf (fun ε' μ' hj => gz_widen (cl' := cl + 3) (sl' := sl + 274) (by omega) (by omega) (hK n' ε' μ' hj))
  · refine gz_aload_n (j := 1) (x := 0) (by decide +kernel) rfl ?_
    refine gz_rd (k := 1) (j := 1) c.1 hi c.2.1 (by decide) rfl (by decide +kernel) (by decide +kernel) (by decide +kernel) (by decide +kernel) (by decide +kernel) ?_
    refine gz_rd (k := 2) (j := 2) c.1 hi c.2.1 (by decide) rfl (by decide +kernel) (by decide +kernel) (by decide +kernel) (by decide +kernel) (by decide +kernel) ?_
    refine gz_rd (k := 3) (j := 3) c.1 hi c.2.1 (by decide) rfl (by decide +kernel) (by decide +kernel) (by decide +kernel) (by decide +kernel) (by decide +kernel) ?_
    refine gz_rd (k := 4) (j := 4) c.1 hi c.2.1 (by decide) rfl (by decide +kernel) (by decide +kernel) (by decide +kernel) (by decide +kernel) (by decide +kernel) ?_
    refine gz_if_eq (off := 7) (by decide +kernel) (by decide) (fun z => absurd z hb) (fun _ => ?_)
    refine gz_iconst (j := 1) (by decide +kernel) ?_
    refine gz_goto (off := 4) (by decide +kernel) (by decide) ?_
    refine gz_p1 (pc := 1007) (M1 := mX11_seen) (M2 := mX12_seen) (j := 123) (mc' := 0) (ms' := 0) (As := [.int (xs (i + 1)), .int (xs (i + 2)), .int (xs (i + 3)), .int (Int32.ofInt 1)]) okL_X11_seen (mm_in 4 177 rfl rfl) (mm_in 4 178 rfl rfl) (mm_in 4 179 rfl rfl) rfl (by decide +kernel) c.r (c.c (by decide)) (c.s (by decide)) (pr_body (p_seen hJ)) lvL_u ?_
    intro v n' h' fs' hq hf
    refine gz_aload_n (j := 2) (x := 56) (by decide +kernel) rfl ?_
    refine gz_rd (k := 1) (j := 1) c.1 hi c.2.1 (by decide) rfl (by decide +kernel) (by decide +kernel) (by decide +kernel) (by decide +kernel) (by decide +kernel) ?_
    refine gz_rd (k := 2) (j := 2) c.1 hi c.2.1 (by decide) rfl (by decide +kernel) (by decide +kernel) (by decide +kernel) (by decide +kernel) (by decide +kernel) ?_
    refine gz_rd (k := 3) (j := 3) c.1 hi c.2.1 (by decide) rfl (by decide +kernel) (by decide +kernel) (by decide +kernel) (by decide +kernel) (by decide +kernel) ?_
    refine gz_rd (k := 4) (j := 4) c.1 hi c.2.1 (by decide) rfl (by decide +kernel) (by decide +kernel) (by decide +kernel) (by decide +kernel) (by decide +kernel) ?_
    refine gz_if_eq (off := 7) (by decide +kernel) (by decide) (fun z => absurd z hb) (fun _ => ?_)
    refine gz_iconst (j := 1) (by decide +kernel) ?_
    refine gz_goto (off := 4) (by decide +kernel) (by decide) ?_
    exact gz_p2 (pc := 1043) (M2 := mX12_seen) (off := 426) (j := 127) (As := [.int (xs (i + 1)), .int (xs (i + 2)), .int (xs (i + 3)), .int (Int32.ofInt 1)]) okL_X12_seen (mm_in 7 216 rfl rfl) (mm_in 7 217 rfl rfl) (mm_in 7 218 rfl rfl) rfl (by decide +kernel) (by decide +kernel) (by decide) c.r (c.c (by decide)) (c.s (by decide)) hq hf (fun ε' μ' hj => gz_widen (cl' := cl + 3) (sl' := sl + 274) (by omega) (by omega) (hK n' ε' μ' hj))
end LW2
