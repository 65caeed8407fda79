/-! THE START: what lies outside -/
theorem lw_in {w : Cond} (c i : Nat) (h : (mm_ch c)[i]? = some w) : w ∈ lw_tbl := mm_ch_in (List.mem_of_getElem? h)
theorem start_K {args : Array Value} {s : State} (hts : ∀ w ∈ mm_gw, w.before args s = true) : ∃ D : va_G, va_K D mm_cl [] s := by
  have h : ∀ c : Nat, ∃ q : ClassId × (Nat → Nat), ∀ r, mm_cl[c]? = some r → u_Kn s r.1 r.2.1 r.2.2 q.1 q.2 := by
    intro c
    cases hc : mm_cl[c]? with
    | none => exact ⟨((0 : Nat), fun _ => 0), fun r hr => by cases hr⟩
    | some r =>
      have hi : ∃ n, Cond.instantiable r.1 n ∈ mm_gw := by
        match c, hc with
        | 0, hc => cases hc; exact ⟨3, mm_in 2 84 rfl rfl⟩
        | 1, hc => cases hc; exact ⟨2, mm_in 2 100 rfl rfl⟩
        | 2, hc => cases hc; exact ⟨7, mm_in 1 63 rfl rfl⟩
        | 3, hc => cases hc; exact ⟨4, mm_in 1 57 rfl rfl⟩
        | 4, hc => cases hc; exact ⟨14, mm_in 1 198 rfl rfl⟩
        | 5, hc => cases hc; exact ⟨2, mm_in 3 169 rfl rfl⟩
        | 6, hc => cases hc; exact ⟨2, mm_in 1 185 rfl rfl⟩
        | 7, hc => cases hc; exact ⟨7, mm_in 2 31 rfl rfl⟩
        | 8, hc => cases hc; exact ⟨9, mm_in 1 114 rfl rfl⟩
        | 9, hc => cases hc; exact ⟨5, mm_in 2 60 rfl rfl⟩
        | 10, hc => cases hc; exact ⟨3, mm_in 1 36 rfl rfl⟩
        | 11, hc => cases hc; exact ⟨14, mm_in 1 28 rfl rfl⟩
        | 12, hc => cases hc; exact ⟨52, mm_in 5 203 rfl rfl⟩
        | c + 13, hc => cases hc
      obtain ⟨n, hi⟩ := hi
      obtain ⟨cC, iS, hK⟩ := u_known (ws := mm_gw) hts (mm_okcs c r hc).1 (hts _ hi)
      exact ⟨(cC, iS), fun r' hr => by cases hr; exact hK⟩
  exact ⟨(fun c => (h c).choose.1, fun c => (h c).choose.2), fun c q hq => (h c).choose_spec q hq, fun k q hq => by simp at hq⟩
def FL : List Cond := flatC (Jvm.Cond.and given_1 narrow_1)
def ER : String := "BeatenAfternoon$EstateReader"
theorem fl_a1 : ∀ q ∈ mm_xa, Cond.arrayOf (.static ER q.1 "[I") .int ∈ FL := by decide +kernel
theorem fl_a2 : ∀ q ∈ mm_xa, Cond.eq (.length (.static ER q.1 "[I")) (.int (Int32.ofNat q.2.length)) ∈ FL := by decide +kernel
theorem fl_a3 : ∀ q ∈ mm_xa, ∀ j, j < q.2.length → Cond.eq (.elem (.static ER q.1 "[I") (.int (Int32.ofNat j))) (.int (q.2.getD j 0)) ∈ FL := by decide +kernel
def tmS (i : Nat) : Term := match i with
  | 0 => .string ER 82
  | 1 => .string ER 97
  | 2 => .string ER 120
  | _ => .string "BeatenAfternoon$LawReader" 79
def tmT (_ : Nat) : Term := .string "BeatenAfternoon" 139
def byT : List Int32 := [110, 111, 32, 115, 117, 99, 104, 32, 116, 104, 105, 110, 103, 44, 32, 111, 114, 32, 110, 111, 116, 104, 105, 110, 103, 32, 111, 102, 32, 105, 116]
theorem fl_s1 : ∀ i, i < 4 → Cond.exactly (tmS i) "java/lang/String" ∈ FL := by decide +kernel
theorem fl_s2 : ∀ i, i < 4 → Cond.eq (.field (tmS i) "java/lang/String" "coder" "B") (.int 0) ∈ FL := by decide +kernel
theorem fl_s3 : ∀ i, i < 4 → Cond.arrayOf (.field (tmS i) "java/lang/String" "value" "[B") .byte ∈ FL := by decide +kernel
theorem fl_s4 : ∀ i, i < 4 → Cond.eq (.length (.field (tmS i) "java/lang/String" "value" "[B")) (.int (Int32.ofNat ((mm_xs.map List.length).getD i 0))) ∈ FL := by decide +kernel
theorem fl_s5 : ∀ i, i < 4 → ∀ j, j < (mm_xs.map List.length).getD i 0 → Cond.eq (.elem (.field (tmS i) "java/lang/String" "value" "[B") (.int (Int32.ofNat j))) (.int ((mm_xs.getD i []).getD j 0)) ∈ FL := by decide +kernel
theorem fl_s6 : ∀ i, i < 4 → ∀ j, j < 4 → i ≠ j → Cond.not (Cond.eq (tmS i) (tmS j)) ∈ FL ∨ Cond.not (Cond.eq (tmS j) (tmS i)) ∈ FL := by decide +kernel
theorem fl_t1 : Cond.exactly (tmT 0) "java/lang/String" ∈ FL := by decide +kernel
theorem fl_t2 : Cond.eq (.field (tmT 0) "java/lang/String" "coder" "B") (.int 0) ∈ FL := by decide +kernel
theorem fl_t3 : Cond.arrayOf (.field (tmT 0) "java/lang/String" "value" "[B") .byte ∈ FL := by decide +kernel
theorem fl_t4 : Cond.eq (.length (.field (tmT 0) "java/lang/String" "value" "[B")) (.int (Int32.ofNat 31)) ∈ FL := by decide +kernel
theorem fl_t5 : ∀ j, j < 31 → Cond.eq (.elem (.field (tmT 0) "java/lang/String" "value" "[B") (.int (Int32.ofNat j))) (.int (byT.getD j 0)) ∈ FL := by decide +kernel
theorem fl_u : Cond.isRef (.static Bundle.tN "UNASSIGNED_STACK" Bundle.steD) ∈ FL := by decide +kernel
theorem fl_n : Cond.isRef (.static Bundle.tN "SUPPRESSED_SENTINEL" Bundle.listD) ∈ FL := by decide +kernel
theorem fl_c : Cond.eq (.static "java/lang/String" "COMPACT_STRINGS" "Z") (.int 1) ∈ FL := by decide +kernel
theorem start_Z {b : Nat} {s : State} (hts : ∀ w ∈ lw_tbl, w.before #[Value.ref b] s = true) (hgv : (Jvm.Cond.and given_1 narrow_1).before #[Value.ref b] s = true) : ∃ ad : Nat → Nat, ad 1030 = b ∧ mm_Z ad (fun q => s.heap.size ≤ q) s s.heap := by
  have hs : ∀ w ∈ FL, w.before #[Value.ref b] s = true := flat_of_before _ hgv
  have hA : ∀ a : Nat, a < s.heap.size → ¬ (fun q => s.heap.size ≤ q) a := fun a h1 h2 => absurd h1 (Nat.not_lt.mpr h2)
  have hini : (Cond.initialized ER).before #[Value.ref b] s = true := hts _ (lw_in 1 3 rfl)
  have hla : ∀ (i : Nat) (q : String × List Int32), mm_xa[i]? = some q → (Cond.laysStatic ER q.1 "[I").before #[Value.ref b] s = true := by
    intro i q hq
    match i, hq with
    | 0, hq => cases hq; exact hts _ (lw_in 2 199 rfl)
    | 1, hq => cases hq; exact hts _ (lw_in 2 180 rfl)
    | 2, hq => cases hq; exact hts _ (lw_in 3 69 rfl)
    | 3, hq => cases hq; exact hts _ (lw_in 3 71 rfl)
    | 4, hq => cases hq; exact hts _ (lw_in 3 78 rfl)
    | 5, hq => cases hq; exact hts _ (lw_in 3 80 rfl)
    | i + 6, hq => cases hq
  have har : ∀ i : Nat, ∃ t : Nat, ∀ q, mm_xa[i]? = some q → va_Z ER q.1 "[I" (.ref t) (fun q => s.heap.size ≤ q) s s.heap ∧ va_T .int t q.2.length (fun j => .int (q.2.getD j 0)) (fun q => s.heap.size ≤ q) s s.heap := by
    intro i
    cases hi : mm_xa[i]? with
    | none => exact ⟨0, fun q hq => by cases hq⟩
    | some q =>
      have hm : q ∈ mm_xa := List.mem_of_getElem? hi
      have hlen : ∀ q ∈ mm_xa, q.2.length < 2 ^ 31 := by decide
      obtain ⟨t, ht, hT⟩ := va_Tof (f := fun j => .int (q.2.getD j 0)) (A := fun q => s.heap.size ≤ q) (hlen q hm) (hs _ (fl_a1 q hm)) (va_eqt (hs _ (fl_a2 q hm))) (fun j hj => va_eqt (hs _ (fl_a3 q hm j hj))) hA
      exact ⟨t, fun q' hq' => by cases hq'; exact ⟨va_Zref (hla i q hi) hini ht hA, hT⟩⟩
  obtain ⟨adK, adV, hS, hev⟩ := vk_Sof (N := 4) (tm := tmS) (len := mm_xs.map List.length) (byt := mm_xs) (A := fun q => s.heap.size ≤ q) (by decide) (fun i hi => hs _ (fl_s1 i hi)) (fun i hi => hs _ (fl_s2 i hi)) (fun i hi => hs _ (fl_s3 i hi)) (fun i hi => hs _ (fl_s4 i hi)) (fun i hi j hj => hs _ (fl_s5 i hi j hj)) (fun i j hi hj hne => (fl_s6 i hi j hj hne).imp (hs _) (hs _)) hA
  have ht4 : ∀ i : Nat, i < 1 → (Cond.eq (.length (.field (tmT i) "java/lang/String" "value" "[B")) (.int (Int32.ofNat (([31] : List Nat).getD i 0)))).before #[Value.ref b] s = true := by
    intro i hi
    obtain rfl : i = 0 := by omega
    exact hs _ fl_t4
  have ht5 : ∀ i : Nat, i < 1 → ∀ j : Nat, j < ([31] : List Nat).getD i 0 → (Cond.eq (.elem (.field (tmT i) "java/lang/String" "value" "[B") (.int (Int32.ofNat j))) (.int ((([byT] : List (List Int32)).getD i []).getD j 0))).before #[Value.ref b] s = true := by
    intro i hi j hj
    obtain rfl : i = 0 := by omega
    exact hs _ (fl_t5 j hj)
  obtain ⟨tK, tV, -, htv⟩ := vk_Sof (N := 1) (tm := tmT) (len := [31]) (byt := [byT]) (A := fun q => s.heap.size ≤ q) (by decide) (fun i hi => hs _ fl_t1) (fun i hi => hs _ fl_t2) (fun i hi => hs _ fl_t3) ht4 ht5 (fun i j hi hj hne => absurd (by omega) hne) hA
  obtain ⟨ad, had⟩ : ∃ ad : Nat → Nat, ad = fun k => if k = 1030 then b else if k < 1006 then (har (k - 1000)).choose else if k = 1014 then tK 0 else if k < 1014 then adK (k - 1010) else adV (k - 1020) := ⟨_, rfl⟩
  have e0 : ad 1030 = b := by rw [had]; rfl
  have e1 : ∀ i, i < 6 → ad (1000 + i) = (har i).choose := fun i hi => by
    rw [had]
    simp only
    rw [if_neg (by omega), if_pos (by omega), show 1000 + i - 1000 = i by omega]
  have e2 : ∀ i, i < 4 → ad (1010 + i) = adK i := fun i hi => by
    rw [had]
    simp only
    rw [if_neg (by omega), if_neg (by omega), if_neg (by omega), if_pos (by omega), show 1010 + i - 1010 = i by omega]
  have e3 : ∀ i, i < 4 → ad (1020 + i) = adV i := fun i hi => by
    rw [had]
    simp only
    rw [if_neg (by omega), if_neg (by omega), if_neg (by omega), if_neg (by omega), show 1020 + i - 1020 = i by omega]
  have e4 : ad 1014 = tK 0 := by rw [had]; rfl
  refine ⟨ad, e0, ?_, ⟨?_, ?_, ?_, ?_, ?_, ?_, ?_, ?_⟩⟩
  · intro w hw
    simp only [mm_nst, List.mem_cons, List.not_mem_nil, or_false] at hw
    rcases hw with rfl | rfl | rfl | rfl | rfl | rfl | rfl | rfl | rfl | rfl | rfl | rfl | rfl | rfl
    · exact va_Nw.of rfl (hts _ (lw_in 1 37 rfl))
    · exact va_Nw.of rfl (hts _ (lw_in 1 58 rfl))
    · exact va_Nw.of rfl (hts _ (lw_in 1 64 rfl))
    · exact va_Nw.of rfl (hts _ (lw_in 1 115 rfl))
    · exact va_Nw.of rfl (hts _ (lw_in 1 186 rfl))
    · exact va_Nw.of rfl (hts _ (lw_in 1 199 rfl))
    · exact va_Nw.of rfl (hts _ (lw_in 1 204 rfl))
    · exact va_Nw.of rfl (hts _ (lw_in 1 206 rfl))
    · exact va_Nw.of rfl (hts _ (lw_in 2 32 rfl))
    · exact va_Nw.of rfl (hts _ (lw_in 2 61 rfl))
    · exact va_Nw.of rfl (hts _ (lw_in 2 85 rfl))
    · exact va_Nw.of rfl (hts _ (lw_in 2 101 rfl))
    · exact va_Nw.of rfl (hts _ (lw_in 4 0 rfl))
    · exact va_Nw.of rfl (hts _ (lw_in 4 214 rfl))
  · intro i q hq
    have hi : i < 6 := (List.getElem?_eq_some_iff.mp hq).1
    rw [e1 i hi]
    exact (har i).choose_spec q hq
  · exact va_Zof (hts _ (lw_in 2 216 rfl)) (hts _ (lw_in 1 14 rfl)) (va_eqt (hs _ fl_c)) hA
  · refine ⟨fun i hi => ?_, fun i j hi hj e => ?_⟩
    · show va_O "java/lang/String" (ad (1010 + i)) _ _ _ ∧ va_OF "java/lang/String" "coder" "B" (.int 0) (ad (1010 + i)) _ _ _ ∧ va_OF "java/lang/String" "value" "[B" (.ref (ad (1020 + i))) (ad (1010 + i)) _ _ _ ∧ va_T .byte (ad (1020 + i)) _ _ _ _ _
      rw [e2 i hi, e3 i hi]
      exact hS.1 i hi
    · have e' : ad (1010 + i) = ad (1010 + j) := e
      rw [e2 i hi, e2 j hj] at e'
      exact hS.2 i j hi hj e'
  · intro q hq
    simp only [mm_xr, List.mem_cons, List.not_mem_nil, or_false] at hq
    rcases hq with rfl | rfl | rfl | rfl | rfl
    · exact vk_R.of (hts _ (lw_in 2 197 rfl)) (by rw [e2 0 (by decide)]; exact hev 0 (by decide))
    · exact vk_R.of (hts _ (lw_in 3 67 rfl)) (by rw [e2 1 (by decide)]; exact hev 1 (by decide))
    · exact vk_R.of (hts _ (lw_in 3 76 rfl)) (by rw [e2 2 (by decide)]; exact hev 2 (by decide))
    · exact vk_R.of (hts _ (lw_in 3 107 rfl)) (by rw [e2 3 (by decide)]; exact hev 3 (by decide))
    · exact vk_R.of (hts _ (lw_in 5 171 rfl)) (by rw [e4]; exact htv 0 (by decide))
  · exact vx_Zqof (hts _ (lw_in 5 159 rfl)) (hts _ (lw_in 1 22 rfl)) (hs _ fl_u) hA
  · exact vx_Zqof (hts _ (lw_in 5 161 rfl)) (hts _ (lw_in 1 22 rfl)) (hs _ fl_n) hA
  · intro w hw
    simp only [mm_cst, List.mem_cons, List.not_mem_nil, or_false] at hw
    rcases hw with rfl | rfl | rfl | rfl | rfl | rfl | rfl | rfl
    · exact va_Nw.of rfl (hts _ (lw_in 3 178 rfl))
    · exact va_Nw.of rfl (hts _ (lw_in 5 134 rfl))
    · exact va_Nw.of rfl (hts _ (lw_in 5 135 rfl))
    · exact va_Nw.of rfl (hts _ (lw_in 5 136 rfl))
    · exact va_Nw.of rfl (hts _ (lw_in 5 137 rfl))
    · exact va_Nw.of rfl (hts _ (lw_in 5 138 rfl))
    · exact va_Nw.of rfl (hts _ (lw_in 5 139 rfl))
    · exact va_Nw.of rfl (hts _ (lw_in 5 140 rfl))
  · exact va_AO.of (hts _ (lw_in 2 29 rfl))
