def B0 (d : Nat) (M : mm_M) (av : List Value) (h : mm_H) (Q : mm_Q0) : Prop := ∀ n, Body d 0 0 M av n h (fun r n' h' => n' = n ∧ Q r h')
def G0 (d : Nat) (M : mm_M) (Q : mm_Q0) (pc : Nat) (lv st : List Value) (h : mm_H) : Prop := ∀ n, G d 0 0 M 0 0 (fun r n' h' => n' = n ∧ Q r h') pc lv st n h
/-- the words of what lies outside -/
def mm_okX : Prop := (∀ q ∈ mm_gsl, ∃ e, mm_xa[q.2.2]? = some e ∧ Cond.fieldLink q.1 q.2.1 "BeatenAfternoon$EstateReader" e.1 "[I" ∈ mm_gw) ∧ Cond.fieldLink "java/lang/String" 9 "java/lang/String" "value" "[B" ∈ mm_gw ∧ Cond.fieldLink "java/lang/String" 15 "java/lang/String" "coder" "B" ∈ mm_gw ∧ Cond.fieldLink "java/lang/String" 38 "java/lang/String" "COMPACT_STRINGS" "Z" ∈ mm_gw ∧ (∀ q ∈ mm_acl, mm_acw q.1 q.2)
def mm_okT (tab : Nat → Option (mm_M × Nat × Nat × Nat)) (tb : mm_T) : Prop :=
  (∀ q ∈ tb.2.1, ∃ c, mm_cl[q.2.1]? = some c ∧ mm_okc c ∧ q.2.2.1 < c.2.2 ∧ q.2.2.1 < 100 ∧ (c.2.1 q.2.2.1).2.2.2 = q.2.2.2 ∧ Cond.fieldLink tb.1 q.1 c.1 (c.2.1 q.2.2.1).2.1 (c.2.1 q.2.2.1).2.2.1 ∈ mm_gw) ∧
  (∀ q ∈ tb.2.2.1, ∃ M' kind k ci, tab q.2 = some (M', kind, k, ci) ∧ mm_okM M' k ∧ mm_lnk tb.1 q.1 M' ∧
    (kind = 0 → Cond.instanceMethod M'.1 ∈ mm_gw ∧ Cond.selects M'.1.cls M'.1 M'.1 ∈ mm_gw ∧ ∃ c, mm_cl[ci]? = some c ∧ c.1 = M'.1.cls) ∧ (kind = 1 → Cond.static M'.1 ∈ mm_gw) ∧ (kind = 5 → Cond.instanceMethod M'.1 ∈ mm_gw ∧ Cond.selects M'.1.cls M'.1 M'.1 ∈ mm_gw ∧ M'.1.cls = "java/lang/String") ∧
    (kind = 2 → Cond.methodLink tb.1 q.1 Lib.Math.max.name ∈ mm_gw ∧ Cond.static Lib.Math.max.name ∈ mm_gw ∧ Cond.initialized "java/lang/Math" ∈ mm_gw ∧ Cond.code Lib.Math.max.name Lib.Math.max.code 2 (some .int) ∈ mm_gw) ∧
    (kind = 3 → Cond.methodLink tb.1 q.1 Lib.Math.min.name ∈ mm_gw ∧ Cond.static Lib.Math.min.name ∈ mm_gw ∧ Cond.initialized "java/lang/Math" ∈ mm_gw ∧ Cond.code Lib.Math.min.name Lib.Math.min.code 2 (some .int) ∈ mm_gw) ∧
    (kind = 4 → Cond.methodLink tb.1 q.1 Lib.Math.abs.name ∈ mm_gw ∧ Cond.static Lib.Math.abs.name ∈ mm_gw ∧ Cond.initialized "java/lang/Math" ∈ mm_gw ∧ Cond.code Lib.Math.abs.name Lib.Math.abs.code 1 (some .int) ∈ mm_gw)) ∧
  (∀ q ∈ tb.2.2.2.1, Cond.constant tb.1 q.1 q.2 ∈ mm_gw) ∧ (∀ q ∈ tb.2.2.2.2, Cond.constantLong tb.1 q.1 q.2 ∈ mm_gw) ∧ mm_okX
section SO
variable {d : Nat} {M : mm_M} {Q : mm_Q0} {pc : Nat} {lv st : List Value} {h : mm_H}
theorem mm_find {α : Type} {l : List (Nat × α)} {j : Nat} {v : α} (hf : (l.find? (fun q => q.1 == j)).map (fun q => q.2) = some v) : (j, v) ∈ l := by
  cases hq : l.find? (fun q => q.1 == j) with
  | none => rw [hq] at hf; cases hf
  | some q =>
    rw [hq] at hf
    have h1 := List.find?_some hq
    have h2 := List.mem_of_find?_eq_some hq
    obtain ⟨a, b⟩ := q
    simp only [beq_iff_eq] at h1
    cases hf
    subst h1
    exact h2
theorem mm_pop_eq : ∀ (k : Nat) (acc st As st' : List Value), mm_pop k acc st = some (As, st') → ∃ Bs, As = Bs ++ acc ∧ st = Bs.reverse ++ st' ∧ Bs.length = k
  | 0, acc, st, As, st', h => by cases h; exact ⟨[], rfl, rfl, rfl⟩
  | k + 1, acc, [], As, st', h => by cases h
  | k + 1, acc, v :: st, As, st', h => by
    obtain ⟨Bs, h1, h2, h3⟩ := mm_pop_eq k (v :: acc) st As st' h
    exact ⟨Bs ++ [v], by rw [h1]; simp, by rw [h2]; simp, by simp [h3]⟩
theorem mm_tgI {t : Int} (ht : 0 ≤ (pc : Int) + t) : mm_tg pc t = ((pc : Int) + t).toNat := rfl
theorem s0_callX {M' : mm_M} {j r v : Nat} {As : List Value} (hm : mm_okM M' As.length) (hlk : mm_lnk M.1.cls j M') (hin : Cond.instanceMethod M'.1 ∈ mm_gw) (hse : Cond.selects M'.1.cls M'.1 M'.1 ∈ mm_gw) (hr : mm_ext r = some (.inr v)) (hqc : M'.1.cls = "java/lang/String") (hcat : (st.map fun v => v.category).sum ≤ 8) (hd : decode M.2.1 pc = .ok (.invokevirtual j, 3))
    (hB : B0 d M' (.ref r :: As) h (fun v h' => G0 (d + 1) M Q (pc + 3) lv (v.toList ++ st) h')) : G0 (d + 1) M Q pc lv (As.reverse ++ .ref r :: st) h := by
  intro n
  refine sn_callX (mc' := 0) (ms' := 0) hm hlk hin hse hr hqc hcat hd (Nat.le_refl _) (Nat.le_refl _) (hB n) ?_
  intro v n' h' z
  obtain ⟨rfl, hG⟩ := z
  refine ⟨fun ad ad' had => ?_, hG n'⟩
  have e : ad' = ad := funext fun k => had k (by omega)
  rw [e]; exact ⟨rfl, rfl⟩
theorem mm_find2 {α : Type} {l : List (String × Nat × α)} {own : String} {j : Nat} {v : String × Nat × α} (hf : l.find? (fun q => q.1 == own && q.2.1 == j) = some v) : v ∈ l ∧ v.1 = own ∧ v.2.1 = j := by
  have h1 := List.find?_some hf
  simp only [Bool.and_eq_true, beq_iff_eq] at h1
  exact ⟨List.mem_of_find?_eq_some hf, h1.1, h1.2⟩
theorem mm_find3 {l : List (String × Nat)} {own : String} {j : Nat} {v : String × Nat} (hf : l.find? (fun q => q.1 == own && q.2 == j) = some v) : v ∈ l ∧ v.1 = own ∧ v.2 = j := by
  have h1 := List.find?_some hf
  simp only [Bool.and_eq_true, beq_iff_eq] at h1
  exact ⟨List.mem_of_find?_eq_some hf, h1.1, h1.2⟩
/-- a call that makes nothing, behind it -/
theorem s0_callV {M' : mm_M} {j r ci : Nat} {q : vw_C} {As fs : List Value} (hm : mm_okM M' As.length) (hlk : mm_lnk M.1.cls j M') (hin : Cond.instanceMethod M'.1 ∈ mm_gw) (hse : Cond.selects M'.1.cls M'.1 M'.1 ∈ mm_gw) (hr : h r = some (.inr (ci, fs))) (hq : mm_cl[ci]? = some q) (hqc : q.1 = M'.1.cls) (hcat : (st.map fun v => v.category).sum ≤ 8) (hd : decode M.2.1 pc = .ok (.invokevirtual j, 3))
    (hB : B0 d M' (.ref r :: As) h (fun v h' => G0 (d + 1) M Q (pc + 3) lv (v.toList ++ st) h')) : G0 (d + 1) M Q pc lv (As.reverse ++ .ref r :: st) h := by
  intro n
  refine sn_callV (mc' := 0) (ms' := 0) hm hlk hin hse hr hq hqc hcat hd (Nat.le_refl _) (Nat.le_refl _) (hB n) ?_
  intro v n' h' z
  obtain ⟨rfl, hG⟩ := z
  refine ⟨fun ad ad' had => ?_, hG n'⟩
  have e : ad' = ad := funext fun k => had k (by omega)
  rw [e]; exact ⟨rfl, rfl⟩
theorem s0_callS {M' : mm_M} {j : Nat} {As : List Value} (hm : mm_okM M' As.length) (hlk : mm_lnk M.1.cls j M') (hst : Cond.static M'.1 ∈ mm_gw) (hcat : (st.map fun v => v.category).sum ≤ 8) (hd : decode M.2.1 pc = .ok (.invokestatic j, 3))
    (hB : B0 d M' As h (fun v h' => G0 (d + 1) M Q (pc + 3) lv (v.toList ++ st) h')) : G0 (d + 1) M Q pc lv (As.reverse ++ st) h := by
  intro n
  refine sn_callS (mc' := 0) (ms' := 0) hm hlk hst hcat hd (Nat.le_refl _) (Nat.le_refl _) (hB n) ?_
  intro v n' h' z
  obtain ⟨rfl, hG⟩ := z
  refine ⟨fun ad ad' had => ?_, hG n'⟩
  have e : ad' = ad := funext fun k => had k (by omega)
  rw [e]; exact ⟨rfl, rfl⟩
theorem s0_max {own : String} {j : Nat} {x y : Int32} (ho : M.1.cls = own) (h1 : Cond.methodLink own j Lib.Math.max.name ∈ mm_gw) (h2 : Cond.static Lib.Math.max.name ∈ mm_gw) (h3 : Cond.initialized "java/lang/Math" ∈ mm_gw) (h4 : Cond.code Lib.Math.max.name Lib.Math.max.code 2 (some .int) ∈ mm_gw) (hcat : (st.map fun v => v.category).sum ≤ 8) (hd : decode M.2.1 pc = .ok (.invokestatic j, 3)) (k : G0 (d + 1) M Q (pc + 3) lv (.int (if x < y then y else x) :: st) h) : G0 (d + 1) M Q pc lv (.int y :: .int x :: st) h := by
  intro n l D p e s m args below meth c H locs ls ad ad0 ac A n0 hA hS hAA hSim hlv hn0 had hcl hsl
  subst ho
  have tt : ∀ w, w ∈ mm_gw → w.before args s = true := fun w hw => hA.2.2.2.2.2.1 w (List.mem_cons_of_mem _ hw)
  have hc := mm_cats ad hcat
  exact va_mmax hA.1 hA.2.1 (hA.2.2.2.1.trans hlv.1.symm) hA.2.2.2.2.1 (tt _ h1) (tt _ h2) (tt _ h3) (tt _ h4) (by show 1 ≤ d + 1 + 1; omega) (by show _ ≤ 40 * (d + 1 + 1); omega) (Nat.le_refl 0) (Nat.le_refl 0) hd (k n l D p e s m args below meth c H locs ls ad ad0 ac A n0 hA hS hAA hSim hlv hn0 had hcl hsl)
theorem s0_min {own : String} {j : Nat} {x y : Int32} (ho : M.1.cls = own) (h1 : Cond.methodLink own j Lib.Math.min.name ∈ mm_gw) (h2 : Cond.static Lib.Math.min.name ∈ mm_gw) (h3 : Cond.initialized "java/lang/Math" ∈ mm_gw) (h4 : Cond.code Lib.Math.min.name Lib.Math.min.code 2 (some .int) ∈ mm_gw) (hcat : (st.map fun v => v.category).sum ≤ 8) (hd : decode M.2.1 pc = .ok (.invokestatic j, 3)) (k : G0 (d + 1) M Q (pc + 3) lv (.int (if y < x then y else x) :: st) h) : G0 (d + 1) M Q pc lv (.int y :: .int x :: st) h := by
  intro n l D p e s m args below meth c H locs ls ad ad0 ac A n0 hA hS hAA hSim hlv hn0 had hcl hsl
  subst ho
  have tt : ∀ w, w ∈ mm_gw → w.before args s = true := fun w hw => hA.2.2.2.2.2.1 w (List.mem_cons_of_mem _ hw)
  have hc := mm_cats ad hcat
  exact va_mmin hA.1 hA.2.1 (hA.2.2.2.1.trans hlv.1.symm) hA.2.2.2.2.1 (tt _ h1) (tt _ h2) (tt _ h3) (tt _ h4) (by show 1 ≤ d + 1 + 1; omega) (by show _ ≤ 40 * (d + 1 + 1); omega) (Nat.le_refl 0) (Nat.le_refl 0) hd (k n l D p e s m args below meth c H locs ls ad ad0 ac A n0 hA hS hAA hSim hlv hn0 had hcl hsl)
theorem s0_abs {own : String} {j : Nat} {x : Int32} (ho : M.1.cls = own) (h1 : Cond.methodLink own j Lib.Math.abs.name ∈ mm_gw) (h2 : Cond.static Lib.Math.abs.name ∈ mm_gw) (h3 : Cond.initialized "java/lang/Math" ∈ mm_gw) (h4 : Cond.code Lib.Math.abs.name Lib.Math.abs.code 1 (some .int) ∈ mm_gw) (hcat : (st.map fun v => v.category).sum ≤ 8) (hd : decode M.2.1 pc = .ok (.invokestatic j, 3)) (k : G0 (d + 1) M Q (pc + 3) lv (.int (if 0 ≤ x then x else 0 - x) :: st) h) : G0 (d + 1) M Q pc lv (.int x :: st) h := by
  intro n l D p e s m args below meth c H locs ls ad ad0 ac A n0 hA hS hAA hSim hlv hn0 had hcl hsl
  subst ho
  have tt : ∀ w, w ∈ mm_gw → w.before args s = true := fun w hw => hA.2.2.2.2.2.1 w (List.mem_cons_of_mem _ hw)
  have hc := mm_cats ad hcat
  exact va_mabs hA.1 hA.2.1 (hA.2.2.2.1.trans hlv.1.symm) hA.2.2.2.2.1 (tt _ h1) (tt _ h2) (tt _ h3) (tt _ h4) (by show 1 ≤ d + 1 + 1; omega) (by show _ ≤ 40 * (d + 1 + 1); omega) (Nat.le_refl 0) (Nat.le_refl 0) hd (k n l D p e s m args below meth c H locs ls ad ad0 ac A n0 hA hS hAA hSim hlv hn0 had hcl hsl)
theorem mm_tsw_get {K : Nat → Prop} {x : Int32} {dflt : Int} : ∀ (os : List Int) (lo : Int), mm_tsw K x dflt lo os → ((x.toInt < lo ∨ lo + os.length ≤ x.toInt) → K dflt.toNat) ∧ ∀ (k : Nat) (o : Int), os[k]? = some o → x.toInt = lo + k → K o.toNat
  | [], lo, h => ⟨fun _ => h, fun k o hk => by simp at hk⟩
  | a :: os, lo, h => by
    obtain ⟨h1, h2⟩ := h
    refine ⟨fun hx => ?_, fun k o hk hx => ?_⟩
    · have hne : ¬ x.toInt = lo := by
        rcases hx with z | z
        · omega
        · simp only [List.length_cons] at z; omega
      refine (mm_tsw_get os (lo + 1) (h2 hne)).1 ?_
      rcases hx with z | z
      · exact Or.inl (by omega)
      · simp only [List.length_cons] at z; exact Or.inr (by omega)
    · cases k with
      | zero => simp at hk; subst hk; exact h1 (by simpa using hx)
      | succ k =>
        have hne : ¬ x.toInt = lo := by omega
        exact (mm_tsw_get os (lo + 1) (h2 hne)).2 k o (by simpa using hk) (by rw [hx]; push_cast; omega)
theorem mm_lsw_get {K : Nat → Prop} {x : Int32} {dflt : Int} {pc : Int} : ∀ (ps : List (Int × Int)), mm_lsw K x (pc + dflt) (ps.map (fun o => (o.1, pc + o.2))) → K (pc + Op.lookupswitch.offset ps dflt x.toInt).toNat
  | [], h => h
  | (j, o) :: ps, h => by
    obtain ⟨h1, h2⟩ := h
    by_cases hj : x.toInt = j
    · have e : Op.lookupswitch.offset ((j, o) :: ps) dflt x.toInt = o := by simp [Op.lookupswitch.offset, hj]
      rw [e]; exact h1 hj
    · have e : Op.lookupswitch.offset ((j, o) :: ps) dflt x.toInt = Op.lookupswitch.offset ps dflt x.toInt := by simp [Op.lookupswitch.offset, hj, Ne.symm hj, show ¬ j = x.toInt from fun z => hj z.symm]
      rw [e]; exact mm_lsw_get ps (h2 hj)
end SO
