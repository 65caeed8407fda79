/-! THE LAW'S INVARIANT: the class beside the reference -/
theorem LwR_tok {μ : mm_mu} {n : Nat} {cs : List (List Tk × List Tk)} (h : LwR μ n cs) {l1 k l2 : List Tk} (hf : flat cs = l1 ++ (k ++ l2)) : mtoks μ n l1.length (l1.length + k.length) = k := by
  apply List.ext_getElem
  · simp [mtoks]
  · intro i h1 h2
    simp only [mtoks, List.getElem_map, List.getElem_range]
    have hlen : (flat cs).length = l1.length + (k.length + l2.length) := by rw [hf]; simp
    have := h.2.1 (l1.length + i) (by omega)
    rw [this, hf]
    have e : (l1 ++ (k ++ l2))[l1.length + i]? = some k[i] := by
      rw [List.getElem?_append_right (by omega), show l1.length + i - l1.length = i by omega, List.getElem?_append_left h2]
      simp [h2]
    simp [List.getD, e]
theorem flat_split {cs : List (List Tk × List Tk)} {j : Nat} (hj : j < cs.length) : flat cs = flat (cs.take j) ++ ((cs[j].1 ++ cs[j].2) ++ flat (cs.drop (j + 1))) := by
  have e : cs = cs.take j ++ (cs[j] :: cs.drop (j + 1)) := by
    rw [← List.drop_eq_getElem_cons hj, List.take_append_drop]
  have e2 : flat (cs.take j ++ (cs[j] :: cs.drop (j + 1))) = flat (cs.take j) ++ ((cs[j].1 ++ cs[j].2) ++ flat (cs.drop (j + 1))) := by simp only [flat, List.flatMap_append, List.flatMap_cons]
  exact (congrArg flat e).trans e2
theorem LwR_cl {μ : mm_mu} {n : Nat} {cs : List (List Tk × List Tk)} (h : LwR μ n cs) {j : Nat} (hj : j < cs.length) : ∃ p : Nat, μ 62 (140 * n + j) = nI p ∧ μ 63 (140 * n + j) = nI (p + cs[j].1.length) ∧ μ 64 (140 * n + j) = nI (p + cs[j].1.length + cs[j].2.length) ∧ mtoks μ n p (p + cs[j].1.length) = cs[j].1 ∧ mtoks μ n (p + cs[j].1.length) (p + cs[j].1.length + cs[j].2.length) = cs[j].2 ∧ p + cs[j].1.length + cs[j].2.length ≤ (flat cs).length := by
  have hs := flat_split hj
  obtain ⟨h62, h63, h64⟩ := h.2.2.2 j hj
  have hd : cs.getD j ([], []) = cs[j] := by simp [hj]
  rw [hd] at h63
  have ht : (flat (cs.take (j + 1))).length = (flat (cs.take j)).length + cs[j].1.length + cs[j].2.length := by
    rw [List.take_succ, List.getElem?_eq_getElem hj, Option.toList_some, flat_app]
    simp only [List.length_append]; omega
  refine ⟨(flat (cs.take j)).length, h62, h63, by rw [h64, ht], ?_, ?_, ?_⟩
  · exact LwR_tok h (by rw [hs, List.append_assoc])
  · have := LwR_tok h (l1 := flat (cs.take j) ++ cs[j].1) (k := cs[j].2) (l2 := flat (cs.drop (j + 1))) (by rw [hs]; simp)
    rw [List.length_append] at this
    exact this
  · rw [hs]; simp only [List.length_append]; omega
theorem mworth_is {μ : mm_mu} {n : Nat} {cs : List (List Tk × List Tk)} {L : Nat → Int32} (h : LwR μ n cs) (hfl : (flat cs).length ≤ 240) : ∀ (k j : Nat), j + k = cs.length → mworth μ n L k j = pworth (cs.drop j) L
  | 0, j, hk => by rw [mworth, List.drop_eq_nil_of_le (by omega), pworth]
  | k + 1, j, hk => by
    have hj : j < cs.length := by omega
    obtain ⟨p, h62, h63, h64, ht, hs, hle⟩ := LwR_cl h hj
    rw [mworth, h62, h63, h64, clp (a := p) rfl (by omega), clp (a := p + cs[j].1.length) rfl (by omega), clp (a := p + cs[j].1.length + cs[j].2.length) rfl (by omega), ht, hs, mworth_is h hfl k (j + 1) (by omega), List.drop_eq_getElem_cons hj]
    have e : (nI p = nI (p + cs[j].1.length)) = (cs[j].1 = []) := by
      rw [propext (nI_eq (a := p) (b := p + cs[j].1.length) (by omega) (by omega))]
      refine propext ⟨fun z => List.length_eq_zero_iff.mp (by omega), fun z => by rw [z]; simp⟩
    simp only [e]
    rfl
theorem mWorth_is {μ : mm_mu} {n : Nat} {cs : List (List Tk × List Tk)} (h : LwR μ n cs) (hfl : (flat cs).length ≤ 240) (hcl : cs.length ≤ 140) : mWorth μ n = pworth cs := by
  funext L
  rw [mWorth, h.2.2.1, clp (a := cs.length) rfl (by omega), mworth_is h hfl cs.length 0 (by omega), List.drop_zero]
theorem okLaw_is {μ : mm_mu} {n : Nat} {cs : List (List Tk × List Tk)} (h : LwR μ n cs) (hok : okCs cs) (hfl : (flat cs).length ≤ 240) (hcl : cs.length ≤ 140) : okLaw μ n := by
  refine ⟨cs.length, h.2.2.1, hcl, fun j hj => ?_⟩
  obtain ⟨p, h62, h63, h64, ht, hs, hle⟩ := LwR_cl h hj
  obtain ⟨o1, o2, _, _⟩ := hok cs[j] (List.getElem_mem hj)
  refine ⟨p, _, _, h62, h63, h64, by omega, by omega, by omega, ?_, ?_⟩
  · rw [ht]
    rcases o1 with o1 | o1
    · left; rw [o1]; simp
    · right; exact o1
  · rw [hs]; exact o2
/-- the log of a row of the reference, by the day, in the ring of the class -/
def LGd (m ring : Nat → Int32) (D : Nat) : Prop := D ≤ 999 ∧ m 20 = nI D ∧ m 21 = nI (min D 60) ∧ ∀ i c, i < min D 60 → c < 3 → m (22 + 3 * (min D 60 - 1 - i) + c) = upk (ring ((D - 1 - i) % 100)) (nI c)
def BD (gn : Nat) (m : Nat → Int32) : Prop := ∀ g, g < gn → (0 ≤ m g ∧ m g ≤ 9) ∧ (0 ≤ m (5 + g) ∧ m (5 + g) ≤ 9) ∧ (0 ≤ m (10 + g) ∧ m (10 + g) ≤ 9999)
/-- a season of the class, in its kept order, beside a row of the reference -/
def RW (gn : Nat) (c m ring : Nat → Int32) (D : Nat) : Prop := (∀ g, g < gn → c (6 + g) = m g ∧ c (11 + g) = m (5 + g) ∧ c (16 + g) = m (10 + g)) ∧ (0 < gn → c 0 = m 15 ∧ c 2 = m 16 ∧ c 3 = m 17) ∧ (c 4 = m 18 ∧ c 1 = m 19 ∧ c 5 = m 20) ∧ (∀ g, gn ≤ g → g < 5 → c (16 + g) = 0) ∧ BD gn m ∧ LGd m ring D
/-- the estate -/
def JE (μ : mm_mu) (tn gn : Nat) : Prop := tn ≤ 7 ∧ gn ≤ 5 ∧ (0 < tn → 0 < gn) ∧ μ 18 0 = nI tn ∧ μ 18 1 = nI gn ∧ μ 56 24 = nI tn ∧ μ 56 25 = nI gn ∧ ∀ t, t < tn → (μ 19 t = μ 71 (5 * t) ∧ μ 20 t = μ 71 (5 * t + 1) ∧ μ 21 t = μ 71 (5 * t + 2) ∧ μ 22 t = μ 71 (5 * t + 3) ∧ μ 23 t = μ 71 (5 * t + 4)) ∧ (0 ≤ μ 22 t ∧ μ 22 t ≤ 9)
/-- the season, what was, the log -/
def JA (μ : mm_mu) (gn a p : Nat) (dy : Nat → Nat) : Prop := RW gn (csv μ 24) (μ 72) (μ 42) (dy a) ∧ PA μ p a ∧ μ 56 39 = nI a ∧ (∀ j, j < a → RW gn (fun i => μ 41 (21 * ((p + 40 - a + j) % 40) + i)) (mrow μ j) (μ 42) (dy j)) ∧ ∀ j, j < a → dy j ≤ dy (j + 1) ∧ dy (j + 1) ≤ dy j + 1
def JI (μ : mm_mu) (gn : Nat) : Prop := (μ 40 4 = 0 ∧ μ 56 51 = 0) ∨ (μ 40 4 = 1 ∧ μ 56 51 = 1 ∧ ∃ D, RW gn (μ 43) (μ 85) (μ 44) D)
/-- the laws -/
def JL (ε : mm_X) (μ : mm_mu) (ln : Nat) : Prop := ln ≤ 4 ∧ (ε.2.2.2.1 = ln ∧ ∀ i, ln ≤ i → ε.2.2.1 i = none) ∧ μ 0 5 = nI ln ∧ μ 56 13 = nI ln ∧ (∀ n, n < ln → ε.2.2.1 n = some (87 + 3 * n) ∧ ∃ cs, CC ε μ n cs ∧ LwR μ n cs ∧ (flat cs).length ≤ 240 ∧ cs.length ≤ 140) ∧ μ 0 6 = μ 56 28 ∧ ((μ 56 28 = -1 ∧ ε.2.1 = none) ∨ ∃ n, n < ln ∧ μ 56 28 = nI n ∧ ε.2.1 = some (87 + 3 * n))
/-- the tape -/
def JT (μ : mm_mu) (sz : Nat) : Prop := μ 1 1 = nI sz ∧ μ 56 2 = nI sz ∧ sz ≤ 240 ∧ ∀ i, i < sz → μ 2 i = μ 57 i ∧ ∃ c, 0 < c ∧ c < 256 ∧ μ 57 i = nI c
def JS (μ : mm_mu) (m : Nat) : Prop := m ≤ 10 ∧ μ 45 0 = nI m ∧ μ 56 49 = nI m ∧ ∀ k, k < m → μ 46 k = μ 81 k ∧ μ 47 k = μ 82 k ∧ μ 48 k = μ 83 k ∧ μ 49 k = μ 84 k
def JM (μ : mm_mu) : Prop := μ 0 7 = μ 56 29 ∧ (∀ k, k < 5 → μ 39 k = μ 73 k) ∧ (∀ g, g < 5 → μ 13 g = 0) ∧ μ 10 5 = 0
def JX (ε : mm_X) (μ : mm_mu) (tn gn a p : Nat) (dy : Nat → Nat) (ln sz m : Nat) : Prop := JE μ tn gn ∧ JA μ gn a p dy ∧ JI μ gn ∧ JL ε μ ln ∧ JT μ sz ∧ JS μ m ∧ JM μ
def J (ε : mm_X) (μ : mm_mu) : Prop := ∃ tn gn a p dy ln sz m, JX ε μ tn gn a p dy ln sz m
section JJ
variable {ε : mm_X} {μ μ' : mm_mu} {tn gn a p ln sz m n : Nat} {dy : Nat → Nat}
theorem JE.of (h : JE μ tn gn) (e18 : μ' 18 = μ 18) (e19 : μ' 19 = μ 19) (e20 : μ' 20 = μ 20) (e21 : μ' 21 = μ 21) (e22 : μ' 22 = μ 22) (e23 : μ' 23 = μ 23) (e71 : μ' 71 = μ 71) (f24 : μ' 56 24 = μ 56 24) (f25 : μ' 56 25 = μ 56 25) : JE μ' tn gn := by
  unfold JE at *
  rw [e18, e19, e20, e21, e22, e23, e71, f24, f25]; exact h
theorem csv_of {s : Nat} (e0 : μ' s = μ s) (e1 : μ' (s + 1) = μ (s + 1)) (e2 : μ' (s + 2) = μ (s + 2)) (e3 : μ' (s + 3) = μ (s + 3)) : csv μ' s = csv μ s := by
  funext j; unfold csv; rw [e0, e1, e2, e3]
theorem JA.of (h : JA μ gn a p dy) (e24 : μ' 24 = μ 24) (e25 : μ' 25 = μ 25) (e26 : μ' 26 = μ 26) (e27 : μ' 27 = μ 27) (e72 : μ' 72 = μ 72) (e40 : μ' 40 = μ 40) (e41 : μ' 41 = μ 41) (e42 : μ' 42 = μ 42) (e78 : μ' 78 = μ 78) (f39 : μ' 56 39 = μ 56 39) : JA μ' gn a p dy := by
  unfold JA PA mrow at *
  rw [csv_of (s := 24) e24 e25 e26 e27, e72, e40, e41, e42, e78, f39]; exact h
theorem JI.of (h : JI μ gn) (e40 : μ' 40 = μ 40) (e43 : μ' 43 = μ 43) (e44 : μ' 44 = μ 44) (e85 : μ' 85 = μ 85) (f51 : μ' 56 51 = μ 56 51) : JI μ' gn := by
  unfold JI at *
  rw [e40, e43, e44, e85, f51]; exact h
theorem LwR.of {cs : List (List Tk × List Tk)} (h : LwR μ n cs) (e58 : μ' 58 = μ 58) (e59 : μ' 59 = μ 59) (e60 : μ' 60 = μ 60) (e61 : μ' 61 = μ 61) (e62 : μ' 62 = μ 62) (e63 : μ' 63 = μ 63) (e64 : μ' 64 = μ 64) : LwR μ' n cs := by
  unfold LwR at *
  rw [e58, e59, e60, e61, e62, e63, e64]; exact h
theorem JL.of (h : JL ε μ ln) (e0 : μ' 0 = μ 0) (e58 : μ' 58 = μ 58) (e59 : μ' 59 = μ 59) (e60 : μ' 60 = μ 60) (e61 : μ' 61 = μ 61) (e62 : μ' 62 = μ 62) (e63 : μ' 63 = μ 63) (e64 : μ' 64 = μ 64) (ec : ∀ n, n < 4 → μ' (88 + 3 * n) = μ (88 + 3 * n)) (f13 : μ' 56 13 = μ 56 13) (f28 : μ' 56 28 = μ 56 28) : JL ε μ' ln := by
  unfold JL at *
  rw [e0, f13, f28]
  obtain ⟨h1, h2, h3, h4, h5, h6⟩ := h
  refine ⟨h1, h2, h3, h4, fun n hn => ?_, h6⟩
  obtain ⟨q1, cs, q2, q3, q4⟩ := h5 n hn
  exact ⟨q1, cs, ⟨q2.1, q2.2.1, by rw [ec n (by omega)]; exact q2.2.2.1, q2.2.2.2⟩, q3.of e58 e59 e60 e61 e62 e63 e64, q4⟩
theorem JT.of (h : JT μ sz) (f1 : μ' 1 1 = μ 1 1) (e2 : μ' 2 = μ 2) (e57 : μ' 57 = μ 57) (f2 : μ' 56 2 = μ 56 2) : JT μ' sz := by
  unfold JT at *
  rw [f1, e2, e57, f2]; exact h
theorem JS.of (h : JS μ m) (e45 : μ' 45 = μ 45) (e46 : μ' 46 = μ 46) (e47 : μ' 47 = μ 47) (e48 : μ' 48 = μ 48) (e49 : μ' 49 = μ 49) (e81 : μ' 81 = μ 81) (e82 : μ' 82 = μ 82) (e83 : μ' 83 = μ 83) (e84 : μ' 84 = μ 84) (f49 : μ' 56 49 = μ 56 49) : JS μ' m := by
  unfold JS at *
  rw [e45, e46, e47, e48, e49, e81, e82, e83, e84, f49]; exact h
theorem JM.of (h : JM μ) (e0 : μ' 0 = μ 0) (e39 : μ' 39 = μ 39) (e73 : μ' 73 = μ 73) (e13 : μ' 13 = μ 13) (f10 : μ' 10 5 = μ 10 5) (f29 : μ' 56 29 = μ 56 29) : JM μ' := by
  unfold JM at *
  rw [e0, e39, e73, e13, f10, f29]; exact h
/-- cells on which the invariant rests -/
def jd : List Nat := [0, 1, 2, 10, 13, 18, 19, 20, 21, 22, 23, 24, 25, 26, 27, 39, 40, 41, 42, 43, 44, 45, 46, 47, 48, 49, 56, 57, 58, 59, 60, 61, 62, 63, 64, 71, 72, 73, 78, 81, 82, 83, 84, 85, 88, 91, 94, 97]
def jf : List Nat := [2, 13, 24, 25, 28, 29, 39, 49, 51]
theorem JX.off {l fl : List Nat} (h : JX ε μ tn gn a p dy ln sz m) (ho : OffF l fl μ μ') (hl : jd.all (fun c => c == 56 || !l.contains c) = true) (hf : jf.all (fun c => !fl.contains c) = true) : JX ε μ' tn gn a p dy ln sz m := by
  have c : ∀ k, k ∈ jd → k ≠ 56 → μ' k = μ k := fun k hk h56 => by
    refine ho.at ?_ h56
    intro hm
    have := List.all_eq_true.mp hl k hk
    simp [h56, hm] at this
  have f : ∀ k, k ∈ jf → μ' 56 k = μ 56 k := fun k hk => by
    refine ho.2 k ?_
    intro hm
    have := List.all_eq_true.mp hf k hk
    simp [hm] at this
  obtain ⟨h1, h2, h3, h4, h5, h6, h7⟩ := h
  have ec : ∀ n, n < 4 → μ' (88 + 3 * n) = μ (88 + 3 * n) := fun n hn => by
    rcases (show n = 0 ∨ n = 1 ∨ n = 2 ∨ n = 3 by omega) with rfl | rfl | rfl | rfl <;> exact c _ (by decide) (by decide)
  exact ⟨h1.of (c 18 (by decide) (by decide)) (c 19 (by decide) (by decide)) (c 20 (by decide) (by decide)) (c 21 (by decide) (by decide)) (c 22 (by decide) (by decide)) (c 23 (by decide) (by decide)) (c 71 (by decide) (by decide)) (f 24 (by decide)) (f 25 (by decide)),
    h2.of (c 24 (by decide) (by decide)) (c 25 (by decide) (by decide)) (c 26 (by decide) (by decide)) (c 27 (by decide) (by decide)) (c 72 (by decide) (by decide)) (c 40 (by decide) (by decide)) (c 41 (by decide) (by decide)) (c 42 (by decide) (by decide)) (c 78 (by decide) (by decide)) (f 39 (by decide)),
    h3.of (c 40 (by decide) (by decide)) (c 43 (by decide) (by decide)) (c 44 (by decide) (by decide)) (c 85 (by decide) (by decide)) (f 51 (by decide)),
    h4.of (c 0 (by decide) (by decide)) (c 58 (by decide) (by decide)) (c 59 (by decide) (by decide)) (c 60 (by decide) (by decide)) (c 61 (by decide) (by decide)) (c 62 (by decide) (by decide)) (c 63 (by decide) (by decide)) (c 64 (by decide) (by decide)) ec (f 13 (by decide)) (f 28 (by decide)),
    h5.of (by rw [c 1 (by decide) (by decide)]) (c 2 (by decide) (by decide)) (c 57 (by decide) (by decide)) (f 2 (by decide)),
    h6.of (c 45 (by decide) (by decide)) (c 46 (by decide) (by decide)) (c 47 (by decide) (by decide)) (c 48 (by decide) (by decide)) (c 49 (by decide) (by decide)) (c 81 (by decide) (by decide)) (c 82 (by decide) (by decide)) (c 83 (by decide) (by decide)) (c 84 (by decide) (by decide)) (f 49 (by decide)),
    h7.of (c 0 (by decide) (by decide)) (c 39 (by decide) (by decide)) (c 73 (by decide) (by decide)) (c 13 (by decide) (by decide)) (by rw [c 10 (by decide) (by decide)]) (f 29 (by decide))⟩
theorem J.off {l fl : List Nat} (h : J ε μ) (ho : OffF l fl μ μ') (hl : jd.all (fun c => c == 56 || !l.contains c) = true) (hf : jf.all (fun c => !fl.contains c) = true) : J ε μ' := by
  obtain ⟨tn, gn, a, p, dy, ln, sz, m, h⟩ := h
  exact ⟨tn, gn, a, p, dy, ln, sz, m, h.off ho hl hf⟩
theorem J.offC {l : List Nat} (h : J ε μ) (ho : Off l μ μ') (hl : jd.all (fun c => !l.contains c) = true) : J ε μ' := by
  refine h.off (l := l) (fl := []) (ho.F ?_) ?_ (by decide)
  · intro hm
    have := List.all_eq_true.mp hl 56 (by decide)
    simp [hm] at this
  · exact List.all_eq_true.mpr fun c hc => by
      have := List.all_eq_true.mp hl c hc
      simp only [this, Bool.or_true]
theorem JX.offC {l : List Nat} (h : JX ε μ tn gn a p dy ln sz m) (ho : Off l μ μ') (hl : jd.all (fun c => !l.contains c) = true) : JX ε μ' tn gn a p dy ln sz m := by
  refine h.off (l := l) (fl := []) (ho.F ?_) ?_ (by decide)
  · intro hm
    have := List.all_eq_true.mp hl 56 (by decide)
    simp [hm] at this
  · exact List.all_eq_true.mpr fun c hc => by
      have := List.all_eq_true.mp hl c hc
      simp only [this, Bool.or_true]
/-- the law that holds, on both sides -/
theorem JL.lw (h : JL ε μ ln) : okHold μ ∧ CH ε μ (mLaw μ) := by
  obtain ⟨h1, ⟨h2, -⟩, h3, h4, h5, h6, h7⟩ := h
  rcases h7 with ⟨h7, h8⟩ | ⟨n, hn, h7, h8⟩
  · exact ⟨Or.inl h7, Or.inl ⟨h8, by rw [mLaw, if_pos h7]⟩⟩
  · obtain ⟨q1, cs, q2, q3, q4, q5⟩ := h5 n hn
    have hne : ¬ μ 56 28 = -1 := by rw [h7]; exact nI_nm (by omega)
    refine ⟨Or.inr ⟨n, by omega, h7, okLaw_is q3 q2.2.2.2 q4 q5⟩, Or.inr ⟨n, cs, by omega, by omega, h8, q2, ?_⟩⟩
    rw [mLaw, if_neg hne, h7, clp (a := n) rfl (by omega), mWorth_is q3 q4 q5]
theorem rin_cong {q q' : Nat → Bool} : ∀ {n : Nat}, (∀ t, t < n → q t = q' t) → rin q n = rin q' n
  | 0, _ => rfl
  | n + 1, h => by rw [rin, rin, rin_cong (fun t ht => h t (by omega)), h n (by omega)]
theorem rout_cong {q q' : Nat → Nat → Bool} {tn : Nat} : ∀ {k : Nat}, (∀ t m, t < tn → q t m = q' t m) → rout q tn k = rout q' tn k
  | 0, _ => rfl
  | k + 1, h => by rw [rout, rout, rout_cong (k := k) h, rin_cong (fun t ht => h t k ht)]
theorem foldl_cong' {V V' : Nat → Int32} {tk tk' : (Nat → Int32) → Nat → Int32} : ∀ (l : List Nat) (S : DS), (∀ t ∈ l, V t = V' t ∧ ∀ many, tk many t = tk' many t) → l.foldl (dstep V tk) S = l.foldl (dstep V' tk') S
  | [], _, _ => rfl
  | t :: l, S, h => by
    rw [List.foldl_cons, List.foldl_cons]
    have h1 := h t List.mem_cons_self
    have e : dstep V tk S t = dstep V' tk' S t := by unfold dstep; rw [h1.1, h1.2]
    rw [e]
    exact foldl_cong' l _ (fun u hu => h u (List.mem_cons_of_mem _ hu))
theorem DRV_cong {lw : Option ((Nat → Int32) → Int32)} {th th' now now' : Nat → Int32} {tn gn : Nat} (h1 : ∀ t, t < tn → th (5 * t) = th' (5 * t) ∧ th (5 * t + 1) = th' (5 * t + 1) ∧ th (5 * t + 2) = th' (5 * t + 2) ∧ th (5 * t + 3) = th' (5 * t + 3) ∧ th (5 * t + 4) = th' (5 * t + 4)) (h2 : ∀ g, g < gn → now g = now' g ∧ now (5 + g) = now' (5 + g)) (h15 : now 15 = now' 15) (h16 : now 16 = now' 16) (h17 : now 17 = now' 17) (h18 : now 18 = now' 18) : DRV lw th now tn gn = DRV lw th' now' tn gn := by
  unfold DRV
  have e1 : rout (fun t m => decide (m < 10 ∧ rz (now 18) (now 16) (now 17) (fun t => th (5 * t)) (fun t => th (5 * t + 1)) t (nI m))) tn 10 = rout (fun t m => decide (m < 10 ∧ rz (now' 18) (now' 16) (now' 17) (fun t => th' (5 * t)) (fun t => th' (5 * t + 1)) t (nI m))) tn 10 := by
    refine rout_cong ?_
    intro t m ht
    simp only [rz, h16, h17, h18, (h1 t ht).1, (h1 t ht).2.1]
  rw [e1]
  refine foldl_cong' _ _ ?_
  intro t ht
  have ht := (rout_mem.mp ht).1
  obtain ⟨q0, q1, q2, q3, q4⟩ := h1 t ht
  refine ⟨q3, fun many => ?_⟩
  rw [q0, q1, q2, q3, q4, h15]
  split
  · rfl
  · congr 1
    exact tkr_cong (fun g hg => by rw [(h2 g hg).1, (h2 g hg).2])
theorem JE.th (h : JE μ tn gn) {t : Nat} (ht : t < tn) : cth μ (5 * t) = μ 71 (5 * t) ∧ cth μ (5 * t + 1) = μ 71 (5 * t + 1) ∧ cth μ (5 * t + 2) = μ 71 (5 * t + 2) ∧ cth μ (5 * t + 3) = μ 71 (5 * t + 3) ∧ cth μ (5 * t + 4) = μ 71 (5 * t + 4) := by
  rw [cth_0, cth_1, cth_2, cth_3, cth_4]; exact (h.2.2.2.2.2.2.2 t ht).1
theorem csv_lo {s j : Nat} (h : j < 6) : csv μ s j = μ s j := if_pos h
theorem csv_p {s g : Nat} (h : g < 5) : csv μ s (6 + g) = μ (s + 1) g := by rw [csv, if_neg (by omega), if_pos (by omega), show 6 + g - 6 = g by omega]
theorem csv_s {s g : Nat} (h : g < 5) : csv μ s (11 + g) = μ (s + 2) g := by rw [csv, if_neg (by omega), if_neg (by omega), if_pos (by omega), show 11 + g - 11 = g by omega]
theorem csv_b {s g : Nat} (h : g < 5) : csv μ s (16 + g) = μ (s + 3) g := by rw [csv, if_neg (by omega), if_neg (by omega), if_neg (by omega), show 16 + g - 16 = g by omega]
/-- a season beside a row: what a drive reads of them -/
def SB (gn : Nat) (μ : mm_mu) (s : Nat) (now : Nat → Int32) : Prop := (∀ g, g < gn → μ (s + 1) g = now g ∧ μ (s + 2) g = now (5 + g)) ∧ μ s 0 = now 15 ∧ μ s 2 = now 16 ∧ μ s 3 = now 17 ∧ μ s 4 = now 18
theorem DRV_SB {lw : Option ((Nat → Int32) → Int32)} {s : Nat} {now : Nat → Int32} (h : JE μ tn gn) (hb : SB gn μ s now) : DRV lw (cth μ) (cnow μ s) tn gn = DRV lw (μ 71) now tn gn := by
  have hg := h.2.1
  refine DRV_cong (fun t ht => h.th ht) (fun g hg2 => ?_) hb.2.1 hb.2.2.1 hb.2.2.2.1 hb.2.2.2.2
  rw [cnow_p (by omega), cnow_s (by omega)]
  exact hb.1 g hg2
theorem RW.sb {m ring : Nat → Int32} {D : Nat} (h : RW gn (csv μ 24) m ring D) (hg : 0 < gn) (hg5 : gn ≤ 5) : SB gn μ 24 m ∧ okS μ 24 gn := by
  obtain ⟨h1, h2, h3, h4, h5, h6⟩ := h
  have h2 := h2 hg
  rw [csv_lo (by decide), csv_lo (by decide), csv_lo (by decide)] at h2
  rw [csv_lo (by decide), csv_lo (by decide), csv_lo (by decide)] at h3
  have k : ∀ g, g < gn → μ (24 + 1) g = m g ∧ μ (24 + 2) g = m (5 + g) := fun g hg => by
    have := h1 g hg
    rw [csv_p (by omega), csv_s (by omega)] at this
    exact ⟨this.1, this.2.1⟩
  refine ⟨⟨k, h2.1, h2.2.1, h2.2.2, h3.1⟩, fun g hg => ?_⟩
  rw [(k g hg).1, (k g hg).2]
  exact ⟨(h5 g hg).1, (h5 g hg).2.1⟩
end JJ
