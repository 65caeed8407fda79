/-! NEW CELLS in the little machine -/
/-- the cell names no reference n -/
def mm_nor (n : Nat) (c : mm_C) : Prop := match c with
  | .inl a => (match a.2.2 with
    | .inr (.inr (.inr (.inr f))) => ∀ i, f i ≠ some n
    | _ => True)
  | .inr o => ∀ v ∈ o.2, v ≠ .ref n
theorem mm_t_up {ad : Nat → Nat} {n q : Nat} {v : Value} (h : v ≠ .ref n) : mm_t (va_up ad n q) v = mm_t ad v := by
  cases v with
  | ref k =>
    have : k ≠ n := fun z => h (by rw [z])
    simp [mm_t, va_up, this]
  | _ => rfl
theorem mm_tC_up {ad : Nat → Nat} {ac : Nat → ClassId} {n q k : Nat} {cA : ClassId} {c : mm_C} (h : mm_nor n c) (hk : k ≠ n) : mm_tC (va_up ad n q) (va_up ac n cA) k c = mm_tC ad ac k c := by
  cases c with
  | inl a =>
    obtain ⟨ty, l, x⟩ := a
    rcases x with f | f | f | f | f
    · simp [mm_tC, mm_tA, va_up, hk]
    · simp [mm_tC, mm_tA, va_up, hk]
    · simp [mm_tC, mm_tA, va_up, hk]
    · simp [mm_tC, mm_tA, va_up, hk]
    · have h' : ∀ i, f i ≠ some n := h
      have e : (fun i => (f i).map (va_up ad n q)) = fun i => (f i).map ad := by
        funext i
        cases hf : f i with
        | none => rfl
        | some r =>
          have : r ≠ n := fun z => h' i (by rw [hf, z])
          simp [va_up, this]
      simp only [mm_tC, mm_tA, e]
      simp [va_up, hk]
  | inr o =>
    have h' : ∀ v ∈ o.2, v ≠ .ref n := h
    simp only [mm_tC]
    congr 2
    exact List.map_congr_left (fun v hv => mm_t_up (h' v hv))
theorem mm_ws_push {ad : Nat → Nat} {ac : Nat → ClassId} {n q : Nat} {h : mm_H} {cA : ClassId} {c : mm_C} (hs : ∀ k, (h k).isSome = true ↔ k < n) (hno : ∀ k x, h k = some x → mm_nor n x) : mm_ws (va_up ad n q) (va_up ac n cA) (n + 1) (va_up h n (some c)) = mm_ws ad ac n h ++ [(q, mm_tC (va_up ad n q) (va_up ac n cA) n c)] := by
  unfold mm_ws
  rw [List.range_succ, List.map_append]
  congr 1
  · refine List.map_congr_left (fun k hk => ?_)
    have hkn : k < n := List.mem_range.mp hk
    have hne : k ≠ n := by omega
    obtain ⟨x, hx⟩ := Option.isSome_iff_exists.mp ((hs k).mpr hkn)
    rw [show va_up ad n q k = ad k by simp [va_up, hne], show va_up h n (some c) k = h k by simp [va_up, hne], hx]
    simp only [Option.getD_some]
    rw [mm_tC_up (hno k x hx) hne]
  · simp [va_up]
theorem mm_push {D : va_G} {ad : Nat → Nat} {ac : Nat → ClassId} {n : Nat} {h : mm_H} {A : Nat → Prop} {U : State} {H H1 : Heap} (S : mm_Sim D ad ac n h A U H) (hn : n < 1000) (hno : ∀ k x, h k = some x → mm_nor n x) {q : Nat} {cA : ClassId} {c : mm_C}
    (hP : va_P D mm_cl (mm_ws ad ac n h ++ [(q, mm_tC (va_up ad n q) (va_up ac n cA) n c)]) H1) (hD : va_D A (mm_ws ad ac n h ++ [(q, mm_tC (va_up ad n q) (va_up ac n cA) n c)])) (hty : ∀ a, c = .inl a → ArrOfT U cA a.1 ∧ va_RA U cA a.1)
    (hk : ∀ x : Nat, x < H.size → ¬ A x → H1[x]? = H[x]?) : mm_Sim D (va_up ad n q) (va_up ac n cA) (n + 1) (va_up h n (some c)) A U H1 := by
  rw [← mm_ws_push S.1.2 hno] at hP hD
  refine ⟨⟨by omega, fun k => ?_⟩, hP, hD, S.2.2.2.1, fun k a hk2 => ?_, mm_Z_ad (fun k hk2 => by simp [va_up, show k ≠ n by omega]) (mm_Z_kept hk S.2.2.2.2.2)⟩
  · by_cases e : k = n
    · subst e; simp [va_up]
    · simp only [va_up, if_neg e]
      rw [S.1.2 k]; omega
  · by_cases e : k = n
    · subst e
      simp only [va_up, if_true, Option.some.injEq] at hk2 ⊢
      exact hty a hk2
    · simp only [va_up, if_neg e] at hk2 ⊢
      exact S.2.2.2.2.1 k a hk2
theorem mm_lv_up {ad : Nat → Nat} {n q : Nat} {lv : List Value} {ls : Array Slot} {nL : Nat} (h : mm_lv ad lv ls nL) (hno : ∀ v ∈ lv, v ≠ .ref n) : mm_lv (va_up ad n q) lv ls nL := ⟨h.1, h.2.1, h.2.2.1, fun i v hi hv => by
  rw [mm_t_up (hno v (List.mem_of_getElem? hi))]; exact h.2.2.2 i v hi hv⟩
theorem mm_st_up {ad : Nat → Nat} {n q : Nat} {st : List Value} (hno : ∀ v ∈ st, v ≠ .ref n) : st.map (mm_t (va_up ad n q)) = st.map (mm_t ad) := List.map_congr_left (fun v hv => mm_t_up (hno v hv))
