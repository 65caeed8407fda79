/-! CONSTRUCTORS: the heap as a list -/
def hl (L : List mm_C) : mm_H := fun k => L[k]?
def NR (L : List mm_C) : Prop := ∀ m, L.length ≤ m → ∀ c ∈ L, mm_nor m c
theorem hl_push {L : List mm_C} {c : mm_C} {n : Nat} (hn : n = L.length) : va_up (hl L) n (some c) = hl (L ++ [c]) := by
  subst hn
  funext k
  by_cases e : k = L.length
  · subst e; simp [va_up, hl]
  · simp only [va_up, if_neg e, hl]
    rcases Nat.lt_or_ge k L.length with h | h
    · rw [List.getElem?_append_left h]
    · rw [List.getElem?_eq_none h, List.getElem?_eq_none (by simp; omega)]
theorem hl_set {L S : List mm_C} {o o' : mm_C} : va_up (hl (L ++ o :: S)) L.length (some o') = hl (L ++ o' :: S) := by
  funext k
  by_cases e : k = L.length
  · subst e; simp [va_up, hl]
  · simp only [va_up, if_neg e, hl]
    rcases Nat.lt_or_ge k L.length with h | h
    · rw [List.getElem?_append_left h, List.getElem?_append_left h]
    · rw [List.getElem?_append_right h, List.getElem?_append_right h]
      obtain ⟨j, hj⟩ : ∃ j, k - L.length = j + 1 := ⟨k - L.length - 1, by omega⟩
      rw [hj]; rfl
theorem hl_at {L S : List mm_C} {o : mm_C} : hl (L ++ o :: S) L.length = some o := by simp [hl]
theorem NR.no {L : List mm_C} (h : NR L) {n : Nat} (hn : L.length ≤ n) : ∀ k x, hl L k = some x → mm_nor n x := fun k x hx => h n hn x (List.mem_of_getElem? hx)
theorem NR_push {L : List mm_C} {c : mm_C} (h : NR L) (hc : ∀ m, L.length + 1 ≤ m → mm_nor m c) : NR (L ++ [c]) := by
  intro m hm x hx
  rw [List.length_append, List.length_singleton] at hm
  rcases List.mem_append.mp hx with z | z
  · exact h m (by omega) x z
  · rw [List.mem_singleton.mp z]; exact hc m hm
theorem NR_set {L S : List mm_C} {o o' : mm_C} (h : NR (L ++ o :: S)) (hc : ∀ m, L.length + (S.length + 1) ≤ m → mm_nor m o') : NR (L ++ o' :: S) := by
  intro m hm x hx
  rw [List.length_append, List.length_cons] at hm
  have hl' : (L ++ o :: S).length ≤ m := by rw [List.length_append, List.length_cons]; exact hm
  rcases List.mem_append.mp hx with z | z
  · exact h m hl' x (List.mem_append_left _ z)
  · rcases List.mem_cons.mp z with rfl | z
    · exact hc m hm
    · exact h m hl' x (List.mem_append_right _ (List.mem_cons_of_mem _ z))
theorem nr_len {L S : List mm_C} {o : mm_C} {k : Nat} (hk : S.length = k) : (L ++ o :: S).length = L.length + (k + 1) := by rw [List.length_append, List.length_cons, hk]
section K1
variable {d mc ms : Nat} {M : mm_M} {cl sl : Nat} {Q : mm_Q} {pc : Nat} {L S S' : List mm_C} {o : mm_C} {k : Nat}
theorem gi_newa {atype : ArrayType} {ty : FieldType} (hk : S.length = k) (hN : NR (L ++ o :: S)) (hlt : L.length + (k + 1) < 1000) (hw : Cond.arrayClass (newarray.typeOf atype) ∈ mm_gw) (hty : newarray.typeOf atype = ty) {i : Int32} {N : Nat} {a0 : vp_A} (ha : ∀ cA : ClassId, vp_cell cA a0 = arrV cA N (fun _ => defaultValue ty)) (ha0 : ∀ ad, mm_tA ad a0 = a0) (hnor : ∀ m, mm_nor m (.inl (ty, a0))) (hi : ¬ i < 0) (hiN : i.toNatClampNeg = N) (hbytes : N * componentBytes ty ≤ 536870912) (hcl : cl + 1 ≤ mc) (hsl : sl + N ≤ ms) (hd : decode M.2.1 pc = .ok (.newarray atype, 2)) (hS' : S ++ [.inl (ty, a0)] = S')
    (kk : NR (L ++ o :: S') → G d mc ms M (cl + 1) (sl + N) Q (pc + 2) [.ref L.length] [.ref (L.length + (k + 1)), .ref L.length] (L.length + (k + 2)) (hl (L ++ o :: S'))) : G d mc ms M cl sl Q pc [.ref L.length] [.int i, .ref L.length] (L.length + (k + 1)) (hl (L ++ o :: S)) := by
  have hne : ∀ v ∈ ([.ref L.length] : List Value), v ≠ .ref (L.length + (k + 1)) := by
    intro v hv z
    rw [List.mem_singleton.mp hv] at z
    have : L.length = L.length + (k + 1) := Value.ref.inj z
    omega
  refine sn_newa hw hty hlt (hN.no (by rw [nr_len hk]; omega)) hne hne ha ha0 hi hiN hbytes hcl hsl hd ?_
  rw [hl_push (nr_len hk).symm, List.append_assoc, List.cons_append, hS']
  refine kk ?_
  have := NR_push hN (c := .inl (ty, a0)) (fun m _ => hnor m)
  rw [List.append_assoc, List.cons_append, hS'] at this
  exact this
theorem gi_put {own : String} {j ci kf : Nat} {fs fs' : List Value} {v : Value} {q : vw_C} {ty : FieldType} (hk : S.length = k) (hN : NR (L ++ .inr (ci, fs) :: S)) (hv : ∀ m, L.length + (k + 1) ≤ m → v ≠ .ref m) (ho : M.1.cls = own) (hq : mm_cl[ci]? = some q) (hok : mm_okc q) (hkf : kf < q.2.2) (hw : Cond.fieldLink own j q.1 (q.2.1 kf).2.1 (q.2.1 kf).2.2.1 ∈ mm_gw) (hf : (q.2.1 kf).2.2.2 = true → M.1.name = "<init>" ∧ q.1 = own) (hty0 : parseFieldDescriptor (q.2.1 kf).2.2.1 = some ty) (hn : narrow ty v = v) (hfi : fits ty v = true) (hl' : kf < fs.length) (hd : decode M.2.1 pc = .ok (.putfield j, 3)) (hfs : fs.set kf v = fs')
    (kk : NR (L ++ .inr (ci, fs') :: S) → G d mc ms M cl sl Q (pc + 3) [.ref L.length] [] (L.length + (k + 1)) (hl (L ++ .inr (ci, fs') :: S))) : G d mc ms M cl sl Q pc [.ref L.length] [v, .ref L.length] (L.length + (k + 1)) (hl (L ++ .inr (ci, fs) :: S)) := by
  refine sn_putfield ho hq hok hkf hw hl_at hf hty0 hn hfi hl' hd ?_
  rw [hl_set, hfs]
  refine kk (NR_set hN (fun m hm w hw2 => ?_))
  rw [hk] at hm
  rw [← hfs] at hw2
  rcases List.mem_or_eq_of_mem_set hw2 with z | z
  · exact hN m (by rw [nr_len hk]; exact hm) _ (List.mem_append_right _ List.mem_cons_self) w z
  · rw [z]; exact hv m hm
theorem gi_new {own : String} {q : vw_C} {ci index : Nat} {fs : List Value} (hk : S.length = k) (hN : NR (L ++ o :: S)) (hlt : L.length + (k + 1) < 1000) (hq : mm_cl[ci]? = some q) (hok : mm_okc q) (ho : M.1.cls = own) (hlk : Cond.classLink own index q.1 ∈ mm_gw) (hinst : Cond.instantiable q.1 q.2.2 ∈ mm_gw) (hini : Cond.initialized q.1 ∈ mm_gw) (ty : Nat → FieldType) (hty : ∀ k, k < q.2.2 → parseFieldDescriptor (q.2.1 k).2.2.1 = some (ty k)) (hfs : ∀ j, j < q.2.2 → defaultValue (ty j) = vp_V fs j) (hfr : ∀ v ∈ fs, ∀ k, v ≠ .ref k) (hcl : cl + 1 ≤ mc) (hsl : sl + q.2.2 ≤ ms) (hd : decode M.2.1 pc = .ok (.new index, 3)) (hd2 : decode M.2.1 (pc + 3) = .ok (.dup, 1)) (hS' : S ++ [.inr (ci, fs)] = S')
    (kk : NR (L ++ o :: S') → G d mc ms M (cl + 1) (sl + q.2.2) Q (pc + 4) [.ref L.length] [.ref (L.length + (k + 1)), .ref (L.length + (k + 1)), .ref L.length] (L.length + (k + 2)) (hl (L ++ o :: S'))) : G d mc ms M cl sl Q pc [.ref L.length] [.ref L.length] (L.length + (k + 1)) (hl (L ++ o :: S)) := by
  have hne : ∀ v ∈ ([.ref L.length] : List Value), v ≠ .ref (L.length + (k + 1)) := by
    intro v hv z
    rw [List.mem_singleton.mp hv] at z
    have : L.length = L.length + (k + 1) := Value.ref.inj z
    omega
  refine sn_new hq hok ho hlk hinst hini hlt (hN.no (by rw [nr_len hk]; omega)) hne hne ty hty hfs hfr hcl hsl hd ?_
  refine sn_dup hd2 rfl ?_
  rw [hl_push (nr_len hk).symm, List.append_assoc, List.cons_append, hS']
  refine kk ?_
  have := NR_push hN (c := .inr (ci, fs)) (fun m _ v hv z => hfr v hv m z)
  rw [List.append_assoc, List.cons_append, hS'] at this
  exact this
/-- a constructor: the object lies last, K cells are made -/
def CT (d mc ms : Nat) (M : mm_M) (ci : Nat) (df : List Value) (K : Nat) (F : Nat → List Value) (T : Nat → List mm_C) : Prop := ∀ (L : List mm_C) (Q : mm_Q), NR (L ++ [.inr (ci, df)]) → L.length + K < 900 → (NR (L ++ .inr (ci, F (L.length + 1)) :: T (L.length + 1)) → Q none (L.length + (K + 1)) (hl (L ++ .inr (ci, F (L.length + 1)) :: T (L.length + 1)))) → Body d mc ms M [.ref L.length] (L.length + 1) (hl (L ++ [.inr (ci, df)])) Q
theorem gi_ctor {M' : mm_M} {j ci mc' ms' K K' : Nat} {df : List Value} {F : Nat → List Value} {T : Nat → List mm_C} {S0 : List mm_C} (hC : CT d mc' ms' M' ci df K F T) (hk : S.length = k) (hN : NR (L ++ o :: S0)) (hS0 : S ++ [.inr (ci, df)] = S0) (hlt : L.length + (k + 1) + K < 900) (hm : mm_okM M' 0) (hret : M'.2.2.2 = none) (hlk : mm_lnk M.1.cls j M') (hin : Cond.instanceMethod M'.1 ∈ mm_gw) (hnm : M'.1.name = "<init>") (hd : decode M.2.1 pc = .ok (.invokespecial j, 3)) (hcl : cl + mc' ≤ mc) (hsl : sl + ms' ≤ ms) (hK' : k + K + 1 = K') (hS' : S ++ .inr (ci, F (L.length + (k + 2))) :: T (L.length + (k + 2)) = S')
    (kk : NR (L ++ o :: S') → G (d + 1) mc ms M (cl + mc') (sl + ms') Q (pc + 3) [.ref L.length] [.ref (L.length + (k + 1)), .ref L.length] (L.length + (K' + 1)) (hl (L ++ o :: S'))) : G (d + 1) mc ms M cl sl Q pc [.ref L.length] [.ref (L.length + (k + 1)), .ref (L.length + (k + 1)), .ref L.length] (L.length + (k + 2)) (hl (L ++ o :: S0)) := by
  have e0 : L ++ o :: S0 = (L ++ o :: S) ++ [.inr (ci, df)] := by rw [← hS0]; simp
  have e1 : (L ++ o :: S).length = L.length + (k + 1) := nr_len hk
  have e2 : L ++ o :: S' = (L ++ o :: S) ++ .inr (ci, F (L.length + (k + 2))) :: T (L.length + (k + 2)) := by rw [← hS']; simp
  have hB := hC (L ++ o :: S) (fun v n' h' => NR (L ++ o :: S') ∧ v = none ∧ n' = L.length + (K' + 1) ∧ h' = hl (L ++ o :: S')) (by rw [← e0]; exact hN) (by rw [e1]; exact hlt) (fun hN' => by
    rw [e1, show L.length + (k + 1) + 1 = L.length + (k + 2) from rfl, ← e2] at hN'
    refine ⟨hN', rfl, by rw [e1]; omega, ?_⟩
    rw [e1, show L.length + (k + 1) + 1 = L.length + (k + 2) from rfl, ← e2])
  rw [e1, ← e0] at hB
  refine sn_callI (M' := M') (j := j) (r := L.length + (k + 1)) (As := []) (st := [.ref (L.length + (k + 1)), .ref L.length]) hm hret hlk hin hnm (Nat.le_of_ble_eq_true rfl) hd hcl hsl hB ?_
  rintro v n' h' ⟨hN', rfl, rfl, rfl⟩
  refine ⟨fun ad ad' hk2 => ⟨?_, ?_⟩, kk hN'⟩
  · simp only [List.map_cons, List.map_nil, mm_t, hk2 L.length (by omega)]
  · simp only [List.map_cons, List.map_nil, mm_t, hk2 L.length (by omega), hk2 (L.length + (k + 1)) (by omega)]
end K1
