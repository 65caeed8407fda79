section SC
variable {d mc ms : Nat} {M : mm_M} {cl sl : Nat} {Q : mm_Q} {pc : Nat} {lv st : List Value} {n : Nat} {h : mm_H}
theorem mm_Sim_moved {D : va_G} {ad : Nat → Nat} {ac : Nat → ClassId} {n : Nat} {h : mm_H} {A : Nat → Prop} {u U : State} {H : Heap} (hvm : u.vm.Alike U.vm) (S : mm_Sim D ad ac n h A u H) : mm_Sim D ad ac n h A U H :=
  ⟨S.1, S.2.1, S.2.2.1, va_K.moved hvm S.2.2.2.1, fun k a ha => ⟨arrOfT_moved hvm (S.2.2.2.2.1 k a ha).1, (S.2.2.2.2.1 k a ha).2.moved hvm⟩, mm_Z_moved hvm S.2.2.2.2.2⟩
theorem mm_end {D : va_G} {ad ad0 : Nat → Nat} {ac : Nat → ClassId} {n n0 : Nat} {h : mm_H} {A : Nat → Prop} {s : State} {H : Heap} {locs : List Loc} {args : Array Value} {r : Option Value} (hS : va_S A s.heap H locs) (S : mm_Sim D ad ac n h A s H) (hn0 : n0 ≤ n) (had : ∀ k, k < n0 ∨ n ≤ k → ad k = ad0 k) (hQ : Q r n h) : ∀ t : State, t.heap = H → s.WarmedH t.vm → mm_Qc D ad0 n0 A Q args s (.returned (r.map (mm_t ad))) t := by
  intro t ht hW
  refine ⟨⟨r, n, h, ad, ac, rfl, hQ, hn0, had, ?_⟩, hS.F ht⟩
  rw [ht]
  exact mm_Sim_moved hW.alike S
theorem sn_ireturn {v : Int32} (hr : M.2.2.2 = some .int) (hd : decode M.2.1 pc = .ok (.ireturn, 1)) (hQ : Q (some (.int v)) n h) : G d mc ms M cl sl Q pc lv [.int v] n h := by
  intro l D p e s m args below meth c H locs ls ad ad0 ac A n0 hA hS hAA hSim hlv hn0 had hcl hsl
  refine W.widen hcl hsl ?_
  exact W.iret hA.1 hA.2.1 (hA.2.2.1.trans hr) (mm_end (r := some (.int v)) hS hSim hn0 had hQ) hS.2.2 hd hA.2.2.2.2.2.2.1
theorem sn_zreturn {v : Int32} {ty : FieldType} (hr : M.2.2.2 = some ty) (hn : narrow ty (.int v) = .int v) (hd : decode M.2.1 pc = .ok (.ireturn, 1)) (hQ : Q (some (.int v)) n h) : G d mc ms M cl sl Q pc lv [.int v] n h := by
  intro l D p e s m args below meth c H locs ls ad ad0 ac A n0 hA hS hAA hSim hlv hn0 had hcl hsl
  refine W.widen hcl hsl ?_
  exact W.zret hA.1 hA.2.1 (hA.2.2.1.trans hr) hn (mm_end (r := some (.int v)) hS hSim hn0 had hQ) hS.2.2 hd hA.2.2.2.2.2.2.1
theorem sn_lreturn {v : Int64} (hr : M.2.2.2 = some .long) (hd : decode M.2.1 pc = .ok (.lreturn, 1)) (hQ : Q (some (.long v)) n h) : G d mc ms M cl sl Q pc lv [.long v] n h := by
  intro l D p e s m args below meth c H locs ls ad ad0 ac A n0 hA hS hAA hSim hlv hn0 had hcl hsl
  refine W.widen hcl hsl ?_
  exact W.lret hA.1 hA.2.1 (hA.2.2.1.trans hr) (mm_end (r := some (.long v)) hS hSim hn0 had hQ) hS.2.2 hd hA.2.2.2.2.2.2.1
theorem sn_return (hr : M.2.2.2 = none) (hd : decode M.2.1 pc = .ok (.return_, 1)) (hQ : Q none n h) : G d mc ms M cl sl Q pc lv [] n h := by
  intro l D p e s m args below meth c H locs ls ad ad0 ac A n0 hA hS hAA hSim hlv hn0 had hcl hsl
  refine W.widen hcl hsl ?_
  exact W.vret hA.1 hA.2.1 (hA.2.2.1.trans hr) (mm_end (r := none) hS hSim hn0 had hQ) hS.2.2 hd hA.2.2.2.2.2.2.1
theorem sn_areturn {k : Nat} {rt : FieldType} (hr : M.2.2.2 = some rt) (hrt : (∃ n, rt = .object n) ∨ ∃ t, rt = .array t) (hd : decode M.2.1 pc = .ok (.areturn, 1)) (hQ : Q (some (.ref k)) n h) : G d mc ms M cl sl Q pc lv [.ref k] n h := by
  intro l D p e s m args below meth c H locs ls ad ad0 ac A n0 hA hS hAA hSim hlv hn0 had hcl hsl
  refine W.widen hcl hsl ?_
  exact W.aret hA.1 hA.2.1 (hA.2.2.1.trans hr) hrt (Or.inr ⟨_, rfl⟩) (mm_end (r := some (.ref k)) hS hSim hn0 had hQ) hS.2.2 hd hA.2.2.2.2.2.2.1
-- the entry
def mm_lay : List Value → List Value
  | [] => []
  | v :: t => if v.category = 2 then v :: .null :: mm_lay t else v :: mm_lay t
def mm_ent (av : List Value) (nL : Nat) : List Value := mm_lay av ++ List.replicate (nL - (mm_lay av).length) .null
theorem mm_lay_get (ad : Nat → Nat) : ∀ (av : List Value) (o i : Nat) (v : Value), (mm_lay av)[i]? = some v → v ≠ .null → (o + i, mm_t ad v) ∈ lv_args o (av.map (mm_t ad))
  | [], o, i, v, h, _ => by simp [mm_lay] at h
  | a :: t, o, i, v, h, hv => by
    by_cases hc : a.category = 2
    · rw [mm_lay, if_pos hc] at h
      rw [List.map_cons, lv_args, mm_t_cat, hc]
      match i, h with
      | 0, h => simp at h; subst h; exact List.mem_cons_self
      | 1, h => simp at h; exact absurd h.symm hv
      | i + 2, h =>
        have := mm_lay_get ad t (o + 2) i v (by simpa using h) hv
        rw [show o + (i + 2) = o + 2 + i by omega]
        exact List.mem_cons_of_mem _ this
    · rw [mm_lay, if_neg hc] at h
      have h1 : a.category = 1 := by rcases lv_cat a with z | z <;> simp_all
      rw [List.map_cons, lv_args, mm_t_cat, h1]
      match i, h with
      | 0, h => simp at h; subst h; exact List.mem_cons_self
      | i + 1, h =>
        have := mm_lay_get ad t (o + 1) i v (by simpa using h) hv
        rw [show o + (i + 1) = o + 1 + i by omega]
        exact List.mem_cons_of_mem _ this
theorem mm_lay_len (ad : Nat → Nat) : ∀ (av : List Value), (lg_sl (av.map (mm_t ad))).length = (mm_lay av).length
  | [] => rfl
  | a :: t => by
    have ih := mm_lay_len ad t
    rw [List.map_cons]
    by_cases hc : a.category = 2
    · rw [mm_lay, if_pos hc]; simp [lg_sl, mm_t_cat, hc] at ih ⊢; omega
    · have h1 : a.category = 1 := by rcases lv_cat a with z | z <;> simp_all
      rw [mm_lay, if_neg hc]; simp [lg_sl, mm_t_cat, h1] at ih ⊢; omega
end SC
