/-! THE LAW'S LOOP: an object stays of its class; a read of the script; class, then reference -/
theorem mm_cl_nd : (mm_cl.map fun q => q.1).Nodup := by decide +kernel
theorem body_kind {d mc ms : Nat} {M : mm_M} {av : List Value} {n : Nat} {h : mm_H} {Q : mm_Q} (hB : Body d mc ms M av n h Q) {r ci : Nat} {fs : List Value} (hr : h r = some (.inr (ci, fs))) : Body d mc ms M av n h (fun v n' h' => Q v n' h' ∧ ∃ fs', h' r = some (.inr (ci, fs'))) := by
  intro l D ad ac sz
  refine MetFree.mono (hB l D ad ac sz) (fun _ _ z => z) (fun _ _ _ _ _ z => z) (fun a s o t hp hq => ?_)
  obtain ⟨-, -, hSim⟩ := hp
  obtain ⟨⟨⟨rr, n', h', ad', ac', hv, hq1, hnn, had', hSim'⟩, hF⟩, L, hE, hL⟩ := hq
  refine ⟨⟨⟨rr, n', h', ad', ac', hv, ⟨hq1, ?_⟩, hnn, had', hSim'⟩, hF⟩, L, hE, hL⟩
  have hrn := mm_rlt hSim hr
  obtain ⟨q, hq0, cell, hc1, hc2, -⟩ := hSim.2.1 r _ (mm_ws_get (ad := ad) (ac := ac) hrn hr)
  obtain ⟨c', hc', he, -⟩ := hE.2.2.2.2.2.2.2 _ _ hc1
  have hcls : c'.cls = D.1 ci := by rw [he]; exact hc2
  have hc'' : t.heap[ad' r]? = some c' := by rw [had' r (Or.inl hrn)]; exact hc'
  obtain ⟨hf, kC, hk, hkind⟩ := (hSim'.2.2.2.1.1 ci q hq0).2
  cases hx : h' r with
  | none =>
    have := (hSim'.1.2 r).mpr (by omega)
    rw [hx] at this; cases this
  | some x =>
    have hrn' := mm_rlt hSim' hx
    have hw := hSim'.2.1 r _ (mm_ws_get (ad := ad') (ac := ac') hrn' hx)
    cases x with
    | inl b =>
      exfalso
      have h1 : t.heap[ad' r]? = some (vp_cell (ac' r) (mm_tA ad' b.2)) := hw
      rw [hc''] at h1
      have e1 : c'.cls = ac' r := by
        rw [Option.some.inj h1]
        obtain ⟨ty, N, f | f | f | f | f⟩ := b <;> rfl
      obtain ⟨-, k2, hk2, comp, hkd⟩ := (hSim'.2.2.2.2.1 r b hx).1 0 (fun _ => .null)
      have e2 : (arrV (ac' r) 0 fun _ => Value.null).cls = D.1 ci := by
        show ac' r = D.1 ci
        rw [← e1]; exact hcls
      rw [e2, hk] at hk2
      cases hk2
      rw [hkind] at hkd; cases hkd
    | inr o =>
      obtain ⟨ci', fs'⟩ := o
      obtain ⟨q', hq0', cell', hc1', hc2', -⟩ := hw
      have e1 : cell' = c' := Option.some.inj (hc1'.symm.trans hc'')
      have e2 : D.1 ci' = D.1 ci := by rw [← hc2', e1]; exact hcls
      obtain ⟨hf', -⟩ := (hSim'.2.2.2.1.1 ci' q' hq0').2
      obtain ⟨k1, a1, b1⟩ := Vm.findClass_spec hf
      obtain ⟨k2, a2, b2⟩ := Vm.findClass_spec hf'
      rw [e2, a1] at a2
      cases a2
      have en : q'.1 = q.1 := b2.symm.trans b1
      have hi : ci' < (mm_cl.map fun q => q.1).length := by
        rw [List.length_map]; exact (List.getElem?_eq_some_iff.mp hq0').1
      have ei : ci' = ci := (List.getElem?_inj hi mm_cl_nd).mp (by rw [List.getElem?_map, List.getElem?_map, hq0', hq0]; exact congrArg some en)
      subst ei
      exact ⟨fs', rfl⟩
section LW1
variable {Γ : mm_Γ} {M : mm_M} {cl sl : Nat} {pc : Nat} {lv st : List Value} {n : Nat} {h : mm_H} {ε : mm_X} {μ : mm_mu} {L i : Nat} {xs : Nat → Int32}
theorem gz_dom (k : (n ≤ 1000 ∧ ∀ k, (h k).isSome = true ↔ k < n) → GZ Γ M cl sl pc lv st n h) : GZ Γ M cl sl pc lv st n h := by
  intro H locs ls ad ac hA hS hAA hSim hlv hn0 had
  exact k hSim.1 H locs ls ad ac hA hS hAA hSim hlv hn0 had
theorem gz_lv {lv' : List Value} (hlen : lv'.length = lv.length) (hl : ∀ (i : Nat) (v : Value), lv'[i]? = some v → v ≠ .null → lv[i]? = some v) (k : GZ Γ M cl sl pc lv' st n h) : GZ Γ M cl sl pc lv st n h := by
  intro H locs ls ad ac hA hS hAA hSim hlv hn0 had
  exact k H locs ls ad ac hA hS hAA hSim ⟨hlv.1, hlv.2.1, hlen.trans hlv.2.2.1, fun i v hi hv => hlv.2.2.2 i v (hl i v hi hv) hv⟩ hn0 had
def mL_law : mm_M := (yL_law, cL_law, 7, some .boolean)
abbrev lvL (i : Nat) : List Value := [.ref 1030, .ref 0, .ref 56, .ref 86, .int (nI i), .null, .null]
theorem gz_rd {k : Nat} {j : Int} {v5 v6 : Value} (hX : mm_scr Γ L xs) (hi : i + 6 ≤ L) (hL : L ≤ 3072) (hk : k < 6) (hj : Int32.ofInt j = nI k) (d0 : decode M.2.1 pc = .ok (.aload_n 0, 1)) (d1 : decode M.2.1 (pc + 1) = .ok (.iload 4, 2)) (d2 : decode M.2.1 (pc + 3) = .ok (.iconst j, 1)) (d3 : decode M.2.1 (pc + 4) = .ok (.iadd, 1)) (d4 : decode M.2.1 (pc + 5) = .ok (.iaload, 1))
    (kk : GZ Γ M cl sl (pc + 6) [.ref 1030, .ref 0, .ref 56, .ref 86, .int (nI i), v5, v6] (.int (xs (i + k)) :: st) n h) : GZ Γ M cl sl pc [.ref 1030, .ref 0, .ref 56, .ref 86, .int (nI i), v5, v6] st n h := by
  have e : nI i + Int32.ofInt j = nI (i + k) := by rw [hj]; exact nI_add i k
  refine gz_aload_n (j := 0) (x := 1030) d0 rfl ?_
  refine gz_iload (j := 4) (x := nI i) d1 rfl ?_
  refine gz_iconst d2 ?_
  refine gz_iadd d3 ?_
  rw [e]
  refine gz_sld hX (vin rfl (by omega) (by omega)) d4 ?_
  rw [clp (x := nI (i + k)) (a := i + k) rfl (by omega)]
  exact kk
theorem gz_p1 {M1 M2 : mm_M} {As : List Value} {j mc' ms' : Nat} {lv : List Value} (hm : mm_okM M1 As.length) (hlk : Cond.methodLink M.1.cls j M1.1 ∈ mm_gw) (hin : Cond.instanceMethod M1.1 ∈ mm_gw) (hse : Cond.selects M1.1.cls M1.1 M1.1 ∈ mm_gw) (hqc : RX11 = M1.1.cls) (hd : decode M.2.1 pc = .ok (.invokevirtual j, 3)) (hR : 102 ≤ Γ.R.frames ∧ 40 * 102 ≤ Γ.R.locals) (hcl : cl + mc' ≤ Γ.R.cells) (hsl : sl + ms' ≤ Γ.R.slots)
    (hB : Body 100 mc' ms' M1 (.ref 0 :: As) n (HP ε μ) (fun v _ h => PQ M2 As v h)) (hlv : ∀ ad ad' : Nat → Nat, (∀ k, k < 87 ∨ 1000 ≤ k → ad' k = ad k) → lv.map (mm_t ad') = lv.map (mm_t ad))
    (kk : ∀ v n' h' fs', PQ M2 As v h' → h' 56 = some (.inr (12, fs')) → GZ Γ M (cl + mc') (sl + ms') (pc + 3) lv v.toList n' h') : GZ Γ M cl sl pc lv (As.reverse ++ [.ref 0]) n (HP ε μ) := by
  refine gz_dom (fun hdom => ?_)
  have h87 : 86 < n := (hdom.2 86).mp rfl
  refine gz_callV (M' := M1) (d := 100) (j := j) (r := 0) (ci := 11) (q := (RX11, TX11, 14)) (mc' := mc') (ms' := ms') (As := As) (st := []) hm hlk hin hse rfl rfl hqc (Nat.zero_le _) hd hR hcl hsl (body_kind hB (r := 56) (ci := 12) rfl) ?_
  rintro v n' h' ⟨hq, fs', hf⟩ hdm
  refine ⟨fun ad ad' hk => ⟨hlv ad ad' (fun k z => hk k (by omega)), rfl⟩, ?_⟩
  rw [List.append_nil]
  exact kk v n' h' fs' hq hf
theorem gz_p2 {M2 : mm_M} {As : List Value} {j : Nat} {lv : List Value} {v : Option Value} {fs' : List Value} {off : Int} (hm : mm_okM M2 As.length) (hlk : Cond.methodLink M.1.cls j M2.1 ∈ mm_gw) (hin : Cond.instanceMethod M2.1 ∈ mm_gw) (hse : Cond.selects M2.1.cls M2.1 M2.1 ∈ mm_gw) (hqc : RX12 = M2.1.cls) (hd : decode M.2.1 pc = .ok (.invokevirtual j, 3)) (hd2 : decode M.2.1 (pc + 3) = .ok (.if_icmp .eq off, 3)) (ht : 0 ≤ ((pc + 3 : Nat) : Int) + off) (hR : 102 ≤ Γ.R.frames ∧ 40 * 102 ≤ Γ.R.locals) (hcl : cl ≤ Γ.R.cells) (hsl : sl ≤ Γ.R.slots)
    (hq : PQ M2 As v h) (hf : h 56 = some (.inr (12, fs')))
    (kk : ∀ ε' μ', J ε' μ' → GZ Γ M cl sl (mm_tg (pc + 3) off) lv [] n (HP ε' μ')) : GZ Γ M cl sl pc lv (As.reverse ++ .ref 56 :: v.toList) n h := by
  have hc : (v.toList.map fun v => v.category).sum ≤ 8 := by
    cases v with
    | none => exact Nat.zero_le _
    | some w => cases w <;> exact Nat.le_of_ble_eq_true rfl
  refine gz_callV (M' := M2) (d := 100) (j := j) (r := 56) (ci := 12) (q := (RX12, TX12, 52)) (mc' := 0) (ms' := 0) (As := As) (st := v.toList) hm hlk hin hse hf rfl hqc hc hd hR hcl hsl (hq n) ?_
  rintro w n' h' ⟨rfl, x, ε', μ', rfl, rfl, rfl, hj⟩ hdm
  refine ⟨fun ad ad' hk => ?_, ?_⟩
  · have e : ad' = ad := funext fun k => hk k (by omega)
    rw [e]; exact ⟨rfl, rfl⟩
  · exact gz_icmp_eq hd2 ht (fun _ => kk ε' μ' hj) (fun z => absurd rfl z)
end LW1
