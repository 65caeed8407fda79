section SW
variable {d mc ms : Nat} {M : mm_M} {cl sl : Nat} {Q : mm_Q} {pc : Nat} {lv st : List Value} {n : Nat} {h : mm_H}
theorem s0_tsw {dflt lo hi : Int} {offs : Array Int} {len : Nat} {x : Int32} (hd : decode M.2.1 pc = .ok (.tableswitch dflt lo hi offs, len)) (j1 : hi = lo + offs.size - 1) (j2 : 0 ≤ (pc : Int) + dflt) (j3 : ∀ o ∈ offs.toList, 0 ≤ (pc : Int) + o)
    (k1 : (x.toInt < lo ∨ lo + offs.toList.length ≤ x.toInt) → G d mc ms M cl sl Q ((pc : Int) + dflt).toNat lv st n h) (k2 : ∀ (k : Nat) (o : Int), offs.toList[k]? = some o → x.toInt = lo + k → G d mc ms M cl sl Q ((pc : Int) + o).toNat lv st n h) : G d mc ms M cl sl Q pc lv (.int x :: st) n h := by
  intro l D p e s m args below meth c H locs ls ad ad0 ac A n0 hA hS hAA hSim hlv hn0 had hcl hsl
  by_cases hx : x.toInt < lo ∨ hi < x.toInt
  · refine lv_tableOut hA.1 hA.2.1 hd hx (mm_tg_eq j2) ?_
    refine k1 ?_ l D p e s m args below meth c H locs ls ad ad0 ac A n0 hA hS hAA hSim hlv hn0 had hcl hsl
    rcases hx with z | z
    · exact Or.inl z
    · exact Or.inr (by rw [Array.length_toList]; omega)
  · have h1 : ¬ x.toInt < lo := fun z => hx (Or.inl z)
    have h2 : ¬ hi < x.toInt := fun z => hx (Or.inr z)
    have hlt : (x.toInt - lo).toNat < offs.size := by omega
    have ho : offs[(x.toInt - lo).toNat]? = some offs[(x.toInt - lo).toNat] := Array.getElem?_eq_getElem hlt
    have hm : offs[(x.toInt - lo).toNat] ∈ offs.toList := Array.mem_toList_iff.mpr (Array.getElem_mem hlt)
    refine lv_tableIn hA.1 hA.2.1 hd h1 h2 ho (mm_tg_eq (j3 _ hm)) ?_
    exact k2 (x.toInt - lo).toNat _ (by rw [Array.getElem?_toList]; exact ho) (by omega) l D p e s m args below meth c H locs ls ad ad0 ac A n0 hA hS hAA hSim hlv hn0 had hcl hsl
theorem mm_off_mem {ps : List (Int × Int)} {dflt x : Int} {pc : Nat} (h1 : 0 ≤ (pc : Int) + dflt) (h2 : ∀ o ∈ ps, 0 ≤ (pc : Int) + o.2) : 0 ≤ (pc : Int) + Op.lookupswitch.offset ps dflt x := by
  induction ps with
  | nil => exact h1
  | cons a t ih =>
    obtain ⟨j, o⟩ := a
    by_cases hj : x = j
    · have e : Op.lookupswitch.offset ((j, o) :: t) dflt x = o := by simp [Op.lookupswitch.offset, hj]
      rw [e]; exact h2 _ List.mem_cons_self
    · have e : Op.lookupswitch.offset ((j, o) :: t) dflt x = Op.lookupswitch.offset t dflt x := by simp [Op.lookupswitch.offset, hj, show ¬ j = x from fun z => hj z.symm]
      rw [e]; exact ih (fun o z => h2 o (List.mem_cons_of_mem _ z))
theorem s0_lsw {dflt : Int} {ps : Array (Int × Int)} {len : Nat} {x : Int32} (hd : decode M.2.1 pc = .ok (.lookupswitch dflt ps, len)) (j1 : (ps.toList.zip (ps.toList.drop 1)).all (fun (a, next) => a.1 < next.1) = true) (j2 : 0 ≤ (pc : Int) + dflt) (j3 : ∀ o ∈ ps.toList, 0 ≤ (pc : Int) + o.2)
    (k : G d mc ms M cl sl Q ((pc : Int) + Op.lookupswitch.offset ps.toList dflt x.toInt).toNat lv st n h) : G d mc ms M cl sl Q pc lv (.int x :: st) n h := by
  intro l D p e s m args below meth c H locs ls ad ad0 ac A n0 hA hS hAA hSim hlv hn0 had hcl hsl
  exact lv_lookup hA.1 hA.2.1 hd j1 rfl (mm_tg_eq (mm_off_mem j2 j3)) (k l D p e s m args below meth c H locs ls ad ad0 ac A n0 hA hS hAA hSim hlv hn0 had hcl hsl)
end SW
set_option maxHeartbeats 4000000 in
theorem mm_step_ok {d : Nat} {M : mm_M} {Q : mm_Q0} {pc : Nat} {lv st : List Value} {h : mm_H} {tab : Nat → Option (mm_M × Nat × Nat × Nat)} {tb : mm_T} {i0 i : Instr} {len nx : Nat} {K : Nat → List Value → List Value → mm_H → Prop} (ht : mm_okT tab tb) (ho : M.1.cls = tb.1) (hd : decode M.2.1 pc = .ok (i0, len)) (hres : mm_res tb M.2.2.1 M.2.2.2 pc i0 len = some (i, nx))
    (hK : ∀ pc lv st h, K pc lv st h → G0 (d + 1) M Q pc lv st h) (hs : mm_step tab (B0 d) (G0 (d + 1) M Q) K Q i nx lv st h) : G0 (d + 1) M Q pc lv st h := by
  unfold mm_res at hres
  split at hres
  · cases hres
    exact fun n => sn_iconst hd (hK _ _ _ _ hs n)
  · split at hres
    · rename_i hj; cases hres; have hs := hK _ _ _ _ hs; rw [← hj] at hs; exact fun n => sn_bipush hd (hs n)
    · cases hres
  · split at hres
    · rename_i hj; cases hres; have hs := hK _ _ _ _ hs; rw [← hj] at hs; exact fun n => sn_sipush hd (hs n)
    · cases hres
  · split at hres
    · rename_i v hf; cases hres
      have hs := hK _ _ _ _ hs
      rw [Int32.ofInt_toInt] at hs
      exact fun n => sn_ldc ho (ht.2.2.1 _ (mm_find hf)) hd (hs n)
    · split at hres
      · rename_i q hf; cases hres
        obtain ⟨z1, z2, z3⟩ := mm_find2 hf
        subst z3
        exact fun n => sn_ldcS z1 (ho.trans z2.symm) hd (hK _ _ _ _ hs n)
      · cases hres
  · cases hf : mm_fk tb _ with
    | none => rw [hf] at hres; cases hres
    | some v =>
      rw [hf] at hres; cases hres
      have hs := hK _ _ _ _ hs
      rw [Int32.ofInt_toInt] at hs
      exact fun n => sn_ldcw ho (ht.2.2.1 _ (mm_find hf)) hd (hs n)
  · cases hf : mm_fk2 tb _ with
    | none => rw [hf] at hres; cases hres
    | some v =>
      rw [hf] at hres; cases hres
      have hs := hK _ _ _ _ hs
      rw [Int64.ofInt_toInt] at hs
      exact fun n => sn_ldc2 ho (ht.2.2.2.1 _ (mm_find hf)) hd (hs n)
  · cases hres
    exact fun n => sn_lconst hd (hK _ _ _ _ hs n)
  · cases hres
    exact fun n => sn_anull hd (hK _ _ _ _ hs n)
  · cases hres
    simp only [mm_step] at hs
    split at hs
    · rename_i hl; exact fun n => sn_iload_n hd hl (hK _ _ _ _ hs n)
    · exact hs.elim
  · cases hres
    simp only [mm_step] at hs
    split at hs
    · rename_i hl; exact fun n => sn_iload hd hl (hK _ _ _ _ hs n)
    · exact hs.elim
  · cases hres
    simp only [mm_step] at hs
    split at hs
    · rename_i hl; exact fun n => sn_lload_n hd hl (hK _ _ _ _ hs n)
    · exact hs.elim
  · cases hres
    simp only [mm_step] at hs
    split at hs
    · rename_i hl; exact fun n => sn_lload hd hl (hK _ _ _ _ hs n)
    · exact hs.elim
  · cases hres
    simp only [mm_step] at hs
    split at hs
    · rename_i hl; exact fun n => sn_aload_n hd hl (hK _ _ _ _ hs n)
    · exact hs.elim
  · cases hres
    simp only [mm_step] at hs
    split at hs
    · rename_i hl; exact fun n => sn_aload hd hl (hK _ _ _ _ hs n)
    · exact hs.elim
  · split at hres
    · rename_i hj; cases hres; simp only [mm_step] at hs; split at hs
      · exact fun n => sn_istore_n hd hj (hK _ _ _ _ hs n)
      · exact hs.elim
    · cases hres
  · split at hres
    · rename_i hj; cases hres; simp only [mm_step] at hs; split at hs
      · exact fun n => sn_istore hd hj (hK _ _ _ _ hs n)
      · exact hs.elim
    · cases hres
  · split at hres
    · rename_i hj; cases hres; simp only [mm_step] at hs; split at hs
      · exact fun n => sn_lstore_n hd hj (hK _ _ _ _ hs n)
      · exact hs.elim
    · cases hres
  · split at hres
    · rename_i hj; cases hres; simp only [mm_step] at hs; split at hs
      · exact fun n => sn_lstore hd hj (hK _ _ _ _ hs n)
      · exact hs.elim
    · cases hres
  · split at hres
    · rename_i hj; cases hres; simp only [mm_step] at hs; split at hs
      · exact fun n => sn_astore_n hd hj (hK _ _ _ _ hs n)
      · exact hs.elim
    · cases hres
  · split at hres
    · rename_i hj; cases hres; simp only [mm_step] at hs; split at hs
      · exact fun n => sn_astore hd hj (hK _ _ _ _ hs n)
      · exact hs.elim
    · cases hres
  · cases hres
    simp only [mm_step] at hs
    split at hs
    · rename_i hl; exact fun n => sn_iinc hd hl (hK _ _ _ _ hs n)
    · exact hs.elim
  · cases hres
    simp only [mm_step] at hs
    split at hs
    · exact fun n => sn_iadd hd (hK _ _ _ _ hs n)
    · exact hs.elim
  · cases hres
    simp only [mm_step] at hs
    split at hs
    · exact fun n => sn_isub hd (hK _ _ _ _ hs n)
    · exact hs.elim
  · cases hres
    simp only [mm_step] at hs
    split at hs
    · exact fun n => sn_imul hd (hK _ _ _ _ hs n)
    · exact hs.elim
  · cases hres
    simp only [mm_step] at hs
    split at hs
    · exact fun n => sn_iand hd (hK _ _ _ _ hs n)
    · exact hs.elim
  · cases hres
    simp only [mm_step] at hs
    split at hs
    · exact fun n => sn_ior hd (hK _ _ _ _ hs n)
    · exact hs.elim
  · cases hres
    simp only [mm_step] at hs
    split at hs
    · exact fun n => sn_ixor hd (hK _ _ _ _ hs n)
    · exact hs.elim
  · cases hres
    simp only [mm_step] at hs
    split at hs
    · exact fun n => sn_ishl hd (hK _ _ _ _ hs n)
    · exact hs.elim
  · cases hres
    simp only [mm_step] at hs
    split at hs
    · exact fun n => sn_ishr hd (hK _ _ _ _ hs n)
    · exact hs.elim
  · cases hres
    simp only [mm_step] at hs
    split at hs
    · exact fun n => sn_iushr hd (hK _ _ _ _ hs n)
    · exact hs.elim
  · cases hres
    simp only [mm_step] at hs
    split at hs
    · exact fun n => sn_idiv hd hs.1 (hK _ _ _ _ hs.2 n)
    · exact hs.elim
  · cases hres
    simp only [mm_step] at hs
    split at hs
    · exact fun n => sn_irem hd hs.1 (hK _ _ _ _ hs.2 n)
    · exact hs.elim
  · cases hres
    simp only [mm_step] at hs
    split at hs
    · exact fun n => sn_ineg hd (hK _ _ _ _ hs n)
    · exact hs.elim
  · cases hres
    simp only [mm_step] at hs
    split at hs
    · exact fun n => sn_ladd hd (hK _ _ _ _ hs n)
    · exact hs.elim
  · cases hres
    simp only [mm_step] at hs
    split at hs
    · exact fun n => sn_lsub hd (hK _ _ _ _ hs n)
    · exact hs.elim
  · cases hres
    simp only [mm_step] at hs
    split at hs
    · exact fun n => sn_lmul hd (hK _ _ _ _ hs n)
    · exact hs.elim
  · cases hres
    simp only [mm_step] at hs
    split at hs
    · exact fun n => sn_land hd (hK _ _ _ _ hs n)
    · exact hs.elim
  · cases hres
    simp only [mm_step] at hs
    split at hs
    · exact fun n => sn_lor hd (hK _ _ _ _ hs n)
    · exact hs.elim
  · cases hres
    simp only [mm_step] at hs
    split at hs
    · exact fun n => sn_ldiv hd hs.1 (hK _ _ _ _ hs.2 n)
    · exact hs.elim
  · cases hres
    simp only [mm_step] at hs
    split at hs
    · exact fun n => sn_lrem hd hs.1 (hK _ _ _ _ hs.2 n)
    · exact hs.elim
  · cases hres
    simp only [mm_step] at hs
    split at hs
    · exact fun n => sn_lcmp hd (hK _ _ _ _ hs n)
    · exact hs.elim
  · cases hres
    simp only [mm_step] at hs
    split at hs
    · exact fun n => sn_lushr hd (hK _ _ _ _ hs n)
    · exact hs.elim
  · cases hres
    simp only [mm_step] at hs
    split at hs
    · exact fun n => sn_lshl hd (hK _ _ _ _ hs n)
    · exact hs.elim
  · cases hres
    simp only [mm_step] at hs
    split at hs
    · exact fun n => sn_i2l hd (hK _ _ _ _ hs n)
    · exact hs.elim
  · cases hres
    simp only [mm_step] at hs
    split at hs
    · exact fun n => sn_l2i hd (hK _ _ _ _ hs n)
    · exact hs.elim
  · cases hres
    simp only [mm_step] at hs
    split at hs
    · exact fun n => sn_i2c hd (hK _ _ _ _ hs n)
    · exact hs.elim
  · cases hres
    simp only [mm_step] at hs
    split at hs
    · exact fun n => sn_i2b hd (hK _ _ _ _ hs n)
    · exact hs.elim
  · cases hres
    simp only [mm_step] at hs
    split at hs
    · exact fun n => sn_dup hd rfl (hK _ _ _ _ hs n)
    · exact fun n => sn_dup hd rfl (hK _ _ _ _ hs n)
    · exact hs.elim
  · cases hres
    simp only [mm_step] at hs
    split at hs
    · exact fun n => sn_pop hd rfl (hK _ _ _ _ hs n)
    · exact fun n => sn_pop hd rfl (hK _ _ _ _ hs n)
    · exact hs.elim
  · cases hres
    simp only [mm_step] at hs
    split at hs
    · exact fun n => sn_dup2_11 hd rfl rfl (hK _ _ _ _ hs n)
    · exact hs.elim
  · split at hres
    · rename_i hj; cases hres; simp only [mm_step] at hs; split at hs
      · split at hs
        · exact fun n => sn_if_eq hd hj (fun z => hK _ _ _ _ (hs.1 z) n) (fun z => hK _ _ _ _ (hs.2 z) n)
        · exact fun n => sn_if_ne hd hj (fun z => hK _ _ _ _ (hs.1 z) n) (fun z => hK _ _ _ _ (hs.2 z) n)
        · exact fun n => sn_if_lt hd hj (fun z => hK _ _ _ _ (hs.1 z) n) (fun z => hK _ _ _ _ (hs.2 z) n)
        · exact fun n => sn_if_ge hd hj (fun z => hK _ _ _ _ (hs.1 z) n) (fun z => hK _ _ _ _ (hs.2 z) n)
        · exact fun n => sn_if_gt hd hj (fun z => hK _ _ _ _ (hs.1 z) n) (fun z => hK _ _ _ _ (hs.2 z) n)
        · exact fun n => sn_if_le hd hj (fun z => hK _ _ _ _ (hs.1 z) n) (fun z => hK _ _ _ _ (hs.2 z) n)
      · exact hs.elim
    · cases hres
  · split at hres
    · rename_i hj; cases hres; simp only [mm_step] at hs; split at hs
      · split at hs
        · exact fun n => sn_icmp_eq hd hj (fun z => hK _ _ _ _ (hs.1 z) n) (fun z => hK _ _ _ _ (hs.2 z) n)
        · exact fun n => sn_icmp_ne hd hj (fun z => hK _ _ _ _ (hs.1 z) n) (fun z => hK _ _ _ _ (hs.2 z) n)
        · exact fun n => sn_icmp_lt hd hj (fun z => hK _ _ _ _ (hs.1 z) n) (fun z => hK _ _ _ _ (hs.2 z) n)
        · exact fun n => sn_icmp_ge hd hj (fun z => hK _ _ _ _ (hs.1 z) n) (fun z => hK _ _ _ _ (hs.2 z) n)
        · exact fun n => sn_icmp_gt hd hj (fun z => hK _ _ _ _ (hs.1 z) n) (fun z => hK _ _ _ _ (hs.2 z) n)
        · exact fun n => sn_icmp_le hd hj (fun z => hK _ _ _ _ (hs.1 z) n) (fun z => hK _ _ _ _ (hs.2 z) n)
      · exact hs.elim
    · cases hres
  · split at hres
    · rename_i hj; cases hres; exact fun n => sn_goto hd hj (hK _ _ _ _ hs n)
    · cases hres
  · split at hres
    · rename_i hj; cases hres; simp only [mm_step] at hs; split at hs
      · exact fun n => sn_ifnonnull hd hj (hK _ _ _ _ hs n)
      · exact fun n => sn_ifnonnullN hd (hK _ _ _ _ hs n)
      · exact hs.elim
    · cases hres
  · split at hres
    · rename_i q hf
      obtain ⟨ci, k, fin⟩ := q
      cases hres
      obtain ⟨cc, h1, h2, h3, h4, h5, h6⟩ := ht.1 _ (mm_find hf)
      have e1 : (100 * ci + k) % 100 = k := by simp only at h4; omega
      have e2 : (100 * ci + k) / 100 = ci := by simp only at h4; omega
      simp only [mm_step] at hs
      split at hs
      · split at hs
        · rename_i hr
          split at hs
          · rename_i hv
            rw [e1] at hv; rw [e2] at hs
            obtain ⟨rfl, hs⟩ := hs
            exact fun n => sn_getfield ho h1 h2 h3 h6 hr hv hd (hK _ _ _ _ hs n)
          · exact hs.elim
        · exact hs.elim
      · exact hs.elim
    · split at hres
      · rename_i z; cases hres; obtain ⟨z1, rfl⟩ := z
        simp only [mm_step] at hs
        split at hs
        · split at hs
          · rename_i hr; exact fun n => sn_strV (ho.trans z1) hr ht.2.2.2.2.2.1 hd (hK _ _ _ _ hs n)
          · exact hs.elim
        · exact hs.elim
      · split at hres
        · rename_i z; cases hres; obtain ⟨z1, rfl⟩ := z
          simp only [mm_step] at hs
          split at hs
          · split at hs
            · rename_i hr; exact fun n => sn_strC (ho.trans z1) hr ht.2.2.2.2.2.2.1 hd (hK _ _ _ _ hs n)
            · exact hs.elim
          · exact hs.elim
        · cases hres
  · split at hres
    · rename_i q hf
      cases hres
      obtain ⟨z1, z2, z3⟩ := mm_find2 hf
      subst z3
      obtain ⟨e, h1, h2⟩ := ht.2.2.2.2.1 q z1
      exact fun n => sn_gets (ho.trans z2.symm) h1 h2 hd (hK _ _ _ _ hs n)
    · split at hres
      · rename_i z; cases hres; obtain ⟨z1, rfl⟩ := z
        exact fun n => sn_getz (ho.trans z1) ht.2.2.2.2.2.2.2.1 hd (hK _ _ _ _ hs n)
      · cases hres
  · split at hres
    · rename_i ci k hf
      cases hres
      obtain ⟨cc, h1, h2, h3, h4, h5, h6⟩ := ht.1 _ (mm_find hf)
      have e1 : (100 * ci + k) % 100 = k := by simp only at h4; omega
      have e2 : (100 * ci + k) / 100 = ci := by simp only at h4; omega
      simp only [mm_step] at hs
      split at hs
      · split at hs
        · rename_i hr
          rw [e1, e2] at hs
          obtain ⟨rfl, hl, hfit, hs⟩ := hs
          simp only [mm_fit, h1] at hfit
          split at hfit
          · rename_i hty
            exact fun n => sn_putfield ho h1 h2 h3 h6 hr (fun z => by simp only at h5; rw [h5] at z; cases z) hty hfit.1 hfit.2 hl hd (hK _ _ _ _ hs n)
          · exact hfit.elim
        · exact hs.elim
      · exact hs.elim
    · cases hres
  · cases hres
    simp only [mm_step] at hs
    split at hs
    · split at hs
      · rename_i hr; exact fun n => sn_alen hr hd (hK _ _ _ _ hs n)
      · exact hs.elim
      · split at hs
        · rename_i hr; exact fun n => sn_tlen hr hd (hK _ _ _ _ hs n)
        · exact hs.elim
    · exact hs.elim
  · cases hres
    simp only [mm_step] at hs
    split at hs
    · split at hs
      · rename_i hr; exact fun n => sn_iald hr hs.1 hd (hK _ _ _ _ hs.2 n)
      · exact hs.elim
      · split at hs
        · rename_i hr; exact fun n => sn_ti hr hs.1 hd (hK _ _ _ _ hs.2 n)
        · exact hs.elim
    · exact hs.elim
  · cases hres
    simp only [mm_step] at hs
    split at hs
    · split at hs
      · rename_i hr; exact fun n => sn_cald hr hs.1 hd (hK _ _ _ _ hs.2 n)
      · exact hs.elim
    · exact hs.elim
  · cases hres
    simp only [mm_step] at hs
    split at hs
    · split at hs
      · rename_i hr; exact fun n => sn_zald hr hs.1 hd (hK _ _ _ _ hs.2 n)
      · exact hs.elim
      · split at hs
        · rename_i hr; exact fun n => sn_tb hr hs.1 hd (hK _ _ _ _ hs.2 n)
        · exact hs.elim
    · exact hs.elim
  · cases hres
    simp only [mm_step] at hs
    split at hs
    · split at hs
      · rename_i hr; exact fun n => sn_iast hr hs.1 hd (hK _ _ _ _ hs.2 n)
      · exact hs.elim
    · exact hs.elim
  · cases hres
    simp only [mm_step] at hs
    split at hs
    · split at hs
      · rename_i hr; exact fun n => sn_cast hr hs.1 hd (hK _ _ _ _ hs.2 n)
      · exact hs.elim
    · exact hs.elim
  · cases hres
    simp only [mm_step] at hs
    split at hs
    · split at hs
      · rename_i hr; exact fun n => sn_zast hr hs.1 hd (hK _ _ _ _ hs.2 n)
      · exact hs.elim
    · exact hs.elim
  · cases hres
    simp only [mm_step] at hs
    split at hs
    · split at hs
      · rename_i hr; exact fun n => sn_aald hr hs.1 hd (hK _ _ _ _ hs.2 n)
      · exact hs.elim
    · exact hs.elim
  · split at hres
    · rename_i hr; cases hres; simp only [mm_step] at hs; split at hs
      · exact fun n => sn_ireturn hr hd ⟨rfl, hs⟩
      · exact hs.elim
    · rename_i hr; cases hres; simp only [mm_step] at hs; split at hs
      · exact fun n => sn_zreturn hr hs.1 hd ⟨rfl, hs.2⟩
      · exact hs.elim
    · rename_i hr; cases hres; simp only [mm_step] at hs; split at hs
      · exact fun n => sn_zreturn hr hs.1 hd ⟨rfl, hs.2⟩
      · exact hs.elim
    · cases hres
  · split at hres
    · rename_i hr; cases hres; simp only [mm_step] at hs; split at hs
      · exact fun n => sn_return hr hd ⟨rfl, hs⟩
      · exact hs.elim
    · cases hres
  · split at hres
    · rename_i hr; cases hres; simp only [mm_step] at hs; split at hs
      · exact fun n => sn_lreturn hr hd ⟨rfl, hs⟩
      · exact hs.elim
    · cases hres
  · split at hres
    · rename_i hr; cases hres; simp only [mm_step] at hs; split at hs
      · exact fun n => sn_areturn hr (Or.inl ⟨_, rfl⟩) hd ⟨rfl, hs⟩
      · exact hs.elim
    · cases hres
  · cases hf : mm_fc tb _ with
    | none => rw [hf] at hres; cases hres
    | some N =>
      rw [hf] at hres; cases hres
      obtain ⟨M1, kind, k, ci, t1, t2, t3, t4, t5, t9, t6, t7, t8⟩ := ht.2.1 _ (mm_find hf)
      simp only [mm_step, t1] at hs
      split at hs
      · rename_i M2 k2 ci2 heq
        cases heq
        split at hs
        · rename_i As r st2 hp
          split at hs
          · rename_i ci3 fs hr
            obtain ⟨rfl, hl, hs⟩ := hs
            obtain ⟨Bs, b1, b2, b3⟩ := mm_pop_eq _ _ _ _ _ hp
            rw [List.append_nil] at b1
            subst b1
            subst b3
            obtain ⟨s1, s2, cc, s3, s4⟩ := t4 rfl
            rw [b2]
            rw [← ho] at t3
            exact s0_callV t2 t3 s1 s2 hr s3 s4 hl hd hs
          · exact hs.elim
        · exact hs.elim
      · rename_i M2 k2 ci2 heq
        cases heq
        split at hs
        · rename_i As r st2 hp
          split at hs
          · rename_i v hr
            obtain ⟨hl, hs⟩ := hs
            obtain ⟨Bs, b1, b2, b3⟩ := mm_pop_eq _ _ _ _ _ hp
            rw [List.append_nil] at b1
            subst b1
            subst b3
            obtain ⟨s1, s2, s3⟩ := t9 rfl
            rw [b2]
            rw [← ho] at t3
            exact s0_callX t2 t3 s1 s2 hr s3 hl hd hs
          · exact hs.elim
        · exact hs.elim
      · exact hs.elim
  · split at hres
    · rename_i N hf; cases hres
      obtain ⟨M1, kind, k, ci, t1, t2, t3, t4, t5, t9, t6, t7, t8⟩ := ht.2.1 _ (mm_find hf)
      simp only [mm_step, t1] at hs
      split at hs
      · rename_i heq; cases heq
        split at hs
        · rename_i As st2 hp
          obtain ⟨Bs, b1, b2, b3⟩ := mm_pop_eq _ _ _ _ _ hp
          rw [List.append_nil] at b1
          subst b1
          subst b3
          rw [b2]
          rw [← ho] at t3
          exact s0_callS t2 t3 (t5 rfl) hs.1 hd hs.2
        · exact hs.elim
      · rename_i heq; cases heq
        split at hs
        · obtain ⟨w1, w2, w3, w4⟩ := t6 rfl; exact s0_max ho w1 w2 w3 w4 hs.1 hd (hK _ _ _ _ hs.2)
        · exact hs.elim
      · rename_i heq; cases heq
        split at hs
        · obtain ⟨w1, w2, w3, w4⟩ := t7 rfl; exact s0_min ho w1 w2 w3 w4 hs.1 hd (hK _ _ _ _ hs.2)
        · exact hs.elim
      · rename_i heq; cases heq
        split at hs
        · obtain ⟨w1, w2, w3, w4⟩ := t8 rfl; exact s0_abs ho w1 w2 w3 w4 hs.1 hd (hK _ _ _ _ hs.2)
        · exact hs.elim
      · exact hs.elim
    · split at hres
      · rename_i q hf; cases hres
        obtain ⟨z1, z2, z3⟩ := mm_find3 hf
        subst z3
        simp only [mm_step] at hs
        split at hs
        · split at hs
          · rename_i hr1
            split at hs
            · rename_i hr0
              obtain ⟨g1, g2, g3, g4, g5, g6, hs⟩ := hs
              exact fun n => sn_copyi (ho.trans z2.symm) (ht.2.2.2.2.2.2.2.2 q z1) hr0 hr1 g1 g2 g3 g4 g5 g6 hd (hK _ _ _ _ hs n)
            · exact hs.elim
            · split at hs
              · rename_i hr0
                obtain ⟨g1, g2, g3, g4, g5, g6, hs⟩ := hs
                exact fun n => sn_copyT (ho.trans z2.symm) (ht.2.2.2.2.2.2.2.2 q z1) hr0 hr1 g1 g2 g3 g4 g5 g6 hd (hK _ _ _ _ hs n)
              · exact hs.elim
          · exact hs.elim
        · exact hs.elim
      · cases hres
  · split at hres
    · rename_i dflt lo hi offs hj
      obtain ⟨j1, j2, j3⟩ := hj
      cases hres
      simp only [mm_step] at hs
      split at hs
      · rename_i x st2
        rw [Array.toList_map] at hs
        obtain ⟨g1, g2⟩ := mm_tsw_get _ _ hs
        intro n
        exact s0_tsw hd j1 j2 j3 (fun z => hK _ _ _ _ (g1 (by rw [List.length_map]; exact z)) n) (fun k o z1 z2 => hK _ _ _ _ (g2 k _ (by rw [List.getElem?_map, z1]; rfl) z2) n)
      · exact hs.elim
    · cases hres
  · split at hres
    · rename_i hj
      obtain ⟨j1, j2, j3⟩ := hj
      cases hres
      simp only [mm_step] at hs
      split at hs
      · rw [Array.toList_map] at hs
        have g1 := mm_lsw_get _ hs
        intro n
        exact s0_lsw hd j1 j2 j3 (hK _ _ _ _ g1 n)
      · exact hs.elim
    · cases hres
  · cases hres
theorem mw_ok {d : Nat} {M : mm_M} {Q : mm_Q0} {tab : Nat → Option (mm_M × Nat × Nat × Nat)} {tb : mm_T} (cut : Nat → Bool) (ht : mm_okT tab tb) (ho : M.1.cls = tb.1) : ∀ (k pc : Nat) (lv st : List Value) (h : mm_H), mw tb M tab (B0 d) (G0 (d + 1) M Q) Q cut k pc lv st h → G0 (d + 1) M Q pc lv st h
  | 0, pc, lv, st, h, hs => hs
  | k + 1, pc, lv, st, h, hs => by
    rw [mw] at hs
    split at hs
    · rename_i i nx hdec
      rw [mm_dec] at hdec
      split at hdec
      · rename_i i0 len hd
        refine mm_step_ok ht ho hd hdec (fun pc lv st h hk => ?_) hs
        rw [mm_cut] at hk
        cases hc : cut pc with
        | true => rw [hc] at hk; exact hk
        | false => rw [hc] at hk; exact mw_ok cut ht ho k pc lv st h hk
      · cases hdec
    · exact hs.elim
theorem b0_of_G0 {d : Nat} {M : mm_M} {Q : mm_Q0} {av lv : List Value} {h : mm_H} (hp : plainFor M.1 = true) (hlen : (mm_lay av).length ≤ M.2.2.1) (he : mm_ent av M.2.2.1 = lv) (hg : G0 d M Q 0 lv [] h) : B0 d M av h Q := fun n => body_of_G hp hlen he (hg n)
