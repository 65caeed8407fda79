/-! THE LAW, FROM ITS ENTRY -/
section Z1
variable {Γ : mm_Γ} {L : Nat} {xs : Nat → Int32}
theorem law_go (hX : mm_scr Γ L xs) (hL : L ≤ 3072) (hR : Γ.R = room_1) (hst : Γ.l.stackTraces = false) (hexit : ∀ cl sl n h i, cl ≤ 601024 → sl ≤ 7293034 → GZ Γ mL_law cl sl 1478 (lvL i) [] n h) : GZ Γ mL_law 0 0 0 [.ref 1030, .null, .null, .null, .null, .null, .null] [] 0 (hl []) := by
  have hc : ∀ k, k ≤ 601024 → k ≤ Γ.R.cells := fun k hk => by rw [hR]; exact hk
  have hs : ∀ k, k ≤ 7293034 → k ≤ Γ.R.slots := fun k hk => by rw [hR]; exact hk
  refine gz_new (own := RL) (q := (RX11, TX11, 14)) (ci := 11) (index := 8) (fs := [.null, .null, .null, .null, .null, .int 0, .int 0, .int 0, .long 0, .null, .null, .null, .null, .null]) rfl okcX11 rfl (mm_in 1 27 rfl rfl) (mm_in 1 28 rfl rfl) (mm_in 1 1 rfl rfl) (by decide) (fun k x hx => by cases hx) (fun v hv => ?_) (fun v hv => by cases hv) tyX11 tyX11_ok dfX11 (noref rfl) (hc _ (by decide)) (hs _ (Nat.le_of_ble_eq_true rfl)) (by decide +kernel) ?_
  · simp only [List.mem_cons, List.not_mem_nil, or_false, or_self] at hv
    rcases hv with rfl | rfl <;> intro z <;> cases z
  rw [hl_push (L := []) (n := 0) rfl]
  refine gz_dup (by decide +kernel) rfl ?_
  have hN0 : NR ([] ++ [(.inr (11, [.null, .null, .null, .null, .null, .int 0, .int 0, .int 0, .long 0, .null, .null, .null, .null, .null]) : mm_C)]) := NR_push (fun m _ c hc => by cases hc) (fun m _ v hv z => noref rfl v hv m z)
  refine gz_callI (M' := mX11_init) (d := 2) (j := 15) (r := 0) (mc' := 55) (ms' := 2169) (As := []) (st := [.ref 0]) (Q1 := fun v n' h' => v = none ∧ n' = 56 ∧ h' = hl L56 ∧ NR L56) okM_X11_init rfl (mm_in 1 29 rfl rfl) (mm_in 1 30 rfl rfl) rfl (Nat.le_of_ble_eq_true rfl) (by decide +kernel) (by rw [hR]; decide) (hc _ (Nat.le_of_ble_eq_true rfl)) (hs _ (Nat.le_of_ble_eq_true rfl)) (ct_X11 (d := 0) [] _ hN0 (by decide) (fun hN => ⟨rfl, rfl, rfl, hN⟩)) ?_
  rintro v n' h' ⟨rfl, rfl, rfl, hN⟩ -
  refine ⟨fun ad ad' hk => ⟨?_, ?_⟩, ?_⟩
  · simp only [List.map_cons, List.map_nil, mm_t, hk 1030 (by decide)]
  · simp only [List.map_cons, List.map_nil, mm_t, hk 0 (by decide)]
  refine gz_astore_n (j := 1) (x := 0) (by decide +kernel) (by decide) ?_
  show GZ Γ mL_law _ _ _ [.ref 1030, .ref 0, .null, .null, .null, .null, .null] [] 56 (hl L56)
  refine gz_new (own := RL) (q := (RX12, TX12, 52)) (ci := 12) (index := 16) (fs := [.int 0, .null, .int 0, .int 0, .int 0, .int 0, .null, .null, .null, .null, .null, .null, .null, .int 0, .int 0, .null, .null, .null, .null, .null, .int 0, .int 0, .null, .null, .int 0, .int 0, .null, .null, .int 0, .int 0, .null, .null, .null, .null, .int 0, .int 0, .int 0, .int 0, .null, .int 0, .long 0, .int 0, .int 0, .null, .null, .null, .null, .null, .null, .int 0, .null, .int 0]) rfl okcX12 rfl (mm_in 5 202 rfl rfl) (mm_in 5 203 rfl rfl) (mm_in 1 12 rfl rfl) (by decide) (hN.no (n := 56) (Nat.le_of_eq rfl)) (fun v hv => ?_) (fun v hv => by cases hv) tyX12 tyX12_ok dfX12 (noref rfl) (hc _ (Nat.le_of_ble_eq_true rfl)) (hs _ (Nat.le_of_ble_eq_true rfl)) (by decide +kernel) ?_
  · simp only [List.mem_cons, List.not_mem_nil, or_false, or_self] at hv
    rcases hv with rfl | rfl | rfl <;> intro z <;> cases z
  rw [hl_push (L := L56) (n := 56) rfl]
  refine gz_dup (by decide +kernel) rfl ?_
  have hN1 : NR (L56 ++ [(.inr (12, [.int 0, .null, .int 0, .int 0, .int 0, .int 0, .null, .null, .null, .null, .null, .null, .null, .int 0, .int 0, .null, .null, .null, .null, .null, .int 0, .int 0, .null, .null, .int 0, .int 0, .null, .null, .int 0, .int 0, .null, .null, .null, .null, .int 0, .int 0, .int 0, .int 0, .null, .int 0, .long 0, .int 0, .int 0, .null, .null, .null, .null, .null, .null, .int 0, .null, .int 0]) : mm_C)]) := NR_push hN (fun m _ v hv z => noref rfl v hv m z)
  refine gz_callI (M' := mX12_init) (d := 0) (j := 18) (r := 56) (mc' := 29) (ms' := 16287) (As := []) (st := [.ref 56]) (Q1 := fun v n' h' => v = none ∧ n' = 86 ∧ h' = hl L86 ∧ NR L86) okM_X12_init rfl (mm_in 5 204 rfl rfl) (mm_in 5 205 rfl rfl) rfl (Nat.le_of_ble_eq_true rfl) (by decide +kernel) (by rw [hR]; decide) (hc _ (Nat.le_of_ble_eq_true rfl)) (hs _ (Nat.le_of_ble_eq_true rfl)) (ct_X12 (d := 0) L56 _ hN1 (Nat.le_of_ble_eq_true rfl) (fun hN => ⟨rfl, rfl, rfl, hN⟩)) ?_
  rintro v n' h' ⟨rfl, rfl, rfl, hN2⟩ -
  refine ⟨fun ad ad' hk => ⟨?_, ?_⟩, ?_⟩
  · simp only [List.map_cons, List.map_nil, mm_t, hk 1030 (by decide), hk 0 (by decide)]
  · simp only [List.map_cons, List.map_nil, mm_t, hk 56 (by decide)]
  refine gz_astore_n (j := 2) (x := 56) (by decide +kernel) (by decide) ?_
  show GZ Γ mL_law _ _ _ [.ref 1030, .ref 0, .ref 56, .null, .null, .null, .null] [] 86 (hl L86)
  refine gz_iconst (j := 1) (by decide +kernel) ?_
  refine gz_newa (n := 86) (atype := .long) (ty := .long) (N := 1) (a0 := (1, .inr (.inl fun _ => 0))) (mm_in 8 90 rfl rfl) rfl (by decide) (hN2.no (n := 86) (Nat.le_of_eq rfl)) (fun v hv => ?_) (fun v hv => by cases hv) (fun _ => rfl) (fun _ => rfl) (by decide) (by decide) (by decide) (hc _ (Nat.le_of_ble_eq_true rfl)) (hs _ (Nat.le_of_ble_eq_true rfl)) (by decide +kernel) ?_
  · simp only [List.mem_cons, List.not_mem_nil, or_false, or_self] at hv
    rcases hv with rfl | rfl | rfl | rfl <;> intro z <;> cases z
  rw [hl_push (L := L86) (n := 86) rfl]
  refine gz_astore_n (j := 3) (x := 86) (by decide +kernel) (by decide) ?_
  refine gz_iconst (j := 0) (by decide +kernel) ?_
  refine gz_istore (j := 4) (x := Int32.ofInt 0) (by decide +kernel) (by decide) ?_
  show GZ Γ mL_law _ _ 23 (lvL 0) [] 87 (hl L87)
  rw [hl_HP]
  exact law_loop hX hL hR hst hexit 512 0 _ _ 87 ep0 mu0 (by omega) (by decide) (by decide) (by decide) J0
end Z1
theorem whole_start {p : Program} {e : Env} {s : State} {m : MethodId} {below : List Frame} {meth : Method} {c : Code} (l : Launch) (hst : l.stackTraces = false) {b L : Nat} {xs : Nat → Int32} (hL : L ≤ 3072) (C0 : lw_At p s m meth c b L xs) : W p l e room_1 s m #[Value.ref b] below meth c s.heap [] 0 0 (lw_Z below #[Value.ref b] s) (entryFrame m ([Value.ref b] : List Value).toArray 7) := by
  obtain ⟨hx, hb, hr, hml, hown, hts, hX, hbl, hlk, hgv⟩ := C0
  have hgw : ∀ w ∈ mm_gw, w.before #[Value.ref b] s = true := fun w hw => hts w (List.mem_filter.mp hw).1
  obtain ⟨D, hK⟩ := start_K hgw
  obtain ⟨ad, had, hZ⟩ := start_Z hts hgv
  have hSim : mm_Sim D ad (fun _ => m.cls) 0 (hl []) (fun q => s.heap.size ≤ q) s s.heap := ⟨⟨by decide, fun k => by simp [hl]⟩, fun k q hk => (by simp [mm_ws] at hk), ⟨fun i j p q hi => (by simp [mm_ws] at hi), fun k q hk => (by simp [mm_ws] at hk)⟩, hK, fun k a ha => (by cases ha), hZ⟩
  have hAZ : mm_AtZ p s m #[Value.ref b] meth c mL_law := ⟨hx, hb, hr, hml, hown, hgw, hlk⟩
  have hG := law_go (Γ := (l, D, p, e, s, m, #[Value.ref b], below, meth, c, fun q => s.heap.size ≤ q, room_1, lw_Z below #[Value.ref b] s, ad, 0)) (L := L) (xs := xs) ⟨by show va_X (ad 1030) L xs s s.heap; rw [had]; exact hX, by show ad 1030 < s.heap.size; rw [had]; exact hbl, by show ¬ s.heap.size ≤ ad 1030; rw [had]; exact Nat.not_le.mpr hbl⟩ hL rfl hst (fun cl sl n h i hcl hsl => by
    refine gz_iconst (j := 1) (by decide +kernel) ?_
    intro H locs ls ad' ac' hA hS hAA hSim' hlv hn0 had'
    refine W.widen hcl hsl ?_
    exact W.forget (locs := []) (L := locs) (fun q hq => hS.2.2 q hq) (lw_ret hx hb hr hlk (by decide +kernel))) s.heap [] _ ad (fun _ => m.cls) hAZ va_S.rf (fun q hq => hq) hSim (mm_ent_lv ad [.ref 1030] (Nat.le_of_ble_eq_true rfl)) (Nat.le_refl 0) (fun _ _ => rfl)
  have e1 : ([.ref 1030] : List Value).map (mm_t ad) = [.ref b] := by show [Value.ref (ad 1030)] = _; rw [had]
  rw [e1] at hG
  rw [lg_entry_eq]
  exact hG
