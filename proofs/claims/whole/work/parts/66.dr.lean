/-! a drive's numbers are small; how the class packs them -/
theorem nI_or (x y : Nat) : nI x ||| nI y = nI (x ||| y) := Int32.toBitVec_inj.mp (by
  show BitVec.ofNat 32 x ||| BitVec.ofNat 32 y = BitVec.ofNat 32 (x ||| y)
  exact (BitVec.ofNat_or ..).symm)
theorem nI_orp {k a b : Nat} (ha : a < 2 ^ k) : nI a ||| nI (2 ^ k * b) = nI (a + 2 ^ k * b) := by
  rw [nI_or, Nat.or_comm, ← Nat.two_pow_add_eq_or_of_lt ha, Nat.add_comm]
theorem sh8 : ∀ b, b < 128 → nI b <<< ((8 : Int32) &&& 31) = nI (2 ^ 8 * b) := by decide +kernel
theorem sh16 : ∀ b, b < 128 → nI b <<< ((16 : Int32) &&& 31) = nI (2 ^ 16 * b) := by decide +kernel
theorem pck_is {a b v : Nat} (ha : a < 128) (hb : b < 128) (hv : v < 128) : pck (nI a) (nI b) (nI v) = nI (a + 256 * b + 65536 * v) := by
  rw [pck, sh8 b hb, sh16 v hv, nI_orp (by omega), nI_orp (by omega)]
theorem upk_is {n c : Nat} (hn : n < 2 ^ 31) (hc : c < 3) : upk (nI n) (nI c) = nI (n / 2 ^ (8 * c) % 256) := by
  have h1 : (((nI c * 8) &&& 31).toBitVec.smod 32).toNat = 8 * c := by
    rcases (show c = 0 ∨ c = 1 ∨ c = 2 by omega) with rfl | rfl | rfl <;> decide
  rw [upk, pk_shrN hn _ (8 * c) h1]
  refine pk_andN (n := n / 2 ^ (8 * c)) ?_ 8 (by decide)
  exact Nat.lt_of_le_of_lt (Nat.div_le_self _ _) (by omega)
theorem pck_upk {a b v c : Nat} (ha : a < 128) (hb : b < 128) (hv : v < 128) (hc : c < 3) : upk (pck (nI a) (nI b) (nI v)) (nI c) = tri (nI a) (nI b) (nI v) c := by
  rw [pck_is ha hb hv, upk_is (by omega) hc]
  rcases (show c = 0 ∨ c = 1 ∨ c = 2 by omega) with rfl | rfl | rfl
  · show nI _ = nI a; congr 1; omega
  · show nI _ = nI b; congr 1; omega
  · show nI _ = nI v; congr 1; omega
theorem bit_in : ∀ w, w < 128 → ∀ t, t < 7 → nI w ||| ((1 : Int32) <<< (nI t &&& 31)) = nI (w ||| 2 ^ t) ∧ w ||| 2 ^ t < 128 := by decide +kernel
/-- a drive's sums are within k -/
def BS (S : DS) (k : Nat) : Prop := (∃ w, w < 128 ∧ S.2.1 = nI w) ∧ (∃ w, w < 128 ∧ S.2.2.1 = nI w) ∧ (∃ v, v ≤ k ∧ S.2.2.2.1 = nI v) ∧ ∀ g, ∃ v, v ≤ k ∧ S.2.2.2.2.2.1 g = nI v
theorem BS.step {V : Nat → Int32} {tk : (Nat → Int32) → Nat → Int32} {S : DS} {t k : Nat} (h : BS S k) (ht : t < 7) (hv : ∃ v, v ≤ 9 ∧ V t = nI v) : BS (dstep V tk S t) (k + 9) := by
  obtain ⟨⟨w1, h1, e1⟩, ⟨w2, h2, e2⟩, ⟨v3, h3, e3⟩, h4⟩ := h
  obtain ⟨v, hv, ev⟩ := hv
  unfold dstep
  dsimp only
  split
  · refine ⟨⟨w1, h1, e1⟩, ⟨w2 ||| 2 ^ t, (bit_in w2 h2 t ht).2, ?_⟩, ⟨v3, by omega, e3⟩, fun g => ?_⟩
    · dsimp only; rw [e2]; exact (bit_in w2 h2 t ht).1
    · obtain ⟨u, hu, eu⟩ := h4 g; exact ⟨u, by omega, eu⟩
  · refine ⟨⟨w1 ||| 2 ^ t, (bit_in w1 h1 t ht).2, ?_⟩, ⟨w2, h2, e2⟩, ⟨v3 + v, by omega, ?_⟩, fun g => ?_⟩
    · dsimp only; rw [e1]; exact (bit_in w1 h1 t ht).1
    · dsimp only; rw [e3, ev, nI_add]
    · dsimp only
      by_cases hg : g = (tk S.2.2.2.2.2.2 t).toNatClampNeg
      · rw [← hg, us]
        obtain ⟨u, hu, eu⟩ := h4 g
        exact ⟨u + v, by omega, by rw [eu, ev, nI_add]⟩
      · rw [un hg]
        obtain ⟨u, hu, eu⟩ := h4 g; exact ⟨u, by omega, eu⟩
theorem BS.foldl {V : Nat → Int32} {tk : (Nat → Int32) → Nat → Int32} : ∀ (l : List Nat) (S : DS) (k : Nat), BS S k → (∀ t ∈ l, t < 7 ∧ ∃ v, v ≤ 9 ∧ V t = nI v) → BS (l.foldl (dstep V tk) S) (k + 9 * l.length)
  | [], S, k, h, _ => h
  | t :: l, S, k, h, hl => by
    rw [List.foldl_cons, List.length_cons, show k + 9 * (l.length + 1) = (k + 9) + 9 * l.length by omega]
    exact BS.foldl l _ _ (h.step (hl t List.mem_cons_self).1 (hl t List.mem_cons_self).2) (fun u hu => hl u (List.mem_cons_of_mem _ hu))
theorem BS_DRV {lw : Option ((Nat → Int32) → Int32)} {th now : Nat → Int32} {tn gn : Nat} (ht : tn ≤ 7) (hv : ∀ t, t < tn → 0 ≤ th (5 * t + 3) ∧ th (5 * t + 3) ≤ 9) : BS (DRV lw th now tn gn) 63 := by
  have hl := DRV_len (lw := lw) (th := th) (now := now) (tn := tn) (gn := gn)
  unfold DRV at hl ⊢
  rw [drv_1] at hl
  generalize hL : rout _ tn 10 = L at hl ⊢
  have key : ∀ tk, BS (drv (fun t => th (5 * t + 3)) tk L) (0 + 9 * L.length) := fun tk => BS.foldl L ds0 0 ⟨⟨0, by decide, rfl⟩, ⟨0, by decide, rfl⟩, ⟨0, by decide, rfl⟩, fun g => ⟨0, by decide, rfl⟩⟩ (fun t ht2 => by
    rw [← hL] at ht2
    have := (rout_mem.mp ht2).1
    refine ⟨by omega, ?_⟩
    obtain ⟨v, h1, h2⟩ := ix9 (n := 9) (m := 9) rfl (hv t this)
    exact ⟨v, h1, h2⟩)
  obtain ⟨h1, h2, ⟨v, h3, h3'⟩, h4⟩ := key _
  exact ⟨h1, h2, ⟨v, by omega, h3'⟩, fun g => by obtain ⟨u, q1, q2⟩ := h4 g; exact ⟨u, by omega, q2⟩⟩
theorem capBag_in {b v : Nat} (hb : b ≤ 9999) (hv : v ≤ 63) : 0 ≤ capBag (nI b + nI v) ∧ capBag (nI b + nI v) ≤ 9999 := by
  rw [nI_add]
  unfold capBag
  split
  · rename_i h; exact ⟨nI_pos' (by omega), by rw [Int32.le_iff_toInt_le]; rw [Int32.lt_iff_toInt_lt] at h; omega⟩
  · exact ⟨by decide, by decide⟩
/-- a season beside a row, a drive later -/
theorem RW.drive {gn D : Nat} {c m c' m' ring : Nat → Int32} {S : DS} (h : RW gn c m ring D) (hg5 : gn ≤ 5) (hD : D < 999) (hS : BS S 63) (hN : NP m m' gn S) (hL : LG m' (lnum (min D 60)) (lput (min D 60) (mlog m) (tri S.2.1 S.2.2.1 S.2.2.2.1)))
    (hlo : ∀ i, i < 16 → i ≠ 1 → i ≠ 4 → i ≠ 5 → c' i = c i) (h1 : c' 1 = capCoin (c 1 + 3)) (h4 : c' 4 = c 4 &&& (S.2.1 ^^^ -1)) (h5 : c' 5 = c 5 + 1) (hb : ∀ g, g < gn → c' (16 + g) = capBag (c (16 + g) + S.2.2.2.2.2.1 g)) (hb2 : ∀ g, gn ≤ g → g < 5 → c' (16 + g) = c (16 + g)) : RW gn c' m' (upd ring (D % 100) (pck S.2.1 S.2.2.1 S.2.2.2.1)) (D + 1) := by
  obtain ⟨r1, r2, r3, r4, r5, r6, r7, r8, r9⟩ := h
  obtain ⟨n1, n2, n3, n4, n5, n6, n7, n8, n9⟩ := hN
  obtain ⟨⟨w1, q1, e1⟩, ⟨w2, q2, e2⟩, ⟨w3, q3, e3⟩, q4⟩ := hS
  refine ⟨fun g hg => ?_, fun hg => ?_, ?_, fun g g1 g2 => ?_, fun g hg => ?_, by omega, ?_, ?_, fun i k hi hk => ?_⟩
  · rw [hlo _ (by omega) (by omega) (by omega) (by omega), hlo _ (by omega) (by omega) (by omega) (by omega), hb g hg, n1 _ (by omega), n1 _ (by omega), n2 g hg, (r1 g hg).2.2]
    exact ⟨(r1 g hg).1, (r1 g hg).2.1, rfl⟩
  · rw [hlo 0 (by decide) (by decide) (by decide) (by decide), hlo 2 (by decide) (by decide) (by decide) (by decide), hlo 3 (by decide) (by decide) (by decide) (by decide), n4, n5, n6]; exact r2 hg
  · rw [h4, h1, h5, n7, n8, n9, r3.1, r3.2.1, r3.2.2]; exact ⟨rfl, rfl, rfl⟩
  · rw [hb2 g g1 g2]; exact r4 g g1 g2
  · rw [n1 _ (by omega), n1 _ (by omega), n2 g hg]
    refine ⟨(r5 g hg).1, (r5 g hg).2.1, ?_⟩
    obtain ⟨b, b1, b2⟩ := ix9 (n := 9999) (m := 9999) rfl (r5 g hg).2.2
    obtain ⟨u, u1, u2⟩ := q4 g
    rw [b2, u2]
    exact capBag_in b1 u1
  · rw [n9, r7, nI_1]
  · rw [hL.1]
    congr 1
    unfold lnum
    split <;> omega
  · have hl : lnum (min D 60) = min (D + 1) 60 := by unfold lnum; split <;> omega
    have hx := hL.2.2 (min (D + 1) 60 - 1 - i) k (by omega) hk
    rw [hx]
    by_cases hi0 : i = 0
    · subst hi0
      rw [Nat.sub_zero, show (D + 1 - 1 - 0) % 100 = D % 100 by omega, us, e1, e2, e3, pck_upk q1 q2 (by omega) hk]
      unfold lput
      by_cases h60 : min D 60 = 60
      · rw [if_pos h60, if_neg (by omega)]
      · rw [if_neg h60, if_neg (by omega)]
    · rw [un (by omega), show D + 1 - 1 - i = D - 1 - (i - 1) by omega, ← r9 (i - 1) k (by omega) hk]
      unfold lput mlog
      by_cases h60 : min D 60 = 60
      · rw [if_pos h60, if_pos (by omega)]; congr 1; omega
      · rw [if_neg h60, if_pos (by omega)]; congr 1; omega
