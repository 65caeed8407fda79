/-! THE CLASS: the season that is meant: as it is now (24), or one to try out (28) -/
abbrev sS (s : Nat) : Prop := s = 24 ∨ s = 28
section CS
variable {tab : Nat → Option (mm_M × Nat × Nat × Nat)} {Bd : mm_M → List Value → mm_H → mm_Q0 → Prop} {B K : Nat → List Value → List Value → mm_H → Prop} {Q : mm_Q0} {nx : Nat} {lv st : List Value} {ε : mm_X} {μ : mm_mu} {s : Nat}
theorem gs_800 (hs : sS s) : mm_step tab Bd B K Q (.getfield 800) nx lv (.ref s :: st) (HP ε μ) = K nx lv (.int (μ s 0) :: st) (HP ε μ) := by
  rcases hs with rfl | rfl
  · exact gf_24_800
  · exact gf_28_800
theorem ps_800 (hs : sS s) {x : Int32} : mm_step tab Bd B K Q (.putfield 800) nx lv (.int x :: .ref s :: st) (HP ε μ) = K nx lv st (HP ε (mup μ s 0 x)) := by
  rcases hs with rfl | rfl
  · exact pf_24_800
  · exact pf_28_800
theorem gs_801 (hs : sS s) : mm_step tab Bd B K Q (.getfield 801) nx lv (.ref s :: st) (HP ε μ) = K nx lv (.int (μ s 1) :: st) (HP ε μ) := by
  rcases hs with rfl | rfl
  · exact gf_24_801
  · exact gf_28_801
theorem ps_801 (hs : sS s) {x : Int32} : mm_step tab Bd B K Q (.putfield 801) nx lv (.int x :: .ref s :: st) (HP ε μ) = K nx lv st (HP ε (mup μ s 1 x)) := by
  rcases hs with rfl | rfl
  · exact pf_24_801
  · exact pf_28_801
theorem gs_802 (hs : sS s) : mm_step tab Bd B K Q (.getfield 802) nx lv (.ref s :: st) (HP ε μ) = K nx lv (.int (μ s 2) :: st) (HP ε μ) := by
  rcases hs with rfl | rfl
  · exact gf_24_802
  · exact gf_28_802
theorem ps_802 (hs : sS s) {x : Int32} : mm_step tab Bd B K Q (.putfield 802) nx lv (.int x :: .ref s :: st) (HP ε μ) = K nx lv st (HP ε (mup μ s 2 x)) := by
  rcases hs with rfl | rfl
  · exact pf_24_802
  · exact pf_28_802
theorem gs_803 (hs : sS s) : mm_step tab Bd B K Q (.getfield 803) nx lv (.ref s :: st) (HP ε μ) = K nx lv (.int (μ s 3) :: st) (HP ε μ) := by
  rcases hs with rfl | rfl
  · exact gf_24_803
  · exact gf_28_803
theorem ps_803 (hs : sS s) {x : Int32} : mm_step tab Bd B K Q (.putfield 803) nx lv (.int x :: .ref s :: st) (HP ε μ) = K nx lv st (HP ε (mup μ s 3 x)) := by
  rcases hs with rfl | rfl
  · exact pf_24_803
  · exact pf_28_803
theorem gs_804 (hs : sS s) : mm_step tab Bd B K Q (.getfield 804) nx lv (.ref s :: st) (HP ε μ) = K nx lv (.int (μ s 4) :: st) (HP ε μ) := by
  rcases hs with rfl | rfl
  · exact gf_24_804
  · exact gf_28_804
theorem ps_804 (hs : sS s) {x : Int32} : mm_step tab Bd B K Q (.putfield 804) nx lv (.int x :: .ref s :: st) (HP ε μ) = K nx lv st (HP ε (mup μ s 4 x)) := by
  rcases hs with rfl | rfl
  · exact pf_24_804
  · exact pf_28_804
theorem gs_805 (hs : sS s) : mm_step tab Bd B K Q (.getfield 805) nx lv (.ref s :: st) (HP ε μ) = K nx lv (.int (μ s 5) :: st) (HP ε μ) := by
  rcases hs with rfl | rfl
  · exact gf_24_805
  · exact gf_28_805
theorem ps_805 (hs : sS s) {x : Int32} : mm_step tab Bd B K Q (.putfield 805) nx lv (.int x :: .ref s :: st) (HP ε μ) = K nx lv st (HP ε (mup μ s 5 x)) := by
  rcases hs with rfl | rfl
  · exact pf_24_805
  · exact pf_28_805
theorem gs_806 (hs : sS s) : mm_step tab Bd B K Q (.getfield 806) nx lv (.ref s :: st) (HP ε μ) = K nx lv (.ref (s + 1) :: st) (HP ε μ) := by
  rcases hs with rfl | rfl
  · exact gf_24_806
  · exact gf_28_806
theorem ls_1 (hs : sS s) {i : Int32} : mm_step tab Bd B K Q .iaload nx lv (.int i :: .ref (s + 1) :: st) (HP ε μ) = (vp_in i 5 ∧ K nx lv (.int (μ (s + 1) i.toNatClampNeg) :: st) (HP ε μ)) := by
  rcases hs with rfl | rfl
  · exact ld_25
  · exact ld_29
theorem vs_1 (hs : sS s) {i x : Int32} : mm_step tab Bd B K Q .iastore nx lv (.int x :: .int i :: .ref (s + 1) :: st) (HP ε μ) = (vp_in i 5 ∧ K nx lv st (HP ε (mup μ (s + 1) i.toNatClampNeg x))) := by
  rcases hs with rfl | rfl
  · exact sv_25
  · exact sv_29
theorem gs_807 (hs : sS s) : mm_step tab Bd B K Q (.getfield 807) nx lv (.ref s :: st) (HP ε μ) = K nx lv (.ref (s + 2) :: st) (HP ε μ) := by
  rcases hs with rfl | rfl
  · exact gf_24_807
  · exact gf_28_807
theorem ls_2 (hs : sS s) {i : Int32} : mm_step tab Bd B K Q .iaload nx lv (.int i :: .ref (s + 2) :: st) (HP ε μ) = (vp_in i 5 ∧ K nx lv (.int (μ (s + 2) i.toNatClampNeg) :: st) (HP ε μ)) := by
  rcases hs with rfl | rfl
  · exact ld_26
  · exact ld_30
theorem vs_2 (hs : sS s) {i x : Int32} : mm_step tab Bd B K Q .iastore nx lv (.int x :: .int i :: .ref (s + 2) :: st) (HP ε μ) = (vp_in i 5 ∧ K nx lv st (HP ε (mup μ (s + 2) i.toNatClampNeg x))) := by
  rcases hs with rfl | rfl
  · exact sv_26
  · exact sv_30
theorem gs_808 (hs : sS s) : mm_step tab Bd B K Q (.getfield 808) nx lv (.ref s :: st) (HP ε μ) = K nx lv (.ref (s + 3) :: st) (HP ε μ) := by
  rcases hs with rfl | rfl
  · exact gf_24_808
  · exact gf_28_808
theorem ls_3 (hs : sS s) {i : Int32} : mm_step tab Bd B K Q .iaload nx lv (.int i :: .ref (s + 3) :: st) (HP ε μ) = (vp_in i 5 ∧ K nx lv (.int (μ (s + 3) i.toNatClampNeg) :: st) (HP ε μ)) := by
  rcases hs with rfl | rfl
  · exact ld_27
  · exact ld_31
theorem vs_3 (hs : sS s) {i x : Int32} : mm_step tab Bd B K Q .iastore nx lv (.int x :: .int i :: .ref (s + 3) :: st) (HP ε μ) = (vp_in i 5 ∧ K nx lv st (HP ε (mup μ (s + 3) i.toNatClampNeg x))) := by
  rcases hs with rfl | rfl
  · exact sv_27
  · exact sv_31
theorem HPs (hs : sS s) : HP ε μ s = some (.inr (8, [.int (μ s 0), .int (μ s 1), .int (μ s 2), .int (μ s 3), .int (μ s 4), .int (μ s 5), .ref (s + 1), .ref (s + 2), .ref (s + 3)])) := by
  rcases hs with rfl | rfl
  · exact HP_24
  · exact HP_28
theorem cp_5_19 {j : Nat} {k dp sp : Int32} : mm_step tab Bd B K Q (.invokespecial j) nx lv (.int k :: .int dp :: .ref 19 :: .int sp :: .ref 5 :: st) (HP ε μ) = (¬ sp < 0 ∧ ¬ dp < 0 ∧ ¬ k < 0 ∧ sp.toNatClampNeg + k.toNatClampNeg ≤ 7 ∧ dp.toNatClampNeg + k.toNatClampNeg ≤ 7 ∧ (st.map fun v => v.category).sum ≤ 8 ∧ K nx lv st (HP ε (mcp μ 19 (μ 5) sp.toNatClampNeg dp.toNatClampNeg k.toNatClampNeg))) := cp_gen HP_5 HP_19 (fun _ => rfl)
theorem cp_6_20 {j : Nat} {k dp sp : Int32} : mm_step tab Bd B K Q (.invokespecial j) nx lv (.int k :: .int dp :: .ref 20 :: .int sp :: .ref 6 :: st) (HP ε μ) = (¬ sp < 0 ∧ ¬ dp < 0 ∧ ¬ k < 0 ∧ sp.toNatClampNeg + k.toNatClampNeg ≤ 7 ∧ dp.toNatClampNeg + k.toNatClampNeg ≤ 7 ∧ (st.map fun v => v.category).sum ≤ 8 ∧ K nx lv st (HP ε (mcp μ 20 (μ 6) sp.toNatClampNeg dp.toNatClampNeg k.toNatClampNeg))) := cp_gen HP_6 HP_20 (fun _ => rfl)
theorem cp_7_21 {j : Nat} {k dp sp : Int32} : mm_step tab Bd B K Q (.invokespecial j) nx lv (.int k :: .int dp :: .ref 21 :: .int sp :: .ref 7 :: st) (HP ε μ) = (¬ sp < 0 ∧ ¬ dp < 0 ∧ ¬ k < 0 ∧ sp.toNatClampNeg + k.toNatClampNeg ≤ 7 ∧ dp.toNatClampNeg + k.toNatClampNeg ≤ 7 ∧ (st.map fun v => v.category).sum ≤ 8 ∧ K nx lv st (HP ε (mcp μ 21 (μ 7) sp.toNatClampNeg dp.toNatClampNeg k.toNatClampNeg))) := cp_gen HP_7 HP_21 (fun _ => rfl)
theorem cp_8_22 {j : Nat} {k dp sp : Int32} : mm_step tab Bd B K Q (.invokespecial j) nx lv (.int k :: .int dp :: .ref 22 :: .int sp :: .ref 8 :: st) (HP ε μ) = (¬ sp < 0 ∧ ¬ dp < 0 ∧ ¬ k < 0 ∧ sp.toNatClampNeg + k.toNatClampNeg ≤ 7 ∧ dp.toNatClampNeg + k.toNatClampNeg ≤ 7 ∧ (st.map fun v => v.category).sum ≤ 8 ∧ K nx lv st (HP ε (mcp μ 22 (μ 8) sp.toNatClampNeg dp.toNatClampNeg k.toNatClampNeg))) := cp_gen HP_8 HP_22 (fun _ => rfl)
theorem cp_9_23 {j : Nat} {k dp sp : Int32} : mm_step tab Bd B K Q (.invokespecial j) nx lv (.int k :: .int dp :: .ref 23 :: .int sp :: .ref 9 :: st) (HP ε μ) = (¬ sp < 0 ∧ ¬ dp < 0 ∧ ¬ k < 0 ∧ sp.toNatClampNeg + k.toNatClampNeg ≤ 7 ∧ dp.toNatClampNeg + k.toNatClampNeg ≤ 7 ∧ (st.map fun v => v.category).sum ≤ 8 ∧ K nx lv st (HP ε (mcp μ 23 (μ 9) sp.toNatClampNeg dp.toNatClampNeg k.toNatClampNeg))) := cp_gen HP_9 HP_23 (fun _ => rfl)
theorem cp_11_25 {j : Nat} {k dp sp : Int32} : mm_step tab Bd B K Q (.invokespecial j) nx lv (.int k :: .int dp :: .ref 25 :: .int sp :: .ref 11 :: st) (HP ε μ) = (¬ sp < 0 ∧ ¬ dp < 0 ∧ ¬ k < 0 ∧ sp.toNatClampNeg + k.toNatClampNeg ≤ 5 ∧ dp.toNatClampNeg + k.toNatClampNeg ≤ 5 ∧ (st.map fun v => v.category).sum ≤ 8 ∧ K nx lv st (HP ε (mcp μ 25 (μ 11) sp.toNatClampNeg dp.toNatClampNeg k.toNatClampNeg))) := cp_gen HP_11 HP_25 (fun _ => rfl)
theorem cp_12_26 {j : Nat} {k dp sp : Int32} : mm_step tab Bd B K Q (.invokespecial j) nx lv (.int k :: .int dp :: .ref 26 :: .int sp :: .ref 12 :: st) (HP ε μ) = (¬ sp < 0 ∧ ¬ dp < 0 ∧ ¬ k < 0 ∧ sp.toNatClampNeg + k.toNatClampNeg ≤ 5 ∧ dp.toNatClampNeg + k.toNatClampNeg ≤ 5 ∧ (st.map fun v => v.category).sum ≤ 8 ∧ K nx lv st (HP ε (mcp μ 26 (μ 12) sp.toNatClampNeg dp.toNatClampNeg k.toNatClampNeg))) := cp_gen HP_12 HP_26 (fun _ => rfl)
theorem cp_13_27 {j : Nat} {k dp sp : Int32} : mm_step tab Bd B K Q (.invokespecial j) nx lv (.int k :: .int dp :: .ref 27 :: .int sp :: .ref 13 :: st) (HP ε μ) = (¬ sp < 0 ∧ ¬ dp < 0 ∧ ¬ k < 0 ∧ sp.toNatClampNeg + k.toNatClampNeg ≤ 5 ∧ dp.toNatClampNeg + k.toNatClampNeg ≤ 5 ∧ (st.map fun v => v.category).sum ≤ 8 ∧ K nx lv st (HP ε (mcp μ 27 (μ 13) sp.toNatClampNeg dp.toNatClampNeg k.toNatClampNeg))) := cp_gen HP_13 HP_27 (fun _ => rfl)
theorem cp_25_29 {j : Nat} {k dp sp : Int32} : mm_step tab Bd B K Q (.invokespecial j) nx lv (.int k :: .int dp :: .ref 29 :: .int sp :: .ref 25 :: st) (HP ε μ) = (¬ sp < 0 ∧ ¬ dp < 0 ∧ ¬ k < 0 ∧ sp.toNatClampNeg + k.toNatClampNeg ≤ 5 ∧ dp.toNatClampNeg + k.toNatClampNeg ≤ 5 ∧ (st.map fun v => v.category).sum ≤ 8 ∧ K nx lv st (HP ε (mcp μ 29 (μ 25) sp.toNatClampNeg dp.toNatClampNeg k.toNatClampNeg))) := cp_gen HP_25 HP_29 (fun _ => rfl)
theorem cp_26_30 {j : Nat} {k dp sp : Int32} : mm_step tab Bd B K Q (.invokespecial j) nx lv (.int k :: .int dp :: .ref 30 :: .int sp :: .ref 26 :: st) (HP ε μ) = (¬ sp < 0 ∧ ¬ dp < 0 ∧ ¬ k < 0 ∧ sp.toNatClampNeg + k.toNatClampNeg ≤ 5 ∧ dp.toNatClampNeg + k.toNatClampNeg ≤ 5 ∧ (st.map fun v => v.category).sum ≤ 8 ∧ K nx lv st (HP ε (mcp μ 30 (μ 26) sp.toNatClampNeg dp.toNatClampNeg k.toNatClampNeg))) := cp_gen HP_26 HP_30 (fun _ => rfl)
theorem cp_27_31 {j : Nat} {k dp sp : Int32} : mm_step tab Bd B K Q (.invokespecial j) nx lv (.int k :: .int dp :: .ref 31 :: .int sp :: .ref 27 :: st) (HP ε μ) = (¬ sp < 0 ∧ ¬ dp < 0 ∧ ¬ k < 0 ∧ sp.toNatClampNeg + k.toNatClampNeg ≤ 5 ∧ dp.toNatClampNeg + k.toNatClampNeg ≤ 5 ∧ (st.map fun v => v.category).sum ≤ 8 ∧ K nx lv st (HP ε (mcp μ 31 (μ 27) sp.toNatClampNeg dp.toNatClampNeg k.toNatClampNeg))) := cp_gen HP_27 HP_31 (fun _ => rfl)
theorem cp_25_41 {j : Nat} {k dp sp : Int32} : mm_step tab Bd B K Q (.invokespecial j) nx lv (.int k :: .int dp :: .ref 41 :: .int sp :: .ref 25 :: st) (HP ε μ) = (¬ sp < 0 ∧ ¬ dp < 0 ∧ ¬ k < 0 ∧ sp.toNatClampNeg + k.toNatClampNeg ≤ 5 ∧ dp.toNatClampNeg + k.toNatClampNeg ≤ 840 ∧ (st.map fun v => v.category).sum ≤ 8 ∧ K nx lv st (HP ε (mcp μ 41 (μ 25) sp.toNatClampNeg dp.toNatClampNeg k.toNatClampNeg))) := cp_gen HP_25 HP_41 (fun _ => rfl)
theorem cp_26_41 {j : Nat} {k dp sp : Int32} : mm_step tab Bd B K Q (.invokespecial j) nx lv (.int k :: .int dp :: .ref 41 :: .int sp :: .ref 26 :: st) (HP ε μ) = (¬ sp < 0 ∧ ¬ dp < 0 ∧ ¬ k < 0 ∧ sp.toNatClampNeg + k.toNatClampNeg ≤ 5 ∧ dp.toNatClampNeg + k.toNatClampNeg ≤ 840 ∧ (st.map fun v => v.category).sum ≤ 8 ∧ K nx lv st (HP ε (mcp μ 41 (μ 26) sp.toNatClampNeg dp.toNatClampNeg k.toNatClampNeg))) := cp_gen HP_26 HP_41 (fun _ => rfl)
theorem cp_27_41 {j : Nat} {k dp sp : Int32} : mm_step tab Bd B K Q (.invokespecial j) nx lv (.int k :: .int dp :: .ref 41 :: .int sp :: .ref 27 :: st) (HP ε μ) = (¬ sp < 0 ∧ ¬ dp < 0 ∧ ¬ k < 0 ∧ sp.toNatClampNeg + k.toNatClampNeg ≤ 5 ∧ dp.toNatClampNeg + k.toNatClampNeg ≤ 840 ∧ (st.map fun v => v.category).sum ≤ 8 ∧ K nx lv st (HP ε (mcp μ 41 (μ 27) sp.toNatClampNeg dp.toNatClampNeg k.toNatClampNeg))) := cp_gen HP_27 HP_41 (fun _ => rfl)
theorem cp_25_43 {j : Nat} {k dp sp : Int32} : mm_step tab Bd B K Q (.invokespecial j) nx lv (.int k :: .int dp :: .ref 43 :: .int sp :: .ref 25 :: st) (HP ε μ) = (¬ sp < 0 ∧ ¬ dp < 0 ∧ ¬ k < 0 ∧ sp.toNatClampNeg + k.toNatClampNeg ≤ 5 ∧ dp.toNatClampNeg + k.toNatClampNeg ≤ 21 ∧ (st.map fun v => v.category).sum ≤ 8 ∧ K nx lv st (HP ε (mcp μ 43 (μ 25) sp.toNatClampNeg dp.toNatClampNeg k.toNatClampNeg))) := cp_gen HP_25 HP_43 (fun _ => rfl)
theorem cp_26_43 {j : Nat} {k dp sp : Int32} : mm_step tab Bd B K Q (.invokespecial j) nx lv (.int k :: .int dp :: .ref 43 :: .int sp :: .ref 26 :: st) (HP ε μ) = (¬ sp < 0 ∧ ¬ dp < 0 ∧ ¬ k < 0 ∧ sp.toNatClampNeg + k.toNatClampNeg ≤ 5 ∧ dp.toNatClampNeg + k.toNatClampNeg ≤ 21 ∧ (st.map fun v => v.category).sum ≤ 8 ∧ K nx lv st (HP ε (mcp μ 43 (μ 26) sp.toNatClampNeg dp.toNatClampNeg k.toNatClampNeg))) := cp_gen HP_26 HP_43 (fun _ => rfl)
theorem cp_27_43 {j : Nat} {k dp sp : Int32} : mm_step tab Bd B K Q (.invokespecial j) nx lv (.int k :: .int dp :: .ref 43 :: .int sp :: .ref 27 :: st) (HP ε μ) = (¬ sp < 0 ∧ ¬ dp < 0 ∧ ¬ k < 0 ∧ sp.toNatClampNeg + k.toNatClampNeg ≤ 5 ∧ dp.toNatClampNeg + k.toNatClampNeg ≤ 21 ∧ (st.map fun v => v.category).sum ≤ 8 ∧ K nx lv st (HP ε (mcp μ 43 (μ 27) sp.toNatClampNeg dp.toNatClampNeg k.toNatClampNeg))) := cp_gen HP_27 HP_43 (fun _ => rfl)
theorem cp_41_25 {j : Nat} {k dp sp : Int32} : mm_step tab Bd B K Q (.invokespecial j) nx lv (.int k :: .int dp :: .ref 25 :: .int sp :: .ref 41 :: st) (HP ε μ) = (¬ sp < 0 ∧ ¬ dp < 0 ∧ ¬ k < 0 ∧ sp.toNatClampNeg + k.toNatClampNeg ≤ 840 ∧ dp.toNatClampNeg + k.toNatClampNeg ≤ 5 ∧ (st.map fun v => v.category).sum ≤ 8 ∧ K nx lv st (HP ε (mcp μ 25 (μ 41) sp.toNatClampNeg dp.toNatClampNeg k.toNatClampNeg))) := cp_gen HP_41 HP_25 (fun _ => rfl)
theorem cp_41_26 {j : Nat} {k dp sp : Int32} : mm_step tab Bd B K Q (.invokespecial j) nx lv (.int k :: .int dp :: .ref 26 :: .int sp :: .ref 41 :: st) (HP ε μ) = (¬ sp < 0 ∧ ¬ dp < 0 ∧ ¬ k < 0 ∧ sp.toNatClampNeg + k.toNatClampNeg ≤ 840 ∧ dp.toNatClampNeg + k.toNatClampNeg ≤ 5 ∧ (st.map fun v => v.category).sum ≤ 8 ∧ K nx lv st (HP ε (mcp μ 26 (μ 41) sp.toNatClampNeg dp.toNatClampNeg k.toNatClampNeg))) := cp_gen HP_41 HP_26 (fun _ => rfl)
theorem cp_41_27 {j : Nat} {k dp sp : Int32} : mm_step tab Bd B K Q (.invokespecial j) nx lv (.int k :: .int dp :: .ref 27 :: .int sp :: .ref 41 :: st) (HP ε μ) = (¬ sp < 0 ∧ ¬ dp < 0 ∧ ¬ k < 0 ∧ sp.toNatClampNeg + k.toNatClampNeg ≤ 840 ∧ dp.toNatClampNeg + k.toNatClampNeg ≤ 5 ∧ (st.map fun v => v.category).sum ≤ 8 ∧ K nx lv st (HP ε (mcp μ 27 (μ 41) sp.toNatClampNeg dp.toNatClampNeg k.toNatClampNeg))) := cp_gen HP_41 HP_27 (fun _ => rfl)
theorem cp_43_25 {j : Nat} {k dp sp : Int32} : mm_step tab Bd B K Q (.invokespecial j) nx lv (.int k :: .int dp :: .ref 25 :: .int sp :: .ref 43 :: st) (HP ε μ) = (¬ sp < 0 ∧ ¬ dp < 0 ∧ ¬ k < 0 ∧ sp.toNatClampNeg + k.toNatClampNeg ≤ 21 ∧ dp.toNatClampNeg + k.toNatClampNeg ≤ 5 ∧ (st.map fun v => v.category).sum ≤ 8 ∧ K nx lv st (HP ε (mcp μ 25 (μ 43) sp.toNatClampNeg dp.toNatClampNeg k.toNatClampNeg))) := cp_gen HP_43 HP_25 (fun _ => rfl)
theorem cp_43_26 {j : Nat} {k dp sp : Int32} : mm_step tab Bd B K Q (.invokespecial j) nx lv (.int k :: .int dp :: .ref 26 :: .int sp :: .ref 43 :: st) (HP ε μ) = (¬ sp < 0 ∧ ¬ dp < 0 ∧ ¬ k < 0 ∧ sp.toNatClampNeg + k.toNatClampNeg ≤ 21 ∧ dp.toNatClampNeg + k.toNatClampNeg ≤ 5 ∧ (st.map fun v => v.category).sum ≤ 8 ∧ K nx lv st (HP ε (mcp μ 26 (μ 43) sp.toNatClampNeg dp.toNatClampNeg k.toNatClampNeg))) := cp_gen HP_43 HP_26 (fun _ => rfl)
theorem cp_43_27 {j : Nat} {k dp sp : Int32} : mm_step tab Bd B K Q (.invokespecial j) nx lv (.int k :: .int dp :: .ref 27 :: .int sp :: .ref 43 :: st) (HP ε μ) = (¬ sp < 0 ∧ ¬ dp < 0 ∧ ¬ k < 0 ∧ sp.toNatClampNeg + k.toNatClampNeg ≤ 21 ∧ dp.toNatClampNeg + k.toNatClampNeg ≤ 5 ∧ (st.map fun v => v.category).sum ≤ 8 ∧ K nx lv st (HP ε (mcp μ 27 (μ 43) sp.toNatClampNeg dp.toNatClampNeg k.toNatClampNeg))) := cp_gen HP_43 HP_27 (fun _ => rfl)
theorem cp_42_44 {j : Nat} {k dp sp : Int32} : mm_step tab Bd B K Q (.invokespecial j) nx lv (.int k :: .int dp :: .ref 44 :: .int sp :: .ref 42 :: st) (HP ε μ) = (¬ sp < 0 ∧ ¬ dp < 0 ∧ ¬ k < 0 ∧ sp.toNatClampNeg + k.toNatClampNeg ≤ 100 ∧ dp.toNatClampNeg + k.toNatClampNeg ≤ 100 ∧ (st.map fun v => v.category).sum ≤ 8 ∧ K nx lv st (HP ε (mcp μ 44 (μ 42) sp.toNatClampNeg dp.toNatClampNeg k.toNatClampNeg))) := cp_gen HP_42 HP_44 (fun _ => rfl)
theorem cp_44_42 {j : Nat} {k dp sp : Int32} : mm_step tab Bd B K Q (.invokespecial j) nx lv (.int k :: .int dp :: .ref 42 :: .int sp :: .ref 44 :: st) (HP ε μ) = (¬ sp < 0 ∧ ¬ dp < 0 ∧ ¬ k < 0 ∧ sp.toNatClampNeg + k.toNatClampNeg ≤ 100 ∧ dp.toNatClampNeg + k.toNatClampNeg ≤ 100 ∧ (st.map fun v => v.category).sum ≤ 8 ∧ K nx lv st (HP ε (mcp μ 42 (μ 44) sp.toNatClampNeg dp.toNatClampNeg k.toNatClampNeg))) := cp_gen HP_44 HP_42 (fun _ => rfl)
theorem cx_1001 {j : Nat} {k dp sp : Int32} : mm_step tab Bd B K Q (.invokespecial j) nx lv (.int k :: .int dp :: .ref 14 :: .int sp :: .ref 1001 :: st) (HP ε μ) = (¬ sp < 0 ∧ ¬ dp < 0 ∧ ¬ k < 0 ∧ sp.toNatClampNeg + k.toNatClampNeg ≤ 4 ∧ dp.toNatClampNeg + k.toNatClampNeg ≤ 5 ∧ (st.map fun v => v.category).sum ≤ 8 ∧ K nx lv st (HP ε (mcp μ 14 (fun i => ([4, 20, 0, 9] : List Int32).getD i 0) sp.toNatClampNeg dp.toNatClampNeg k.toNatClampNeg))) := cx_gen (w := [4, 20, 0, 9]) rfl (by decide) HP_14 (fun _ => rfl)
theorem cx_1003 {j : Nat} {k dp sp : Int32} : mm_step tab Bd B K Q (.invokespecial j) nx lv (.int k :: .int dp :: .ref 14 :: .int sp :: .ref 1003 :: st) (HP ε μ) = (¬ sp < 0 ∧ ¬ dp < 0 ∧ ¬ k < 0 ∧ sp.toNatClampNeg + k.toNatClampNeg ≤ 5 ∧ dp.toNatClampNeg + k.toNatClampNeg ≤ 5 ∧ (st.map fun v => v.category).sum ≤ 8 ∧ K nx lv st (HP ε (mcp μ 14 (fun i => ([0, 0, 4, 3, 0] : List Int32).getD i 0) sp.toNatClampNeg dp.toNatClampNeg k.toNatClampNeg))) := cx_gen (w := [0, 0, 4, 3, 0]) rfl (by decide) HP_14 (fun _ => rfl)
theorem cx_1005 {j : Nat} {k dp sp : Int32} : mm_step tab Bd B K Q (.invokespecial j) nx lv (.int k :: .int dp :: .ref 14 :: .int sp :: .ref 1005 :: st) (HP ε μ) = (¬ sp < 0 ∧ ¬ dp < 0 ∧ ¬ k < 0 ∧ sp.toNatClampNeg + k.toNatClampNeg ≤ 2 ∧ dp.toNatClampNeg + k.toNatClampNeg ≤ 5 ∧ (st.map fun v => v.category).sum ≤ 8 ∧ K nx lv st (HP ε (mcp μ 14 (fun i => ([0, 5] : List Int32).getD i 0) sp.toNatClampNeg dp.toNatClampNeg k.toNatClampNeg))) := cx_gen (w := [0, 5]) rfl (by decide) HP_14 (fun _ => rfl)
theorem lx_1000 {i : Int32} : mm_step tab Bd B K Q .iaload nx lv (.int i :: .ref 1000 :: st) (HP ε μ) = (vp_in i 4 ∧ K nx lv (.int (([8, 99, 9, 9] : List Int32).getD i.toNatClampNeg 0) :: st) (HP ε μ)) := lx_gen (w := [8, 99, 9, 9]) rfl (by decide)
theorem ax_1000 : mm_step tab Bd B K Q .arraylength nx lv (.ref 1000 :: st) (HP ε μ) = K nx lv (.int 4 :: st) (HP ε μ) := ax_gen (ty := .int) (w := [8, 99, 9, 9]) rfl (by decide)
theorem lx_1001 {i : Int32} : mm_step tab Bd B K Q .iaload nx lv (.int i :: .ref 1001 :: st) (HP ε μ) = (vp_in i 4 ∧ K nx lv (.int (([4, 20, 0, 9] : List Int32).getD i.toNatClampNeg 0) :: st) (HP ε μ)) := lx_gen (w := [4, 20, 0, 9]) rfl (by decide)
theorem ax_1001 : mm_step tab Bd B K Q .arraylength nx lv (.ref 1001 :: st) (HP ε μ) = K nx lv (.int 4 :: st) (HP ε μ) := ax_gen (ty := .int) (w := [4, 20, 0, 9]) rfl (by decide)
theorem lx_1002 {i : Int32} : mm_step tab Bd B K Q .iaload nx lv (.int i :: .ref 1002 :: st) (HP ε μ) = (vp_in i 5 ∧ K nx lv (.int (([9, 9, 8, 9, 3] : List Int32).getD i.toNatClampNeg 0) :: st) (HP ε μ)) := lx_gen (w := [9, 9, 8, 9, 3]) rfl (by decide)
theorem ax_1002 : mm_step tab Bd B K Q .arraylength nx lv (.ref 1002 :: st) (HP ε μ) = K nx lv (.int 5 :: st) (HP ε μ) := ax_gen (ty := .int) (w := [9, 9, 8, 9, 3]) rfl (by decide)
theorem lx_1003 {i : Int32} : mm_step tab Bd B K Q .iaload nx lv (.int i :: .ref 1003 :: st) (HP ε μ) = (vp_in i 5 ∧ K nx lv (.int (([0, 0, 4, 3, 0] : List Int32).getD i.toNatClampNeg 0) :: st) (HP ε μ)) := lx_gen (w := [0, 0, 4, 3, 0]) rfl (by decide)
theorem ax_1003 : mm_step tab Bd B K Q .arraylength nx lv (.ref 1003 :: st) (HP ε μ) = K nx lv (.int 5 :: st) (HP ε μ) := ax_gen (ty := .int) (w := [0, 0, 4, 3, 0]) rfl (by decide)
theorem lx_1004 {i : Int32} : mm_step tab Bd B K Q .iaload nx lv (.int i :: .ref 1004 :: st) (HP ε μ) = (vp_in i 2 ∧ K nx lv (.int (([9, 9] : List Int32).getD i.toNatClampNeg 0) :: st) (HP ε μ)) := lx_gen (w := [9, 9]) rfl (by decide)
theorem ax_1004 : mm_step tab Bd B K Q .arraylength nx lv (.ref 1004 :: st) (HP ε μ) = K nx lv (.int 2 :: st) (HP ε μ) := ax_gen (ty := .int) (w := [9, 9]) rfl (by decide)
theorem lx_1005 {i : Int32} : mm_step tab Bd B K Q .iaload nx lv (.int i :: .ref 1005 :: st) (HP ε μ) = (vp_in i 2 ∧ K nx lv (.int (([0, 5] : List Int32).getD i.toNatClampNeg 0) :: st) (HP ε μ)) := lx_gen (w := [0, 5]) rfl (by decide)
theorem ax_1005 : mm_step tab Bd B K Q .arraylength nx lv (.ref 1005 :: st) (HP ε μ) = K nx lv (.int 2 :: st) (HP ε μ) := ax_gen (ty := .int) (w := [0, 5]) rfl (by decide)
end CS
/-- the class's things and season, laid as the reference lays them -/
def cth (μ : mm_mu) (i : Nat) : Int32 := μ (19 + i % 5) (i / 5)
def cnow (μ : mm_mu) (s i : Nat) : Int32 := if i < 5 then μ (s + 1) i else if i < 10 then μ (s + 2) (i - 5) else if i < 15 then μ (s + 3) (i - 10) else if i = 15 then μ s 0 else if i = 16 then μ s 2 else if i = 17 then μ s 3 else if i = 18 then μ s 4 else if i = 19 then μ s 1 else if i = 20 then μ s 5 else 0
theorem cth_0 {μ : mm_mu} {t : Nat} : cth μ (5 * t) = μ 19 t := by rw [cth, show 5 * t % 5 = 0 by omega, show 5 * t / 5 = t by omega]
theorem cth_1 {μ : mm_mu} {t : Nat} : cth μ (5 * t + 1) = μ 20 t := by rw [cth, show (5 * t + 1) % 5 = 1 by omega, show (5 * t + 1) / 5 = t by omega]
theorem cth_2 {μ : mm_mu} {t : Nat} : cth μ (5 * t + 2) = μ 21 t := by rw [cth, show (5 * t + 2) % 5 = 2 by omega, show (5 * t + 2) / 5 = t by omega]
theorem cth_3 {μ : mm_mu} {t : Nat} : cth μ (5 * t + 3) = μ 22 t := by rw [cth, show (5 * t + 3) % 5 = 3 by omega, show (5 * t + 3) / 5 = t by omega]
theorem cth_4 {μ : mm_mu} {t : Nat} : cth μ (5 * t + 4) = μ 23 t := by rw [cth, show (5 * t + 4) % 5 = 4 by omega, show (5 * t + 4) / 5 = t by omega]
theorem cnow_p {μ : mm_mu} {s g : Nat} (h : g < 5) : cnow μ s g = μ (s + 1) g := by rw [cnow, if_pos h]
theorem cnow_s {μ : mm_mu} {s g : Nat} (h : g < 5) : cnow μ s (5 + g) = μ (s + 2) g := by rw [cnow, if_neg (by omega), if_pos (by omega), show 5 + g - 5 = g by omega]
theorem cnow_b {μ : mm_mu} {s g : Nat} (h : g < 5) : cnow μ s (10 + g) = μ (s + 3) g := by rw [cnow, if_neg (by omega), if_neg (by omega), if_pos (by omega), show 10 + g - 10 = g by omega]
theorem cnow_15 {μ : mm_mu} {s : Nat} : cnow μ s 15 = μ s 0 := rfl
theorem cnow_16 {μ : mm_mu} {s : Nat} : cnow μ s 16 = μ s 2 := rfl
theorem cnow_17 {μ : mm_mu} {s : Nat} : cnow μ s 17 = μ s 3 := rfl
theorem cnow_18 {μ : mm_mu} {s : Nat} : cnow μ s 18 = μ s 4 := rfl
theorem cnow_19 {μ : mm_mu} {s : Nat} : cnow μ s 19 = μ s 1 := rfl
theorem cnow_20 {μ : mm_mu} {s : Nat} : cnow μ s 20 = μ s 5 := rfl
theorem nI_sub1 {n : Nat} (h : n < 100000) : (nI n - 1).toInt = (n : Int) - 1 := by
  cases n with
  | zero => decide
  | succ n => rw [nI_pred, nI_toInt (by omega)]; omega
section C0
variable {d : Nat} {ε : mm_X} {μ : mm_mu} {Q : mm_Q0} {h : mm_H} {s : Nat}
theorem c_isOut {x : Int32} (hs : sS s) (hQ : Q (some (.int (bi (hasb (μ s 4) x)))) (HP ε μ)) : B0 (d + 1) mX8_isOut [.ref s, .int x] (HP ε μ) Q := by
  refine b0_of_G0 (lv := [.ref s, .int x]) (by decide +kernel) (Nat.le_of_ble_eq_true rfl) rfl ?_
  refine mw_ok (M := mX8_isOut) (fun _ => false) okTX8 rfl 20 _ _ _ _ ?_
  simp only [eX8_isOut_0, eX8_isOut_1, eX8_isOut_4, eX8_isOut_5, eX8_isOut_6, eX8_isOut_7, eX8_isOut_8, eX8_isOut_9, eX8_isOut_12, eX8_isOut_13, eX8_isOut_16, eX8_isOut_17, gs_804 hs, st_aload, st_goto, st_iand, st_iconst, st_ic_eq, st_ic_ne, st_ic_lt, st_ic_ge, st_ic_gt, st_ic_le, st_iload, st_iret, st_zret, st_bret, st_ishr, gf_10_804, gf_24_804, gf_28_804, mm_cut, cond_false, cond_true, List.getElem?_cons_succ, List.getElem?_cons_zero, Int.reduceToNat, Nat.reduceMod, Nat.reduceDiv, Nat.reduceAdd, true_and, and_true, mm_set, mm_set2, mm_pop, List.length_cons, List.length_nil, Nat.reduceLeDiff, Int32.reduceOfInt, Int64.reduceOfInt, nar_b0, nar_b1, List.cons_append, List.nil_append, Option.toList_some, Option.toList_none, List.map_cons, List.map_nil, List.sum_cons, List.sum_nil, cat_i, cat_r, cat_l, Nat.zero_le, Int32.reduceOfNat, Int32.reduceAdd, Int32.reduceLT, Int32.reduceLE, forall_const, true_implies, false_implies, not_false_eq_true, not_true_eq_false, bi_eq0, bi_ne0, sl_0, sl_3, va_rf, Nat.reduceEqDiff, if_false, ite_false, ite_true, reduceIte, List.set_cons_zero, List.set_cons_succ, Nat.succ_eq_add_one, mup_c, mup_s, mw_zero, ne_eq, lit_10, lit_01, lit_m10, lit_m11, nar_bi]
  exact ⟨fun h1 => by rw [bi0 h1] at hQ; exact hQ, fun h1 => by rw [bi1 h1] at hQ; exact hQ⟩
theorem c_overFrom {x c w : Int32} {t : Nat} (hx : x = nI t) (ht : t < 7) (hQ : Q (some (.int (fly c (μ 21 t) (μ 20 t) w))) (HP ε μ)) : B0 (d + 1) mX2_overFrom [.ref 18, .int x, .int c, .int w] (HP ε μ) Q := by
  subst hx
  refine b0_of_G0 (lv := [.ref 18, .int (nI t), .int c, .int w, .null]) (by decide +kernel) (Nat.le_of_ble_eq_true rfl) rfl ?_
  refine mw_ok (M := mX2_overFrom) (fun _ => false) okTX2 rfl 40 _ _ _ _ ?_
  simp only [eX2_overFrom_0, eX2_overFrom_2, eX2_overFrom_3, eX2_overFrom_6, eX2_overFrom_7, eX2_overFrom_8, eX2_overFrom_9, eX2_overFrom_11, eX2_overFrom_12, eX2_overFrom_13, eX2_overFrom_16, eX2_overFrom_17, eX2_overFrom_18, eX2_overFrom_19, eX2_overFrom_20, eX2_overFrom_22, eX2_overFrom_23, eX2_overFrom_24, eX2_overFrom_25, eX2_overFrom_26, eX2_overFrom_27, eX2_overFrom_28, eX2_overFrom_29, eX2_overFrom_31, eX2_overFrom_32, eX2_overFrom_34, eX2_overFrom_35, eX2_overFrom_36, st_aload, st_iadd, st_iconst, st_idiv, st_iload, st_imul, st_iret, st_zret, st_bret, st_istore, st_isub, gf_4_203, gf_18_203, gf_4_204, gf_18_204, ld_5, ld_6, ld_7, ld_8, ld_9, ld_11, ld_12, ld_13, ld_14, ld_16, ld_19, ld_20, ld_21, ld_22, ld_23, ld_25, ld_26, ld_27, ld_29, ld_30, ld_31, ld_32, ld_33, ld_34, ld_35, ld_36, ld_37, ld_39, ld_41, ld_42, ld_43, ld_44, ld_46, ld_47, ld_48, ld_51, ld_52, ld_54, ld_55, mm_cut, cond_false, cond_true, List.getElem?_cons_succ, List.getElem?_cons_zero, Int.reduceToNat, Nat.reduceMod, Nat.reduceDiv, Nat.reduceAdd, true_and, and_true, mm_set, mm_set2, mm_pop, List.length_cons, List.length_nil, Nat.reduceLeDiff, Int32.reduceOfInt, Int64.reduceOfInt, nar_b0, nar_b1, List.cons_append, List.nil_append, Option.toList_some, Option.toList_none, List.map_cons, List.map_nil, List.sum_cons, List.sum_nil, cat_i, cat_r, cat_l, Nat.zero_le, Int32.reduceOfNat, Int32.reduceAdd, Int32.reduceLT, Int32.reduceLE, forall_const, true_implies, false_implies, not_false_eq_true, not_true_eq_false, bi_eq0, bi_ne0, sl_0, sl_3, va_rf, Nat.reduceEqDiff, if_false, ite_false, ite_true, reduceIte, List.set_cons_zero, List.set_cons_succ, Nat.succ_eq_add_one, mup_c, mup_s, mw_zero, ne_eq, lit_10, lit_01, lit_m10, lit_m11, nar_bi, vinT (a := t) rfl (show t < 7 by omega), clp (a := t) rfl (by omega)]
  exact ⟨by decide, by decide, hQ⟩
theorem c_over {x w : Int32} {t : Nat} (hx : x = nI t) (ht : t < 7) (hQ : Q (some (.int (fly (μ 19 t) (μ 21 t) (μ 20 t) w))) (HP ε μ)) : B0 (d + 2) mX2_over [.ref 18, .int x, .int w] (HP ε μ) Q := by
  subst hx
  refine b0_of_G0 (lv := [.ref 18, .int (nI t), .int w]) (by decide +kernel) (Nat.le_of_ble_eq_true rfl) rfl ?_
  refine mw_ok (M := mX2_over) (fun _ => false) okTX2 rfl 40 _ _ _ _ ?_
  simp only [eX2_over_0, eX2_over_1, eX2_over_2, eX2_over_3, eX2_over_6, eX2_over_7, eX2_over_8, eX2_over_9, eX2_over_12, st_aload, st_iload, st_inv, st_iret, st_zret, st_bret, gf_4_202, gf_18_202, ld_5, ld_6, ld_7, ld_8, ld_9, ld_11, ld_12, ld_13, ld_14, ld_16, ld_19, ld_20, ld_21, ld_22, ld_23, ld_25, ld_26, ld_27, ld_29, ld_30, ld_31, ld_32, ld_33, ld_34, ld_35, ld_36, ld_37, ld_39, ld_41, ld_42, ld_43, ld_44, ld_46, ld_47, ld_48, ld_51, ld_52, ld_54, ld_55, HP_4, HP_18, tab_11, mm_cut, cond_false, cond_true, List.getElem?_cons_succ, List.getElem?_cons_zero, Int.reduceToNat, Nat.reduceMod, Nat.reduceDiv, Nat.reduceAdd, true_and, and_true, mm_set, mm_set2, mm_pop, List.length_cons, List.length_nil, Nat.reduceLeDiff, Int32.reduceOfInt, Int64.reduceOfInt, nar_b0, nar_b1, List.cons_append, List.nil_append, Option.toList_some, Option.toList_none, List.map_cons, List.map_nil, List.sum_cons, List.sum_nil, cat_i, cat_r, cat_l, Nat.zero_le, Int32.reduceOfNat, Int32.reduceAdd, Int32.reduceLT, Int32.reduceLE, forall_const, true_implies, false_implies, not_false_eq_true, not_true_eq_false, bi_eq0, bi_ne0, sl_0, sl_3, va_rf, Nat.reduceEqDiff, if_false, ite_false, ite_true, reduceIte, List.set_cons_zero, List.set_cons_succ, Nat.succ_eq_add_one, mup_c, mup_s, mw_zero, ne_eq, lit_10, lit_01, lit_m10, lit_m11, nar_bi, vinT (a := t) rfl (show t < 7 by omega), clp (a := t) rfl (by omega)]
  refine c_overFrom rfl ht ?_
  refine mw_ok (M := mX2_over) (fun _ => false) okTX2 rfl 40 _ _ _ _ ?_
  simp only [eX2_over_0, eX2_over_1, eX2_over_2, eX2_over_3, eX2_over_6, eX2_over_7, eX2_over_8, eX2_over_9, eX2_over_12, st_aload, st_iload, st_inv, st_iret, st_zret, st_bret, gf_4_202, gf_18_202, ld_5, ld_6, ld_7, ld_8, ld_9, ld_11, ld_12, ld_13, ld_14, ld_16, ld_19, ld_20, ld_21, ld_22, ld_23, ld_25, ld_26, ld_27, ld_29, ld_30, ld_31, ld_32, ld_33, ld_34, ld_35, ld_36, ld_37, ld_39, ld_41, ld_42, ld_43, ld_44, ld_46, ld_47, ld_48, ld_51, ld_52, ld_54, ld_55, HP_4, HP_18, tab_11, mm_cut, cond_false, cond_true, List.getElem?_cons_succ, List.getElem?_cons_zero, Int.reduceToNat, Nat.reduceMod, Nat.reduceDiv, Nat.reduceAdd, true_and, and_true, mm_set, mm_set2, mm_pop, List.length_cons, List.length_nil, Nat.reduceLeDiff, Int32.reduceOfInt, Int64.reduceOfInt, nar_b0, nar_b1, List.cons_append, List.nil_append, Option.toList_some, Option.toList_none, List.map_cons, List.map_nil, List.sum_cons, List.sum_nil, cat_i, cat_r, cat_l, Nat.zero_le, Int32.reduceOfNat, Int32.reduceAdd, Int32.reduceLT, Int32.reduceLE, forall_const, true_implies, false_implies, not_false_eq_true, not_true_eq_false, bi_eq0, bi_ne0, sl_0, sl_3, va_rf, Nat.reduceEqDiff, if_false, ite_false, ite_true, reduceIte, List.set_cons_zero, List.set_cons_succ, Nat.succ_eq_add_one, mup_c, mup_s, mw_zero, ne_eq, lit_10, lit_01, lit_m10, lit_m11, nar_bi]
  exact hQ
theorem c_isColumn {x : Int32} (hQ : Q (some (.int (bi (0 ≤ x ∧ x ≤ 9)))) h) : B0 (d + 1) mX11_isColumn [.int x] h Q := by
  refine b0_of_G0 (lv := [.int x]) (by decide +kernel) (Nat.le_of_ble_eq_true rfl) rfl ?_
  refine mw_ok (M := mX11_isColumn) (fun _ => false) okTX11 rfl 20 _ _ _ _ ?_
  simp only [eX11_isColumn_0, eX11_isColumn_1, eX11_isColumn_4, eX11_isColumn_5, eX11_isColumn_7, eX11_isColumn_10, eX11_isColumn_11, eX11_isColumn_14, eX11_isColumn_15, st_goto, st_iconst, st_if_eq, st_if_ne, st_if_lt, st_if_ge, st_if_gt, st_if_le, st_ic_eq, st_ic_ne, st_ic_lt, st_ic_ge, st_ic_gt, st_ic_le, st_iload, st_iret, st_zret, st_bret, mm_cut, cond_false, cond_true, List.getElem?_cons_succ, List.getElem?_cons_zero, Int.reduceToNat, Nat.reduceMod, Nat.reduceDiv, Nat.reduceAdd, true_and, and_true, mm_set, mm_set2, mm_pop, List.length_cons, List.length_nil, Nat.reduceLeDiff, Int32.reduceOfInt, Int64.reduceOfInt, nar_b0, nar_b1, List.cons_append, List.nil_append, Option.toList_some, Option.toList_none, List.map_cons, List.map_nil, List.sum_cons, List.sum_nil, cat_i, cat_r, cat_l, Nat.zero_le, Int32.reduceOfNat, Int32.reduceAdd, Int32.reduceLT, Int32.reduceLE, forall_const, true_implies, false_implies, not_false_eq_true, not_true_eq_false, bi_eq0, bi_ne0, sl_0, sl_3, va_rf, Nat.reduceEqDiff, if_false, ite_false, ite_true, reduceIte, List.set_cons_zero, List.set_cons_succ, Nat.succ_eq_add_one, mup_c, mup_s, mw_zero, ne_eq, lit_10, lit_01, lit_m10, lit_m11, nar_bi]
  refine ⟨fun h1 => ?_, fun h1 => ⟨fun h2 => ?_, fun h2 => ?_⟩⟩
  · rw [bi0 (by simp only [Int32.le_iff_toInt_le, Int32.lt_iff_toInt_lt, ← Int32.toInt_inj, Int32.reduceToInt, ne_eq] at *; omega)] at hQ; exact hQ
  · rw [bi0 (by simp only [Int32.le_iff_toInt_le, Int32.lt_iff_toInt_lt, ← Int32.toInt_inj, Int32.reduceToInt, ne_eq] at *; omega)] at hQ; exact hQ
  · rw [bi1 (by simp only [Int32.le_iff_toInt_le, Int32.lt_iff_toInt_lt, ← Int32.toInt_inj, Int32.reduceToInt, ne_eq] at *; omega)] at hQ; exact hQ
theorem c_isWind {x : Int32} (hQ : Q (some (.int (bi (0 ≤ x ∧ x ≤ 8)))) h) : B0 (d + 1) mX11_isWind [.int x] h Q := by
  refine b0_of_G0 (lv := [.int x]) (by decide +kernel) (Nat.le_of_ble_eq_true rfl) rfl ?_
  refine mw_ok (M := mX11_isWind) (fun _ => false) okTX11 rfl 20 _ _ _ _ ?_
  simp only [eX11_isWind_0, eX11_isWind_1, eX11_isWind_4, eX11_isWind_5, eX11_isWind_7, eX11_isWind_10, eX11_isWind_11, eX11_isWind_14, eX11_isWind_15, st_goto, st_iconst, st_if_eq, st_if_ne, st_if_lt, st_if_ge, st_if_gt, st_if_le, st_ic_eq, st_ic_ne, st_ic_lt, st_ic_ge, st_ic_gt, st_ic_le, st_iload, st_iret, st_zret, st_bret, mm_cut, cond_false, cond_true, List.getElem?_cons_succ, List.getElem?_cons_zero, Int.reduceToNat, Nat.reduceMod, Nat.reduceDiv, Nat.reduceAdd, true_and, and_true, mm_set, mm_set2, mm_pop, List.length_cons, List.length_nil, Nat.reduceLeDiff, Int32.reduceOfInt, Int64.reduceOfInt, nar_b0, nar_b1, List.cons_append, List.nil_append, Option.toList_some, Option.toList_none, List.map_cons, List.map_nil, List.sum_cons, List.sum_nil, cat_i, cat_r, cat_l, Nat.zero_le, Int32.reduceOfNat, Int32.reduceAdd, Int32.reduceLT, Int32.reduceLE, forall_const, true_implies, false_implies, not_false_eq_true, not_true_eq_false, bi_eq0, bi_ne0, sl_0, sl_3, va_rf, Nat.reduceEqDiff, if_false, ite_false, ite_true, reduceIte, List.set_cons_zero, List.set_cons_succ, Nat.succ_eq_add_one, mup_c, mup_s, mw_zero, ne_eq, lit_10, lit_01, lit_m10, lit_m11, nar_bi]
  refine ⟨fun h1 => ?_, fun h1 => ⟨fun h2 => ?_, fun h2 => ?_⟩⟩
  · rw [bi0 (by simp only [Int32.le_iff_toInt_le, Int32.lt_iff_toInt_lt, ← Int32.toInt_inj, Int32.reduceToInt, ne_eq] at *; omega)] at hQ; exact hQ
  · rw [bi0 (by simp only [Int32.le_iff_toInt_le, Int32.lt_iff_toInt_lt, ← Int32.toInt_inj, Int32.reduceToInt, ne_eq] at *; omega)] at hQ; exact hQ
  · rw [bi1 (by simp only [Int32.le_iff_toInt_le, Int32.lt_iff_toInt_lt, ← Int32.toInt_inj, Int32.reduceToInt, ne_eq] at *; omega)] at hQ; exact hQ
theorem c_isPair {x : Int32} (hQ : Q (some (.int (bi (0 ≤ x ∧ x ≤ 1)))) h) : B0 (d + 1) mX11_isPair [.int x] h Q := by
  refine b0_of_G0 (lv := [.int x]) (by decide +kernel) (Nat.le_of_ble_eq_true rfl) rfl ?_
  refine mw_ok (M := mX11_isPair) (fun _ => false) okTX11 rfl 20 _ _ _ _ ?_
  simp only [eX11_isPair_0, eX11_isPair_1, eX11_isPair_4, eX11_isPair_5, eX11_isPair_6, eX11_isPair_9, eX11_isPair_10, eX11_isPair_13, eX11_isPair_14, st_goto, st_iconst, st_if_eq, st_if_ne, st_if_lt, st_if_ge, st_if_gt, st_if_le, st_ic_eq, st_ic_ne, st_ic_lt, st_ic_ge, st_ic_gt, st_ic_le, st_iload, st_iret, st_zret, st_bret, mm_cut, cond_false, cond_true, List.getElem?_cons_succ, List.getElem?_cons_zero, Int.reduceToNat, Nat.reduceMod, Nat.reduceDiv, Nat.reduceAdd, true_and, and_true, mm_set, mm_set2, mm_pop, List.length_cons, List.length_nil, Nat.reduceLeDiff, Int32.reduceOfInt, Int64.reduceOfInt, nar_b0, nar_b1, List.cons_append, List.nil_append, Option.toList_some, Option.toList_none, List.map_cons, List.map_nil, List.sum_cons, List.sum_nil, cat_i, cat_r, cat_l, Nat.zero_le, Int32.reduceOfNat, Int32.reduceAdd, Int32.reduceLT, Int32.reduceLE, forall_const, true_implies, false_implies, not_false_eq_true, not_true_eq_false, bi_eq0, bi_ne0, sl_0, sl_3, va_rf, Nat.reduceEqDiff, if_false, ite_false, ite_true, reduceIte, List.set_cons_zero, List.set_cons_succ, Nat.succ_eq_add_one, mup_c, mup_s, mw_zero, ne_eq, lit_10, lit_01, lit_m10, lit_m11, nar_bi]
  refine ⟨fun h1 => ?_, fun h1 => ⟨fun h2 => ?_, fun h2 => ?_⟩⟩
  · rw [bi1 (by simp only [Int32.le_iff_toInt_le, Int32.lt_iff_toInt_lt, ← Int32.toInt_inj, Int32.reduceToInt, ne_eq] at *; omega)] at hQ; exact hQ
  · rw [bi0 (by simp only [Int32.le_iff_toInt_le, Int32.lt_iff_toInt_lt, ← Int32.toInt_inj, Int32.reduceToInt, ne_eq] at *; omega)] at hQ; exact hQ
  · rw [bi1 (by simp only [Int32.le_iff_toInt_le, Int32.lt_iff_toInt_lt, ← Int32.toInt_inj, Int32.reduceToInt, ne_eq] at *; omega)] at hQ; exact hQ
theorem c_isStep {x : Int32} (hQ : Q (some (.int (bi (0 ≤ x ∧ x ≤ 3)))) h) : B0 (d + 1) mX1_isStep [.int x] h Q := by
  refine b0_of_G0 (lv := [.int x]) (by decide +kernel) (Nat.le_of_ble_eq_true rfl) rfl ?_
  refine mw_ok (M := mX1_isStep) (fun _ => false) okTX1 rfl 20 _ _ _ _ ?_
  simp only [eX1_isStep_0, eX1_isStep_1, eX1_isStep_4, eX1_isStep_5, eX1_isStep_6, eX1_isStep_9, eX1_isStep_10, eX1_isStep_13, eX1_isStep_14, st_goto, st_iconst, st_if_eq, st_if_ne, st_if_lt, st_if_ge, st_if_gt, st_if_le, st_ic_eq, st_ic_ne, st_ic_lt, st_ic_ge, st_ic_gt, st_ic_le, st_iload, st_iret, st_zret, st_bret, mm_cut, cond_false, cond_true, List.getElem?_cons_succ, List.getElem?_cons_zero, Int.reduceToNat, Nat.reduceMod, Nat.reduceDiv, Nat.reduceAdd, true_and, and_true, mm_set, mm_set2, mm_pop, List.length_cons, List.length_nil, Nat.reduceLeDiff, Int32.reduceOfInt, Int64.reduceOfInt, nar_b0, nar_b1, List.cons_append, List.nil_append, Option.toList_some, Option.toList_none, List.map_cons, List.map_nil, List.sum_cons, List.sum_nil, cat_i, cat_r, cat_l, Nat.zero_le, Int32.reduceOfNat, Int32.reduceAdd, Int32.reduceLT, Int32.reduceLE, forall_const, true_implies, false_implies, not_false_eq_true, not_true_eq_false, bi_eq0, bi_ne0, sl_0, sl_3, va_rf, Nat.reduceEqDiff, if_false, ite_false, ite_true, reduceIte, List.set_cons_zero, List.set_cons_succ, Nat.succ_eq_add_one, mup_c, mup_s, mw_zero, ne_eq, lit_10, lit_01, lit_m10, lit_m11, nar_bi]
  refine ⟨fun h1 => ?_, fun h1 => ⟨fun h2 => ?_, fun h2 => ?_⟩⟩
  · rw [bi0 (by simp only [Int32.le_iff_toInt_le, Int32.lt_iff_toInt_lt, ← Int32.toInt_inj, Int32.reduceToInt, ne_eq] at *; omega)] at hQ; exact hQ
  · rw [bi0 (by simp only [Int32.le_iff_toInt_le, Int32.lt_iff_toInt_lt, ← Int32.toInt_inj, Int32.reduceToInt, ne_eq] at *; omega)] at hQ; exact hQ
  · rw [bi1 (by simp only [Int32.le_iff_toInt_le, Int32.lt_iff_toInt_lt, ← Int32.toInt_inj, Int32.reduceToInt, ne_eq] at *; omega)] at hQ; exact hQ
theorem c_hasEstate (hQ : Q (some (.int (bi (0 < μ 18 0)))) (HP ε μ)) : B0 (d + 1) mX11_hasEstate [.ref 0] (HP ε μ) Q := by
  refine b0_of_G0 (lv := [.ref 0]) (by decide +kernel) (Nat.le_of_ble_eq_true rfl) rfl ?_
  refine mw_ok (M := mX11_hasEstate) (fun _ => false) okTX11 rfl 20 _ _ _ _ ?_
  simp only [eX11_hasEstate_0, eX11_hasEstate_1, eX11_hasEstate_4, eX11_hasEstate_7, eX11_hasEstate_10, eX11_hasEstate_13, eX11_hasEstate_14, eX11_hasEstate_17, eX11_hasEstate_18, st_aload, st_goto, st_iconst, st_if_eq, st_if_ne, st_if_lt, st_if_ge, st_if_gt, st_if_le, st_iret, st_zret, st_bret, gf_4_200, gf_18_200, gf_17_400, gf_0_1103, mm_cut, cond_false, cond_true, List.getElem?_cons_succ, List.getElem?_cons_zero, Int.reduceToNat, Nat.reduceMod, Nat.reduceDiv, Nat.reduceAdd, true_and, and_true, mm_set, mm_set2, mm_pop, List.length_cons, List.length_nil, Nat.reduceLeDiff, Int32.reduceOfInt, Int64.reduceOfInt, nar_b0, nar_b1, List.cons_append, List.nil_append, Option.toList_some, Option.toList_none, List.map_cons, List.map_nil, List.sum_cons, List.sum_nil, cat_i, cat_r, cat_l, Nat.zero_le, Int32.reduceOfNat, Int32.reduceAdd, Int32.reduceLT, Int32.reduceLE, forall_const, true_implies, false_implies, not_false_eq_true, not_true_eq_false, bi_eq0, bi_ne0, sl_0, sl_3, va_rf, Nat.reduceEqDiff, if_false, ite_false, ite_true, reduceIte, List.set_cons_zero, List.set_cons_succ, Nat.succ_eq_add_one, mup_c, mup_s, mw_zero, ne_eq, lit_10, lit_01, lit_m10, lit_m11, nar_bi]
  refine ⟨fun h1 => ?_, fun h1 => ?_⟩
  · rw [bi0 (by simp only [Int32.le_iff_toInt_le, Int32.lt_iff_toInt_lt, ← Int32.toInt_inj, Int32.reduceToInt, ne_eq] at *; omega)] at hQ; exact hQ
  · rw [bi1 (by simp only [Int32.le_iff_toInt_le, Int32.lt_iff_toInt_lt, ← Int32.toInt_inj, Int32.reduceToInt, ne_eq] at *; omega)] at hQ; exact hQ
theorem c_isThing {x : Int32} {tn : Nat} (htn : μ 18 0 = nI tn) (ht : tn ≤ 7) (hQ : Q (some (.int (bi (0 ≤ x ∧ x ≤ nI tn - 1)))) (HP ε μ)) : B0 (d + 1) mX11_isThing [.ref 0, .int x] (HP ε μ) Q := by
  refine b0_of_G0 (lv := [.ref 0, .int x]) (by decide +kernel) (Nat.le_of_ble_eq_true rfl) rfl ?_
  have e := nI_toInt (n := tn) (by omega)
  have e2 : (nI tn - 1).toInt = (tn : Int) - 1 := nI_sub1 (by omega)
  refine mw_ok (M := mX11_isThing) (fun _ => false) okTX11 rfl 20 _ _ _ _ ?_
  simp only [eX11_isThing_0, eX11_isThing_1, eX11_isThing_4, eX11_isThing_5, eX11_isThing_6, eX11_isThing_9, eX11_isThing_12, eX11_isThing_15, eX11_isThing_18, eX11_isThing_19, eX11_isThing_22, eX11_isThing_23, st_aload, st_goto, st_iconst, st_if_eq, st_if_ne, st_if_lt, st_if_ge, st_if_gt, st_if_le, st_ic_eq, st_ic_ne, st_ic_lt, st_ic_ge, st_ic_gt, st_ic_le, st_iload, st_iret, st_zret, st_bret, gf_4_200, gf_18_200, gf_17_400, gf_0_1103, mm_cut, cond_false, cond_true, List.getElem?_cons_succ, List.getElem?_cons_zero, Int.reduceToNat, Nat.reduceMod, Nat.reduceDiv, Nat.reduceAdd, true_and, and_true, mm_set, mm_set2, mm_pop, List.length_cons, List.length_nil, Nat.reduceLeDiff, Int32.reduceOfInt, Int64.reduceOfInt, nar_b0, nar_b1, List.cons_append, List.nil_append, Option.toList_some, Option.toList_none, List.map_cons, List.map_nil, List.sum_cons, List.sum_nil, cat_i, cat_r, cat_l, Nat.zero_le, Int32.reduceOfNat, Int32.reduceAdd, Int32.reduceLT, Int32.reduceLE, forall_const, true_implies, false_implies, not_false_eq_true, not_true_eq_false, bi_eq0, bi_ne0, sl_0, sl_3, va_rf, Nat.reduceEqDiff, if_false, ite_false, ite_true, reduceIte, List.set_cons_zero, List.set_cons_succ, Nat.succ_eq_add_one, mup_c, mup_s, mw_zero, ne_eq, lit_10, lit_01, lit_m10, lit_m11, nar_bi, htn]
  refine ⟨fun h1 => ?_, fun h1 => ⟨fun h2 => ?_, fun h2 => ?_⟩⟩
  · rw [bi0 (by simp only [Int32.le_iff_toInt_le, Int32.lt_iff_toInt_lt, ← Int32.toInt_inj, Int32.reduceToInt, ne_eq] at *; omega)] at hQ; exact hQ
  · rw [bi0 (by simp only [Int32.le_iff_toInt_le, Int32.lt_iff_toInt_lt, ← Int32.toInt_inj, Int32.reduceToInt, ne_eq] at *; omega)] at hQ; exact hQ
  · rw [bi1 (by simp only [Int32.le_iff_toInt_le, Int32.lt_iff_toInt_lt, ← Int32.toInt_inj, Int32.reduceToInt, ne_eq] at *; omega)] at hQ; exact hQ
theorem c_isGun {x : Int32} {gn : Nat} (hgn : μ 18 1 = nI gn) (hg : gn ≤ 5) (hQ : Q (some (.int (bi (0 ≤ x ∧ x ≤ nI gn - 1)))) (HP ε μ)) : B0 (d + 1) mX11_isGun [.ref 0, .int x] (HP ε μ) Q := by
  refine b0_of_G0 (lv := [.ref 0, .int x]) (by decide +kernel) (Nat.le_of_ble_eq_true rfl) rfl ?_
  have e := nI_toInt (n := gn) (by omega)
  have e2 : (nI gn - 1).toInt = (gn : Int) - 1 := nI_sub1 (by omega)
  refine mw_ok (M := mX11_isGun) (fun _ => false) okTX11 rfl 20 _ _ _ _ ?_
  simp only [eX11_isGun_0, eX11_isGun_1, eX11_isGun_4, eX11_isGun_5, eX11_isGun_6, eX11_isGun_9, eX11_isGun_12, eX11_isGun_15, eX11_isGun_18, eX11_isGun_19, eX11_isGun_22, eX11_isGun_23, st_aload, st_goto, st_iconst, st_if_eq, st_if_ne, st_if_lt, st_if_ge, st_if_gt, st_if_le, st_ic_eq, st_ic_ne, st_ic_lt, st_ic_ge, st_ic_gt, st_ic_le, st_iload, st_iret, st_zret, st_bret, gf_4_201, gf_18_201, gf_17_400, gf_0_1103, mm_cut, cond_false, cond_true, List.getElem?_cons_succ, List.getElem?_cons_zero, Int.reduceToNat, Nat.reduceMod, Nat.reduceDiv, Nat.reduceAdd, true_and, and_true, mm_set, mm_set2, mm_pop, List.length_cons, List.length_nil, Nat.reduceLeDiff, Int32.reduceOfInt, Int64.reduceOfInt, nar_b0, nar_b1, List.cons_append, List.nil_append, Option.toList_some, Option.toList_none, List.map_cons, List.map_nil, List.sum_cons, List.sum_nil, cat_i, cat_r, cat_l, Nat.zero_le, Int32.reduceOfNat, Int32.reduceAdd, Int32.reduceLT, Int32.reduceLE, forall_const, true_implies, false_implies, not_false_eq_true, not_true_eq_false, bi_eq0, bi_ne0, sl_0, sl_3, va_rf, Nat.reduceEqDiff, if_false, ite_false, ite_true, reduceIte, List.set_cons_zero, List.set_cons_succ, Nat.succ_eq_add_one, mup_c, mup_s, mw_zero, ne_eq, lit_10, lit_01, lit_m10, lit_m11, nar_bi, hgn]
  refine ⟨fun h1 => ?_, fun h1 => ⟨fun h2 => ?_, fun h2 => ?_⟩⟩
  · rw [bi0 (by simp only [Int32.le_iff_toInt_le, Int32.lt_iff_toInt_lt, ← Int32.toInt_inj, Int32.reduceToInt, ne_eq] at *; omega)] at hQ; exact hQ
  · rw [bi0 (by simp only [Int32.le_iff_toInt_le, Int32.lt_iff_toInt_lt, ← Int32.toInt_inj, Int32.reduceToInt, ne_eq] at *; omega)] at hQ; exact hQ
  · rw [bi1 (by simp only [Int32.le_iff_toInt_le, Int32.lt_iff_toInt_lt, ← Int32.toInt_inj, Int32.reduceToInt, ne_eq] at *; omega)] at hQ; exact hQ
theorem c_areTwo {x y : Int32} {gn : Nat} (hgn : μ 18 1 = nI gn) (hg : gn ≤ 5) (hQ : Q (some (.int (bi ((0 ≤ x ∧ x ≤ nI gn - 1) ∧ (0 ≤ y ∧ y ≤ nI gn - 1) ∧ ¬ x = y)))) (HP ε μ)) : B0 (d + 2) mX11_areTwoGuns [.ref 0, .int x, .int y] (HP ε μ) Q := by
  refine b0_of_G0 (lv := [.ref 0, .int x, .int y]) (by decide +kernel) (Nat.le_of_ble_eq_true rfl) rfl ?_
  refine mw_ok (M := mX11_areTwoGuns) (fun _ => false) okTX11 rfl 20 _ _ _ _ ?_
  simp only [eX11_areTwoGuns_0, eX11_areTwoGuns_1, eX11_areTwoGuns_2, eX11_areTwoGuns_5, eX11_areTwoGuns_8, eX11_areTwoGuns_9, eX11_areTwoGuns_10, eX11_areTwoGuns_13, eX11_areTwoGuns_16, eX11_areTwoGuns_17, eX11_areTwoGuns_18, eX11_areTwoGuns_21, eX11_areTwoGuns_22, eX11_areTwoGuns_25, eX11_areTwoGuns_26, st_aload, st_goto, st_iconst, st_if_eq, st_if_ne, st_if_lt, st_if_ge, st_if_gt, st_if_le, st_ic_eq, st_ic_ne, st_ic_lt, st_ic_ge, st_ic_gt, st_ic_le, st_iload, st_inv, st_iret, st_zret, st_bret, HP_0, tab_109, mm_cut, cond_false, cond_true, List.getElem?_cons_succ, List.getElem?_cons_zero, Int.reduceToNat, Nat.reduceMod, Nat.reduceDiv, Nat.reduceAdd, true_and, and_true, mm_set, mm_set2, mm_pop, List.length_cons, List.length_nil, Nat.reduceLeDiff, Int32.reduceOfInt, Int64.reduceOfInt, nar_b0, nar_b1, List.cons_append, List.nil_append, Option.toList_some, Option.toList_none, List.map_cons, List.map_nil, List.sum_cons, List.sum_nil, cat_i, cat_r, cat_l, Nat.zero_le, Int32.reduceOfNat, Int32.reduceAdd, Int32.reduceLT, Int32.reduceLE, forall_const, true_implies, false_implies, not_false_eq_true, not_true_eq_false, bi_eq0, bi_ne0, sl_0, sl_3, va_rf, Nat.reduceEqDiff, if_false, ite_false, ite_true, reduceIte, List.set_cons_zero, List.set_cons_succ, Nat.succ_eq_add_one, mup_c, mup_s, mw_zero, ne_eq, lit_10, lit_01, lit_m10, lit_m11, nar_bi]
  refine c_isGun hgn hg ?_
  refine mw_ok (M := mX11_areTwoGuns) (fun _ => false) okTX11 rfl 20 _ _ _ _ ?_
  simp only [eX11_areTwoGuns_0, eX11_areTwoGuns_1, eX11_areTwoGuns_2, eX11_areTwoGuns_5, eX11_areTwoGuns_8, eX11_areTwoGuns_9, eX11_areTwoGuns_10, eX11_areTwoGuns_13, eX11_areTwoGuns_16, eX11_areTwoGuns_17, eX11_areTwoGuns_18, eX11_areTwoGuns_21, eX11_areTwoGuns_22, eX11_areTwoGuns_25, eX11_areTwoGuns_26, st_aload, st_goto, st_iconst, st_if_eq, st_if_ne, st_if_lt, st_if_ge, st_if_gt, st_if_le, st_ic_eq, st_ic_ne, st_ic_lt, st_ic_ge, st_ic_gt, st_ic_le, st_iload, st_inv, st_iret, st_zret, st_bret, HP_0, tab_109, mm_cut, cond_false, cond_true, List.getElem?_cons_succ, List.getElem?_cons_zero, Int.reduceToNat, Nat.reduceMod, Nat.reduceDiv, Nat.reduceAdd, true_and, and_true, mm_set, mm_set2, mm_pop, List.length_cons, List.length_nil, Nat.reduceLeDiff, Int32.reduceOfInt, Int64.reduceOfInt, nar_b0, nar_b1, List.cons_append, List.nil_append, Option.toList_some, Option.toList_none, List.map_cons, List.map_nil, List.sum_cons, List.sum_nil, cat_i, cat_r, cat_l, Nat.zero_le, Int32.reduceOfNat, Int32.reduceAdd, Int32.reduceLT, Int32.reduceLE, forall_const, true_implies, false_implies, not_false_eq_true, not_true_eq_false, bi_eq0, bi_ne0, sl_0, sl_3, va_rf, Nat.reduceEqDiff, if_false, ite_false, ite_true, reduceIte, List.set_cons_zero, List.set_cons_succ, Nat.succ_eq_add_one, mup_c, mup_s, mw_zero, ne_eq, lit_10, lit_01, lit_m10, lit_m11, nar_bi]
  refine ⟨fun h1 => ?_, fun h1 => ?_⟩
  · rw [bi0 (fun z => h1 z.1)] at hQ; exact hQ
  · have h1 := Classical.not_not.mp h1
    refine c_isGun hgn hg ?_
    refine mw_ok (M := mX11_areTwoGuns) (fun _ => false) okTX11 rfl 20 _ _ _ _ ?_
    simp only [eX11_areTwoGuns_0, eX11_areTwoGuns_1, eX11_areTwoGuns_2, eX11_areTwoGuns_5, eX11_areTwoGuns_8, eX11_areTwoGuns_9, eX11_areTwoGuns_10, eX11_areTwoGuns_13, eX11_areTwoGuns_16, eX11_areTwoGuns_17, eX11_areTwoGuns_18, eX11_areTwoGuns_21, eX11_areTwoGuns_22, eX11_areTwoGuns_25, eX11_areTwoGuns_26, st_aload, st_goto, st_iconst, st_if_eq, st_if_ne, st_if_lt, st_if_ge, st_if_gt, st_if_le, st_ic_eq, st_ic_ne, st_ic_lt, st_ic_ge, st_ic_gt, st_ic_le, st_iload, st_inv, st_iret, st_zret, st_bret, HP_0, tab_109, mm_cut, cond_false, cond_true, List.getElem?_cons_succ, List.getElem?_cons_zero, Int.reduceToNat, Nat.reduceMod, Nat.reduceDiv, Nat.reduceAdd, true_and, and_true, mm_set, mm_set2, mm_pop, List.length_cons, List.length_nil, Nat.reduceLeDiff, Int32.reduceOfInt, Int64.reduceOfInt, nar_b0, nar_b1, List.cons_append, List.nil_append, Option.toList_some, Option.toList_none, List.map_cons, List.map_nil, List.sum_cons, List.sum_nil, cat_i, cat_r, cat_l, Nat.zero_le, Int32.reduceOfNat, Int32.reduceAdd, Int32.reduceLT, Int32.reduceLE, forall_const, true_implies, false_implies, not_false_eq_true, not_true_eq_false, bi_eq0, bi_ne0, sl_0, sl_3, va_rf, Nat.reduceEqDiff, if_false, ite_false, ite_true, reduceIte, List.set_cons_zero, List.set_cons_succ, Nat.succ_eq_add_one, mup_c, mup_s, mw_zero, ne_eq, lit_10, lit_01, lit_m10, lit_m11, nar_bi]
    refine ⟨fun h2 => ?_, fun h2 => ⟨fun h3 => ?_, fun h3 => ?_⟩⟩
    · rw [bi0 (fun z => h2 z.2.1)] at hQ; exact hQ
    · rw [bi0 (fun z => z.2.2 h3)] at hQ; exact hQ
    · rw [bi1 ⟨h1, Classical.not_not.mp h2, h3⟩] at hQ; exact hQ
theorem c_refuse {x : Int32} {k : Nat} (hx : x = nI k) (hk : k < 5) (hQ : Q (some (.int (-1))) (HP ε (mup μ 39 k (μ 39 k + 1)))) : B0 (d + 1) mX11_refuse [.ref 0, .int x] (HP ε μ) Q := by
  subst hx
  refine b0_of_G0 (lv := [.ref 0, .int (nI k)]) (by decide +kernel) (Nat.le_of_ble_eq_true rfl) rfl ?_
  refine mw_ok (M := mX11_refuse) (fun _ => false) okTX11 rfl 20 _ _ _ _ ?_
  simp only [eX11_refuse_0, eX11_refuse_1, eX11_refuse_4, eX11_refuse_5, eX11_refuse_6, eX11_refuse_7, eX11_refuse_8, eX11_refuse_9, eX11_refuse_10, eX11_refuse_11, st_aload, st_dup2, st_iadd, st_iconst, st_iload, st_iret, st_zret, st_bret, gf_0_1109, ld_5, sv_5, ld_6, sv_6, ld_7, sv_7, ld_8, sv_8, ld_9, sv_9, ld_11, sv_11, ld_12, sv_12, ld_13, sv_13, ld_14, sv_14, ld_16, sv_16, ld_19, sv_19, ld_20, sv_20, ld_21, sv_21, ld_22, sv_22, ld_23, sv_23, ld_25, sv_25, ld_26, sv_26, ld_27, sv_27, ld_29, sv_29, ld_30, sv_30, ld_31, sv_31, ld_32, sv_32, ld_33, sv_33, ld_34, sv_34, ld_35, sv_35, ld_36, sv_36, ld_37, sv_37, ld_39, sv_39, ld_41, sv_41, ld_42, sv_42, ld_43, sv_43, ld_44, sv_44, ld_46, sv_46, ld_47, sv_47, ld_48, sv_48, ld_51, sv_51, ld_52, sv_52, ld_54, sv_54, ld_55, sv_55, mm_cut, cond_false, cond_true, List.getElem?_cons_succ, List.getElem?_cons_zero, Int.reduceToNat, Nat.reduceMod, Nat.reduceDiv, Nat.reduceAdd, true_and, and_true, mm_set, mm_set2, mm_pop, List.length_cons, List.length_nil, Nat.reduceLeDiff, Int32.reduceOfInt, Int64.reduceOfInt, nar_b0, nar_b1, List.cons_append, List.nil_append, Option.toList_some, Option.toList_none, List.map_cons, List.map_nil, List.sum_cons, List.sum_nil, cat_i, cat_r, cat_l, Nat.zero_le, Int32.reduceOfNat, Int32.reduceAdd, Int32.reduceLT, Int32.reduceLE, forall_const, true_implies, false_implies, not_false_eq_true, not_true_eq_false, bi_eq0, bi_ne0, sl_0, sl_3, va_rf, Nat.reduceEqDiff, if_false, ite_false, ite_true, reduceIte, List.set_cons_zero, List.set_cons_succ, Nat.succ_eq_add_one, mup_c, mup_s, mw_zero, ne_eq, lit_10, lit_01, lit_m10, lit_m11, nar_bi, vinT (a := k) rfl (show k < 5 by omega), clp (a := k) rfl (by omega)]
  exact hQ
end C0
