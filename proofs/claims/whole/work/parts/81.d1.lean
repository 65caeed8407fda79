/-! DEALS: pegs dealt out anew, in the order of their rows -/
/-- the orders of the guns of a set, as rows rise -/
def prm : Nat → Nat → List (List Nat)
  | 0, _ => [[]]
  | n + 1, m => (List.range 5).flatMap (fun g => if bt m g = true then (prm n (clr m g)).map (fun q => g :: q) else [])
def fct : Nat → Nat
  | 0 => 1
  | n + 1 => (n + 1) * fct n
/-- the gun so many places on that is not dealt to -/
def gLeft (dt : Nat) : Nat → Nat → Nat → Nat
  | 0, _, _ => 0
  | c + 1, g, left => if bt dt g = true then gLeft dt c (g + 1) left else if left = 0 then g else gLeft dt c (g + 1) (left - 1)
/-- a deal by its number: n places still to go, dt dealt to -/
def dcd (gn : Nat) : Nat → Nat → Nat → List Nat
  | 0, _, _ => []
  | n + 1, dt, rest => gLeft dt gn 0 (rest / fct n) :: dcd gn n (dt + 2 ^ gLeft dt gn 0 (rest / fct n)) (rest % fct n)
def rwn : List Nat → Nat → Nat
  | [], r => r
  | g :: l, r => rwn l (10 * r + g)
theorem dcd_prm : ∀ gn, gn ≤ 5 → (List.range (fct gn)).map (fun D => dcd gn gn 0 D) = prm gn (2 ^ gn - 1) := by decide +kernel
theorem dcd_ok : ∀ gn, gn ≤ 5 → ∀ D, D < fct gn → ((dcd gn gn 0 D).all (fun g => decide (g < gn)) = true ∧ (dcd gn gn 0 D).length = gn) := by decide +kernel
theorem prm_rows : ∀ gn, gn ≤ 5 → ∀ D, D < fct gn - 1 → rwn (dcd gn gn 0 D) 0 < rwn (dcd gn gn 0 (D + 1)) 0 := by decide +kernel
theorem prm_small : ∀ gn, gn ≤ 5 → ∀ D, D < fct gn → rwn (dcd gn gn 0 D) 0 < 100000 := by decide +kernel
theorem prm_all : ∀ gn, gn ≤ 5 → ∀ q ∈ prm gn (2 ^ gn - 1), ∀ g, g < gn → g ∈ q := by decide +kernel
/-- pegs so k on laid to these guns -/
def asg (so : Nat → Int32) : Nat → List Nat → (Nat → Int32) → (Nat → Int32)
  | _, [], q => q
  | k, g :: l, q => asg so (k + 1) l (upd q g (so k))
theorem bt_clr0 : ∀ m, m < 32 → ∀ g, g < 5 → ∀ e, e < 5 → (!bt m g || (bt (clr m g) e == (bt m e && e != g))) = true := by decide +kernel
theorem bt_clr (m : Nat) (hm : m < 32) (g : Nat) (hg : g < 5) (e : Nat) (he : e < 5) (hb : bt m g = true) : bt (clr m g) e = true ↔ (bt m e = true ∧ e ≠ g) := by
  have := bt_clr0 m hm g hg e he
  rw [hb] at this
  simp only [Bool.not_true, Bool.false_or, beq_iff_eq] at this
  rw [this]; simp
theorem prm_mem : ∀ (n m : Nat) (q : List Nat), m < 32 → cnt5 m = n → q ∈ prm n m → q.Nodup ∧ q.length = n ∧ ∀ g, g ∈ q ↔ (g < 5 ∧ bt m g = true)
  | 0, m, q, hm, hc, hq => by
    simp only [prm, List.mem_singleton] at hq
    subst hq
    have := cnt5_0 m hm hc
    subst this
    refine ⟨List.nodup_nil, rfl, fun g => ⟨fun z => by simp at z, fun z => ?_⟩⟩
    exact absurd z.2 (by simp [bt])
  | n + 1, m, q, hm, hc, hq => by
    rw [prm, List.mem_flatMap] at hq
    obtain ⟨g, hg, hq⟩ := hq
    rw [List.mem_range] at hg
    split at hq
    · rename_i hb
      obtain ⟨q', hq', rfl⟩ := List.mem_map.mp hq
      obtain ⟨h1, h2⟩ := cnt5_clr m hm g hg hb
      obtain ⟨i1, i2, i3⟩ := prm_mem n (clr m g) q' h2 (by omega) hq'
      have hcl := bt_clr
      refine ⟨List.nodup_cons.mpr ⟨fun z => ?_, i1⟩, by simp [i2], fun e => ?_⟩
      · have := ((i3 g).mp z).2
        exact ((hcl m hm g hg g hg hb).mp this).2 rfl
      · rw [List.mem_cons, i3 e]
        refine ⟨fun z => ?_, fun z => ?_⟩
        · rcases z with rfl | ⟨z1, z2⟩
          · exact ⟨hg, hb⟩
          · exact ⟨z1, ((hcl m hm g hg e z1 hb).mp z2).1⟩
        · by_cases he : e = g
          · exact Or.inl he
          · exact Or.inr ⟨z.1, (hcl m hm g hg e z.1 hb).mpr ⟨z.2, he⟩⟩
    · simp at hq
theorem asg_ne {so : Nat → Int32} : ∀ (l : List Nat) (k : Nat) (q : Nat → Int32) (i : Nat), i ∉ l → asg so k l q i = q i
  | [], _, _, _, _ => rfl
  | g :: l, k, q, i, h => by
    rw [asg, asg_ne l (k + 1) _ i (fun z => h (List.mem_cons_of_mem _ z)), un (fun z => h (by rw [z]; exact List.mem_cons_self))]
theorem asg_at {so : Nat → Int32} : ∀ (l : List Nat) (k : Nat) (q : Nat → Int32) (j : Nat) (hj : j < l.length), l.Nodup → asg so k l q l[j] = so (k + j)
  | [], _, _, j, hj, _ => by simp at hj
  | g :: l, k, q, 0, _, h => by
    have := (List.nodup_cons.mp h).1
    rw [asg]
    show asg so (k + 1) l (upd q g (so k)) g = so (k + 0)
    rw [asg_ne l (k + 1) _ g this, us]; rfl
  | g :: l, k, q, j + 1, hj, h => by
    rw [asg]
    show asg so (k + 1) l (upd q g (so k)) (l[j]'(by simpa using hj)) = so (k + (j + 1))
    rw [asg_at l (k + 1) _ j (by simpa using hj) (List.nodup_cons.mp h).2, show k + 1 + j = k + (j + 1) by omega]
/-- the tries over a list of deals -/
def tdf (F : (Nat → Int32) → Int32) (so base : Nat → Int32) (pre : List Nat) (l : List (List Nat)) (s : Int32 × Int32) : Int32 × Int32 := l.foldl (fun b q => tr true b (nI (rwn (pre ++ q) 0), F (asg so 0 (pre ++ q) base))) s
theorem lp_flat {S T : Type} {f : Nat → S → S} {u : S → T} {g : Nat → T → T} (P : S → Prop) : ∀ (c k : Nat) (s : S), P s → (∀ j s, k ≤ j → j < k + c → P s → P (f j s) ∧ u (f j s) = g j (u s)) → P (lp f c k s) ∧ u (lp f c k s) = lp g c k (u s)
  | 0, k, s, hp, _ => ⟨hp, rfl⟩
  | c + 1, k, s, hp, h => by
    obtain ⟨h1, h2⟩ := h k s (Nat.le_refl _) (by omega) hp
    have := lp_flat P c (k + 1) (f k s) h1 (fun j s h3 h4 => h j s (by omega) (by omega))
    rw [lp, lp, ← h2]; exact this
theorem lp_ext {T : Type} {g : Nat → T → T} (hg : ∀ j t, 5 ≤ j → g j t = t) : ∀ (c k : Nat) (t : T), 5 ≤ k → lp g c k t = t
  | 0, _, _, _ => rfl
  | c + 1, k, t, h => by rw [lp, hg k t h]; exact lp_ext hg c (k + 1) t (by omega)
theorem tdl_is {F : (Nat → Int32) → Int32} {so base : Nat → Int32} {gn : Nat} (hg5 : gn ≤ 5) : ∀ (n k m : Nat) (pre : List Nat) (s : (Nat → Int32) × Int32 × Int32), m < 32 → cnt5 m = n → pre.length = k → pre.Nodup → (∀ g, g < gn ↔ (g ∈ pre ∨ (g < 5 ∧ bt m g = true))) → (∀ g, g ∈ pre → ¬ bt m g = true) → (∀ j (hj : j < pre.length), s.1 pre[j] = so j) → (∀ i, gn ≤ i → s.1 i = base i) →
    ((∀ j (hj : j < pre.length), (tdl F so gn n k m (nI (rwn pre 0)) s).1 pre[j] = so j) ∧ (∀ i, gn ≤ i → (tdl F so gn n k m (nI (rwn pre 0)) s).1 i = base i)) ∧ (tdl F so gn n k m (nI (rwn pre 0)) s).2 = tdf F so base pre (prm n m) s.2
  | 0, k, m, pre, s, hm, hc, hk, hnd, hall, hdis, hs1, hs2 => by
    have m0 := cnt5_0 m hm hc
    subst m0
    have e : s.1 = asg so 0 (pre ++ []) base := by
      rw [List.append_nil]
      funext i
      by_cases hi : i ∈ pre
      · obtain ⟨j, hj, rfl⟩ := List.getElem_of_mem hi
        rw [asg_at pre 0 base j hj hnd, Nat.zero_add]; exact hs1 j hj
      · rw [asg_ne pre 0 base i hi]
        refine hs2 i ?_
        rcases Nat.lt_or_ge i gn with z | z
        · rcases (hall i).mp z with q | q
          · exact absurd q hi
          · exact absurd q.2 (by simp [bt])
        · exact z
    refine ⟨⟨hs1, hs2⟩, ?_⟩
    rw [tdl, prm, tdf, List.foldl_cons, List.foldl_nil, ← e, List.append_nil]
  | n + 1, k, m, pre, s, hm, hc, hk, hnd, hall, hdis, hs1, hs2 => by
    have key := lp_flat (S := (Nat → Int32) × Int32 × Int32) (T := Int32 × Int32) (f := fun g s => if bt m g = true then tdl F so gn n (k + 1) (clr m g) (10 * nI (rwn pre 0) + nI g) (upd s.1 g (so k), s.2) else s) (u := fun s => s.2) (g := fun g b => if bt m g = true then tdf F so base (pre ++ [g]) (prm n (clr m g)) b else b) (fun s => (∀ j (hj : j < pre.length), s.1 pre[j] = so j) ∧ ∀ i, gn ≤ i → s.1 i = base i) gn 0 s ⟨hs1, hs2⟩ (by
      intro g s _ hg ⟨q1, q2⟩
      split
      · rename_i hb
        have hg5' : g < 5 := by omega
        obtain ⟨c1, c2⟩ := cnt5_clr m hm g hg5' hb
        have hcl := bt_clr
        have hgp : g ∉ pre := fun z => hdis g z hb
        have hrw : 10 * nI (rwn pre 0) + nI g = nI (rwn (pre ++ [g]) 0) := by
          have : ∀ (l : List Nat) (r : Nat), rwn (l ++ [g]) r = 10 * rwn l r + g := by
            intro l
            induction l with
            | nil => intro r; rfl
            | cons a l ih => intro r; rw [List.cons_append, rwn, rwn, ih]
          rw [this, l10, pk_mul, nI_add]
        rw [hrw]
        have := tdl_is (F := F) (so := so) (base := base) hg5 n (k + 1) (clr m g) (pre ++ [g]) (upd s.1 g (so k), s.2) c2 (by omega) (by simp [hk]) (by
          rw [List.nodup_append]
          exact ⟨hnd, by simp, fun a ha b hb2 => by simp at hb2; rw [hb2]; exact fun z => hgp (by rw [← z]; exact ha)⟩) (by
          intro e
          rw [hall e, List.mem_append, List.mem_singleton]
          refine ⟨fun z => ?_, fun z => ?_⟩
          · rcases z with z | ⟨z1, z2⟩
            · exact Or.inl (Or.inl z)
            · by_cases he : e = g
              · exact Or.inl (Or.inr he)
              · exact Or.inr ⟨z1, (hcl m hm g hg5' e z1 hb).mpr ⟨z2, he⟩⟩
          · rcases z with (z | z) | ⟨z1, z2⟩
            · exact Or.inl z
            · exact Or.inr ⟨by omega, by rw [z]; exact hb⟩
            · exact Or.inr ⟨z1, ((hcl m hm g hg5' e z1 hb).mp z2).1⟩) (by
          intro e he hbe
          rw [List.mem_append, List.mem_singleton] at he
          have he5 : e < 5 := by
            rcases he with he | he
            · have := (hall e).mpr (Or.inl he); omega
            · omega
          have := (hcl m hm g hg5' e he5 hb).mp hbe
          rcases he with he | he
          · exact hdis e he this.1
          · exact this.2 he) (by
          intro j hj
          dsimp only
          rw [List.length_append, List.length_singleton] at hj
          by_cases hjk : j < pre.length
          · rw [List.getElem_append_left hjk, un (fun z => hgp (by rw [← z]; exact List.getElem_mem hjk))]
            exact q1 j hjk
          · have : j = pre.length := by omega
            subst this
            rw [List.getElem_append_right (Nat.le_refl _)]
            simp only [Nat.sub_self, List.getElem_cons_zero]
            rw [us, hk]) (by
          intro i hi
          dsimp only
          rw [un (by have := (hall g).mpr (Or.inr ⟨hg5', hb⟩); omega)]; exact q2 i hi)
        refine ⟨⟨fun j hj => ?_, this.1.2⟩, this.2⟩
        have h2 := this.1.1 j (by simp; omega)
        rw [List.getElem_append_left hj] at h2
        exact h2
      · exact ⟨⟨q1, q2⟩, rfl⟩)
    rw [tdl]
    refine ⟨key.1, key.2.trans ?_⟩
    have hfold : ∀ (l : List Nat) (b : Int32 × Int32), tdf F so base pre (l.flatMap (fun g => if bt m g = true then (prm n (clr m g)).map (fun q => g :: q) else [])) b = l.foldl (fun b g => if bt m g = true then tdf F so base (pre ++ [g]) (prm n (clr m g)) b else b) b := by
      intro l
      induction l with
      | nil => intro b; rfl
      | cons g l ih =>
        intro b
        rw [List.flatMap_cons, List.foldl_cons, ← ih]
        unfold tdf
        rw [List.foldl_append]
        congr 1
        split
        · rw [List.foldl_map]; simp only [List.append_assoc, List.singleton_append]
        · rfl
    rw [prm, hfold]
    have hlp : ∀ (c k : Nat) (b : Int32 × Int32), lp (fun g b => if bt m g = true then tdf F so base (pre ++ [g]) (prm n (clr m g)) b else b) c k b = (List.range' k c).foldl (fun b g => if bt m g = true then tdf F so base (pre ++ [g]) (prm n (clr m g)) b else b) b := by
      intro c
      induction c with
      | zero => intro k b; rfl
      | succ c ih => intro k b; rw [lp, ih, List.range'_succ, List.foldl_cons]
    rw [hlp]
    have hsplit : List.range 5 = List.range' 0 gn ++ List.range' gn (5 - gn) := by
      rw [List.range_eq_range']
      rcases (show gn = 0 ∨ gn = 1 ∨ gn = 2 ∨ gn = 3 ∨ gn = 4 ∨ gn = 5 by omega) with rfl | rfl | rfl | rfl | rfl | rfl <;> rfl
    rw [hsplit, List.foldl_append]
    have hid : ∀ (l : List Nat) (b : Int32 × Int32), (∀ g ∈ l, gn ≤ g ∧ g < 5) → l.foldl (fun b g => if bt m g = true then tdf F so base (pre ++ [g]) (prm n (clr m g)) b else b) b = b := by
      intro l
      induction l with
      | nil => intro b _; rfl
      | cons g l ih =>
        intro b hl
        have hg := hl g List.mem_cons_self
        rw [List.foldl_cons, if_neg (fun z => by have := (hall g).mpr (Or.inr ⟨hg.2, z⟩); omega)]
        exact ih b (fun e he => hl e (List.mem_cons_of_mem _ he))
    exact (hid (List.range' gn (5 - gn)) _ (fun g hg => by rw [List.mem_range'_1] at hg; omega)).symm
