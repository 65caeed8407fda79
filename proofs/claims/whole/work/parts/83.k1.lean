/-! CLAIMS: the first of the best -/
/-- the first of the greatest -/
def fmx : List (Nat × Nat) → Nat × Nat
  | [] => (9, 0)
  | [c] => c
  | c :: e :: l => if c.2 < (fmx (e :: l)).2 then fmx (e :: l) else c
theorem fmx_cons {c : Nat × Nat} {l : List (Nat × Nat)} (h : l ≠ []) : fmx (c :: l) = if c.2 < (fmx l).2 then fmx l else c := by
  cases l with
  | nil => exact absurd rfl h
  | cons e l => rfl
section K1
variable (gn : Nat) (val : Nat → Nat) (v9 m : Nat)
/-- who may claim: digits and what comes of them, from the gun g on -/
def cdg : Nat → Nat → List (Nat × Nat)
  | 0, _ => [(9, v9)]
  | c + 1, g => if bt m g = true then cdg c (g + 1) else (g, val g) :: cdg c (g + 1)
def mxf : Nat → Nat → Nat → Nat
  | 0, _, b => b
  | c + 1, g, b => if bt m g = true then mxf c (g + 1) b else mxf c (g + 1) (max b (val g))
def fbs (V : Nat) : Nat → Nat → Nat
  | 0, _ => 9
  | c + 1, g => if ¬ bt m g = true ∧ val g = V then g else fbs V c (g + 1)
end K1
section K1b
variable {gn : Nat} {val : Nat → Nat} {v9 m : Nat}
theorem cdg_ne : ∀ (c g : Nat), cdg val v9 m c g ≠ []
  | 0, _ => by simp [cdg]
  | c + 1, g => by
    rw [cdg]
    split
    · exact cdg_ne c (g + 1)
    · simp
theorem mxf_is : ∀ (c g b : Nat), v9 ≤ b → mxf val m c g b = max b (fmx (cdg val v9 m c g)).2
  | 0, g, b, h => by rw [mxf, cdg, fmx]; omega
  | c + 1, g, b, h => by
    rw [mxf, cdg]
    split
    · exact mxf_is c (g + 1) b h
    · rw [mxf_is c (g + 1) _ (by omega), fmx_cons (cdg_ne c (g + 1))]
      split
      · dsimp only at *; omega
      · dsimp only at *; omega
theorem v9_le : ∀ (c g : Nat), v9 ≤ (fmx (cdg val v9 m c g)).2
  | 0, g => Nat.le_refl _
  | c + 1, g => by
    have := v9_le c (g + 1)
    rw [cdg]
    split
    · exact this
    · rw [fmx_cons (cdg_ne c (g + 1))]
      split
      · exact this
      · dsimp only at *; omega
theorem fbs_is {V : Nat} : ∀ (c g : Nat), (fmx (cdg val v9 m c g)).2 ≤ V → fbs val m V c g = if V = (fmx (cdg val v9 m c g)).2 then (fmx (cdg val v9 m c g)).1 else 9
  | 0, g, h => by rw [fbs, cdg, fmx]; split <;> rfl
  | c + 1, g, h => by
    rw [cdg] at h ⊢
    rw [fbs]
    by_cases hb : bt m g = true
    · rw [if_pos hb] at h ⊢
      rw [if_neg (fun z => z.1 hb)]
      exact fbs_is c (g + 1) h
    · rw [if_neg hb, fmx_cons (cdg_ne c (g + 1))] at h ⊢
      by_cases hlt : val g < (fmx (cdg val v9 m c (g + 1))).2
      · rw [if_pos hlt] at h ⊢
        rw [if_neg (fun z => by have := z.2; omega)]
        exact fbs_is c (g + 1) h
      · rw [if_neg hlt] at h ⊢
        dsimp only at h ⊢
        by_cases hv : V = val g
        · rw [if_pos ⟨hb, hv.symm⟩, if_pos hv]
        · rw [if_neg (fun z => hv z.2.symm), if_neg hv, fbs_is c (g + 1) (by omega), if_neg (by omega)]
theorem cdg_digit : ∀ (c g : Nat) (e : Nat × Nat), e ∈ cdg val v9 m c g → e.1 = 9 ∧ e.2 = v9 ∨ (g ≤ e.1 ∧ e.1 < g + c ∧ ¬ bt m e.1 = true ∧ e.2 = val e.1)
  | 0, g, e, h => by simp [cdg] at h; left; simp [h]
  | c + 1, g, e, h => by
    rw [cdg] at h
    split at h
    · rcases cdg_digit c (g + 1) e h with q | ⟨q1, q2, q3⟩
      · exact Or.inl q
      · exact Or.inr ⟨by omega, by omega, q3⟩
    · rename_i hb
      rcases List.mem_cons.mp h with rfl | h
      · exact Or.inr ⟨Nat.le_refl _, by omega, hb, rfl⟩
      · rcases cdg_digit c (g + 1) e h with q | ⟨q1, q2, q3⟩
        · exact Or.inl q
        · exact Or.inr ⟨by omega, by omega, q3⟩
end K1b
theorem fmx_mem : ∀ (l : List (Nat × Nat)), l ≠ [] → fmx l ∈ l
  | [c], _ => by simp [fmx]
  | c :: e :: l, _ => by
    rw [fmx_cons (by simp)]
    split
    · exact List.mem_cons_of_mem _ (fmx_mem (e :: l) (by simp))
    · exact List.mem_cons_self
section K2
variable (r : Nat → Nat → Nat) (gn : Nat)
/-- the most that these things give, these guns gone -/
def vv : List Nat → Nat → Nat
  | [], _ => 0
  | t :: l, m => (fmx (cdg (fun g => r t g + vv l (setb m g)) (vv l m) m gn 0)).2
def dg (t : Nat) (l : List Nat) (m : Nat) : Nat := (fmx (cdg (fun g => r t g + vv r gn l (setb m g)) (vv r gn l m) m gn 0)).1
def nm (m d : Nat) : Nat := if d = 9 then m else setb m d
def gr : List Nat → Nat → Nat → Nat
  | [], _, row => row
  | t :: l, m, row => gr l (nm m (dg r gn t l m)) (10 * row + dg r gn t l m)
end K2
/-- the better of two, if the second has the greater row -/
def upo (s : Option (Nat × Nat)) (c : Nat × Nat) : Option (Nat × Nat) := match s with
  | none => some c
  | some p => if p.2 < c.2 then some c else some p
def enc (o : Option (Nat × Nat)) (s : Int32 × Int32) : Prop := match o with
  | none => s.1 = -1
  | some p => s = (nI p.1, nI p.2) ∧ p.1 < 100000000 ∧ p.2 < 100000
theorem enc_up {o : Option (Nat × Nat)} {s : Int32 × Int32} {c : Nat × Nat} (h : enc o s) (ha : ∀ p, o = some p → p.1 ≤ c.1) (h1 : c.1 < 100000000) (h2 : c.2 < 100000) : enc (upo o c) (tr false s (nI c.1, nI c.2)) := by
  cases o with
  | none =>
    have h : s.1 = -1 := h
    unfold tr
    rw [if_pos (Or.inl h)]
    exact ⟨rfl, h1, h2⟩
  | some p =>
    obtain ⟨e, q1, q2⟩ := h
    subst e
    have hle := ha p rfl
    have n1 : ¬ nI p.1 = -1 := by
      intro z
      have := congrArg Int32.toInt z
      rw [nI_toInt (by omega)] at this
      have e1 : (-1 : Int32).toInt = -1 := rfl
      rw [e1] at this; omega
    unfold tr
    have eu : upo (some p) c = if p.2 < c.2 then some c else some p := rfl
    rw [eu]
    by_cases hlt : p.2 < c.2
    · rw [if_pos (Or.inr (Or.inl (by simpa using nI_lt hlt (by omega)))), if_pos hlt]; exact ⟨rfl, h1, h2⟩
    · rw [if_neg hlt, if_neg]
      · exact ⟨rfl, q1, q2⟩
      · intro z
        rcases z with z | z | z
        · exact n1 z
        · exact (nI_nlt (a := p.2) (b := c.2) (by omega) (by omega)) (by simpa using z)
        · exact nI_nlt (a := c.1) (b := p.1) hle (by omega) z.2
def upf (s : Option (Nat × Nat)) : List (Nat × Nat) → Option (Nat × Nat)
  | [] => s
  | c :: l => upf (upo s c) l
theorem upo_upo {s : Option (Nat × Nat)} {c e : Nat × Nat} : upo (upo s c) e = upo s (if c.2 < e.2 then e else c) := by
  cases s with
  | none =>
    show (if c.2 < e.2 then some e else some c) = some (if c.2 < e.2 then e else c)
    split <;> rfl
  | some p =>
    unfold upo
    dsimp only
    by_cases h1 : p.2 < c.2
    · rw [if_pos h1]
      dsimp only
      by_cases h2 : c.2 < e.2
      · rw [if_pos h2, if_pos h2, if_pos (by omega)]
      · rw [if_neg h2, if_neg h2, if_pos h1]
    · rw [if_neg h1]
      dsimp only
      by_cases h2 : c.2 < e.2
      · rw [if_pos h2]
      · rw [if_neg h2, if_neg h1, if_neg (by omega)]
theorem upf_fmx : ∀ (l : List (Nat × Nat)) (s : Option (Nat × Nat)), l ≠ [] → upf s l = upo s (fmx l)
  | [c], s, _ => rfl
  | c :: e :: l, s, _ => by
    rw [upf, upf_fmx (e :: l) _ (by simp), upo_upo, fmx_cons (c := c) (l := e :: l) (by simp)]
/-- those of so many from t on that can be claimed -/
def clf (ok : Nat → Bool) : Nat → Nat → List Nat
  | 0, _ => []
  | n + 1, t => if ok t = true then t :: clf ok n (t + 1) else clf ok n (t + 1)
theorem gr_lt {r : Nat → Nat → Nat} {gn : Nat} (hg5 : gn ≤ 5) : ∀ (l : List Nat) (m row : Nat), row * 10 ^ l.length ≤ gr r gn l m row ∧ gr r gn l m row < (row + 1) * 10 ^ l.length
  | [], m, row => by simp [gr]
  | t :: l, m, row => by
    rw [gr]
    have hd : dg r gn t l m ≤ 9 := by
      rcases cdg_digit _ _ _ (fmx_mem _ (cdg_ne (val := fun g => r t g + vv r gn l (setb m g)) (v9 := vv r gn l m) (m := m) gn 0)) with q | q
      · unfold dg; omega
      · unfold dg; omega
    have := gr_lt (r := r) hg5 l (nm m (dg r gn t l m)) (10 * row + dg r gn t l m)
    rw [List.length_cons, Nat.pow_succ]
    refine ⟨Nat.le_trans ?_ this.1, Nat.lt_of_lt_of_le this.2 ?_⟩
    · rw [show row * (10 ^ l.length * 10) = (10 * row) * 10 ^ l.length by rw [Nat.mul_comm (10 ^ l.length) 10, ← Nat.mul_assoc, Nat.mul_comm row 10]]
      exact Nat.mul_le_mul_right _ (by omega)
    · rw [show (row + 1) * (10 ^ l.length * 10) = (10 * row + 10) * 10 ^ l.length by rw [Nat.mul_comm (10 ^ l.length) 10, ← Nat.mul_assoc]; congr 1; omega]
      exact Nat.mul_le_mul_right _ (by omega)
theorem vv_le {r : Nat → Nat → Nat} {gn : Nat} (hr : ∀ t g, r t g ≤ 20) : ∀ (l : List Nat) (m : Nat), vv r gn l m ≤ 20 * l.length
  | [], m => by simp [vv]
  | t :: l, m => by
    rw [vv]
    rcases cdg_digit _ _ _ (fmx_mem _ (cdg_ne (val := fun g => r t g + vv r gn l (setb m g)) (v9 := vv r gn l m) (m := m) gn 0)) with q | q
    · rw [q.2]; have := vv_le (gn := gn) hr l m; simp only [List.length_cons]; omega
    · rw [q.2.2.2]; have := vv_le (gn := gn) hr l (setb m (fmx (cdg (fun g => r t g + vv r gn l (setb m g)) (vv r gn l m) m gn 0)).1); have := hr t (fmx (cdg (fun g => r t g + vv r gn l (setb m g)) (vv r gn l m) m gn 0)).1; simp only [List.length_cons]; omega
set_option maxRecDepth 2000 in
theorem tcl_is {R : Nat → Nat → Int32} {ok : Nat → Bool} {r : Nat → Nat → Nat} {gn : Nat} (hg5 : gn ≤ 5) (hR : ∀ t g, ok t = true → g < 5 → R t g = nI (r t g)) (hr : ∀ t g, r t g ≤ 20) : ∀ (n t m row sum : Nat) (s : Int32 × Int32) (o : Option (Nat × Nat)), m < 32 → enc o s → (∀ p, o = some p → p.1 ≤ row * 10 ^ (clf ok n t).length) → row * 10 ^ (clf ok n t).length + 10 ^ (clf ok n t).length ≤ 10000000 → sum + 20 * (clf ok n t).length ≤ 1000 → enc (upo o (gr r gn (clf ok n t) m row, sum + vv r gn (clf ok n t) m)) (tcl R ok gn n t m (nI row) (nI sum) s)
  | 0, t, m, row, sum, s, o, hm, he, ha, hb, hs => by
    rw [clf, gr, vv, tcl]
    have hb : row * 10 ^ 0 + 10 ^ 0 ≤ 10000000 := hb
    have ha : ∀ p, o = some p → p.1 ≤ row * 10 ^ 0 := ha
    exact enc_up he (fun p hp => by have := ha p hp; simpa using this) (by dsimp only; omega) (by dsimp only; simp [clf] at hs; omega)
  | n + 1, t, m, row, sum, s, o, hm, he, ha, hb, hs => by
    rw [tcl]
    by_cases hok : ok t = true
    · have hcl : clf ok (n + 1) t = t :: clf ok n (t + 1) := by rw [clf, if_pos hok]
      rw [hcl] at ha hb hs ⊢
      rw [if_pos hok]
      generalize hl : clf ok n (t + 1) = l at ha hb hs ⊢
      rw [List.length_cons] at ha hb hs
      have hpow : 10 ^ (l.length + 1) = 10 * 10 ^ l.length := by rw [Nat.pow_succ, Nat.mul_comm]
      have hP : 0 < 10 ^ l.length := Nat.pow_pos (by decide)
      generalize hPP : 10 ^ l.length = P at *
      rw [hpow] at ha hb
      have hassoc : row * (10 * P) = 10 * row * P := by rw [← Nat.mul_assoc, Nat.mul_comm row 10]
      rw [hassoc] at ha hb
      -- the guns, from g on
      have key : ∀ (c g : Nat) (s : Int32 × Int32) (o : Option (Nat × Nat)), g + c = gn → enc o s → (∀ p, o = some p → p.1 ≤ (10 * row + g) * P) → enc (upf o ((cdg (fun g => r t g + vv r gn l (setb m g)) (vv r gn l m) m c g).map (fun e => (gr r gn l (nm m e.1) (10 * row + e.1), sum + e.2)))) (tcl R ok gn n (t + 1) m (10 * nI row + 9) (nI sum) (lp (fun g s => if bt m g = true then s else tcl R ok gn n (t + 1) (setb m g) (10 * nI row + nI g) (nI sum + R t g) s) c g s)) := by
        intro c
        induction c with
        | zero =>
          intro g s o hg he ha
          have e9 : 10 * nI row + 9 = nI (10 * row + 9) := by rw [l10, l9, pk_mul, nI_add]
          rw [lp, cdg, List.map_cons, List.map_nil, upf, upf, e9]
          have := tcl_is hg5 hR hr n (t + 1) m (10 * row + 9) sum s o hm he (by
            intro p hp
            rw [hl, hPP]
            exact Nat.le_trans (ha p hp) (Nat.mul_le_mul_right _ (by omega))) (by
            rw [hl, hPP]
            have : (10 * row + 9) * P + P = 10 * row * P + 10 * P := by rw [Nat.add_mul]; omega
            rw [this]; exact hb) (by rw [hl]; omega)
          rw [hl] at this
          exact this
        | succ c ih =>
          intro g s o hg he ha
          rw [lp, cdg]
          by_cases hbt : bt m g = true
          · rw [if_pos hbt, if_pos hbt]
            exact ih (g + 1) s o (by omega) he (fun p hp => Nat.le_trans (ha p hp) (Nat.mul_le_mul_right _ (by omega)))
          · rw [if_neg hbt, if_neg hbt, List.map_cons, upf]
            have eg : 10 * nI row + nI g = nI (10 * row + g) := by rw [l10, pk_mul, nI_add]
            have es : nI sum + R t g = nI (sum + r t g) := by rw [hR t g hok (by omega), nI_add]
            have hsb := (setb_r m hm g (by omega) hbt).2
            have hrt := hr t g
            have hstep := tcl_is hg5 hR hr n (t + 1) (setb m g) (10 * row + g) (sum + r t g) s o hsb he (by
              intro p hp
              rw [hl, hPP]
              exact ha p hp) (by
              rw [hl, hPP]
              have h1 : (10 * row + g) * P + P ≤ (10 * row + 9) * P + P := Nat.add_le_add_right (Nat.mul_le_mul_right _ (by omega)) _
              have : (10 * row + 9) * P + P = 10 * row * P + 10 * P := by rw [Nat.add_mul]; omega
              omega) (by rw [hl]; omega)
            rw [hl] at hstep
            rw [eg, es]
            have hng : nm m g = setb m g := by unfold nm; rw [if_neg (by omega)]
            dsimp only
            rw [hng, ← Nat.add_assoc]
            refine ih (g + 1) _ _ (by omega) hstep ?_
            intro p hp
            have hgr := (gr_lt (r := r) hg5 l (setb m g) (10 * row + g)).2
            rw [hPP] at hgr
            have hle : (10 * row + g) * P ≤ (10 * row + (g + 1)) * P := Nat.mul_le_mul_right _ (by omega)
            unfold upo at hp
            cases o with
            | none => cases hp; exact Nat.le_of_lt hgr
            | some q =>
              dsimp only at hp
              split at hp
              · cases hp; exact Nat.le_of_lt hgr
              · have hq := ha q rfl
                have e := Option.some.inj hp
                rw [← e]; exact Nat.le_trans hq hle
      have := key gn 0 s o (by omega) he (fun p hp => by rw [Nat.add_zero]; exact ha p hp)
      rw [upf_fmx _ _ (by simp [cdg_ne])] at this
      -- the first of the greatest, through the map
      have hmap : ∀ (L : List (Nat × Nat)), L ≠ [] → fmx (L.map (fun e => (gr r gn l (nm m e.1) (10 * row + e.1), sum + e.2))) = (gr r gn l (nm m (fmx L).1) (10 * row + (fmx L).1), sum + (fmx L).2) := by
        intro L
        induction L with
        | nil => intro h; exact absurd rfl h
        | cons e L ih =>
          intro _
          cases L with
          | nil => rfl
          | cons e2 L =>
            rw [List.map_cons, fmx_cons (l := List.map _ (e2 :: L)) (by simp), ih (by simp), fmx_cons (c := e) (l := e2 :: L) (by simp)]
            dsimp only
            by_cases hlt : e.2 < (fmx (e2 :: L)).2
            · rw [if_pos hlt, if_pos (by omega)]
            · rw [if_neg hlt, if_neg (by omega)]
      rw [hmap _ (cdg_ne gn 0)] at this
      rw [gr, vv]
      exact this
    · have hcl : clf ok (n + 1) t = clf ok n (t + 1) := by rw [clf, if_neg hok]
      rw [hcl] at ha hb hs ⊢
      rw [if_neg hok]
      exact tcl_is hg5 hR hr n (t + 1) m row sum s o hm he ha hb hs
