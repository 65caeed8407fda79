/-! THE START: the heap after the constructors; the invariant there -/
def L56 : List mm_C := .inr (11, fX11 1) :: sX11 1
def L86 : List mm_C := L56 ++ .inr (12, fX12 57) :: sX12 57
def L87 : List mm_C := L86 ++ [.inl (.long, 1, .inr (.inl fun _ => 0))]
def mu0 : mm_mu := fun c => match c with
  | 0 => fun i => if i = 6 then -1 else if i = 7 then 2 else 0
  | 10 => fun i => if i = 0 then 4 else if i = 3 then 9 else 0
  | 24 => fun i => if i = 0 then 4 else if i = 3 then 9 else 0
  | 28 => fun i => if i = 0 then 4 else if i = 3 then 9 else 0
  | 56 => fun i => if i = 28 then -1 else if i = 29 then 2 else 0
  | _ => fun _ => 0
def ep0 : mm_X := (fun _ => 0, none, fun _ => none, 0, fun _ => 0)
theorem L87_len : L87.length = 87 := rfl
theorem hl_HP : hl L87 = HP ep0 mu0 := by
  funext k
  match k with
  | 0 => rfl
  | 1 => rfl
  | 2 => rfl
  | 3 => rfl
  | 4 => rfl
  | 5 => rfl
  | 6 => rfl
  | 7 => rfl
  | 8 => rfl
  | 9 => rfl
  | 10 => rfl
  | 11 => rfl
  | 12 => rfl
  | 13 => rfl
  | 14 => rfl
  | 15 => rfl
  | 16 => rfl
  | 17 => rfl
  | 18 => rfl
  | 19 => rfl
  | 20 => rfl
  | 21 => rfl
  | 22 => rfl
  | 23 => rfl
  | 24 => rfl
  | 25 => rfl
  | 26 => rfl
  | 27 => rfl
  | 28 => rfl
  | 29 => rfl
  | 30 => rfl
  | 31 => rfl
  | 32 => rfl
  | 33 => rfl
  | 34 => rfl
  | 35 => rfl
  | 36 => rfl
  | 37 => rfl
  | 38 => rfl
  | 39 => rfl
  | 40 => rfl
  | 41 => rfl
  | 42 => rfl
  | 43 => rfl
  | 44 => rfl
  | 45 => rfl
  | 46 => rfl
  | 47 => rfl
  | 48 => rfl
  | 49 => rfl
  | 50 => rfl
  | 51 => rfl
  | 52 => rfl
  | 53 => rfl
  | 54 => rfl
  | 55 => rfl
  | 56 => rfl
  | 57 => rfl
  | 58 => rfl
  | 59 => rfl
  | 60 => rfl
  | 61 => rfl
  | 62 => rfl
  | 63 => rfl
  | 64 => rfl
  | 65 => rfl
  | 66 => rfl
  | 67 => rfl
  | 68 => rfl
  | 69 => rfl
  | 70 => rfl
  | 71 => rfl
  | 72 => rfl
  | 73 => rfl
  | 74 => rfl
  | 75 => rfl
  | 76 => rfl
  | 77 => rfl
  | 78 => rfl
  | 79 => rfl
  | 80 => rfl
  | 81 => rfl
  | 82 => rfl
  | 83 => rfl
  | 84 => rfl
  | 85 => rfl
  | 86 => rfl
  | k + 87 =>
    have h1 : hl L87 (k + 87) = none := List.getElem?_eq_none (by rw [L87_len]; omega)
    rw [h1]
    show none = mm_law ep0 k _
    unfold mm_law
    rw [if_neg (fun z => absurd z.2 (Nat.not_lt_zero _))]
theorem J0 : J ep0 mu0 := by
  refine ⟨0, 0, 0, 0, fun _ => 0, 0, 0, 0, ?_, ?_, ?_, ?_, ?_, ?_, ?_⟩
  · exact ⟨by decide, by decide, fun z => absurd z (by decide), rfl, rfl, rfl, rfl, fun t ht => absurd ht (Nat.not_lt_zero _)⟩
  · refine ⟨⟨fun g hg => absurd hg (Nat.not_lt_zero _), fun z => absurd z (by decide), ⟨rfl, rfl, rfl⟩, fun g _ hg => ?_, fun g hg => absurd hg (Nat.not_lt_zero _), ⟨by decide, rfl, rfl, fun i c hi => absurd hi (Nat.not_lt_zero _)⟩⟩, ⟨rfl, by decide, rfl, by decide⟩, rfl, fun j hj => absurd hj (Nat.not_lt_zero _), fun j hj => absurd hj (Nat.not_lt_zero _)⟩
    unfold csv
    rw [if_neg (by omega), if_neg (by omega), if_neg (by omega)]
    rfl
  · exact Or.inl ⟨rfl, rfl⟩
  · exact ⟨by decide, ⟨rfl, fun _ _ => rfl⟩, rfl, rfl, fun n hn => absurd hn (Nat.not_lt_zero _), rfl, Or.inl ⟨rfl, rfl⟩⟩
  · exact ⟨rfl, rfl, by decide, fun i hi => absurd hi (Nat.not_lt_zero _)⟩
  · exact ⟨by decide, rfl, rfl, fun k hk => absurd hk (Nat.not_lt_zero _)⟩
  · exact ⟨rfl, fun _ _ => rfl, fun _ _ => rfl, rfl⟩
