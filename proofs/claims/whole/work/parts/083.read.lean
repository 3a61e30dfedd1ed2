/-! ===== the reference reads: the same as what the class reads ===== -/
def hd0 : List Int → Int
  | [] => 0
  | c :: _ => c
def numA : List Int → Option (Int × List Int)
  | [] => none
  | c :: R => if 48 ≤ c ∧ c ≤ 57 then (if 48 ≤ hd0 R ∧ hd0 R ≤ 57 then some (10 * (c - 48) + hd0 R - 48, R.tail) else some (c - 48, R)) else none
def numR (lo hi e : Int) (R : List Int) : Option (Int × List Int) := match numA R with
  | none => none
  | some q => if hd0 q.2 = e ∧ lo ≤ q.1 ∧ q.1 ≤ hi then some (q.1, q.2.tail) else none
theorem hd0_c {R : List Int} (h : hd0 R ≠ 0) : ∃ c R1, R = c :: R1 := by
  cases R with
  | nil => exact absurd rfl h
  | cons c R1 => exact ⟨c, R1, rfl⟩
theorem numA_0 {R : List Int} (h : ¬ (48 ≤ hd0 R ∧ hd0 R ≤ 57)) : numA R = none := by
  cases R with
  | nil => rfl
  | cons c R1 => rw [numA, if_neg (show ¬ (48 ≤ c ∧ c ≤ 57) from h)]
theorem numA_1 {c : Int} {R1 : List Int} (h : 48 ≤ c ∧ c ≤ 57) (h2 : ¬ (48 ≤ hd0 R1 ∧ hd0 R1 ≤ 57)) : numA (c :: R1) = some (c - 48, R1) := by
  rw [numA, if_pos h, if_neg h2]
theorem numA_2 {c c2 : Int} {R2 : List Int} (h : 48 ≤ c ∧ c ≤ 57) (h2 : 48 ≤ c2 ∧ c2 ≤ 57) : numA (c :: c2 :: R2) = some (10 * (c - 48) + c2 - 48, R2) := by
  rw [numA, if_pos h, if_pos (show 48 ≤ hd0 (c2 :: R2) ∧ hd0 (c2 :: R2) ≤ 57 from h2)]
  rfl
theorem numR_n {lo hi e : Int} {R : List Int} (h : numA R = none) : numR lo hi e R = none := by unfold numR; rw [h]
theorem numR_s {lo hi e v : Int} {R R' : List Int} (h : numA R = some (v, R')) : numR lo hi e R = if hd0 R' = e ∧ lo ≤ v ∧ v ≤ hi then some (v, R'.tail) else none := by unfold numR; rw [h]
theorem numA_c (R : List Int) : numA R = none ∨ ∃ c R1, R = c :: R1 ∧ (48 ≤ c ∧ c ≤ 57) ∧ ((¬ (48 ≤ hd0 R1 ∧ hd0 R1 ≤ 57) ∧ numA R = some (c - 48, R1)) ∨ ∃ c2 R2, R1 = c2 :: R2 ∧ (48 ≤ c2 ∧ c2 ≤ 57) ∧ numA R = some (10 * (c - 48) + c2 - 48, R2)) := by
  cases R with
  | nil => exact Or.inl rfl
  | cons c R1 =>
    by_cases h : 48 ≤ c ∧ c ≤ 57
    · right
      refine ⟨c, R1, rfl, h, ?_⟩
      by_cases h2 : 48 ≤ hd0 R1 ∧ hd0 R1 ≤ 57
      · right
        obtain ⟨c2, R2, rfl⟩ := hd0_c (R := R1) (by omega)
        exact ⟨c2, R2, rfl, h2, numA_2 h h2⟩
      · exact Or.inl ⟨h2, numA_1 h h2⟩
    · exact Or.inl (by rw [numA, if_neg h])
theorem numA_mem {R : List Int} {q : Int × List Int} (h : numA R = some q) : ∀ y ∈ q.2, y ∈ R := by
  rcases numA_c R with h1 | ⟨c, R1, rfl, h1, h2 | ⟨c2, R2, rfl, h3, h4⟩⟩
  · rw [h1] at h; cases h
  · rw [h2.2] at h; cases h
    intro y hy; exact List.mem_cons_of_mem _ hy
  · rw [h4] at h; cases h
    intro y hy; exact List.mem_cons_of_mem _ (List.mem_cons_of_mem _ hy)
theorem numR_c {lo hi e v : Int} {R R' : List Int} (h : numR lo hi e R = some (v, R')) : (lo ≤ v ∧ v ≤ hi) ∧ ∃ X, numA R = some (v, X) ∧ hd0 X = e ∧ R' = X.tail := by
  cases hA : numA R with
  | none => rw [numR_n hA] at h; cases h
  | some q =>
    obtain ⟨v', X⟩ := q
    rw [numR_s hA] at h
    by_cases hc : hd0 X = e ∧ lo ≤ v' ∧ v' ≤ hi
    · rw [if_pos hc] at h
      cases h
      exact ⟨hc.2, X, rfl, hc.1, rfl⟩
    · rw [if_neg hc] at h; cases h
theorem numR_mem {lo hi e v : Int} {R R' : List Int} (h : numR lo hi e R = some (v, R')) : ∀ y ∈ R', y ∈ R := by
  obtain ⟨-, X, h1, h2, rfl⟩ := numR_c h
  exact fun y hy => numA_mem h1 y (List.mem_of_mem_tail hy)
theorem numR_no {lo hi : Int} {R : List Int} (h : ∀ y ∈ R, y ≠ 59) : numR lo hi 59 R = none := by
  cases hR : numR lo hi 59 R with
  | none => rfl
  | some q =>
    obtain ⟨v, R'⟩ := q
    obtain ⟨-, X, h1, h2, -⟩ := numR_c hR
    obtain ⟨c, X1, rfl⟩ := hd0_c (R := X) (by omega)
    exact absurd h2 (h c (numA_mem h1 c List.mem_cons_self))
theorem numA_app (B rest : List Int) : numA (B ++ 59 :: rest) = (numA B).map (fun q => (q.1, q.2 ++ 59 :: rest)) := by
  cases B with
  | nil => rw [List.nil_append, numA_0 (by show ¬ (48 ≤ (59 : Int) ∧ (59 : Int) ≤ 57); omega)]; rfl
  | cons c B =>
    by_cases h : 48 ≤ c ∧ c ≤ 57
    · cases B with
      | nil =>
        rw [List.cons_append, List.nil_append, numA_1 h (by show ¬ (48 ≤ (59 : Int) ∧ (59 : Int) ≤ 57); omega), numA_1 h (by show ¬ (48 ≤ (0 : Int) ∧ (0 : Int) ≤ 57); omega)]
        rfl
      | cons c2 B =>
        by_cases h2 : 48 ≤ c2 ∧ c2 ≤ 57
        · rw [List.cons_append, List.cons_append, numA_2 h h2, numA_2 h h2]; rfl
        · rw [List.cons_append, List.cons_append, numA_1 h (show ¬ (48 ≤ hd0 (c2 :: _) ∧ hd0 (c2 :: _) ≤ 57) from h2), numA_1 h (show ¬ (48 ≤ hd0 (c2 :: _) ∧ hd0 (c2 :: _) ≤ 57) from h2)]; rfl
    · rw [List.cons_append, numA_0 (show ¬ (48 ≤ hd0 (c :: _) ∧ hd0 (c :: _) ≤ 57) from h), numA_0 (show ¬ (48 ≤ hd0 (c :: _) ∧ hd0 (c :: _) ≤ 57) from h)]; rfl
/-- a number in an item's body, behind which the item's end stands -/
theorem nb_n {lo hi e : Int} {B rest : List Int} (h : numA B = none) : numR lo hi e (B ++ 59 :: rest) = none := numR_n (by rw [numA_app, h]; rfl)
theorem nb_e {lo hi e v : Int} {B rest : List Int} (h : numA B = some (v, [])) : numR lo hi e (B ++ 59 :: rest) = if 59 = e ∧ lo ≤ v ∧ v ≤ hi then some (v, rest) else none := numR_s (R' := 59 :: rest) (by rw [numA_app, h]; rfl)
theorem nb_c {lo hi e v c : Int} {B B2 rest : List Int} (h : numA B = some (v, c :: B2)) : numR lo hi e (B ++ 59 :: rest) = if c = e ∧ lo ≤ v ∧ v ≤ hi then some (v, B2 ++ 59 :: rest) else none := numR_s (R' := c :: (B2 ++ 59 :: rest)) (by rw [numA_app, h]; rfl)
def nxN (acc : List Int) (v : Int) (R : List Int) : Option (List Int) := match R with
  | [] => if 3 ≤ acc.length then none else some (acc ++ [v])
  | c :: B => if c = 44 then (if 3 ≤ acc.length then none else numF B (acc ++ [v]) 0 0) else none
theorem numF_nx {R acc : List Int} {f v : Int} (hf : f = 1 ∨ f = 2) (h : f = 2 ∨ ¬ (48 ≤ hd0 R ∧ hd0 R ≤ 57)) : numF R acc f v = nxN acc v R := by
  cases R with
  | nil =>
    rw [numF, nxN]
    by_cases h3 : 3 ≤ acc.length
    · rw [if_pos (Or.inr h3), if_pos h3]
    · rw [if_neg (by omega), if_neg h3]
  | cons c l =>
    rw [numF, nxN]
    by_cases h4 : c = 44
    · rw [if_pos h4, if_pos h4]
      by_cases h3 : 3 ≤ acc.length
      · rw [if_pos (Or.inr h3), if_pos h3]
      · rw [if_neg (by omega), if_neg h3]
    · rw [if_neg h4, if_neg h4]
      have h5 : f = 2 ∨ ¬ (48 ≤ c ∧ c ≤ 57) := h
      rw [if_neg (by omega)]
theorem numF_A (B acc : List Int) : (numA B = none → numF B acc 0 0 = none) ∧ (∀ v X, numA B = some (v, X) → numF B acc 0 0 = nxN acc v X) := by
  cases B with
  | nil =>
    refine ⟨fun _ => by rw [numF, if_pos (Or.inl rfl)], fun v X h => by rw [numA] at h; cases h⟩
  | cons c R =>
    by_cases hc : 48 ≤ c ∧ c ≤ 57
    · have e0 : numF (c :: R) acc 0 0 = numF R acc 1 (c - 48) := by
        rw [numF, if_neg (by omega), if_pos (by omega)]
        congr 1
        omega
      rw [e0]
      by_cases h2 : 48 ≤ hd0 R ∧ hd0 R ≤ 57
      · obtain ⟨c2, R2, rfl⟩ := hd0_c (R := R) (by omega)
        have h3 : 48 ≤ c2 ∧ c2 ≤ 57 := h2
        have e1 : numF (c2 :: R2) acc 1 (c - 48) = numF R2 acc 2 (10 * (c - 48) + c2 - 48) := by
          rw [numF, if_neg (by omega), if_pos (by omega)]
          congr 1
          omega
        rw [numA_2 hc h3, e1, numF_nx (Or.inr rfl) (Or.inl rfl)]
        exact ⟨fun h => (by cases h), fun v X h => by cases h; rfl⟩
      · rw [numA_1 hc h2, numF_nx (Or.inl rfl) (Or.inr h2)]
        exact ⟨fun h => (by cases h), fun v X h => by cases h; rfl⟩
    · rw [numA_0 (show ¬ (48 ≤ hd0 (c :: R) ∧ hd0 (c :: R) ≤ 57) from hc)]
      refine ⟨fun _ => ?_, fun v X h => by cases h⟩
      rw [numF]
      by_cases h4 : c = 44
      · rw [if_pos h4, if_pos (Or.inl rfl)]
      · rw [if_neg h4, if_neg (by omega)]
theorem numF_len : ∀ (B acc : List Int) (f v : Int) (ns : List Int), numF B acc f v = some ns → acc.length < ns.length
  | [], acc, f, v, ns, h => by
    rw [numF] at h
    split at h
    · cases h
    · cases h; simp
  | c :: l, acc, f, v, ns, h => by
    rw [numF] at h
    split at h
    · split at h
      · cases h
      · have := numF_len l _ _ _ _ h
        simp at this
        omega
    · split at h
      · exact numF_len l _ _ _ _ h
      · cases h
/-- the reference's own reading -/
def sgnR : List Int → List Int → Option (List Int × List Int)
  | [], _ => none
  | c :: l, sg => if c = 59 then some (sg, l) else if sgnF c < 0 ∨ 40 ≤ sg.length then none else sgnR l (sg ++ [sgnF c])
def rFo (F : mF) (R : List Int) : Option (mF × List Int) := if 4 ≤ F.1.2.1.length then none else (numR 0 F.1.1.length 44 R).bind (fun q => (numR (q.1 + 1) F.1.1.length 59 q.2).bind (fun s => if F.1.2.1.any (fun f => decide (q.1 < f.2.1 ∧ f.1 < s.1)) = true then none else some (((F.1.1, insL (fun q => q.1) (q.1, s.1, 1) F.1.2.1, F.1.2.2), F.2), s.2)))
def rHi (F : mF) (R : List Int) : Option (mF × List Int) := if 4 ≤ F.1.2.2.length then none else (numR 0 F.1.1.length 44 R).bind (fun q => if F.1.2.2.any (pH q.1) = true then none else (numR 1 5 59 q.2).bind (fun s => some (((F.1.1, F.1.2.1, insL (fun q => q.1) (q.1, s.1) F.1.2.2), F.2), s.2)))
def rWi (F : mF) (R : List Int) : Option (mF × List Int) := (numR 0 2 44 R).bind (fun q => (numR 4 20 44 q.2).bind (fun s => (numR 0 3 59 s.2).bind (fun u => some ((F.1, q.1, s.1, u.1, F.2.2.2.2), u.2))))
def rTb (F : mF) (R : List Int) : Option (mF × List Int) := (numR 1 8 59 R).bind (fun q => some ((F.1, F.2.1, F.2.2.1, F.2.2.2.1, q.1), q.2))
def rSg (F : mF) (R : List Int) : Option (mF × List Int) := (sgnR R F.1.1).map (fun q => (((q.1, F.1.2), F.2), q.2))
def rItem (first : Bool) (R : List Int) (F : mF) : Option (mF × List Int) := match R with
  | [] => none
  | c :: R1 => if c = 116 then (if first = true then rSg F R1 else none) else if c = 102 then rFo F R1 else if c = 104 then rHi F R1 else if c = 119 then rWi F R1 else if c = 98 then rTb F R1 else none
theorem rFo_1 {F : mF} {R : List Int} (h : 4 ≤ F.1.2.1.length) : rFo F R = none := by rw [rFo, if_pos h]
theorem rFo_2 {F : mF} {R : List Int} (h : numR 0 F.1.1.length 44 R = none) : rFo F R = none := by
  rw [rFo, h]; split <;> rfl
theorem rFo_3 {F : mF} {R R2 : List Int} {a : Int} (h : numR 0 F.1.1.length 44 R = some (a, R2)) (h2 : numR (a + 1) F.1.1.length 59 R2 = none) : rFo F R = none := by
  rw [rFo, h]
  split
  · rfl
  · rw [Option.bind_some, h2]; rfl
theorem rFo_4 {F : mF} {R R2 R3 : List Int} {a b : Int} (h : numR 0 F.1.1.length 44 R = some (a, R2)) (h2 : numR (a + 1) F.1.1.length 59 R2 = some (b, R3)) (h3 : F.1.2.1.any (fun f => decide (a < f.2.1 ∧ f.1 < b)) = true) : rFo F R = none := by
  rw [rFo, h]
  split
  · rfl
  · rw [Option.bind_some, h2, Option.bind_some, if_pos h3]
theorem rFo_5 {F : mF} {R R2 R3 : List Int} {a b : Int} (h0 : ¬ 4 ≤ F.1.2.1.length) (h : numR 0 F.1.1.length 44 R = some (a, R2)) (h2 : numR (a + 1) F.1.1.length 59 R2 = some (b, R3)) (h3 : ¬ F.1.2.1.any (fun f => decide (a < f.2.1 ∧ f.1 < b)) = true) : rFo F R = some (((F.1.1, insL (fun q => q.1) (a, b, 1) F.1.2.1, F.1.2.2), F.2), R3) := by
  rw [rFo, if_neg h0, h, Option.bind_some, h2, Option.bind_some, if_neg h3]
theorem rHi_1 {F : mF} {R : List Int} (h : 4 ≤ F.1.2.2.length) : rHi F R = none := by rw [rHi, if_pos h]
theorem rHi_2 {F : mF} {R : List Int} (h : numR 0 F.1.1.length 44 R = none) : rHi F R = none := by
  rw [rHi, h]; split <;> rfl
theorem rHi_3 {F : mF} {R R2 : List Int} {a : Int} (h : numR 0 F.1.1.length 44 R = some (a, R2)) (h3 : F.1.2.2.any (pH a) = true) : rHi F R = none := by
  rw [rHi, h]
  split
  · rfl
  · rw [Option.bind_some, if_pos h3]
theorem rHi_4 {F : mF} {R R2 : List Int} {a : Int} (h : numR 0 F.1.1.length 44 R = some (a, R2)) (h2 : numR 1 5 59 R2 = none) : rHi F R = none := by
  rw [rHi, h]
  split
  · rfl
  · rw [Option.bind_some, h2]; split <;> rfl
theorem rHi_5 {F : mF} {R R2 R3 : List Int} {a b : Int} (h0 : ¬ 4 ≤ F.1.2.2.length) (h : numR 0 F.1.1.length 44 R = some (a, R2)) (h3 : ¬ F.1.2.2.any (pH a) = true) (h2 : numR 1 5 59 R2 = some (b, R3)) : rHi F R = some (((F.1.1, F.1.2.1, insL (fun q => q.1) (a, b) F.1.2.2), F.2), R3) := by
  rw [rHi, if_neg h0, h, Option.bind_some, if_neg h3, h2, Option.bind_some]
theorem rWi_1 {F : mF} {R : List Int} (h : numR 0 2 44 R = none) : rWi F R = none := by rw [rWi, h]; rfl
theorem rWi_2 {F : mF} {R R2 : List Int} {a : Int} (h : numR 0 2 44 R = some (a, R2)) (h2 : numR 4 20 44 R2 = none) : rWi F R = none := by rw [rWi, h, Option.bind_some, h2]; rfl
theorem rWi_3 {F : mF} {R R2 R3 : List Int} {a b : Int} (h : numR 0 2 44 R = some (a, R2)) (h2 : numR 4 20 44 R2 = some (b, R3)) (h3 : numR 0 3 59 R3 = none) : rWi F R = none := by rw [rWi, h, Option.bind_some, h2, Option.bind_some, h3]; rfl
theorem rWi_4 {F : mF} {R R2 R3 R4 : List Int} {a b c : Int} (h : numR 0 2 44 R = some (a, R2)) (h2 : numR 4 20 44 R2 = some (b, R3)) (h3 : numR 0 3 59 R3 = some (c, R4)) : rWi F R = some ((F.1, a, b, c, F.2.2.2.2), R4) := by rw [rWi, h, Option.bind_some, h2, Option.bind_some, h3, Option.bind_some]
theorem rTb_1 {F : mF} {R : List Int} (h : numR 1 8 59 R = none) : rTb F R = none := by rw [rTb, h]; rfl
theorem rTb_2 {F : mF} {R R2 : List Int} {a : Int} (h : numR 1 8 59 R = some (a, R2)) : rTb F R = some ((F.1, F.2.1, F.2.2.1, F.2.2.2.1, a), R2) := by rw [rTb, h, Option.bind_some]
/-- where an item has no end, it is none -/
theorem sgnR_no : ∀ (R sg : List Int), (∀ y ∈ R, y ≠ 59) → sgnR R sg = none
  | [], _, _ => rfl
  | c :: l, sg, h => by
    rw [sgnR, if_neg (h c List.mem_cons_self)]
    split
    · rfl
    · exact sgnR_no l _ (fun y hy => h y (List.mem_cons_of_mem _ hy))
theorem rFo_no {F : mF} {R : List Int} (h : ∀ y ∈ R, y ≠ 59) : rFo F R = none := by
  cases h1 : numR 0 F.1.1.length 44 R with
  | none => exact rFo_2 h1
  | some q => exact rFo_3 (a := q.1) (R2 := q.2) h1 (numR_no (fun y hy => h y (numR_mem (v := q.1) (R' := q.2) h1 y hy)))
theorem rHi_no {F : mF} {R : List Int} (h : ∀ y ∈ R, y ≠ 59) : rHi F R = none := by
  cases h1 : numR 0 F.1.1.length 44 R with
  | none => exact rHi_2 h1
  | some q => exact rHi_4 (a := q.1) (R2 := q.2) h1 (numR_no (fun y hy => h y (numR_mem (v := q.1) (R' := q.2) h1 y hy)))
theorem rWi_no {F : mF} {R : List Int} (h : ∀ y ∈ R, y ≠ 59) : rWi F R = none := by
  cases h1 : numR 0 2 44 R with
  | none => exact rWi_1 h1
  | some q =>
    have hm := numR_mem (v := q.1) (R' := q.2) h1
    cases h2 : numR 4 20 44 q.2 with
    | none => exact rWi_2 (a := q.1) (R2 := q.2) h1 h2
    | some s => exact rWi_3 (a := q.1) (R2 := q.2) (b := s.1) (R3 := s.2) h1 h2 (numR_no (fun y hy => h y (hm y (numR_mem (v := s.1) (R' := s.2) h2 y hy))))
/-- an item: body, end, rest -/
theorem sgn_eq : ∀ (B rest sg : List Int), (∀ y ∈ B, y ≠ 59) → sgnR (B ++ 59 :: rest) sg = (rdSigns B sg).map (fun q => (q, rest))
  | [], rest, sg, _ => by rw [List.nil_append, sgnR, if_pos rfl, rdSigns]; rfl
  | c :: B, rest, sg, h => by
    rw [List.cons_append, sgnR, if_neg (h c List.mem_cons_self), rdSigns]
    split
    · rfl
    · exact sgn_eq B rest _ (fun y hy => h y (List.mem_cons_of_mem _ hy))
theorem ns_fold {F : mF} {ns : List Int} (h : ns.length ≠ 2) : numsF F 102 ns = none := by
  unfold numsF
  rw [if_pos rfl]
  match ns, h with
  | [], _ => rfl
  | [_], _ => rfl
  | [_, _], h => exact absurd rfl h
  | _ :: _ :: _ :: _, _ => rfl
theorem ns_hint {F : mF} {ns : List Int} (h : ns.length ≠ 2) : numsF F 104 ns = none := by
  unfold numsF
  rw [if_neg (by decide), if_pos rfl]
  match ns, h with
  | [], _ => rfl
  | [_], _ => rfl
  | [_, _], h => exact absurd rfl h
  | _ :: _ :: _ :: _, _ => rfl
theorem ns_wide {F : mF} {ns : List Int} (h : ns.length ≠ 3) : numsF F 119 ns = none := by
  unfold numsF
  rw [if_neg (by decide), if_neg (by decide), if_pos rfl]
  match ns, h with
  | [], _ => rfl
  | [_], _ => rfl
  | [_, _], _ => rfl
  | [_, _, _], h => exact absurd rfl h
  | _ :: _ :: _ :: _ :: _, _ => rfl
theorem ns_tab {F : mF} {ns : List Int} (h : ns.length ≠ 1) : numsF F 98 ns = none := by
  unfold numsF
  rw [if_neg (by decide), if_neg (by decide), if_neg (by decide), if_pos rfl]
  match ns, h with
  | [], _ => rfl
  | [_], h => exact absurd rfl h
  | _ :: _ :: _, _ => rfl
theorem bind_none_of {o : Option (List Int)} {f : List Int → Option mF} (h : ∀ ns, o = some ns → f ns = none) : o.bind f = none := by
  cases o with
  | none => rfl
  | some ns => exact h ns rfl
/-- two numbers in a body: the first one and what is behind it -/
theorem numF_first (B acc : List Int) (ha : acc.length < 3) : (numA B = none ∧ numF B acc 0 0 = none) ∨ (∃ v, numA B = some (v, []) ∧ numF B acc 0 0 = some (acc ++ [v])) ∨ (∃ v B2, numA B = some (v, 44 :: B2) ∧ numF B acc 0 0 = numF B2 (acc ++ [v]) 0 0) ∨ ∃ v c B2, numA B = some (v, c :: B2) ∧ c ≠ 44 ∧ numF B acc 0 0 = none := by
  obtain ⟨h1, h2⟩ := numF_A B acc
  cases hA : numA B with
  | none => exact Or.inl ⟨rfl, h1 hA⟩
  | some q =>
    obtain ⟨v, X⟩ := q
    have h3 := h2 v X hA
    cases X with
    | nil => exact Or.inr (Or.inl ⟨v, rfl, by rw [h3, nxN, if_neg (by omega)]⟩)
    | cons c B2 =>
      by_cases hc : c = 44
      · subst hc
        exact Or.inr (Or.inr (Or.inl ⟨v, B2, rfl, by rw [h3, nxN, if_pos rfl, if_neg (by omega)]⟩))
      · exact Or.inr (Or.inr (Or.inr ⟨v, c, B2, rfl, hc, by rw [h3, nxN, if_neg hc]⟩))
theorem numF_pre : ∀ (B acc : List Int) (f v : Int) (ns : List Int), numF B acc f v = some ns → ∃ t, ns = acc ++ t
  | [], acc, f, v, ns, h => by
    rw [numF] at h
    split at h
    · cases h
    · cases h; exact ⟨_, rfl⟩
  | c :: l, acc, f, v, ns, h => by
    rw [numF] at h
    split at h
    · split at h
      · cases h
      · obtain ⟨t, ht⟩ := numF_pre l _ _ _ _ h
        exact ⟨v :: t, by rw [ht]; simp⟩
    · split at h
      · exact numF_pre l _ _ _ _ h
      · cases h
theorem fo_eq {F : mF} {B rest : List Int} (hB : ∀ y ∈ B, y ≠ 59) : rFo F (B ++ 59 :: rest) = ((numF B [] 0 0).bind (numsF F 102)).map (fun G => (G, rest)) := by
  have hr : ∀ a b : Int, _ := fun a b => refF_c (n := F.1.1.length) (fo := F.1.2.1) (a := a) (b := b)
  have e3 : ∀ a b : Int, numsF F 102 [a, b] = rdFold F a b := fun a b => by unfold numsF; rw [if_pos rfl]
  rcases numF_first B [] (by simp) with ⟨hA, hN⟩ | ⟨a, hA, hN⟩ | ⟨a, B2, hA, hN⟩ | ⟨a, c, B2, hA, hc, hN⟩
  · rw [hN, rFo_2 (nb_n hA)]; rfl
  · rw [hN, rFo_2 (by rw [nb_e hA, if_neg (by omega)]), Option.bind_some, ns_fold (by simp)]; rfl
  · rw [hN]
    have hB2 : ∀ y ∈ B2, y ≠ 59 := fun y hy => hB y (numA_mem hA y (List.mem_cons_of_mem _ hy))
    by_cases h1 : 0 ≤ a ∧ a ≤ (F.1.1.length : Int)
    · have e1 : numR 0 F.1.1.length 44 (B ++ 59 :: rest) = some (a, B2 ++ 59 :: rest) := by rw [nb_c hA, if_pos ⟨rfl, h1.1, h1.2⟩]
      rcases numF_first B2 ([] ++ [a]) (by simp) with ⟨hA2, hN2⟩ | ⟨b, hA2, hN2⟩ | ⟨b, B3, hA2, hN2⟩ | ⟨b, c, B3, hA2, hc, hN2⟩
      · rw [hN2, rFo_3 e1 (nb_n hA2)]; rfl
      · rw [hN2, Option.bind_some]
        have e4 : numsF F 102 ([] ++ [a] ++ [b]) = rdFold F a b := e3 a b
        rw [e4, rdFold]
        by_cases h2 : a + 1 ≤ b ∧ b ≤ (F.1.1.length : Int)
        · have e2 : numR (a + 1) F.1.1.length 59 (B2 ++ 59 :: rest) = some (b, rest) := by rw [nb_e hA2, if_pos ⟨rfl, h2⟩]
          have h5 : 0 ≤ a ∧ a < b ∧ b ≤ (F.1.1.length : Int) := by omega
          by_cases h3 : F.1.2.1.any (fun q => decide (a < q.2.1 ∧ q.1 < b)) = true
          · rw [rFo_4 e1 e2 h3, if_neg (by rw [((hr a b).2 h5).1 h3]; decide)]; rfl
          · by_cases h4 : 4 ≤ F.1.2.1.length
            · rw [rFo_1 h4, if_neg (by rw [(((hr a b).2 h5).2 h3).2 (by omega)]; decide)]; rfl
            · rw [rFo_5 h4 e1 e2 h3, if_pos ((((hr a b).2 h5).2 h3).1 (by omega))]; rfl
        · have e2 : numR (a + 1) F.1.1.length 59 (B2 ++ 59 :: rest) = none := by rw [nb_e hA2, if_neg (fun h9 => h2 h9.2)]
          rw [rFo_3 e1 e2, if_neg (by rw [(hr a b).1 (by omega)]; decide)]; rfl
      · rw [rFo_3 e1 (by rw [nb_c hA2, if_neg (by omega)]), hN2, bind_none_of (fun ns h9 => ns_fold (by have := numF_len _ _ _ _ _ h9; simp at this; omega))]; rfl
      · rw [rFo_3 e1 (by rw [nb_c hA2, if_neg (fun h9 => hB2 c (numA_mem hA2 c List.mem_cons_self) h9.1)]), hN2]; rfl
    · rw [rFo_2 (by rw [nb_c hA, if_neg (fun h9 => h1 h9.2)]), bind_none_of (fun ns h9 => ?_)]
      · rfl
      · obtain ⟨t, rfl⟩ := numF_pre _ _ _ _ _ h9
        by_cases hl : t.length = 1
        · match t, hl with
          | [b], _ =>
            have e4 : numsF F 102 ([] ++ [a] ++ [b]) = rdFold F a b := e3 a b
            rw [e4, rdFold, if_neg (by rw [(hr a b).1 (by omega)]; decide)]
        · exact ns_fold (by simp; omega)
  · rw [hN, rFo_2 (by rw [nb_c hA, if_neg (fun h9 => hc h9.1)])]; rfl
theorem hi_eq {F : mF} {B rest : List Int} (hB : ∀ y ∈ B, y ≠ 59) : rHi F (B ++ 59 :: rest) = ((numF B [] 0 0).bind (numsF F 104)).map (fun G => (G, rest)) := by
  have hr : ∀ a b : Int, _ := fun a b => refH_c (n := F.1.1.length) (hi := F.1.2.2) (a := a) (b := b)
  have e3 : ∀ a b : Int, numsF F 104 [a, b] = rdHint F a b := fun a b => by unfold numsF; rw [if_neg (by decide), if_pos rfl]
  rcases numF_first B [] (by simp) with ⟨hA, hN⟩ | ⟨a, hA, hN⟩ | ⟨a, B2, hA, hN⟩ | ⟨a, c, B2, hA, hc, hN⟩
  · rw [hN, rHi_2 (nb_n hA)]; rfl
  · rw [hN, rHi_2 (by rw [nb_e hA, if_neg (by omega)]), Option.bind_some, ns_hint (by simp)]; rfl
  · rw [hN]
    have hB2 : ∀ y ∈ B2, y ≠ 59 := fun y hy => hB y (numA_mem hA y (List.mem_cons_of_mem _ hy))
    by_cases h1 : 0 ≤ a ∧ a ≤ (F.1.1.length : Int)
    · have e1 : numR 0 F.1.1.length 44 (B ++ 59 :: rest) = some (a, B2 ++ 59 :: rest) := by rw [nb_c hA, if_pos ⟨rfl, h1.1, h1.2⟩]
      rcases numF_first B2 ([] ++ [a]) (by simp) with ⟨hA2, hN2⟩ | ⟨b, hA2, hN2⟩ | ⟨b, B3, hA2, hN2⟩ | ⟨b, c, B3, hA2, hc, hN2⟩
      · rw [hN2, rHi_4 e1 (nb_n hA2)]; rfl
      · rw [hN2, Option.bind_some]
        have e4 : numsF F 104 ([] ++ [a] ++ [b]) = rdHint F a b := e3 a b
        rw [e4, rdHint]
        by_cases h2 : 1 ≤ b ∧ b ≤ 5
        · have e2 : numR 1 5 59 (B2 ++ 59 :: rest) = some (b, rest) := by rw [nb_e hA2, if_pos ⟨rfl, h2⟩]
          have h5 : (0 ≤ a ∧ a ≤ (F.1.1.length : Int)) ∧ 1 ≤ b ∧ b ≤ 5 := by omega
          by_cases h3 : F.1.2.2.any (pH a) = true
          · rw [rHi_3 e1 h3, if_neg (by rw [((hr a b).2 h5).1 h3]; decide)]; rfl
          · by_cases h4 : 4 ≤ F.1.2.2.length
            · rw [rHi_1 h4, if_neg (by rw [(((hr a b).2 h5).2 h3).2 (by omega)]; decide)]; rfl
            · rw [rHi_5 h4 e1 h3 e2, if_pos ((((hr a b).2 h5).2 h3).1 (by omega))]; rfl
        · have e2 : numR 1 5 59 (B2 ++ 59 :: rest) = none := by rw [nb_e hA2, if_neg (fun h9 => h2 h9.2)]
          rw [rHi_4 e1 e2, if_neg (by rw [(hr a b).1 (by omega)]; decide)]; rfl
      · rw [rHi_4 e1 (by rw [nb_c hA2, if_neg (by omega)]), hN2, bind_none_of (fun ns h9 => ns_hint (by have := numF_len _ _ _ _ _ h9; simp at this; omega))]; rfl
      · rw [rHi_4 e1 (by rw [nb_c hA2, if_neg (fun h9 => hB2 c (numA_mem hA2 c List.mem_cons_self) h9.1)]), hN2]; rfl
    · rw [rHi_2 (by rw [nb_c hA, if_neg (fun h9 => h1 h9.2)]), bind_none_of (fun ns h9 => ?_)]
      · rfl
      · obtain ⟨t, rfl⟩ := numF_pre _ _ _ _ _ h9
        by_cases hl : t.length = 1
        · match t, hl with
          | [b], _ =>
            have e4 : numsF F 104 ([] ++ [a] ++ [b]) = rdHint F a b := e3 a b
            rw [e4, rdHint, if_neg (by rw [(hr a b).1 (by omega)]; decide)]
        · exact ns_hint (by simp; omega)
  · rw [hN, rHi_2 (by rw [nb_c hA, if_neg (fun h9 => hc h9.1)])]; rfl
theorem tb_eq {F : mF} {B rest : List Int} (hB : ∀ y ∈ B, y ≠ 59) : rTb F (B ++ 59 :: rest) = ((numF B [] 0 0).bind (numsF F 98)).map (fun G => (G, rest)) := by
  have e3 : ∀ a : Int, numsF F 98 [a] = rdTab F a := fun a => by unfold numsF; rw [if_neg (by decide), if_neg (by decide), if_neg (by decide), if_pos rfl]
  rcases numF_first B [] (by simp) with ⟨hA, hN⟩ | ⟨a, hA, hN⟩ | ⟨a, B2, hA, hN⟩ | ⟨a, c, B2, hA, hc, hN⟩
  · rw [hN, rTb_1 (nb_n hA)]; rfl
  · rw [hN, Option.bind_some]
    have e4 : numsF F 98 ([] ++ [a]) = rdTab F a := e3 a
    rw [e4, rdTab]
    by_cases h1 : 1 ≤ a ∧ a ≤ 8
    · rw [rTb_2 (a := a) (R2 := rest) (by rw [nb_e hA, if_pos ⟨rfl, h1⟩]), if_pos h1]; rfl
    · rw [rTb_1 (by rw [nb_e hA, if_neg (fun h9 => h1 h9.2)]), if_neg h1]; rfl
  · rw [hN, rTb_1 (by rw [nb_c hA, if_neg (by omega)]), bind_none_of (fun ns h9 => ns_tab (by have := numF_len _ _ _ _ _ h9; simp at this; omega))]; rfl
  · rw [hN, rTb_1 (by rw [nb_c hA, if_neg (fun h9 => hB c (numA_mem hA c List.mem_cons_self) h9.1)])]; rfl
theorem wi_eq {F : mF} {B rest : List Int} (hB : ∀ y ∈ B, y ≠ 59) : rWi F (B ++ 59 :: rest) = ((numF B [] 0 0).bind (numsF F 119)).map (fun G => (G, rest)) := by
  have e3 : ∀ a b c : Int, numsF F 119 [a, b, c] = rdFlow F a b c := fun a b c => by unfold numsF; rw [if_neg (by decide), if_neg (by decide), if_pos rfl]
  rcases numF_first B [] (by simp) with ⟨hA, hN⟩ | ⟨a, hA, hN⟩ | ⟨a, B2, hA, hN⟩ | ⟨a, c, B2, hA, hc, hN⟩
  · rw [hN, rWi_1 (nb_n hA)]; rfl
  · rw [hN, rWi_1 (by rw [nb_e hA, if_neg (by omega)]), Option.bind_some, ns_wide (by simp)]; rfl
  · rw [hN]
    have hB2 : ∀ y ∈ B2, y ≠ 59 := fun y hy => hB y (numA_mem hA y (List.mem_cons_of_mem _ hy))
    by_cases h1 : 0 ≤ a ∧ a ≤ 2
    · have e1 : numR 0 2 44 (B ++ 59 :: rest) = some (a, B2 ++ 59 :: rest) := by rw [nb_c hA, if_pos ⟨rfl, h1.1, h1.2⟩]
      rcases numF_first B2 ([] ++ [a]) (by simp) with ⟨hA2, hN2⟩ | ⟨b, hA2, hN2⟩ | ⟨b, B3, hA2, hN2⟩ | ⟨b, c, B3, hA2, hc, hN2⟩
      · rw [hN2, rWi_2 e1 (nb_n hA2)]; rfl
      · rw [hN2, rWi_2 e1 (by rw [nb_e hA2, if_neg (by omega)]), Option.bind_some, ns_wide (by simp)]; rfl
      · rw [hN2]
        have hB3 : ∀ y ∈ B3, y ≠ 59 := fun y hy => hB2 y (numA_mem hA2 y (List.mem_cons_of_mem _ hy))
        by_cases h2 : 4 ≤ b ∧ b ≤ 20
        · have e2 : numR 4 20 44 (B2 ++ 59 :: rest) = some (b, B3 ++ 59 :: rest) := by rw [nb_c hA2, if_pos ⟨rfl, h2.1, h2.2⟩]
          rcases numF_first B3 ([] ++ [a] ++ [b]) (by simp) with ⟨hA3, hN3⟩ | ⟨c, hA3, hN3⟩ | ⟨c, B4, hA3, hN3⟩ | ⟨c, d, B4, hA3, hc, hN3⟩
          · rw [hN3, rWi_3 e1 e2 (nb_n hA3)]; rfl
          · rw [hN3, Option.bind_some]
            have e4 : numsF F 119 ([] ++ [a] ++ [b] ++ [c]) = rdFlow F a b c := e3 a b c
            rw [e4, rdFlow]
            by_cases h3 : 0 ≤ c ∧ c ≤ 3
            · rw [rWi_4 (c := c) (R4 := rest) e1 e2 (by rw [nb_e hA3, if_pos ⟨rfl, h3⟩]), if_pos ⟨h1, h2, h3⟩]; rfl
            · rw [rWi_3 e1 e2 (by rw [nb_e hA3, if_neg (fun h9 => h3 h9.2)]), if_neg (fun h9 => h3 h9.2.2)]; rfl
          · rw [hN3, rWi_3 e1 e2 (by rw [nb_c hA3, if_neg (by omega)]), bind_none_of (fun ns h9 => ns_wide (by have := numF_len _ _ _ _ _ h9; simp at this; omega))]; rfl
          · rw [hN3, rWi_3 e1 e2 (by rw [nb_c hA3, if_neg (fun h9 => hB3 d (numA_mem hA3 d List.mem_cons_self) h9.1)])]; rfl
        · rw [rWi_2 e1 (by rw [nb_c hA2, if_neg (fun h9 => h2 h9.2)]), bind_none_of (fun ns h9 => ?_)]
          · rfl
          · obtain ⟨t, rfl⟩ := numF_pre _ _ _ _ _ h9
            by_cases hl : t.length = 1
            · match t, hl with
              | [c], _ =>
                have e4 : numsF F 119 ([] ++ [a] ++ [b] ++ [c]) = rdFlow F a b c := e3 a b c
                rw [e4, rdFlow, if_neg (fun h8 => h2 h8.2.1)]
            · exact ns_wide (by simp; omega)
      · rw [hN2, rWi_2 e1 (by rw [nb_c hA2, if_neg (fun h9 => hc h9.1)])]; rfl
    · rw [rWi_1 (by rw [nb_c hA, if_neg (fun h9 => h1 h9.2)]), bind_none_of (fun ns h9 => ?_)]
      · rfl
      · obtain ⟨t, rfl⟩ := numF_pre _ _ _ _ _ h9
        by_cases hl : t.length = 2
        · match t, hl with
          | [b, c], _ =>
            have e4 : numsF F 119 ([] ++ [a] ++ [b, c]) = rdFlow F a b c := e3 a b c
            rw [e4, rdFlow, if_neg (fun h8 => h1 h8.1)]
        · exact ns_wide (by simp; omega)
  · rw [hN, rWi_1 (by rw [nb_c hA, if_neg (fun h9 => hc h9.1)])]; rfl
theorem sg_eq {F : mF} {B rest : List Int} (hB : ∀ y ∈ B, y ≠ 59) : rSg F (B ++ 59 :: rest) = ((rdSigns B F.1.1).map (fun sg => (((sg, F.1.2), F.2) : mF))).map (fun G => (G, rest)) := by
  rw [rSg, sgn_eq B rest _ hB]
  cases rdSigns B F.1.1 <;> rfl
theorem cut_no : ∀ (R : List Int), cut R = none → ∀ y ∈ R, y ≠ 59
  | [], _, y, hy => by simp at hy
  | c :: l, h, y, hy => by
    rw [cut] at h
    by_cases hc : c = 59
    · rw [if_pos hc] at h; cases h
    · rw [if_neg hc] at h
      have h2 : cut l = none := by
        cases hl : cut l with
        | none => rfl
        | some q => rw [hl] at h; cases h
      rcases List.mem_cons.mp hy with h3 | h3
      · rw [h3]; exact hc
      · exact cut_no l h2 y h3
theorem cut_split : ∀ (R : List Int) (q : List Int × List Int), cut R = some q → R = q.1 ++ 59 :: q.2 ∧ ∀ y ∈ q.1, y ≠ 59
  | [], q, h => by rw [cut] at h; cases h
  | c :: l, q, h => by
    rw [cut] at h
    by_cases hc : c = 59
    · rw [if_pos hc] at h; cases h
      exact ⟨by rw [hc]; rfl, fun y hy => by simp at hy⟩
    · rw [if_neg hc] at h
      cases hl : cut l with
      | none => rw [hl] at h; cases h
      | some s =>
        rw [hl] at h; cases h
        obtain ⟨h1, h2⟩ := cut_split l s hl
        refine ⟨?_, fun y hy => ?_⟩
        · show c :: l = c :: (s.1 ++ 59 :: s.2)
          rw [← h1]
        · rcases List.mem_cons.mp hy with h3 | h3
          · rw [h3]; exact hc
          · exact h2 y h3
theorem item_none {R : List Int} (h : cut R = none) (first : Bool) (F : mF) : rItem first R F = none := by
  have hn := cut_no R h
  cases R with
  | nil => rfl
  | cons c R1 =>
    have h1 : ∀ y ∈ R1, y ≠ 59 := fun y hy => hn y (List.mem_cons_of_mem _ hy)
    rw [rItem]
    split
    · split
      · rw [rSg, sgnR_no R1 _ h1]; rfl
      · rfl
    · split
      · exact rFo_no h1
      · split
        · exact rHi_no h1
        · split
          · exact rWi_no h1
          · split
            · exact rTb_1 (numR_no h1)
            · rfl
theorem item_some {R : List Int} {q : List Int × List Int} (h : cut R = some q) (first : Bool) (F : mF) : rItem first R F = (itemF first q.1 F).map (fun G => (G, q.2)) := by
  obtain ⟨I, rest⟩ := q
  obtain ⟨h1, h2⟩ := cut_split R _ h
  simp only at h1 h2
  cases I with
  | nil =>
    rw [h1, List.nil_append, rItem, if_neg (by decide), if_neg (by decide), if_neg (by decide), if_neg (by decide), if_neg (by decide)]
    rfl
  | cons c B =>
    have hB : ∀ y ∈ B, y ≠ 59 := fun y hy => h2 y (List.mem_cons_of_mem _ hy)
    rw [h1, List.cons_append, rItem]
    simp only [itemF]
    by_cases c1 : c = 116
    · rw [if_pos c1, if_pos c1]
      by_cases c2 : first = true
      · rw [if_pos c2, if_pos c2]; exact sg_eq hB
      · rw [if_neg c2, if_neg c2]; rfl
    · rw [if_neg c1, if_neg c1]
      by_cases c2 : c = 102
      · rw [if_pos c2, c2]; exact fo_eq hB
      · rw [if_neg c2]
        by_cases c3 : c = 104
        · rw [if_pos c3, c3]; exact hi_eq hB
        · rw [if_neg c3]
          by_cases c4 : c = 119
          · rw [if_pos c4, c4]; exact wi_eq hB
          · rw [if_neg c4]
            by_cases c5 : c = 98
            · rw [if_pos c5, c5]; exact tb_eq hB
            · rw [if_neg c5, bind_none_of (fun ns _ => by unfold numsF; rw [if_neg c2, if_neg c3, if_neg c4, if_neg c5])]
              rfl
/-- where in the text the reading stands -/
def atT (tx : List Int) (ra : Int) (R : List Int) : Prop := ∃ P, tx = P ++ R ∧ ra = P.length
theorem atT.s {tx R : List Int} {ra c : Int} (h : atT tx ra (c :: R)) : atT tx (ra + 1) R := by
  obtain ⟨P, h1, h2⟩ := h
  exact ⟨P ++ [c], by rw [h1]; simp, by rw [h2]; simp⟩
theorem atT.t {tx R : List Int} {ra : Int} (h : atT tx ra R) (h2 : hd0 R ≠ 0) : atT tx (ra + 1) R.tail := by
  obtain ⟨c, R1, rfl⟩ := hd0_c h2
  exact h.s
theorem atT.h {tx R : List Int} {ra : Int} (h : atT tx ra R) (jt : List Int) : (ra < tx.length → (tx ++ jt).getD ra.toNat 0 = hd0 R) ∧ (¬ ra < tx.length → hd0 R = 0) ∧ 0 ≤ ra ∧ ra ≤ tx.length ∧ ra = (tx.length : Int) - R.length := by
  obtain ⟨P, h1, h2⟩ := h
  have hl : tx.length = P.length + R.length := by rw [h1]; simp
  refine ⟨fun h3 => ?_, fun h3 => ?_, by omega, by omega, by omega⟩
  · cases R with
    | nil => simp at hl; omega
    | cons c R1 =>
      rw [h1, List.append_assoc, List.cons_append]
      exact gd_mid P c (R1 ++ jt) (by omega)
  · cases R with
    | nil => rfl
    | cons c R1 => simp at hl; omega
theorem atT.m {tx R : List Int} {ra : Int} (h : atT tx ra R) : ∀ c ∈ R, c ∈ tx := by
  obtain ⟨P, h1, h2⟩ := h
  intro c hc
  rw [h1]
  exact List.mem_append_right _ hc
def rdO (tx : List Int) (o : Option (mF × List Int)) (z ra : Int) (G : mF) : Prop := (o = none ∧ z = 0) ∨ ∃ R', o = some (G, R') ∧ z = 1 ∧ atT tx ra R'
