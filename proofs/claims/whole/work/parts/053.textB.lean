/-! ===== DisplayMap.Text: items ===== -/
def insL {α : Type} (key : α → Int) (x : α) (l : List α) : List α := (l.reverse.dropWhile (fun q => decide (key x < key q))).reverse ++ x :: (l.reverse.takeWhile (fun q => decide (key x < key q))).reverse
def insZ {α : Type} (key : α → Int) (x : α) (l : List α) : Int := ((l.reverse.dropWhile (fun q => decide (key x < key q))).length : Int)
theorem insK_fun {α : Type} {key : α → Int} {x : α} {l l' : List α} {z : Int} (h : insK key x l l' z) : l' = insL key x l ∧ z = insZ key x l := by
  obtain ⟨P, R, rfl, rfl, rfl, hR, hP⟩ := h
  have e1 : (P ++ R).reverse = R.reverse ++ P.reverse := List.reverse_append
  have hRt : ∀ q ∈ R.reverse, decide (key x < key q) = true := fun q hq => by simpa using hR q (List.mem_reverse.mp hq)
  have e2 : (R.reverse ++ P.reverse).takeWhile (fun q => decide (key x < key q)) = R.reverse ∧ (R.reverse ++ P.reverse).dropWhile (fun q => decide (key x < key q)) = P.reverse := by
    rw [List.takeWhile_append_of_pos hRt, List.dropWhile_append_of_pos hRt]
    rcases List.eq_nil_or_concat P with h1 | ⟨P', q, h1⟩
    · subst h1; simp
    · have hq := hP P' q (by rw [h1]; simp)
      subst h1
      have e3 : ¬ decide (key x < key q) = true := by simp; omega
      simp [List.takeWhile_cons_of_neg, List.dropWhile_cons_of_neg, e3]
  unfold insL insZ
  rw [e1, e2.1, e2.2]
  simp
def rdFold (F : mF) (a b : Int) : Option mF := if refF F.1.1.length F.1.2.1 a b = 0 then some ((F.1.1, insL (fun q => q.1) (a, b, 1) F.1.2.1, F.1.2.2), F.2) else none
def rdHint (F : mF) (a b : Int) : Option mF := if refH F.1.1.length F.1.2.2 a b = 0 then some ((F.1.1, F.1.2.1, insL (fun q => q.1) (a, b) F.1.2.2), F.2) else none
def rdFlow (F : mF) (a b c : Int) : Option mF := if (0 ≤ a ∧ a ≤ 2) ∧ (4 ≤ b ∧ b ≤ 20) ∧ (0 ≤ c ∧ c ≤ 3) then some (F.1, a, b, c, F.2.2.2.2) else none
def rdTab (F : mF) (a : Int) : Option mF := if 1 ≤ a ∧ a ≤ 8 then some (F.1, F.2.1, F.2.2.1, F.2.2.2.1, a) else none
def rdSigns : List Int → List Int → Option (List Int)
  | [], sg => some sg
  | c :: l, sg => if sgnF c < 0 ∨ 40 ≤ sg.length then none else rdSigns l (sg ++ [sgnF c])
def numsF (F : mF) (c : Int) (ns : List Int) : Option mF := if c = 102 then (match ns with | [a, b] => rdFold F a b | _ => none) else if c = 104 then (match ns with | [a, b] => rdHint F a b | _ => none) else if c = 119 then (match ns with | [a, b, d] => rdFlow F a b d | _ => none) else if c = 98 then (match ns with | [a] => rdTab F a | _ => none) else none
def itemF (first : Bool) (I : List Int) (F : mF) : Option mF := match I with
  | [] => none
  | c :: body => if c = 116 then (if first = true then (rdSigns body F.1.1).map (fun sg => ((sg, F.1.2), F.2)) else none) else (numF body [] 0 0).bind (numsF F c)
def rdPost (o : Option mF) (z : Int) (w : mW) (u : Nat) : Prop := (o = none ∧ z = 0 ∧ anySh w u) ∨ ∃ F, o = some F ∧ z = 1 ∧ isF w u F

set_option maxHeartbeats 1000000 in
set_option maxRecDepth 100000 in
theorem c_X3_readFold (l : Launch) {w : mW} {h u : Nat} {tl : Int} {T1 T2 : List Int} (hr : rT w h tl T1 T2) {sg : List Int} {fo : List (Int × Int × Int)} {hi : List (Int × Int)} {mo wi nd tb : Int} (hS : isSh w u sg fo hi mo wi nd tb) {a b : Int} {J2 : List Int} (hT2 : T2 = a :: b :: J2) : Ci l yX3_readFold cX3_readFold 2 (some .boolean) 2 [vr h, vr u] w (fun z w' => frR w w' u (u + 6) ∧ rdPost (rdFold ((sg, fo, hi), mo, wi, nd, tb) a b) z w' u) := by
  refine Ci.of (ml := [some (vr h), some (vr u)]) kyX3_readFold rfl (Nat.le_of_ble_eq_true rfl) rfl ?_
  intro t n C hQ
  have hS2 := hS
  have hlen := hS.len
  obtain ⟨j1, j2, j3, j4, j5, j6, hs⟩ := hS
  have l2 := hr.l2
  rw [hT2] at l2
  simp only [List.length_append, List.length_cons] at l2
  have g0 : T2.getD (0 : Int).toNat 0 = a := by rw [hT2]; rfl
  have g1 : T2.getD (1 : Int).toNat 0 = b := by rw [hT2]; rfl
  refine x_aload_n C dX3_readFold_0 rfl ?_
  refine x_aload_n C dX3_readFold_1 rfl ?_
  refine x_get C dX3_readFold_2 kfX3_15 hr.o rfl ?_
  refine x_iconst C dX3_readFold_5 ⟨by decide, by decide⟩ ?_
  refine x_iald C dX3_readFold_6 hr.a2 (by omega) (by rw [hr.l2]; omega) ?_
  rw [g0]
  refine x_aload_n C dX3_readFold_7 rfl ?_
  refine x_get C dX3_readFold_8 kfX3_15 hr.o rfl ?_
  refine x_iconst C dX3_readFold_11 ⟨by decide, by decide⟩ ?_
  refine x_iald C dX3_readFold_12 hr.a2 (by omega) (by rw [hr.l2]; omega) ?_
  rw [g1]
  refine y_p2 C dX3_readFold_13 kyX2_foldRefusal knX2_foldRefusal kmX3_69 hs.o (c_X2_foldRefusal l hS2 a b) (by decide) (Nat.zero_le _) (Nat.zero_le _) (Nat.le_of_ble_eq_true rfl) (fun z13 q13 => ?_)
  refine x_if_eq (tgt := 21) C dX3_readFold_16 (by decide) (fun c16 => ?_) (fun c16 => ?_)
  · have hlt : fo.length < 4 := by
      have h9 : refF sg.length fo a b = 0 := by omega
      unfold refF at h9
      split at h9
      · omega
      · split at h9
        · omega
        · split at h9 <;> omega
    refine x_aload_n C dX3_readFold_21 rfl ?_
    refine x_aload_n C dX3_readFold_22 rfl ?_
    refine x_get C dX3_readFold_23 kfX3_15 hr.o rfl ?_
    refine x_iconst C dX3_readFold_26 ⟨by decide, by decide⟩ ?_
    refine x_iald C dX3_readFold_27 hr.a2 (by omega) (by rw [hr.l2]; omega) ?_
    rw [g0]
    refine x_aload_n C dX3_readFold_28 rfl ?_
    refine x_get C dX3_readFold_29 kfX3_15 hr.o rfl ?_
    refine x_iconst C dX3_readFold_32 ⟨by decide, by decide⟩ ?_
    refine x_iald C dX3_readFold_33 hr.a2 (by omega) (by rw [hr.l2]; omega) ?_
    rw [g1]
    refine y_i2 C dX3_readFold_34 kyX2_addFold knX2_addFold kmX3_72 hs.o (c_X2_addFold l hS2 a b hlt) (by decide) (Nat.zero_le _) (Nat.zero_le _) (Nat.le_of_ble_eq_true rfl) (fun z34 w34 q34 => ?_)
    refine x_pop C dX3_readFold_37 rfl ?_
    refine x_iconst C dX3_readFold_38 ⟨by decide, by decide⟩ ?_
    refine x_zret C hQ dX3_readFold_39 (by first | exact Or.inl rfl | exact Or.inr rfl | omega) (Nat.le_refl _) (Nat.le_refl _) ?_
    obtain ⟨l', hk, hS9, hf9⟩ := q34
    obtain ⟨rfl, -⟩ := insK_fun hk
    exact ⟨rfl, _, rfl, hf9, Or.inr ⟨((sg, insL (fun q => q.1) (a, b, 1) fo, hi), mo, wi, nd, tb), by unfold rdFold; rw [if_pos (by simp only; omega)], rfl, hS9⟩⟩
  · refine x_iconst C dX3_readFold_19 ⟨by decide, by decide⟩ ?_
    refine x_zret C hQ dX3_readFold_20 (by first | exact Or.inl rfl | exact Or.inr rfl | omega) (Nat.le_refl _) (Nat.le_refl _) ?_
    exact ⟨rfl, _, rfl, frR.rf, Or.inl ⟨by unfold rdFold; rw [if_neg (by simp only; omega)], rfl, ⟨_, _, _, _, _, _, _, _, _, _, _, _, _, hs⟩⟩⟩

set_option maxHeartbeats 1000000 in
set_option maxRecDepth 100000 in
theorem c_X3_readHint (l : Launch) {w : mW} {h u : Nat} {tl : Int} {T1 T2 : List Int} (hr : rT w h tl T1 T2) {sg : List Int} {fo : List (Int × Int × Int)} {hi : List (Int × Int)} {mo wi nd tb : Int} (hS : isSh w u sg fo hi mo wi nd tb) {a b : Int} {J2 : List Int} (hT2 : T2 = a :: b :: J2) : Ci l yX3_readHint cX3_readHint 2 (some .boolean) 2 [vr h, vr u] w (fun z w' => frR w w' u (u + 6) ∧ rdPost (rdHint ((sg, fo, hi), mo, wi, nd, tb) a b) z w' u) := by
  refine Ci.of (ml := [some (vr h), some (vr u)]) kyX3_readHint rfl (Nat.le_of_ble_eq_true rfl) rfl ?_
  intro t n C hQ
  have hS2 := hS
  have hlen := hS.len
  obtain ⟨j1, j2, j3, j4, j5, j6, hs⟩ := hS
  have l2 := hr.l2
  rw [hT2] at l2
  simp only [List.length_append, List.length_cons] at l2
  have g0 : T2.getD (0 : Int).toNat 0 = a := by rw [hT2]; rfl
  have g1 : T2.getD (1 : Int).toNat 0 = b := by rw [hT2]; rfl
  refine x_aload_n C dX3_readHint_0 rfl ?_
  refine x_aload_n C dX3_readHint_1 rfl ?_
  refine x_get C dX3_readHint_2 kfX3_15 hr.o rfl ?_
  refine x_iconst C dX3_readHint_5 ⟨by decide, by decide⟩ ?_
  refine x_iald C dX3_readHint_6 hr.a2 (by omega) (by rw [hr.l2]; omega) ?_
  rw [g0]
  refine x_aload_n C dX3_readHint_7 rfl ?_
  refine x_get C dX3_readHint_8 kfX3_15 hr.o rfl ?_
  refine x_iconst C dX3_readHint_11 ⟨by decide, by decide⟩ ?_
  refine x_iald C dX3_readHint_12 hr.a2 (by omega) (by rw [hr.l2]; omega) ?_
  rw [g1]
  refine y_p2 C dX3_readHint_13 kyX2_hintRefusal knX2_hintRefusal kmX3_75 hs.o (c_X2_hintRefusal l hS2 a b) (by decide) (Nat.zero_le _) (Nat.zero_le _) (Nat.le_of_ble_eq_true rfl) (fun z13 q13 => ?_)
  refine x_if_eq (tgt := 21) C dX3_readHint_16 (by decide) (fun c16 => ?_) (fun c16 => ?_)
  · have hlt : hi.length < 4 := by
      have h9 : refH sg.length hi a b = 0 := by omega
      unfold refH at h9
      split at h9
      · omega
      · split at h9
        · omega
        · split at h9 <;> omega
    refine x_aload_n C dX3_readHint_21 rfl ?_
    refine x_aload_n C dX3_readHint_22 rfl ?_
    refine x_get C dX3_readHint_23 kfX3_15 hr.o rfl ?_
    refine x_iconst C dX3_readHint_26 ⟨by decide, by decide⟩ ?_
    refine x_iald C dX3_readHint_27 hr.a2 (by omega) (by rw [hr.l2]; omega) ?_
    rw [g0]
    refine x_aload_n C dX3_readHint_28 rfl ?_
    refine x_get C dX3_readHint_29 kfX3_15 hr.o rfl ?_
    refine x_iconst C dX3_readHint_32 ⟨by decide, by decide⟩ ?_
    refine x_iald C dX3_readHint_33 hr.a2 (by omega) (by rw [hr.l2]; omega) ?_
    rw [g1]
    refine y_i2 C dX3_readHint_34 kyX2_addHint knX2_addHint kmX3_78 hs.o (c_X2_addHint l hS2 a b hlt) (by decide) (Nat.zero_le _) (Nat.zero_le _) (Nat.le_of_ble_eq_true rfl) (fun z34 w34 q34 => ?_)
    refine x_pop C dX3_readHint_37 rfl ?_
    refine x_iconst C dX3_readHint_38 ⟨by decide, by decide⟩ ?_
    refine x_zret C hQ dX3_readHint_39 (by first | exact Or.inl rfl | exact Or.inr rfl | omega) (Nat.le_refl _) (Nat.le_refl _) ?_
    obtain ⟨l', hk, hS9, hf9⟩ := q34
    obtain ⟨rfl, -⟩ := insK_fun hk
    exact ⟨rfl, _, rfl, hf9, Or.inr ⟨((sg, fo, insL (fun q => q.1) (a, b) hi), mo, wi, nd, tb), by unfold rdHint; rw [if_pos (by simp only; omega)], rfl, hS9⟩⟩
  · refine x_iconst C dX3_readHint_19 ⟨by decide, by decide⟩ ?_
    refine x_zret C hQ dX3_readHint_20 (by first | exact Or.inl rfl | exact Or.inr rfl | omega) (Nat.le_refl _) (Nat.le_refl _) ?_
    exact ⟨rfl, _, rfl, frR.rf, Or.inl ⟨by unfold rdHint; rw [if_neg (by simp only; omega)], rfl, ⟨_, _, _, _, _, _, _, _, _, _, _, _, _, hs⟩⟩⟩

set_option maxHeartbeats 1000000 in
set_option maxRecDepth 100000 in
theorem c_X3_readFlow (l : Launch) {w : mW} {h u : Nat} {tl : Int} {T1 T2 : List Int} (hr : rT w h tl T1 T2) {sg : List Int} {fo : List (Int × Int × Int)} {hi : List (Int × Int)} {mo wi nd tb : Int} (hS : isSh w u sg fo hi mo wi nd tb) {a b c : Int} {J2 : List Int} (hT2 : T2 = a :: b :: c :: J2) : Ci l yX3_readFlow cX3_readFlow 2 (some .boolean) 1 [vr h, vr u] w (fun z w' => frR w w' u (u + 6) ∧ rdPost (rdFlow ((sg, fo, hi), mo, wi, nd, tb) a b c) z w' u) := by
  refine Ci.of (ml := [some (vr h), some (vr u)]) kyX3_readFlow rfl (Nat.le_of_ble_eq_true rfl) rfl ?_
  intro t n C hQ
  have hS2 := hS
  have hlen := hS.len
  obtain ⟨j1, j2, j3, j4, j5, j6, hs⟩ := hS
  have l2 := hr.l2
  rw [hT2] at l2
  simp only [List.length_append, List.length_cons] at l2
  have g0 : T2.getD (0 : Int).toNat 0 = a := by rw [hT2]; rfl
  have g1 : T2.getD (1 : Int).toNat 0 = b := by rw [hT2]; rfl
  have g2 : T2.getD (2 : Int).toNat 0 = c := by rw [hT2]; rfl
  refine x_aload_n C dX3_readFlow_0 rfl ?_
  refine x_get C dX3_readFlow_1 kfX3_15 hr.o rfl ?_
  refine x_iconst C dX3_readFlow_4 ⟨by decide, by decide⟩ ?_
  refine x_iald C dX3_readFlow_5 hr.a2 (by omega) (by rw [hr.l2]; omega) ?_
  rw [g0]
  refine x_aload_n C dX3_readFlow_6 rfl ?_
  refine x_get C dX3_readFlow_7 kfX3_15 hr.o rfl ?_
  refine x_iconst C dX3_readFlow_10 ⟨by decide, by decide⟩ ?_
  refine x_iald C dX3_readFlow_11 hr.a2 (by omega) (by rw [hr.l2]; omega) ?_
  rw [g1]
  refine x_aload_n C dX3_readFlow_12 rfl ?_
  refine x_get C dX3_readFlow_13 kfX3_15 hr.o rfl ?_
  refine x_iconst C dX3_readFlow_16 ⟨by decide, by decide⟩ ?_
  refine x_iald C dX3_readFlow_17 hr.a2 (by omega) (by rw [hr.l2]; omega) ?_
  rw [g2]
  refine z_p3 C dX3_readFlow_18 kyX2_isFlow ksX2_isFlow kmX3_81 (c_X2_isFlow l a b c) (by decide) (Nat.zero_le _) (Nat.zero_le _) (Nat.le_of_ble_eq_true rfl) (fun z18 q18 => ?_)
  refine x_if_ne (tgt := 26) C dX3_readFlow_21 (by decide) (fun c21 => ?_) (fun c21 => ?_)
  · refine x_aload_n C dX3_readFlow_26 rfl ?_
    refine x_aload_n C dX3_readFlow_27 rfl ?_
    refine x_get C dX3_readFlow_28 kfX3_15 hr.o rfl ?_
    refine x_iconst C dX3_readFlow_31 ⟨by decide, by decide⟩ ?_
    refine x_iald C dX3_readFlow_32 hr.a2 (by omega) (by rw [hr.l2]; omega) ?_
    rw [g0]
    refine x_aload_n C dX3_readFlow_33 rfl ?_
    refine x_get C dX3_readFlow_34 kfX3_15 hr.o rfl ?_
    refine x_iconst C dX3_readFlow_37 ⟨by decide, by decide⟩ ?_
    refine x_iald C dX3_readFlow_38 hr.a2 (by omega) (by rw [hr.l2]; omega) ?_
    rw [g1]
    refine x_aload_n C dX3_readFlow_39 rfl ?_
    refine x_get C dX3_readFlow_40 kfX3_15 hr.o rfl ?_
    refine x_iconst C dX3_readFlow_43 ⟨by decide, by decide⟩ ?_
    refine x_iald C dX3_readFlow_44 hr.a2 (by omega) (by rw [hr.l2]; omega) ?_
    rw [g2]
    refine y_v3 C dX3_readFlow_45 kyX2_setFlow knX2_setFlow kmX3_85 hs.o (c_X2_setFlow l hs a b c) (by decide) (Nat.zero_le _) (Nat.zero_le _) (Nat.le_of_ble_eq_true rfl) (fun w45 q45 => ?_)
    refine x_iconst C dX3_readFlow_48 ⟨by decide, by decide⟩ ?_
    refine x_zret C hQ dX3_readFlow_49 (by first | exact Or.inl rfl | exact Or.inr rfl | omega) (Nat.le_refl _) (Nat.le_refl _) ?_
    obtain ⟨hs9, hf9⟩ := q45
    exact ⟨rfl, _, rfl, hf9, Or.inr ⟨_, by unfold rdFlow; rw [if_pos (by omega)], rfl, ⟨j1, j2, j3, j4, j5, j6, hs9⟩⟩⟩
  · refine x_iconst C dX3_readFlow_24 ⟨by decide, by decide⟩ ?_
    refine x_zret C hQ dX3_readFlow_25 (by first | exact Or.inl rfl | exact Or.inr rfl | omega) (Nat.le_refl _) (Nat.le_refl _) ?_
    exact ⟨rfl, _, rfl, frR.rf, Or.inl ⟨by unfold rdFlow; rw [if_neg (by omega)], rfl, ⟨_, _, _, _, _, _, _, _, _, _, _, _, _, hs⟩⟩⟩

set_option maxHeartbeats 1000000 in
set_option maxRecDepth 100000 in
theorem c_X3_readTabStep (l : Launch) {w : mW} {h u : Nat} {tl : Int} {T1 T2 : List Int} (hr : rT w h tl T1 T2) {sg : List Int} {fo : List (Int × Int × Int)} {hi : List (Int × Int)} {mo wi nd tb : Int} (hS : isSh w u sg fo hi mo wi nd tb) {a : Int} {J2 : List Int} (hT2 : T2 = a :: J2) : Ci l yX3_readTabStep cX3_readTabStep 2 (some .boolean) 1 [vr h, vr u] w (fun z w' => frR w w' u (u + 6) ∧ rdPost (rdTab ((sg, fo, hi), mo, wi, nd, tb) a) z w' u) := by
  refine Ci.of (ml := [some (vr h), some (vr u)]) kyX3_readTabStep rfl (Nat.le_of_ble_eq_true rfl) rfl ?_
  intro t n C hQ
  have hf : frR w w u (u + 6) := frR.rf
  have hS2 := hS
  have hlen := hS.len
  obtain ⟨j1, j2, j3, j4, j5, j6, hs⟩ := hS
  have l2 := hr.l2
  rw [hT2] at l2
  simp only [List.length_append, List.length_cons] at l2
  have g0 : T2.getD (0 : Int).toNat 0 = a := by rw [hT2]; rfl
  refine x_aload_n C dX3_readTabStep_0 rfl ?_
  refine x_get C dX3_readTabStep_1 kfX3_15 hr.o rfl ?_
  refine x_iconst C dX3_readTabStep_4 ⟨by decide, by decide⟩ ?_
  refine x_iald C dX3_readTabStep_5 hr.a2 (by omega) (by rw [hr.l2]; omega) ?_
  rw [g0]
  refine z_p1 C dX3_readTabStep_6 kyX2_isTabStep ksX2_isTabStep kmX3_89 (c_X2_isTabStep l a) (by decide) (Nat.zero_le _) (Nat.zero_le _) (Nat.le_of_ble_eq_true rfl) (fun z6 q6 => ?_)
  refine x_if_ne (tgt := 14) C dX3_readTabStep_9 (by decide) (fun c9 => ?_) (fun c9 => ?_)
  · refine x_aload_n C dX3_readTabStep_14 rfl ?_
    refine x_aload_n C dX3_readTabStep_15 rfl ?_
    refine x_get C dX3_readTabStep_16 kfX3_15 hr.o rfl ?_
    refine x_iconst C dX3_readTabStep_19 ⟨by decide, by decide⟩ ?_
    refine x_iald C dX3_readTabStep_20 hr.a2 (by omega) (by rw [hr.l2]; omega) ?_
    rw [g0]
    refine x_put C dX3_readTabStep_21 kfX3_93 kw_2_12 rfl rfl hs.o (Nat.le_of_ble_eq_true rfl) ?_
    refine ab_S_tb hs hf (fun w hs hf => ?_)
    refine x_iconst C dX3_readTabStep_24 ⟨by decide, by decide⟩ ?_
    refine x_zret C hQ dX3_readTabStep_25 (by first | exact Or.inl rfl | exact Or.inr rfl | omega) (Nat.le_refl _) (Nat.le_refl _) ?_
    exact ⟨rfl, _, rfl, hf, Or.inr ⟨_, by unfold rdTab; rw [if_pos (by omega)], rfl, ⟨j1, j2, j3, j4, j5, j6, hs⟩⟩⟩
  · refine x_iconst C dX3_readTabStep_12 ⟨by decide, by decide⟩ ?_
    refine x_zret C hQ dX3_readTabStep_13 (by first | exact Or.inl rfl | exact Or.inr rfl | omega) (Nat.le_refl _) (Nat.le_refl _) ?_
    exact ⟨rfl, _, rfl, frR.rf, Or.inl ⟨by unfold rdTab; rw [if_neg (by omega)], rfl, ⟨_, _, _, _, _, _, _, _, _, _, _, _, _, hs⟩⟩⟩

set_option maxHeartbeats 1000000 in
set_option maxRecDepth 100000 in
theorem lp_X3_readSigns {t : TX} {l : Launch} {n0 : Nat} {w0 : mW} {h u : Nat} {tl : Int} {T1 T2 post : List Int} (hr0 : rT w0 h tl T1 T2) (hd : h + 2 < u ∨ u + 6 < h) {mo wi nd tb : Int} (a b : Int) (C : Cb t l cX3_readSigns RX3 6 (some .boolean) 2 0 0) {Q : Int → mW → Prop} (hQ : RQ t 0 0 (fun r n' w' => n' = n0 ∧ ∃ z : Int, r = some (vi z) ∧ Q z w')) {res : Option (List Int)} (hfin : ∀ (z : Int) (w' : mW), frR w0 w' u (u + 6) → ((res = none ∧ z = 0 ∧ anySh w' u) ∨ ∃ sg, res = some sg ∧ z = 1 ∧ isSh w' u sg [] [] mo wi nd tb) → Q z w') : ∀ (R P sg : List Int) (k : Int) (x5 : Option mV) (w : mW), T1 = P ++ (R ++ post) → k = P.length → b = k + R.length → isSh w u sg [] [] mo wi nd tb → frR w0 w u (u + 6) → rdSigns R sg = res → J t 0 0 3 [some (vr h), some (vi a), some (vi b), some (vr u), some (vi k), x5] [] n0 w := by
  intro R
  induction R with
  | nil =>
    intro P sg k x5 w hT hk hb hS hf hres
    have l1 := hr0.l1
    simp only [List.length_nil] at hb
    have hTl : P.length + post.length = 200 := by rw [hT] at l1; simpa using l1
    have hS2 := hS
    obtain ⟨j1, j2, j3, j4, j5, j6, hs⟩ := hS
    refine x_iload C dX3_readSigns_3 rfl ?_
    refine x_iload_n C dX3_readSigns_5 rfl ?_
    refine x_icmp_ge (tgt := 51) C dX3_readSigns_6 (by decide) (fun c6 => ?_) (fun c6 => ?_)
    · refine x_iconst C dX3_readSigns_51 ⟨by decide, by decide⟩ ?_
      refine x_zret C hQ dX3_readSigns_52 (by first | exact Or.inl rfl | exact Or.inr rfl | omega) (Nat.le_refl _) (Nat.le_refl _) ?_
      exact ⟨rfl, _, rfl, hfin _ w hf (Or.inr ⟨sg, hres.symm, rfl, hS2⟩)⟩
    · omega
  | cons c9 R ih =>
    intro P sg k x5 w hT hk hb hS hf hres
    have l1 := hr0.l1
    simp only [List.length_cons] at hb
    have hTl : P.length + (R.length + 1 + post.length) = 200 := by rw [hT] at l1; simp at l1; omega
    have e1 : T1.getD k.toNat 0 = c9 := by rw [hT]; exact gd_mid P c9 _ (by omega)
    have hS2 := hS
    have hlen := hS.len
    obtain ⟨j1, j2, j3, j4, j5, j6, hs⟩ := hS
    refine x_iload C dX3_readSigns_3 rfl ?_
    refine x_iload_n C dX3_readSigns_5 rfl ?_
    refine x_icmp_ge (tgt := 51) C dX3_readSigns_6 (by decide) (fun c6 => absurd c6 (by omega)) (fun c6 => ?_)
    refine x_aload_n C dX3_readSigns_9 rfl ?_
    refine x_get C dX3_readSigns_10 kfX3_9 (hr0.fr hf hd).o rfl ?_
    refine x_iload C dX3_readSigns_13 rfl ?_
    refine x_iald C dX3_readSigns_15 (hr0.fr hf hd).a1 (by omega) (by rw [(hr0.fr hf hd).l1]; omega) ?_
    rw [e1]
    refine z_p1 C dX3_readSigns_16 kyX3_signOf ksX3_signOf kmX3_55 (c_X3_signOf l c9) (by decide) (Nat.zero_le _) (Nat.zero_le _) (Nat.le_of_ble_eq_true rfl) (fun z16 q16 => ?_)
    subst q16
    refine s_is6_5 C dX3_readSigns_19 rfl ?_
    refine x_iload C dX3_readSigns_21 rfl ?_
    refine x_if_lt (tgt := 33) C dX3_readSigns_23 (by decide) (fun c23 => ?_) (fun c23 => ?_)
    · refine x_iconst C dX3_readSigns_33 ⟨by decide, by decide⟩ ?_
      refine x_zret C hQ dX3_readSigns_34 (by first | exact Or.inl rfl | exact Or.inr rfl | omega) (Nat.le_refl _) (Nat.le_refl _) ?_
      refine ⟨rfl, _, rfl, hfin _ w hf (Or.inl ⟨?_, rfl, ⟨_, _, _, _, _, _, _, _, _, _, _, _, _, hs⟩⟩)⟩
      rw [← hres]
      unfold rdSigns
      rw [if_pos (by omega)]
    · refine x_aload_n C dX3_readSigns_26 rfl ?_
      refine y_p0 C dX3_readSigns_27 kyX2_hasRoom knX2_hasRoom kmX3_58 hs.o (c_X2_hasRoom l hs) (by decide) (Nat.zero_le _) (Nat.zero_le _) (Nat.le_of_ble_eq_true rfl) (fun z27 q27 => ?_)
      refine x_if_ne (tgt := 35) C dX3_readSigns_30 (by decide) (fun c30 => ?_) (fun c30 => ?_)
      · refine x_aload_n C dX3_readSigns_35 rfl ?_
        refine x_aload_n C dX3_readSigns_36 rfl ?_
        refine x_get C dX3_readSigns_37 kfX3_62 hs.o rfl ?_
        refine x_iload C dX3_readSigns_40 rfl ?_
        refine y_v2 C dX3_readSigns_42 kyX2_putIn knX2_putIn kmX3_65 hs.o (c_X2_putIn l hS2 sg.length (sgnF c9) (fun q hq => by cases hq) (fun q hq => by cases hq)) (by decide) (Nat.zero_le _) (Nat.zero_le _) (Nat.le_of_ble_eq_true rfl) (fun w42 q42 => ?_)
        refine s_inc6_4 C dX3_readSigns_45 rfl (by first | (unfold iR; omega) | exact ⟨by omega, by omega⟩) ?_
        refine x_goto (tgt := 3) C dX3_readSigns_48 (by decide) ?_
        obtain ⟨hS9, hf9⟩ := q42
        unfold isT at hS9
        rw [putS, if_pos (by simp only; omega)] at hS9
        simp only [insI, Int.toNat_natCast, List.take_length, List.drop_length, List.map_nil] at hS9
        refine ih (P ++ [c9]) (sg ++ [sgnF c9]) (k + 1) _ w42 (by rw [hT]; simp) (by simp; omega) (by omega) hS9 (hf.tr hf9) ?_
        rw [← hres]
        conv => rhs; unfold rdSigns
        rw [if_neg (by omega)]
      · refine x_iconst C dX3_readSigns_33 ⟨by decide, by decide⟩ ?_
        refine x_zret C hQ dX3_readSigns_34 (by first | exact Or.inl rfl | exact Or.inr rfl | omega) (Nat.le_refl _) (Nat.le_refl _) ?_
        refine ⟨rfl, _, rfl, hfin _ w hf (Or.inl ⟨?_, rfl, ⟨_, _, _, _, _, _, _, _, _, _, _, _, _, hs⟩⟩)⟩
        rw [← hres]
        unfold rdSigns
        rw [if_pos (by omega)]

set_option maxHeartbeats 1000000 in
set_option maxRecDepth 100000 in
theorem c_X3_readSigns (l : Launch) {w : mW} {h u : Nat} {tl : Int} {T1 T2 P R post : List Int} (hr : rT w h tl T1 T2) (hd : h + 2 < u ∨ u + 6 < h) {sg : List Int} {mo wi nd tb : Int} (hS : isSh w u sg [] [] mo wi nd tb) (a b : Int) (hT : T1 = P ++ (R ++ post)) (ha : a = P.length) (hb : b = a + R.length) : Ci l yX3_readSigns cX3_readSigns 6 (some .boolean) 2 [vr h, vi a, vi b, vr u] w (fun z w' => frR w w' u (u + 6) ∧ ((rdSigns R sg = none ∧ z = 0 ∧ anySh w' u) ∨ ∃ sg', rdSigns R sg = some sg' ∧ z = 1 ∧ isSh w' u sg' [] [] mo wi nd tb)) := by
  refine Ci.of (ml := [some (vr h), some (vi a), some (vi b), some (vr u), none, none]) kyX3_readSigns rfl (Nat.le_of_ble_eq_true rfl) rfl ?_
  intro t n C hQ
  refine x_iload_n C dX3_readSigns_0 rfl ?_
  refine s_is6_4 C dX3_readSigns_1 rfl ?_
  exact lp_X3_readSigns hr hd a b C hQ (fun z w9 h1 h2 => ⟨h1, h2⟩) R P sg a none w hT ha hb hS frR.rf rfl

set_option maxHeartbeats 1000000 in
set_option maxRecDepth 100000 in
theorem c_X3_readItem (l : Launch) {w : mW} {h u : Nat} {tl : Int} {T1 T2 P body post : List Int} {c0 : Int} (hr : rT w h tl T1 T2) (hd : h + 2 < u ∨ u + 6 < h) {sg : List Int} {fo : List (Int × Int × Int)} {hi : List (Int × Int)} {mo wi nd tb : Int} (hS : isSh w u sg fo hi mo wi nd tb) (a b : Int) (hT : T1 = P ++ (c0 :: (body ++ post))) (ha : a = P.length) (hb : b = a + 1 + body.length) (he : a = 0 → fo = [] ∧ hi = []) : Ci l yX3_readItem cX3_readItem 6 (some .boolean) 3 [vr h, vi a, vi b, vr u] w (fun z w' => ∃ w1, (∃ T9, rT w1 h tl T1 T9) ∧ frR w w1 h (h + 2) ∧ frR w1 w' u (u + 6) ∧ rdPost (itemF (decide (a = 0)) (c0 :: body) ((sg, fo, hi), mo, wi, nd, tb)) z w' u) := by
  refine Ci.of (ml := [some (vr h), some (vi a), some (vi b), some (vr u), none, none]) kyX3_readItem rfl (Nat.le_of_ble_eq_true rfl) rfl ?_
  intro t n C hQ
  have l1 := hr.l1
  have hTl : P.length + (1 + body.length + post.length) = 200 := by rw [hT] at l1; simp at l1; omega
  have hT3 : T1 = (P ++ [c0]) ++ (body ++ post) := by rw [hT]; simp
  have e1 : T1.getD a.toNat 0 = c0 := by rw [hT]; exact gd_mid P c0 _ (by omega)
  have hS2 := hS
  obtain ⟨j1, j2, j3, j4, j5, j6, hs⟩ := hS
  refine x_aload_n C dX3_readItem_0 rfl ?_
  refine x_get C dX3_readItem_1 kfX3_9 hr.o rfl ?_
  refine x_iload_n C dX3_readItem_4 rfl ?_
  refine x_iald C dX3_readItem_5 hr.a1 (by omega) (by rw [hr.l1]; omega) ?_
  rw [e1]
  refine s_is6_4 C dX3_readItem_6 rfl ?_
  refine x_iload C dX3_readItem_8 rfl ?_
  refine x_bipush C dX3_readItem_10 ⟨by decide, by decide⟩ ?_
  refine x_icmp_ne (tgt := 37) C dX3_readItem_12 (by decide) (fun c12 => ?_) (fun c12 => ?_)
  · refine x_aload_n C dX3_readItem_37 rfl ?_
    refine x_iload_n C dX3_readItem_38 rfl ?_
    refine x_iconst C dX3_readItem_39 ⟨by decide, by decide⟩ ?_
    refine x_iadd C dX3_readItem_40 (by first | (unfold iR; omega) | exact ⟨by omega, by omega⟩) ?_
    refine x_iload_n C dX3_readItem_41 rfl ?_
    refine y_i2 C dX3_readItem_42 kyX3_readNumbers knX3_readNumbers kmX3_38 hr.o (c_X3_readNumbers l hr (a + 1) b hT3 (by simp; omega) (by omega)) (by decide) (Nat.zero_le _) (Nat.zero_le _) (Nat.le_of_ble_eq_true rfl) (fun z42 w42 q42 => ?_)
    obtain ⟨T9, hr, hf2, hnN, hnS⟩ := q42
    have hS2 := hS2.fr hf2 (by omega)
    have hS3 := hS2
    obtain ⟨j1, j2, j3, j4, j5, j6, hs⟩ := hS3
    refine s_is6_5 C dX3_readItem_45 rfl ?_
    refine x_iload C dX3_readItem_47 rfl ?_
    refine sw_X3_readItem_49 C (fun c49 => ?_) (fun c49 => ?_) (fun c49 => ?_) (fun c49 => ?_) (fun c49 => ?_)
    · refine x_iload C dX3_readItem_152 rfl ?_
      refine x_iconst C dX3_readItem_154 ⟨by decide, by decide⟩ ?_
      refine x_icmp_ne (tgt := 170) C dX3_readItem_155 (by decide) (fun c155 => ?_) (fun c155 => ?_)
      · refine x_iconst C dX3_readItem_170 ⟨by decide, by decide⟩ ?_
        refine x_zret C hQ dX3_readItem_171 (by first | exact Or.inl rfl | exact Or.inr rfl | omega) (Nat.le_refl _) (Nat.le_refl _) ?_
        refine ⟨rfl, _, rfl, w42, ⟨_, hr⟩, hf2, frR.rf, Or.inl ⟨?_, rfl, ⟨_, _, _, _, _, _, _, _, _, _, _, _, _, hs⟩⟩⟩
        rw [itemF, if_neg (by omega)]
        cases hnf : numF body [] 0 0 with
        | none => rfl
        | some ns =>
          obtain ⟨hz9, -⟩ := hnS ns hnf
          show numsF _ c0 ns = none
          unfold numsF
          rw [if_neg (by omega), if_neg (by omega), if_neg (by omega), if_pos (by omega)]
          match ns, hz9 with
          | [], _ => rfl
          | [_], h8 => exact absurd h8 (by simp; omega)
          | [_, _], _ => rfl
          | [_, _, _], _ => rfl
          | _ :: _ :: _ :: _ :: _, _ => rfl
      · have hns : ∃ ns, numF body [] 0 0 = some ns := by
          cases hnf : numF body [] 0 0 with
          | none => have := hnN hnf; omega
          | some ns => exact ⟨ns, rfl⟩
        obtain ⟨ns, hnf⟩ := hns
        obtain ⟨hz9, jj, hT9⟩ := hnS ns hnf
        obtain ⟨x, rfl⟩ : ∃ x : Int, ns = [x] := by
          match ns, hz9 with
          | [], h8 => exact absurd h8 (by simp; omega)
          | [p], _ => exact ⟨p, rfl⟩
          | [p, q], h8 => exact absurd h8 (by simp; omega)
          | [p, q, r], h8 => exact absurd h8 (by simp; omega)
          | _ :: _ :: _ :: _ :: _, h8 => exact absurd h8 (by simp; omega)
        have hitem : itemF (decide (a = 0)) (c0 :: body) ((sg, fo, hi), mo, wi, nd, tb) = rdTab ((sg, fo, hi), mo, wi, nd, tb) x := by
          rw [itemF, if_neg (by omega), hnf, Option.bind_some]
          unfold numsF
          rw [if_neg (by omega), if_neg (by omega), if_neg (by omega), if_pos (by omega)]
        refine x_aload_n C dX3_readItem_158 rfl ?_
        refine x_aload_n C dX3_readItem_159 rfl ?_
        refine y_i1 C dX3_readItem_160 kyX3_readTabStep knX3_readTabStep kmX3_52 hr.o (c_X3_readTabStep l hr hS2 hT9) (by decide) (Nat.zero_le _) (Nat.zero_le _) (Nat.le_of_ble_eq_true rfl) (fun z160 w160 q160 => ?_)
        refine x_if_eq (tgt := 170) C dX3_readItem_163 (by decide) (fun c163 => ?_) (fun c163 => ?_)
        · refine x_iconst C dX3_readItem_170 ⟨by decide, by decide⟩ ?_
          refine x_zret C hQ dX3_readItem_171 (by first | exact Or.inl rfl | exact Or.inr rfl | omega) (Nat.le_refl _) (Nat.le_refl _) ?_
          obtain ⟨hf9, hP9⟩ := q160
          refine ⟨rfl, _, rfl, w42, ⟨_, hr⟩, hf2, hf9, ?_⟩
          rw [hitem]
          rcases hP9 with ⟨h5, h6, h7⟩ | ⟨F9, h5, h6, h7⟩
          · exact Or.inl ⟨h5, rfl, h7⟩
          · omega
        · refine x_iconst C dX3_readItem_166 ⟨by decide, by decide⟩ ?_
          refine x_goto (tgt := 171) C dX3_readItem_167 (by decide) ?_
          refine x_zret C hQ dX3_readItem_171 (by first | exact Or.inl rfl | exact Or.inr rfl | omega) (Nat.le_refl _) (Nat.le_refl _) ?_
          obtain ⟨hf9, hP9⟩ := q160
          refine ⟨rfl, _, rfl, w42, ⟨_, hr⟩, hf2, hf9, ?_⟩
          rw [hitem]
          rcases hP9 with ⟨h5, h6, h7⟩ | ⟨F9, h5, h6, h7⟩
          · omega
          · exact Or.inr ⟨F9, h5, rfl, h7⟩
    · refine x_iload C dX3_readItem_92 rfl ?_
      refine x_iconst C dX3_readItem_94 ⟨by decide, by decide⟩ ?_
      refine x_icmp_ne (tgt := 110) C dX3_readItem_95 (by decide) (fun c95 => ?_) (fun c95 => ?_)
      · refine x_iconst C dX3_readItem_110 ⟨by decide, by decide⟩ ?_
        refine x_zret C hQ dX3_readItem_111 (by first | exact Or.inl rfl | exact Or.inr rfl | omega) (Nat.le_refl _) (Nat.le_refl _) ?_
        refine ⟨rfl, _, rfl, w42, ⟨_, hr⟩, hf2, frR.rf, Or.inl ⟨?_, rfl, ⟨_, _, _, _, _, _, _, _, _, _, _, _, _, hs⟩⟩⟩
        rw [itemF, if_neg (by omega)]
        cases hnf : numF body [] 0 0 with
        | none => rfl
        | some ns =>
          obtain ⟨hz9, -⟩ := hnS ns hnf
          show numsF _ c0 ns = none
          unfold numsF
          rw [if_pos (by omega)]
          match ns, hz9 with
          | [], _ => rfl
          | [_], _ => rfl
          | [_, _], h8 => exact absurd h8 (by simp; omega)
          | [_, _, _], _ => rfl
          | _ :: _ :: _ :: _ :: _, _ => rfl
      · have hns : ∃ ns, numF body [] 0 0 = some ns := by
          cases hnf : numF body [] 0 0 with
          | none => have := hnN hnf; omega
          | some ns => exact ⟨ns, rfl⟩
        obtain ⟨ns, hnf⟩ := hns
        obtain ⟨hz9, jj, hT9⟩ := hnS ns hnf
        obtain ⟨x, y, rfl⟩ : ∃ x y : Int, ns = [x, y] := by
          match ns, hz9 with
          | [], h8 => exact absurd h8 (by simp; omega)
          | [p], h8 => exact absurd h8 (by simp; omega)
          | [p, q], _ => exact ⟨p, q, rfl⟩
          | [p, q, r], h8 => exact absurd h8 (by simp; omega)
          | _ :: _ :: _ :: _ :: _, h8 => exact absurd h8 (by simp; omega)
        have hitem : itemF (decide (a = 0)) (c0 :: body) ((sg, fo, hi), mo, wi, nd, tb) = rdFold ((sg, fo, hi), mo, wi, nd, tb) x y := by
          rw [itemF, if_neg (by omega), hnf, Option.bind_some]
          unfold numsF
          rw [if_pos (by omega)]
        refine x_aload_n C dX3_readItem_98 rfl ?_
        refine x_aload_n C dX3_readItem_99 rfl ?_
        refine y_i1 C dX3_readItem_100 kyX3_readFold knX3_readFold kmX3_42 hr.o (c_X3_readFold l hr hS2 hT9) (by decide) (Nat.zero_le _) (Nat.zero_le _) (Nat.le_of_ble_eq_true rfl) (fun z100 w100 q100 => ?_)
        refine x_if_eq (tgt := 110) C dX3_readItem_103 (by decide) (fun c103 => ?_) (fun c103 => ?_)
        · refine x_iconst C dX3_readItem_110 ⟨by decide, by decide⟩ ?_
          refine x_zret C hQ dX3_readItem_111 (by first | exact Or.inl rfl | exact Or.inr rfl | omega) (Nat.le_refl _) (Nat.le_refl _) ?_
          obtain ⟨hf9, hP9⟩ := q100
          refine ⟨rfl, _, rfl, w42, ⟨_, hr⟩, hf2, hf9, ?_⟩
          rw [hitem]
          rcases hP9 with ⟨h5, h6, h7⟩ | ⟨F9, h5, h6, h7⟩
          · exact Or.inl ⟨h5, rfl, h7⟩
          · omega
        · refine x_iconst C dX3_readItem_106 ⟨by decide, by decide⟩ ?_
          refine x_goto (tgt := 111) C dX3_readItem_107 (by decide) ?_
          refine x_zret C hQ dX3_readItem_111 (by first | exact Or.inl rfl | exact Or.inr rfl | omega) (Nat.le_refl _) (Nat.le_refl _) ?_
          obtain ⟨hf9, hP9⟩ := q100
          refine ⟨rfl, _, rfl, w42, ⟨_, hr⟩, hf2, hf9, ?_⟩
          rw [hitem]
          rcases hP9 with ⟨h5, h6, h7⟩ | ⟨F9, h5, h6, h7⟩
          · omega
          · exact Or.inr ⟨F9, h5, rfl, h7⟩
    · refine x_iload C dX3_readItem_112 rfl ?_
      refine x_iconst C dX3_readItem_114 ⟨by decide, by decide⟩ ?_
      refine x_icmp_ne (tgt := 130) C dX3_readItem_115 (by decide) (fun c115 => ?_) (fun c115 => ?_)
      · refine x_iconst C dX3_readItem_130 ⟨by decide, by decide⟩ ?_
        refine x_zret C hQ dX3_readItem_131 (by first | exact Or.inl rfl | exact Or.inr rfl | omega) (Nat.le_refl _) (Nat.le_refl _) ?_
        refine ⟨rfl, _, rfl, w42, ⟨_, hr⟩, hf2, frR.rf, Or.inl ⟨?_, rfl, ⟨_, _, _, _, _, _, _, _, _, _, _, _, _, hs⟩⟩⟩
        rw [itemF, if_neg (by omega)]
        cases hnf : numF body [] 0 0 with
        | none => rfl
        | some ns =>
          obtain ⟨hz9, -⟩ := hnS ns hnf
          show numsF _ c0 ns = none
          unfold numsF
          rw [if_neg (by omega), if_pos (by omega)]
          match ns, hz9 with
          | [], _ => rfl
          | [_], _ => rfl
          | [_, _], h8 => exact absurd h8 (by simp; omega)
          | [_, _, _], _ => rfl
          | _ :: _ :: _ :: _ :: _, _ => rfl
      · have hns : ∃ ns, numF body [] 0 0 = some ns := by
          cases hnf : numF body [] 0 0 with
          | none => have := hnN hnf; omega
          | some ns => exact ⟨ns, rfl⟩
        obtain ⟨ns, hnf⟩ := hns
        obtain ⟨hz9, jj, hT9⟩ := hnS ns hnf
        obtain ⟨x, y, rfl⟩ : ∃ x y : Int, ns = [x, y] := by
          match ns, hz9 with
          | [], h8 => exact absurd h8 (by simp; omega)
          | [p], h8 => exact absurd h8 (by simp; omega)
          | [p, q], _ => exact ⟨p, q, rfl⟩
          | [p, q, r], h8 => exact absurd h8 (by simp; omega)
          | _ :: _ :: _ :: _ :: _, h8 => exact absurd h8 (by simp; omega)
        have hitem : itemF (decide (a = 0)) (c0 :: body) ((sg, fo, hi), mo, wi, nd, tb) = rdHint ((sg, fo, hi), mo, wi, nd, tb) x y := by
          rw [itemF, if_neg (by omega), hnf, Option.bind_some]
          unfold numsF
          rw [if_neg (by omega), if_pos (by omega)]
        refine x_aload_n C dX3_readItem_118 rfl ?_
        refine x_aload_n C dX3_readItem_119 rfl ?_
        refine y_i1 C dX3_readItem_120 kyX3_readHint knX3_readHint kmX3_46 hr.o (c_X3_readHint l hr hS2 hT9) (by decide) (Nat.zero_le _) (Nat.zero_le _) (Nat.le_of_ble_eq_true rfl) (fun z120 w120 q120 => ?_)
        refine x_if_eq (tgt := 130) C dX3_readItem_123 (by decide) (fun c123 => ?_) (fun c123 => ?_)
        · refine x_iconst C dX3_readItem_130 ⟨by decide, by decide⟩ ?_
          refine x_zret C hQ dX3_readItem_131 (by first | exact Or.inl rfl | exact Or.inr rfl | omega) (Nat.le_refl _) (Nat.le_refl _) ?_
          obtain ⟨hf9, hP9⟩ := q120
          refine ⟨rfl, _, rfl, w42, ⟨_, hr⟩, hf2, hf9, ?_⟩
          rw [hitem]
          rcases hP9 with ⟨h5, h6, h7⟩ | ⟨F9, h5, h6, h7⟩
          · exact Or.inl ⟨h5, rfl, h7⟩
          · omega
        · refine x_iconst C dX3_readItem_126 ⟨by decide, by decide⟩ ?_
          refine x_goto (tgt := 131) C dX3_readItem_127 (by decide) ?_
          refine x_zret C hQ dX3_readItem_131 (by first | exact Or.inl rfl | exact Or.inr rfl | omega) (Nat.le_refl _) (Nat.le_refl _) ?_
          obtain ⟨hf9, hP9⟩ := q120
          refine ⟨rfl, _, rfl, w42, ⟨_, hr⟩, hf2, hf9, ?_⟩
          rw [hitem]
          rcases hP9 with ⟨h5, h6, h7⟩ | ⟨F9, h5, h6, h7⟩
          · omega
          · exact Or.inr ⟨F9, h5, rfl, h7⟩
    · refine x_iload C dX3_readItem_132 rfl ?_
      refine x_iconst C dX3_readItem_134 ⟨by decide, by decide⟩ ?_
      refine x_icmp_ne (tgt := 150) C dX3_readItem_135 (by decide) (fun c135 => ?_) (fun c135 => ?_)
      · refine x_iconst C dX3_readItem_150 ⟨by decide, by decide⟩ ?_
        refine x_zret C hQ dX3_readItem_151 (by first | exact Or.inl rfl | exact Or.inr rfl | omega) (Nat.le_refl _) (Nat.le_refl _) ?_
        refine ⟨rfl, _, rfl, w42, ⟨_, hr⟩, hf2, frR.rf, Or.inl ⟨?_, rfl, ⟨_, _, _, _, _, _, _, _, _, _, _, _, _, hs⟩⟩⟩
        rw [itemF, if_neg (by omega)]
        cases hnf : numF body [] 0 0 with
        | none => rfl
        | some ns =>
          obtain ⟨hz9, -⟩ := hnS ns hnf
          show numsF _ c0 ns = none
          unfold numsF
          rw [if_neg (by omega), if_neg (by omega), if_pos (by omega)]
          match ns, hz9 with
          | [], _ => rfl
          | [_], _ => rfl
          | [_, _], _ => rfl
          | [_, _, _], h8 => exact absurd h8 (by simp; omega)
          | _ :: _ :: _ :: _ :: _, _ => rfl
      · have hns : ∃ ns, numF body [] 0 0 = some ns := by
          cases hnf : numF body [] 0 0 with
          | none => have := hnN hnf; omega
          | some ns => exact ⟨ns, rfl⟩
        obtain ⟨ns, hnf⟩ := hns
        obtain ⟨hz9, jj, hT9⟩ := hnS ns hnf
        obtain ⟨x, y, z, rfl⟩ : ∃ x y z : Int, ns = [x, y, z] := by
          match ns, hz9 with
          | [], h8 => exact absurd h8 (by simp; omega)
          | [p], h8 => exact absurd h8 (by simp; omega)
          | [p, q], h8 => exact absurd h8 (by simp; omega)
          | [p, q, r], _ => exact ⟨p, q, r, rfl⟩
          | _ :: _ :: _ :: _ :: _, h8 => exact absurd h8 (by simp; omega)
        have hitem : itemF (decide (a = 0)) (c0 :: body) ((sg, fo, hi), mo, wi, nd, tb) = rdFlow ((sg, fo, hi), mo, wi, nd, tb) x y z := by
          rw [itemF, if_neg (by omega), hnf, Option.bind_some]
          unfold numsF
          rw [if_neg (by omega), if_neg (by omega), if_pos (by omega)]
        refine x_aload_n C dX3_readItem_138 rfl ?_
        refine x_aload_n C dX3_readItem_139 rfl ?_
        refine y_i1 C dX3_readItem_140 kyX3_readFlow knX3_readFlow kmX3_49 hr.o (c_X3_readFlow l hr hS2 hT9) (by decide) (Nat.zero_le _) (Nat.zero_le _) (Nat.le_of_ble_eq_true rfl) (fun z140 w140 q140 => ?_)
        refine x_if_eq (tgt := 150) C dX3_readItem_143 (by decide) (fun c143 => ?_) (fun c143 => ?_)
        · refine x_iconst C dX3_readItem_150 ⟨by decide, by decide⟩ ?_
          refine x_zret C hQ dX3_readItem_151 (by first | exact Or.inl rfl | exact Or.inr rfl | omega) (Nat.le_refl _) (Nat.le_refl _) ?_
          obtain ⟨hf9, hP9⟩ := q140
          refine ⟨rfl, _, rfl, w42, ⟨_, hr⟩, hf2, hf9, ?_⟩
          rw [hitem]
          rcases hP9 with ⟨h5, h6, h7⟩ | ⟨F9, h5, h6, h7⟩
          · exact Or.inl ⟨h5, rfl, h7⟩
          · omega
        · refine x_iconst C dX3_readItem_146 ⟨by decide, by decide⟩ ?_
          refine x_goto (tgt := 151) C dX3_readItem_147 (by decide) ?_
          refine x_zret C hQ dX3_readItem_151 (by first | exact Or.inl rfl | exact Or.inr rfl | omega) (Nat.le_refl _) (Nat.le_refl _) ?_
          obtain ⟨hf9, hP9⟩ := q140
          refine ⟨rfl, _, rfl, w42, ⟨_, hr⟩, hf2, hf9, ?_⟩
          rw [hitem]
          rcases hP9 with ⟨h5, h6, h7⟩ | ⟨F9, h5, h6, h7⟩
          · omega
          · exact Or.inr ⟨F9, h5, rfl, h7⟩
    · refine x_iconst C dX3_readItem_172 ⟨by decide, by decide⟩ ?_
      refine x_zret C hQ dX3_readItem_173 (by first | exact Or.inl rfl | exact Or.inr rfl | omega) (Nat.le_refl _) (Nat.le_refl _) ?_
      refine ⟨rfl, _, rfl, w42, ⟨_, hr⟩, hf2, frR.rf, Or.inl ⟨?_, rfl, ⟨_, _, _, _, _, _, _, _, _, _, _, _, _, hs⟩⟩⟩
      rw [itemF, if_neg (by omega)]
      cases hnf : numF body [] 0 0 with
      | none => rfl
      | some ns =>
        show numsF _ c0 ns = none
        unfold numsF
        rw [if_neg (by omega), if_neg (by omega), if_neg (by omega), if_neg (by omega)]
  · refine x_iload_n C dX3_readItem_15 rfl ?_
    refine x_if_ne (tgt := 35) C dX3_readItem_16 (by decide) (fun c16 => ?_) (fun c16 => ?_)
    · refine x_iconst C dX3_readItem_35 ⟨by decide, by decide⟩ ?_
      refine x_zret C hQ dX3_readItem_36 (by first | exact Or.inl rfl | exact Or.inr rfl | omega) (Nat.le_refl _) (Nat.le_refl _) ?_
      refine ⟨rfl, _, rfl, w, ⟨_, hr⟩, frR.rf, frR.rf, Or.inl ⟨?_, rfl, ⟨_, _, _, _, _, _, _, _, _, _, _, _, _, hs⟩⟩⟩
      rw [itemF, if_pos (by omega), if_neg (by simp; omega)]
    · obtain ⟨rfl, rfl⟩ := he (by omega)
      refine x_aload_n C dX3_readItem_19 rfl ?_
      refine x_iload_n C dX3_readItem_20 rfl ?_
      refine x_iconst C dX3_readItem_21 ⟨by decide, by decide⟩ ?_
      refine x_iadd C dX3_readItem_22 (by first | (unfold iR; omega) | exact ⟨by omega, by omega⟩) ?_
      refine x_iload_n C dX3_readItem_23 rfl ?_
      refine x_aload_n C dX3_readItem_24 rfl ?_
      refine y_i3 C dX3_readItem_25 kyX3_readSigns knX3_readSigns kmX3_35 hr.o (c_X3_readSigns l hr hd hS2 (a + 1) b hT3 (by simp; omega) (by omega)) (by decide) (Nat.zero_le _) (Nat.zero_le _) (Nat.le_of_ble_eq_true rfl) (fun z25 w25 q25 => ?_)
      refine x_if_eq (tgt := 35) C dX3_readItem_28 (by decide) (fun c28 => ?_) (fun c28 => ?_)
      · refine x_iconst C dX3_readItem_35 ⟨by decide, by decide⟩ ?_
        refine x_zret C hQ dX3_readItem_36 (by first | exact Or.inl rfl | exact Or.inr rfl | omega) (Nat.le_refl _) (Nat.le_refl _) ?_
        obtain ⟨hf9, hP9⟩ := q25
        refine ⟨rfl, _, rfl, w, ⟨_, hr⟩, frR.rf, hf9, ?_⟩
        rw [itemF, if_pos (by omega), if_pos (by simp; omega)]
        rcases hP9 with ⟨h5, h6, h7⟩ | ⟨sg9, h5, h6, h7⟩
        · exact Or.inl ⟨by simp only [h5]; rfl, rfl, h7⟩
        · omega
      · refine x_iconst C dX3_readItem_31 ⟨by decide, by decide⟩ ?_
        refine x_goto (tgt := 36) C dX3_readItem_32 (by decide) ?_
        refine x_zret C hQ dX3_readItem_36 (by first | exact Or.inl rfl | exact Or.inr rfl | omega) (Nat.le_refl _) (Nat.le_refl _) ?_
        obtain ⟨hf9, hP9⟩ := q25
        refine ⟨rfl, _, rfl, w, ⟨_, hr⟩, frR.rf, hf9, ?_⟩
        rw [itemF, if_pos (by omega), if_pos (by simp; omega)]
        rcases hP9 with ⟨h5, h6, h7⟩ | ⟨sg9, h5, h6, h7⟩
        · omega
        · exact Or.inr ⟨((sg9, [], []), mo, wi, nd, tb), by simp only [h5]; rfl, rfl, h7⟩
