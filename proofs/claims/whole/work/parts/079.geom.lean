/-! ===== how items stand in a row ===== -/
def pW (r : Int) (q : mP) : Bool := decide (q.2.2.1 = r)
/-- one behind the other; an end is the last -/
def cont : List mP → Prop
  | [] => True
  | x :: l => match l with
    | [] => True
    | y :: _ => y.2.2.2.1 = x.2.2.2.1 + x.2.2.2.2 ∧ x.1 ≠ 27 ∧ cont l
theorem cont_c {x : mP} {l : List mP} (h : cont (x :: l)) : cont l ∧ (∀ y, l.head? = some y → y.2.2.2.1 = x.2.2.2.1 + x.2.2.2.2 ∧ x.1 ≠ 27) := by
  cases l with
  | nil => exact ⟨trivial, fun y hy => by simp at hy⟩
  | cons z l =>
    unfold cont at h
    refine ⟨h.2.2, fun y hy => ?_⟩
    have : z = y := by simpa using hy
    subst this
    exact ⟨h.1, h.2.1⟩
theorem cont_i {x : mP} {l : List mP} (h : cont l) (h1 : ∀ y, l.head? = some y → y.2.2.2.1 = x.2.2.2.1 + x.2.2.2.2 ∧ x.1 ≠ 27) : cont (x :: l) := by
  cases l with
  | nil => trivial
  | cons z l =>
    unfold cont
    exact ⟨(h1 z rfl).1, (h1 z rfl).2, h⟩
theorem flt_nil {l : List mP} {r : Int} (h : ∀ q ∈ l, r < q.2.2.1) : l.filter (pW r) = [] := by
  rw [List.filter_eq_nil_iff]
  intro q hq h1
  have h2 := of_decide_eq_true h1
  have h3 := h q hq
  omega
theorem flw_cont {mo wi nd tb : Int} (r : Int) : ∀ (L : List mI) (pw fl : Bool) (rw : List (Int × Int)) (cs col : Int), cont ((flw mo wi nd tb L pw fl rw cs col).1.filter (pW r)) ∧ (∀ x, ((flw mo wi nd tb L pw fl rw cs col).1.filter (pW r)).head? = some x → r = rw.length → x.2.2.2.1 = col)
  | [], pw, fl, rw, cs, col => by
    rw [flw]
    exact ⟨trivial, fun x hx => by simp at hx⟩
  | q :: L, pw, fl, rw, cs, col => by
    rw [flw]
    by_cases hb : (fl && goesF mo wi nd tb pw col (q :: L)) = true
    · rw [if_pos hb]
      have hq27 : q.1 ≠ 27 := by
        rw [Bool.and_eq_true] at hb
        have h9 := hb.2
        rw [goesF, decide_eq_true_iff] at h9
        exact h9.2.1
      obtain ⟨i1, i2⟩ := flw_cont r L (isWc q.1) true (rw ++ [(col, cs)]) 0 (nd + widF tb nd q.1 q.2.2) (mo := mo) (wi := wi) (nd := nd) (tb := tb)
      have hR := (flw_rows L (isWc q.1) true (rw ++ [(col, cs)]) 0 (nd + widF tb nd q.1 q.2.2) (mo := mo) (wi := wi) (nd := nd) (tb := tb)).2
      simp only [List.length_append, List.length_cons, List.length_nil] at i2 hR ⊢
      by_cases h1 : (rw.length : Int) + 1 = r
      · have hp : pW r (q.1, q.2.1, (rw.length : Int) + 1, nd, widF tb nd q.1 q.2.2) = true := decide_eq_true h1
        rw [List.filter_cons_of_pos hp]
        refine ⟨cont_i i1 (fun y hy => ⟨i2 y hy (by omega), hq27⟩), fun x hx hr => ?_⟩
        omega
      · have hp : ¬ pW r (q.1, q.2.1, (rw.length : Int) + 1, nd, widF tb nd q.1 q.2.2) = true := fun h => h1 (of_decide_eq_true h)
        rw [List.filter_cons_of_neg hp]
        refine ⟨i1, fun x hx hr => ?_⟩
        rw [flt_nil (fun y hy => by have := hR y hy; omega)] at hx
        simp at hx
    · rw [if_neg hb]
      by_cases h27 : q.1 = 27
      · simp only [if_pos h27]
        obtain ⟨i1, i2⟩ := flw_cont r L false false (rw ++ [(col + widF tb col q.1 q.2.2, cs)]) 1 0 (mo := mo) (wi := wi) (nd := nd) (tb := tb)
        have hR := (flw_rows L false false (rw ++ [(col + widF tb col q.1 q.2.2, cs)]) 1 0 (mo := mo) (wi := wi) (nd := nd) (tb := tb)).2
        simp only [List.length_append, List.length_cons, List.length_nil] at i2 hR
        by_cases h1 : (rw.length : Int) = r
        · have hp : pW r (q.1, q.2.1, (rw.length : Int), col, widF tb col q.1 q.2.2) = true := decide_eq_true h1
          rw [List.filter_cons_of_pos hp, flt_nil (fun y hy => by have := hR y hy; omega)]
          refine ⟨trivial, fun x hx hr => ?_⟩
          have : (q.1, q.2.1, (rw.length : Int), col, widF tb col q.1 q.2.2) = x := by simpa using hx
          subst this
          rfl
        · have hp : ¬ pW r (q.1, q.2.1, (rw.length : Int), col, widF tb col q.1 q.2.2) = true := fun h => h1 (of_decide_eq_true h)
          rw [List.filter_cons_of_neg hp]
          exact ⟨i1, fun x hx hr => absurd hr.symm h1⟩
      · simp only [if_neg h27]
        obtain ⟨i1, i2⟩ := flw_cont r L (isWc q.1) true rw cs (col + widF tb col q.1 q.2.2) (mo := mo) (wi := wi) (nd := nd) (tb := tb)
        by_cases h1 : (rw.length : Int) = r
        · have hp : pW r (q.1, q.2.1, (rw.length : Int), col, widF tb col q.1 q.2.2) = true := decide_eq_true h1
          rw [List.filter_cons_of_pos hp]
          refine ⟨cont_i i1 (fun y hy => ⟨i2 y hy h1.symm, h27⟩), fun x hx hr => ?_⟩
          have : (q.1, q.2.1, (rw.length : Int), col, widF tb col q.1 q.2.2) = x := by simpa using hx
          subst this
          rfl
        · have hp : ¬ pW r (q.1, q.2.1, (rw.length : Int), col, widF tb col q.1 q.2.2) = true := fun h => h1 (of_decide_eq_true h)
          rw [List.filter_cons_of_neg hp]
          exact ⟨i1, fun x hx hr => absurd hr.symm h1⟩
theorem flw_ne {mo wi nd tb : Int} (r : Int) : ∀ (L : List mI) (pw fl : Bool) (rw : List (Int × Int)) (cs col : Int), (rw.length : Int) ≤ r → r + 1 < ((flw mo wi nd tb L pw fl rw cs col).2.length : Int) → (r = rw.length ∧ fl = true) ∨ (flw mo wi nd tb L pw fl rw cs col).1.filter (pW r) ≠ []
  | [], pw, fl, rw, cs, col, h1, h2 => by
    rw [flw] at h2
    simp at h2
    omega
  | q :: L, pw, fl, rw, cs, col, h1, h2 => by
    rw [flw] at h2 ⊢
    by_cases hb : (fl && goesF mo wi nd tb pw col (q :: L)) = true
    · rw [if_pos hb] at h2 ⊢
      by_cases h3 : r = rw.length
      · rw [Bool.and_eq_true] at hb
        exact Or.inl ⟨h3, hb.1⟩
      · refine Or.inr ?_
        simp only at h2 ⊢
        by_cases h4 : (rw.length : Int) + 1 = r
        · have hp : pW r (q.1, q.2.1, (rw.length : Int) + 1, nd, widF tb nd q.1 q.2.2) = true := decide_eq_true h4
          rw [List.filter_cons_of_pos hp]
          exact List.cons_ne_nil _ _
        · have hp : ¬ pW r (q.1, q.2.1, (rw.length : Int) + 1, nd, widF tb nd q.1 q.2.2) = true := fun h => h4 (of_decide_eq_true h)
          rw [List.filter_cons_of_neg hp]
          rcases flw_ne r L (isWc q.1) true (rw ++ [(col, cs)]) 0 (nd + widF tb nd q.1 q.2.2) (by simp; omega) h2 with h5 | h5
          · simp at h5; omega
          · exact h5
    · rw [if_neg hb] at h2 ⊢
      refine Or.inr ?_
      by_cases h27 : q.1 = 27
      · simp only [if_pos h27] at h2 ⊢
        by_cases h4 : (rw.length : Int) = r
        · have hp : pW r (q.1, q.2.1, (rw.length : Int), col, widF tb col q.1 q.2.2) = true := decide_eq_true h4
          rw [List.filter_cons_of_pos hp]
          exact List.cons_ne_nil _ _
        · have hp : ¬ pW r (q.1, q.2.1, (rw.length : Int), col, widF tb col q.1 q.2.2) = true := fun h => h4 (of_decide_eq_true h)
          rw [List.filter_cons_of_neg hp]
          rcases flw_ne r L false false (rw ++ [(col + widF tb col q.1 q.2.2, cs)]) 1 0 (by simp; omega) h2 with h5 | h5
          · exact absurd h5.2 (by decide)
          · exact h5
      · simp only [if_neg h27] at h2 ⊢
        by_cases h4 : (rw.length : Int) = r
        · have hp : pW r (q.1, q.2.1, (rw.length : Int), col, widF tb col q.1 q.2.2) = true := decide_eq_true h4
          rw [List.filter_cons_of_pos hp]
          exact List.cons_ne_nil _ _
        · have hp : ¬ pW r (q.1, q.2.1, (rw.length : Int), col, widF tb col q.1 q.2.2) = true := fun h => h4 (of_decide_eq_true h)
          rw [List.filter_cons_of_neg hp]
          rcases flw_ne r L (isWc q.1) true rw cs (col + widF tb col q.1 q.2.2) h1 h2 with h5 | h5
          · omega
          · exact h5
theorem widF_1 {tb col c v : Int} (htb : 1 ≤ tb ∧ tb ≤ 8) (hv : 1 ≤ v) : (c ≠ 27 → 1 ≤ widF tb col c v) ∧ (c = 27 → widF tb col c v = 0) := by
  have h1 := Int.emod_lt_of_pos col (show 0 < tb by omega)
  unfold widF
  refine ⟨fun h => ?_, fun h => if_pos h⟩
  rw [if_neg h]
  split <;> omega
theorem flw_wid {mo wi nd tb : Int} (htb : 1 ≤ tb ∧ tb ≤ 8) : ∀ (L : List mI) (pw fl : Bool) (rw : List (Int × Int)) (cs col : Int), (∀ x ∈ L, 1 ≤ x.2.2) → ∀ x ∈ (flw mo wi nd tb L pw fl rw cs col).1, (x.1 ≠ 27 → 1 ≤ x.2.2.2.2) ∧ (x.1 = 27 → x.2.2.2.2 = 0)
  | [], pw, fl, rw, cs, col, _ => by intro q hq; simp [flw] at hq
  | q :: L, pw, fl, rw, cs, col, hb => by
    have hx := hb q List.mem_cons_self
    have hb2 : ∀ x ∈ L, 1 ≤ x.2.2 := fun y hy => hb y (List.mem_cons_of_mem _ hy)
    rw [flw]
    split
    · simp only
      intro x hq
      rcases List.mem_cons.mp hq with h1 | h1
      · subst h1; exact widF_1 htb hx
      · exact flw_wid htb L _ _ _ _ _ hb2 x h1
    · simp only
      intro x hq
      rcases List.mem_cons.mp hq with h1 | h1
      · subst h1; exact widF_1 htb hx
      · split at h1
        · exact flw_wid htb L _ _ _ _ _ hb2 x h1
        · exact flw_wid htb L _ _ _ _ _ hb2 x h1
theorem flw_kp {mo wi nd tb : Int} : ∀ (L : List mI) (pw fl : Bool) (rw : List (Int × Int)) (cs col : Int), (flw mo wi nd tb L pw fl rw cs col).1.map (fun q => (q.1, q.2.1)) = L.map (fun q => (q.1, q.2.1))
  | [], pw, fl, rw, cs, col => by rw [flw]; rfl
  | q :: L, pw, fl, rw, cs, col => by
    rw [flw]
    split
    · simp only [List.map_cons]
      rw [flw_kp L]
    · simp only [List.map_cons]
      split
      · rw [flw_kp L]
      · rw [flw_kp L]
theorem its_1 {F : mF} (hW : wfF F) : ∀ x ∈ its F.1.1 F.1.2.1 F.1.2.2, 1 ≤ x.2.2 := by
  obtain ⟨f1, f2, f3, f4, f5, f6, f7, f8, f9⟩ := hW
  unfold its
  generalize F.1.1.length + 1 = k
  induction k with
  | zero => simp [gthF]
  | succ k ih =>
    intro x hx
    rw [gthF] at hx
    rcases List.mem_append.mp hx with h | h
    · exact ih x h
    · unfold pcs at h
      split at h
      · rcases List.mem_append.mp h with h | h
        · cases hf : F.1.2.2.find? (pH (k : Int)) with
          | none => rw [hPc_none hf] at h; cases h
          | some q =>
            rw [hPc_some hf] at h
            have := f7 q (List.mem_of_find?_eq_some hf)
            rw [List.mem_singleton.mp h]
            simp only; omega
        · unfold sPc at h
          split at h
          · rw [List.mem_singleton.mp h]; simp
          · cases h
      · cases h
/-- of a place there is one sign at most -/
def pK (a : Int) (q : Int × Int) : Bool := decide (q.2 = a ∧ q.1 ≠ 29)
theorem pcs_pl {sg : List Int} {fo : List (Int × Int × Int)} {hi : List (Int × Int)} {p : Int} : ∀ x ∈ pcs sg fo hi p, x.2.1 = p := by
  intro x h
  unfold pcs at h
  split at h
  · rcases List.mem_append.mp h with h | h
    · cases hf : hi.find? (pH p) with
      | none => rw [hPc_none hf] at h; cases h
      | some q => rw [hPc_some hf] at h; rw [List.mem_singleton.mp h]
    · unfold sPc at h
      split at h
      · rw [List.mem_singleton.mp h]
      · cases h
  · cases h
theorem gth_pl {sg : List Int} {fo : List (Int × Int × Int)} {hi : List (Int × Int)} : ∀ (k : Nat), ∀ x ∈ gthF sg fo hi k, 0 ≤ x.2.1 ∧ x.2.1 < (k : Int)
  | 0 => by simp [gthF]
  | k + 1 => by
    intro x hx
    rw [gthF] at hx
    rcases List.mem_append.mp hx with h | h
    · have := gth_pl k x h; omega
    · have := pcs_pl x h; omega
theorem gth_pw {sg : List Int} {fo : List (Int × Int × Int)} {hi : List (Int × Int)} (a : Int) : ∀ (k : Nat), ((gthF sg fo hi k).map (fun q => (q.1, q.2.1))).Pairwise (fun x y => ¬ (pK a x = true ∧ pK a y = true))
  | 0 => by simp [gthF]
  | k + 1 => by
    rw [gthF, List.map_append, List.pairwise_append]
    refine ⟨gth_pw a k, ?_, fun x hx y hy h => ?_⟩
    · unfold pcs
      split
      · rw [List.map_append, List.pairwise_append]
        refine ⟨?_, ?_, fun x hx y hy h => ?_⟩
        · cases hf : hi.find? (pH (k : Int)) with
          | none => rw [hPc_none hf]; simp
          | some q => rw [hPc_some hf]; simp
        · unfold sPc
          split <;> simp
        · obtain ⟨x', hx', rfl⟩ := List.mem_map.mp hx
          cases hf : hi.find? (pH (k : Int)) with
          | none => rw [hPc_none hf] at hx'; cases hx'
          | some q =>
            rw [hPc_some hf] at hx'
            have h1 := of_decide_eq_true h.1
            rw [List.mem_singleton.mp hx'] at h1
            exact h1.2 rfl
      · simp
    · obtain ⟨x', hx', rfl⟩ := List.mem_map.mp hx
      obtain ⟨y', hy', rfl⟩ := List.mem_map.mp hy
      have h1 := gth_pl k x' hx'
      have h2 := pcs_pl y' hy'
      have h3 := of_decide_eq_true h.1
      have h4 := of_decide_eq_true h.2
      simp only at h3 h4
      omega
theorem scr_cont (F : mF) (r : Int) : cont ((scr F).1.filter (pW r)) := (flw_cont r _ _ _ _ _ _).1
theorem scr_ne (F : mF) {r : Int} (h0 : 0 ≤ r) (h : r + 1 < ((scr F).2.length : Int)) : (scr F).1.filter (pW r) ≠ [] := by
  rcases flw_ne r (its F.1.1 F.1.2.1 F.1.2.2) false false [] 1 0 (by simpa using h0) h with h1 | h1
  · exact absurd h1.2 (by decide)
  · exact h1
theorem scr_wid {F : mF} (hW : wfF F) : ∀ x ∈ (scr F).1, (x.1 ≠ 27 → 1 ≤ x.2.2.2.2) ∧ (x.1 = 27 → x.2.2.2.2 = 0) := flw_wid hW.2.2.2.2.2.2.2.2.2.2.2 _ _ _ _ _ _ (its_1 hW)
theorem scr_pw (F : mF) (a : Int) : (scr F).1.Pairwise (fun x y => ¬ ((decide (x.2.1 = a ∧ x.1 ≠ 29)) = true ∧ (decide (y.2.1 = a ∧ y.1 ≠ 29)) = true)) := by
  have h1 := gth_pw (sg := F.1.1) (fo := F.1.2.1) (hi := F.1.2.2) a (F.1.1.length + 1)
  have h2 : (scr F).1.map (fun q => (q.1, q.2.1)) = (its F.1.1 F.1.2.1 F.1.2.2).map (fun q => (q.1, q.2.1)) := flw_kp _ _ _ _ _ _
  have h3 : ((scr F).1.map (fun q => (q.1, q.2.1))).Pairwise (fun x y => ¬ (pK a x = true ∧ pK a y = true)) := by rw [h2]; exact h1
  exact List.pairwise_map.mp h3
/-- items of a row: sorted, apart -/
theorem cont_pw : ∀ {X : List mP}, cont X → (∀ x ∈ X, 0 ≤ x.2.2.2.2) → X.Pairwise (fun x y => x.2.2.2.1 + x.2.2.2.2 ≤ y.2.2.2.1)
  | [], _, _ => List.Pairwise.nil
  | x :: l, h, hw => by
    obtain ⟨h1, h2⟩ := cont_c h
    have ih := cont_pw h1 (fun y hy => hw y (List.mem_cons_of_mem _ hy))
    refine List.pairwise_cons.mpr ⟨fun y hy => ?_, ih⟩
    cases l with
    | nil => cases hy
    | cons z l =>
      have h3 := (h2 z rfl).1
      rcases List.mem_cons.mp hy with h4 | h4
      · subst h4; omega
      · have h5 := (List.pairwise_cons.mp ih).1 y h4
        have h6 := hw z (by simp)
        omega
def cov (col : Int) (q : mP) : Bool := decide (q.2.2.2.1 ≤ col ∧ col < q.2.2.2.1 + q.2.2.2.2)
def pC (r col : Int) (q : mP) : Bool := pW r q && cov col q
theorem scr_pc {F : mF} (hW : wfF F) (r col : Int) : (scr F).1.Pairwise (fun x y => ¬ (pC r col x = true ∧ pC r col y = true)) := by
  have hw : ∀ x ∈ (scr F).1.filter (pW r), 0 ≤ x.2.2.2.2 := fun x hx => by
    have := hW.bd x (List.mem_filter.mp hx).1
    omega
  have h1 := List.pairwise_filter.mp (cont_pw (scr_cont F r) hw)
  refine h1.imp (fun {x y} hxy h2 => ?_)
  unfold pC at h2
  rw [Bool.and_eq_true, Bool.and_eq_true] at h2
  have h3 := hxy h2.1.1 h2.2.1
  have h4 := of_decide_eq_true h2.1.2
  have h5 := of_decide_eq_true h2.2.2
  omega
theorem codeF_find (r col : Int) : ∀ l : List mP, codeF r col l = (match l.find? (pC r col) with | none => -4 | some q => q.1)
  | [] => rfl
  | q :: l => by
    rw [codeF, List.find?_cons]
    by_cases h : q.2.2.1 = r ∧ q.2.2.2.1 ≤ col ∧ col < q.2.2.2.1 + q.2.2.2.2
    · have hp : pC r col q = true := by
        unfold pC
        rw [Bool.and_eq_true]
        exact ⟨decide_eq_true h.1, decide_eq_true h.2⟩
      rw [if_pos h, hp]
    · have hp : pC r col q = false := by
        cases hp : pC r col q with
        | false => rfl
        | true =>
          unfold pC at hp
          rw [Bool.and_eq_true] at hp
          exact absurd ⟨of_decide_eq_true hp.1, of_decide_eq_true hp.2⟩ h
      rw [if_neg h, hp, codeF_find r col l]
def plcG (b : Bool) (last col : Int) : List mP → Int → Int
  | [], f => if b = true then last else f
  | q :: l, f => if col < q.2.2.2.1 + q.2.2.2.2 ∨ q.1 = 27 then q.2.1 else plcG b last col l q.2.1
theorem plcF_flt (r col last rc : Int) : ∀ (l : List mP) (f : Int), plcF r col last rc l f = plcG (decide (r = rc - 1)) last col (l.filter (pW r)) f
  | [], f => by
    rw [plcF, List.filter_nil, plcG]
    by_cases h : r = rc - 1
    · rw [if_pos h, if_pos (decide_eq_true h)]
    · rw [if_neg h, if_neg (fun h1 => h (of_decide_eq_true h1))]
  | q :: l, f => by
    rw [plcF]
    by_cases h : q.2.2.1 = r
    · have hp : pW r q = true := decide_eq_true h
      rw [if_pos h, List.filter_cons_of_pos hp, plcG, plcF_flt r col last rc l]
    · have hp : ¬ pW r q = true := fun h1 => h (of_decide_eq_true h1)
      rw [if_neg h, List.filter_cons_of_neg hp, plcF_flt r col last rc l]
theorem plcG_cov {b : Bool} {last col : Int} : ∀ {X : List mP} {f : Int} {q : mP}, cont X → (∀ x ∈ X, 0 ≤ x.2.2.2.2) → X.find? (cov col) = some q → plcG b last col X f = q.2.1
  | [], f, q, _, _, h => by simp at h
  | x :: l, f, q, hc, hw, h => by
    obtain ⟨h1, h2⟩ := cont_c hc
    rw [List.find?_cons] at h
    by_cases hx : cov col x = true
    · rw [hx] at h
      simp only [Option.some.injEq] at h
      subst h
      have := of_decide_eq_true hx
      rw [plcG, if_pos (Or.inl this.2)]
    · rw [Bool.not_eq_true] at hx
      rw [hx] at h
      simp only at h
      have hpw := cont_pw hc hw
      have hq := List.mem_of_find?_eq_some h
      have h3 := (List.pairwise_cons.mp hpw).1 q hq
      have h9 : cov col q = true := List.find?_some h
      have h4 := of_decide_eq_true h9
      rw [plcG, if_neg]
      · exact plcG_cov h1 (fun y hy => hw y (List.mem_cons_of_mem _ hy)) h
      · intro h5
        rcases h5 with h5 | h5
        · omega
        · cases l with
          | nil => cases hq
          | cons z l => exact (h2 z rfl).2 h5
theorem plcG_first {b : Bool} {last col : Int} {x : mP} {l : List mP} {f : Int} (h : col < x.2.2.2.1) (hw : 0 ≤ x.2.2.2.2) : plcG b last col (x :: l) f = x.2.1 := by
  rw [plcG, if_pos (Or.inl (by omega))]
theorem plcG_end {b : Bool} {last col : Int} : ∀ {X : List mP} {f : Int}, cont X → (∀ x ∈ X, ¬ cov col x = true) → (∀ x, X.head? = some x → x.1 = 27 ∨ x.2.2.2.1 ≤ col) → plcG b last col X f = (match X.getLast? with | none => (if b = true then last else f) | some y => (if y.1 = 27 then y.2.1 else if b = true then last else y.2.1))
  | [], f, _, _, _ => rfl
  | x :: l, f, hc, hn, hh => by
    obtain ⟨h1, h2⟩ := cont_c hc
    by_cases h27 : x.1 = 27
    · cases l with
      | nil => rw [plcG, if_pos (Or.inr h27)]; simp [h27]
      | cons z l => exact absurd h27 (h2 z rfl).2
    · have h3 := (hh x rfl).resolve_left h27
      have h4 : ¬ col < x.2.2.2.1 + x.2.2.2.2 := fun h5 => hn x List.mem_cons_self (decide_eq_true ⟨h3, h5⟩)
      rw [plcG, if_neg (fun h5 => h5.elim h4 h27), plcG_end h1 (fun y hy => hn y (List.mem_cons_of_mem _ hy)) (fun y hy => Or.inr (by have := (h2 y hy).1; omega))]
      cases l with
      | nil => simp [h27]
      | cons z l =>
        rw [List.getLast?_cons_cons]
        cases hg : (z :: l).getLast? with
        | none => simp at hg
        | some y => rfl
theorem lst_acc {α : Type} (p : α → Bool) : ∀ (l : List α) (k acc : Int), 0 ≤ k → lst p l k acc = if lst p l k (-4) = -4 then acc else lst p l k (-4)
  | [], k, acc, _ => by simp [lst]
  | x :: l, k, acc, hk => by
    rw [lst, lst]
    by_cases hx : p x = true
    · rw [if_pos hx, if_pos hx]
      have h1 := lst_acc p l (k + 1) k (by omega)
      rw [h1]
      by_cases h2 : lst p l (k + 1) (-4) = -4
      · rw [if_pos h2, if_neg (by omega)]
      · rw [if_neg h2, if_neg h2]
    · rw [if_neg hx, if_neg hx]
      exact lst_acc p l (k + 1) acc (by omega)
theorem lst_last {α : Type} (p : α → Bool) : ∀ (l : List α) (k : Int), 0 ≤ k → (lst p l k (-4) = -4 ∧ l.filter p = []) ∨ ∃ (P R : List α) (x : α), l = P ++ x :: R ∧ lst p l k (-4) = k + P.length ∧ (l.filter p).getLast? = some x
  | [], k, _ => Or.inl ⟨rfl, rfl⟩
  | x :: l, k, hk => by
    have ha := lst_acc p l (k + 1) (if p x = true then k else -4) (by omega)
    rw [lst, ha]
    rcases lst_last p l (k + 1) (by omega) with ⟨h1, h2⟩ | ⟨P, R, y, h1, h2, h3⟩
    · rw [if_pos h1]
      by_cases hx : p x = true
      · rw [if_pos hx, List.filter_cons_of_pos hx, h2]
        exact Or.inr ⟨[], l, x, rfl, by simp, rfl⟩
      · rw [if_neg hx, List.filter_cons_of_neg hx]
        exact Or.inl ⟨rfl, h2⟩
    · rw [if_neg (by omega), h2]
      refine Or.inr ⟨x :: P, R, y, by rw [h1]; rfl, by simp; omega, ?_⟩
      by_cases hx : p x = true
      · rw [List.filter_cons_of_pos hx]
        cases hf : l.filter p with
        | nil => rw [hf] at h3; simp at h3
        | cons z l' => rw [List.getLast?_cons_cons, ← hf]; exact h3
      · rw [List.filter_cons_of_neg hx]; exact h3
/-- two sorted rows: as many, and each of the one in the other -/
theorem sub_eq {α : Type} (key : α → Int) : ∀ (B A : List α), A.Pairwise (fun x y => key x < key y) → B.Pairwise (fun x y => key x < key y) → (∀ x ∈ A, x ∈ B) → A.length ≤ B.length ∧ (A.length = B.length → A = B)
  | [], A, _, _, h => by
    cases A with
    | nil => exact ⟨Nat.le_refl _, fun _ => rfl⟩
    | cons a A => exact absurd (h a List.mem_cons_self) List.not_mem_nil
  | b :: B, [], _, _, _ => ⟨by simp, fun h => by simp at h⟩
  | b :: B, a :: A, hA, hB, h => by
    obtain ⟨hA1, hA2⟩ := List.pairwise_cons.mp hA
    obtain ⟨hB1, hB2⟩ := List.pairwise_cons.mp hB
    rcases List.mem_cons.mp (h a List.mem_cons_self) with h1 | h1
    · subst h1
      have ih := sub_eq key B A hA2 hB2 (fun x hx => by
        rcases List.mem_cons.mp (h x (List.mem_cons_of_mem _ hx)) with h2 | h2
        · have := hA1 x hx
          rw [h2] at this
          omega
        · exact h2)
      refine ⟨by simpa using ih.1, fun h3 => ?_⟩
      rw [ih.2 (by simpa using h3)]
    · have hab := hB1 a h1
      have ih := sub_eq key B (a :: A) hA hB2 (fun x hx => by
        rcases List.mem_cons.mp (h x hx) with h2 | h2
        · rcases List.mem_cons.mp hx with h3 | h3
          · rw [h2] at h3
            rw [h3] at hab
            omega
          · have := hA1 x h3
            rw [h2] at this
            omega
        · exact h2)
      exact ⟨by have := ih.1; simp at this ⊢; omega, fun h3 => by have := ih.1; simp at h3 this; omega⟩
theorem rowL_pw {F : mF} (hW : wfF F) (r : Int) : (rowL r (scr F).1).Pairwise (fun x y => x.2.1 < y.2.1) := by
  have hw : ∀ x ∈ (scr F).1.filter (pW r), 0 ≤ x.2.2.2.2 := fun x hx => by
    have := hW.bd x (List.mem_filter.mp hx).1
    omega
  have h1 := List.pairwise_filter.mp (cont_pw (scr_cont F r) hw)
  unfold rowL
  rw [List.pairwise_map]
  refine List.pairwise_filter.mpr ((pw_mem h1).imp (fun {x y} hxy hx hy => ?_))
  have hx2 := of_decide_eq_true hx
  have hy2 := of_decide_eq_true hy
  have h3 := hxy.2.2 (decide_eq_true hx2.1) (decide_eq_true hy2.1)
  have h4 := (scr_wid hW x hxy.1).1 hx2.2
  simp only
  omega
