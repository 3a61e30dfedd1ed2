/-! ===== what acts leave is well formed ===== -/
def wfF (F : mF) : Prop := wfS F.1.1 F.1.2.1 F.1.2.2 F.2.1 F.2.2.1 F.2.2.2.1 F.2.2.2.2
abbrev mScr : Type := List mP × List (Int × Int)
def scr (F : mF) : mScr := scrF F.1.1 F.1.2.1 F.1.2.2 F.2.1 F.2.2.1 F.2.2.2.1 F.2.2.2.2
/-- signs, folds and hints alone -/
def wfT (T : mS) : Prop := T.1.length ≤ 40 ∧ (∀ x ∈ T.1, 0 ≤ x ∧ x ≤ 27) ∧ T.2.1.length ≤ 4 ∧ (∀ f ∈ T.2.1, 0 ≤ f.1 ∧ f.1 < f.2.1 ∧ f.2.1 ≤ T.1.length ∧ (f.2.2 = 0 ∨ f.2.2 = 1)) ∧ T.2.1.Pairwise (fun a b => a.2.1 ≤ b.1) ∧ T.2.2.length ≤ 4 ∧ (∀ q ∈ T.2.2, 0 ≤ q.1 ∧ q.1 ≤ T.1.length ∧ 1 ≤ q.2 ∧ q.2 ≤ 5) ∧ T.2.2.Pairwise (fun a b => a.1 < b.1)
def wfM (m : Int × Int × Int × Int) : Prop := (0 ≤ m.1 ∧ m.1 ≤ 2) ∧ (4 ≤ m.2.1 ∧ m.2.1 ≤ 20) ∧ (0 ≤ m.2.2.1 ∧ m.2.2.1 ≤ 3) ∧ 1 ≤ m.2.2.2 ∧ m.2.2.2 ≤ 8
theorem wfF_iff (F : mF) : wfF F ↔ wfT F.1 ∧ wfM F.2 := by
  unfold wfF wfS wfT wfM
  constructor
  · rintro ⟨h1, h2, h3, h4, h5, h6, h7, h8, h9, h10, h11, h12⟩
    exact ⟨⟨h1, h2, h3, h4, h5, h6, h7, h8⟩, h9, h10, h11, h12⟩
  · rintro ⟨⟨h1, h2, h3, h4, h5, h6, h7, h8⟩, h9, h10, h11, h12⟩
    exact ⟨h1, h2, h3, h4, h5, h6, h7, h8, h9, h10, h11, h12⟩
theorem wfF.sm {F : mF} (h : wfF F) : smF F.1.2.1 ∧ smH F.1.2.2 := by
  obtain ⟨h1, h2, h3, h4, h5, h6, h7, h8, h9⟩ := h
  refine ⟨fun q hq => ?_, fun q hq => ?_⟩
  · have := h4 q hq; omega
  · have := h7 q hq; omega
theorem wf_put {T : mS} (h : wfT T) (a s : Int) (hs : 0 ≤ s ∧ s ≤ 27) : wfT (putS T a s) := by
  unfold putS
  by_cases hc : (0 ≤ a ∧ a ≤ T.1.length) ∧ T.1.length < 40
  · rw [if_pos hc]
    obtain ⟨h1, h2, h3, h4, h5, h6, h7, h8⟩ := h
    have hl : (insI T.1 a s).length = T.1.length + 1 := by unfold insI; simp; omega
    refine ⟨by show (insI T.1 a s).length ≤ 40; omega, ?_, by simpa using h3, ?_, ?_, by simpa using h6, ?_, ?_⟩
    · intro x hx
      have hx2 : x ∈ T.1.take a.toNat ∨ x = s ∨ x ∈ T.1.drop a.toNat := by simpa [insI] using hx
      rcases hx2 with h9 | h9 | h9
      · exact h2 x (List.mem_of_mem_take h9)
      · omega
      · exact h2 x (List.mem_of_mem_drop h9)
    · intro f hf
      obtain ⟨g, hg, rfl⟩ := List.mem_map.mp hf
      have := h4 g hg
      show 0 ≤ (upF a g).1 ∧ _ ∧ (upF a g).2.1 ≤ ((insI T.1 a s).length : Int) ∧ _
      rw [hl]
      unfold upF
      refine ⟨?_, ?_, ?_, this.2.2.2⟩ <;> simp only <;> split <;> (try split) <;> omega
    · refine List.pairwise_map.mpr (h5.imp (fun {x y} hxy => ?_))
      unfold upF
      simp only
      split <;> split <;> omega
    · intro f hf
      obtain ⟨g, hg, rfl⟩ := List.mem_map.mp hf
      have := h7 g hg
      show 0 ≤ (upH a g).1 ∧ (upH a g).1 ≤ ((insI T.1 a s).length : Int) ∧ _
      rw [hl]
      unfold upH
      refine ⟨?_, ?_, this.2.2⟩ <;> simp only <;> split <;> omega
    · refine List.pairwise_map.mpr (h8.imp (fun {x y} hxy => ?_))
      unfold upH
      simp only
      split <;> split <;> omega
  · rw [if_neg hc]; exact h
theorem pw_drop {α : Type} {r : α → α → Prop} {l : List α} (h : l.Pairwise r) (a : Int) : (dropI l a).Pairwise r := by
  unfold dropI
  split
  · exact h.sublist (List.eraseIdx_sublist _ _)
  · exact h
theorem dropI_len {α : Type} (l : List α) (a : Int) : (dropI l a).length ≤ l.length := by
  unfold dropI
  split
  · exact (List.eraseIdx_sublist _ _).length_le
  · exact Nat.le_refl _
theorem hiCut_apart {a : Int} {hi : List (Int × Int)} (h : hi.Pairwise (fun a b => a.1 < b.1)) {q r : Int × Int} (hq : q ∈ hiCut a hi) (hr : r ∈ hiCut a hi) : ¬ (q.1 = a ∧ r.1 = a + 1) := by
  rintro ⟨e1, e2⟩
  have hr0 := hiCut_mem hr
  have hq0 := hiCut_mem hq
  unfold hiCut at hq
  by_cases h1 : 0 ≤ fIdx (pH (a + 1)) hi 0
  · rw [if_pos h1] at hq
    have h2 : ¬ fIdx (pH a) hi 0 < 0 := by
      intro h3
      have := ((fIdx_neg (pH a) hi 0 (by omega)).1.mp h3) q hq0
      simp [pH] at this
      exact this e1
    obtain ⟨P, R, x, rfl, hx, hP, he⟩ := fIdx_at (pH a) hi 0 (by omega) (by omega)
    rw [he] at hq
    have hx2 : x.1 = a := by simpa [pH] using hx
    rw [dropI, if_pos (by simp; omega), show ((0 : Int) + P.length).toNat = P.length by omega, erase_at] at hq
    rcases List.mem_append.mp hq with h4 | h4
    · have := hP q h4
      simp [pH] at this
      exact this e1
    · have h5 := (List.pairwise_cons.mp (List.pairwise_append.mp h).2.1).1 q h4
      omega
  · have := ((fIdx_neg (pH (a + 1)) hi 0 (by omega)).1.mp (by omega)) r hr0
    simp [pH] at this
    exact this e2
theorem pw_mem {α : Type} {r : α → α → Prop} {l : List α} (h : l.Pairwise r) : l.Pairwise (fun a b => a ∈ l ∧ b ∈ l ∧ r a b) := List.pairwise_iff_getElem.mpr (fun i j hi hj hij => ⟨List.getElem_mem hi, List.getElem_mem hj, List.pairwise_iff_getElem.mp h i j hi hj hij⟩)
theorem wf_del {T : mS} (h : wfT T) (a : Int) : wfT (delS T a) := by
  unfold delS
  by_cases hc : 0 ≤ a ∧ a < T.1.length
  · rw [if_pos hc]
    obtain ⟨h1, h2, h3, h4, h5, h6, h7, h8⟩ := h
    have hl : (T.1.eraseIdx a.toNat).length = T.1.length - 1 := List.length_eraseIdx_of_lt (by omega)
    refine ⟨by show (T.1.eraseIdx a.toNat).length ≤ 40; omega, fun x hx => h2 x ((List.eraseIdx_sublist _ _).mem hx), ?_, ?_, ?_, ?_, ?_, ?_⟩
    · have := List.length_filter_le okF (T.2.1.map (dnF a))
      rw [List.length_map] at this
      exact Nat.le_trans this h3
    · intro f hf
      obtain ⟨hf1, hf2⟩ := List.mem_filter.mp hf
      obtain ⟨g, hg, rfl⟩ := List.mem_map.mp hf1
      have := h4 g hg
      have h9 : (dnF a g).1 < (dnF a g).2.1 := by simpa [okF] using hf2
      refine ⟨?_, h9, ?_, this.2.2.2⟩
      · unfold dnF; simp only; split <;> omega
      · show (dnF a g).2.1 ≤ ((T.1.eraseIdx a.toNat).length : Int)
        rw [hl]
        unfold dnF; simp only; split <;> omega
    · refine List.Pairwise.filter _ (List.pairwise_map.mpr (h5.imp (fun {x y} hxy => ?_)))
      unfold dnF
      simp only
      split <;> split <;> omega
    · show ((hiCut a T.2.2).map (dnH a)).length ≤ 4
      rw [List.length_map]
      unfold hiCut
      split
      · exact Nat.le_trans (dropI_len _ _) h6
      · exact h6
    · intro f hf
      obtain ⟨g, hg, rfl⟩ := List.mem_map.mp hf
      have := h7 g (hiCut_mem hg)
      refine ⟨?_, ?_, this.2.2⟩
      · unfold dnH; simp only; split <;> omega
      · show (dnH a g).1 ≤ ((T.1.eraseIdx a.toNat).length : Int)
        rw [hl]
        unfold dnH; simp only; split <;> omega
    · have h9 : (hiCut a T.2.2).Pairwise (fun a b => a.1 < b.1) := by
        unfold hiCut
        split
        · exact pw_drop h8 _
        · exact h8
      refine List.pairwise_map.mpr ((pw_mem h9).imp (fun {x y} hxy => ?_))
      have h10 := hiCut_apart h8 hxy.1 hxy.2.1
      have h11 := hxy.2.2
      unfold dnH
      simp only
      split <;> split <;> omega
  · rw [if_neg hc]; exact h
theorem wf_turn {T : mS} (h : wfT T) (a : Int) : wfT (T.1, turnF T.2.1 a, T.2.2) := by
  unfold turnF
  by_cases hc : 0 ≤ a ∧ a < T.2.1.length
  · rw [if_pos hc]
    obtain ⟨sg, fo, hi⟩ := T
    obtain ⟨h1, h2, h3, h4, h5, h6, h7, h8⟩ := h
    simp only at hc h1 h2 h3 h4 h5 h6 h7 h8
    obtain ⟨P, x, R, rfl, hP⟩ := spl fo a.toNat (by omega)
    rw [← hP, modify_at]
    refine ⟨h1, h2, by simpa using h3, ?_, ?_, h6, h7, h8⟩
    · intro f hf
      rcases List.mem_append.mp hf with h9 | h9
      · exact h4 f (by simp [h9])
      · rcases List.mem_cons.mp h9 with h10 | h10
        · have := h4 x (by simp)
          subst h10
          refine ⟨this.1, this.2.1, this.2.2.1, ?_⟩
          unfold flip; simp only; split <;> omega
        · exact h4 f (by simp [h10])
    · rw [List.pairwise_append, List.pairwise_cons] at h5 ⊢
      refine ⟨h5.1, ⟨h5.2.1.1, h5.2.1.2⟩, fun u hu v hv => ?_⟩
      rcases List.mem_cons.mp hv with h10 | h10
      · subst h10; exact h5.2.2 u hu x (by simp)
      · exact h5.2.2 u hu v (by simp [h10])
  · rw [if_neg hc]; exact h
theorem wf_live {T : mS} (h : wfT T) (d : Int) (hd : 0 ≤ d) : wfT (liveS T d) := by
  unfold liveS
  split
  · exact wf_del h _
  · split
    · exact wf_turn h _
    · exact wf_put h _ _ (by omega)
theorem wf_dropF {T : mS} (h : wfT T) (a : Int) : wfT (T.1, dropI T.2.1 a, T.2.2) := by
  obtain ⟨h1, h2, h3, h4, h5, h6, h7, h8⟩ := h
  exact ⟨h1, h2, Nat.le_trans (dropI_len _ _) h3, fun f hf => h4 f (dropI_mem hf), pw_drop h5 _, h6, h7, h8⟩
theorem wf_dropH {T : mS} (h : wfT T) (a : Int) : wfT (T.1, T.2.1, dropI T.2.2 a) := by
  obtain ⟨h1, h2, h3, h4, h5, h6, h7, h8⟩ := h
  exact ⟨h1, h2, h3, h4, h5, Nat.le_trans (dropI_len _ _) h6, fun f hf => h7 f (dropI_mem hf), pw_drop h8 _⟩
theorem tw_mem {α : Type} (p : α → Bool) : ∀ (l : List α) (x : α), x ∈ l.takeWhile p → p x = true
  | [], x, h => by simp at h
  | y :: l, x, h => by
    rw [List.takeWhile_cons] at h
    split at h
    · next hp =>
      rcases List.mem_cons.mp h with h1 | h1
      · rw [h1]; exact hp
      · exact tw_mem p l x h1
    · simp at h
theorem insL_K {α : Type} (key : α → Int) (x : α) (l : List α) : insK key x l (insL key x l) (insZ key x l) := by
  refine ⟨(l.reverse.dropWhile (fun q => decide (key x < key q))).reverse, (l.reverse.takeWhile (fun q => decide (key x < key q))).reverse, ?_, rfl, by simp [insZ], ?_, ?_⟩
  · rw [← List.reverse_append, List.takeWhile_append_dropWhile, List.reverse_reverse]
  · intro q hq
    have h1 : q ∈ l.reverse.takeWhile (fun q => decide (key x < key q)) := by simpa using hq
    have := tw_mem _ _ _ h1
    simpa using this
  · intro P' q hP
    have h1 : l.reverse.dropWhile (fun q => decide (key x < key q)) = q :: P'.reverse := by
      have := congrArg List.reverse hP
      simpa using this
    have h2 := List.head?_dropWhile_not (fun q => decide (key x < key q)) l.reverse
    rw [h1] at h2
    simp at h2
    omega
theorem refF_0 {n : Int} {fo : List (Int × Int × Int)} {a b : Int} (h : refF n fo a b = 0) : (0 ≤ a ∧ a < b ∧ b ≤ n) ∧ (∀ q ∈ fo, ¬ (a < q.2.1 ∧ q.1 < b)) ∧ fo.length < 4 := by
  unfold refF at h
  by_cases h1 : ¬ (0 ≤ a ∧ a < b ∧ b ≤ n)
  · rw [if_pos h1] at h; omega
  · rw [if_neg h1] at h
    by_cases h2 : fo.any (fun q => decide (a < q.2.1 ∧ q.1 < b)) = true
    · rw [if_pos h2] at h; omega
    · rw [if_neg h2] at h
      by_cases h3 : fo.length < 4
      · refine ⟨by omega, fun q hq h4 => h2 (List.any_eq_true.mpr ⟨q, hq, by simpa using h4⟩), h3⟩
      · rw [if_neg h3] at h; omega
theorem refH_0 {n : Int} {hi : List (Int × Int)} {a b : Int} (h : refH n hi a b = 0) : ((0 ≤ a ∧ a ≤ n) ∧ 1 ≤ b ∧ b ≤ 5) ∧ (∀ q ∈ hi, q.1 ≠ a) ∧ hi.length < 4 := by
  unfold refH at h
  by_cases h1 : ¬ ((0 ≤ a ∧ a ≤ n) ∧ 1 ≤ b ∧ b ≤ 5)
  · rw [if_pos h1] at h; omega
  · rw [if_neg h1] at h
    by_cases h2 : hi.any (pH a) = true
    · rw [if_pos h2] at h; omega
    · rw [if_neg h2] at h
      by_cases h3 : hi.length < 4
      · refine ⟨by omega, fun q hq h4 => h2 (List.any_eq_true.mpr ⟨q, hq, by simpa [pH] using h4⟩), h3⟩
      · rw [if_neg h3] at h; omega
theorem wf_insF {T : mS} (h : wfT T) {a b : Int} (hr : refF T.1.length T.2.1 a b = 0) : wfT (T.1, insL (fun q => q.1) (a, b, 1) T.2.1, T.2.2) := by
  obtain ⟨r1, r2, r3⟩ := refF_0 hr
  obtain ⟨sg, fo, hi⟩ := T
  obtain ⟨h1, h2, h3, h4, h5, h6, h7, h8⟩ := h
  simp only at r1 r2 r3 h1 h2 h3 h4 h5 h6 h7 h8
  obtain ⟨P, R, e1, e2, -, e3, e4⟩ := insL_K (fun q : Int × Int × Int => q.1) (a, b, 1) fo
  simp only at e3 e4 ⊢
  rw [e2]
  subst e1
  rw [List.pairwise_append] at h5
  have hPa : ∀ q ∈ P, q.2.1 ≤ a := by
    rcases List.eq_nil_or_concat P with h9 | ⟨P', q, h9⟩
    · subst h9; simp
    · rw [List.concat_eq_append] at h9
      have h10 := e4 P' q h9
      have h11 := r2 q (by rw [h9]; simp)
      subst h9
      intro p hp
      rcases List.mem_append.mp hp with h12 | h12
      · have := (List.pairwise_append.mp h5.1).2.2 p h12 q (by simp)
        omega
      · have : p = q := by simpa using h12
        subst this
        omega
  refine ⟨h1, h2, by simp at r3 ⊢; omega, ?_, ?_, h6, h7, h8⟩
  · intro f hf
    rcases List.mem_append.mp hf with h9 | h9
    · exact h4 f (by simp [h9])
    · rcases List.mem_cons.mp h9 with h10 | h10
      · subst h10; exact ⟨r1.1, r1.2.1, r1.2.2, Or.inr rfl⟩
      · exact h4 f (by simp [h10])
  · simp only
    rw [List.pairwise_append, List.pairwise_cons]
    refine ⟨h5.1, ⟨fun q hq => ?_, h5.2.1⟩, fun u hu v hv => ?_⟩
    · have := e3 q hq
      have := r2 q (by simp [hq])
      have := h4 q (by simp [hq])
      show b ≤ q.1
      omega
    · rcases List.mem_cons.mp hv with h10 | h10
      · subst h10; exact hPa u hu
      · exact h5.2.2 u hu v h10
theorem wf_insH {T : mS} (h : wfT T) {a b : Int} (hr : refH T.1.length T.2.2 a b = 0) : wfT (T.1, T.2.1, insL (fun q => q.1) (a, b) T.2.2) := by
  obtain ⟨r1, r2, r3⟩ := refH_0 hr
  obtain ⟨sg, fo, hi⟩ := T
  obtain ⟨h1, h2, h3, h4, h5, h6, h7, h8⟩ := h
  simp only at r1 r2 r3 h1 h2 h3 h4 h5 h6 h7 h8
  obtain ⟨P, R, e1, e2, -, e3, e4⟩ := insL_K (fun q : Int × Int => q.1) (a, b) hi
  simp only at e3 e4 ⊢
  rw [e2]
  subst e1
  rw [List.pairwise_append] at h8
  have hPa : ∀ q ∈ P, q.1 < a := by
    rcases List.eq_nil_or_concat P with h9 | ⟨P', q, h9⟩
    · subst h9; simp
    · rw [List.concat_eq_append] at h9
      have h10 := e4 P' q h9
      have h11 := r2 q (by rw [h9]; simp)
      subst h9
      intro p hp
      rcases List.mem_append.mp hp with h12 | h12
      · have := (List.pairwise_append.mp h8.1).2.2 p h12 q (by simp)
        omega
      · have : p = q := by simpa using h12
        subst this
        omega
  refine ⟨h1, h2, h3, h4, h5, by simp at r3 ⊢; omega, ?_, ?_⟩
  · intro f hf
    rcases List.mem_append.mp hf with h9 | h9
    · exact h7 f (by simp [h9])
    · rcases List.mem_cons.mp h9 with h10 | h10
      · subst h10; exact ⟨r1.1.1, r1.1.2, r1.2.1, r1.2.2⟩
      · exact h7 f (by simp [h10])
  · simp only
    rw [List.pairwise_append, List.pairwise_cons]
    refine ⟨h8.1, ⟨fun q hq => e3 q hq, h8.2.1⟩, fun u hu v hv => ?_⟩
    rcases List.mem_cons.mp hv with h10 | h10
    · subst h10; exact hPa u hu
    · exact h8.2.2 u hu v h10
theorem wf_rdSigns : ∀ (R sg sg' : List Int), sg.length ≤ 40 → (∀ x ∈ sg, 0 ≤ x ∧ x ≤ 27) → rdSigns R sg = some sg' → sg'.length ≤ 40 ∧ (∀ x ∈ sg', 0 ≤ x ∧ x ≤ 27) ∧ sg.length ≤ sg'.length
  | [], sg, sg', h1, h2, h => by
    simp only [rdSigns, Option.some.injEq] at h
    subst h
    exact ⟨h1, h2, Nat.le_refl _⟩
  | c :: R, sg, sg', h1, h2, h => by
    rw [rdSigns] at h
    by_cases hc : sgnF c < 0 ∨ 40 ≤ sg.length
    · rw [if_pos hc] at h; cases h
    · rw [if_neg hc] at h
      have h3 : sgnF c ≤ 27 := by
        unfold sgnF
        split
        · omega
        · split
          · omega
          · split <;> omega
      have := wf_rdSigns R (sg ++ [sgnF c]) sg' (by simp; omega) (fun x hx => by
        rcases List.mem_append.mp hx with h9 | h9
        · exact h2 x h9
        · have : x = sgnF c := by simpa using h9
          omega) h
      simp at this
      exact ⟨this.1, fun x hx => this.2.1 _ hx, by omega⟩
theorem wf_item {b : Bool} {I : List Int} {F G : mF} (h : wfF F) (hb : b = true → F.1.2.1 = [] ∧ F.1.2.2 = []) (hG : itemF b I F = some G) : wfF G := by
  rw [wfF_iff] at h ⊢
  obtain ⟨hT, hM⟩ := h
  unfold itemF at hG
  cases I with
  | nil => cases hG
  | cons c body =>
    simp only at hG
    by_cases h1 : c = 116
    · rw [if_pos h1] at hG
      by_cases h2 : b = true
      · rw [if_pos h2] at hG
        obtain ⟨sg', h3, h4⟩ := Option.map_eq_some_iff.mp hG
        subst h4
        obtain ⟨q1, q2, q3⟩ := wf_rdSigns body _ _ hT.1 hT.2.1 h3
        obtain ⟨q4, q5⟩ := hb h2
        refine ⟨⟨q1, q2, hT.2.2.1, ?_, hT.2.2.2.2.1, hT.2.2.2.2.2.1, ?_, hT.2.2.2.2.2.2.2⟩, hM⟩
        · simp [q4]
        · simp [q5]
      · rw [if_neg h2] at hG; cases hG
    · rw [if_neg h1] at hG
      obtain ⟨ns, h3, h4⟩ := Option.bind_eq_some_iff.mp hG
      unfold numsF at h4
      split at h4
      · split at h4
        · unfold rdFold at h4
          split at h4
          · next hr =>
            cases h4
            exact ⟨wf_insF hT hr, hM⟩
          · cases h4
        · cases h4
      · split at h4
        · split at h4
          · unfold rdHint at h4
            split at h4
            · next hr =>
              cases h4
              exact ⟨wf_insH hT hr, hM⟩
            · cases h4
          · cases h4
        · split at h4
          · split at h4
            · unfold rdFlow at h4
              split at h4
              · next hr =>
                cases h4
                exact ⟨hT, hr.1, hr.2.1, hr.2.2, hM.2.2.2⟩
              · cases h4
            · cases h4
          · split at h4
            · split at h4
              · unfold rdTab at h4
                split at h4
                · next hr =>
                  cases h4
                  exact ⟨hT, hM.1, hM.2.1, hM.2.2.1, hr⟩
                · cases h4
              · cases h4
            · cases h4
theorem wf_rdT : ∀ (m : Nat) (k : Int) (R : List Int) (F : mF), 0 ≤ k → wfF F → (k = 0 → F.1.2.1 = [] ∧ F.1.2.2 = []) → wfF (rdT m k R F).2
  | 0, k, R, F, hk, h, _ => h
  | m + 1, k, R, F, hk, h, hb => by
    rw [rdT]
    split
    · exact h
    · split
      · exact h
      · next q hq =>
        split
        · exact h
        · next G hG =>
          exact wf_rdT m _ _ _ (by omega) (wf_item h (fun h1 => hb (by simpa using h1)) hG) (fun h1 => by omega)
theorem wf_00 : wfF F00 := by
  refine ⟨by decide, ?_, by decide, ?_, List.Pairwise.nil, by decide, ?_, List.Pairwise.nil, ⟨by decide, by decide⟩, ⟨by decide, by decide⟩, ⟨by decide, by decide⟩, by decide, by decide⟩ <;> simp
theorem flw_bd {mo wi nd tb : Int} (htb : 1 ≤ tb ∧ tb ≤ 8) (hnd : 0 ≤ nd ∧ nd ≤ 3) : ∀ (L : List mI) (pw fl : Bool) (rw : List (Int × Int)) (cs col : Int), (∀ x ∈ L, 0 ≤ x.2.2 ∧ x.2.2 ≤ 5) → 0 ≤ col → col + 8 * L.length ≤ 900 → bdP (flw mo wi nd tb L pw fl rw cs col).1
  | [], pw, fl, rw, cs, col, _, _, _ => by intro q hq; simp [flw] at hq
  | x :: L, pw, fl, rw, cs, col, hb, hc, hl => by
    have hx := hb x List.mem_cons_self
    have hb2 : ∀ x ∈ L, 0 ≤ x.2.2 ∧ x.2.2 ≤ 5 := fun y hy => hb y (List.mem_cons_of_mem _ hy)
    simp only [List.length_cons] at hl
    have w1 := widF_bd (c := x.1) htb hc hx
    have w2 := widF_bd (c := x.1) htb hnd.1 hx
    rw [flw]
    split
    · simp only
      intro q hq
      rcases List.mem_cons.mp hq with h1 | h1
      · subst h1; simp only; omega
      · exact flw_bd htb hnd L _ _ _ _ _ hb2 (by omega) (by omega) q h1
    · simp only
      intro q hq
      rcases List.mem_cons.mp hq with h1 | h1
      · subst h1; simp only; omega
      · split at h1
        · exact flw_bd htb hnd L _ _ _ _ _ hb2 (by omega) (by omega) q h1
        · exact flw_bd htb hnd L _ _ _ _ _ hb2 (by omega) (by omega) q h1
theorem wfF.bd {F : mF} (h : wfF F) : bdP (scr F).1 := by
  obtain ⟨h1, h2, h3, h4, h5, h6, h7, h8, h9, h10, h11, h12⟩ := h
  have : (its F.1.1 F.1.2.1 F.1.2.2).length ≤ 44 := gth_44 (fo := F.1.2.1) h1 h6 (F.1.1.length + 1)
  exact flw_bd h12 h11 _ _ _ _ _ _ (gth_bd (fun q hq => (h7 q hq).2.2) _) (by omega) (by omega)
