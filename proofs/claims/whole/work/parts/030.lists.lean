/-! ===== lists ===== -/
theorem gd_app_l {xs ys : List Int} {i : Nat} (h : i < xs.length) : (xs ++ ys).getD i 0 = xs.getD i 0 := by
  simp [List.getD, List.getElem?_append_left h]
theorem gd_mid (P : List Int) (x : Int) (R : List Int) {i : Nat} (hi : i = P.length) : (P ++ x :: R).getD i 0 = x := by
  subst hi
  simp [List.getD]
theorem gmap_at {α : Type} (f : α → Int) (P R : List α) (r : α) (j : List Int) {k : Int} (hk : k = P.length) : ((P ++ r :: R).map f ++ j).getD k.toNat 0 = f r := by
  subst hk
  simp [List.getD]
theorem set_mid (P : List Int) (x y : Int) (R : List Int) {i : Nat} (hi : i = P.length) : (P ++ x :: R).set i y = P ++ y :: R := by
  subst hi
  simp
theorem set_midj (P : List Int) (x y : Int) (R j : List Int) {i : Nat} (hi : i = P.length) : (P ++ x :: R ++ j).set i y = P ++ y :: R ++ j := by
  subst hi
  simp
theorem smap_at {α : Type} (f g : α → Int) (P R : List α) (r : α) (j : List Int) (y : Int) {k : Int} (hk : k = P.length) : ((P.map g) ++ ((r :: R).map f) ++ j).set k.toNat y = P.map g ++ [y] ++ R.map f ++ j := by
  subst hk
  simp
/-- the place of the first that is so, from k on; -1 -/
def fIdx {α : Type} (p : α → Bool) : List α → Int → Int
  | [], _ => -1
  | x :: l, k => if p x = true then k else fIdx p l (k + 1)
theorem fIdx_neg {α : Type} (p : α → Bool) : ∀ (l : List α) (k : Int), 0 ≤ k → (fIdx p l k < 0 ↔ ∀ x ∈ l, p x = false) ∧ (fIdx p l k < 0 → fIdx p l k = -1)
  | [], k, hk => by simp [fIdx]
  | x :: l, k, hk => by
    have ih := fIdx_neg p l (k + 1) (by omega)
    unfold fIdx
    by_cases h : p x = true
    · rw [if_pos h]
      refine ⟨⟨fun h1 => by omega, fun h1 => ?_⟩, fun h1 => by omega⟩
      have := h1 x List.mem_cons_self
      rw [h] at this
      cases this
    · rw [if_neg h]
      refine ⟨?_, ih.2⟩
      rw [ih.1]
      simp [h]
theorem fIdx_at {α : Type} (p : α → Bool) : ∀ (l : List α) (k : Int), 0 ≤ k → 0 ≤ fIdx p l k → ∃ (P R : List α) (x : α), l = P ++ x :: R ∧ p x = true ∧ (∀ y ∈ P, p y = false) ∧ fIdx p l k = k + P.length
  | [], k, hk, h => by simp [fIdx] at h
  | x :: l, k, hk, h => by
    unfold fIdx at h ⊢
    by_cases hx : p x = true
    · rw [if_pos hx]
      exact ⟨[], l, x, rfl, hx, by simp, by simp⟩
    · rw [if_neg hx] at h ⊢
      obtain ⟨P, R, y, h1, h2, h3, h4⟩ := fIdx_at p l (k + 1) (by omega) h
      refine ⟨x :: P, R, y, by rw [h1]; rfl, h2, ?_, by rw [h4]; simp; omega⟩
      intro z hz
      rcases List.mem_cons.mp hz with h5 | h5
      · rw [h5]; simpa using hx
      · exact h3 z h5
theorem fIdx_app {α : Type} (p : α → Bool) : ∀ (P R : List α) (k : Int), (∀ y ∈ P, p y = false) → fIdx p (P ++ R) k = fIdx p R (k + P.length)
  | [], R, k, _ => by simp
  | x :: P, R, k, h => by
    have h1 : p x = false := h x List.mem_cons_self
    rw [List.cons_append, fIdx, if_neg (by rw [h1]; decide), fIdx_app p P R (k + 1) (fun y hy => h y (List.mem_cons_of_mem _ hy))]
    congr 1
    simp; omega
