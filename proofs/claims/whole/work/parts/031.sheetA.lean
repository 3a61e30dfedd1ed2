/-! ===== DisplayMap.Sheet ===== -/
/-- a sheet: signs, folds (from, to, shut), hints (place, wide), mode, width, indent, tabs -/
def isSh (w : mW) (h : Nat) (sg : List Int) (fo : List (Int × Int × Int)) (hi : List (Int × Int)) (mo wi nd tb : Int) : Prop :=
  ∃ j1 j2 j3 j4 j5 j6 : List Int, rS w h sg.length fo.length hi.length mo wi nd tb (sg ++ j1) (fo.map (fun f => f.1) ++ j2) (fo.map (fun f => f.2.1) ++ j3) (fo.map (fun f => f.2.2) ++ j4) (hi.map (fun q => q.1) ++ j5) (hi.map (fun q => q.2) ++ j6)
theorem isSh.len {w : mW} {h : Nat} {sg : List Int} {fo : List (Int × Int × Int)} {hi : List (Int × Int)} {mo wi nd tb : Int} (hS : isSh w h sg fo hi mo wi nd tb) : sg.length ≤ 40 ∧ fo.length ≤ 4 ∧ hi.length ≤ 4 := by
  obtain ⟨j1, j2, j3, j4, j5, j6, hr⟩ := hS
  have l1 := hr.l1
  have l2 := hr.l2
  have l5 := hr.l5
  simp only [List.length_append, List.length_map] at l1 l2 l5
  omega
theorem isSh.fr {w w' : mW} {h lo up : Nat} {sg : List Int} {fo : List (Int × Int × Int)} {hi : List (Int × Int)} {mo wi nd tb : Int} (hS : isSh w h sg fo hi mo wi nd tb) (hf : frR w w' lo up) (hd : h + 6 < lo ∨ up < h) : isSh w' h sg fo hi mo wi nd tb := by
  obtain ⟨j1, j2, j3, j4, j5, j6, hr⟩ := hS
  exact ⟨j1, j2, j3, j4, j5, j6, hr.fr hf hd⟩
/-- what holds of every sheet -/
def wfS (sg : List Int) (fo : List (Int × Int × Int)) (hi : List (Int × Int)) (mo wi nd tb : Int) : Prop :=
  sg.length ≤ 40 ∧ (∀ x ∈ sg, 0 ≤ x ∧ x ≤ 27) ∧ fo.length ≤ 4 ∧ (∀ f ∈ fo, 0 ≤ f.1 ∧ f.1 < f.2.1 ∧ f.2.1 ≤ sg.length ∧ (f.2.2 = 0 ∨ f.2.2 = 1)) ∧ fo.Pairwise (fun a b => a.2.1 ≤ b.1) ∧ hi.length ≤ 4 ∧ (∀ q ∈ hi, 0 ≤ q.1 ∧ q.1 ≤ sg.length ∧ 1 ≤ q.2 ∧ q.2 ≤ 5) ∧ hi.Pairwise (fun a b => a.1 < b.1) ∧ (0 ≤ mo ∧ mo ≤ 2) ∧ (4 ≤ wi ∧ wi ≤ 20) ∧ (0 ≤ nd ∧ nd ≤ 3) ∧ 1 ≤ tb ∧ tb ≤ 8
/-- the shut fold that has a place -/
def pS (a : Int) (q : Int × Int × Int) : Bool := decide (q.2.2 ≠ 0 ∧ q.1 ≤ a ∧ a < q.2.1)
def pH (a : Int) (q : Int × Int) : Bool := decide (q.1 = a)
/-- the place whose sign stands for a place -/
def hold (fo : List (Int × Int × Int)) (a : Int) : Int := match fo.find? (pS a) with
  | none => a
  | some q => q.1
theorem fIdx_find {α : Type} (p : α → Bool) (l : List α) (f : α → Int) (j : List Int) (h : 0 ≤ fIdx p l 0) : ∃ x, l.find? p = some x ∧ fIdx p l 0 < l.length ∧ (l.map f ++ j).getD (fIdx p l 0).toNat 0 = f x := by
  obtain ⟨P, R, x, rfl, h2, h3, h4⟩ := fIdx_at p l 0 (by omega) h
  refine ⟨x, ?_, ?_, ?_⟩
  · rw [List.find?_append, List.find?_eq_none.mpr (fun y hy => by rw [h3 y hy]; decide)]
    simp [h2]
  · rw [h4]; simp; omega
  · exact gmap_at f P R x j (by rw [h4]; omega)
theorem fIdx_none {α : Type} (p : α → Bool) (l : List α) (h : fIdx p l 0 < 0) : l.find? p = none := by
  rw [List.find?_eq_none]
  intro x hx
  rw [((fIdx_neg p l 0 (by omega)).1.mp h) x hx]
  decide

set_option maxHeartbeats 1000000 in
set_option maxRecDepth 100000 in
theorem c_X2_hasPlace (l : Launch) {w : mW} {h : Nat} {n fc hc mo wi nd tb : Int} {A1 A2 A3 A4 A5 A6 : List Int} (hr : rS w h n fc hc mo wi nd tb A1 A2 A3 A4 A5 A6) (a : Int) : Cp l yX2_hasPlace cX2_hasPlace 2 (some .boolean) 0 [vr h, vi a] w (fun z => (z = 0 ∨ z = 1) ∧ (z = 1 ↔ 0 ≤ a ∧ a ≤ n)) := by
  refine Cp.of (ml := [some (vr h), some (vi a)]) kyX2_hasPlace rfl (Nat.le_of_ble_eq_true rfl) rfl ?_
  intro t n C hQ
  refine x_iload_n C dX2_hasPlace_0 rfl ?_
  refine x_if_lt (tgt := 16) C dX2_hasPlace_1 (by decide) (fun c1 => ?_) (fun c1 => ?_)
  · refine x_iconst C dX2_hasPlace_16 ⟨by decide, by decide⟩ ?_
    refine x_zret C hQ dX2_hasPlace_17 (by first | exact Or.inl rfl | exact Or.inr rfl | omega) (Nat.le_refl _) (Nat.le_refl _) ?_
    exact ⟨rfl, rfl, _, rfl, by omega⟩
  · refine x_iload_n C dX2_hasPlace_4 rfl ?_
    refine x_aload_n C dX2_hasPlace_5 rfl ?_
    refine x_get C dX2_hasPlace_6 kfX2_31 hr.o rfl ?_
    refine x_icmp_gt (tgt := 16) C dX2_hasPlace_9 (by decide) (fun c9 => ?_) (fun c9 => ?_)
    · refine x_iconst C dX2_hasPlace_16 ⟨by decide, by decide⟩ ?_
      refine x_zret C hQ dX2_hasPlace_17 (by first | exact Or.inl rfl | exact Or.inr rfl | omega) (Nat.le_refl _) (Nat.le_refl _) ?_
      exact ⟨rfl, rfl, _, rfl, by omega⟩
    · refine x_iconst C dX2_hasPlace_12 ⟨by decide, by decide⟩ ?_
      refine x_goto (tgt := 17) C dX2_hasPlace_13 (by decide) ?_
      refine x_zret C hQ dX2_hasPlace_17 (by first | exact Or.inl rfl | exact Or.inr rfl | omega) (Nat.le_refl _) (Nat.le_refl _) ?_
      exact ⟨rfl, rfl, _, rfl, by omega⟩

set_option maxHeartbeats 1000000 in
set_option maxRecDepth 100000 in
theorem c_X2_hasSign (l : Launch) {w : mW} {h : Nat} {n fc hc mo wi nd tb : Int} {A1 A2 A3 A4 A5 A6 : List Int} (hr : rS w h n fc hc mo wi nd tb A1 A2 A3 A4 A5 A6) (a : Int) : Cp l yX2_hasSign cX2_hasSign 2 (some .boolean) 0 [vr h, vi a] w (fun z => (z = 0 ∨ z = 1) ∧ (z = 1 ↔ 0 ≤ a ∧ a < n)) := by
  refine Cp.of (ml := [some (vr h), some (vi a)]) kyX2_hasSign rfl (Nat.le_of_ble_eq_true rfl) rfl ?_
  intro t n C hQ
  refine x_iload_n C dX2_hasSign_0 rfl ?_
  refine x_if_lt (tgt := 16) C dX2_hasSign_1 (by decide) (fun c1 => ?_) (fun c1 => ?_)
  · refine x_iconst C dX2_hasSign_16 ⟨by decide, by decide⟩ ?_
    refine x_zret C hQ dX2_hasSign_17 (by first | exact Or.inl rfl | exact Or.inr rfl | omega) (Nat.le_refl _) (Nat.le_refl _) ?_
    exact ⟨rfl, rfl, _, rfl, by omega⟩
  · refine x_iload_n C dX2_hasSign_4 rfl ?_
    refine x_aload_n C dX2_hasSign_5 rfl ?_
    refine x_get C dX2_hasSign_6 kfX2_31 hr.o rfl ?_
    refine x_icmp_ge (tgt := 16) C dX2_hasSign_9 (by decide) (fun c9 => ?_) (fun c9 => ?_)
    · refine x_iconst C dX2_hasSign_16 ⟨by decide, by decide⟩ ?_
      refine x_zret C hQ dX2_hasSign_17 (by first | exact Or.inl rfl | exact Or.inr rfl | omega) (Nat.le_refl _) (Nat.le_refl _) ?_
      exact ⟨rfl, rfl, _, rfl, by omega⟩
    · refine x_iconst C dX2_hasSign_12 ⟨by decide, by decide⟩ ?_
      refine x_goto (tgt := 17) C dX2_hasSign_13 (by decide) ?_
      refine x_zret C hQ dX2_hasSign_17 (by first | exact Or.inl rfl | exact Or.inr rfl | omega) (Nat.le_refl _) (Nat.le_refl _) ?_
      exact ⟨rfl, rfl, _, rfl, by omega⟩

set_option maxHeartbeats 1000000 in
set_option maxRecDepth 100000 in
theorem c_X2_hasFold (l : Launch) {w : mW} {h : Nat} {n fc hc mo wi nd tb : Int} {A1 A2 A3 A4 A5 A6 : List Int} (hr : rS w h n fc hc mo wi nd tb A1 A2 A3 A4 A5 A6) (a : Int) : Cp l yX2_hasFold cX2_hasFold 2 (some .boolean) 0 [vr h, vi a] w (fun z => (z = 0 ∨ z = 1) ∧ (z = 1 ↔ 0 ≤ a ∧ a < fc)) := by
  refine Cp.of (ml := [some (vr h), some (vi a)]) kyX2_hasFold rfl (Nat.le_of_ble_eq_true rfl) rfl ?_
  intro t n C hQ
  refine x_iload_n C dX2_hasFold_0 rfl ?_
  refine x_if_lt (tgt := 16) C dX2_hasFold_1 (by decide) (fun c1 => ?_) (fun c1 => ?_)
  · refine x_iconst C dX2_hasFold_16 ⟨by decide, by decide⟩ ?_
    refine x_zret C hQ dX2_hasFold_17 (by first | exact Or.inl rfl | exact Or.inr rfl | omega) (Nat.le_refl _) (Nat.le_refl _) ?_
    exact ⟨rfl, rfl, _, rfl, by omega⟩
  · refine x_iload_n C dX2_hasFold_4 rfl ?_
    refine x_aload_n C dX2_hasFold_5 rfl ?_
    refine x_get C dX2_hasFold_6 kfX2_35 hr.o rfl ?_
    refine x_icmp_ge (tgt := 16) C dX2_hasFold_9 (by decide) (fun c9 => ?_) (fun c9 => ?_)
    · refine x_iconst C dX2_hasFold_16 ⟨by decide, by decide⟩ ?_
      refine x_zret C hQ dX2_hasFold_17 (by first | exact Or.inl rfl | exact Or.inr rfl | omega) (Nat.le_refl _) (Nat.le_refl _) ?_
      exact ⟨rfl, rfl, _, rfl, by omega⟩
    · refine x_iconst C dX2_hasFold_12 ⟨by decide, by decide⟩ ?_
      refine x_goto (tgt := 17) C dX2_hasFold_13 (by decide) ?_
      refine x_zret C hQ dX2_hasFold_17 (by first | exact Or.inl rfl | exact Or.inr rfl | omega) (Nat.le_refl _) (Nat.le_refl _) ?_
      exact ⟨rfl, rfl, _, rfl, by omega⟩

set_option maxHeartbeats 1000000 in
set_option maxRecDepth 100000 in
theorem c_X2_hasHint (l : Launch) {w : mW} {h : Nat} {n fc hc mo wi nd tb : Int} {A1 A2 A3 A4 A5 A6 : List Int} (hr : rS w h n fc hc mo wi nd tb A1 A2 A3 A4 A5 A6) (a : Int) : Cp l yX2_hasHint cX2_hasHint 2 (some .boolean) 0 [vr h, vi a] w (fun z => (z = 0 ∨ z = 1) ∧ (z = 1 ↔ 0 ≤ a ∧ a < hc)) := by
  refine Cp.of (ml := [some (vr h), some (vi a)]) kyX2_hasHint rfl (Nat.le_of_ble_eq_true rfl) rfl ?_
  intro t n C hQ
  refine x_iload_n C dX2_hasHint_0 rfl ?_
  refine x_if_lt (tgt := 16) C dX2_hasHint_1 (by decide) (fun c1 => ?_) (fun c1 => ?_)
  · refine x_iconst C dX2_hasHint_16 ⟨by decide, by decide⟩ ?_
    refine x_zret C hQ dX2_hasHint_17 (by first | exact Or.inl rfl | exact Or.inr rfl | omega) (Nat.le_refl _) (Nat.le_refl _) ?_
    exact ⟨rfl, rfl, _, rfl, by omega⟩
  · refine x_iload_n C dX2_hasHint_4 rfl ?_
    refine x_aload_n C dX2_hasHint_5 rfl ?_
    refine x_get C dX2_hasHint_6 kfX2_38 hr.o rfl ?_
    refine x_icmp_ge (tgt := 16) C dX2_hasHint_9 (by decide) (fun c9 => ?_) (fun c9 => ?_)
    · refine x_iconst C dX2_hasHint_16 ⟨by decide, by decide⟩ ?_
      refine x_zret C hQ dX2_hasHint_17 (by first | exact Or.inl rfl | exact Or.inr rfl | omega) (Nat.le_refl _) (Nat.le_refl _) ?_
      exact ⟨rfl, rfl, _, rfl, by omega⟩
    · refine x_iconst C dX2_hasHint_12 ⟨by decide, by decide⟩ ?_
      refine x_goto (tgt := 17) C dX2_hasHint_13 (by decide) ?_
      refine x_zret C hQ dX2_hasHint_17 (by first | exact Or.inl rfl | exact Or.inr rfl | omega) (Nat.le_refl _) (Nat.le_refl _) ?_
      exact ⟨rfl, rfl, _, rfl, by omega⟩

set_option maxHeartbeats 1000000 in
set_option maxRecDepth 100000 in
theorem c_X2_hasRoom (l : Launch) {w : mW} {h : Nat} {n fc hc mo wi nd tb : Int} {A1 A2 A3 A4 A5 A6 : List Int} (hr : rS w h n fc hc mo wi nd tb A1 A2 A3 A4 A5 A6) : Cp l yX2_hasRoom cX2_hasRoom 1 (some .boolean) 0 [vr h] w (fun z => (z = 0 ∨ z = 1) ∧ (z = 1 ↔ n < 40)) := by
  refine Cp.of (ml := [some (vr h)]) kyX2_hasRoom rfl (Nat.le_of_ble_eq_true rfl) rfl ?_
  intro t n C hQ
  refine x_aload_n C dX2_hasRoom_0 rfl ?_
  refine x_get C dX2_hasRoom_1 kfX2_31 hr.o rfl ?_
  refine x_bipush C dX2_hasRoom_4 ⟨by decide, by decide⟩ ?_
  refine x_icmp_ge (tgt := 13) C dX2_hasRoom_6 (by decide) (fun c6 => ?_) (fun c6 => ?_)
  · refine x_iconst C dX2_hasRoom_13 ⟨by decide, by decide⟩ ?_
    refine x_zret C hQ dX2_hasRoom_14 (by first | exact Or.inl rfl | exact Or.inr rfl | omega) (Nat.le_refl _) (Nat.le_refl _) ?_
    exact ⟨rfl, rfl, _, rfl, by omega⟩
  · refine x_iconst C dX2_hasRoom_9 ⟨by decide, by decide⟩ ?_
    refine x_goto (tgt := 14) C dX2_hasRoom_10 (by decide) ?_
    refine x_zret C hQ dX2_hasRoom_14 (by first | exact Or.inl rfl | exact Or.inr rfl | omega) (Nat.le_refl _) (Nat.le_refl _) ?_
    exact ⟨rfl, rfl, _, rfl, by omega⟩

set_option maxHeartbeats 1000000 in
set_option maxRecDepth 100000 in
theorem c_X2_isFlow (l : Launch) {w : mW} (a b c : Int) : Cp l yX2_isFlow cX2_isFlow 3 (some .boolean) 0 [vi a, vi b, vi c] w (fun z => (z = 0 ∨ z = 1) ∧ (z = 1 ↔ (0 ≤ a ∧ a ≤ 2) ∧ (4 ≤ b ∧ b ≤ 20) ∧ (0 ≤ c ∧ c ≤ 3))) := by
  refine Cp.of (ml := [some (vi a), some (vi b), some (vi c)]) kyX2_isFlow rfl (Nat.le_of_ble_eq_true rfl) rfl ?_
  intro t n C hQ
  refine x_iload_n C dX2_isFlow_0 rfl ?_
  refine x_if_lt (tgt := 33) C dX2_isFlow_1 (by decide) (fun c1 => ?_) (fun c1 => ?_)
  · refine x_iconst C dX2_isFlow_33 ⟨by decide, by decide⟩ ?_
    refine x_zret C hQ dX2_isFlow_34 (by first | exact Or.inl rfl | exact Or.inr rfl | omega) (Nat.le_refl _) (Nat.le_refl _) ?_
    exact ⟨rfl, rfl, _, rfl, by omega⟩
  · refine x_iload_n C dX2_isFlow_4 rfl ?_
    refine x_iconst C dX2_isFlow_5 ⟨by decide, by decide⟩ ?_
    refine x_icmp_gt (tgt := 33) C dX2_isFlow_6 (by decide) (fun c6 => ?_) (fun c6 => ?_)
    · refine x_iconst C dX2_isFlow_33 ⟨by decide, by decide⟩ ?_
      refine x_zret C hQ dX2_isFlow_34 (by first | exact Or.inl rfl | exact Or.inr rfl | omega) (Nat.le_refl _) (Nat.le_refl _) ?_
      exact ⟨rfl, rfl, _, rfl, by omega⟩
    · refine x_iload_n C dX2_isFlow_9 rfl ?_
      refine x_iconst C dX2_isFlow_10 ⟨by decide, by decide⟩ ?_
      refine x_icmp_lt (tgt := 33) C dX2_isFlow_11 (by decide) (fun c11 => ?_) (fun c11 => ?_)
      · refine x_iconst C dX2_isFlow_33 ⟨by decide, by decide⟩ ?_
        refine x_zret C hQ dX2_isFlow_34 (by first | exact Or.inl rfl | exact Or.inr rfl | omega) (Nat.le_refl _) (Nat.le_refl _) ?_
        exact ⟨rfl, rfl, _, rfl, by omega⟩
      · refine x_iload_n C dX2_isFlow_14 rfl ?_
        refine x_bipush C dX2_isFlow_15 ⟨by decide, by decide⟩ ?_
        refine x_icmp_gt (tgt := 33) C dX2_isFlow_17 (by decide) (fun c17 => ?_) (fun c17 => ?_)
        · refine x_iconst C dX2_isFlow_33 ⟨by decide, by decide⟩ ?_
          refine x_zret C hQ dX2_isFlow_34 (by first | exact Or.inl rfl | exact Or.inr rfl | omega) (Nat.le_refl _) (Nat.le_refl _) ?_
          exact ⟨rfl, rfl, _, rfl, by omega⟩
        · refine x_iload_n C dX2_isFlow_20 rfl ?_
          refine x_if_lt (tgt := 33) C dX2_isFlow_21 (by decide) (fun c21 => ?_) (fun c21 => ?_)
          · refine x_iconst C dX2_isFlow_33 ⟨by decide, by decide⟩ ?_
            refine x_zret C hQ dX2_isFlow_34 (by first | exact Or.inl rfl | exact Or.inr rfl | omega) (Nat.le_refl _) (Nat.le_refl _) ?_
            exact ⟨rfl, rfl, _, rfl, by omega⟩
          · refine x_iload_n C dX2_isFlow_24 rfl ?_
            refine x_iconst C dX2_isFlow_25 ⟨by decide, by decide⟩ ?_
            refine x_icmp_gt (tgt := 33) C dX2_isFlow_26 (by decide) (fun c26 => ?_) (fun c26 => ?_)
            · refine x_iconst C dX2_isFlow_33 ⟨by decide, by decide⟩ ?_
              refine x_zret C hQ dX2_isFlow_34 (by first | exact Or.inl rfl | exact Or.inr rfl | omega) (Nat.le_refl _) (Nat.le_refl _) ?_
              exact ⟨rfl, rfl, _, rfl, by omega⟩
            · refine x_iconst C dX2_isFlow_29 ⟨by decide, by decide⟩ ?_
              refine x_goto (tgt := 34) C dX2_isFlow_30 (by decide) ?_
              refine x_zret C hQ dX2_isFlow_34 (by first | exact Or.inl rfl | exact Or.inr rfl | omega) (Nat.le_refl _) (Nat.le_refl _) ?_
              exact ⟨rfl, rfl, _, rfl, by omega⟩

set_option maxHeartbeats 1000000 in
set_option maxRecDepth 100000 in
theorem c_X2_isTabStep (l : Launch) {w : mW} (a : Int) : Cp l yX2_isTabStep cX2_isTabStep 1 (some .boolean) 0 [vi a] w (fun z => (z = 0 ∨ z = 1) ∧ (z = 1 ↔ 1 ≤ a ∧ a ≤ 8)) := by
  refine Cp.of (ml := [some (vi a)]) kyX2_isTabStep rfl (Nat.le_of_ble_eq_true rfl) rfl ?_
  intro t n C hQ
  refine x_iload_n C dX2_isTabStep_0 rfl ?_
  refine x_iconst C dX2_isTabStep_1 ⟨by decide, by decide⟩ ?_
  refine x_icmp_lt (tgt := 15) C dX2_isTabStep_2 (by decide) (fun c2 => ?_) (fun c2 => ?_)
  · refine x_iconst C dX2_isTabStep_15 ⟨by decide, by decide⟩ ?_
    refine x_zret C hQ dX2_isTabStep_16 (by first | exact Or.inl rfl | exact Or.inr rfl | omega) (Nat.le_refl _) (Nat.le_refl _) ?_
    exact ⟨rfl, rfl, _, rfl, by omega⟩
  · refine x_iload_n C dX2_isTabStep_5 rfl ?_
    refine x_bipush C dX2_isTabStep_6 ⟨by decide, by decide⟩ ?_
    refine x_icmp_gt (tgt := 15) C dX2_isTabStep_8 (by decide) (fun c8 => ?_) (fun c8 => ?_)
    · refine x_iconst C dX2_isTabStep_15 ⟨by decide, by decide⟩ ?_
      refine x_zret C hQ dX2_isTabStep_16 (by first | exact Or.inl rfl | exact Or.inr rfl | omega) (Nat.le_refl _) (Nat.le_refl _) ?_
      exact ⟨rfl, rfl, _, rfl, by omega⟩
    · refine x_iconst C dX2_isTabStep_11 ⟨by decide, by decide⟩ ?_
      refine x_goto (tgt := 16) C dX2_isTabStep_12 (by decide) ?_
      refine x_zret C hQ dX2_isTabStep_16 (by first | exact Or.inl rfl | exact Or.inr rfl | omega) (Nat.le_refl _) (Nat.le_refl _) ?_
      exact ⟨rfl, rfl, _, rfl, by omega⟩

set_option maxHeartbeats 1000000 in
set_option maxRecDepth 100000 in
theorem c_X2_reduced (l : Launch) {w : mW} (a b : Int) (ha : 0 ≤ a) : Cp l yX2_reduced cX2_reduced 2 (some .int) 0 [vi a, vi b] w (fun z => (0 < b → z = a % b) ∧ (b ≤ 0 → z = -1)) := by
  refine Cp.of (ml := [some (vi a), some (vi b)]) kyX2_reduced rfl (Nat.le_of_ble_eq_true rfl) rfl ?_
  intro t n C hQ
  refine x_iload_n C dX2_reduced_0 rfl ?_
  refine x_if_le (tgt := 10) C dX2_reduced_1 (by decide) (fun c1 => ?_) (fun c1 => ?_)
  · refine x_iconst C dX2_reduced_10 ⟨by decide, by decide⟩ ?_
    refine x_iret C hQ dX2_reduced_11 (Nat.le_refl _) (Nat.le_refl _) ?_
    exact ⟨rfl, rfl, _, rfl, by constructor <;> intro hb <;> first | rfl | omega⟩
  · refine x_iload_n C dX2_reduced_4 rfl ?_
    refine x_iload_n C dX2_reduced_5 rfl ?_
    refine x_irem C dX2_reduced_6 (by omega) (by omega) ?_
    refine x_goto (tgt := 11) C dX2_reduced_7 (by decide) ?_
    refine x_iret C hQ dX2_reduced_11 (Nat.le_refl _) (Nat.le_refl _) ?_
    exact ⟨rfl, rfl, _, rfl, by constructor <;> intro hb <;> first | rfl | omega⟩

set_option maxHeartbeats 1000000 in
set_option maxRecDepth 100000 in
theorem c_X2_setFlow (l : Launch) {w : mW} {h : Nat} {n fc hc mo wi nd tb : Int} {A1 A2 A3 A4 A5 A6 : List Int} (hr : rS w h n fc hc mo wi nd tb A1 A2 A3 A4 A5 A6) (a b c : Int) : Cv l yX2_setFlow cX2_setFlow 4 0 [vr h, vi a, vi b, vi c] w (fun w' => rS w' h n fc hc a b c tb A1 A2 A3 A4 A5 A6 ∧ frR w w' h (h + 6)) := by
  refine Cv.of (ml := [some (vr h), some (vi a), some (vi b), some (vi c)]) kyX2_setFlow rfl (Nat.le_of_ble_eq_true rfl) rfl ?_
  intro t n C hQ
  have hf : frR w w h (h + 6) := frR.rf
  refine x_aload_n C dX2_setFlow_0 rfl ?_
  refine x_iload_n C dX2_setFlow_1 rfl ?_
  refine x_put C dX2_setFlow_2 kfX2_54 kw_2_9 rfl rfl hr.o (Nat.le_of_ble_eq_true rfl) ?_
  refine ab_S_mo hr hf (fun w hr hf => ?_)
  refine x_aload_n C dX2_setFlow_5 rfl ?_
  refine x_iload_n C dX2_setFlow_6 rfl ?_
  refine x_put C dX2_setFlow_7 kfX2_57 kw_2_10 rfl rfl hr.o (Nat.le_of_ble_eq_true rfl) ?_
  refine ab_S_wi hr hf (fun w hr hf => ?_)
  refine x_aload_n C dX2_setFlow_10 rfl ?_
  refine x_iload_n C dX2_setFlow_11 rfl ?_
  refine x_put C dX2_setFlow_12 kfX2_60 kw_2_11 rfl rfl hr.o (Nat.le_of_ble_eq_true rfl) ?_
  refine ab_S_nd hr hf (fun w hr hf => ?_)
  refine x_vret C hQ dX2_setFlow_15 (Nat.le_refl _) (Nat.le_refl _) ?_
  exact ⟨rfl, rfl, hr, hf⟩

set_option maxHeartbeats 1000000 in
set_option maxRecDepth 100000 in
theorem c_X2_signAt (l : Launch) {w : mW} {h : Nat} {sg : List Int} {fo : List (Int × Int × Int)} {hi : List (Int × Int)} {mo wi nd tb : Int} (hS : isSh w h sg fo hi mo wi nd tb) (a : Int) : Cp l yX2_signAt cX2_signAt 2 (some .int) 1 [vr h, vi a] w (fun z => (0 ≤ a ∧ a < sg.length → z = sg.getD a.toNat 0) ∧ (¬ (0 ≤ a ∧ a < sg.length) → z = -4)) := by
  refine Cp.of (ml := [some (vr h), some (vi a)]) kyX2_signAt rfl (Nat.le_of_ble_eq_true rfl) rfl ?_
  intro t n C hQ
  obtain ⟨j1, j2, j3, j4, j5, j6, hr⟩ := hS
  have l1 := hr.l1
  have l2 := hr.l2
  have l3 := hr.l3
  have l4 := hr.l4
  have l5 := hr.l5
  have l6 := hr.l6
  simp only [List.length_append, List.length_map] at l1 l2 l3 l4 l5 l6
  refine x_aload_n C dX2_signAt_0 rfl ?_
  refine x_iload_n C dX2_signAt_1 rfl ?_
  refine y_p1 C dX2_signAt_2 kyX2_hasSign knX2_hasSign kmX2_63 hr.o (c_X2_hasSign l hr a) (by decide) (Nat.zero_le _) (Nat.zero_le _) (Nat.le_of_ble_eq_true rfl) (fun z2 q2 => ?_)
  refine x_if_eq (tgt := 17) C dX2_signAt_5 (by decide) (fun c5 => ?_) (fun c5 => ?_)
  · refine x_bipush C dX2_signAt_17 ⟨by decide, by decide⟩ ?_
    refine x_iret C hQ dX2_signAt_19 (Nat.le_refl _) (Nat.le_refl _) ?_
    exact ⟨rfl, rfl, _, rfl, by constructor <;> intro hb <;> first | rfl | omega | exact gd_app_l (by omega)⟩
  · refine x_aload_n C dX2_signAt_8 rfl ?_
    refine x_get C dX2_signAt_9 kfX2_9 hr.o rfl ?_
    refine x_iload_n C dX2_signAt_12 rfl ?_
    refine x_iald C dX2_signAt_13 hr.a1 (by omega) (by rw [hr.l1]; omega) ?_
    refine x_goto (tgt := 19) C dX2_signAt_14 (by decide) ?_
    refine x_iret C hQ dX2_signAt_19 (Nat.le_refl _) (Nat.le_refl _) ?_
    exact ⟨rfl, rfl, _, rfl, by constructor <;> intro hb <;> first | rfl | omega | exact gd_app_l (by omega)⟩

set_option maxHeartbeats 1000000 in
set_option maxRecDepth 100000 in
theorem lp_X2_hintAt_2 {t : TX} {l : Launch} {n0 : Nat} {w : mW} {h : Nat} {sg : List Int} {fo : List (Int × Int × Int)} {hi : List (Int × Int)} {mo wi nd tb : Int} (hS : isSh w h sg fo hi mo wi nd tb) (a : Int) (C : Cb t l cX2_hintAt RX2 3 (some .int) 0 0 0) {Q : Int → Prop} (hQ : RQ t 0 0 (fun r n' w' => n' = n0 ∧ w' = w ∧ ∃ z : Int, r = some (vi z) ∧ Q z)) : ∀ (R P : List (Int × Int)) (k : Int), hi = P ++ R → k = P.length → Q (fIdx (pH a) R k) → J t 0 0 2 [some (vr h), some (vi a), some (vi k)] [] n0 w := by
  obtain ⟨j1, j2, j3, j4, j5, j6, hr⟩ := hS
  have l1 := hr.l1
  have l2 := hr.l2
  have l3 := hr.l3
  have l4 := hr.l4
  have l5 := hr.l5
  have l6 := hr.l6
  simp only [List.length_append, List.length_map] at l1 l2 l3 l4 l5 l6
  intro R
  induction R with
  | nil =>
    intro P k hP hk hq
    have hl : hi.length = P.length := by rw [hP]; simp
    refine x_iload_n C dX2_hintAt_2 rfl ?_
    refine x_aload_n C dX2_hintAt_3 rfl ?_
    refine x_get C dX2_hintAt_4 kfX2_38 hr.o rfl ?_
    refine x_icmp_ge (tgt := 28) C dX2_hintAt_7 (by decide) (fun c7 => ?_) (fun c7 => ?_)
    · refine x_iconst C dX2_hintAt_28 ⟨by decide, by decide⟩ ?_
      refine x_iret C hQ dX2_hintAt_29 (Nat.le_refl _) (Nat.le_refl _) ?_
      exact ⟨rfl, rfl, _, rfl, hq⟩
    · omega
  | cons r R ih =>
    intro P k hP hk hq
    have hl : hi.length = P.length + (R.length + 1) := by rw [hP]; simp
    have e5 : (hi.map (fun f => f.1) ++ j5).getD k.toNat 0 = r.1 := by rw [hP]; exact gmap_at _ P R r j5 hk
    unfold fIdx at hq
    refine x_iload_n C dX2_hintAt_2 rfl ?_
    refine x_aload_n C dX2_hintAt_3 rfl ?_
    refine x_get C dX2_hintAt_4 kfX2_38 hr.o rfl ?_
    refine x_icmp_ge (tgt := 28) C dX2_hintAt_7 (by decide) (fun c7 => ?_) (fun c7 => ?_)
    · omega
    · refine x_aload_n C dX2_hintAt_10 rfl ?_
      refine x_get C dX2_hintAt_11 kfX2_25 hr.o rfl ?_
      refine x_iload_n C dX2_hintAt_14 rfl ?_
      refine x_iald C dX2_hintAt_15 hr.a5 (by omega) (by rw [hr.l5]; omega) ?_
      rw [e5]
      refine x_iload_n C dX2_hintAt_16 rfl ?_
      refine x_icmp_ne (tgt := 22) C dX2_hintAt_17 (by decide) (fun c17 => ?_) (fun c17 => ?_)
      · refine s_inc3_2 C dX2_hintAt_22 rfl (by first | (unfold iR; omega) | exact ⟨by omega, by omega⟩) ?_
        refine x_goto (tgt := 2) C dX2_hintAt_25 (by decide) ?_
        exact ih (P ++ [r]) (k + 1) (by rw [hP]; simp) (by simp; omega) (by rw [if_neg (by simp [pS, pH]; omega)] at hq; exact hq)
      · refine x_iload_n C dX2_hintAt_20 rfl ?_
        refine x_iret C hQ dX2_hintAt_21 (Nat.le_refl _) (Nat.le_refl _) ?_
        exact ⟨rfl, rfl, _, rfl, by rw [if_pos (by simp [pS, pH]; omega)] at hq; exact hq⟩
set_option maxHeartbeats 1000000 in
set_option maxRecDepth 100000 in
theorem c_X2_hintAt (l : Launch) {w : mW} {h : Nat} {sg : List Int} {fo : List (Int × Int × Int)} {hi : List (Int × Int)} {mo wi nd tb : Int} (hS : isSh w h sg fo hi mo wi nd tb) (a : Int) : Cp l yX2_hintAt cX2_hintAt 3 (some .int) 0 [vr h, vi a] w (fun z => z = fIdx (pH a) hi 0) := by
  refine Cp.of (ml := [some (vr h), some (vi a), none]) kyX2_hintAt rfl (Nat.le_of_ble_eq_true rfl) rfl ?_
  intro t n C hQ
  refine x_iconst C dX2_hintAt_0 ⟨by decide, by decide⟩ ?_
  refine s_ist3_2 C dX2_hintAt_1 rfl ?_
  exact lp_X2_hintAt_2 hS a C hQ hi [] 0 rfl rfl rfl

set_option maxHeartbeats 1000000 in
set_option maxRecDepth 100000 in
theorem lp_X2_shutFoldOf_2 {t : TX} {l : Launch} {n0 : Nat} {w : mW} {h : Nat} {sg : List Int} {fo : List (Int × Int × Int)} {hi : List (Int × Int)} {mo wi nd tb : Int} (hS : isSh w h sg fo hi mo wi nd tb) (a : Int) (C : Cb t l cX2_shutFoldOf RX2 3 (some .int) 0 0 0) {Q : Int → Prop} (hQ : RQ t 0 0 (fun r n' w' => n' = n0 ∧ w' = w ∧ ∃ z : Int, r = some (vi z) ∧ Q z)) : ∀ (R P : List (Int × Int × Int)) (k : Int), fo = P ++ R → k = P.length → Q (fIdx (pS a) R k) → J t 0 0 2 [some (vr h), some (vi a), some (vi k)] [] n0 w := by
  obtain ⟨j1, j2, j3, j4, j5, j6, hr⟩ := hS
  have l1 := hr.l1
  have l2 := hr.l2
  have l3 := hr.l3
  have l4 := hr.l4
  have l5 := hr.l5
  have l6 := hr.l6
  simp only [List.length_append, List.length_map] at l1 l2 l3 l4 l5 l6
  intro R
  induction R with
  | nil =>
    intro P k hP hk hq
    have hl : fo.length = P.length := by rw [hP]; simp
    refine x_iload_n C dX2_shutFoldOf_2 rfl ?_
    refine x_aload_n C dX2_shutFoldOf_3 rfl ?_
    refine x_get C dX2_shutFoldOf_4 kfX2_35 hr.o rfl ?_
    refine x_icmp_ge (tgt := 47) C dX2_shutFoldOf_7 (by decide) (fun c7 => ?_) (fun c7 => ?_)
    · refine x_iconst C dX2_shutFoldOf_47 ⟨by decide, by decide⟩ ?_
      refine x_iret C hQ dX2_shutFoldOf_48 (Nat.le_refl _) (Nat.le_refl _) ?_
      exact ⟨rfl, rfl, _, rfl, hq⟩
    · omega
  | cons r R ih =>
    intro P k hP hk hq
    have hl : fo.length = P.length + (R.length + 1) := by rw [hP]; simp
    have e2 : (fo.map (fun f => f.1) ++ j2).getD k.toNat 0 = r.1 := by rw [hP]; exact gmap_at _ P R r j2 hk
    have e3 : (fo.map (fun f => f.2.1) ++ j3).getD k.toNat 0 = r.2.1 := by rw [hP]; exact gmap_at _ P R r j3 hk
    have e4 : (fo.map (fun f => f.2.2) ++ j4).getD k.toNat 0 = r.2.2 := by rw [hP]; exact gmap_at _ P R r j4 hk
    unfold fIdx at hq
    refine x_iload_n C dX2_shutFoldOf_2 rfl ?_
    refine x_aload_n C dX2_shutFoldOf_3 rfl ?_
    refine x_get C dX2_shutFoldOf_4 kfX2_35 hr.o rfl ?_
    refine x_icmp_ge (tgt := 47) C dX2_shutFoldOf_7 (by decide) (fun c7 => ?_) (fun c7 => ?_)
    · omega
    · refine x_aload_n C dX2_shutFoldOf_10 rfl ?_
      refine x_get C dX2_shutFoldOf_11 kfX2_21 hr.o rfl ?_
      refine x_iload_n C dX2_shutFoldOf_14 rfl ?_
      refine x_zaldB C dX2_shutFoldOf_15 hr.a4 (by omega) (by rw [hr.l4]; omega) (fun b15 => ?_)
      rw [e4] at b15 ⊢
      refine x_if_eq (tgt := 41) C dX2_shutFoldOf_16 (by decide) (fun c16 => ?_) (fun c16 => ?_)
      · refine s_inc3_2 C dX2_shutFoldOf_41 rfl (by first | (unfold iR; omega) | exact ⟨by omega, by omega⟩) ?_
        refine x_goto (tgt := 2) C dX2_shutFoldOf_44 (by decide) ?_
        exact ih (P ++ [r]) (k + 1) (by rw [hP]; simp) (by simp; omega) (by rw [if_neg (by simp [pS, pH]; omega)] at hq; exact hq)
      · refine x_aload_n C dX2_shutFoldOf_19 rfl ?_
        refine x_get C dX2_shutFoldOf_20 kfX2_15 hr.o rfl ?_
        refine x_iload_n C dX2_shutFoldOf_23 rfl ?_
        refine x_iald C dX2_shutFoldOf_24 hr.a2 (by omega) (by rw [hr.l2]; omega) ?_
        rw [e2]
        refine x_iload_n C dX2_shutFoldOf_25 rfl ?_
        refine x_icmp_gt (tgt := 41) C dX2_shutFoldOf_26 (by decide) (fun c26 => ?_) (fun c26 => ?_)
        · refine s_inc3_2 C dX2_shutFoldOf_41 rfl (by first | (unfold iR; omega) | exact ⟨by omega, by omega⟩) ?_
          refine x_goto (tgt := 2) C dX2_shutFoldOf_44 (by decide) ?_
          exact ih (P ++ [r]) (k + 1) (by rw [hP]; simp) (by simp; omega) (by rw [if_neg (by simp [pS, pH]; omega)] at hq; exact hq)
        · refine x_iload_n C dX2_shutFoldOf_29 rfl ?_
          refine x_aload_n C dX2_shutFoldOf_30 rfl ?_
          refine x_get C dX2_shutFoldOf_31 kfX2_18 hr.o rfl ?_
          refine x_iload_n C dX2_shutFoldOf_34 rfl ?_
          refine x_iald C dX2_shutFoldOf_35 hr.a3 (by omega) (by rw [hr.l3]; omega) ?_
          rw [e3]
          refine x_icmp_ge (tgt := 41) C dX2_shutFoldOf_36 (by decide) (fun c36 => ?_) (fun c36 => ?_)
          · refine s_inc3_2 C dX2_shutFoldOf_41 rfl (by first | (unfold iR; omega) | exact ⟨by omega, by omega⟩) ?_
            refine x_goto (tgt := 2) C dX2_shutFoldOf_44 (by decide) ?_
            exact ih (P ++ [r]) (k + 1) (by rw [hP]; simp) (by simp; omega) (by rw [if_neg (by simp [pS, pH]; omega)] at hq; exact hq)
          · refine x_iload_n C dX2_shutFoldOf_39 rfl ?_
            refine x_iret C hQ dX2_shutFoldOf_40 (Nat.le_refl _) (Nat.le_refl _) ?_
            exact ⟨rfl, rfl, _, rfl, by rw [if_pos (by simp [pS, pH]; omega)] at hq; exact hq⟩
set_option maxHeartbeats 1000000 in
set_option maxRecDepth 100000 in
theorem c_X2_shutFoldOf (l : Launch) {w : mW} {h : Nat} {sg : List Int} {fo : List (Int × Int × Int)} {hi : List (Int × Int)} {mo wi nd tb : Int} (hS : isSh w h sg fo hi mo wi nd tb) (a : Int) : Cp l yX2_shutFoldOf cX2_shutFoldOf 3 (some .int) 0 [vr h, vi a] w (fun z => z = fIdx (pS a) fo 0) := by
  refine Cp.of (ml := [some (vr h), some (vi a), none]) kyX2_shutFoldOf rfl (Nat.le_of_ble_eq_true rfl) rfl ?_
  intro t n C hQ
  refine x_iconst C dX2_shutFoldOf_0 ⟨by decide, by decide⟩ ?_
  refine s_ist3_2 C dX2_shutFoldOf_1 rfl ?_
  exact lp_X2_shutFoldOf_2 hS a C hQ fo [] 0 rfl rfl rfl

set_option maxHeartbeats 1000000 in
set_option maxRecDepth 100000 in
theorem c_X2_holderOf (l : Launch) {w : mW} {h : Nat} {sg : List Int} {fo : List (Int × Int × Int)} {hi : List (Int × Int)} {mo wi nd tb : Int} (hS : isSh w h sg fo hi mo wi nd tb) (a : Int) : Cp l yX2_holderOf cX2_holderOf 3 (some .int) 1 [vr h, vi a] w (fun z => z = hold fo a) := by
  refine Cp.of (ml := [some (vr h), some (vi a), none]) kyX2_holderOf rfl (Nat.le_of_ble_eq_true rfl) rfl ?_
  intro t n C hQ
  obtain ⟨j1, j2, j3, j4, j5, j6, hr⟩ := hS
  have l1 := hr.l1
  have l2 := hr.l2
  have l3 := hr.l3
  have l4 := hr.l4
  have l5 := hr.l5
  have l6 := hr.l6
  simp only [List.length_append, List.length_map] at l1 l2 l3 l4 l5 l6
  refine x_aload_n C dX2_holderOf_0 rfl ?_
  refine x_iload_n C dX2_holderOf_1 rfl ?_
  refine y_p1 C dX2_holderOf_2 kyX2_shutFoldOf knX2_shutFoldOf kmX2_97 hr.o (c_X2_shutFoldOf l (hS := ⟨j1, j2, j3, j4, j5, j6, hr⟩) a) (by decide) (Nat.zero_le _) (Nat.zero_le _) (Nat.le_of_ble_eq_true rfl) (fun z2 q2 => ?_)
  subst q2
  refine s_ist3_2 C dX2_holderOf_5 rfl ?_
  refine x_iload_n C dX2_holderOf_6 rfl ?_
  refine x_if_ge (tgt := 14) C dX2_holderOf_7 (by decide) (fun c7 => ?_) (fun c7 => ?_)
  · obtain ⟨x, ex1, ex2, ex3⟩ := fIdx_find (pS a) fo (fun f => f.1) j2 c7
    refine x_aload_n C dX2_holderOf_14 rfl ?_
    refine x_get C dX2_holderOf_15 kfX2_15 hr.o rfl ?_
    refine x_iload_n C dX2_holderOf_18 rfl ?_
    refine x_iald C dX2_holderOf_19 hr.a2 (by omega) (by rw [hr.l2]; omega) ?_
    refine x_iret C hQ dX2_holderOf_20 (Nat.le_refl _) (Nat.le_refl _) ?_
    exact ⟨rfl, rfl, _, rfl, by simp only [hold]; first | rw [fIdx_none _ _ (by omega)] | rw [ex1]; exact ex3⟩
  · refine x_iload_n C dX2_holderOf_10 rfl ?_
    refine x_goto (tgt := 20) C dX2_holderOf_11 (by decide) ?_
    refine x_iret C hQ dX2_holderOf_20 (Nat.le_refl _) (Nat.le_refl _) ?_
    exact ⟨rfl, rfl, _, rfl, by simp only [hold]; first | rw [fIdx_none _ _ (by omega)] | rw [ex1]; exact ex3⟩

set_option maxHeartbeats 1000000 in
set_option maxRecDepth 100000 in
theorem c_X2_isShown (l : Launch) {w : mW} {h : Nat} {sg : List Int} {fo : List (Int × Int × Int)} {hi : List (Int × Int)} {mo wi nd tb : Int} (hS : isSh w h sg fo hi mo wi nd tb) (a : Int) : Cp l yX2_isShown cX2_isShown 2 (some .boolean) 2 [vr h, vi a] w (fun z => (z = 0 ∨ z = 1) ∧ (z = 1 ↔ hold fo a = a)) := by
  refine Cp.of (ml := [some (vr h), some (vi a)]) kyX2_isShown rfl (Nat.le_of_ble_eq_true rfl) rfl ?_
  intro t n C hQ
  have hS2 := hS
  obtain ⟨j1, j2, j3, j4, j5, j6, hr⟩ := hS
  refine x_aload_n C dX2_isShown_0 rfl ?_
  refine x_iload_n C dX2_isShown_1 rfl ?_
  refine y_p1 C dX2_isShown_2 kyX2_holderOf knX2_holderOf kmX2_100 hr.o (c_X2_holderOf l hS2 a) (by decide) (Nat.zero_le _) (Nat.zero_le _) (Nat.le_of_ble_eq_true rfl) (fun z2 q2 => ?_)
  subst q2
  refine x_iload_n C dX2_isShown_5 rfl ?_
  refine x_icmp_ne (tgt := 13) C dX2_isShown_6 (by decide) (fun c6 => ?_) (fun c6 => ?_)
  · refine x_iconst C dX2_isShown_13 ⟨by decide, by decide⟩ ?_
    refine x_zret C hQ dX2_isShown_14 (by first | exact Or.inl rfl | exact Or.inr rfl | omega) (Nat.le_refl _) (Nat.le_refl _) ?_
    exact ⟨rfl, rfl, _, rfl, by omega⟩
  · refine x_iconst C dX2_isShown_9 ⟨by decide, by decide⟩ ?_
    refine x_goto (tgt := 14) C dX2_isShown_10 (by decide) ?_
    refine x_zret C hQ dX2_isShown_14 (by first | exact Or.inl rfl | exact Or.inr rfl | omega) (Nat.le_refl _) (Nat.le_refl _) ?_
    exact ⟨rfl, rfl, _, rfl, by omega⟩
