/-! ===== the reference: folds, hints ===== -/
def lst {α : Type} (p : α → Bool) : List α → Int → Int → Int
  | [], _, acc => acc
  | x :: l, k, acc => lst p l (k + 1) (if p x = true then k else acc)
def fI4 {α : Type} (p : α → Bool) (l : List α) : Int := if fIdx p l 0 < 0 then -4 else fIdx p l 0
theorem lst_none {α : Type} (p : α → Bool) : ∀ (l : List α) (k acc : Int), (∀ x ∈ l, p x = false) → lst p l k acc = acc
  | [], _, _, _ => rfl
  | x :: l, k, acc, h => by
    rw [lst, if_neg (by rw [h x List.mem_cons_self]; decide)]
    exact lst_none p l _ _ (fun y hy => h y (List.mem_cons_of_mem _ hy))
theorem lst_u {α : Type} (p : α → Bool) : ∀ (l : List α) (k acc : Int), 0 ≤ k → l.Pairwise (fun x y => ¬ (p x = true ∧ p y = true)) → lst p l k acc = if fIdx p l k < 0 then acc else fIdx p l k
  | [], _, _, _, _ => rfl
  | x :: l, k, acc, hk, h => by
    rw [List.pairwise_cons] at h
    rw [lst, fIdx]
    by_cases hx : p x = true
    · rw [if_pos hx, if_pos hx, if_neg (by omega), lst_none]
      intro y hy
      have := h.1 y hy
      cases hp : p y with
      | false => rfl
      | true => exact absurd ⟨hx, hp⟩ this
    · rw [if_neg hx, if_neg hx, lst_u p l (k + 1) acc (by omega) h.2]
theorem lst4 {α : Type} {p : α → Bool} {l : List α} (h : l.Pairwise (fun x y => ¬ (p x = true ∧ p y = true))) : lst p l 0 (-4) = fI4 p l := lst_u p l 0 (-4) (by omega) h
theorem pw_pH {hi : List (Int × Int)} (h : hi.Pairwise (fun a b => a.1 < b.1)) (a : Int) : hi.Pairwise (fun x y => ¬ (pH a x = true ∧ pH a y = true)) := h.imp (fun {x y} hxy h2 => by
  have h3 : x.1 = a := by simpa [pH] using h2.1
  have h4 : y.1 = a := by simpa [pH] using h2.2
  omega)
theorem pw_pS {fo : List (Int × Int × Int)} (h : fo.Pairwise (fun a b => a.2.1 ≤ b.1)) (a : Int) : fo.Pairwise (fun x y => ¬ (pS a x = true ∧ pS a y = true)) := h.imp (fun {x y} hxy h2 => by
  have h3 := of_decide_eq_true h2.1
  have h4 := of_decide_eq_true h2.2
  omega)

set_option maxHeartbeats 1000000 in
set_option maxRecDepth 100000 in
theorem c_X5_in (l : Launch) {w : mW} (a b c : Int) : Cp l yX5_in cX5_in 3 (some .boolean) 0 [vi a, vi b, vi c] w (fun z => (z = 0 ∨ z = 1) ∧ (z = 1 ↔ b ≤ a ∧ a ≤ c)) := by
  refine Cp.of (ml := [some (vi a), some (vi b), some (vi c)]) kyX5_in rfl (Nat.le_of_ble_eq_true rfl) rfl ?_
  intro t n C hQ
  refine x_iload_n C dX5_in_0 rfl ?_
  refine x_iload_n C dX5_in_1 rfl ?_
  refine x_icmp_lt (tgt := 14) C dX5_in_2 (by decide) (fun c2 => ?_) (fun c2 => ?_)
  · refine x_iconst C dX5_in_14 ⟨by decide, by decide⟩ ?_
    refine x_zret C hQ dX5_in_15 (by first | exact Or.inl rfl | exact Or.inr rfl | omega) (Nat.le_refl _) (Nat.le_refl _) ?_
    exact ⟨rfl, rfl, _, rfl, by omega⟩
  · refine x_iload_n C dX5_in_5 rfl ?_
    refine x_iload_n C dX5_in_6 rfl ?_
    refine x_icmp_gt (tgt := 14) C dX5_in_7 (by decide) (fun c7 => ?_) (fun c7 => ?_)
    · refine x_iconst C dX5_in_14 ⟨by decide, by decide⟩ ?_
      refine x_zret C hQ dX5_in_15 (by first | exact Or.inl rfl | exact Or.inr rfl | omega) (Nat.le_refl _) (Nat.le_refl _) ?_
      exact ⟨rfl, rfl, _, rfl, by omega⟩
    · refine x_iconst C dX5_in_10 ⟨by decide, by decide⟩ ?_
      refine x_goto (tgt := 15) C dX5_in_11 (by decide) ?_
      refine x_zret C hQ dX5_in_15 (by first | exact Or.inl rfl | exact Or.inr rfl | omega) (Nat.le_refl _) (Nat.le_refl _) ?_
      exact ⟨rfl, rfl, _, rfl, by omega⟩

set_option maxHeartbeats 1000000 in
set_option maxRecDepth 100000 in
theorem c_X5_isPlace (l : Launch) {w : mW} {h : Nat} {mn fc hc mo wi nd tb pi lr lc um sm wp wr ac sz ra rn : Int} {M1 M2 M3 M4 M5 M6 M7 M8 M9 M10 M11 M12 M13 M14 M15 M16 M17 M18 M19 M20 M21 M22 M23 : List Int} (hr : rM w h mn fc hc mo wi nd tb pi lr lc um sm wp wr ac sz ra rn M1 M2 M3 M4 M5 M6 M7 M8 M9 M10 M11 M12 M13 M14 M15 M16 M17 M18 M19 M20 M21 M22 M23) (a : Int) : Cp l yX5_isPlace cX5_isPlace 2 (some .boolean) 1 [vr h, vi a] w (fun z => (z = 0 ∨ z = 1) ∧ (z = 1 ↔ 0 ≤ a ∧ a ≤ mn)) := by
  refine Cp.of (ml := [some (vr h), some (vi a)]) kyX5_isPlace rfl (Nat.le_of_ble_eq_true rfl) rfl ?_
  intro t n C hQ
  refine x_iload_n C dX5_isPlace_0 rfl ?_
  refine x_iconst C dX5_isPlace_1 ⟨by decide, by decide⟩ ?_
  refine x_aload_n C dX5_isPlace_2 rfl ?_
  refine x_get C dX5_isPlace_3 kfX5_89 hr.o rfl ?_
  refine z_p3 C dX5_isPlace_6 kyX5_in ksX5_in kmX5_103 (c_X5_in l a 0 mn) (by decide) (Nat.zero_le _) (Nat.zero_le _) (Nat.le_of_ble_eq_true rfl) (fun z6 q6 => ?_)
  refine x_zret C hQ dX5_isPlace_9 (by first | exact Or.inl rfl | exact Or.inr rfl | omega) (Nat.le_refl _) (Nat.le_refl _) ?_
  exact ⟨rfl, rfl, _, rfl, by omega⟩

set_option maxHeartbeats 1000000 in
set_option maxRecDepth 100000 in
theorem c_X5_isSign (l : Launch) {w : mW} {h : Nat} {mn fc hc mo wi nd tb pi lr lc um sm wp wr ac sz ra rn : Int} {M1 M2 M3 M4 M5 M6 M7 M8 M9 M10 M11 M12 M13 M14 M15 M16 M17 M18 M19 M20 M21 M22 M23 : List Int} (hr : rM w h mn fc hc mo wi nd tb pi lr lc um sm wp wr ac sz ra rn M1 M2 M3 M4 M5 M6 M7 M8 M9 M10 M11 M12 M13 M14 M15 M16 M17 M18 M19 M20 M21 M22 M23) (hb : 0 ≤ mn ∧ mn ≤ 100) (a : Int) : Cp l yX5_isSign cX5_isSign 2 (some .boolean) 1 [vr h, vi a] w (fun z => (z = 0 ∨ z = 1) ∧ (z = 1 ↔ 0 ≤ a ∧ a < mn)) := by
  refine Cp.of (ml := [some (vr h), some (vi a)]) kyX5_isSign rfl (Nat.le_of_ble_eq_true rfl) rfl ?_
  intro t n C hQ
  refine x_iload_n C dX5_isSign_0 rfl ?_
  refine x_iconst C dX5_isSign_1 ⟨by decide, by decide⟩ ?_
  refine x_aload_n C dX5_isSign_2 rfl ?_
  refine x_get C dX5_isSign_3 kfX5_89 hr.o rfl ?_
  refine x_iconst C dX5_isSign_6 ⟨by decide, by decide⟩ ?_
  refine x_isub C dX5_isSign_7 (by first | (unfold iR; omega) | exact ⟨by omega, by omega⟩) ?_
  refine z_p3 C dX5_isSign_8 kyX5_in ksX5_in kmX5_103 (c_X5_in l a 0 (mn - 1)) (by decide) (Nat.zero_le _) (Nat.zero_le _) (Nat.le_of_ble_eq_true rfl) (fun z8 q8 => ?_)
  refine x_zret C hQ dX5_isSign_11 (by first | exact Or.inl rfl | exact Or.inr rfl | omega) (Nat.le_refl _) (Nat.le_refl _) ?_
  exact ⟨rfl, rfl, _, rfl, by omega⟩

set_option maxHeartbeats 1000000 in
set_option maxRecDepth 100000 in
theorem c_X5_isFold (l : Launch) {w : mW} {h : Nat} {mn fc hc mo wi nd tb pi lr lc um sm wp wr ac sz ra rn : Int} {M1 M2 M3 M4 M5 M6 M7 M8 M9 M10 M11 M12 M13 M14 M15 M16 M17 M18 M19 M20 M21 M22 M23 : List Int} (hr : rM w h mn fc hc mo wi nd tb pi lr lc um sm wp wr ac sz ra rn M1 M2 M3 M4 M5 M6 M7 M8 M9 M10 M11 M12 M13 M14 M15 M16 M17 M18 M19 M20 M21 M22 M23) (hb : 0 ≤ fc ∧ fc ≤ 100) (a : Int) : Cp l yX5_isFold cX5_isFold 2 (some .boolean) 1 [vr h, vi a] w (fun z => (z = 0 ∨ z = 1) ∧ (z = 1 ↔ 0 ≤ a ∧ a < fc)) := by
  refine Cp.of (ml := [some (vr h), some (vi a)]) kyX5_isFold rfl (Nat.le_of_ble_eq_true rfl) rfl ?_
  intro t n C hQ
  refine x_iload_n C dX5_isFold_0 rfl ?_
  refine x_iconst C dX5_isFold_1 ⟨by decide, by decide⟩ ?_
  refine x_aload_n C dX5_isFold_2 rfl ?_
  refine x_get C dX5_isFold_3 kfX5_107 hr.o rfl ?_
  refine x_iconst C dX5_isFold_6 ⟨by decide, by decide⟩ ?_
  refine x_isub C dX5_isFold_7 (by first | (unfold iR; omega) | exact ⟨by omega, by omega⟩) ?_
  refine z_p3 C dX5_isFold_8 kyX5_in ksX5_in kmX5_103 (c_X5_in l a 0 (fc - 1)) (by decide) (Nat.zero_le _) (Nat.zero_le _) (Nat.le_of_ble_eq_true rfl) (fun z8 q8 => ?_)
  refine x_zret C hQ dX5_isFold_11 (by first | exact Or.inl rfl | exact Or.inr rfl | omega) (Nat.le_refl _) (Nat.le_refl _) ?_
  exact ⟨rfl, rfl, _, rfl, by omega⟩

set_option maxHeartbeats 1000000 in
set_option maxRecDepth 100000 in
theorem c_X5_isHint (l : Launch) {w : mW} {h : Nat} {mn fc hc mo wi nd tb pi lr lc um sm wp wr ac sz ra rn : Int} {M1 M2 M3 M4 M5 M6 M7 M8 M9 M10 M11 M12 M13 M14 M15 M16 M17 M18 M19 M20 M21 M22 M23 : List Int} (hr : rM w h mn fc hc mo wi nd tb pi lr lc um sm wp wr ac sz ra rn M1 M2 M3 M4 M5 M6 M7 M8 M9 M10 M11 M12 M13 M14 M15 M16 M17 M18 M19 M20 M21 M22 M23) (hb : 0 ≤ hc ∧ hc ≤ 100) (a : Int) : Cp l yX5_isHint cX5_isHint 2 (some .boolean) 1 [vr h, vi a] w (fun z => (z = 0 ∨ z = 1) ∧ (z = 1 ↔ 0 ≤ a ∧ a < hc)) := by
  refine Cp.of (ml := [some (vr h), some (vi a)]) kyX5_isHint rfl (Nat.le_of_ble_eq_true rfl) rfl ?_
  intro t n C hQ
  refine x_iload_n C dX5_isHint_0 rfl ?_
  refine x_iconst C dX5_isHint_1 ⟨by decide, by decide⟩ ?_
  refine x_aload_n C dX5_isHint_2 rfl ?_
  refine x_get C dX5_isHint_3 kfX5_110 hr.o rfl ?_
  refine x_iconst C dX5_isHint_6 ⟨by decide, by decide⟩ ?_
  refine x_isub C dX5_isHint_7 (by first | (unfold iR; omega) | exact ⟨by omega, by omega⟩) ?_
  refine z_p3 C dX5_isHint_8 kyX5_in ksX5_in kmX5_103 (c_X5_in l a 0 (hc - 1)) (by decide) (Nat.zero_le _) (Nat.zero_le _) (Nat.le_of_ble_eq_true rfl) (fun z8 q8 => ?_)
  refine x_zret C hQ dX5_isHint_11 (by first | exact Or.inl rfl | exact Or.inr rfl | omega) (Nat.le_refl _) (Nat.le_refl _) ?_
  exact ⟨rfl, rfl, _, rfl, by omega⟩

set_option maxHeartbeats 1000000 in
set_option maxRecDepth 100000 in
theorem lp_X5_comesFold {t : TX} {l : Launch} {n0 : Nat} {w0 : mW} {h : Nat} {mn hc mo wi nd tb pi lr lc um sm wp wr ac sz ra rn : Int} {M1 M5 M6 M7 M8 M9 M10 M11 M12 M13 M14 M15 M16 M17 M18 M19 M20 M21 M22 M23 : List Int} {j2 j3 j4 : List Int} (a b s : Int) {G : List (Int × Int × Int)} (C : Cb t l cX5_comesFold RX5 5 (some .int) 0 0 0) {Q : Int → mW → Prop} (hQ : RQ t 0 0 (fun r n' w' => n' = n0 ∧ ∃ z : Int, r = some (vi z) ∧ Q z w')) (hfin : ∀ (P R : List (Int × Int × Int)) (w' : mW), rM w' h mn (G.length + 1) hc mo wi nd tb pi lr lc um sm wp wr ac sz ra rn M1 ((P ++ (a, b, s) :: R).map (fun f => f.1) ++ j2) ((P ++ (a, b, s) :: R).map (fun f => f.2.1) ++ j3) ((P ++ (a, b, s) :: R).map (fun f => f.2.2) ++ j4) M5 M6 M7 M8 M9 M10 M11 M12 M13 M14 M15 M16 M17 M18 M19 M20 M21 M22 M23 → frR w0 w' h (h + 23) → P ++ R = G → (∀ q ∈ R, a < q.1) → (∀ (P' : List (Int × Int × Int)) (q : Int × Int × Int), P = P' ++ [q] → q.1 ≤ a) → Q P.length w') : ∀ (m : Nat) (P R : List (Int × Int × Int)) (c : Int × Int × Int) (k : Int) (w : mW), P.length = m → k = P.length → rM w h mn G.length hc mo wi nd tb pi lr lc um sm wp wr ac sz ra rn M1 ((P ++ c :: R).map (fun f => f.1) ++ j2) ((P ++ c :: R).map (fun f => f.2.1) ++ j3) ((P ++ c :: R).map (fun f => f.2.2) ++ j4) M5 M6 M7 M8 M9 M10 M11 M12 M13 M14 M15 M16 M17 M18 M19 M20 M21 M22 M23 → frR w0 w h (h + 23) → P ++ R = G → G.length ≤ 4 → (∀ q ∈ R, a < q.1) → J t 0 0 6 [some (vr h), some (vi a), some (vi b), some (vi s), some (vi k)] [] n0 w := by
  intro m
  induction m with
  | zero =>
    intro P R c k w hm hk hr hf hG hG4 hR
    have hgl : P.length + R.length = G.length := by rw [← hG]; simp
    refine x_iload C dX5_comesFold_6 rfl ?_
    refine x_if_le (tgt := 78) C dX5_comesFold_8 (by decide) (fun c8 => ?_) (fun c8 => absurd c8 (by omega))
    refine x_aload_n C dX5_comesFold_78 rfl ?_
    refine x_get C dX5_comesFold_79 kfX5_13 hr.o rfl ?_
    refine x_iload C dX5_comesFold_82 rfl ?_
    refine x_iload_n C dX5_comesFold_84 rfl ?_
    refine x_iast C dX5_comesFold_85 hr.a2 (by omega) (by rw [hr.l2]; omega) ?_
    refine ab_M_M2 hr hf (by rw [List.length_set]; exact hr.l2) (fun w hr hf => ?_)
    refine x_aload_n C dX5_comesFold_86 rfl ?_
    refine x_get C dX5_comesFold_87 kfX5_16 hr.o rfl ?_
    refine x_iload C dX5_comesFold_90 rfl ?_
    refine x_iload_n C dX5_comesFold_92 rfl ?_
    refine x_iast C dX5_comesFold_93 hr.a3 (by omega) (by rw [hr.l3]; omega) ?_
    refine ab_M_M3 hr hf (by rw [List.length_set]; exact hr.l3) (fun w hr hf => ?_)
    refine x_aload_n C dX5_comesFold_94 rfl ?_
    refine x_get C dX5_comesFold_95 kfX5_19 hr.o rfl ?_
    refine x_iload C dX5_comesFold_98 rfl ?_
    refine x_iload_n C dX5_comesFold_100 rfl ?_
    refine x_iast C dX5_comesFold_101 hr.a4 (by omega) (by rw [hr.l4]; omega) ?_
    refine ab_M_M4 hr hf (by rw [List.length_set]; exact hr.l4) (fun w hr hf => ?_)
    refine x_aload_n C dX5_comesFold_102 rfl ?_
    refine x_dup C dX5_comesFold_103 rfl ?_
    refine x_get C dX5_comesFold_104 kfX5_107 hr.o rfl ?_
    refine x_iconst C dX5_comesFold_107 ⟨by decide, by decide⟩ ?_
    refine x_iadd C dX5_comesFold_108 (by first | (unfold iR; omega) | exact ⟨by omega, by omega⟩) ?_
    refine x_put C dX5_comesFold_109 kfX5_107 kw_5_2 rfl rfl hr.o (Nat.le_of_ble_eq_true rfl) ?_
    refine ab_M_fc hr hf (fun w hr hf => ?_)
    refine x_iload C dX5_comesFold_112 rfl ?_
    refine x_iret C hQ dX5_comesFold_114 (Nat.le_refl _) (Nat.le_refl _) ?_
    rw [hk]
    refine ⟨rfl, _, rfl, hfin P R w ?_ hf hG hR ?_⟩
    · rw [mset_at _ P R c j2 _ (by omega)] at hr
      rw [mset_at _ P R c j3 _ (by omega)] at hr
      rw [mset_at _ P R c j4 _ (by omega)] at hr
      simpa using hr
    · intro P9 q9 h9
      rw [h9] at hm
      simp at hm
  | succ m ih =>
    intro P R c k w hm hk hr hf hG hG4 hR
    obtain ⟨P0, r, rfl, hP0⟩ := snoc P m hm
    have hgl : (P0.length + 1) + R.length = G.length := by rw [← hG]; simp; omega
    simp only [List.length_append, List.length_cons, List.length_nil] at hk
    have e2 : (((P0 ++ [r]) ++ c :: R).map (fun f => f.1) ++ j2).getD (k - 1).toNat 0 = r.1 := by
      have h9 := gmap_at (fun f : Int × Int × Int => f.1) P0 (c :: R) r j2 (k := k - 1) (by omega)
      simpa using h9
    have e3 : (((P0 ++ [r]) ++ c :: R).map (fun f => f.2.1) ++ j3).getD (k - 1).toNat 0 = r.2.1 := by
      have h9 := gmap_at (fun f : Int × Int × Int => f.2.1) P0 (c :: R) r j3 (k := k - 1) (by omega)
      simpa using h9
    have e4 : (((P0 ++ [r]) ++ c :: R).map (fun f => f.2.2) ++ j4).getD (k - 1).toNat 0 = r.2.2 := by
      have h9 := gmap_at (fun f : Int × Int × Int => f.2.2) P0 (c :: R) r j4 (k := k - 1) (by omega)
      simpa using h9
    refine x_iload C dX5_comesFold_6 rfl ?_
    refine x_if_le (tgt := 78) C dX5_comesFold_8 (by decide) (fun c8 => absurd c8 (by omega)) (fun c8 => ?_)
    refine x_aload_n C dX5_comesFold_11 rfl ?_
    refine x_get C dX5_comesFold_12 kfX5_13 hr.o rfl ?_
    refine x_iload C dX5_comesFold_15 rfl ?_
    refine x_iconst C dX5_comesFold_17 ⟨by decide, by decide⟩ ?_
    refine x_isub C dX5_comesFold_18 (by first | (unfold iR; omega) | exact ⟨by omega, by omega⟩) ?_
    refine x_iald C dX5_comesFold_19 hr.a2 (by omega) (by rw [hr.l2]; omega) ?_
    rw [e2]
    refine x_iload_n C dX5_comesFold_20 rfl ?_
    refine x_icmp_le (tgt := 78) C dX5_comesFold_21 (by decide) (fun c21 => ?_) (fun c21 => ?_)
    · refine x_aload_n C dX5_comesFold_78 rfl ?_
      refine x_get C dX5_comesFold_79 kfX5_13 hr.o rfl ?_
      refine x_iload C dX5_comesFold_82 rfl ?_
      refine x_iload_n C dX5_comesFold_84 rfl ?_
      refine x_iast C dX5_comesFold_85 hr.a2 (by omega) (by rw [hr.l2]; omega) ?_
      refine ab_M_M2 hr hf (by rw [List.length_set]; exact hr.l2) (fun w hr hf => ?_)
      refine x_aload_n C dX5_comesFold_86 rfl ?_
      refine x_get C dX5_comesFold_87 kfX5_16 hr.o rfl ?_
      refine x_iload C dX5_comesFold_90 rfl ?_
      refine x_iload_n C dX5_comesFold_92 rfl ?_
      refine x_iast C dX5_comesFold_93 hr.a3 (by omega) (by rw [hr.l3]; omega) ?_
      refine ab_M_M3 hr hf (by rw [List.length_set]; exact hr.l3) (fun w hr hf => ?_)
      refine x_aload_n C dX5_comesFold_94 rfl ?_
      refine x_get C dX5_comesFold_95 kfX5_19 hr.o rfl ?_
      refine x_iload C dX5_comesFold_98 rfl ?_
      refine x_iload_n C dX5_comesFold_100 rfl ?_
      refine x_iast C dX5_comesFold_101 hr.a4 (by omega) (by rw [hr.l4]; omega) ?_
      refine ab_M_M4 hr hf (by rw [List.length_set]; exact hr.l4) (fun w hr hf => ?_)
      refine x_aload_n C dX5_comesFold_102 rfl ?_
      refine x_dup C dX5_comesFold_103 rfl ?_
      refine x_get C dX5_comesFold_104 kfX5_107 hr.o rfl ?_
      refine x_iconst C dX5_comesFold_107 ⟨by decide, by decide⟩ ?_
      refine x_iadd C dX5_comesFold_108 (by first | (unfold iR; omega) | exact ⟨by omega, by omega⟩) ?_
      refine x_put C dX5_comesFold_109 kfX5_107 kw_5_2 rfl rfl hr.o (Nat.le_of_ble_eq_true rfl) ?_
      refine ab_M_fc hr hf (fun w hr hf => ?_)
      refine x_iload C dX5_comesFold_112 rfl ?_
      refine x_iret C hQ dX5_comesFold_114 (Nat.le_refl _) (Nat.le_refl _) ?_
      have ek : k = ((P0 ++ [r]).length : Int) := by simp; omega
      rw [ek]
      refine ⟨rfl, _, rfl, hfin (P0 ++ [r]) R w ?_ hf hG hR ?_⟩
      · rw [mset_at _ (P0 ++ [r]) R c j2 _ (by simp; omega)] at hr
        rw [mset_at _ (P0 ++ [r]) R c j3 _ (by simp; omega)] at hr
        rw [mset_at _ (P0 ++ [r]) R c j4 _ (by simp; omega)] at hr
        simpa using hr
      · intro P9 q9 h9
        have h8 := (List.append_inj' h9 rfl).2
        simp at h8
        rw [← h8]; omega
    · refine x_aload_n C dX5_comesFold_24 rfl ?_
      refine x_get C dX5_comesFold_25 kfX5_13 hr.o rfl ?_
      refine x_iload C dX5_comesFold_28 rfl ?_
      refine x_aload_n C dX5_comesFold_30 rfl ?_
      refine x_get C dX5_comesFold_31 kfX5_13 hr.o rfl ?_
      refine x_iload C dX5_comesFold_34 rfl ?_
      refine x_iconst C dX5_comesFold_36 ⟨by decide, by decide⟩ ?_
      refine x_isub C dX5_comesFold_37 (by first | (unfold iR; omega) | exact ⟨by omega, by omega⟩) ?_
      refine x_iald C dX5_comesFold_38 hr.a2 (by omega) (by rw [hr.l2]; omega) ?_
      rw [e2]
      refine x_iast C dX5_comesFold_39 hr.a2 (by omega) (by rw [hr.l2]; omega) ?_
      refine ab_M_M2 hr hf (by rw [List.length_set]; exact hr.l2) (fun w hr hf => ?_)
      refine x_aload_n C dX5_comesFold_40 rfl ?_
      refine x_get C dX5_comesFold_41 kfX5_16 hr.o rfl ?_
      refine x_iload C dX5_comesFold_44 rfl ?_
      refine x_aload_n C dX5_comesFold_46 rfl ?_
      refine x_get C dX5_comesFold_47 kfX5_16 hr.o rfl ?_
      refine x_iload C dX5_comesFold_50 rfl ?_
      refine x_iconst C dX5_comesFold_52 ⟨by decide, by decide⟩ ?_
      refine x_isub C dX5_comesFold_53 (by first | (unfold iR; omega) | exact ⟨by omega, by omega⟩) ?_
      refine x_iald C dX5_comesFold_54 hr.a3 (by omega) (by rw [hr.l3]; omega) ?_
      rw [e3]
      refine x_iast C dX5_comesFold_55 hr.a3 (by omega) (by rw [hr.l3]; omega) ?_
      refine ab_M_M3 hr hf (by rw [List.length_set]; exact hr.l3) (fun w hr hf => ?_)
      refine x_aload_n C dX5_comesFold_56 rfl ?_
      refine x_get C dX5_comesFold_57 kfX5_19 hr.o rfl ?_
      refine x_iload C dX5_comesFold_60 rfl ?_
      refine x_aload_n C dX5_comesFold_62 rfl ?_
      refine x_get C dX5_comesFold_63 kfX5_19 hr.o rfl ?_
      refine x_iload C dX5_comesFold_66 rfl ?_
      refine x_iconst C dX5_comesFold_68 ⟨by decide, by decide⟩ ?_
      refine x_isub C dX5_comesFold_69 (by first | (unfold iR; omega) | exact ⟨by omega, by omega⟩) ?_
      refine x_iald C dX5_comesFold_70 hr.a4 (by omega) (by rw [hr.l4]; omega) ?_
      rw [e4]
      refine x_iast C dX5_comesFold_71 hr.a4 (by omega) (by rw [hr.l4]; omega) ?_
      refine ab_M_M4 hr hf (by rw [List.length_set]; exact hr.l4) (fun w hr hf => ?_)
      refine s_inc5_4 C dX5_comesFold_72 rfl (by first | (unfold iR; omega) | exact ⟨by omega, by omega⟩) ?_
      refine x_goto (tgt := 6) C dX5_comesFold_75 (by decide) ?_
      refine ih P0 (r :: R) r (k + -1) w hP0 (by omega) ?_ hf (by rw [← hG]; simp) hG4 (fun q hq => ?_)
      · rw [mset_at _ (P0 ++ [r]) R c j2 _ (by simp; omega)] at hr
        rw [mset_at _ (P0 ++ [r]) R c j3 _ (by simp; omega)] at hr
        rw [mset_at _ (P0 ++ [r]) R c j4 _ (by simp; omega)] at hr
        simpa using hr
      · rcases List.mem_cons.mp hq with h9 | h9
        · rw [h9]; omega
        · exact hR q h9
set_option maxHeartbeats 1000000 in
set_option maxRecDepth 100000 in
theorem c_X5_comesFold (l : Launch) {w : mW} {h : Nat} {sg : List Int} {fo : List (Int × Int × Int)} {hi : List (Int × Int)} {j1 j2 j3 j4 j5 j6 : List Int} {mo wi nd tb pi lr lc um sm wp wr ac sz ra rn : Int} {M7 M8 M9 M10 M11 M12 M13 M14 M15 M16 M17 M18 M19 M20 M21 M22 M23 : List Int} (hr : rM w h sg.length fo.length hi.length mo wi nd tb pi lr lc um sm wp wr ac sz ra rn (sg ++ j1) (fo.map (fun f => f.1) ++ j2) (fo.map (fun f => f.2.1) ++ j3) (fo.map (fun f => f.2.2) ++ j4) (hi.map (fun q => q.1) ++ j5) (hi.map (fun q => q.2) ++ j6) M7 M8 M9 M10 M11 M12 M13 M14 M15 M16 M17 M18 M19 M20 M21 M22 M23) (a b s : Int) (hlt : fo.length ≤ 4) : Ci l yX5_comesFold cX5_comesFold 5 (some .int) 0 [vr h, vi a, vi b, vi s] w (fun z w' => ∃ (l' : List (Int × Int × Int)) (j2' j3' j4' : List Int), insK (fun q => q.1) (a, b, s) fo l' z ∧ rM w' h sg.length l'.length hi.length mo wi nd tb pi lr lc um sm wp wr ac sz ra rn (sg ++ j1) (l'.map (fun f => f.1) ++ j2') (l'.map (fun f => f.2.1) ++ j3') (l'.map (fun f => f.2.2) ++ j4') (hi.map (fun q => q.1) ++ j5) (hi.map (fun q => q.2) ++ j6) M7 M8 M9 M10 M11 M12 M13 M14 M15 M16 M17 M18 M19 M20 M21 M22 M23 ∧ frR w w' h (h + 23)) := by
  refine Ci.of (ml := [some (vr h), some (vi a), some (vi b), some (vi s), none]) kyX5_comesFold rfl (Nat.le_of_ble_eq_true rfl) rfl ?_
  intro t n C hQ
  have hf : frR w w h (h + 23) := frR.rf
  have l1 := hr.l1
  have l2 := hr.l2
  have l3 := hr.l3
  have l4 := hr.l4
  have l5 := hr.l5
  have l6 := hr.l6
  simp only [List.length_append, List.length_map] at l1 l2 l3 l4 l5 l6
  refine x_aload_n C dX5_comesFold_0 rfl ?_
  refine x_get C dX5_comesFold_1 kfX5_107 hr.o rfl ?_
  refine s_is5_4 C dX5_comesFold_4 rfl ?_
  obtain ⟨u0, v0, rfl⟩ : ∃ u v, j2 = u :: v := List.exists_cons_of_length_pos (by omega)
  obtain ⟨u1, v1, rfl⟩ : ∃ u v, j3 = u :: v := List.exists_cons_of_length_pos (by omega)
  obtain ⟨u2, v2, rfl⟩ : ∃ u v, j4 = u :: v := List.exists_cons_of_length_pos (by omega)
  refine lp_X5_comesFold a b s (G := fo) C hQ (fun P R w9 h1 h2 h3 h4 h5 => ?_) fo.length fo [] (u0, u1, u2) fo.length w rfl rfl (by simpa using hr) hf (by simp) (by omega) (fun q hq => by cases hq)
  refine ⟨P ++ (a, b, s) :: R, v0, v1, v2, ⟨P, R, h3.symm, rfl, rfl, h4, h5⟩, ?_, h2⟩
  rw [← h3] at h1
  simpa [Int.add_assoc] using h1

set_option maxHeartbeats 1000000 in
set_option maxRecDepth 100000 in
theorem lp_X5_comesHint {t : TX} {l : Launch} {n0 : Nat} {w0 : mW} {h : Nat} {mn fc mo wi nd tb pi lr lc um sm wp wr ac sz ra rn : Int} {M1 M2 M3 M4 M7 M8 M9 M10 M11 M12 M13 M14 M15 M16 M17 M18 M19 M20 M21 M22 M23 : List Int} {j5 j6 : List Int} (a b : Int) {G : List (Int × Int)} (C : Cb t l cX5_comesHint RX5 4 (some .int) 0 0 0) {Q : Int → mW → Prop} (hQ : RQ t 0 0 (fun r n' w' => n' = n0 ∧ ∃ z : Int, r = some (vi z) ∧ Q z w')) (hfin : ∀ (P R : List (Int × Int)) (w' : mW), rM w' h mn fc (G.length + 1) mo wi nd tb pi lr lc um sm wp wr ac sz ra rn M1 M2 M3 M4 ((P ++ (a, b) :: R).map (fun f => f.1) ++ j5) ((P ++ (a, b) :: R).map (fun f => f.2) ++ j6) M7 M8 M9 M10 M11 M12 M13 M14 M15 M16 M17 M18 M19 M20 M21 M22 M23 → frR w0 w' h (h + 23) → P ++ R = G → (∀ q ∈ R, a < q.1) → (∀ (P' : List (Int × Int)) (q : Int × Int), P = P' ++ [q] → q.1 ≤ a) → Q P.length w') : ∀ (m : Nat) (P R : List (Int × Int)) (c : Int × Int) (k : Int) (w : mW), P.length = m → k = P.length → rM w h mn fc G.length mo wi nd tb pi lr lc um sm wp wr ac sz ra rn M1 M2 M3 M4 ((P ++ c :: R).map (fun f => f.1) ++ j5) ((P ++ c :: R).map (fun f => f.2) ++ j6) M7 M8 M9 M10 M11 M12 M13 M14 M15 M16 M17 M18 M19 M20 M21 M22 M23 → frR w0 w h (h + 23) → P ++ R = G → G.length ≤ 4 → (∀ q ∈ R, a < q.1) → J t 0 0 5 [some (vr h), some (vi a), some (vi b), some (vi k)] [] n0 w := by
  intro m
  induction m with
  | zero =>
    intro P R c k w hm hk hr hf hG hG4 hR
    have hgl : P.length + R.length = G.length := by rw [← hG]; simp
    refine x_iload_n C dX5_comesHint_5 rfl ?_
    refine x_if_le (tgt := 55) C dX5_comesHint_6 (by decide) (fun c6 => ?_) (fun c6 => absurd c6 (by omega))
    refine x_aload_n C dX5_comesHint_55 rfl ?_
    refine x_get C dX5_comesHint_56 kfX5_22 hr.o rfl ?_
    refine x_iload_n C dX5_comesHint_59 rfl ?_
    refine x_iload_n C dX5_comesHint_60 rfl ?_
    refine x_iast C dX5_comesHint_61 hr.a5 (by omega) (by rw [hr.l5]; omega) ?_
    refine ab_M_M5 hr hf (by rw [List.length_set]; exact hr.l5) (fun w hr hf => ?_)
    refine x_aload_n C dX5_comesHint_62 rfl ?_
    refine x_get C dX5_comesHint_63 kfX5_25 hr.o rfl ?_
    refine x_iload_n C dX5_comesHint_66 rfl ?_
    refine x_iload_n C dX5_comesHint_67 rfl ?_
    refine x_iast C dX5_comesHint_68 hr.a6 (by omega) (by rw [hr.l6]; omega) ?_
    refine ab_M_M6 hr hf (by rw [List.length_set]; exact hr.l6) (fun w hr hf => ?_)
    refine x_aload_n C dX5_comesHint_69 rfl ?_
    refine x_dup C dX5_comesHint_70 rfl ?_
    refine x_get C dX5_comesHint_71 kfX5_110 hr.o rfl ?_
    refine x_iconst C dX5_comesHint_74 ⟨by decide, by decide⟩ ?_
    refine x_iadd C dX5_comesHint_75 (by first | (unfold iR; omega) | exact ⟨by omega, by omega⟩) ?_
    refine x_put C dX5_comesHint_76 kfX5_110 kw_5_6 rfl rfl hr.o (Nat.le_of_ble_eq_true rfl) ?_
    refine ab_M_hc hr hf (fun w hr hf => ?_)
    refine x_iload_n C dX5_comesHint_79 rfl ?_
    refine x_iret C hQ dX5_comesHint_80 (Nat.le_refl _) (Nat.le_refl _) ?_
    rw [hk]
    refine ⟨rfl, _, rfl, hfin P R w ?_ hf hG hR ?_⟩
    · rw [mset_at _ P R c j5 _ (by omega)] at hr
      rw [mset_at _ P R c j6 _ (by omega)] at hr
      simpa using hr
    · intro P9 q9 h9
      rw [h9] at hm
      simp at hm
  | succ m ih =>
    intro P R c k w hm hk hr hf hG hG4 hR
    obtain ⟨P0, r, rfl, hP0⟩ := snoc P m hm
    have hgl : (P0.length + 1) + R.length = G.length := by rw [← hG]; simp; omega
    simp only [List.length_append, List.length_cons, List.length_nil] at hk
    have e5 : (((P0 ++ [r]) ++ c :: R).map (fun f => f.1) ++ j5).getD (k - 1).toNat 0 = r.1 := by
      have h9 := gmap_at (fun f : Int × Int => f.1) P0 (c :: R) r j5 (k := k - 1) (by omega)
      simpa using h9
    have e6 : (((P0 ++ [r]) ++ c :: R).map (fun f => f.2) ++ j6).getD (k - 1).toNat 0 = r.2 := by
      have h9 := gmap_at (fun f : Int × Int => f.2) P0 (c :: R) r j6 (k := k - 1) (by omega)
      simpa using h9
    refine x_iload_n C dX5_comesHint_5 rfl ?_
    refine x_if_le (tgt := 55) C dX5_comesHint_6 (by decide) (fun c6 => absurd c6 (by omega)) (fun c6 => ?_)
    refine x_aload_n C dX5_comesHint_9 rfl ?_
    refine x_get C dX5_comesHint_10 kfX5_22 hr.o rfl ?_
    refine x_iload_n C dX5_comesHint_13 rfl ?_
    refine x_iconst C dX5_comesHint_14 ⟨by decide, by decide⟩ ?_
    refine x_isub C dX5_comesHint_15 (by first | (unfold iR; omega) | exact ⟨by omega, by omega⟩) ?_
    refine x_iald C dX5_comesHint_16 hr.a5 (by omega) (by rw [hr.l5]; omega) ?_
    rw [e5]
    refine x_iload_n C dX5_comesHint_17 rfl ?_
    refine x_icmp_le (tgt := 55) C dX5_comesHint_18 (by decide) (fun c18 => ?_) (fun c18 => ?_)
    · refine x_aload_n C dX5_comesHint_55 rfl ?_
      refine x_get C dX5_comesHint_56 kfX5_22 hr.o rfl ?_
      refine x_iload_n C dX5_comesHint_59 rfl ?_
      refine x_iload_n C dX5_comesHint_60 rfl ?_
      refine x_iast C dX5_comesHint_61 hr.a5 (by omega) (by rw [hr.l5]; omega) ?_
      refine ab_M_M5 hr hf (by rw [List.length_set]; exact hr.l5) (fun w hr hf => ?_)
      refine x_aload_n C dX5_comesHint_62 rfl ?_
      refine x_get C dX5_comesHint_63 kfX5_25 hr.o rfl ?_
      refine x_iload_n C dX5_comesHint_66 rfl ?_
      refine x_iload_n C dX5_comesHint_67 rfl ?_
      refine x_iast C dX5_comesHint_68 hr.a6 (by omega) (by rw [hr.l6]; omega) ?_
      refine ab_M_M6 hr hf (by rw [List.length_set]; exact hr.l6) (fun w hr hf => ?_)
      refine x_aload_n C dX5_comesHint_69 rfl ?_
      refine x_dup C dX5_comesHint_70 rfl ?_
      refine x_get C dX5_comesHint_71 kfX5_110 hr.o rfl ?_
      refine x_iconst C dX5_comesHint_74 ⟨by decide, by decide⟩ ?_
      refine x_iadd C dX5_comesHint_75 (by first | (unfold iR; omega) | exact ⟨by omega, by omega⟩) ?_
      refine x_put C dX5_comesHint_76 kfX5_110 kw_5_6 rfl rfl hr.o (Nat.le_of_ble_eq_true rfl) ?_
      refine ab_M_hc hr hf (fun w hr hf => ?_)
      refine x_iload_n C dX5_comesHint_79 rfl ?_
      refine x_iret C hQ dX5_comesHint_80 (Nat.le_refl _) (Nat.le_refl _) ?_
      have ek : k = ((P0 ++ [r]).length : Int) := by simp; omega
      rw [ek]
      refine ⟨rfl, _, rfl, hfin (P0 ++ [r]) R w ?_ hf hG hR ?_⟩
      · rw [mset_at _ (P0 ++ [r]) R c j5 _ (by simp; omega)] at hr
        rw [mset_at _ (P0 ++ [r]) R c j6 _ (by simp; omega)] at hr
        simpa using hr
      · intro P9 q9 h9
        have h8 := (List.append_inj' h9 rfl).2
        simp at h8
        rw [← h8]; omega
    · refine x_aload_n C dX5_comesHint_21 rfl ?_
      refine x_get C dX5_comesHint_22 kfX5_22 hr.o rfl ?_
      refine x_iload_n C dX5_comesHint_25 rfl ?_
      refine x_aload_n C dX5_comesHint_26 rfl ?_
      refine x_get C dX5_comesHint_27 kfX5_22 hr.o rfl ?_
      refine x_iload_n C dX5_comesHint_30 rfl ?_
      refine x_iconst C dX5_comesHint_31 ⟨by decide, by decide⟩ ?_
      refine x_isub C dX5_comesHint_32 (by first | (unfold iR; omega) | exact ⟨by omega, by omega⟩) ?_
      refine x_iald C dX5_comesHint_33 hr.a5 (by omega) (by rw [hr.l5]; omega) ?_
      rw [e5]
      refine x_iast C dX5_comesHint_34 hr.a5 (by omega) (by rw [hr.l5]; omega) ?_
      refine ab_M_M5 hr hf (by rw [List.length_set]; exact hr.l5) (fun w hr hf => ?_)
      refine x_aload_n C dX5_comesHint_35 rfl ?_
      refine x_get C dX5_comesHint_36 kfX5_25 hr.o rfl ?_
      refine x_iload_n C dX5_comesHint_39 rfl ?_
      refine x_aload_n C dX5_comesHint_40 rfl ?_
      refine x_get C dX5_comesHint_41 kfX5_25 hr.o rfl ?_
      refine x_iload_n C dX5_comesHint_44 rfl ?_
      refine x_iconst C dX5_comesHint_45 ⟨by decide, by decide⟩ ?_
      refine x_isub C dX5_comesHint_46 (by first | (unfold iR; omega) | exact ⟨by omega, by omega⟩) ?_
      refine x_iald C dX5_comesHint_47 hr.a6 (by omega) (by rw [hr.l6]; omega) ?_
      rw [e6]
      refine x_iast C dX5_comesHint_48 hr.a6 (by omega) (by rw [hr.l6]; omega) ?_
      refine ab_M_M6 hr hf (by rw [List.length_set]; exact hr.l6) (fun w hr hf => ?_)
      refine s_inc4_3 C dX5_comesHint_49 rfl (by first | (unfold iR; omega) | exact ⟨by omega, by omega⟩) ?_
      refine x_goto (tgt := 5) C dX5_comesHint_52 (by decide) ?_
      refine ih P0 (r :: R) r (k + -1) w hP0 (by omega) ?_ hf (by rw [← hG]; simp) hG4 (fun q hq => ?_)
      · rw [mset_at _ (P0 ++ [r]) R c j5 _ (by simp; omega)] at hr
        rw [mset_at _ (P0 ++ [r]) R c j6 _ (by simp; omega)] at hr
        simpa using hr
      · rcases List.mem_cons.mp hq with h9 | h9
        · rw [h9]; omega
        · exact hR q h9
set_option maxHeartbeats 1000000 in
set_option maxRecDepth 100000 in
theorem c_X5_comesHint (l : Launch) {w : mW} {h : Nat} {sg : List Int} {fo : List (Int × Int × Int)} {hi : List (Int × Int)} {j1 j2 j3 j4 j5 j6 : List Int} {mo wi nd tb pi lr lc um sm wp wr ac sz ra rn : Int} {M7 M8 M9 M10 M11 M12 M13 M14 M15 M16 M17 M18 M19 M20 M21 M22 M23 : List Int} (hr : rM w h sg.length fo.length hi.length mo wi nd tb pi lr lc um sm wp wr ac sz ra rn (sg ++ j1) (fo.map (fun f => f.1) ++ j2) (fo.map (fun f => f.2.1) ++ j3) (fo.map (fun f => f.2.2) ++ j4) (hi.map (fun q => q.1) ++ j5) (hi.map (fun q => q.2) ++ j6) M7 M8 M9 M10 M11 M12 M13 M14 M15 M16 M17 M18 M19 M20 M21 M22 M23) (a b : Int) (hlt : hi.length ≤ 4) : Ci l yX5_comesHint cX5_comesHint 4 (some .int) 0 [vr h, vi a, vi b] w (fun z w' => ∃ (l' : List (Int × Int)) (j5' j6' : List Int), insK (fun q => q.1) (a, b) hi l' z ∧ rM w' h sg.length fo.length l'.length mo wi nd tb pi lr lc um sm wp wr ac sz ra rn (sg ++ j1) (fo.map (fun f => f.1) ++ j2) (fo.map (fun f => f.2.1) ++ j3) (fo.map (fun f => f.2.2) ++ j4) (l'.map (fun f => f.1) ++ j5') (l'.map (fun f => f.2) ++ j6') M7 M8 M9 M10 M11 M12 M13 M14 M15 M16 M17 M18 M19 M20 M21 M22 M23 ∧ frR w w' h (h + 23)) := by
  refine Ci.of (ml := [some (vr h), some (vi a), some (vi b), none]) kyX5_comesHint rfl (Nat.le_of_ble_eq_true rfl) rfl ?_
  intro t n C hQ
  have hf : frR w w h (h + 23) := frR.rf
  have l1 := hr.l1
  have l2 := hr.l2
  have l3 := hr.l3
  have l4 := hr.l4
  have l5 := hr.l5
  have l6 := hr.l6
  simp only [List.length_append, List.length_map] at l1 l2 l3 l4 l5 l6
  refine x_aload_n C dX5_comesHint_0 rfl ?_
  refine x_get C dX5_comesHint_1 kfX5_110 hr.o rfl ?_
  refine s_ist4_3 C dX5_comesHint_4 rfl ?_
  obtain ⟨u0, v0, rfl⟩ : ∃ u v, j5 = u :: v := List.exists_cons_of_length_pos (by omega)
  obtain ⟨u1, v1, rfl⟩ : ∃ u v, j6 = u :: v := List.exists_cons_of_length_pos (by omega)
  refine lp_X5_comesHint a b (G := hi) C hQ (fun P R w9 h1 h2 h3 h4 h5 => ?_) hi.length hi [] (u0, u1) hi.length w rfl rfl (by simpa using hr) hf (by simp) (by omega) (fun q hq => by cases hq)
  refine ⟨P ++ (a, b) :: R, v0, v1, ⟨P, R, h3.symm, rfl, rfl, h4, h5⟩, ?_, h2⟩
  rw [← h3] at h1
  simpa [Int.add_assoc] using h1

set_option maxHeartbeats 1000000 in
set_option maxRecDepth 100000 in
theorem lp_X5_goesFold {t : TX} {l : Launch} {n0 : Nat} {w0 : mW} {h : Nat} {mn hc mo wi nd tb pi lr lc um sm wp wr ac sz ra rn : Int} {M1 M5 M6 M7 M8 M9 M10 M11 M12 M13 M14 M15 M16 M17 M18 M19 M20 M21 M22 M23 : List Int} {j2 j3 j4 : List Int} (a : Int) {G : List (Int × Int × Int)} (C : Cb t l cX5_goesFold RX5 3 none 0 0 0) {Q : mW → Prop} (hQ : RQ t 0 0 (fun r n' w' => n' = n0 ∧ r = none ∧ Q w')) (hfin : ∀ (c : Int × Int × Int) (w' : mW), rM w' h mn G.length hc mo wi nd tb pi lr lc um sm wp wr ac sz ra rn M1 ((G ++ [c]).map (fun f => f.1) ++ j2) ((G ++ [c]).map (fun f => f.2.1) ++ j3) ((G ++ [c]).map (fun f => f.2.2) ++ j4) M5 M6 M7 M8 M9 M10 M11 M12 M13 M14 M15 M16 M17 M18 M19 M20 M21 M22 M23 → frR w0 w' h (h + 23) → Q w') : ∀ (R Qs : List (Int × Int × Int)) (c : Int × Int × Int) (g : Int) (w : mW), rM w h mn G.length hc mo wi nd tb pi lr lc um sm wp wr ac sz ra rn M1 ((Qs ++ c :: R).map (fun f => f.1) ++ j2) ((Qs ++ c :: R).map (fun f => f.2.1) ++ j3) ((Qs ++ c :: R).map (fun f => f.2.2) ++ j4) M5 M6 M7 M8 M9 M10 M11 M12 M13 M14 M15 M16 M17 M18 M19 M20 M21 M22 M23 → frR w0 w h (h + 23) → Qs ++ R = G → g = Qs.length → G.length ≤ 4 → J t 0 0 12 [some (vr h), some (vi a), some (vi g)] [] n0 w := by
  intro R
  induction R with
  | nil =>
    intro Qs c g w hr hf hG hg hG4
    rw [List.append_nil] at hG
    subst hG
    refine x_iload_n C dX5_goesFold_12 rfl ?_
    refine x_aload_n C dX5_goesFold_13 rfl ?_
    refine x_get C dX5_goesFold_14 kfX5_107 hr.o rfl ?_
    refine x_icmp_ge (tgt := 68) C dX5_goesFold_17 (by decide) (fun c17 => ?_) (fun c17 => absurd c17 (by omega))
    refine x_vret C hQ dX5_goesFold_68 (Nat.le_refl _) (Nat.le_refl _) ?_
    exact ⟨rfl, rfl, hfin c w hr hf⟩
  | cons r R ih =>
    intro Qs c g w hr hf hG hg hG4
    have hgl : Qs.length + (R.length + 1) = G.length := by rw [← hG]; simp
    have e2 : ((Qs ++ c :: r :: R).map (fun f => f.1) ++ j2).getD (g + 1).toNat 0 = r.1 := gmap_at2 _ Qs R c r j2 (by omega)
    have e3 : ((Qs ++ c :: r :: R).map (fun f => f.2.1) ++ j3).getD (g + 1).toNat 0 = r.2.1 := gmap_at2 _ Qs R c r j3 (by omega)
    have e4 : ((Qs ++ c :: r :: R).map (fun f => f.2.2) ++ j4).getD (g + 1).toNat 0 = r.2.2 := gmap_at2 _ Qs R c r j4 (by omega)
    refine x_iload_n C dX5_goesFold_12 rfl ?_
    refine x_aload_n C dX5_goesFold_13 rfl ?_
    refine x_get C dX5_goesFold_14 kfX5_107 hr.o rfl ?_
    refine x_icmp_ge (tgt := 68) C dX5_goesFold_17 (by decide) (fun c17 => absurd c17 (by omega)) (fun c17 => ?_)
    refine x_aload_n C dX5_goesFold_20 rfl ?_
    refine x_get C dX5_goesFold_21 kfX5_13 hr.o rfl ?_
    refine x_iload_n C dX5_goesFold_24 rfl ?_
    refine x_aload_n C dX5_goesFold_25 rfl ?_
    refine x_get C dX5_goesFold_26 kfX5_13 hr.o rfl ?_
    refine x_iload_n C dX5_goesFold_29 rfl ?_
    refine x_iconst C dX5_goesFold_30 ⟨by decide, by decide⟩ ?_
    refine x_iadd C dX5_goesFold_31 (by first | (unfold iR; omega) | exact ⟨by omega, by omega⟩) ?_
    refine x_iald C dX5_goesFold_32 hr.a2 (by omega) (by rw [hr.l2]; omega) ?_
    rw [e2]
    refine x_iast C dX5_goesFold_33 hr.a2 (by omega) (by rw [hr.l2]; omega) ?_
    refine ab_M_M2 hr hf (by rw [List.length_set]; exact hr.l2) (fun w hr hf => ?_)
    refine x_aload_n C dX5_goesFold_34 rfl ?_
    refine x_get C dX5_goesFold_35 kfX5_16 hr.o rfl ?_
    refine x_iload_n C dX5_goesFold_38 rfl ?_
    refine x_aload_n C dX5_goesFold_39 rfl ?_
    refine x_get C dX5_goesFold_40 kfX5_16 hr.o rfl ?_
    refine x_iload_n C dX5_goesFold_43 rfl ?_
    refine x_iconst C dX5_goesFold_44 ⟨by decide, by decide⟩ ?_
    refine x_iadd C dX5_goesFold_45 (by first | (unfold iR; omega) | exact ⟨by omega, by omega⟩) ?_
    refine x_iald C dX5_goesFold_46 hr.a3 (by omega) (by rw [hr.l3]; omega) ?_
    rw [e3]
    refine x_iast C dX5_goesFold_47 hr.a3 (by omega) (by rw [hr.l3]; omega) ?_
    refine ab_M_M3 hr hf (by rw [List.length_set]; exact hr.l3) (fun w hr hf => ?_)
    refine x_aload_n C dX5_goesFold_48 rfl ?_
    refine x_get C dX5_goesFold_49 kfX5_19 hr.o rfl ?_
    refine x_iload_n C dX5_goesFold_52 rfl ?_
    refine x_aload_n C dX5_goesFold_53 rfl ?_
    refine x_get C dX5_goesFold_54 kfX5_19 hr.o rfl ?_
    refine x_iload_n C dX5_goesFold_57 rfl ?_
    refine x_iconst C dX5_goesFold_58 ⟨by decide, by decide⟩ ?_
    refine x_iadd C dX5_goesFold_59 (by first | (unfold iR; omega) | exact ⟨by omega, by omega⟩) ?_
    refine x_iald C dX5_goesFold_60 hr.a4 (by omega) (by rw [hr.l4]; omega) ?_
    rw [e4]
    refine x_iast C dX5_goesFold_61 hr.a4 (by omega) (by rw [hr.l4]; omega) ?_
    refine ab_M_M4 hr hf (by rw [List.length_set]; exact hr.l4) (fun w hr hf => ?_)
    refine s_inc3_2 C dX5_goesFold_62 rfl (by first | (unfold iR; omega) | exact ⟨by omega, by omega⟩) ?_
    refine x_goto (tgt := 12) C dX5_goesFold_65 (by decide) ?_
    refine ih (Qs ++ [r]) r (g + 1) w ?_ hf (by rw [← hG]; simp) (by simp; omega) hG4
    rw [mset_at _ Qs (r :: R) c j2 _ (by omega)] at hr
    rw [mset_at _ Qs (r :: R) c j3 _ (by omega)] at hr
    rw [mset_at _ Qs (r :: R) c j4 _ (by omega)] at hr
    simpa using hr
set_option maxHeartbeats 1000000 in
set_option maxRecDepth 100000 in
theorem c_X5_goesFold (l : Launch) {w : mW} {h : Nat} {sg : List Int} {fo : List (Int × Int × Int)} {hi : List (Int × Int)} {j1 j2 j3 j4 j5 j6 : List Int} {mo wi nd tb pi lr lc um sm wp wr ac sz ra rn : Int} {M7 M8 M9 M10 M11 M12 M13 M14 M15 M16 M17 M18 M19 M20 M21 M22 M23 : List Int} (hr : rM w h sg.length fo.length hi.length mo wi nd tb pi lr lc um sm wp wr ac sz ra rn (sg ++ j1) (fo.map (fun f => f.1) ++ j2) (fo.map (fun f => f.2.1) ++ j3) (fo.map (fun f => f.2.2) ++ j4) (hi.map (fun q => q.1) ++ j5) (hi.map (fun q => q.2) ++ j6) M7 M8 M9 M10 M11 M12 M13 M14 M15 M16 M17 M18 M19 M20 M21 M22 M23) (a : Int) (ha : 0 ≤ a ∧ a < fo.length) : Cv l yX5_goesFold cX5_goesFold 3 0 [vr h, vi a] w (fun w' => ∃ (j2' j3' j4' : List Int), rM w' h sg.length (dropI fo a).length hi.length mo wi nd tb pi lr lc um sm wp wr ac sz ra rn (sg ++ j1) ((dropI fo a).map (fun f => f.1) ++ j2') ((dropI fo a).map (fun f => f.2.1) ++ j3') ((dropI fo a).map (fun f => f.2.2) ++ j4') (hi.map (fun q => q.1) ++ j5) (hi.map (fun q => q.2) ++ j6) M7 M8 M9 M10 M11 M12 M13 M14 M15 M16 M17 M18 M19 M20 M21 M22 M23 ∧ frR w w' h (h + 23)) := by
  refine Cv.of (ml := [some (vr h), some (vi a), none]) kyX5_goesFold rfl (Nat.le_of_ble_eq_true rfl) rfl ?_
  intro t n C hQ
  have hf : frR w w h (h + 23) := frR.rf
  have l1 := hr.l1
  have l2 := hr.l2
  have l3 := hr.l3
  have l4 := hr.l4
  have l5 := hr.l5
  have l6 := hr.l6
  simp only [List.length_append, List.length_map] at l1 l2 l3 l4 l5 l6
  obtain ⟨P, x, R, rfl, hP⟩ := spl fo a.toNat (by omega)
  have ea : a = P.length := by omega
  have ed : dropI (P ++ x :: R) a = P ++ R := by rw [dropI, if_pos ha, ea, Int.toNat_natCast, erase_at]
  simp only [List.length_append, List.length_cons] at ha l2 l5
  have en : (((P ++ x :: R).length : Nat) : Int) - 1 = ((P ++ R).length : Nat) := by simp; omega
  refine x_aload_n C dX5_goesFold_0 rfl ?_
  refine x_dup C dX5_goesFold_1 rfl ?_
  refine x_get C dX5_goesFold_2 kfX5_107 hr.o rfl ?_
  refine x_iconst C dX5_goesFold_5 ⟨by decide, by decide⟩ ?_
  refine x_isub C dX5_goesFold_6 (by first | (unfold iR; omega) | exact ⟨by omega, by omega⟩) ?_
  refine x_put C dX5_goesFold_7 kfX5_107 kw_5_2 rfl rfl hr.o (Nat.le_of_ble_eq_true rfl) ?_
  refine ab_M_fc hr hf (fun w hr hf => ?_)
  refine x_iload_n C dX5_goesFold_10 rfl ?_
  refine s_ist3_2 C dX5_goesFold_11 rfl ?_
  rw [en] at hr
  refine lp_X5_goesFold a (G := P ++ R) C hQ (fun c9 w9 h1 h2 => ?_) R P x a w hr hf rfl ea (by simp; omega)
  rw [ed]
  exact ⟨c9.1 :: j2, c9.2.1 :: j3, c9.2.2 :: j4, by simpa using h1, h2⟩

set_option maxHeartbeats 1000000 in
set_option maxRecDepth 100000 in
theorem lp_X5_goesHint {t : TX} {l : Launch} {n0 : Nat} {w0 : mW} {h : Nat} {mn fc mo wi nd tb pi lr lc um sm wp wr ac sz ra rn : Int} {M1 M2 M3 M4 M7 M8 M9 M10 M11 M12 M13 M14 M15 M16 M17 M18 M19 M20 M21 M22 M23 : List Int} {j5 j6 : List Int} (a : Int) {G : List (Int × Int)} (C : Cb t l cX5_goesHint RX5 3 none 0 0 0) {Q : mW → Prop} (hQ : RQ t 0 0 (fun r n' w' => n' = n0 ∧ r = none ∧ Q w')) (hfin : ∀ (c : Int × Int) (w' : mW), rM w' h mn fc G.length mo wi nd tb pi lr lc um sm wp wr ac sz ra rn M1 M2 M3 M4 ((G ++ [c]).map (fun f => f.1) ++ j5) ((G ++ [c]).map (fun f => f.2) ++ j6) M7 M8 M9 M10 M11 M12 M13 M14 M15 M16 M17 M18 M19 M20 M21 M22 M23 → frR w0 w' h (h + 23) → Q w') : ∀ (R Qs : List (Int × Int)) (c : Int × Int) (g : Int) (w : mW), rM w h mn fc G.length mo wi nd tb pi lr lc um sm wp wr ac sz ra rn M1 M2 M3 M4 ((Qs ++ c :: R).map (fun f => f.1) ++ j5) ((Qs ++ c :: R).map (fun f => f.2) ++ j6) M7 M8 M9 M10 M11 M12 M13 M14 M15 M16 M17 M18 M19 M20 M21 M22 M23 → frR w0 w h (h + 23) → Qs ++ R = G → g = Qs.length → G.length ≤ 4 → J t 0 0 12 [some (vr h), some (vi a), some (vi g)] [] n0 w := by
  intro R
  induction R with
  | nil =>
    intro Qs c g w hr hf hG hg hG4
    rw [List.append_nil] at hG
    subst hG
    refine x_iload_n C dX5_goesHint_12 rfl ?_
    refine x_aload_n C dX5_goesHint_13 rfl ?_
    refine x_get C dX5_goesHint_14 kfX5_110 hr.o rfl ?_
    refine x_icmp_ge (tgt := 54) C dX5_goesHint_17 (by decide) (fun c17 => ?_) (fun c17 => absurd c17 (by omega))
    refine x_vret C hQ dX5_goesHint_54 (Nat.le_refl _) (Nat.le_refl _) ?_
    exact ⟨rfl, rfl, hfin c w hr hf⟩
  | cons r R ih =>
    intro Qs c g w hr hf hG hg hG4
    have hgl : Qs.length + (R.length + 1) = G.length := by rw [← hG]; simp
    have e5 : ((Qs ++ c :: r :: R).map (fun f => f.1) ++ j5).getD (g + 1).toNat 0 = r.1 := gmap_at2 _ Qs R c r j5 (by omega)
    have e6 : ((Qs ++ c :: r :: R).map (fun f => f.2) ++ j6).getD (g + 1).toNat 0 = r.2 := gmap_at2 _ Qs R c r j6 (by omega)
    refine x_iload_n C dX5_goesHint_12 rfl ?_
    refine x_aload_n C dX5_goesHint_13 rfl ?_
    refine x_get C dX5_goesHint_14 kfX5_110 hr.o rfl ?_
    refine x_icmp_ge (tgt := 54) C dX5_goesHint_17 (by decide) (fun c17 => absurd c17 (by omega)) (fun c17 => ?_)
    refine x_aload_n C dX5_goesHint_20 rfl ?_
    refine x_get C dX5_goesHint_21 kfX5_22 hr.o rfl ?_
    refine x_iload_n C dX5_goesHint_24 rfl ?_
    refine x_aload_n C dX5_goesHint_25 rfl ?_
    refine x_get C dX5_goesHint_26 kfX5_22 hr.o rfl ?_
    refine x_iload_n C dX5_goesHint_29 rfl ?_
    refine x_iconst C dX5_goesHint_30 ⟨by decide, by decide⟩ ?_
    refine x_iadd C dX5_goesHint_31 (by first | (unfold iR; omega) | exact ⟨by omega, by omega⟩) ?_
    refine x_iald C dX5_goesHint_32 hr.a5 (by omega) (by rw [hr.l5]; omega) ?_
    rw [e5]
    refine x_iast C dX5_goesHint_33 hr.a5 (by omega) (by rw [hr.l5]; omega) ?_
    refine ab_M_M5 hr hf (by rw [List.length_set]; exact hr.l5) (fun w hr hf => ?_)
    refine x_aload_n C dX5_goesHint_34 rfl ?_
    refine x_get C dX5_goesHint_35 kfX5_25 hr.o rfl ?_
    refine x_iload_n C dX5_goesHint_38 rfl ?_
    refine x_aload_n C dX5_goesHint_39 rfl ?_
    refine x_get C dX5_goesHint_40 kfX5_25 hr.o rfl ?_
    refine x_iload_n C dX5_goesHint_43 rfl ?_
    refine x_iconst C dX5_goesHint_44 ⟨by decide, by decide⟩ ?_
    refine x_iadd C dX5_goesHint_45 (by first | (unfold iR; omega) | exact ⟨by omega, by omega⟩) ?_
    refine x_iald C dX5_goesHint_46 hr.a6 (by omega) (by rw [hr.l6]; omega) ?_
    rw [e6]
    refine x_iast C dX5_goesHint_47 hr.a6 (by omega) (by rw [hr.l6]; omega) ?_
    refine ab_M_M6 hr hf (by rw [List.length_set]; exact hr.l6) (fun w hr hf => ?_)
    refine s_inc3_2 C dX5_goesHint_48 rfl (by first | (unfold iR; omega) | exact ⟨by omega, by omega⟩) ?_
    refine x_goto (tgt := 12) C dX5_goesHint_51 (by decide) ?_
    refine ih (Qs ++ [r]) r (g + 1) w ?_ hf (by rw [← hG]; simp) (by simp; omega) hG4
    rw [mset_at _ Qs (r :: R) c j5 _ (by omega)] at hr
    rw [mset_at _ Qs (r :: R) c j6 _ (by omega)] at hr
    simpa using hr
set_option maxHeartbeats 1000000 in
set_option maxRecDepth 100000 in
theorem c_X5_goesHint (l : Launch) {w : mW} {h : Nat} {sg : List Int} {fo : List (Int × Int × Int)} {hi : List (Int × Int)} {j1 j2 j3 j4 j5 j6 : List Int} {mo wi nd tb pi lr lc um sm wp wr ac sz ra rn : Int} {M7 M8 M9 M10 M11 M12 M13 M14 M15 M16 M17 M18 M19 M20 M21 M22 M23 : List Int} (hr : rM w h sg.length fo.length hi.length mo wi nd tb pi lr lc um sm wp wr ac sz ra rn (sg ++ j1) (fo.map (fun f => f.1) ++ j2) (fo.map (fun f => f.2.1) ++ j3) (fo.map (fun f => f.2.2) ++ j4) (hi.map (fun q => q.1) ++ j5) (hi.map (fun q => q.2) ++ j6) M7 M8 M9 M10 M11 M12 M13 M14 M15 M16 M17 M18 M19 M20 M21 M22 M23) (a : Int) (ha : 0 ≤ a ∧ a < hi.length) : Cv l yX5_goesHint cX5_goesHint 3 0 [vr h, vi a] w (fun w' => ∃ (j5' j6' : List Int), rM w' h sg.length fo.length (dropI hi a).length mo wi nd tb pi lr lc um sm wp wr ac sz ra rn (sg ++ j1) (fo.map (fun f => f.1) ++ j2) (fo.map (fun f => f.2.1) ++ j3) (fo.map (fun f => f.2.2) ++ j4) ((dropI hi a).map (fun f => f.1) ++ j5') ((dropI hi a).map (fun f => f.2) ++ j6') M7 M8 M9 M10 M11 M12 M13 M14 M15 M16 M17 M18 M19 M20 M21 M22 M23 ∧ frR w w' h (h + 23)) := by
  refine Cv.of (ml := [some (vr h), some (vi a), none]) kyX5_goesHint rfl (Nat.le_of_ble_eq_true rfl) rfl ?_
  intro t n C hQ
  have hf : frR w w h (h + 23) := frR.rf
  have l1 := hr.l1
  have l2 := hr.l2
  have l3 := hr.l3
  have l4 := hr.l4
  have l5 := hr.l5
  have l6 := hr.l6
  simp only [List.length_append, List.length_map] at l1 l2 l3 l4 l5 l6
  obtain ⟨P, x, R, rfl, hP⟩ := spl hi a.toNat (by omega)
  have ea : a = P.length := by omega
  have ed : dropI (P ++ x :: R) a = P ++ R := by rw [dropI, if_pos ha, ea, Int.toNat_natCast, erase_at]
  simp only [List.length_append, List.length_cons] at ha l2 l5
  have en : (((P ++ x :: R).length : Nat) : Int) - 1 = ((P ++ R).length : Nat) := by simp; omega
  refine x_aload_n C dX5_goesHint_0 rfl ?_
  refine x_dup C dX5_goesHint_1 rfl ?_
  refine x_get C dX5_goesHint_2 kfX5_110 hr.o rfl ?_
  refine x_iconst C dX5_goesHint_5 ⟨by decide, by decide⟩ ?_
  refine x_isub C dX5_goesHint_6 (by first | (unfold iR; omega) | exact ⟨by omega, by omega⟩) ?_
  refine x_put C dX5_goesHint_7 kfX5_110 kw_5_6 rfl rfl hr.o (Nat.le_of_ble_eq_true rfl) ?_
  refine ab_M_hc hr hf (fun w hr hf => ?_)
  refine x_iload_n C dX5_goesHint_10 rfl ?_
  refine s_ist3_2 C dX5_goesHint_11 rfl ?_
  rw [en] at hr
  refine lp_X5_goesHint a (G := P ++ R) C hQ (fun c9 w9 h1 h2 => ?_) R P x a w hr hf rfl ea (by simp; omega)
  rw [ed]
  exact ⟨c9.1 :: j5, c9.2 :: j6, by simpa using h1, h2⟩

set_option maxHeartbeats 1000000 in
set_option maxRecDepth 100000 in
theorem lp_X5_isApart {t : TX} {l : Launch} {n0 : Nat} {w : mW} {h : Nat} {sg : List Int} {fo : List (Int × Int × Int)} {hi : List (Int × Int)} {j1 j2 j3 j4 j5 j6 : List Int} {mo wi nd tb pi lr lc um sm wp wr ac sz ra rn : Int} {M7 M8 M9 M10 M11 M12 M13 M14 M15 M16 M17 M18 M19 M20 M21 M22 M23 : List Int} (hr : rM w h sg.length fo.length hi.length mo wi nd tb pi lr lc um sm wp wr ac sz ra rn (sg ++ j1) (fo.map (fun f => f.1) ++ j2) (fo.map (fun f => f.2.1) ++ j3) (fo.map (fun f => f.2.2) ++ j4) (hi.map (fun q => q.1) ++ j5) (hi.map (fun q => q.2) ++ j6) M7 M8 M9 M10 M11 M12 M13 M14 M15 M16 M17 M18 M19 M20 M21 M22 M23) (a b : Int) (C : Cb t l cX5_isApart RX5 5 (some .boolean) 0 0 0) {Q : Int → Prop} (hQ : RQ t 0 0 (fun r n' w' => n' = n0 ∧ w' = w ∧ ∃ z : Int, r = some (vi z) ∧ Q z)) : ∀ (R P : List (Int × Int × Int)) (k z : Int), fo = P ++ R → k = P.length → (z = 0 ∨ z = 1) → Q (if z = 1 ∧ R.any (fun q => decide (a < q.2.1 ∧ q.1 < b)) = false then 1 else 0) → J t 0 0 5 [some (vr h), some (vi a), some (vi b), some (vi z), some (vi k)] [] n0 w := by
  have l1 := hr.l1
  have l2 := hr.l2
  have l3 := hr.l3
  have l4 := hr.l4
  have l5 := hr.l5
  have l6 := hr.l6
  simp only [List.length_append, List.length_map] at l1 l2 l3 l4 l5 l6
  intro R
  induction R with
  | nil =>
    intro P k z hP hk hz hq
    have hl : fo.length = P.length := by rw [hP]; simp
    refine x_iload C dX5_isApart_5 rfl ?_
    refine x_aload_n C dX5_isApart_7 rfl ?_
    refine x_get C dX5_isApart_8 kfX5_107 hr.o rfl ?_
    refine x_icmp_ge (tgt := 52) C dX5_isApart_11 (by decide) (fun c11 => ?_) (fun c11 => absurd c11 (by omega))
    refine x_iload_n C dX5_isApart_52 rfl ?_
    refine x_zret C hQ dX5_isApart_53 (by first | exact Or.inl rfl | exact Or.inr rfl | omega) (Nat.le_refl _) (Nat.le_refl _) ?_
    refine ⟨rfl, rfl, _, rfl, ?_⟩
    rcases hz with hz | hz <;> subst hz <;> simpa using hq
  | cons r R ih =>
    intro P k z hP hk hz hq
    have hl : fo.length = P.length + (R.length + 1) := by rw [hP]; simp
    have e2 : (fo.map (fun f => f.1) ++ j2).getD k.toNat 0 = r.1 := by rw [hP]; exact gmap_at _ P R r j2 hk
    have e3 : (fo.map (fun f => f.2.1) ++ j3).getD k.toNat 0 = r.2.1 := by rw [hP]; exact gmap_at _ P R r j3 hk
    refine x_iload C dX5_isApart_5 rfl ?_
    refine x_aload_n C dX5_isApart_7 rfl ?_
    refine x_get C dX5_isApart_8 kfX5_107 hr.o rfl ?_
    refine x_icmp_ge (tgt := 52) C dX5_isApart_11 (by decide) (fun c11 => absurd c11 (by omega)) (fun c11 => ?_)
    refine x_iload_n C dX5_isApart_14 rfl ?_
    refine x_if_eq (tgt := 44) C dX5_isApart_15 (by decide) (fun c15 => ?_) (fun c15 => ?_)
    · refine x_iconst C dX5_isApart_44 ⟨by decide, by decide⟩ ?_
      refine s_ist5_3 C dX5_isApart_45 rfl ?_
      refine s_inc5_4 C dX5_isApart_46 rfl (by first | (unfold iR; omega) | exact ⟨by omega, by omega⟩) ?_
      refine x_goto (tgt := 5) C dX5_isApart_49 (by decide) ?_
      refine ih (P ++ [r]) (k + 1) 0 (by rw [hP]; simp) (by simp; omega) (by omega) ?_
      rw [List.any_cons] at hq
      rw [show z = 0 by omega] at hq
      simpa using hq
    · refine x_iload_n C dX5_isApart_18 rfl ?_
      refine x_aload_n C dX5_isApart_19 rfl ?_
      refine x_get C dX5_isApart_20 kfX5_13 hr.o rfl ?_
      refine x_iload C dX5_isApart_23 rfl ?_
      refine x_iald C dX5_isApart_25 hr.a2 (by omega) (by rw [hr.l2]; omega) ?_
      rw [e2]
      refine x_icmp_le (tgt := 40) C dX5_isApart_26 (by decide) (fun c26 => ?_) (fun c26 => ?_)
      · refine x_iconst C dX5_isApart_40 ⟨by decide, by decide⟩ ?_
        refine x_goto (tgt := 45) C dX5_isApart_41 (by decide) ?_
        refine s_ist5_3 C dX5_isApart_45 rfl ?_
        refine s_inc5_4 C dX5_isApart_46 rfl (by first | (unfold iR; omega) | exact ⟨by omega, by omega⟩) ?_
        refine x_goto (tgt := 5) C dX5_isApart_49 (by decide) ?_
        refine ih (P ++ [r]) (k + 1) 1 (by rw [hP]; simp) (by simp; omega) (by omega) ?_
        rw [List.any_cons] at hq
        rw [show decide (a < r.2.1 ∧ r.1 < b) = false by simp; omega, Bool.false_or] at hq
        rw [show z = 1 by omega] at hq
        exact hq
      · refine x_iload_n C dX5_isApart_29 rfl ?_
        refine x_aload_n C dX5_isApart_30 rfl ?_
        refine x_get C dX5_isApart_31 kfX5_16 hr.o rfl ?_
        refine x_iload C dX5_isApart_34 rfl ?_
        refine x_iald C dX5_isApart_36 hr.a3 (by omega) (by rw [hr.l3]; omega) ?_
        rw [e3]
        refine x_icmp_lt (tgt := 44) C dX5_isApart_37 (by decide) (fun c37 => ?_) (fun c37 => ?_)
        · refine x_iconst C dX5_isApart_44 ⟨by decide, by decide⟩ ?_
          refine s_ist5_3 C dX5_isApart_45 rfl ?_
          refine s_inc5_4 C dX5_isApart_46 rfl (by first | (unfold iR; omega) | exact ⟨by omega, by omega⟩) ?_
          refine x_goto (tgt := 5) C dX5_isApart_49 (by decide) ?_
          refine ih (P ++ [r]) (k + 1) 0 (by rw [hP]; simp) (by simp; omega) (by omega) ?_
          rw [List.any_cons] at hq
          rw [show decide (a < r.2.1 ∧ r.1 < b) = true by simp; omega, Bool.true_or] at hq
          simpa using hq
        · refine x_iconst C dX5_isApart_40 ⟨by decide, by decide⟩ ?_
          refine x_goto (tgt := 45) C dX5_isApart_41 (by decide) ?_
          refine s_ist5_3 C dX5_isApart_45 rfl ?_
          refine s_inc5_4 C dX5_isApart_46 rfl (by first | (unfold iR; omega) | exact ⟨by omega, by omega⟩) ?_
          refine x_goto (tgt := 5) C dX5_isApart_49 (by decide) ?_
          refine ih (P ++ [r]) (k + 1) 1 (by rw [hP]; simp) (by simp; omega) (by omega) ?_
          rw [List.any_cons] at hq
          rw [show decide (a < r.2.1 ∧ r.1 < b) = false by simp; omega, Bool.false_or] at hq
          rw [show z = 1 by omega] at hq
          exact hq

set_option maxHeartbeats 1000000 in
set_option maxRecDepth 100000 in
theorem c_X5_isApart (l : Launch) {w : mW} {h : Nat} {sg : List Int} {fo : List (Int × Int × Int)} {hi : List (Int × Int)} {j1 j2 j3 j4 j5 j6 : List Int} {mo wi nd tb pi lr lc um sm wp wr ac sz ra rn : Int} {M7 M8 M9 M10 M11 M12 M13 M14 M15 M16 M17 M18 M19 M20 M21 M22 M23 : List Int} (hr : rM w h sg.length fo.length hi.length mo wi nd tb pi lr lc um sm wp wr ac sz ra rn (sg ++ j1) (fo.map (fun f => f.1) ++ j2) (fo.map (fun f => f.2.1) ++ j3) (fo.map (fun f => f.2.2) ++ j4) (hi.map (fun q => q.1) ++ j5) (hi.map (fun q => q.2) ++ j6) M7 M8 M9 M10 M11 M12 M13 M14 M15 M16 M17 M18 M19 M20 M21 M22 M23) (a b : Int) : Cp l yX5_isApart cX5_isApart 5 (some .boolean) 0 [vr h, vi a, vi b] w (fun z => z = if fo.any (fun q => decide (a < q.2.1 ∧ q.1 < b)) = true then 0 else 1) := by
  refine Cp.of (ml := [some (vr h), some (vi a), some (vi b), none, none]) kyX5_isApart rfl (Nat.le_of_ble_eq_true rfl) rfl ?_
  intro t n C hQ
  have l1 := hr.l1
  have l2 := hr.l2
  have l3 := hr.l3
  have l4 := hr.l4
  have l5 := hr.l5
  have l6 := hr.l6
  simp only [List.length_append, List.length_map] at l1 l2 l3 l4 l5 l6
  refine x_iconst C dX5_isApart_0 ⟨by decide, by decide⟩ ?_
  refine s_ist5_3 C dX5_isApart_1 rfl ?_
  refine x_iconst C dX5_isApart_2 ⟨by decide, by decide⟩ ?_
  refine s_is5_4 C dX5_isApart_3 rfl ?_
  exact lp_X5_isApart hr a b C hQ fo [] 0 1 rfl rfl (Or.inr rfl) (by cases fo.any (fun q => decide (a < q.2.1 ∧ q.1 < b)) <;> simp)

set_option maxHeartbeats 1000000 in
set_option maxRecDepth 100000 in
theorem lp_X5_hintOf {t : TX} {l : Launch} {n0 : Nat} {w : mW} {h : Nat} {sg : List Int} {fo : List (Int × Int × Int)} {hi : List (Int × Int)} {j1 j2 j3 j4 j5 j6 : List Int} {mo wi nd tb pi lr lc um sm wp wr ac sz ra rn : Int} {M7 M8 M9 M10 M11 M12 M13 M14 M15 M16 M17 M18 M19 M20 M21 M22 M23 : List Int} (hr : rM w h sg.length fo.length hi.length mo wi nd tb pi lr lc um sm wp wr ac sz ra rn (sg ++ j1) (fo.map (fun f => f.1) ++ j2) (fo.map (fun f => f.2.1) ++ j3) (fo.map (fun f => f.2.2) ++ j4) (hi.map (fun q => q.1) ++ j5) (hi.map (fun q => q.2) ++ j6) M7 M8 M9 M10 M11 M12 M13 M14 M15 M16 M17 M18 M19 M20 M21 M22 M23) (a : Int) (C : Cb t l cX5_hintOf RX5 4 (some .int) 0 0 0) {Q : Int → Prop} (hQ : RQ t 0 0 (fun r n' w' => n' = n0 ∧ w' = w ∧ ∃ z : Int, r = some (vi z) ∧ Q z)) : ∀ (R P : List (Int × Int)) (k z : Int), hi = P ++ R → k = P.length → Q (lst (pH a) R k z) → J t 0 0 5 [some (vr h), some (vi a), some (vi z), some (vi k)] [] n0 w := by
  have l1 := hr.l1
  have l2 := hr.l2
  have l3 := hr.l3
  have l4 := hr.l4
  have l5 := hr.l5
  have l6 := hr.l6
  simp only [List.length_append, List.length_map] at l1 l2 l3 l4 l5 l6
  intro R
  induction R with
  | nil =>
    intro P k z hP hk hq
    have hl : hi.length = P.length := by rw [hP]; simp
    refine x_iload_n C dX5_hintOf_5 rfl ?_
    refine x_aload_n C dX5_hintOf_6 rfl ?_
    refine x_get C dX5_hintOf_7 kfX5_110 hr.o rfl ?_
    refine x_icmp_ge (tgt := 35) C dX5_hintOf_10 (by decide) (fun c10 => ?_) (fun c10 => absurd c10 (by omega))
    refine x_iload_n C dX5_hintOf_35 rfl ?_
    refine x_iret C hQ dX5_hintOf_36 (Nat.le_refl _) (Nat.le_refl _) ?_
    exact ⟨rfl, rfl, _, rfl, hq⟩
  | cons r R ih =>
    intro P k z hP hk hq
    have hl : hi.length = P.length + (R.length + 1) := by rw [hP]; simp
    have e5 : (hi.map (fun f => f.1) ++ j5).getD k.toNat 0 = r.1 := by rw [hP]; exact gmap_at _ P R r j5 hk
    rw [lst] at hq
    refine x_iload_n C dX5_hintOf_5 rfl ?_
    refine x_aload_n C dX5_hintOf_6 rfl ?_
    refine x_get C dX5_hintOf_7 kfX5_110 hr.o rfl ?_
    refine x_icmp_ge (tgt := 35) C dX5_hintOf_10 (by decide) (fun c10 => absurd c10 (by omega)) (fun c10 => ?_)
    refine x_aload_n C dX5_hintOf_13 rfl ?_
    refine x_get C dX5_hintOf_14 kfX5_22 hr.o rfl ?_
    refine x_iload_n C dX5_hintOf_17 rfl ?_
    refine x_iald C dX5_hintOf_18 hr.a5 (by omega) (by rw [hr.l5]; omega) ?_
    rw [e5]
    refine x_iload_n C dX5_hintOf_19 rfl ?_
    refine x_icmp_ne (tgt := 27) C dX5_hintOf_20 (by decide) (fun c20 => ?_) (fun c20 => ?_)
    · refine x_iload_n C dX5_hintOf_27 rfl ?_
      refine s_ist4_2 C dX5_hintOf_28 rfl ?_
      refine s_inc4_3 C dX5_hintOf_29 rfl (by first | (unfold iR; omega) | exact ⟨by omega, by omega⟩) ?_
      refine x_goto (tgt := 5) C dX5_hintOf_32 (by decide) ?_
      exact ih (P ++ [r]) (k + 1) _ (by rw [hP]; simp) (by simp; omega) (by rw [if_neg (by simp [pH]; omega)] at hq; exact hq)
    · refine x_iload_n C dX5_hintOf_23 rfl ?_
      refine x_goto (tgt := 28) C dX5_hintOf_24 (by decide) ?_
      refine s_ist4_2 C dX5_hintOf_28 rfl ?_
      refine s_inc4_3 C dX5_hintOf_29 rfl (by first | (unfold iR; omega) | exact ⟨by omega, by omega⟩) ?_
      refine x_goto (tgt := 5) C dX5_hintOf_32 (by decide) ?_
      exact ih (P ++ [r]) (k + 1) _ (by rw [hP]; simp) (by simp; omega) (by rw [if_pos (by simp [pH]; omega)] at hq; exact hq)

set_option maxHeartbeats 1000000 in
set_option maxRecDepth 100000 in
theorem c_X5_hintOf (l : Launch) {w : mW} {h : Nat} {sg : List Int} {fo : List (Int × Int × Int)} {hi : List (Int × Int)} {j1 j2 j3 j4 j5 j6 : List Int} {mo wi nd tb pi lr lc um sm wp wr ac sz ra rn : Int} {M7 M8 M9 M10 M11 M12 M13 M14 M15 M16 M17 M18 M19 M20 M21 M22 M23 : List Int} (hr : rM w h sg.length fo.length hi.length mo wi nd tb pi lr lc um sm wp wr ac sz ra rn (sg ++ j1) (fo.map (fun f => f.1) ++ j2) (fo.map (fun f => f.2.1) ++ j3) (fo.map (fun f => f.2.2) ++ j4) (hi.map (fun q => q.1) ++ j5) (hi.map (fun q => q.2) ++ j6) M7 M8 M9 M10 M11 M12 M13 M14 M15 M16 M17 M18 M19 M20 M21 M22 M23) (hp : hi.Pairwise (fun a b => a.1 < b.1)) (a : Int) : Cp l yX5_hintOf cX5_hintOf 4 (some .int) 0 [vr h, vi a] w (fun z => z = fI4 (pH a) hi) := by
  refine Cp.of (ml := [some (vr h), some (vi a), none, none]) kyX5_hintOf rfl (Nat.le_of_ble_eq_true rfl) rfl ?_
  intro t n C hQ
  refine x_bipush C dX5_hintOf_0 ⟨by decide, by decide⟩ ?_
  refine s_ist4_2 C dX5_hintOf_2 rfl ?_
  refine x_iconst C dX5_hintOf_3 ⟨by decide, by decide⟩ ?_
  refine s_ist4_3 C dX5_hintOf_4 rfl ?_
  exact lp_X5_hintOf hr a C hQ hi [] 0 (-4) rfl rfl (lst4 (pw_pH hp a))

set_option maxHeartbeats 1000000 in
set_option maxRecDepth 100000 in
theorem lp_X5_shutOf {t : TX} {l : Launch} {n0 : Nat} {w : mW} {h : Nat} {sg : List Int} {fo : List (Int × Int × Int)} {hi : List (Int × Int)} {j1 j2 j3 j4 j5 j6 : List Int} {mo wi nd tb pi lr lc um sm wp wr ac sz ra rn : Int} {M7 M8 M9 M10 M11 M12 M13 M14 M15 M16 M17 M18 M19 M20 M21 M22 M23 : List Int} (hr : rM w h sg.length fo.length hi.length mo wi nd tb pi lr lc um sm wp wr ac sz ra rn (sg ++ j1) (fo.map (fun f => f.1) ++ j2) (fo.map (fun f => f.2.1) ++ j3) (fo.map (fun f => f.2.2) ++ j4) (hi.map (fun q => q.1) ++ j5) (hi.map (fun q => q.2) ++ j6) M7 M8 M9 M10 M11 M12 M13 M14 M15 M16 M17 M18 M19 M20 M21 M22 M23) (hw : ∀ f ∈ fo, (0 ≤ f.1 ∧ f.1 ≤ 100) ∧ (0 ≤ f.2.1 ∧ f.2.1 ≤ 100) ∧ (f.2.2 = 0 ∨ f.2.2 = 1)) (a : Int) (C : Cb t l cX5_shutOf RX5 4 (some .int) 1 0 0) {Q : Int → Prop} (hQ : RQ t 0 0 (fun r n' w' => n' = n0 ∧ w' = w ∧ ∃ z : Int, r = some (vi z) ∧ Q z)) : ∀ (R P : List (Int × Int × Int)) (k z : Int), fo = P ++ R → k = P.length → Q (lst (pS a) R k z) → J t 0 0 5 [some (vr h), some (vi a), some (vi z), some (vi k)] [] n0 w := by
  have l1 := hr.l1
  have l2 := hr.l2
  have l3 := hr.l3
  have l4 := hr.l4
  have l5 := hr.l5
  have l6 := hr.l6
  simp only [List.length_append, List.length_map] at l1 l2 l3 l4 l5 l6
  intro R
  induction R with
  | nil =>
    intro P k z hP hk hq
    have hl : fo.length = P.length := by rw [hP]; simp
    refine x_iload_n C dX5_shutOf_5 rfl ?_
    refine x_aload_n C dX5_shutOf_6 rfl ?_
    refine x_get C dX5_shutOf_7 kfX5_107 hr.o rfl ?_
    refine x_icmp_ge (tgt := 56) C dX5_shutOf_10 (by decide) (fun c10 => ?_) (fun c10 => absurd c10 (by omega))
    refine x_iload_n C dX5_shutOf_56 rfl ?_
    refine x_iret C hQ dX5_shutOf_57 (Nat.le_refl _) (Nat.le_refl _) ?_
    exact ⟨rfl, rfl, _, rfl, hq⟩
  | cons r R ih =>
    intro P k z hP hk hq
    have hl : fo.length = P.length + (R.length + 1) := by rw [hP]; simp
    have hwr := hw r (by rw [hP]; simp)
    have e2 : (fo.map (fun f => f.1) ++ j2).getD k.toNat 0 = r.1 := by rw [hP]; exact gmap_at _ P R r j2 hk
    have e3 : (fo.map (fun f => f.2.1) ++ j3).getD k.toNat 0 = r.2.1 := by rw [hP]; exact gmap_at _ P R r j3 hk
    have e4 : (fo.map (fun f => f.2.2) ++ j4).getD k.toNat 0 = r.2.2 := by rw [hP]; exact gmap_at _ P R r j4 hk
    rw [lst] at hq
    refine x_iload_n C dX5_shutOf_5 rfl ?_
    refine x_aload_n C dX5_shutOf_6 rfl ?_
    refine x_get C dX5_shutOf_7 kfX5_107 hr.o rfl ?_
    refine x_icmp_ge (tgt := 56) C dX5_shutOf_10 (by decide) (fun c10 => absurd c10 (by omega)) (fun c10 => ?_)
    refine x_aload_n C dX5_shutOf_13 rfl ?_
    refine x_get C dX5_shutOf_14 kfX5_19 hr.o rfl ?_
    refine x_iload_n C dX5_shutOf_17 rfl ?_
    refine x_iald C dX5_shutOf_18 hr.a4 (by omega) (by rw [hr.l4]; omega) ?_
    rw [e4]
    refine x_iconst C dX5_shutOf_19 ⟨by decide, by decide⟩ ?_
    refine x_icmp_ne (tgt := 48) C dX5_shutOf_20 (by decide) (fun c20 => ?_) (fun c20 => ?_)
    · refine x_iload_n C dX5_shutOf_48 rfl ?_
      refine s_ist4_2 C dX5_shutOf_49 rfl ?_
      refine s_inc4_3 C dX5_shutOf_50 rfl (by first | (unfold iR; omega) | exact ⟨by omega, by omega⟩) ?_
      refine x_goto (tgt := 5) C dX5_shutOf_53 (by decide) ?_
      exact ih (P ++ [r]) (k + 1) _ (by rw [hP]; simp) (by simp; omega) (by rw [if_neg (by simp [pS]; omega)] at hq; exact hq)
    · refine x_iload_n C dX5_shutOf_23 rfl ?_
      refine x_aload_n C dX5_shutOf_24 rfl ?_
      refine x_get C dX5_shutOf_25 kfX5_13 hr.o rfl ?_
      refine x_iload_n C dX5_shutOf_28 rfl ?_
      refine x_iald C dX5_shutOf_29 hr.a2 (by omega) (by rw [hr.l2]; omega) ?_
      rw [e2]
      refine x_aload_n C dX5_shutOf_30 rfl ?_
      refine x_get C dX5_shutOf_31 kfX5_16 hr.o rfl ?_
      refine x_iload_n C dX5_shutOf_34 rfl ?_
      refine x_iald C dX5_shutOf_35 hr.a3 (by omega) (by rw [hr.l3]; omega) ?_
      rw [e3]
      refine x_iconst C dX5_shutOf_36 ⟨by decide, by decide⟩ ?_
      refine x_isub C dX5_shutOf_37 (by first | (unfold iR; omega) | exact ⟨by omega, by omega⟩) ?_
      refine z_p3 C dX5_shutOf_38 kyX5_in ksX5_in kmX5_103 (c_X5_in l a r.1 (r.2.1 - 1)) (by decide) (Nat.zero_le _) (Nat.zero_le _) (Nat.le_of_ble_eq_true rfl) (fun z38 q38 => ?_)
      refine x_if_eq (tgt := 48) C dX5_shutOf_41 (by decide) (fun c41 => ?_) (fun c41 => ?_)
      · refine x_iload_n C dX5_shutOf_48 rfl ?_
        refine s_ist4_2 C dX5_shutOf_49 rfl ?_
        refine s_inc4_3 C dX5_shutOf_50 rfl (by first | (unfold iR; omega) | exact ⟨by omega, by omega⟩) ?_
        refine x_goto (tgt := 5) C dX5_shutOf_53 (by decide) ?_
        exact ih (P ++ [r]) (k + 1) _ (by rw [hP]; simp) (by simp; omega) (by rw [if_neg (by simp [pS]; omega)] at hq; exact hq)
      · refine x_iload_n C dX5_shutOf_44 rfl ?_
        refine x_goto (tgt := 49) C dX5_shutOf_45 (by decide) ?_
        refine s_ist4_2 C dX5_shutOf_49 rfl ?_
        refine s_inc4_3 C dX5_shutOf_50 rfl (by first | (unfold iR; omega) | exact ⟨by omega, by omega⟩) ?_
        refine x_goto (tgt := 5) C dX5_shutOf_53 (by decide) ?_
        exact ih (P ++ [r]) (k + 1) _ (by rw [hP]; simp) (by simp; omega) (by rw [if_pos (by simp [pS]; omega)] at hq; exact hq)

set_option maxHeartbeats 1000000 in
set_option maxRecDepth 100000 in
theorem c_X5_shutOf (l : Launch) {w : mW} {h : Nat} {sg : List Int} {fo : List (Int × Int × Int)} {hi : List (Int × Int)} {j1 j2 j3 j4 j5 j6 : List Int} {mo wi nd tb pi lr lc um sm wp wr ac sz ra rn : Int} {M7 M8 M9 M10 M11 M12 M13 M14 M15 M16 M17 M18 M19 M20 M21 M22 M23 : List Int} (hr : rM w h sg.length fo.length hi.length mo wi nd tb pi lr lc um sm wp wr ac sz ra rn (sg ++ j1) (fo.map (fun f => f.1) ++ j2) (fo.map (fun f => f.2.1) ++ j3) (fo.map (fun f => f.2.2) ++ j4) (hi.map (fun q => q.1) ++ j5) (hi.map (fun q => q.2) ++ j6) M7 M8 M9 M10 M11 M12 M13 M14 M15 M16 M17 M18 M19 M20 M21 M22 M23) (hw : ∀ f ∈ fo, (0 ≤ f.1 ∧ f.1 ≤ 100) ∧ (0 ≤ f.2.1 ∧ f.2.1 ≤ 100) ∧ (f.2.2 = 0 ∨ f.2.2 = 1)) (hp : fo.Pairwise (fun a b => a.2.1 ≤ b.1)) (a : Int) : Cp l yX5_shutOf cX5_shutOf 4 (some .int) 1 [vr h, vi a] w (fun z => z = fI4 (pS a) fo) := by
  refine Cp.of (ml := [some (vr h), some (vi a), none, none]) kyX5_shutOf rfl (Nat.le_of_ble_eq_true rfl) rfl ?_
  intro t n C hQ
  refine x_bipush C dX5_shutOf_0 ⟨by decide, by decide⟩ ?_
  refine s_ist4_2 C dX5_shutOf_2 rfl ?_
  refine x_iconst C dX5_shutOf_3 ⟨by decide, by decide⟩ ?_
  refine s_ist4_3 C dX5_shutOf_4 rfl ?_
  exact lp_X5_shutOf hr hw a C hQ fo [] 0 (-4) rfl rfl (lst4 (pw_pS hp a))

theorem fI4_c {α : Type} (p : α → Bool) (l : List α) : (fI4 p l = -4 ∧ l.find? p = none) ∨ (0 ≤ fI4 p l ∧ fI4 p l < l.length ∧ fI4 p l = fIdx p l 0 ∧ ∀ (f : α → Int) (j : List Int), ∃ x, l.find? p = some x ∧ (l.map f ++ j).getD (fI4 p l).toNat 0 = f x) := by
  unfold fI4
  by_cases h : fIdx p l 0 < 0
  · rw [if_pos h]; exact Or.inl ⟨rfl, fIdx_none p l h⟩
  · rw [if_neg h]
    refine Or.inr ⟨by omega, ?_, rfl, fun f j => ?_⟩
    · obtain ⟨x, h1, h2, h3⟩ := fIdx_find p l (fun _ => 0) [] (by omega)
      exact h2
    · obtain ⟨x, h1, h2, h3⟩ := fIdx_find p l f j (by omega)
      exact ⟨x, h1, h3⟩

set_option maxHeartbeats 1000000 in
set_option maxRecDepth 100000 in
theorem c_X5_isShown (l : Launch) {w : mW} {h : Nat} {sg : List Int} {fo : List (Int × Int × Int)} {hi : List (Int × Int)} {j1 j2 j3 j4 j5 j6 : List Int} {mo wi nd tb pi lr lc um sm wp wr ac sz ra rn : Int} {M7 M8 M9 M10 M11 M12 M13 M14 M15 M16 M17 M18 M19 M20 M21 M22 M23 : List Int} (hr : rM w h sg.length fo.length hi.length mo wi nd tb pi lr lc um sm wp wr ac sz ra rn (sg ++ j1) (fo.map (fun f => f.1) ++ j2) (fo.map (fun f => f.2.1) ++ j3) (fo.map (fun f => f.2.2) ++ j4) (hi.map (fun q => q.1) ++ j5) (hi.map (fun q => q.2) ++ j6) M7 M8 M9 M10 M11 M12 M13 M14 M15 M16 M17 M18 M19 M20 M21 M22 M23) (hw : ∀ f ∈ fo, (0 ≤ f.1 ∧ f.1 ≤ 100) ∧ (0 ≤ f.2.1 ∧ f.2.1 ≤ 100) ∧ (f.2.2 = 0 ∨ f.2.2 = 1)) (hp : fo.Pairwise (fun a b => a.2.1 ≤ b.1)) (a : Int) : Cp l yX5_isShown cX5_isShown 3 (some .boolean) 2 [vr h, vi a] w (fun z => (z = 0 ∨ z = 1) ∧ (z = 1 ↔ hold fo a = a)) := by
  refine Cp.of (ml := [some (vr h), some (vi a), none]) kyX5_isShown rfl (Nat.le_of_ble_eq_true rfl) rfl ?_
  intro t n C hQ
  have l1 := hr.l1
  have l2 := hr.l2
  have l3 := hr.l3
  have l4 := hr.l4
  have l5 := hr.l5
  have l6 := hr.l6
  simp only [List.length_append, List.length_map] at l1 l2 l3 l4 l5 l6
  refine x_aload_n C dX5_isShown_0 rfl ?_
  refine x_iload_n C dX5_isShown_1 rfl ?_
  refine y_p1 C dX5_isShown_2 kyX5_shutOf knX5_shutOf kmX5_113 hr.o (c_X5_shutOf l hr hw hp a) (by decide) (Nat.zero_le _) (Nat.zero_le _) (Nat.le_of_ble_eq_true rfl) (fun z2 q2 => ?_)
  subst q2
  have hc := fI4_c (pS a) fo
  refine s_ist3_2 C dX5_isShown_5 rfl ?_
  refine x_iload_n C dX5_isShown_6 rfl ?_
  refine x_bipush C dX5_isShown_7 ⟨by decide, by decide⟩ ?_
  refine x_icmp_eq (tgt := 22) C dX5_isShown_9 (by decide) (fun c9 => ?_) (fun c9 => ?_)
  · have hh : hold fo a = a := by
      unfold hold
      rcases hc with hc | hc
      · rw [hc.2]
      · omega
    refine x_iconst C dX5_isShown_22 ⟨by decide, by decide⟩ ?_
    refine x_goto (tgt := 27) C dX5_isShown_23 (by decide) ?_
    refine x_zret C hQ dX5_isShown_27 (by first | exact Or.inl rfl | exact Or.inr rfl | omega) (Nat.le_refl _) (Nat.le_refl _) ?_
    exact ⟨rfl, rfl, _, rfl, by omega, by rw [hh]; simp⟩
  · have hc := hc.resolve_left (fun h9 => c9 h9.1)
    obtain ⟨x9, ex1, ex2⟩ := hc.2.2.2 (fun f => f.1) j2
    have hh : hold fo a = x9.1 := by unfold hold; rw [ex1]
    refine x_aload_n C dX5_isShown_12 rfl ?_
    refine x_get C dX5_isShown_13 kfX5_13 hr.o rfl ?_
    refine x_iload_n C dX5_isShown_16 rfl ?_
    refine x_iald C dX5_isShown_17 hr.a2 (by omega) (by rw [hr.l2]; omega) ?_
    rw [ex2]
    refine x_iload_n C dX5_isShown_18 rfl ?_
    refine x_icmp_ne (tgt := 26) C dX5_isShown_19 (by decide) (fun c19 => ?_) (fun c19 => ?_)
    · refine x_iconst C dX5_isShown_26 ⟨by decide, by decide⟩ ?_
      refine x_zret C hQ dX5_isShown_27 (by first | exact Or.inl rfl | exact Or.inr rfl | omega) (Nat.le_refl _) (Nat.le_refl _) ?_
      exact ⟨rfl, rfl, _, rfl, by omega, by rw [hh]; omega⟩
    · 
      refine x_iconst C dX5_isShown_22 ⟨by decide, by decide⟩ ?_
      refine x_goto (tgt := 27) C dX5_isShown_23 (by decide) ?_
      refine x_zret C hQ dX5_isShown_27 (by first | exact Or.inl rfl | exact Or.inr rfl | omega) (Nat.le_refl _) (Nat.le_refl _) ?_
      exact ⟨rfl, rfl, _, rfl, by omega, by rw [hh]; omega⟩
