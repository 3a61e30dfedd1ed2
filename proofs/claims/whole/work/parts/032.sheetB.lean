/-! ===== DisplayMap.Sheet: what moves folds and hints ===== -/
def isNext (fo : List (Int × Int × Int)) (n a z : Int) : Prop := (a < z ∧ z ≤ n ∧ hold fo z = z ∧ ∀ p, a < p → p < z → hold fo p ≠ p) ∨ (z = -4 ∧ ∀ p, a < p → p ≤ n → hold fo p ≠ p)
def isPrev (fo : List (Int × Int × Int)) (a z : Int) : Prop := (0 ≤ z ∧ z < a ∧ hold fo z = z ∧ ∀ p, z < p → p < a → hold fo p ≠ p) ∨ (z = -4 ∧ ∀ p, 0 ≤ p → p < a → hold fo p ≠ p)
def flip (q : Int × Int × Int) : Int × Int × Int := (q.1, q.2.1, if q.2.2 = 0 then 1 else 0)
def turnF (fo : List (Int × Int × Int)) (a : Int) : List (Int × Int × Int) := if 0 ≤ a ∧ a < fo.length then fo.modify a.toNat flip else fo
def dropI {α : Type} (l : List α) (a : Int) : List α := if 0 ≤ a ∧ a < l.length then l.eraseIdx a.toNat else l
def refF (n : Int) (fo : List (Int × Int × Int)) (a b : Int) : Int := if ¬ (0 ≤ a ∧ a < b ∧ b ≤ n) then -1 else if fo.any (fun q => decide (a < q.2.1 ∧ q.1 < b)) = true then -2 else if fo.length < 4 then 0 else -3
def refH (n : Int) (hi : List (Int × Int)) (a b : Int) : Int := if ¬ ((0 ≤ a ∧ a ≤ n) ∧ 1 ≤ b ∧ b ≤ 5) then -1 else if hi.any (pH a) = true then -2 else if hi.length < 4 then 0 else -3
/-- put in ahead of the last ones whose key is above -/
def insK {α : Type} (key : α → Int) (x : α) (l l' : List α) (z : Int) : Prop := ∃ P R : List α, l = P ++ R ∧ l' = P ++ x :: R ∧ z = P.length ∧ (∀ q ∈ R, key x < key q) ∧ ∀ (P' : List α) (q : α), P = P' ++ [q] → key q ≤ key x

set_option maxHeartbeats 4000000 in
set_option maxRecDepth 100000 in
theorem lp_X2_nextShown {t : TX} {l : Launch} {n0 : Nat} {w : mW} {h : Nat} {sg : List Int} {fo : List (Int × Int × Int)} {hi : List (Int × Int)} {mo wi nd tb : Int} (hS : isSh w h sg fo hi mo wi nd tb) (a : Int) (ha : 0 ≤ a) (C : Cb t l cX2_nextShown RX2 3 (some .int) 3 0 0) {Q : Int → Prop} (hQ : RQ t 0 0 (fun r n' w' => n' = n0 ∧ w' = w ∧ ∃ z : Int, r = some (vi z) ∧ Q z)) (hq : ∀ z, isNext fo sg.length a z → Q z) : ∀ (m : Nat) (p : Int), sg.length + 2 ≤ p + m → a < p → (∀ x, a < x → x < p → hold fo x ≠ x) → p ≤ sg.length + 1 → J t 0 0 4 [some (vr h), some (vi a), some (vi p)] [] n0 w := by
  have hS2 := hS
  have hlen := hS.len
  obtain ⟨j1, j2, j3, j4, j5, j6, hr⟩ := hS
  intro m
  induction m with
  | zero => intro p hm; omega
  | succ m ih =>
    intro p hm hp hno hpn
    refine x_iload_n C dX2_nextShown_4 rfl ?_
    refine x_aload_n C dX2_nextShown_5 rfl ?_
    refine x_get C dX2_nextShown_6 kfX2_31 hr.o rfl ?_
    refine x_icmp_gt (tgt := 28) C dX2_nextShown_9 (by decide) (fun c9 => ?_) (fun c9 => ?_)
    · refine x_bipush C dX2_nextShown_28 ⟨by decide, by decide⟩ ?_
      refine x_iret C hQ dX2_nextShown_30 (Nat.le_refl _) (Nat.le_refl _) ?_
      exact ⟨rfl, rfl, _, rfl, hq (-4) (Or.inr ⟨rfl, fun x h1 h2 => hno x h1 (by omega)⟩)⟩
    · refine x_aload_n C dX2_nextShown_12 rfl ?_
      refine x_iload_n C dX2_nextShown_13 rfl ?_
      refine y_p1 C dX2_nextShown_14 kyX2_isShown knX2_isShown kmX2_103 hr.o (c_X2_isShown l hS2 p) (by decide) (Nat.zero_le _) (Nat.zero_le _) (Nat.le_of_ble_eq_true rfl) (fun z14 q14 => ?_)
      refine x_if_eq (tgt := 22) C dX2_nextShown_17 (by decide) (fun c17 => ?_) (fun c17 => ?_)
      · refine s_inc3_2 C dX2_nextShown_22 rfl (by first | (unfold iR; omega) | exact ⟨by omega, by omega⟩) ?_
        refine x_goto (tgt := 4) C dX2_nextShown_25 (by decide) ?_
        exact ih (p + 1) (by omega) (by omega) (fun x h1 h2 => by
          by_cases hx : x = p
          · subst hx; intro h3; have := q14.2.mpr h3; omega
          · exact hno x h1 (by omega)) (by omega)
      · refine x_iload_n C dX2_nextShown_20 rfl ?_
        refine x_iret C hQ dX2_nextShown_21 (Nat.le_refl _) (Nat.le_refl _) ?_
        exact ⟨rfl, rfl, _, rfl, hq p (Or.inl ⟨by omega, by omega, q14.2.mp (by omega), hno⟩)⟩

set_option maxHeartbeats 4000000 in
set_option maxRecDepth 100000 in
theorem c_X2_nextShown (l : Launch) {w : mW} {h : Nat} {sg : List Int} {fo : List (Int × Int × Int)} {hi : List (Int × Int)} {mo wi nd tb : Int} (hS : isSh w h sg fo hi mo wi nd tb) (a : Int) (ha : 0 ≤ a ∧ a ≤ sg.length) : Cp l yX2_nextShown cX2_nextShown 3 (some .int) 3 [vr h, vi a] w (fun z => isNext fo sg.length a z) := by
  refine Cp.of (ml := [some (vr h), some (vi a), none]) kyX2_nextShown rfl (Nat.le_of_ble_eq_true rfl) rfl ?_
  intro t n C hQ
  have hlen := hS.len
  refine x_iload_n C dX2_nextShown_0 rfl ?_
  refine x_iconst C dX2_nextShown_1 ⟨by decide, by decide⟩ ?_
  refine x_iadd C dX2_nextShown_2 (by first | (unfold iR; omega) | exact ⟨by omega, by omega⟩) ?_
  refine s_ist3_2 C dX2_nextShown_3 rfl ?_
  exact lp_X2_nextShown hS a ha.1 C hQ (fun z hz => hz) 42 (a + 1) (by omega) (by omega) (fun x h1 h2 => by omega) (by omega)

set_option maxHeartbeats 4000000 in
set_option maxRecDepth 100000 in
theorem lp_X2_previousShown {t : TX} {l : Launch} {n0 : Nat} {w : mW} {h : Nat} {sg : List Int} {fo : List (Int × Int × Int)} {hi : List (Int × Int)} {mo wi nd tb : Int} (hS : isSh w h sg fo hi mo wi nd tb) (a : Int) (ha : a ≤ 40) (C : Cb t l cX2_previousShown RX2 3 (some .int) 3 0 0) {Q : Int → Prop} (hQ : RQ t 0 0 (fun r n' w' => n' = n0 ∧ w' = w ∧ ∃ z : Int, r = some (vi z) ∧ Q z)) (hq : ∀ z, isPrev fo a z → Q z) : ∀ (m : Nat) (p : Int), p + 2 ≤ m → p < a → (∀ x, p < x → x < a → hold fo x ≠ x) → -1 ≤ p → J t 0 0 4 [some (vr h), some (vi a), some (vi p)] [] n0 w := by
  have hS2 := hS
  have hlen := hS.len
  obtain ⟨j1, j2, j3, j4, j5, j6, hr⟩ := hS
  intro m
  induction m with
  | zero => intro p hm; omega
  | succ m ih =>
    intro p hm hp hno hpn
    refine x_iload_n C dX2_previousShown_4 rfl ?_
    refine x_if_lt (tgt := 24) C dX2_previousShown_5 (by decide) (fun c5 => ?_) (fun c5 => ?_)
    · refine x_bipush C dX2_previousShown_24 ⟨by decide, by decide⟩ ?_
      refine x_iret C hQ dX2_previousShown_26 (Nat.le_refl _) (Nat.le_refl _) ?_
      exact ⟨rfl, rfl, _, rfl, hq (-4) (Or.inr ⟨rfl, fun x h1 h2 => hno x (by omega) h2⟩)⟩
    · refine x_aload_n C dX2_previousShown_8 rfl ?_
      refine x_iload_n C dX2_previousShown_9 rfl ?_
      refine y_p1 C dX2_previousShown_10 kyX2_isShown knX2_isShown kmX2_103 hr.o (c_X2_isShown l hS2 p) (by decide) (Nat.zero_le _) (Nat.zero_le _) (Nat.le_of_ble_eq_true rfl) (fun z10 q10 => ?_)
      refine x_if_eq (tgt := 18) C dX2_previousShown_13 (by decide) (fun c13 => ?_) (fun c13 => ?_)
      · refine s_inc3_2 C dX2_previousShown_18 rfl (by first | (unfold iR; omega) | exact ⟨by omega, by omega⟩) ?_
        refine x_goto (tgt := 4) C dX2_previousShown_21 (by decide) ?_
        exact ih (p + -1) (by omega) (by omega) (fun x h1 h2 => by
          by_cases hx : x = p
          · subst hx; intro h3; have := q10.2.mpr h3; omega
          · exact hno x (by omega) h2) (by omega)
      · refine x_iload_n C dX2_previousShown_16 rfl ?_
        refine x_iret C hQ dX2_previousShown_17 (Nat.le_refl _) (Nat.le_refl _) ?_
        exact ⟨rfl, rfl, _, rfl, hq p (Or.inl ⟨by omega, by omega, q10.2.mp (by omega), hno⟩)⟩

set_option maxHeartbeats 4000000 in
set_option maxRecDepth 100000 in
theorem c_X2_previousShown (l : Launch) {w : mW} {h : Nat} {sg : List Int} {fo : List (Int × Int × Int)} {hi : List (Int × Int)} {mo wi nd tb : Int} (hS : isSh w h sg fo hi mo wi nd tb) (a : Int) (ha : 0 ≤ a ∧ a ≤ sg.length) : Cp l yX2_previousShown cX2_previousShown 3 (some .int) 3 [vr h, vi a] w (fun z => isPrev fo a z) := by
  refine Cp.of (ml := [some (vr h), some (vi a), none]) kyX2_previousShown rfl (Nat.le_of_ble_eq_true rfl) rfl ?_
  intro t n C hQ
  have hlen := hS.len
  refine x_iload_n C dX2_previousShown_0 rfl ?_
  refine x_iconst C dX2_previousShown_1 ⟨by decide, by decide⟩ ?_
  refine x_isub C dX2_previousShown_2 (by first | (unfold iR; omega) | exact ⟨by omega, by omega⟩) ?_
  refine s_ist3_2 C dX2_previousShown_3 rfl ?_
  exact lp_X2_previousShown hS a (by omega) C hQ (fun z hz => hz) 43 (a - 1) (by omega) (by omega) (fun x h1 h2 => by omega) (by omega)


theorem modify_at {α : Type} (f : α → α) (P R : List α) (x : α) : (P ++ x :: R).modify P.length f = P ++ f x :: R := by
  induction P with
  | nil => simp
  | cons p P ih => simp [ih]

set_option maxHeartbeats 4000000 in
set_option maxRecDepth 100000 in
theorem c_X2_turn (l : Launch) {w : mW} {h : Nat} {sg : List Int} {fo : List (Int × Int × Int)} {hi : List (Int × Int)} {mo wi nd tb : Int} (hS : isSh w h sg fo hi mo wi nd tb) (a : Int) : Cv l yX2_turn cX2_turn 2 1 [vr h, vi a] w (fun w' => isSh w' h sg (turnF fo a) hi mo wi nd tb ∧ frR w w' h (h + 6)) := by
  refine Cv.of (ml := [some (vr h), some (vi a)]) kyX2_turn rfl (Nat.le_of_ble_eq_true rfl) rfl ?_
  intro t n C hQ
  have hf : frR w w h (h + 6) := frR.rf
  obtain ⟨j1, j2, j3, j4, j5, j6, hr⟩ := hS
  have l1 := hr.l1
  have l2 := hr.l2
  have l3 := hr.l3
  have l4 := hr.l4
  have l5 := hr.l5
  have l6 := hr.l6
  simp only [List.length_append, List.length_map] at l1 l2 l3 l4 l5 l6
  refine x_aload_n C dX2_turn_0 rfl ?_
  refine x_iload_n C dX2_turn_1 rfl ?_
  refine y_p1 C dX2_turn_2 kyX2_hasFold knX2_hasFold kmX2_91 hr.o (c_X2_hasFold l hr a) (by decide) (Nat.zero_le _) (Nat.zero_le _) (Nat.le_of_ble_eq_true rfl) (fun z2 q2 => ?_)
  refine x_if_eq (tgt := 28) C dX2_turn_5 (by decide) (fun c5 => ?_) (fun c5 => ?_)
  · refine x_vret C hQ dX2_turn_28 (Nat.le_refl _) (Nat.le_refl _) ?_
    exact ⟨rfl, rfl, by rw [turnF, if_neg (by omega)]; exact ⟨j1, j2, j3, j4, j5, j6, hr⟩, hf⟩
  · obtain ⟨P, x, R, rfl, hP⟩ := spl fo a.toNat (by omega)
    have ea : a = P.length := by omega
    have e4 : ((P ++ x :: R).map (fun f => f.2.2) ++ j4).getD a.toNat 0 = x.2.2 := gmap_at _ P R x j4 ea
    refine x_aload_n C dX2_turn_8 rfl ?_
    refine x_get C dX2_turn_9 kfX2_21 hr.o rfl ?_
    refine x_iload_n C dX2_turn_12 rfl ?_
    refine x_aload_n C dX2_turn_13 rfl ?_
    refine x_get C dX2_turn_14 kfX2_21 hr.o rfl ?_
    refine x_iload_n C dX2_turn_17 rfl ?_
    refine x_zaldB C dX2_turn_18 hr.a4 (by omega) (by rw [hr.l4]; omega) (fun b18 => ?_)
    rw [e4] at b18 ⊢
    refine x_if_ne (tgt := 26) C dX2_turn_19 (by decide) (fun c19 => ?_) (fun c19 => ?_)
    · refine x_iconst C dX2_turn_26 ⟨by decide, by decide⟩ ?_
      refine x_zast C dX2_turn_27 hr.a4 (by omega) (by rw [hr.l4]; omega) (by first | exact Or.inl rfl | exact Or.inr rfl | assumption | omega) ?_
      refine ab_S_A4 hr hf (by rw [List.length_set]; exact hr.l4) (fun w hr hf => ?_)
      rw [mset_at _ P R x j4 _ ea] at hr
      refine x_vret C hQ dX2_turn_28 (Nat.le_refl _) (Nat.le_refl _) ?_
      refine ⟨rfl, rfl, ⟨j1, j2, j3, j4, j5, j6, ?_⟩, hf⟩
      rw [turnF, if_pos (by simp; omega), ea, Int.toNat_natCast, modify_at]
      have e9 : flip x = (x.1, x.2.1, 0) := by simp [flip, c19]
      rw [e9]
      simpa using hr
    · refine x_iconst C dX2_turn_22 ⟨by decide, by decide⟩ ?_
      refine x_goto (tgt := 27) C dX2_turn_23 (by decide) ?_
      refine x_zast C dX2_turn_27 hr.a4 (by omega) (by rw [hr.l4]; omega) (by first | exact Or.inl rfl | exact Or.inr rfl | assumption | omega) ?_
      refine ab_S_A4 hr hf (by rw [List.length_set]; exact hr.l4) (fun w hr hf => ?_)
      rw [mset_at _ P R x j4 _ ea] at hr
      refine x_vret C hQ dX2_turn_28 (Nat.le_refl _) (Nat.le_refl _) ?_
      refine ⟨rfl, rfl, ⟨j1, j2, j3, j4, j5, j6, ?_⟩, hf⟩
      rw [turnF, if_pos (by simp; omega), ea, Int.toNat_natCast, modify_at]
      have e9 : flip x = (x.1, x.2.1, 1) := by simp [flip, c19]
      rw [e9]
      simpa using hr

set_option maxHeartbeats 4000000 in
set_option maxRecDepth 100000 in
theorem c_X2_clear (l : Launch) {w : mW} {h : Nat} {n fc hc mo wi nd tb : Int} {A1 A2 A3 A4 A5 A6 : List Int} (hr : rS w h n fc hc mo wi nd tb A1 A2 A3 A4 A5 A6) : Cv l yX2_clear cX2_clear 1 1 [vr h] w (fun w' => isSh w' h [] [] [] 1 8 0 4 ∧ frR w w' h (h + 6)) := by
  refine Cv.of (ml := [some (vr h)]) kyX2_clear rfl (Nat.le_of_ble_eq_true rfl) rfl ?_
  intro t n C hQ
  have hf : frR w w h (h + 6) := frR.rf
  refine x_aload_n C dX2_clear_0 rfl ?_
  refine x_iconst C dX2_clear_1 ⟨by decide, by decide⟩ ?_
  refine x_put C dX2_clear_2 kfX2_31 kw_2_1 rfl rfl hr.o (Nat.le_of_ble_eq_true rfl) ?_
  refine ab_S_n hr hf (fun w hr hf => ?_)
  refine x_aload_n C dX2_clear_5 rfl ?_
  refine x_iconst C dX2_clear_6 ⟨by decide, by decide⟩ ?_
  refine x_put C dX2_clear_7 kfX2_35 kw_2_5 rfl rfl hr.o (Nat.le_of_ble_eq_true rfl) ?_
  refine ab_S_fc hr hf (fun w hr hf => ?_)
  refine x_aload_n C dX2_clear_10 rfl ?_
  refine x_iconst C dX2_clear_11 ⟨by decide, by decide⟩ ?_
  refine x_put C dX2_clear_12 kfX2_38 kw_2_8 rfl rfl hr.o (Nat.le_of_ble_eq_true rfl) ?_
  refine ab_S_hc hr hf (fun w hr hf => ?_)
  refine x_aload_n C dX2_clear_15 rfl ?_
  refine x_iconst C dX2_clear_16 ⟨by decide, by decide⟩ ?_
  refine x_bipush C dX2_clear_17 ⟨by decide, by decide⟩ ?_
  refine x_iconst C dX2_clear_19 ⟨by decide, by decide⟩ ?_
  refine y_v3 C dX2_clear_20 kyX2_setFlow knX2_setFlow kmX2_41 hr.o (c_X2_setFlow l hr 1 8 0) (by decide) (Nat.zero_le _) (Nat.zero_le _) (Nat.le_of_ble_eq_true rfl) (fun w20 q20 => ?_)
  obtain ⟨hr, hf9⟩ := q20
  have hf := hf.tr hf9
  refine x_aload_n C dX2_clear_23 rfl ?_
  refine x_iconst C dX2_clear_24 ⟨by decide, by decide⟩ ?_
  refine x_put C dX2_clear_25 kfX2_45 kw_2_12 rfl rfl hr.o (Nat.le_of_ble_eq_true rfl) ?_
  refine ab_S_tb hr hf (fun w hr hf => ?_)
  refine x_vret C hQ dX2_clear_28 (Nat.le_refl _) (Nat.le_refl _) ?_
  exact ⟨rfl, rfl, ⟨A1, A2, A3, A4, A5, A6, by simpa using hr⟩, hf⟩

set_option maxHeartbeats 4000000 in
set_option maxRecDepth 100000 in
theorem lp_X2_foldRefusal {t : TX} {l : Launch} {n0 : Nat} {w : mW} {h : Nat} {sg : List Int} {fo : List (Int × Int × Int)} {hi : List (Int × Int)} {mo wi nd tb : Int} (hS : isSh w h sg fo hi mo wi nd tb) (a b : Int) (C : Cb t l cX2_foldRefusal RX2 4 (some .int) 1 0 0) {Q : Int → Prop} (hQ : RQ t 0 0 (fun r n' w' => n' = n0 ∧ w' = w ∧ ∃ z : Int, r = some (vi z) ∧ Q z)) : ∀ (R P : List (Int × Int × Int)) (k : Int), fo = P ++ R → k = P.length → Q (if R.any (fun q => decide (a < q.2.1 ∧ q.1 < b)) = true then -2 else if fo.length < 4 then 0 else -3) → J t 0 0 25 [some (vr h), some (vi a), some (vi b), some (vi k)] [] n0 w := by
  obtain ⟨j1, j2, j3, j4, j5, j6, hr⟩ := hS
  have l1 := hr.l1
  have l2 := hr.l2
  have l3 := hr.l3
  have l4 := hr.l4
  have l5 := hr.l5
  have l6 := hr.l6
  simp only [List.length_append, List.length_map] at l1 l2 l3 l4 l5 l6
  intro R
  induction R with
  | nil =>
    intro P k hP hk hq
    have hl : fo.length = P.length := by rw [hP]; simp
    refine x_iload_n C dX2_foldRefusal_25 rfl ?_
    refine x_aload_n C dX2_foldRefusal_26 rfl ?_
    refine x_get C dX2_foldRefusal_27 kfX2_35 hr.o rfl ?_
    refine x_icmp_ge (tgt := 62) C dX2_foldRefusal_30 (by decide) (fun c30 => ?_) (fun c30 => ?_)
    · refine x_aload_n C dX2_foldRefusal_62 rfl ?_
      refine x_get C dX2_foldRefusal_63 kfX2_35 hr.o rfl ?_
      refine x_iconst C dX2_foldRefusal_66 ⟨by decide, by decide⟩ ?_
      refine x_icmp_ge (tgt := 74) C dX2_foldRefusal_67 (by decide) (fun c67 => ?_) (fun c67 => ?_)
      · refine x_bipush C dX2_foldRefusal_74 ⟨by decide, by decide⟩ ?_
        refine x_iret C hQ dX2_foldRefusal_76 (Nat.le_refl _) (Nat.le_refl _) ?_
        refine ⟨rfl, rfl, _, rfl, ?_⟩
        rw [List.any_nil, if_neg (by decide)] at hq
        first | (rw [if_pos (by omega)] at hq; exact hq) | (rw [if_neg (by omega)] at hq; exact hq)
      · refine x_iconst C dX2_foldRefusal_70 ⟨by decide, by decide⟩ ?_
        refine x_goto (tgt := 76) C dX2_foldRefusal_71 (by decide) ?_
        refine x_iret C hQ dX2_foldRefusal_76 (Nat.le_refl _) (Nat.le_refl _) ?_
        refine ⟨rfl, rfl, _, rfl, ?_⟩
        rw [List.any_nil, if_neg (by decide)] at hq
        first | (rw [if_pos (by omega)] at hq; exact hq) | (rw [if_neg (by omega)] at hq; exact hq)
    · omega
  | cons r R ih =>
    intro P k hP hk hq
    have hl : fo.length = P.length + (R.length + 1) := by rw [hP]; simp
    have e2 : (fo.map (fun f => f.1) ++ j2).getD k.toNat 0 = r.1 := by rw [hP]; exact gmap_at _ P R r j2 hk
    have e3 : (fo.map (fun f => f.2.1) ++ j3).getD k.toNat 0 = r.2.1 := by rw [hP]; exact gmap_at _ P R r j3 hk
    refine x_iload_n C dX2_foldRefusal_25 rfl ?_
    refine x_aload_n C dX2_foldRefusal_26 rfl ?_
    refine x_get C dX2_foldRefusal_27 kfX2_35 hr.o rfl ?_
    refine x_icmp_ge (tgt := 62) C dX2_foldRefusal_30 (by decide) (fun c30 => ?_) (fun c30 => ?_)
    · omega
    · refine x_iload_n C dX2_foldRefusal_33 rfl ?_
      refine x_aload_n C dX2_foldRefusal_34 rfl ?_
      refine x_get C dX2_foldRefusal_35 kfX2_18 hr.o rfl ?_
      refine x_iload_n C dX2_foldRefusal_38 rfl ?_
      refine x_iald C dX2_foldRefusal_39 hr.a3 (by omega) (by rw [hr.l3]; omega) ?_
      rw [e3]
      refine x_icmp_ge (tgt := 56) C dX2_foldRefusal_40 (by decide) (fun c40 => ?_) (fun c40 => ?_)
      · refine s_inc4_3 C dX2_foldRefusal_56 rfl (by first | (unfold iR; omega) | exact ⟨by omega, by omega⟩) ?_
        refine x_goto (tgt := 25) C dX2_foldRefusal_59 (by decide) ?_
        exact ih (P ++ [r]) (k + 1) (by rw [hP]; simp) (by simp; omega) (by rw [List.any_cons, show decide (a < r.2.1 ∧ r.1 < b) = false by simp; omega, Bool.false_or] at hq; exact hq)
      · refine x_aload_n C dX2_foldRefusal_43 rfl ?_
        refine x_get C dX2_foldRefusal_44 kfX2_15 hr.o rfl ?_
        refine x_iload_n C dX2_foldRefusal_47 rfl ?_
        refine x_iald C dX2_foldRefusal_48 hr.a2 (by omega) (by rw [hr.l2]; omega) ?_
        rw [e2]
        refine x_iload_n C dX2_foldRefusal_49 rfl ?_
        refine x_icmp_ge (tgt := 56) C dX2_foldRefusal_50 (by decide) (fun c50 => ?_) (fun c50 => ?_)
        · refine s_inc4_3 C dX2_foldRefusal_56 rfl (by first | (unfold iR; omega) | exact ⟨by omega, by omega⟩) ?_
          refine x_goto (tgt := 25) C dX2_foldRefusal_59 (by decide) ?_
          exact ih (P ++ [r]) (k + 1) (by rw [hP]; simp) (by simp; omega) (by rw [List.any_cons, show decide (a < r.2.1 ∧ r.1 < b) = false by simp; omega, Bool.false_or] at hq; exact hq)
        · refine x_bipush C dX2_foldRefusal_53 ⟨by decide, by decide⟩ ?_
          refine x_iret C hQ dX2_foldRefusal_55 (Nat.le_refl _) (Nat.le_refl _) ?_
          exact ⟨rfl, rfl, _, rfl, by rw [List.any_cons, show decide (a < r.2.1 ∧ r.1 < b) = true by simp; omega, Bool.true_or, if_pos rfl] at hq; exact hq⟩

set_option maxHeartbeats 4000000 in
set_option maxRecDepth 100000 in
theorem c_X2_foldRefusal (l : Launch) {w : mW} {h : Nat} {sg : List Int} {fo : List (Int × Int × Int)} {hi : List (Int × Int)} {mo wi nd tb : Int} (hS : isSh w h sg fo hi mo wi nd tb) (a b : Int) : Cp l yX2_foldRefusal cX2_foldRefusal 4 (some .int) 1 [vr h, vi a, vi b] w (fun z => z = refF sg.length fo a b) := by
  refine Cp.of (ml := [some (vr h), some (vi a), some (vi b), none]) kyX2_foldRefusal rfl (Nat.le_of_ble_eq_true rfl) rfl ?_
  intro t n C hQ
  have hS2 := hS
  obtain ⟨j1, j2, j3, j4, j5, j6, hr⟩ := hS
  refine x_aload_n C dX2_foldRefusal_0 rfl ?_
  refine x_iload_n C dX2_foldRefusal_1 rfl ?_
  refine y_p1 C dX2_foldRefusal_2 kyX2_hasPlace knX2_hasPlace kmX2_67 hr.o (c_X2_hasPlace l hr a) (by decide) (Nat.zero_le _) (Nat.zero_le _) (Nat.le_of_ble_eq_true rfl) (fun z2 q2 => ?_)
  refine x_if_eq (tgt := 21) C dX2_foldRefusal_5 (by decide) (fun c5 => ?_) (fun c5 => ?_)
  · refine x_iconst C dX2_foldRefusal_21 ⟨by decide, by decide⟩ ?_
    refine x_iret C hQ dX2_foldRefusal_22 (Nat.le_refl _) (Nat.le_refl _) ?_
    exact ⟨rfl, rfl, _, rfl, by rw [refF, if_pos (by omega)]⟩
  · refine x_aload_n C dX2_foldRefusal_8 rfl ?_
    refine x_iload_n C dX2_foldRefusal_9 rfl ?_
    refine y_p1 C dX2_foldRefusal_10 kyX2_hasPlace knX2_hasPlace kmX2_67 hr.o (c_X2_hasPlace l hr b) (by decide) (Nat.zero_le _) (Nat.zero_le _) (Nat.le_of_ble_eq_true rfl) (fun z10 q10 => ?_)
    refine x_if_eq (tgt := 21) C dX2_foldRefusal_13 (by decide) (fun c13 => ?_) (fun c13 => ?_)
    · refine x_iconst C dX2_foldRefusal_21 ⟨by decide, by decide⟩ ?_
      refine x_iret C hQ dX2_foldRefusal_22 (Nat.le_refl _) (Nat.le_refl _) ?_
      exact ⟨rfl, rfl, _, rfl, by rw [refF, if_pos (by omega)]⟩
    · refine x_iload_n C dX2_foldRefusal_16 rfl ?_
      refine x_iload_n C dX2_foldRefusal_17 rfl ?_
      refine x_icmp_lt (tgt := 23) C dX2_foldRefusal_18 (by decide) (fun c18 => ?_) (fun c18 => ?_)
      · refine x_iconst C dX2_foldRefusal_23 ⟨by decide, by decide⟩ ?_
        refine s_ist4_3 C dX2_foldRefusal_24 rfl ?_
        exact lp_X2_foldRefusal hS2 a b C hQ fo [] 0 rfl rfl (by rw [refF, if_neg (c := ¬ (0 ≤ a ∧ a < b ∧ b ≤ (sg.length : Int))) (by omega)])
      · refine x_iconst C dX2_foldRefusal_21 ⟨by decide, by decide⟩ ?_
        refine x_iret C hQ dX2_foldRefusal_22 (Nat.le_refl _) (Nat.le_refl _) ?_
        exact ⟨rfl, rfl, _, rfl, by rw [refF, if_pos (by omega)]⟩

theorem any_fIdx {α : Type} (p : α → Bool) (l : List α) : l.any p = true ↔ 0 ≤ fIdx p l 0 := by
  have h := (fIdx_neg p l 0 (by omega)).1
  constructor
  · intro h1
    rw [List.any_eq_true] at h1
    obtain ⟨x, h2, h3⟩ := h1
    rcases Int.lt_or_le (fIdx p l 0) 0 with h4 | h4
    · rw [h.mp h4 x h2] at h3; cases h3
    · exact h4
  · intro h1
    obtain ⟨P, R, x, h2, h3, -⟩ := fIdx_at p l 0 (by omega) h1
    rw [List.any_eq_true]
    exact ⟨x, by rw [h2]; simp, h3⟩

set_option maxHeartbeats 4000000 in
set_option maxRecDepth 100000 in
theorem c_X2_hintRefusal (l : Launch) {w : mW} {h : Nat} {sg : List Int} {fo : List (Int × Int × Int)} {hi : List (Int × Int)} {mo wi nd tb : Int} (hS : isSh w h sg fo hi mo wi nd tb) (a b : Int) : Cp l yX2_hintRefusal cX2_hintRefusal 3 (some .int) 1 [vr h, vi a, vi b] w (fun z => z = refH sg.length hi a b) := by
  refine Cp.of (ml := [some (vr h), some (vi a), some (vi b)]) kyX2_hintRefusal rfl (Nat.le_of_ble_eq_true rfl) rfl ?_
  intro t n C hQ
  have hS2 := hS
  obtain ⟨j1, j2, j3, j4, j5, j6, hr⟩ := hS
  refine x_aload_n C dX2_hintRefusal_0 rfl ?_
  refine x_iload_n C dX2_hintRefusal_1 rfl ?_
  refine y_p1 C dX2_hintRefusal_2 kyX2_hasPlace knX2_hasPlace kmX2_67 hr.o (c_X2_hasPlace l hr a) (by decide) (Nat.zero_le _) (Nat.zero_le _) (Nat.le_of_ble_eq_true rfl) (fun z2 q2 => ?_)
  refine x_if_eq (tgt := 18) C dX2_hintRefusal_5 (by decide) (fun c5 => ?_) (fun c5 => ?_)
  · refine x_iconst C dX2_hintRefusal_18 ⟨by decide, by decide⟩ ?_
    refine x_iret C hQ dX2_hintRefusal_19 (Nat.le_refl _) (Nat.le_refl _) ?_
    exact ⟨rfl, rfl, _, rfl, by rw [refH, if_pos (by omega)]⟩
  · refine x_iload_n C dX2_hintRefusal_8 rfl ?_
    refine x_iconst C dX2_hintRefusal_9 ⟨by decide, by decide⟩ ?_
    refine x_icmp_lt (tgt := 18) C dX2_hintRefusal_10 (by decide) (fun c10 => ?_) (fun c10 => ?_)
    · refine x_iconst C dX2_hintRefusal_18 ⟨by decide, by decide⟩ ?_
      refine x_iret C hQ dX2_hintRefusal_19 (Nat.le_refl _) (Nat.le_refl _) ?_
      exact ⟨rfl, rfl, _, rfl, by rw [refH, if_pos (by omega)]⟩
    · refine x_iload_n C dX2_hintRefusal_13 rfl ?_
      refine x_iconst C dX2_hintRefusal_14 ⟨by decide, by decide⟩ ?_
      refine x_icmp_le (tgt := 20) C dX2_hintRefusal_15 (by decide) (fun c15 => ?_) (fun c15 => ?_)
      · refine x_aload_n C dX2_hintRefusal_20 rfl ?_
        refine x_iload_n C dX2_hintRefusal_21 rfl ?_
        refine y_p1 C dX2_hintRefusal_22 kyX2_hintAt knX2_hintAt kmX2_84 hr.o (c_X2_hintAt l hS2 a) (by decide) (Nat.zero_le _) (Nat.zero_le _) (Nat.le_of_ble_eq_true rfl) (fun z22 q22 => ?_)
        subst q22
        refine x_if_lt (tgt := 31) C dX2_hintRefusal_25 (by decide) (fun c25 => ?_) (fun c25 => ?_)
        · refine x_aload_n C dX2_hintRefusal_31 rfl ?_
          refine x_get C dX2_hintRefusal_32 kfX2_38 hr.o rfl ?_
          refine x_iconst C dX2_hintRefusal_35 ⟨by decide, by decide⟩ ?_
          refine x_icmp_ge (tgt := 43) C dX2_hintRefusal_36 (by decide) (fun c36 => ?_) (fun c36 => ?_)
          · refine x_bipush C dX2_hintRefusal_43 ⟨by decide, by decide⟩ ?_
            refine x_iret C hQ dX2_hintRefusal_45 (Nat.le_refl _) (Nat.le_refl _) ?_
            exact ⟨rfl, rfl, _, rfl, by rw [refH, if_neg (by omega), if_neg (fun q => by have := (any_fIdx _ _).mp q; omega)]; first | rw [if_pos (by omega)] | rw [if_neg (by omega)]⟩
          · refine x_iconst C dX2_hintRefusal_39 ⟨by decide, by decide⟩ ?_
            refine x_goto (tgt := 45) C dX2_hintRefusal_40 (by decide) ?_
            refine x_iret C hQ dX2_hintRefusal_45 (Nat.le_refl _) (Nat.le_refl _) ?_
            exact ⟨rfl, rfl, _, rfl, by rw [refH, if_neg (by omega), if_neg (fun q => by have := (any_fIdx _ _).mp q; omega)]; first | rw [if_pos (by omega)] | rw [if_neg (by omega)]⟩
        · refine x_bipush C dX2_hintRefusal_28 ⟨by decide, by decide⟩ ?_
          refine x_iret C hQ dX2_hintRefusal_30 (Nat.le_refl _) (Nat.le_refl _) ?_
          exact ⟨rfl, rfl, _, rfl, by rw [refH, if_neg (by omega), if_pos ((any_fIdx _ _).mpr c25)]⟩
      · refine x_iconst C dX2_hintRefusal_18 ⟨by decide, by decide⟩ ?_
        refine x_iret C hQ dX2_hintRefusal_19 (Nat.le_refl _) (Nat.le_refl _) ?_
        exact ⟨rfl, rfl, _, rfl, by rw [refH, if_pos (by omega)]⟩

theorem erase_at {α : Type} (P R : List α) (x : α) : (P ++ x :: R).eraseIdx P.length = P ++ R := by
  induction P with
  | nil => simp
  | cons p P ih => simp [ih]

set_option maxHeartbeats 4000000 in
set_option maxRecDepth 100000 in
theorem lp_X2_dropFold {t : TX} {l : Launch} {n0 : Nat} {w0 : mW} {h : Nat} {sg : List Int} {hi : List (Int × Int)} {mo wi nd tb : Int} (C : Cb t l cX2_dropFold RX2 3 none 1 0 0) {G : List (Int × Int × Int)} (a : Int) {Q : mW → Prop} (hQ : RQ t 0 0 (fun r n' w' => n' = n0 ∧ r = none ∧ Q w')) (hfin : ∀ w', isSh w' h sg G hi mo wi nd tb → frR w0 w' h (h + 6) → Q w') : ∀ (R Qs : List (Int × Int × Int)) (c : Int × Int × Int) (g : Int) (w : mW), isSh w h sg (Qs ++ c :: R) hi mo wi nd tb → frR w0 w h (h + 6) → Qs ++ R = G → g = Qs.length + 1 → J t 0 0 13 [some (vr h), some (vi a), some (vi g)] [] n0 w := by
  intro R
  induction R with
  | nil =>
    intro Qs c g w hS hf hG hg
    obtain ⟨j1, j2, j3, j4, j5, j6, hr⟩ := hS
    have l1 := hr.l1
    have l2 := hr.l2
    have l3 := hr.l3
    have l4 := hr.l4
    have l5 := hr.l5
    have l6 := hr.l6
    simp only [List.length_append, List.length_map] at l1 l2 l3 l4 l5 l6
    simp only [List.length_append, List.length_cons, List.length_nil] at l1 l2 l3 l4 l5 l6
    refine x_iload_n C dX2_dropFold_13 rfl ?_
    refine x_aload_n C dX2_dropFold_14 rfl ?_
    refine x_get C dX2_dropFold_15 kfX2_35 hr.o rfl ?_
    refine x_icmp_ge (tgt := 69) C dX2_dropFold_18 (by decide) (fun c18 => ?_) (fun c18 => ?_)
    · refine x_aload_n C dX2_dropFold_69 rfl ?_
      refine x_dup C dX2_dropFold_70 rfl ?_
      refine x_get C dX2_dropFold_71 kfX2_35 hr.o rfl ?_
      refine x_iconst C dX2_dropFold_74 ⟨by decide, by decide⟩ ?_
      refine x_isub C dX2_dropFold_75 (by first | (unfold iR; omega) | exact ⟨by omega, by omega⟩) ?_
      refine x_put C dX2_dropFold_76 kfX2_35 kw_2_5 rfl rfl hr.o (Nat.le_of_ble_eq_true rfl) ?_
      refine ab_S_fc hr hf (fun w hr hf => ?_)
      refine x_vret C hQ dX2_dropFold_79 (Nat.le_refl _) (Nat.le_refl _) ?_
      refine ⟨rfl, rfl, hfin _ ⟨j1, c.1 :: j2, c.2.1 :: j3, c.2.2 :: j4, j5, j6, ?_⟩ hf⟩
      subst hG
      simpa using hr
    · simp only [List.length_append, List.length_cons, List.length_nil] at *
      omega
  | cons r R ih =>
    intro Qs c g w hS hf hG hg
    obtain ⟨j1, j2, j3, j4, j5, j6, hr⟩ := hS
    have l1 := hr.l1
    have l2 := hr.l2
    have l3 := hr.l3
    have l4 := hr.l4
    have l5 := hr.l5
    have l6 := hr.l6
    simp only [List.length_append, List.length_map] at l1 l2 l3 l4 l5 l6
    simp only [List.length_append, List.length_cons] at l1 l2 l3 l4 l5 l6
    have e2 : ((Qs ++ c :: r :: R).map (fun f => f.1) ++ j2).getD g.toNat 0 = r.1 := gmap_at2 _ Qs R c r j2 (by omega)
    have e3 : ((Qs ++ c :: r :: R).map (fun f => f.2.1) ++ j3).getD g.toNat 0 = r.2.1 := gmap_at2 _ Qs R c r j3 (by omega)
    have e4 : ((Qs ++ c :: r :: R).map (fun f => f.2.2) ++ j4).getD g.toNat 0 = r.2.2 := gmap_at2 _ Qs R c r j4 (by omega)
    refine x_iload_n C dX2_dropFold_13 rfl ?_
    refine x_aload_n C dX2_dropFold_14 rfl ?_
    refine x_get C dX2_dropFold_15 kfX2_35 hr.o rfl ?_
    refine x_icmp_ge (tgt := 69) C dX2_dropFold_18 (by decide) (fun c18 => ?_) (fun c18 => ?_)
    · simp only [List.length_append, List.length_cons] at *
      omega
    · refine x_aload_n C dX2_dropFold_21 rfl ?_
      refine x_get C dX2_dropFold_22 kfX2_15 hr.o rfl ?_
      refine x_iload_n C dX2_dropFold_25 rfl ?_
      refine x_iconst C dX2_dropFold_26 ⟨by decide, by decide⟩ ?_
      refine x_isub C dX2_dropFold_27 (by first | (unfold iR; omega) | exact ⟨by omega, by omega⟩) ?_
      refine x_aload_n C dX2_dropFold_28 rfl ?_
      refine x_get C dX2_dropFold_29 kfX2_15 hr.o rfl ?_
      refine x_iload_n C dX2_dropFold_32 rfl ?_
      refine x_iald C dX2_dropFold_33 hr.a2 (by omega) (by rw [hr.l2]; omega) ?_
      rw [e2]
      refine x_iast C dX2_dropFold_34 hr.a2 (by omega) (by rw [hr.l2]; omega) ?_
      refine ab_S_A2 hr hf (by rw [List.length_set]; exact hr.l2) (fun w hr hf => ?_)
      refine x_aload_n C dX2_dropFold_35 rfl ?_
      refine x_get C dX2_dropFold_36 kfX2_18 hr.o rfl ?_
      refine x_iload_n C dX2_dropFold_39 rfl ?_
      refine x_iconst C dX2_dropFold_40 ⟨by decide, by decide⟩ ?_
      refine x_isub C dX2_dropFold_41 (by first | (unfold iR; omega) | exact ⟨by omega, by omega⟩) ?_
      refine x_aload_n C dX2_dropFold_42 rfl ?_
      refine x_get C dX2_dropFold_43 kfX2_18 hr.o rfl ?_
      refine x_iload_n C dX2_dropFold_46 rfl ?_
      refine x_iald C dX2_dropFold_47 hr.a3 (by omega) (by rw [hr.l3]; omega) ?_
      rw [e3]
      refine x_iast C dX2_dropFold_48 hr.a3 (by omega) (by rw [hr.l3]; omega) ?_
      refine ab_S_A3 hr hf (by rw [List.length_set]; exact hr.l3) (fun w hr hf => ?_)
      refine x_aload_n C dX2_dropFold_49 rfl ?_
      refine x_get C dX2_dropFold_50 kfX2_21 hr.o rfl ?_
      refine x_iload_n C dX2_dropFold_53 rfl ?_
      refine x_iconst C dX2_dropFold_54 ⟨by decide, by decide⟩ ?_
      refine x_isub C dX2_dropFold_55 (by first | (unfold iR; omega) | exact ⟨by omega, by omega⟩) ?_
      refine x_aload_n C dX2_dropFold_56 rfl ?_
      refine x_get C dX2_dropFold_57 kfX2_21 hr.o rfl ?_
      refine x_iload_n C dX2_dropFold_60 rfl ?_
      refine x_zaldB C dX2_dropFold_61 hr.a4 (by omega) (by rw [hr.l4]; omega) (fun b61 => ?_)
      rw [e4] at b61 ⊢
      refine x_zast C dX2_dropFold_62 hr.a4 (by omega) (by rw [hr.l4]; omega) (by first | exact Or.inl rfl | exact Or.inr rfl | assumption | omega) ?_
      refine ab_S_A4 hr hf (by rw [List.length_set]; exact hr.l4) (fun w hr hf => ?_)
      refine s_inc3_2 C dX2_dropFold_63 rfl (by first | (unfold iR; omega) | exact ⟨by omega, by omega⟩) ?_
      refine x_goto (tgt := 13) C dX2_dropFold_66 (by decide) ?_
      refine ih (Qs ++ [r]) r (g + 1) w ⟨j1, j2, j3, j4, j5, j6, ?_⟩ hf (by rw [← hG]; simp) (by simp; omega)
      rw [mset_at _ Qs (r :: R) c j2 _ (by omega)] at hr
      rw [mset_at _ Qs (r :: R) c j3 _ (by omega)] at hr
      rw [mset_at _ Qs (r :: R) c j4 _ (by omega)] at hr
      simpa using hr
set_option maxHeartbeats 4000000 in
set_option maxRecDepth 100000 in
theorem c_X2_dropFold (l : Launch) {w : mW} {h : Nat} {sg : List Int} {fo : List (Int × Int × Int)} {hi : List (Int × Int)} {mo wi nd tb : Int} (hS : isSh w h sg fo hi mo wi nd tb) (a : Int) : Cv l yX2_dropFold cX2_dropFold 3 1 [vr h, vi a] w (fun w' => isSh w' h sg (dropI fo a) hi mo wi nd tb ∧ frR w w' h (h + 6)) := by
  refine Cv.of (ml := [some (vr h), some (vi a), none]) kyX2_dropFold rfl (Nat.le_of_ble_eq_true rfl) rfl ?_
  intro t n C hQ
  have hf : frR w w h (h + 6) := frR.rf
  have hS2 := hS
  have hlen := hS.len
  obtain ⟨j1, j2, j3, j4, j5, j6, hr⟩ := hS
  refine x_aload_n C dX2_dropFold_0 rfl ?_
  refine x_iload_n C dX2_dropFold_1 rfl ?_
  refine y_p1 C dX2_dropFold_2 kyX2_hasFold knX2_hasFold kmX2_91 hr.o (c_X2_hasFold l hr a) (by decide) (Nat.zero_le _) (Nat.zero_le _) (Nat.le_of_ble_eq_true rfl) (fun z2 q2 => ?_)
  refine x_if_ne (tgt := 9) C dX2_dropFold_5 (by decide) (fun c5 => ?_) (fun c5 => ?_)
  · obtain ⟨P, x, R, rfl, hP⟩ := spl fo a.toNat (by omega)
    have ea : a = P.length := by omega
    refine x_iload_n C dX2_dropFold_9 rfl ?_
    refine x_iconst C dX2_dropFold_10 ⟨by decide, by decide⟩ ?_
    refine x_iadd C dX2_dropFold_11 (by first | (unfold iR; omega) | exact ⟨by omega, by omega⟩) ?_
    refine s_ist3_2 C dX2_dropFold_12 rfl ?_
    refine lp_X2_dropFold (G := P ++ R) C a hQ (fun w9 h8 h9 => ⟨?_, h9⟩) R P x (a + 1) w hS2 hf rfl (by omega)
    rw [dropI, if_pos (by simp; omega), ea, Int.toNat_natCast, erase_at]
    exact h8
  · refine x_vret C hQ dX2_dropFold_8 (Nat.le_refl _) (Nat.le_refl _) ?_
    exact ⟨rfl, rfl, by rw [dropI, if_neg (by omega)]; exact hS2, hf⟩

set_option maxHeartbeats 4000000 in
set_option maxRecDepth 100000 in
theorem lp_X2_dropHint {t : TX} {l : Launch} {n0 : Nat} {w0 : mW} {h : Nat} {sg : List Int} {fo : List (Int × Int × Int)} {mo wi nd tb : Int} (C : Cb t l cX2_dropHint RX2 3 none 1 0 0) {G : List (Int × Int)} (a : Int) {Q : mW → Prop} (hQ : RQ t 0 0 (fun r n' w' => n' = n0 ∧ r = none ∧ Q w')) (hfin : ∀ w', isSh w' h sg fo G mo wi nd tb → frR w0 w' h (h + 6) → Q w') : ∀ (R Qs : List (Int × Int)) (c : Int × Int) (g : Int) (w : mW), isSh w h sg fo (Qs ++ c :: R) mo wi nd tb → frR w0 w h (h + 6) → Qs ++ R = G → g = Qs.length + 1 → J t 0 0 13 [some (vr h), some (vi a), some (vi g)] [] n0 w := by
  intro R
  induction R with
  | nil =>
    intro Qs c g w hS hf hG hg
    obtain ⟨j1, j2, j3, j4, j5, j6, hr⟩ := hS
    have l1 := hr.l1
    have l2 := hr.l2
    have l3 := hr.l3
    have l4 := hr.l4
    have l5 := hr.l5
    have l6 := hr.l6
    simp only [List.length_append, List.length_map] at l1 l2 l3 l4 l5 l6
    simp only [List.length_append, List.length_cons, List.length_nil] at l1 l2 l3 l4 l5 l6
    refine x_iload_n C dX2_dropHint_13 rfl ?_
    refine x_aload_n C dX2_dropHint_14 rfl ?_
    refine x_get C dX2_dropHint_15 kfX2_38 hr.o rfl ?_
    refine x_icmp_ge (tgt := 55) C dX2_dropHint_18 (by decide) (fun c18 => ?_) (fun c18 => ?_)
    · refine x_aload_n C dX2_dropHint_55 rfl ?_
      refine x_dup C dX2_dropHint_56 rfl ?_
      refine x_get C dX2_dropHint_57 kfX2_38 hr.o rfl ?_
      refine x_iconst C dX2_dropHint_60 ⟨by decide, by decide⟩ ?_
      refine x_isub C dX2_dropHint_61 (by first | (unfold iR; omega) | exact ⟨by omega, by omega⟩) ?_
      refine x_put C dX2_dropHint_62 kfX2_38 kw_2_8 rfl rfl hr.o (Nat.le_of_ble_eq_true rfl) ?_
      refine ab_S_hc hr hf (fun w hr hf => ?_)
      refine x_vret C hQ dX2_dropHint_65 (Nat.le_refl _) (Nat.le_refl _) ?_
      refine ⟨rfl, rfl, hfin _ ⟨j1, j2, j3, j4, c.1 :: j5, c.2 :: j6, ?_⟩ hf⟩
      subst hG
      simpa using hr
    · simp only [List.length_append, List.length_cons, List.length_nil] at *
      omega
  | cons r R ih =>
    intro Qs c g w hS hf hG hg
    obtain ⟨j1, j2, j3, j4, j5, j6, hr⟩ := hS
    have l1 := hr.l1
    have l2 := hr.l2
    have l3 := hr.l3
    have l4 := hr.l4
    have l5 := hr.l5
    have l6 := hr.l6
    simp only [List.length_append, List.length_map] at l1 l2 l3 l4 l5 l6
    simp only [List.length_append, List.length_cons] at l1 l2 l3 l4 l5 l6
    have e5 : ((Qs ++ c :: r :: R).map (fun f => f.1) ++ j5).getD g.toNat 0 = r.1 := gmap_at2 _ Qs R c r j5 (by omega)
    have e6 : ((Qs ++ c :: r :: R).map (fun f => f.2) ++ j6).getD g.toNat 0 = r.2 := gmap_at2 _ Qs R c r j6 (by omega)
    refine x_iload_n C dX2_dropHint_13 rfl ?_
    refine x_aload_n C dX2_dropHint_14 rfl ?_
    refine x_get C dX2_dropHint_15 kfX2_38 hr.o rfl ?_
    refine x_icmp_ge (tgt := 55) C dX2_dropHint_18 (by decide) (fun c18 => ?_) (fun c18 => ?_)
    · simp only [List.length_append, List.length_cons] at *
      omega
    · refine x_aload_n C dX2_dropHint_21 rfl ?_
      refine x_get C dX2_dropHint_22 kfX2_25 hr.o rfl ?_
      refine x_iload_n C dX2_dropHint_25 rfl ?_
      refine x_iconst C dX2_dropHint_26 ⟨by decide, by decide⟩ ?_
      refine x_isub C dX2_dropHint_27 (by first | (unfold iR; omega) | exact ⟨by omega, by omega⟩) ?_
      refine x_aload_n C dX2_dropHint_28 rfl ?_
      refine x_get C dX2_dropHint_29 kfX2_25 hr.o rfl ?_
      refine x_iload_n C dX2_dropHint_32 rfl ?_
      refine x_iald C dX2_dropHint_33 hr.a5 (by omega) (by rw [hr.l5]; omega) ?_
      rw [e5]
      refine x_iast C dX2_dropHint_34 hr.a5 (by omega) (by rw [hr.l5]; omega) ?_
      refine ab_S_A5 hr hf (by rw [List.length_set]; exact hr.l5) (fun w hr hf => ?_)
      refine x_aload_n C dX2_dropHint_35 rfl ?_
      refine x_get C dX2_dropHint_36 kfX2_28 hr.o rfl ?_
      refine x_iload_n C dX2_dropHint_39 rfl ?_
      refine x_iconst C dX2_dropHint_40 ⟨by decide, by decide⟩ ?_
      refine x_isub C dX2_dropHint_41 (by first | (unfold iR; omega) | exact ⟨by omega, by omega⟩) ?_
      refine x_aload_n C dX2_dropHint_42 rfl ?_
      refine x_get C dX2_dropHint_43 kfX2_28 hr.o rfl ?_
      refine x_iload_n C dX2_dropHint_46 rfl ?_
      refine x_iald C dX2_dropHint_47 hr.a6 (by omega) (by rw [hr.l6]; omega) ?_
      rw [e6]
      refine x_iast C dX2_dropHint_48 hr.a6 (by omega) (by rw [hr.l6]; omega) ?_
      refine ab_S_A6 hr hf (by rw [List.length_set]; exact hr.l6) (fun w hr hf => ?_)
      refine s_inc3_2 C dX2_dropHint_49 rfl (by first | (unfold iR; omega) | exact ⟨by omega, by omega⟩) ?_
      refine x_goto (tgt := 13) C dX2_dropHint_52 (by decide) ?_
      refine ih (Qs ++ [r]) r (g + 1) w ⟨j1, j2, j3, j4, j5, j6, ?_⟩ hf (by rw [← hG]; simp) (by simp; omega)
      rw [mset_at _ Qs (r :: R) c j5 _ (by omega)] at hr
      rw [mset_at _ Qs (r :: R) c j6 _ (by omega)] at hr
      simpa using hr
set_option maxHeartbeats 4000000 in
set_option maxRecDepth 100000 in
theorem c_X2_dropHint (l : Launch) {w : mW} {h : Nat} {sg : List Int} {fo : List (Int × Int × Int)} {hi : List (Int × Int)} {mo wi nd tb : Int} (hS : isSh w h sg fo hi mo wi nd tb) (a : Int) : Cv l yX2_dropHint cX2_dropHint 3 1 [vr h, vi a] w (fun w' => isSh w' h sg fo (dropI hi a) mo wi nd tb ∧ frR w w' h (h + 6)) := by
  refine Cv.of (ml := [some (vr h), some (vi a), none]) kyX2_dropHint rfl (Nat.le_of_ble_eq_true rfl) rfl ?_
  intro t n C hQ
  have hf : frR w w h (h + 6) := frR.rf
  have hS2 := hS
  have hlen := hS.len
  obtain ⟨j1, j2, j3, j4, j5, j6, hr⟩ := hS
  refine x_aload_n C dX2_dropHint_0 rfl ?_
  refine x_iload_n C dX2_dropHint_1 rfl ?_
  refine y_p1 C dX2_dropHint_2 kyX2_hasHint knX2_hasHint kmX2_94 hr.o (c_X2_hasHint l hr a) (by decide) (Nat.zero_le _) (Nat.zero_le _) (Nat.le_of_ble_eq_true rfl) (fun z2 q2 => ?_)
  refine x_if_ne (tgt := 9) C dX2_dropHint_5 (by decide) (fun c5 => ?_) (fun c5 => ?_)
  · obtain ⟨P, x, R, rfl, hP⟩ := spl hi a.toNat (by omega)
    have ea : a = P.length := by omega
    refine x_iload_n C dX2_dropHint_9 rfl ?_
    refine x_iconst C dX2_dropHint_10 ⟨by decide, by decide⟩ ?_
    refine x_iadd C dX2_dropHint_11 (by first | (unfold iR; omega) | exact ⟨by omega, by omega⟩) ?_
    refine s_ist3_2 C dX2_dropHint_12 rfl ?_
    refine lp_X2_dropHint (G := P ++ R) C a hQ (fun w9 h8 h9 => ⟨?_, h9⟩) R P x (a + 1) w hS2 hf rfl (by omega)
    rw [dropI, if_pos (by simp; omega), ea, Int.toNat_natCast, erase_at]
    exact h8
  · refine x_vret C hQ dX2_dropHint_8 (Nat.le_refl _) (Nat.le_refl _) ?_
    exact ⟨rfl, rfl, by rw [dropI, if_neg (by omega)]; exact hS2, hf⟩

set_option maxHeartbeats 4000000 in
set_option maxRecDepth 100000 in
theorem lp_X2_addFold {t : TX} {l : Launch} {n0 : Nat} {w0 : mW} {h : Nat} {n hc mo wi nd tb : Int} {A1 A5 A6 j2 j3 j4 : List Int} (a b : Int) {G : List (Int × Int × Int)} (C : Cb t l cX2_addFold RX2 4 (some .int) 0 0 0) {Q : Int → mW → Prop} (hQ : RQ t 0 0 (fun r n' w' => n' = n0 ∧ ∃ z : Int, r = some (vi z) ∧ Q z w')) (hfin : ∀ (P R : List (Int × Int × Int)) (w' : mW), rS w' h n (G.length + 1) hc mo wi nd tb A1 ((P ++ (a, b, 1) :: R).map (fun f => f.1) ++ j2) ((P ++ (a, b, 1) :: R).map (fun f => f.2.1) ++ j3) ((P ++ (a, b, 1) :: R).map (fun f => f.2.2) ++ j4) A5 A6 → frR w0 w' h (h + 6) → P ++ R = G → (∀ q ∈ R, a < q.1) → (∀ (P' : List (Int × Int × Int)) (q : Int × Int × Int), P = P' ++ [q] → q.1 ≤ a) → Q P.length w') : ∀ (m : Nat) (P R : List (Int × Int × Int)) (c : Int × Int × Int) (k : Int) (w : mW), P.length = m → k = P.length → rS w h n G.length hc mo wi nd tb A1 ((P ++ c :: R).map (fun f => f.1) ++ j2) ((P ++ c :: R).map (fun f => f.2.1) ++ j3) ((P ++ c :: R).map (fun f => f.2.2) ++ j4) A5 A6 → frR w0 w h (h + 6) → P ++ R = G → G.length < 4 → (∀ q ∈ R, a < q.1) → J t 0 0 16 [some (vr h), some (vi a), some (vi b), some (vi k)] [] n0 w := by
  intro m
  induction m with
  | zero =>
    intro P R c k w hm hk hr hf hG hG4 hR
    have hgl : P.length + R.length = G.length := by rw [← hG]; simp
    refine x_iload_n C dX2_addFold_16 rfl ?_
    refine x_if_le (tgt := 80) C dX2_addFold_17 (by decide) (fun c17 => ?_) (fun c17 => ?_)
    · refine x_aload_n C dX2_addFold_80 rfl ?_
      refine x_get C dX2_addFold_81 kfX2_15 hr.o rfl ?_
      refine x_iload_n C dX2_addFold_84 rfl ?_
      refine x_iload_n C dX2_addFold_85 rfl ?_
      refine x_iast C dX2_addFold_86 hr.a2 (by omega) (by rw [hr.l2]; omega) ?_
      refine ab_S_A2 hr hf (by rw [List.length_set]; exact hr.l2) (fun w hr hf => ?_)
      refine x_aload_n C dX2_addFold_87 rfl ?_
      refine x_get C dX2_addFold_88 kfX2_18 hr.o rfl ?_
      refine x_iload_n C dX2_addFold_91 rfl ?_
      refine x_iload_n C dX2_addFold_92 rfl ?_
      refine x_iast C dX2_addFold_93 hr.a3 (by omega) (by rw [hr.l3]; omega) ?_
      refine ab_S_A3 hr hf (by rw [List.length_set]; exact hr.l3) (fun w hr hf => ?_)
      refine x_aload_n C dX2_addFold_94 rfl ?_
      refine x_get C dX2_addFold_95 kfX2_21 hr.o rfl ?_
      refine x_iload_n C dX2_addFold_98 rfl ?_
      refine x_iconst C dX2_addFold_99 ⟨by decide, by decide⟩ ?_
      refine x_zast C dX2_addFold_100 hr.a4 (by omega) (by rw [hr.l4]; omega) (by first | exact Or.inl rfl | exact Or.inr rfl | assumption | omega) ?_
      refine ab_S_A4 hr hf (by rw [List.length_set]; exact hr.l4) (fun w hr hf => ?_)
      refine x_aload_n C dX2_addFold_101 rfl ?_
      refine x_dup C dX2_addFold_102 rfl ?_
      refine x_get C dX2_addFold_103 kfX2_35 hr.o rfl ?_
      refine x_iconst C dX2_addFold_106 ⟨by decide, by decide⟩ ?_
      refine x_iadd C dX2_addFold_107 (by first | (unfold iR; omega) | exact ⟨by omega, by omega⟩) ?_
      refine x_put C dX2_addFold_108 kfX2_35 kw_2_5 rfl rfl hr.o (Nat.le_of_ble_eq_true rfl) ?_
      refine ab_S_fc hr hf (fun w hr hf => ?_)
      refine x_iload_n C dX2_addFold_111 rfl ?_
      refine x_iret C hQ dX2_addFold_112 (Nat.le_refl _) (Nat.le_refl _) ?_
      rw [hk]
      refine ⟨rfl, _, rfl, hfin P R w ?_ hf hG hR ?_⟩
      · rw [mset_at _ P R c j2 _ (by omega)] at hr
        rw [mset_at _ P R c j3 _ (by omega)] at hr
        rw [mset_at _ P R c j4 _ (by omega)] at hr
        simpa using hr
      · intro P9 q9 h9
        rw [h9] at hm
        simp at hm
    · omega
  | succ m ih =>
    intro P R c k w hm hk hr hf hG hG4 hR
    obtain ⟨P0, r, rfl, hP0⟩ := snoc P m hm
    have hgl : (P0.length + 1) + R.length = G.length := by rw [← hG]; simp; omega
    simp only [List.length_append, List.length_cons, List.length_nil] at hk
    have e2 : (((P0 ++ [r]) ++ c :: R).map (fun f => f.1) ++ j2).getD (k - 1).toNat 0 = r.1 := by
      have h9 := gmap_at (fun f : Int × Int × Int => f.1) P0 (c :: R) r j2 (k := k - 1) (by omega)
      simpa using h9
    have e3 : (((P0 ++ [r]) ++ c :: R).map (fun f => f.2.1) ++ j3).getD (k - 1).toNat 0 = r.2.1 := by
      have h9 := gmap_at (fun f : Int × Int × Int => f.2.1) P0 (c :: R) r j3 (k := k - 1) (by omega)
      simpa using h9
    have e4 : (((P0 ++ [r]) ++ c :: R).map (fun f => f.2.2) ++ j4).getD (k - 1).toNat 0 = r.2.2 := by
      have h9 := gmap_at (fun f : Int × Int × Int => f.2.2) P0 (c :: R) r j4 (k := k - 1) (by omega)
      simpa using h9
    refine x_iload_n C dX2_addFold_16 rfl ?_
    refine x_if_le (tgt := 80) C dX2_addFold_17 (by decide) (fun c17 => absurd c17 (by omega)) (fun c17 => ?_)
    refine x_aload_n C dX2_addFold_20 rfl ?_
    refine x_get C dX2_addFold_21 kfX2_15 hr.o rfl ?_
    refine x_iload_n C dX2_addFold_24 rfl ?_
    refine x_iconst C dX2_addFold_25 ⟨by decide, by decide⟩ ?_
    refine x_isub C dX2_addFold_26 (by first | (unfold iR; omega) | exact ⟨by omega, by omega⟩) ?_
    refine x_iald C dX2_addFold_27 hr.a2 (by omega) (by rw [hr.l2]; omega) ?_
    rw [e2]
    refine x_iload_n C dX2_addFold_28 rfl ?_
    refine x_icmp_le (tgt := 80) C dX2_addFold_29 (by decide) (fun c29 => ?_) (fun c29 => ?_)
    · refine x_aload_n C dX2_addFold_80 rfl ?_
      refine x_get C dX2_addFold_81 kfX2_15 hr.o rfl ?_
      refine x_iload_n C dX2_addFold_84 rfl ?_
      refine x_iload_n C dX2_addFold_85 rfl ?_
      refine x_iast C dX2_addFold_86 hr.a2 (by omega) (by rw [hr.l2]; omega) ?_
      refine ab_S_A2 hr hf (by rw [List.length_set]; exact hr.l2) (fun w hr hf => ?_)
      refine x_aload_n C dX2_addFold_87 rfl ?_
      refine x_get C dX2_addFold_88 kfX2_18 hr.o rfl ?_
      refine x_iload_n C dX2_addFold_91 rfl ?_
      refine x_iload_n C dX2_addFold_92 rfl ?_
      refine x_iast C dX2_addFold_93 hr.a3 (by omega) (by rw [hr.l3]; omega) ?_
      refine ab_S_A3 hr hf (by rw [List.length_set]; exact hr.l3) (fun w hr hf => ?_)
      refine x_aload_n C dX2_addFold_94 rfl ?_
      refine x_get C dX2_addFold_95 kfX2_21 hr.o rfl ?_
      refine x_iload_n C dX2_addFold_98 rfl ?_
      refine x_iconst C dX2_addFold_99 ⟨by decide, by decide⟩ ?_
      refine x_zast C dX2_addFold_100 hr.a4 (by omega) (by rw [hr.l4]; omega) (by first | exact Or.inl rfl | exact Or.inr rfl | assumption | omega) ?_
      refine ab_S_A4 hr hf (by rw [List.length_set]; exact hr.l4) (fun w hr hf => ?_)
      refine x_aload_n C dX2_addFold_101 rfl ?_
      refine x_dup C dX2_addFold_102 rfl ?_
      refine x_get C dX2_addFold_103 kfX2_35 hr.o rfl ?_
      refine x_iconst C dX2_addFold_106 ⟨by decide, by decide⟩ ?_
      refine x_iadd C dX2_addFold_107 (by first | (unfold iR; omega) | exact ⟨by omega, by omega⟩) ?_
      refine x_put C dX2_addFold_108 kfX2_35 kw_2_5 rfl rfl hr.o (Nat.le_of_ble_eq_true rfl) ?_
      refine ab_S_fc hr hf (fun w hr hf => ?_)
      refine x_iload_n C dX2_addFold_111 rfl ?_
      refine x_iret C hQ dX2_addFold_112 (Nat.le_refl _) (Nat.le_refl _) ?_
      have ek : k = ((P0 ++ [r]).length : Int) := by simp; omega
      rw [ek]
      refine ⟨rfl, _, rfl, hfin (P0 ++ [r]) R w ?_ hf hG hR ?_⟩
      · rw [mset_at _ (P0 ++ [r]) R c j2 _ (by simp; omega)] at hr
        rw [mset_at _ (P0 ++ [r]) R c j3 _ (by simp; omega)] at hr
        rw [mset_at _ (P0 ++ [r]) R c j4 _ (by simp; omega)] at hr
        simpa using hr
      · intro P9 q9 h9
        have h8 := (List.append_inj' h9 rfl).2
        simp at h8
        rw [← h8]; omega
    · refine x_aload_n C dX2_addFold_32 rfl ?_
      refine x_get C dX2_addFold_33 kfX2_15 hr.o rfl ?_
      refine x_iload_n C dX2_addFold_36 rfl ?_
      refine x_aload_n C dX2_addFold_37 rfl ?_
      refine x_get C dX2_addFold_38 kfX2_15 hr.o rfl ?_
      refine x_iload_n C dX2_addFold_41 rfl ?_
      refine x_iconst C dX2_addFold_42 ⟨by decide, by decide⟩ ?_
      refine x_isub C dX2_addFold_43 (by first | (unfold iR; omega) | exact ⟨by omega, by omega⟩) ?_
      refine x_iald C dX2_addFold_44 hr.a2 (by omega) (by rw [hr.l2]; omega) ?_
      rw [e2]
      refine x_iast C dX2_addFold_45 hr.a2 (by omega) (by rw [hr.l2]; omega) ?_
      refine ab_S_A2 hr hf (by rw [List.length_set]; exact hr.l2) (fun w hr hf => ?_)
      refine x_aload_n C dX2_addFold_46 rfl ?_
      refine x_get C dX2_addFold_47 kfX2_18 hr.o rfl ?_
      refine x_iload_n C dX2_addFold_50 rfl ?_
      refine x_aload_n C dX2_addFold_51 rfl ?_
      refine x_get C dX2_addFold_52 kfX2_18 hr.o rfl ?_
      refine x_iload_n C dX2_addFold_55 rfl ?_
      refine x_iconst C dX2_addFold_56 ⟨by decide, by decide⟩ ?_
      refine x_isub C dX2_addFold_57 (by first | (unfold iR; omega) | exact ⟨by omega, by omega⟩) ?_
      refine x_iald C dX2_addFold_58 hr.a3 (by omega) (by rw [hr.l3]; omega) ?_
      rw [e3]
      refine x_iast C dX2_addFold_59 hr.a3 (by omega) (by rw [hr.l3]; omega) ?_
      refine ab_S_A3 hr hf (by rw [List.length_set]; exact hr.l3) (fun w hr hf => ?_)
      refine x_aload_n C dX2_addFold_60 rfl ?_
      refine x_get C dX2_addFold_61 kfX2_21 hr.o rfl ?_
      refine x_iload_n C dX2_addFold_64 rfl ?_
      refine x_aload_n C dX2_addFold_65 rfl ?_
      refine x_get C dX2_addFold_66 kfX2_21 hr.o rfl ?_
      refine x_iload_n C dX2_addFold_69 rfl ?_
      refine x_iconst C dX2_addFold_70 ⟨by decide, by decide⟩ ?_
      refine x_isub C dX2_addFold_71 (by first | (unfold iR; omega) | exact ⟨by omega, by omega⟩) ?_
      refine x_zaldB C dX2_addFold_72 hr.a4 (by omega) (by rw [hr.l4]; omega) (fun b72 => ?_)
      rw [e4] at b72 ⊢
      refine x_zast C dX2_addFold_73 hr.a4 (by omega) (by rw [hr.l4]; omega) (by first | exact Or.inl rfl | exact Or.inr rfl | assumption | omega) ?_
      refine ab_S_A4 hr hf (by rw [List.length_set]; exact hr.l4) (fun w hr hf => ?_)
      refine s_inc4_3 C dX2_addFold_74 rfl (by first | (unfold iR; omega) | exact ⟨by omega, by omega⟩) ?_
      refine x_goto (tgt := 16) C dX2_addFold_77 (by decide) ?_
      refine ih P0 (r :: R) r (k + -1) w hP0 (by omega) ?_ hf (by rw [← hG]; simp) hG4 (fun q hq => ?_)
      · rw [mset_at _ (P0 ++ [r]) R c j2 _ (by simp; omega)] at hr
        rw [mset_at _ (P0 ++ [r]) R c j3 _ (by simp; omega)] at hr
        rw [mset_at _ (P0 ++ [r]) R c j4 _ (by simp; omega)] at hr
        simpa using hr
      · rcases List.mem_cons.mp hq with h9 | h9
        · rw [h9]; omega
        · exact hR q h9
set_option maxHeartbeats 4000000 in
set_option maxRecDepth 100000 in
theorem c_X2_addFold (l : Launch) {w : mW} {h : Nat} {sg : List Int} {fo : List (Int × Int × Int)} {hi : List (Int × Int)} {mo wi nd tb : Int} (hS : isSh w h sg fo hi mo wi nd tb) (a b : Int) (hlt : fo.length < 4) : Ci l yX2_addFold cX2_addFold 4 (some .int) 0 [vr h, vi a, vi b] w (fun z w' => ∃ l', insK (fun q => q.1) (a, b, 1) fo l' z ∧ isSh w' h sg l' hi mo wi nd tb ∧ frR w w' h (h + 6)) := by
  refine Ci.of (ml := [some (vr h), some (vi a), some (vi b), none]) kyX2_addFold rfl (Nat.le_of_ble_eq_true rfl) rfl ?_
  intro t n C hQ
  have hf : frR w w h (h + 6) := frR.rf
  have hS2 := hS
  obtain ⟨j1, j2, j3, j4, j5, j6, hr⟩ := hS
  have l1 := hr.l1
  have l2 := hr.l2
  have l3 := hr.l3
  have l4 := hr.l4
  have l5 := hr.l5
  have l6 := hr.l6
  simp only [List.length_append, List.length_map] at l1 l2 l3 l4 l5 l6
  refine x_aload_n C dX2_addFold_0 rfl ?_
  refine x_get C dX2_addFold_1 kfX2_35 hr.o rfl ?_
  refine x_iconst C dX2_addFold_4 ⟨by decide, by decide⟩ ?_
  refine x_icmp_lt (tgt := 11) C dX2_addFold_5 (by decide) (fun c5 => ?_) (fun c5 => ?_)
  · refine x_aload_n C dX2_addFold_11 rfl ?_
    refine x_get C dX2_addFold_12 kfX2_35 hr.o rfl ?_
    refine s_ist4_3 C dX2_addFold_15 rfl ?_
    obtain ⟨u0, v0, rfl⟩ : ∃ u v, j2 = u :: v := List.exists_cons_of_length_pos (by omega)
    obtain ⟨u1, v1, rfl⟩ : ∃ u v, j3 = u :: v := List.exists_cons_of_length_pos (by omega)
    obtain ⟨u2, v2, rfl⟩ : ∃ u v, j4 = u :: v := List.exists_cons_of_length_pos (by omega)
    refine lp_X2_addFold a b (G := fo) C hQ (fun P R w9 h1 h2 h3 h4 h5 => ?_) fo.length fo [] (u0, u1, u2) fo.length w rfl rfl (by simpa using hr) hf (by simp) (by omega) (fun q hq => by cases hq)
    refine ⟨P ++ (a, b, 1) :: R, ⟨P, R, h3.symm, rfl, rfl, h4, h5⟩, ⟨j1, v0, v1, v2, j5, j6, ?_⟩, h2⟩
    rw [← h3] at h1
    simpa [Int.add_assoc] using h1
  · omega

set_option maxHeartbeats 4000000 in
set_option maxRecDepth 100000 in
theorem lp_X2_addHint {t : TX} {l : Launch} {n0 : Nat} {w0 : mW} {h : Nat} {n fc mo wi nd tb : Int} {A1 A2 A3 A4 j5 j6 : List Int} (a b : Int) {G : List (Int × Int)} (C : Cb t l cX2_addHint RX2 4 (some .int) 0 0 0) {Q : Int → mW → Prop} (hQ : RQ t 0 0 (fun r n' w' => n' = n0 ∧ ∃ z : Int, r = some (vi z) ∧ Q z w')) (hfin : ∀ (P R : List (Int × Int)) (w' : mW), rS w' h n fc (G.length + 1) mo wi nd tb A1 A2 A3 A4 ((P ++ (a, b) :: R).map (fun f => f.1) ++ j5) ((P ++ (a, b) :: R).map (fun f => f.2) ++ j6) → frR w0 w' h (h + 6) → P ++ R = G → (∀ q ∈ R, a < q.1) → (∀ (P' : List (Int × Int)) (q : Int × Int), P = P' ++ [q] → q.1 ≤ a) → Q P.length w') : ∀ (m : Nat) (P R : List (Int × Int)) (c : Int × Int) (k : Int) (w : mW), P.length = m → k = P.length → rS w h n fc G.length mo wi nd tb A1 A2 A3 A4 ((P ++ c :: R).map (fun f => f.1) ++ j5) ((P ++ c :: R).map (fun f => f.2) ++ j6) → frR w0 w h (h + 6) → P ++ R = G → G.length < 4 → (∀ q ∈ R, a < q.1) → J t 0 0 16 [some (vr h), some (vi a), some (vi b), some (vi k)] [] n0 w := by
  intro m
  induction m with
  | zero =>
    intro P R c k w hm hk hr hf hG hG4 hR
    have hgl : P.length + R.length = G.length := by rw [← hG]; simp
    refine x_iload_n C dX2_addHint_16 rfl ?_
    refine x_if_le (tgt := 66) C dX2_addHint_17 (by decide) (fun c17 => ?_) (fun c17 => ?_)
    · refine x_aload_n C dX2_addHint_66 rfl ?_
      refine x_get C dX2_addHint_67 kfX2_25 hr.o rfl ?_
      refine x_iload_n C dX2_addHint_70 rfl ?_
      refine x_iload_n C dX2_addHint_71 rfl ?_
      refine x_iast C dX2_addHint_72 hr.a5 (by omega) (by rw [hr.l5]; omega) ?_
      refine ab_S_A5 hr hf (by rw [List.length_set]; exact hr.l5) (fun w hr hf => ?_)
      refine x_aload_n C dX2_addHint_73 rfl ?_
      refine x_get C dX2_addHint_74 kfX2_28 hr.o rfl ?_
      refine x_iload_n C dX2_addHint_77 rfl ?_
      refine x_iload_n C dX2_addHint_78 rfl ?_
      refine x_iast C dX2_addHint_79 hr.a6 (by omega) (by rw [hr.l6]; omega) ?_
      refine ab_S_A6 hr hf (by rw [List.length_set]; exact hr.l6) (fun w hr hf => ?_)
      refine x_aload_n C dX2_addHint_80 rfl ?_
      refine x_dup C dX2_addHint_81 rfl ?_
      refine x_get C dX2_addHint_82 kfX2_38 hr.o rfl ?_
      refine x_iconst C dX2_addHint_85 ⟨by decide, by decide⟩ ?_
      refine x_iadd C dX2_addHint_86 (by first | (unfold iR; omega) | exact ⟨by omega, by omega⟩) ?_
      refine x_put C dX2_addHint_87 kfX2_38 kw_2_8 rfl rfl hr.o (Nat.le_of_ble_eq_true rfl) ?_
      refine ab_S_hc hr hf (fun w hr hf => ?_)
      refine x_iload_n C dX2_addHint_90 rfl ?_
      refine x_iret C hQ dX2_addHint_91 (Nat.le_refl _) (Nat.le_refl _) ?_
      rw [hk]
      refine ⟨rfl, _, rfl, hfin P R w ?_ hf hG hR ?_⟩
      · rw [mset_at _ P R c j5 _ (by omega)] at hr
        rw [mset_at _ P R c j6 _ (by omega)] at hr
        simpa using hr
      · intro P9 q9 h9
        rw [h9] at hm
        simp at hm
    · omega
  | succ m ih =>
    intro P R c k w hm hk hr hf hG hG4 hR
    obtain ⟨P0, r, rfl, hP0⟩ := snoc P m hm
    have hgl : (P0.length + 1) + R.length = G.length := by rw [← hG]; simp; omega
    simp only [List.length_append, List.length_cons, List.length_nil] at hk
    have e5 : (((P0 ++ [r]) ++ c :: R).map (fun f => f.1) ++ j5).getD (k - 1).toNat 0 = r.1 := by
      have h9 := gmap_at (fun f : Int × Int => f.1) P0 (c :: R) r j5 (k := k - 1) (by omega)
      simpa using h9
    have e6 : (((P0 ++ [r]) ++ c :: R).map (fun f => f.2) ++ j6).getD (k - 1).toNat 0 = r.2 := by
      have h9 := gmap_at (fun f : Int × Int => f.2) P0 (c :: R) r j6 (k := k - 1) (by omega)
      simpa using h9
    refine x_iload_n C dX2_addHint_16 rfl ?_
    refine x_if_le (tgt := 66) C dX2_addHint_17 (by decide) (fun c17 => absurd c17 (by omega)) (fun c17 => ?_)
    refine x_aload_n C dX2_addHint_20 rfl ?_
    refine x_get C dX2_addHint_21 kfX2_25 hr.o rfl ?_
    refine x_iload_n C dX2_addHint_24 rfl ?_
    refine x_iconst C dX2_addHint_25 ⟨by decide, by decide⟩ ?_
    refine x_isub C dX2_addHint_26 (by first | (unfold iR; omega) | exact ⟨by omega, by omega⟩) ?_
    refine x_iald C dX2_addHint_27 hr.a5 (by omega) (by rw [hr.l5]; omega) ?_
    rw [e5]
    refine x_iload_n C dX2_addHint_28 rfl ?_
    refine x_icmp_le (tgt := 66) C dX2_addHint_29 (by decide) (fun c29 => ?_) (fun c29 => ?_)
    · refine x_aload_n C dX2_addHint_66 rfl ?_
      refine x_get C dX2_addHint_67 kfX2_25 hr.o rfl ?_
      refine x_iload_n C dX2_addHint_70 rfl ?_
      refine x_iload_n C dX2_addHint_71 rfl ?_
      refine x_iast C dX2_addHint_72 hr.a5 (by omega) (by rw [hr.l5]; omega) ?_
      refine ab_S_A5 hr hf (by rw [List.length_set]; exact hr.l5) (fun w hr hf => ?_)
      refine x_aload_n C dX2_addHint_73 rfl ?_
      refine x_get C dX2_addHint_74 kfX2_28 hr.o rfl ?_
      refine x_iload_n C dX2_addHint_77 rfl ?_
      refine x_iload_n C dX2_addHint_78 rfl ?_
      refine x_iast C dX2_addHint_79 hr.a6 (by omega) (by rw [hr.l6]; omega) ?_
      refine ab_S_A6 hr hf (by rw [List.length_set]; exact hr.l6) (fun w hr hf => ?_)
      refine x_aload_n C dX2_addHint_80 rfl ?_
      refine x_dup C dX2_addHint_81 rfl ?_
      refine x_get C dX2_addHint_82 kfX2_38 hr.o rfl ?_
      refine x_iconst C dX2_addHint_85 ⟨by decide, by decide⟩ ?_
      refine x_iadd C dX2_addHint_86 (by first | (unfold iR; omega) | exact ⟨by omega, by omega⟩) ?_
      refine x_put C dX2_addHint_87 kfX2_38 kw_2_8 rfl rfl hr.o (Nat.le_of_ble_eq_true rfl) ?_
      refine ab_S_hc hr hf (fun w hr hf => ?_)
      refine x_iload_n C dX2_addHint_90 rfl ?_
      refine x_iret C hQ dX2_addHint_91 (Nat.le_refl _) (Nat.le_refl _) ?_
      have ek : k = ((P0 ++ [r]).length : Int) := by simp; omega
      rw [ek]
      refine ⟨rfl, _, rfl, hfin (P0 ++ [r]) R w ?_ hf hG hR ?_⟩
      · rw [mset_at _ (P0 ++ [r]) R c j5 _ (by simp; omega)] at hr
        rw [mset_at _ (P0 ++ [r]) R c j6 _ (by simp; omega)] at hr
        simpa using hr
      · intro P9 q9 h9
        have h8 := (List.append_inj' h9 rfl).2
        simp at h8
        rw [← h8]; omega
    · refine x_aload_n C dX2_addHint_32 rfl ?_
      refine x_get C dX2_addHint_33 kfX2_25 hr.o rfl ?_
      refine x_iload_n C dX2_addHint_36 rfl ?_
      refine x_aload_n C dX2_addHint_37 rfl ?_
      refine x_get C dX2_addHint_38 kfX2_25 hr.o rfl ?_
      refine x_iload_n C dX2_addHint_41 rfl ?_
      refine x_iconst C dX2_addHint_42 ⟨by decide, by decide⟩ ?_
      refine x_isub C dX2_addHint_43 (by first | (unfold iR; omega) | exact ⟨by omega, by omega⟩) ?_
      refine x_iald C dX2_addHint_44 hr.a5 (by omega) (by rw [hr.l5]; omega) ?_
      rw [e5]
      refine x_iast C dX2_addHint_45 hr.a5 (by omega) (by rw [hr.l5]; omega) ?_
      refine ab_S_A5 hr hf (by rw [List.length_set]; exact hr.l5) (fun w hr hf => ?_)
      refine x_aload_n C dX2_addHint_46 rfl ?_
      refine x_get C dX2_addHint_47 kfX2_28 hr.o rfl ?_
      refine x_iload_n C dX2_addHint_50 rfl ?_
      refine x_aload_n C dX2_addHint_51 rfl ?_
      refine x_get C dX2_addHint_52 kfX2_28 hr.o rfl ?_
      refine x_iload_n C dX2_addHint_55 rfl ?_
      refine x_iconst C dX2_addHint_56 ⟨by decide, by decide⟩ ?_
      refine x_isub C dX2_addHint_57 (by first | (unfold iR; omega) | exact ⟨by omega, by omega⟩) ?_
      refine x_iald C dX2_addHint_58 hr.a6 (by omega) (by rw [hr.l6]; omega) ?_
      rw [e6]
      refine x_iast C dX2_addHint_59 hr.a6 (by omega) (by rw [hr.l6]; omega) ?_
      refine ab_S_A6 hr hf (by rw [List.length_set]; exact hr.l6) (fun w hr hf => ?_)
      refine s_inc4_3 C dX2_addHint_60 rfl (by first | (unfold iR; omega) | exact ⟨by omega, by omega⟩) ?_
      refine x_goto (tgt := 16) C dX2_addHint_63 (by decide) ?_
      refine ih P0 (r :: R) r (k + -1) w hP0 (by omega) ?_ hf (by rw [← hG]; simp) hG4 (fun q hq => ?_)
      · rw [mset_at _ (P0 ++ [r]) R c j5 _ (by simp; omega)] at hr
        rw [mset_at _ (P0 ++ [r]) R c j6 _ (by simp; omega)] at hr
        simpa using hr
      · rcases List.mem_cons.mp hq with h9 | h9
        · rw [h9]; omega
        · exact hR q h9
set_option maxHeartbeats 4000000 in
set_option maxRecDepth 100000 in
theorem c_X2_addHint (l : Launch) {w : mW} {h : Nat} {sg : List Int} {fo : List (Int × Int × Int)} {hi : List (Int × Int)} {mo wi nd tb : Int} (hS : isSh w h sg fo hi mo wi nd tb) (a b : Int) (hlt : hi.length < 4) : Ci l yX2_addHint cX2_addHint 4 (some .int) 0 [vr h, vi a, vi b] w (fun z w' => ∃ l', insK (fun q => q.1) (a, b) hi l' z ∧ isSh w' h sg fo l' mo wi nd tb ∧ frR w w' h (h + 6)) := by
  refine Ci.of (ml := [some (vr h), some (vi a), some (vi b), none]) kyX2_addHint rfl (Nat.le_of_ble_eq_true rfl) rfl ?_
  intro t n C hQ
  have hf : frR w w h (h + 6) := frR.rf
  have hS2 := hS
  obtain ⟨j1, j2, j3, j4, j5, j6, hr⟩ := hS
  have l1 := hr.l1
  have l2 := hr.l2
  have l3 := hr.l3
  have l4 := hr.l4
  have l5 := hr.l5
  have l6 := hr.l6
  simp only [List.length_append, List.length_map] at l1 l2 l3 l4 l5 l6
  refine x_aload_n C dX2_addHint_0 rfl ?_
  refine x_get C dX2_addHint_1 kfX2_38 hr.o rfl ?_
  refine x_iconst C dX2_addHint_4 ⟨by decide, by decide⟩ ?_
  refine x_icmp_lt (tgt := 11) C dX2_addHint_5 (by decide) (fun c5 => ?_) (fun c5 => ?_)
  · refine x_aload_n C dX2_addHint_11 rfl ?_
    refine x_get C dX2_addHint_12 kfX2_38 hr.o rfl ?_
    refine s_ist4_3 C dX2_addHint_15 rfl ?_
    obtain ⟨u0, v0, rfl⟩ : ∃ u v, j5 = u :: v := List.exists_cons_of_length_pos (by omega)
    obtain ⟨u1, v1, rfl⟩ : ∃ u v, j6 = u :: v := List.exists_cons_of_length_pos (by omega)
    refine lp_X2_addHint a b (G := hi) C hQ (fun P R w9 h1 h2 h3 h4 h5 => ?_) hi.length hi [] (u0, u1) hi.length w rfl rfl (by simpa using hr) hf (by simp) (by omega) (fun q hq => by cases hq)
    refine ⟨P ++ (a, b) :: R, ⟨P, R, h3.symm, rfl, rfl, h4, h5⟩, ⟨j1, j2, j3, j4, v0, v1, ?_⟩, h2⟩
    rw [← h3] at h1
    simpa [Int.add_assoc] using h1
  · omega

theorem set4 {xs ys : List Int} (hx : xs.length = 4) (hy : ys.length = 4) : (((xs.set 0 (ys.getD 0 0)).set 1 (ys.getD 1 0)).set 2 (ys.getD 2 0)).set 3 (ys.getD 3 0) = ys := by
  obtain ⟨a, b, c, d, rfl⟩ : ∃ a b c d, xs = [a, b, c, d] := by
    match xs, hx with
    | [a, b, c, d], _ => exact ⟨a, b, c, d, rfl⟩
  obtain ⟨a', b', c', d', rfl⟩ : ∃ a b c d, ys = [a, b, c, d] := by
    match ys, hy with
    | [a, b, c, d], _ => exact ⟨a, b, c, d, rfl⟩
  rfl

set_option maxHeartbeats 4000000 in
set_option maxRecDepth 100000 in
theorem c_X2_copyFrom (l : Launch) {u : Nat} {m_ fc_ hc_ mo_ wi_ nd_ tb_ : Int} {E1 E2 E3 E4 E5 E6 : List Int} {w : mW} {h : Nat} {n fc hc mo wi nd tb : Int} {A1 A2 A3 A4 A5 A6 : List Int} (hr : rS w h n fc hc mo wi nd tb A1 A2 A3 A4 A5 A6) (hu : rS w u m_ fc_ hc_ mo_ wi_ nd_ tb_ E1 E2 E3 E4 E5 E6) (hd : u + 6 < h ∨ h + 6 < u) : Cv l yX2_copyFrom cX2_copyFrom 3 1 [vr h, vr u] w (fun w' => rS w' h m_ fc_ hc_ mo_ wi_ nd_ tb_ E1 E2 E3 E4 E5 E6 ∧ frR w w' h (h + 6)) := by
  refine Cv.of (ml := [some (vr h), some (vr u), none]) kyX2_copyFrom rfl (Nat.le_of_ble_eq_true rfl) rfl ?_
  intro t n C hQ
  have hf : frR w w h (h + 6) := frR.rf
  have l1 := hr.l1
  have l2 := hr.l2
  have l3 := hr.l3
  have l4 := hr.l4
  have l5 := hr.l5
  have l6 := hr.l6
  have k1 := hu.l1
  have k2 := hu.l2
  have k3 := hu.l3
  have k4 := hu.l4
  have k5 := hu.l5
  have k6 := hu.l6
  refine x_aload_n C dX2_copyFrom_0 rfl ?_
  refine x_get C dX2_copyFrom_1 kfX2_9 (hu.fr hf hd).o rfl ?_
  refine x_iconst C dX2_copyFrom_4 ⟨by decide, by decide⟩ ?_
  refine x_aload_n C dX2_copyFrom_5 rfl ?_
  refine x_get C dX2_copyFrom_6 kfX2_9 hr.o rfl ?_
  refine x_iconst C dX2_copyFrom_9 ⟨by decide, by decide⟩ ?_
  refine x_bipush C dX2_copyFrom_10 ⟨by decide, by decide⟩ ?_
  refine x_acopy C dX2_copyFrom_12 gk_cpy gk_cpy1 gk_cpy2 gk_cpy3 (hu.fr hf hd).a1 hr.a1 (by omega) (by omega) (by decide) (Nat.le_of_ble_eq_true rfl) ?_
  refine ab_S_A1 hr hf (hu.fr hf hd).l1 (fun w hr hf => ?_)
  refine x_aload_n C dX2_copyFrom_15 rfl ?_
  refine x_aload_n C dX2_copyFrom_16 rfl ?_
  refine x_get C dX2_copyFrom_17 kfX2_31 (hu.fr hf hd).o rfl ?_
  refine x_put C dX2_copyFrom_20 kfX2_31 kw_2_1 rfl rfl hr.o (Nat.le_of_ble_eq_true rfl) ?_
  refine ab_S_n hr hf (fun w hr hf => ?_)
  refine x_iconst C dX2_copyFrom_23 ⟨by decide, by decide⟩ ?_
  refine s_ist3_2 C dX2_copyFrom_24 rfl ?_
  refine x_iload_n C dX2_copyFrom_25 rfl ?_
  refine x_iconst C dX2_copyFrom_26 ⟨by decide, by decide⟩ ?_
  refine x_icmp_ge (tgt := 72) C dX2_copyFrom_27 (by decide) (fun c27 => absurd c27 (by omega)) (fun c27 => ?_)
  refine x_aload_n C dX2_copyFrom_30 rfl ?_
  refine x_get C dX2_copyFrom_31 kfX2_15 hr.o rfl ?_
  refine x_iload_n C dX2_copyFrom_34 rfl ?_
  refine x_aload_n C dX2_copyFrom_35 rfl ?_
  refine x_get C dX2_copyFrom_36 kfX2_15 (hu.fr hf hd).o rfl ?_
  refine x_iload_n C dX2_copyFrom_39 rfl ?_
  refine x_iald C dX2_copyFrom_40 (hu.fr hf hd).a2 (by omega) (by rw [(hu.fr hf hd).l2]; omega) ?_
  refine x_iast C dX2_copyFrom_41 hr.a2 (by omega) (by rw [hr.l2]; omega) ?_
  refine ab_S_A2 hr hf (by rw [List.length_set]; exact hr.l2) (fun w hr hf => ?_)
  refine x_aload_n C dX2_copyFrom_42 rfl ?_
  refine x_get C dX2_copyFrom_43 kfX2_18 hr.o rfl ?_
  refine x_iload_n C dX2_copyFrom_46 rfl ?_
  refine x_aload_n C dX2_copyFrom_47 rfl ?_
  refine x_get C dX2_copyFrom_48 kfX2_18 (hu.fr hf hd).o rfl ?_
  refine x_iload_n C dX2_copyFrom_51 rfl ?_
  refine x_iald C dX2_copyFrom_52 (hu.fr hf hd).a3 (by omega) (by rw [(hu.fr hf hd).l3]; omega) ?_
  refine x_iast C dX2_copyFrom_53 hr.a3 (by omega) (by rw [hr.l3]; omega) ?_
  refine ab_S_A3 hr hf (by rw [List.length_set]; exact hr.l3) (fun w hr hf => ?_)
  refine x_aload_n C dX2_copyFrom_54 rfl ?_
  refine x_get C dX2_copyFrom_55 kfX2_21 hr.o rfl ?_
  refine x_iload_n C dX2_copyFrom_58 rfl ?_
  refine x_aload_n C dX2_copyFrom_59 rfl ?_
  refine x_get C dX2_copyFrom_60 kfX2_21 (hu.fr hf hd).o rfl ?_
  refine x_iload_n C dX2_copyFrom_63 rfl ?_
  refine x_zaldB C dX2_copyFrom_64 (hu.fr hf hd).a4 (by omega) (by rw [(hu.fr hf hd).l4]; omega) (fun b64 => ?_)
  refine x_zast C dX2_copyFrom_65 hr.a4 (by omega) (by rw [hr.l4]; omega) (by first | exact Or.inl rfl | exact Or.inr rfl | assumption | omega) ?_
  refine ab_S_A4 hr hf (by rw [List.length_set]; exact hr.l4) (fun w hr hf => ?_)
  refine s_inc3_2 C dX2_copyFrom_66 rfl (by first | (unfold iR; omega) | exact ⟨by omega, by omega⟩) ?_
  refine x_goto (tgt := 25) C dX2_copyFrom_69 (by decide) ?_
  refine x_iload_n C dX2_copyFrom_25 rfl ?_
  refine x_iconst C dX2_copyFrom_26 ⟨by decide, by decide⟩ ?_
  refine x_icmp_ge (tgt := 72) C dX2_copyFrom_27 (by decide) (fun c27 => absurd c27 (by omega)) (fun c27 => ?_)
  refine x_aload_n C dX2_copyFrom_30 rfl ?_
  refine x_get C dX2_copyFrom_31 kfX2_15 hr.o rfl ?_
  refine x_iload_n C dX2_copyFrom_34 rfl ?_
  refine x_aload_n C dX2_copyFrom_35 rfl ?_
  refine x_get C dX2_copyFrom_36 kfX2_15 (hu.fr hf hd).o rfl ?_
  refine x_iload_n C dX2_copyFrom_39 rfl ?_
  refine x_iald C dX2_copyFrom_40 (hu.fr hf hd).a2 (by omega) (by rw [(hu.fr hf hd).l2]; omega) ?_
  refine x_iast C dX2_copyFrom_41 hr.a2 (by omega) (by rw [hr.l2]; omega) ?_
  refine ab_S_A2 hr hf (by rw [List.length_set]; exact hr.l2) (fun w hr hf => ?_)
  refine x_aload_n C dX2_copyFrom_42 rfl ?_
  refine x_get C dX2_copyFrom_43 kfX2_18 hr.o rfl ?_
  refine x_iload_n C dX2_copyFrom_46 rfl ?_
  refine x_aload_n C dX2_copyFrom_47 rfl ?_
  refine x_get C dX2_copyFrom_48 kfX2_18 (hu.fr hf hd).o rfl ?_
  refine x_iload_n C dX2_copyFrom_51 rfl ?_
  refine x_iald C dX2_copyFrom_52 (hu.fr hf hd).a3 (by omega) (by rw [(hu.fr hf hd).l3]; omega) ?_
  refine x_iast C dX2_copyFrom_53 hr.a3 (by omega) (by rw [hr.l3]; omega) ?_
  refine ab_S_A3 hr hf (by rw [List.length_set]; exact hr.l3) (fun w hr hf => ?_)
  refine x_aload_n C dX2_copyFrom_54 rfl ?_
  refine x_get C dX2_copyFrom_55 kfX2_21 hr.o rfl ?_
  refine x_iload_n C dX2_copyFrom_58 rfl ?_
  refine x_aload_n C dX2_copyFrom_59 rfl ?_
  refine x_get C dX2_copyFrom_60 kfX2_21 (hu.fr hf hd).o rfl ?_
  refine x_iload_n C dX2_copyFrom_63 rfl ?_
  refine x_zaldB C dX2_copyFrom_64 (hu.fr hf hd).a4 (by omega) (by rw [(hu.fr hf hd).l4]; omega) (fun b64 => ?_)
  refine x_zast C dX2_copyFrom_65 hr.a4 (by omega) (by rw [hr.l4]; omega) (by first | exact Or.inl rfl | exact Or.inr rfl | assumption | omega) ?_
  refine ab_S_A4 hr hf (by rw [List.length_set]; exact hr.l4) (fun w hr hf => ?_)
  refine s_inc3_2 C dX2_copyFrom_66 rfl (by first | (unfold iR; omega) | exact ⟨by omega, by omega⟩) ?_
  refine x_goto (tgt := 25) C dX2_copyFrom_69 (by decide) ?_
  refine x_iload_n C dX2_copyFrom_25 rfl ?_
  refine x_iconst C dX2_copyFrom_26 ⟨by decide, by decide⟩ ?_
  refine x_icmp_ge (tgt := 72) C dX2_copyFrom_27 (by decide) (fun c27 => absurd c27 (by omega)) (fun c27 => ?_)
  refine x_aload_n C dX2_copyFrom_30 rfl ?_
  refine x_get C dX2_copyFrom_31 kfX2_15 hr.o rfl ?_
  refine x_iload_n C dX2_copyFrom_34 rfl ?_
  refine x_aload_n C dX2_copyFrom_35 rfl ?_
  refine x_get C dX2_copyFrom_36 kfX2_15 (hu.fr hf hd).o rfl ?_
  refine x_iload_n C dX2_copyFrom_39 rfl ?_
  refine x_iald C dX2_copyFrom_40 (hu.fr hf hd).a2 (by omega) (by rw [(hu.fr hf hd).l2]; omega) ?_
  refine x_iast C dX2_copyFrom_41 hr.a2 (by omega) (by rw [hr.l2]; omega) ?_
  refine ab_S_A2 hr hf (by rw [List.length_set]; exact hr.l2) (fun w hr hf => ?_)
  refine x_aload_n C dX2_copyFrom_42 rfl ?_
  refine x_get C dX2_copyFrom_43 kfX2_18 hr.o rfl ?_
  refine x_iload_n C dX2_copyFrom_46 rfl ?_
  refine x_aload_n C dX2_copyFrom_47 rfl ?_
  refine x_get C dX2_copyFrom_48 kfX2_18 (hu.fr hf hd).o rfl ?_
  refine x_iload_n C dX2_copyFrom_51 rfl ?_
  refine x_iald C dX2_copyFrom_52 (hu.fr hf hd).a3 (by omega) (by rw [(hu.fr hf hd).l3]; omega) ?_
  refine x_iast C dX2_copyFrom_53 hr.a3 (by omega) (by rw [hr.l3]; omega) ?_
  refine ab_S_A3 hr hf (by rw [List.length_set]; exact hr.l3) (fun w hr hf => ?_)
  refine x_aload_n C dX2_copyFrom_54 rfl ?_
  refine x_get C dX2_copyFrom_55 kfX2_21 hr.o rfl ?_
  refine x_iload_n C dX2_copyFrom_58 rfl ?_
  refine x_aload_n C dX2_copyFrom_59 rfl ?_
  refine x_get C dX2_copyFrom_60 kfX2_21 (hu.fr hf hd).o rfl ?_
  refine x_iload_n C dX2_copyFrom_63 rfl ?_
  refine x_zaldB C dX2_copyFrom_64 (hu.fr hf hd).a4 (by omega) (by rw [(hu.fr hf hd).l4]; omega) (fun b64 => ?_)
  refine x_zast C dX2_copyFrom_65 hr.a4 (by omega) (by rw [hr.l4]; omega) (by first | exact Or.inl rfl | exact Or.inr rfl | assumption | omega) ?_
  refine ab_S_A4 hr hf (by rw [List.length_set]; exact hr.l4) (fun w hr hf => ?_)
  refine s_inc3_2 C dX2_copyFrom_66 rfl (by first | (unfold iR; omega) | exact ⟨by omega, by omega⟩) ?_
  refine x_goto (tgt := 25) C dX2_copyFrom_69 (by decide) ?_
  refine x_iload_n C dX2_copyFrom_25 rfl ?_
  refine x_iconst C dX2_copyFrom_26 ⟨by decide, by decide⟩ ?_
  refine x_icmp_ge (tgt := 72) C dX2_copyFrom_27 (by decide) (fun c27 => absurd c27 (by omega)) (fun c27 => ?_)
  refine x_aload_n C dX2_copyFrom_30 rfl ?_
  refine x_get C dX2_copyFrom_31 kfX2_15 hr.o rfl ?_
  refine x_iload_n C dX2_copyFrom_34 rfl ?_
  refine x_aload_n C dX2_copyFrom_35 rfl ?_
  refine x_get C dX2_copyFrom_36 kfX2_15 (hu.fr hf hd).o rfl ?_
  refine x_iload_n C dX2_copyFrom_39 rfl ?_
  refine x_iald C dX2_copyFrom_40 (hu.fr hf hd).a2 (by omega) (by rw [(hu.fr hf hd).l2]; omega) ?_
  refine x_iast C dX2_copyFrom_41 hr.a2 (by omega) (by rw [hr.l2]; omega) ?_
  refine ab_S_A2 hr hf (by rw [List.length_set]; exact hr.l2) (fun w hr hf => ?_)
  refine x_aload_n C dX2_copyFrom_42 rfl ?_
  refine x_get C dX2_copyFrom_43 kfX2_18 hr.o rfl ?_
  refine x_iload_n C dX2_copyFrom_46 rfl ?_
  refine x_aload_n C dX2_copyFrom_47 rfl ?_
  refine x_get C dX2_copyFrom_48 kfX2_18 (hu.fr hf hd).o rfl ?_
  refine x_iload_n C dX2_copyFrom_51 rfl ?_
  refine x_iald C dX2_copyFrom_52 (hu.fr hf hd).a3 (by omega) (by rw [(hu.fr hf hd).l3]; omega) ?_
  refine x_iast C dX2_copyFrom_53 hr.a3 (by omega) (by rw [hr.l3]; omega) ?_
  refine ab_S_A3 hr hf (by rw [List.length_set]; exact hr.l3) (fun w hr hf => ?_)
  refine x_aload_n C dX2_copyFrom_54 rfl ?_
  refine x_get C dX2_copyFrom_55 kfX2_21 hr.o rfl ?_
  refine x_iload_n C dX2_copyFrom_58 rfl ?_
  refine x_aload_n C dX2_copyFrom_59 rfl ?_
  refine x_get C dX2_copyFrom_60 kfX2_21 (hu.fr hf hd).o rfl ?_
  refine x_iload_n C dX2_copyFrom_63 rfl ?_
  refine x_zaldB C dX2_copyFrom_64 (hu.fr hf hd).a4 (by omega) (by rw [(hu.fr hf hd).l4]; omega) (fun b64 => ?_)
  refine x_zast C dX2_copyFrom_65 hr.a4 (by omega) (by rw [hr.l4]; omega) (by first | exact Or.inl rfl | exact Or.inr rfl | assumption | omega) ?_
  refine ab_S_A4 hr hf (by rw [List.length_set]; exact hr.l4) (fun w hr hf => ?_)
  refine s_inc3_2 C dX2_copyFrom_66 rfl (by first | (unfold iR; omega) | exact ⟨by omega, by omega⟩) ?_
  refine x_goto (tgt := 25) C dX2_copyFrom_69 (by decide) ?_
  refine x_iload_n C dX2_copyFrom_25 rfl ?_
  refine x_iconst C dX2_copyFrom_26 ⟨by decide, by decide⟩ ?_
  refine x_icmp_ge (tgt := 72) C dX2_copyFrom_27 (by decide) (fun c27 => ?_) (fun c27 => absurd c27 (by omega))
  refine x_aload_n C dX2_copyFrom_72 rfl ?_
  refine x_aload_n C dX2_copyFrom_73 rfl ?_
  refine x_get C dX2_copyFrom_74 kfX2_35 (hu.fr hf hd).o rfl ?_
  refine x_put C dX2_copyFrom_77 kfX2_35 kw_2_5 rfl rfl hr.o (Nat.le_of_ble_eq_true rfl) ?_
  refine ab_S_fc hr hf (fun w hr hf => ?_)
  refine x_aload_n C dX2_copyFrom_80 rfl ?_
  refine x_get C dX2_copyFrom_81 kfX2_25 (hu.fr hf hd).o rfl ?_
  refine x_iconst C dX2_copyFrom_84 ⟨by decide, by decide⟩ ?_
  refine x_aload_n C dX2_copyFrom_85 rfl ?_
  refine x_get C dX2_copyFrom_86 kfX2_25 hr.o rfl ?_
  refine x_iconst C dX2_copyFrom_89 ⟨by decide, by decide⟩ ?_
  refine x_iconst C dX2_copyFrom_90 ⟨by decide, by decide⟩ ?_
  refine x_acopy C dX2_copyFrom_91 gk_cpy gk_cpy1 gk_cpy2 gk_cpy3 (hu.fr hf hd).a5 hr.a5 (by omega) (by omega) (by decide) (Nat.le_of_ble_eq_true rfl) ?_
  refine ab_S_A5 hr hf (hu.fr hf hd).l5 (fun w hr hf => ?_)
  refine x_aload_n C dX2_copyFrom_94 rfl ?_
  refine x_get C dX2_copyFrom_95 kfX2_28 (hu.fr hf hd).o rfl ?_
  refine x_iconst C dX2_copyFrom_98 ⟨by decide, by decide⟩ ?_
  refine x_aload_n C dX2_copyFrom_99 rfl ?_
  refine x_get C dX2_copyFrom_100 kfX2_28 hr.o rfl ?_
  refine x_iconst C dX2_copyFrom_103 ⟨by decide, by decide⟩ ?_
  refine x_iconst C dX2_copyFrom_104 ⟨by decide, by decide⟩ ?_
  refine x_acopy C dX2_copyFrom_105 gk_cpy gk_cpy1 gk_cpy2 gk_cpy3 (hu.fr hf hd).a6 hr.a6 (by omega) (by omega) (by decide) (Nat.le_of_ble_eq_true rfl) ?_
  refine ab_S_A6 hr hf (hu.fr hf hd).l6 (fun w hr hf => ?_)
  refine x_aload_n C dX2_copyFrom_108 rfl ?_
  refine x_aload_n C dX2_copyFrom_109 rfl ?_
  refine x_get C dX2_copyFrom_110 kfX2_38 (hu.fr hf hd).o rfl ?_
  refine x_put C dX2_copyFrom_113 kfX2_38 kw_2_8 rfl rfl hr.o (Nat.le_of_ble_eq_true rfl) ?_
  refine ab_S_hc hr hf (fun w hr hf => ?_)
  refine x_aload_n C dX2_copyFrom_116 rfl ?_
  refine x_aload_n C dX2_copyFrom_117 rfl ?_
  refine x_get C dX2_copyFrom_118 kfX2_54 (hu.fr hf hd).o rfl ?_
  refine x_aload_n C dX2_copyFrom_121 rfl ?_
  refine x_get C dX2_copyFrom_122 kfX2_57 (hu.fr hf hd).o rfl ?_
  refine x_aload_n C dX2_copyFrom_125 rfl ?_
  refine x_get C dX2_copyFrom_126 kfX2_60 (hu.fr hf hd).o rfl ?_
  refine y_v3 C dX2_copyFrom_129 kyX2_setFlow knX2_setFlow kmX2_41 hr.o (c_X2_setFlow l hr mo_ wi_ nd_) (by decide) (Nat.zero_le _) (Nat.zero_le _) (Nat.le_of_ble_eq_true rfl) (fun w129 q129 => ?_)
  obtain ⟨hr, hf9⟩ := q129
  have hf := hf.tr hf9
  refine x_aload_n C dX2_copyFrom_132 rfl ?_
  refine x_aload_n C dX2_copyFrom_133 rfl ?_
  refine x_get C dX2_copyFrom_134 kfX2_45 (hu.fr hf hd).o rfl ?_
  refine x_put C dX2_copyFrom_137 kfX2_45 kw_2_12 rfl rfl hr.o (Nat.le_of_ble_eq_true rfl) ?_
  refine ab_S_tb hr hf (fun w hr hf => ?_)
  refine x_vret C hQ dX2_copyFrom_140 (Nat.le_refl _) (Nat.le_refl _) ?_
  refine ⟨rfl, rfl, ?_, hf⟩
  have s2 := set4 l2 hu.l2
  have s3 := set4 l3 hu.l3
  have s4 := set4 l4 hu.l4
  rw [← s2, ← s3, ← s4]
  exact hr
