/-! ===== the reference: the screen ===== -/
set_option maxHeartbeats 1000000 in
set_option maxRecDepth 100000 in
theorem c_X5_isWord (l : Launch) {w : mW} {h : Nat} {mn fc hc mo wi nd tb pi lr lc um sm wp wr ac sz ra rn : Int} {M1 M2 M3 M4 M5 M6 M7 M8 M9 M10 M11 M12 M13 M14 M15 M16 M17 M18 M19 M20 M21 M22 M23 : List Int} (hr : rM w h mn fc hc mo wi nd tb pi lr lc um sm wp wr ac sz ra rn M1 M2 M3 M4 M5 M6 M7 M8 M9 M10 M11 M12 M13 M14 M15 M16 M17 M18 M19 M20 M21 M22 M23) (i : Int) (hi : 0 ≤ i ∧ i < 48) : Cp l yX5_isWord cX5_isWord 2 (some .boolean) 0 [vr h, vi i] w (fun z => (z = 0 ∨ z = 1) ∧ (z = 1 ↔ M7.getD i.toNat 0 ≠ 26 ∧ M7.getD i.toNat 0 ≠ 27)) := by
  refine Cp.of (ml := [some (vr h), some (vi i)]) kyX5_isWord rfl (Nat.le_of_ble_eq_true rfl) rfl ?_
  intro t n C hQ
  refine x_aload_n C dX5_isWord_0 rfl ?_
  refine x_get C dX5_isWord_1 kfX5_38 hr.o rfl ?_
  refine x_iload_n C dX5_isWord_4 rfl ?_
  refine x_iald C dX5_isWord_5 hr.a7 (by omega) (by rw [hr.l7]; omega) ?_
  refine x_bipush C dX5_isWord_6 ⟨by decide, by decide⟩ ?_
  refine x_icmp_eq (tgt := 26) C dX5_isWord_8 (by decide) (fun c8 => ?_) (fun c8 => ?_)
  · refine x_iconst C dX5_isWord_26 ⟨by decide, by decide⟩ ?_
    refine x_zret C hQ dX5_isWord_27 (by first | exact Or.inl rfl | exact Or.inr rfl | omega) (Nat.le_refl _) (Nat.le_refl _) ?_
    exact ⟨rfl, rfl, _, rfl, by omega⟩
  · refine x_aload_n C dX5_isWord_11 rfl ?_
    refine x_get C dX5_isWord_12 kfX5_38 hr.o rfl ?_
    refine x_iload_n C dX5_isWord_15 rfl ?_
    refine x_iald C dX5_isWord_16 hr.a7 (by omega) (by rw [hr.l7]; omega) ?_
    refine x_bipush C dX5_isWord_17 ⟨by decide, by decide⟩ ?_
    refine x_icmp_eq (tgt := 26) C dX5_isWord_19 (by decide) (fun c19 => ?_) (fun c19 => ?_)
    · refine x_iconst C dX5_isWord_26 ⟨by decide, by decide⟩ ?_
      refine x_zret C hQ dX5_isWord_27 (by first | exact Or.inl rfl | exact Or.inr rfl | omega) (Nat.le_refl _) (Nat.le_refl _) ?_
      exact ⟨rfl, rfl, _, rfl, by omega⟩
    · refine x_iconst C dX5_isWord_22 ⟨by decide, by decide⟩ ?_
      refine x_goto (tgt := 27) C dX5_isWord_23 (by decide) ?_
      refine x_zret C hQ dX5_isWord_27 (by first | exact Or.inl rfl | exact Or.inr rfl | omega) (Nat.le_refl _) (Nat.le_refl _) ?_
      exact ⟨rfl, rfl, _, rfl, by omega⟩

set_option maxHeartbeats 1000000 in
set_option maxRecDepth 100000 in
theorem c_X5_toStop (l : Launch) {w : mW} {h : Nat} {mn fc hc mo wi nd tb pi lr lc um sm wp wr ac sz ra rn : Int} {M1 M2 M3 M4 M5 M6 M7 M8 M9 M10 M11 M12 M13 M14 M15 M16 M17 M18 M19 M20 M21 M22 M23 : List Int} (hr : rM w h mn fc hc mo wi nd tb pi lr lc um sm wp wr ac sz ra rn M1 M2 M3 M4 M5 M6 M7 M8 M9 M10 M11 M12 M13 M14 M15 M16 M17 M18 M19 M20 M21 M22 M23) (c : Int) (hc : 0 ≤ c ∧ c ≤ 100000) (htb : 1 ≤ tb ∧ tb ≤ 8) : Cp l yX5_toStop cX5_toStop 2 (some .int) 0 [vr h, vi c] w (fun z => z = tb - c % tb) := by
  refine Cp.of (ml := [some (vr h), some (vi c)]) kyX5_toStop rfl (Nat.le_of_ble_eq_true rfl) rfl ?_
  intro t n C hQ
  have hm := Int.emod_lt_of_pos c (show 0 < tb by omega)
  have hm0 := Int.emod_nonneg c (show tb ≠ 0 by omega)
  refine x_aload_n C dX5_toStop_0 rfl ?_
  refine x_get C dX5_toStop_1 kfX5_35 hr.o rfl ?_
  refine x_iload_n C dX5_toStop_4 rfl ?_
  refine x_aload_n C dX5_toStop_5 rfl ?_
  refine x_get C dX5_toStop_6 kfX5_35 hr.o rfl ?_
  refine x_irem C dX5_toStop_9 (by omega) (by omega) ?_
  refine x_isub C dX5_toStop_10 (by first | (unfold iR; omega) | exact ⟨by omega, by omega⟩) ?_
  refine x_iret C hQ dX5_toStop_11 (Nat.le_refl _) (Nat.le_refl _) ?_
  exact ⟨rfl, rfl, _, rfl, rfl⟩

set_option maxHeartbeats 1000000 in
set_option maxRecDepth 100000 in
theorem lp_X5_wordFrom {t : TX} {l : Launch} {n0 : Nat} {w : mW} {h : Nat} {mn fc hc mo wi nd tb pi lr lc um sm wp wr ac sz ra rn : Int} {M1 M2 M3 M4 M5 M6 M7 M8 M9 M10 M11 M12 M13 M14 M15 M16 M17 M18 M19 M20 M21 M22 M23 : List Int} (hr : rM w h mn fc hc mo wi nd tb pi lr lc um sm wp wr ac sz ra rn M1 M2 M3 M4 M5 M6 M7 M8 M9 M10 M11 M12 M13 M14 M15 M16 M17 M18 M19 M20 M21 M22 M23) (a : Int) {J1 J5 : List Int} (C : Cb t l cX5_wordFrom RX5 4 (some .int) 1 0 0) {Q : Int → Prop} (hQ : RQ t 0 0 (fun r n' w' => n' = n0 ∧ w' = w ∧ ∃ z : Int, r = some (vi z) ∧ Q z)) : ∀ (R : List mI) (P1 P5 : List Int) (s k : Int), M7 = P1 ++ (R.map (fun q => q.1) ++ J1) → M11 = P5 ++ (R.map (fun q => q.2.2) ++ J5) → k = P1.length → k = P5.length → pi = k + R.length → (∀ q ∈ R, 0 ≤ q.2.2 ∧ q.2.2 ≤ 8) → (0 ≤ s ∧ s + 8 * R.length ≤ 1000) → Q (s + wordW R) → J t 0 0 4 [some (vr h), some (vi a), some (vi s), some (vi k)] [] n0 w := by
  intro R
  induction R with
  | nil =>
    intro P1 P5 s k h1 h5 e1 e5 ei hb hs hq
    simp only [List.length_nil] at ei
    refine x_iload_n C dX5_wordFrom_4 rfl ?_
    refine x_aload_n C dX5_wordFrom_5 rfl ?_
    refine x_get C dX5_wordFrom_6 kfX5_117 hr.o rfl ?_
    refine x_icmp_ge (tgt := 35) C dX5_wordFrom_9 (by decide) (fun c9 => ?_) (fun c9 => absurd c9 (by omega))
    refine x_iload_n C dX5_wordFrom_35 rfl ?_
    refine x_iret C hQ dX5_wordFrom_36 (Nat.le_refl _) (Nat.le_refl _) ?_
    exact ⟨rfl, rfl, _, rfl, by simpa [wordW] using hq⟩
  | cons r R ih =>
    intro P1 P5 s k h1 h5 e1 e5 ei hb hs hq
    have hbr := hb r List.mem_cons_self
    simp only [List.length_cons] at ei hs
    have lB := hr.l7
    have v1 : M7.getD k.toNat 0 = r.1 := by rw [h1]; exact gd_mid P1 r.1 _ (by omega)
    have v5 : M11.getD k.toNat 0 = r.2.2 := by rw [h5]; exact gd_mid P5 r.2.2 _ (by omega)
    have lB2 : P1.length + (R.length + 1 + J1.length) = 48 := by rw [h1] at lB; simp at lB; omega
    unfold wordW at hq
    refine x_iload_n C dX5_wordFrom_4 rfl ?_
    refine x_aload_n C dX5_wordFrom_5 rfl ?_
    refine x_get C dX5_wordFrom_6 kfX5_117 hr.o rfl ?_
    refine x_icmp_ge (tgt := 35) C dX5_wordFrom_9 (by decide) (fun c9 => absurd c9 (by omega)) (fun c9 => ?_)
    refine x_aload_n C dX5_wordFrom_12 rfl ?_
    refine x_iload_n C dX5_wordFrom_13 rfl ?_
    refine y_p1 C dX5_wordFrom_14 kyX5_isWord knX5_isWord kmX5_127 hr.o (c_X5_isWord l hr k (by omega)) (by decide) (Nat.zero_le _) (Nat.zero_le _) (Nat.le_of_ble_eq_true rfl) (fun z14 q14 => ?_)
    rw [v1] at q14
    refine x_if_eq (tgt := 35) C dX5_wordFrom_17 (by decide) (fun c17 => ?_) (fun c17 => ?_)
    · refine x_iload_n C dX5_wordFrom_35 rfl ?_
      refine x_iret C hQ dX5_wordFrom_36 (Nat.le_refl _) (Nat.le_refl _) ?_
      first | omega | (refine ⟨rfl, rfl, _, rfl, ?_⟩; rw [if_neg (by omega)] at hq; simpa using hq)
    · refine x_iload_n C dX5_wordFrom_20 rfl ?_
      refine x_aload_n C dX5_wordFrom_21 rfl ?_
      refine x_get C dX5_wordFrom_22 kfX5_50 hr.o rfl ?_
      refine x_iload_n C dX5_wordFrom_25 rfl ?_
      refine x_iald C dX5_wordFrom_26 hr.a11 (by omega) (by rw [hr.l11]; omega) ?_
      rw [v5]
      refine x_iadd C dX5_wordFrom_27 (by first | (unfold iR; omega) | exact ⟨by omega, by omega⟩) ?_
      refine s_ist4_2 C dX5_wordFrom_28 rfl ?_
      refine s_inc4_3 C dX5_wordFrom_29 rfl (by first | (unfold iR; omega) | exact ⟨by omega, by omega⟩) ?_
      refine x_goto (tgt := 4) C dX5_wordFrom_32 (by decide) ?_
      refine ih (P1 ++ [r.1]) (P5 ++ [r.2.2]) (s + r.2.2) (k + 1) (by rw [h1]; simp) (by rw [h5]; simp) (by simp; omega) (by simp; omega) (by omega) (fun q hq => hb q (List.mem_cons_of_mem _ hq)) (by omega) ?_
      rw [if_pos (by omega)] at hq
      rw [Int.add_assoc]
      exact hq

set_option maxHeartbeats 1000000 in
set_option maxRecDepth 100000 in
theorem c_X5_wordFrom (l : Launch) {w : mW} {h : Nat} {mn fc hc mo wi nd tb pi lr lc um sm wp wr ac sz ra rn : Int} {M1 M2 M3 M4 M5 M6 M7 M8 M9 M10 M11 M12 M13 M14 M15 M16 M17 M18 M19 M20 M21 M22 M23 : List Int} (hr : rM w h mn fc hc mo wi nd tb pi lr lc um sm wp wr ac sz ra rn M1 M2 M3 M4 M5 M6 M7 M8 M9 M10 M11 M12 M13 M14 M15 M16 M17 M18 M19 M20 M21 M22 M23) (i : Int) {P1 P5 J1 J5 : List Int} {R : List mI} (h1 : M7 = P1 ++ (R.map (fun q => q.1) ++ J1)) (h5 : M11 = P5 ++ (R.map (fun q => q.2.2) ++ J5)) (e1 : i = P1.length) (e5 : i = P5.length) (ei : pi = i + R.length) (hb : ∀ x ∈ R, 0 ≤ x.2.2 ∧ x.2.2 ≤ 8) : Cp l yX5_wordFrom cX5_wordFrom 4 (some .int) 1 [vr h, vi i] w (fun z => z = wordW R) := by
  refine Cp.of (ml := [some (vr h), some (vi i), none, none]) kyX5_wordFrom rfl (Nat.le_of_ble_eq_true rfl) rfl ?_
  intro t n C hQ
  have lB := hr.l7
  have lB2 : P1.length + (R.length + J1.length) = 48 := by rw [h1] at lB; simp at lB; omega
  refine x_iconst C dX5_wordFrom_0 ⟨by decide, by decide⟩ ?_
  refine s_ist4_2 C dX5_wordFrom_1 rfl ?_
  refine x_iload_n C dX5_wordFrom_2 rfl ?_
  refine s_ist4_3 C dX5_wordFrom_3 rfl ?_
  exact lp_X5_wordFrom hr i C hQ R P1 P5 0 i h1 h5 e1 e5 ei hb (by omega) (by simp)

theorem wordW_bd8 : ∀ (R : List mI), (∀ q ∈ R, 0 ≤ q.2.2 ∧ q.2.2 ≤ 8) → 0 ≤ wordW R ∧ wordW R ≤ 8 * R.length
  | [], _ => by simp [wordW]
  | q :: R, h => by
    have ih := wordW_bd8 R (fun x hx => h x (List.mem_cons_of_mem _ hx))
    have hq := h q List.mem_cons_self
    unfold wordW
    simp only [List.length_cons]
    split <;> omega
/-- a word's width where the first item's width is known already -/
theorem wordW_w {q : mI} {R : List mI} {tb col : Int} (h : q.1 ≠ 26 ∧ q.1 ≠ 27) : wordW ((q.1, q.2.1, widF tb col q.1 q.2.2) :: R) = wordW (q :: R) := by
  rw [wordW, wordW, if_pos h, if_pos h]
  simp only
  unfold widF
  rw [if_neg h.2, if_neg h.1]

set_option maxHeartbeats 1000000 in
set_option maxRecDepth 100000 in
theorem c_X5_goesOn (l : Launch) {w : mW} {h : Nat} {mn fc hc mo wi nd tb pi lr lc um sm wp wr ac sz ra rn : Int} {M1 M2 M3 M4 M5 M6 M7 M8 M9 M10 M11 M12 M13 M14 M15 M16 M17 M18 M19 M20 M21 M22 M23 : List Int} (hr : rM w h mn fc hc mo wi nd tb pi lr lc um sm wp wr ac sz ra rn M1 M2 M3 M4 M5 M6 M7 M8 M9 M10 M11 M12 M13 M14 M15 M16 M17 M18 M19 M20 M21 M22 M23) (i col : Int) (pw : Bool) {q : mI} {P1 P5 J1 J5 : List Int} {R : List mI} {W : Int} (h1 : M7 = P1 ++ ((q :: R).map (fun q => q.1) ++ J1)) (h5 : M11 = P5 ++ (W :: (R.map (fun q => q.2.2) ++ J5))) (hW : W = widF tb col q.1 q.2.2) (e1 : i = P1.length) (e5 : i = P5.length) (ei : pi = i + (q :: R).length) (hb : ∀ x ∈ q :: R, 0 ≤ x.2.2 ∧ x.2.2 ≤ 5) (hpw : pw = true ↔ 0 < i ∧ M7.getD (i - 1).toNat 0 ≠ 26 ∧ M7.getD (i - 1).toNat 0 ≠ 27) (hlc : 0 ≤ col ∧ col ≤ 100000) (htb : 1 ≤ tb ∧ tb ≤ 8) (hwi : 0 ≤ wi ∧ wi ≤ 100) (hnd : 0 ≤ nd ∧ nd ≤ 100) (hmo : 0 ≤ mo ∧ mo ≤ 2) : Cp l yX5_goesOn cX5_goesOn 5 (some .boolean) 2 [vr h, vi i, vi col] w (fun z => (z = 0 ∨ z = 1) ∧ (z = 1 ↔ goesF mo wi nd tb pw col (q :: R) = true)) := by
  refine Cp.of (ml := [some (vr h), some (vi i), some (vi col), none, none]) kyX5_goesOn rfl (Nat.le_of_ble_eq_true rfl) rfl ?_
  intro t n C hQ
  have lB := hr.l7
  have lB2 : P1.length + (R.length + 1 + J1.length) = 48 := by rw [h1] at lB; simp at lB; omega
  simp only [List.length_cons] at ei
  have v1 : M7.getD i.toNat 0 = q.1 := by rw [h1]; exact gd_mid P1 q.1 _ (by omega)
  have v5 : M11.getD i.toNat 0 = W := by rw [h5]; exact gd_mid P5 W _ (by omega)
  have hwf := widF_bd (c := q.1) htb hlc.1 (hb q List.mem_cons_self)
  rw [← hW] at hwf
  have hww := wordW_bd8 (q :: R) (fun x hx => by have := hb x hx; omega)
  simp only [List.length_cons] at hww
  have hw2 : ∀ x ∈ (q.1, q.2.1, W) :: R, 0 ≤ x.2.2 ∧ x.2.2 ≤ 8 := by
    intro x hx
    rcases List.mem_cons.mp hx with h9 | h9
    · subst h9; simp only; omega
    · have := hb x (List.mem_cons_of_mem _ h9); omega
  refine x_aload_n C dX5_goesOn_0 rfl ?_
  refine x_get C dX5_goesOn_1 kfX5_28 hr.o rfl ?_
  refine x_if_eq (tgt := 18) C dX5_goesOn_4 (by decide) (fun c4 => ?_) (fun c4 => ?_)
  · refine x_iconst C dX5_goesOn_18 ⟨by decide, by decide⟩ ?_
    refine x_zret C hQ dX5_goesOn_19 (by first | exact Or.inl rfl | exact Or.inr rfl | omega) (Nat.le_refl _) (Nat.le_refl _) ?_
    refine ⟨rfl, rfl, _, rfl, by omega, ?_⟩
    rw [goesF, decide_eq_true_iff, ← hW]
    cases pw <;> simp only [Bool.false_eq_true, false_iff, true_iff, reduceCtorEq, and_true, true_and, false_and, and_false, or_false] at hpw ⊢ <;> omega
  · refine x_aload_n C dX5_goesOn_7 rfl ?_
    refine x_get C dX5_goesOn_8 kfX5_38 hr.o rfl ?_
    refine x_iload_n C dX5_goesOn_11 rfl ?_
    refine x_iald C dX5_goesOn_12 hr.a7 (by omega) (by rw [hr.l7]; omega) ?_
    rw [v1]
    refine x_bipush C dX5_goesOn_13 ⟨by decide, by decide⟩ ?_
    refine x_icmp_ne (tgt := 20) C dX5_goesOn_15 (by decide) (fun c15 => ?_) (fun c15 => ?_)
    · refine x_iload_n C dX5_goesOn_20 rfl ?_
      refine x_aload_n C dX5_goesOn_21 rfl ?_
      refine x_get C dX5_goesOn_22 kfX5_50 hr.o rfl ?_
      refine x_iload_n C dX5_goesOn_25 rfl ?_
      refine x_iald C dX5_goesOn_26 hr.a11 (by omega) (by rw [hr.l11]; omega) ?_
      rw [v5]
      refine x_iadd C dX5_goesOn_27 (by first | (unfold iR; omega) | exact ⟨by omega, by omega⟩) ?_
      refine x_aload_n C dX5_goesOn_28 rfl ?_
      refine x_get C dX5_goesOn_29 kfX5_32 hr.o rfl ?_
      refine x_icmp_le (tgt := 37) C dX5_goesOn_32 (by decide) (fun c32 => ?_) (fun c32 => ?_)
      · refine x_aload_n C dX5_goesOn_37 rfl ?_
        refine x_iload_n C dX5_goesOn_38 rfl ?_
        refine y_p1 C dX5_goesOn_39 kyX5_isWord knX5_isWord kmX5_127 hr.o (c_X5_isWord l hr i (by omega)) (by decide) (Nat.zero_le _) (Nat.zero_le _) (Nat.le_of_ble_eq_true rfl) (fun z39 q39 => ?_)
        rw [v1] at q39
        refine x_if_eq (tgt := 63) C dX5_goesOn_42 (by decide) (fun c42 => ?_) (fun c42 => ?_)
        · refine x_iconst C dX5_goesOn_63 ⟨by decide, by decide⟩ ?_
          refine s_ist5_3 C dX5_goesOn_64 rfl ?_
          refine x_aload_n C dX5_goesOn_65 rfl ?_
          refine x_get C dX5_goesOn_66 kfX5_28 hr.o rfl ?_
          refine x_iconst C dX5_goesOn_69 ⟨by decide, by decide⟩ ?_
          refine x_icmp_eq (tgt := 77) C dX5_goesOn_70 (by decide) (fun c70 => ?_) (fun c70 => ?_)
          · refine x_iconst C dX5_goesOn_77 ⟨by decide, by decide⟩ ?_
            refine x_zret C hQ dX5_goesOn_78 (by first | exact Or.inl rfl | exact Or.inr rfl | omega) (Nat.le_refl _) (Nat.le_refl _) ?_
            refine ⟨rfl, rfl, _, rfl, by omega, ?_⟩
            rw [goesF, decide_eq_true_iff, ← hW]
            cases pw <;> simp only [Bool.false_eq_true, false_iff, true_iff, reduceCtorEq, and_true, true_and, false_and, and_false, or_false] at hpw ⊢ <;> omega
          · refine x_iload_n C dX5_goesOn_73 rfl ?_
            refine x_if_ne (tgt := 79) C dX5_goesOn_74 (by decide) (fun c74 => ?_) (fun c74 => ?_)
            · refine x_aload_n C dX5_goesOn_79 rfl ?_
              refine x_iload_n C dX5_goesOn_80 rfl ?_
              refine y_p1 C dX5_goesOn_81 kyX5_wordFrom knX5_wordFrom kmX5_131 hr.o (c_X5_wordFrom l hr i (R := (q.1, q.2.1, W) :: R) (by rw [h1]; rfl) (by rw [h5]; rfl) e1 e5 (by simp only [List.length_cons]; omega) hw2) (by decide) (Nat.zero_le _) (Nat.zero_le _) (Nat.le_of_ble_eq_true rfl) (fun z81 q81 => ?_)
              rw [hW, wordW_w (by omega)] at q81
              refine s_is5_4 C dX5_goesOn_84 rfl ?_
              refine x_iload_n C dX5_goesOn_86 rfl ?_
              refine x_iload C dX5_goesOn_87 rfl ?_
              refine x_iadd C dX5_goesOn_89 (by first | (unfold iR; omega) | exact ⟨by omega, by omega⟩) ?_
              refine x_aload_n C dX5_goesOn_90 rfl ?_
              refine x_get C dX5_goesOn_91 kfX5_32 hr.o rfl ?_
              refine x_icmp_le (tgt := 115) C dX5_goesOn_94 (by decide) (fun c94 => ?_) (fun c94 => ?_)
              · refine x_iconst C dX5_goesOn_115 ⟨by decide, by decide⟩ ?_
                refine x_zret C hQ dX5_goesOn_116 (by first | exact Or.inl rfl | exact Or.inr rfl | omega) (Nat.le_refl _) (Nat.le_refl _) ?_
                refine ⟨rfl, rfl, _, rfl, by omega, ?_⟩
                rw [goesF, decide_eq_true_iff, ← hW]
                cases pw <;> simp only [Bool.false_eq_true, false_iff, true_iff, reduceCtorEq, and_true, true_and, false_and, and_false, or_false] at hpw ⊢ <;> omega
              · refine x_iload C dX5_goesOn_97 rfl ?_
                refine x_aload_n C dX5_goesOn_99 rfl ?_
                refine x_get C dX5_goesOn_100 kfX5_32 hr.o rfl ?_
                refine x_aload_n C dX5_goesOn_103 rfl ?_
                refine x_get C dX5_goesOn_104 kfX5_100 hr.o rfl ?_
                refine x_isub C dX5_goesOn_107 (by first | (unfold iR; omega) | exact ⟨by omega, by omega⟩) ?_
                refine x_icmp_gt (tgt := 115) C dX5_goesOn_108 (by decide) (fun c108 => ?_) (fun c108 => ?_)
                · refine x_iconst C dX5_goesOn_115 ⟨by decide, by decide⟩ ?_
                  refine x_zret C hQ dX5_goesOn_116 (by first | exact Or.inl rfl | exact Or.inr rfl | omega) (Nat.le_refl _) (Nat.le_refl _) ?_
                  refine ⟨rfl, rfl, _, rfl, by omega, ?_⟩
                  rw [goesF, decide_eq_true_iff, ← hW]
                  cases pw <;> simp only [Bool.false_eq_true, false_iff, true_iff, reduceCtorEq, and_true, true_and, false_and, and_false, or_false] at hpw ⊢ <;> omega
                · refine x_iconst C dX5_goesOn_111 ⟨by decide, by decide⟩ ?_
                  refine x_goto (tgt := 116) C dX5_goesOn_112 (by decide) ?_
                  refine x_zret C hQ dX5_goesOn_116 (by first | exact Or.inl rfl | exact Or.inr rfl | omega) (Nat.le_refl _) (Nat.le_refl _) ?_
                  refine ⟨rfl, rfl, _, rfl, by omega, ?_⟩
                  rw [goesF, decide_eq_true_iff, ← hW]
                  cases pw <;> simp only [Bool.false_eq_true, false_iff, true_iff, reduceCtorEq, and_true, true_and, false_and, and_false, or_false] at hpw ⊢ <;> omega
            · refine x_iconst C dX5_goesOn_77 ⟨by decide, by decide⟩ ?_
              refine x_zret C hQ dX5_goesOn_78 (by first | exact Or.inl rfl | exact Or.inr rfl | omega) (Nat.le_refl _) (Nat.le_refl _) ?_
              refine ⟨rfl, rfl, _, rfl, by omega, ?_⟩
              rw [goesF, decide_eq_true_iff, ← hW]
              cases pw <;> simp only [Bool.false_eq_true, false_iff, true_iff, reduceCtorEq, and_true, true_and, false_and, and_false, or_false] at hpw ⊢ <;> omega
        · refine x_iload_n C dX5_goesOn_45 rfl ?_
          refine x_if_eq (tgt := 59) C dX5_goesOn_46 (by decide) (fun c46 => ?_) (fun c46 => ?_)
          · refine x_iconst C dX5_goesOn_59 ⟨by decide, by decide⟩ ?_
            refine x_goto (tgt := 64) C dX5_goesOn_60 (by decide) ?_
            refine s_ist5_3 C dX5_goesOn_64 rfl ?_
            refine x_aload_n C dX5_goesOn_65 rfl ?_
            refine x_get C dX5_goesOn_66 kfX5_28 hr.o rfl ?_
            refine x_iconst C dX5_goesOn_69 ⟨by decide, by decide⟩ ?_
            refine x_icmp_eq (tgt := 77) C dX5_goesOn_70 (by decide) (fun c70 => ?_) (fun c70 => ?_)
            · refine x_iconst C dX5_goesOn_77 ⟨by decide, by decide⟩ ?_
              refine x_zret C hQ dX5_goesOn_78 (by first | exact Or.inl rfl | exact Or.inr rfl | omega) (Nat.le_refl _) (Nat.le_refl _) ?_
              refine ⟨rfl, rfl, _, rfl, by omega, ?_⟩
              rw [goesF, decide_eq_true_iff, ← hW]
              cases pw <;> simp only [Bool.false_eq_true, false_iff, true_iff, reduceCtorEq, and_true, true_and, false_and, and_false, or_false] at hpw ⊢ <;> omega
            · refine x_iload_n C dX5_goesOn_73 rfl ?_
              refine x_if_ne (tgt := 79) C dX5_goesOn_74 (by decide) (fun c74 => ?_) (fun c74 => ?_)
              · refine x_aload_n C dX5_goesOn_79 rfl ?_
                refine x_iload_n C dX5_goesOn_80 rfl ?_
                refine y_p1 C dX5_goesOn_81 kyX5_wordFrom knX5_wordFrom kmX5_131 hr.o (c_X5_wordFrom l hr i (R := (q.1, q.2.1, W) :: R) (by rw [h1]; rfl) (by rw [h5]; rfl) e1 e5 (by simp only [List.length_cons]; omega) hw2) (by decide) (Nat.zero_le _) (Nat.zero_le _) (Nat.le_of_ble_eq_true rfl) (fun z81 q81 => ?_)
                rw [hW, wordW_w (by omega)] at q81
                refine s_is5_4 C dX5_goesOn_84 rfl ?_
                refine x_iload_n C dX5_goesOn_86 rfl ?_
                refine x_iload C dX5_goesOn_87 rfl ?_
                refine x_iadd C dX5_goesOn_89 (by first | (unfold iR; omega) | exact ⟨by omega, by omega⟩) ?_
                refine x_aload_n C dX5_goesOn_90 rfl ?_
                refine x_get C dX5_goesOn_91 kfX5_32 hr.o rfl ?_
                refine x_icmp_le (tgt := 115) C dX5_goesOn_94 (by decide) (fun c94 => ?_) (fun c94 => ?_)
                · refine x_iconst C dX5_goesOn_115 ⟨by decide, by decide⟩ ?_
                  refine x_zret C hQ dX5_goesOn_116 (by first | exact Or.inl rfl | exact Or.inr rfl | omega) (Nat.le_refl _) (Nat.le_refl _) ?_
                  refine ⟨rfl, rfl, _, rfl, by omega, ?_⟩
                  rw [goesF, decide_eq_true_iff, ← hW]
                  cases pw <;> simp only [Bool.false_eq_true, false_iff, true_iff, reduceCtorEq, and_true, true_and, false_and, and_false, or_false] at hpw ⊢ <;> omega
                · refine x_iload C dX5_goesOn_97 rfl ?_
                  refine x_aload_n C dX5_goesOn_99 rfl ?_
                  refine x_get C dX5_goesOn_100 kfX5_32 hr.o rfl ?_
                  refine x_aload_n C dX5_goesOn_103 rfl ?_
                  refine x_get C dX5_goesOn_104 kfX5_100 hr.o rfl ?_
                  refine x_isub C dX5_goesOn_107 (by first | (unfold iR; omega) | exact ⟨by omega, by omega⟩) ?_
                  refine x_icmp_gt (tgt := 115) C dX5_goesOn_108 (by decide) (fun c108 => ?_) (fun c108 => ?_)
                  · refine x_iconst C dX5_goesOn_115 ⟨by decide, by decide⟩ ?_
                    refine x_zret C hQ dX5_goesOn_116 (by first | exact Or.inl rfl | exact Or.inr rfl | omega) (Nat.le_refl _) (Nat.le_refl _) ?_
                    refine ⟨rfl, rfl, _, rfl, by omega, ?_⟩
                    rw [goesF, decide_eq_true_iff, ← hW]
                    cases pw <;> simp only [Bool.false_eq_true, false_iff, true_iff, reduceCtorEq, and_true, true_and, false_and, and_false, or_false] at hpw ⊢ <;> omega
                  · refine x_iconst C dX5_goesOn_111 ⟨by decide, by decide⟩ ?_
                    refine x_goto (tgt := 116) C dX5_goesOn_112 (by decide) ?_
                    refine x_zret C hQ dX5_goesOn_116 (by first | exact Or.inl rfl | exact Or.inr rfl | omega) (Nat.le_refl _) (Nat.le_refl _) ?_
                    refine ⟨rfl, rfl, _, rfl, by omega, ?_⟩
                    rw [goesF, decide_eq_true_iff, ← hW]
                    cases pw <;> simp only [Bool.false_eq_true, false_iff, true_iff, reduceCtorEq, and_true, true_and, false_and, and_false, or_false] at hpw ⊢ <;> omega
              · refine x_iconst C dX5_goesOn_77 ⟨by decide, by decide⟩ ?_
                refine x_zret C hQ dX5_goesOn_78 (by first | exact Or.inl rfl | exact Or.inr rfl | omega) (Nat.le_refl _) (Nat.le_refl _) ?_
                refine ⟨rfl, rfl, _, rfl, by omega, ?_⟩
                rw [goesF, decide_eq_true_iff, ← hW]
                cases pw <;> simp only [Bool.false_eq_true, false_iff, true_iff, reduceCtorEq, and_true, true_and, false_and, and_false, or_false] at hpw ⊢ <;> omega
          · refine x_aload_n C dX5_goesOn_49 rfl ?_
            refine x_iload_n C dX5_goesOn_50 rfl ?_
            refine x_iconst C dX5_goesOn_51 ⟨by decide, by decide⟩ ?_
            refine x_isub C dX5_goesOn_52 (by first | (unfold iR; omega) | exact ⟨by omega, by omega⟩) ?_
            refine y_p1 C dX5_goesOn_53 kyX5_isWord knX5_isWord kmX5_127 hr.o (c_X5_isWord l hr (i - 1) (by omega)) (by decide) (Nat.zero_le _) (Nat.zero_le _) (Nat.le_of_ble_eq_true rfl) (fun z53 q53 => ?_)
            refine x_if_ne (tgt := 63) C dX5_goesOn_56 (by decide) (fun c56 => ?_) (fun c56 => ?_)
            · refine x_iconst C dX5_goesOn_63 ⟨by decide, by decide⟩ ?_
              refine s_ist5_3 C dX5_goesOn_64 rfl ?_
              refine x_aload_n C dX5_goesOn_65 rfl ?_
              refine x_get C dX5_goesOn_66 kfX5_28 hr.o rfl ?_
              refine x_iconst C dX5_goesOn_69 ⟨by decide, by decide⟩ ?_
              refine x_icmp_eq (tgt := 77) C dX5_goesOn_70 (by decide) (fun c70 => ?_) (fun c70 => ?_)
              · refine x_iconst C dX5_goesOn_77 ⟨by decide, by decide⟩ ?_
                refine x_zret C hQ dX5_goesOn_78 (by first | exact Or.inl rfl | exact Or.inr rfl | omega) (Nat.le_refl _) (Nat.le_refl _) ?_
                refine ⟨rfl, rfl, _, rfl, by omega, ?_⟩
                rw [goesF, decide_eq_true_iff, ← hW]
                cases pw <;> simp only [Bool.false_eq_true, false_iff, true_iff, reduceCtorEq, and_true, true_and, false_and, and_false, or_false] at hpw ⊢ <;> omega
              · refine x_iload_n C dX5_goesOn_73 rfl ?_
                refine x_if_ne (tgt := 79) C dX5_goesOn_74 (by decide) (fun c74 => ?_) (fun c74 => ?_)
                · refine x_aload_n C dX5_goesOn_79 rfl ?_
                  refine x_iload_n C dX5_goesOn_80 rfl ?_
                  refine y_p1 C dX5_goesOn_81 kyX5_wordFrom knX5_wordFrom kmX5_131 hr.o (c_X5_wordFrom l hr i (R := (q.1, q.2.1, W) :: R) (by rw [h1]; rfl) (by rw [h5]; rfl) e1 e5 (by simp only [List.length_cons]; omega) hw2) (by decide) (Nat.zero_le _) (Nat.zero_le _) (Nat.le_of_ble_eq_true rfl) (fun z81 q81 => ?_)
                  rw [hW, wordW_w (by omega)] at q81
                  refine s_is5_4 C dX5_goesOn_84 rfl ?_
                  refine x_iload_n C dX5_goesOn_86 rfl ?_
                  refine x_iload C dX5_goesOn_87 rfl ?_
                  refine x_iadd C dX5_goesOn_89 (by first | (unfold iR; omega) | exact ⟨by omega, by omega⟩) ?_
                  refine x_aload_n C dX5_goesOn_90 rfl ?_
                  refine x_get C dX5_goesOn_91 kfX5_32 hr.o rfl ?_
                  refine x_icmp_le (tgt := 115) C dX5_goesOn_94 (by decide) (fun c94 => ?_) (fun c94 => ?_)
                  · refine x_iconst C dX5_goesOn_115 ⟨by decide, by decide⟩ ?_
                    refine x_zret C hQ dX5_goesOn_116 (by first | exact Or.inl rfl | exact Or.inr rfl | omega) (Nat.le_refl _) (Nat.le_refl _) ?_
                    refine ⟨rfl, rfl, _, rfl, by omega, ?_⟩
                    rw [goesF, decide_eq_true_iff, ← hW]
                    cases pw <;> simp only [Bool.false_eq_true, false_iff, true_iff, reduceCtorEq, and_true, true_and, false_and, and_false, or_false] at hpw ⊢ <;> omega
                  · refine x_iload C dX5_goesOn_97 rfl ?_
                    refine x_aload_n C dX5_goesOn_99 rfl ?_
                    refine x_get C dX5_goesOn_100 kfX5_32 hr.o rfl ?_
                    refine x_aload_n C dX5_goesOn_103 rfl ?_
                    refine x_get C dX5_goesOn_104 kfX5_100 hr.o rfl ?_
                    refine x_isub C dX5_goesOn_107 (by first | (unfold iR; omega) | exact ⟨by omega, by omega⟩) ?_
                    refine x_icmp_gt (tgt := 115) C dX5_goesOn_108 (by decide) (fun c108 => ?_) (fun c108 => ?_)
                    · refine x_iconst C dX5_goesOn_115 ⟨by decide, by decide⟩ ?_
                      refine x_zret C hQ dX5_goesOn_116 (by first | exact Or.inl rfl | exact Or.inr rfl | omega) (Nat.le_refl _) (Nat.le_refl _) ?_
                      refine ⟨rfl, rfl, _, rfl, by omega, ?_⟩
                      rw [goesF, decide_eq_true_iff, ← hW]
                      cases pw <;> simp only [Bool.false_eq_true, false_iff, true_iff, reduceCtorEq, and_true, true_and, false_and, and_false, or_false] at hpw ⊢ <;> omega
                    · refine x_iconst C dX5_goesOn_111 ⟨by decide, by decide⟩ ?_
                      refine x_goto (tgt := 116) C dX5_goesOn_112 (by decide) ?_
                      refine x_zret C hQ dX5_goesOn_116 (by first | exact Or.inl rfl | exact Or.inr rfl | omega) (Nat.le_refl _) (Nat.le_refl _) ?_
                      refine ⟨rfl, rfl, _, rfl, by omega, ?_⟩
                      rw [goesF, decide_eq_true_iff, ← hW]
                      cases pw <;> simp only [Bool.false_eq_true, false_iff, true_iff, reduceCtorEq, and_true, true_and, false_and, and_false, or_false] at hpw ⊢ <;> omega
                · refine x_iconst C dX5_goesOn_77 ⟨by decide, by decide⟩ ?_
                  refine x_zret C hQ dX5_goesOn_78 (by first | exact Or.inl rfl | exact Or.inr rfl | omega) (Nat.le_refl _) (Nat.le_refl _) ?_
                  refine ⟨rfl, rfl, _, rfl, by omega, ?_⟩
                  rw [goesF, decide_eq_true_iff, ← hW]
                  cases pw <;> simp only [Bool.false_eq_true, false_iff, true_iff, reduceCtorEq, and_true, true_and, false_and, and_false, or_false] at hpw ⊢ <;> omega
            · refine x_iconst C dX5_goesOn_59 ⟨by decide, by decide⟩ ?_
              refine x_goto (tgt := 64) C dX5_goesOn_60 (by decide) ?_
              refine s_ist5_3 C dX5_goesOn_64 rfl ?_
              refine x_aload_n C dX5_goesOn_65 rfl ?_
              refine x_get C dX5_goesOn_66 kfX5_28 hr.o rfl ?_
              refine x_iconst C dX5_goesOn_69 ⟨by decide, by decide⟩ ?_
              refine x_icmp_eq (tgt := 77) C dX5_goesOn_70 (by decide) (fun c70 => ?_) (fun c70 => ?_)
              · refine x_iconst C dX5_goesOn_77 ⟨by decide, by decide⟩ ?_
                refine x_zret C hQ dX5_goesOn_78 (by first | exact Or.inl rfl | exact Or.inr rfl | omega) (Nat.le_refl _) (Nat.le_refl _) ?_
                refine ⟨rfl, rfl, _, rfl, by omega, ?_⟩
                rw [goesF, decide_eq_true_iff, ← hW]
                cases pw <;> simp only [Bool.false_eq_true, false_iff, true_iff, reduceCtorEq, and_true, true_and, false_and, and_false, or_false] at hpw ⊢ <;> omega
              · refine x_iload_n C dX5_goesOn_73 rfl ?_
                refine x_if_ne (tgt := 79) C dX5_goesOn_74 (by decide) (fun c74 => ?_) (fun c74 => ?_)
                · refine x_aload_n C dX5_goesOn_79 rfl ?_
                  refine x_iload_n C dX5_goesOn_80 rfl ?_
                  refine y_p1 C dX5_goesOn_81 kyX5_wordFrom knX5_wordFrom kmX5_131 hr.o (c_X5_wordFrom l hr i (R := (q.1, q.2.1, W) :: R) (by rw [h1]; rfl) (by rw [h5]; rfl) e1 e5 (by simp only [List.length_cons]; omega) hw2) (by decide) (Nat.zero_le _) (Nat.zero_le _) (Nat.le_of_ble_eq_true rfl) (fun z81 q81 => ?_)
                  rw [hW, wordW_w (by omega)] at q81
                  refine s_is5_4 C dX5_goesOn_84 rfl ?_
                  refine x_iload_n C dX5_goesOn_86 rfl ?_
                  refine x_iload C dX5_goesOn_87 rfl ?_
                  refine x_iadd C dX5_goesOn_89 (by first | (unfold iR; omega) | exact ⟨by omega, by omega⟩) ?_
                  refine x_aload_n C dX5_goesOn_90 rfl ?_
                  refine x_get C dX5_goesOn_91 kfX5_32 hr.o rfl ?_
                  refine x_icmp_le (tgt := 115) C dX5_goesOn_94 (by decide) (fun c94 => ?_) (fun c94 => ?_)
                  · refine x_iconst C dX5_goesOn_115 ⟨by decide, by decide⟩ ?_
                    refine x_zret C hQ dX5_goesOn_116 (by first | exact Or.inl rfl | exact Or.inr rfl | omega) (Nat.le_refl _) (Nat.le_refl _) ?_
                    refine ⟨rfl, rfl, _, rfl, by omega, ?_⟩
                    rw [goesF, decide_eq_true_iff, ← hW]
                    cases pw <;> simp only [Bool.false_eq_true, false_iff, true_iff, reduceCtorEq, and_true, true_and, false_and, and_false, or_false] at hpw ⊢ <;> omega
                  · refine x_iload C dX5_goesOn_97 rfl ?_
                    refine x_aload_n C dX5_goesOn_99 rfl ?_
                    refine x_get C dX5_goesOn_100 kfX5_32 hr.o rfl ?_
                    refine x_aload_n C dX5_goesOn_103 rfl ?_
                    refine x_get C dX5_goesOn_104 kfX5_100 hr.o rfl ?_
                    refine x_isub C dX5_goesOn_107 (by first | (unfold iR; omega) | exact ⟨by omega, by omega⟩) ?_
                    refine x_icmp_gt (tgt := 115) C dX5_goesOn_108 (by decide) (fun c108 => ?_) (fun c108 => ?_)
                    · refine x_iconst C dX5_goesOn_115 ⟨by decide, by decide⟩ ?_
                      refine x_zret C hQ dX5_goesOn_116 (by first | exact Or.inl rfl | exact Or.inr rfl | omega) (Nat.le_refl _) (Nat.le_refl _) ?_
                      refine ⟨rfl, rfl, _, rfl, by omega, ?_⟩
                      rw [goesF, decide_eq_true_iff, ← hW]
                      cases pw <;> simp only [Bool.false_eq_true, false_iff, true_iff, reduceCtorEq, and_true, true_and, false_and, and_false, or_false] at hpw ⊢ <;> omega
                    · refine x_iconst C dX5_goesOn_111 ⟨by decide, by decide⟩ ?_
                      refine x_goto (tgt := 116) C dX5_goesOn_112 (by decide) ?_
                      refine x_zret C hQ dX5_goesOn_116 (by first | exact Or.inl rfl | exact Or.inr rfl | omega) (Nat.le_refl _) (Nat.le_refl _) ?_
                      refine ⟨rfl, rfl, _, rfl, by omega, ?_⟩
                      rw [goesF, decide_eq_true_iff, ← hW]
                      cases pw <;> simp only [Bool.false_eq_true, false_iff, true_iff, reduceCtorEq, and_true, true_and, false_and, and_false, or_false] at hpw ⊢ <;> omega
                · refine x_iconst C dX5_goesOn_77 ⟨by decide, by decide⟩ ?_
                  refine x_zret C hQ dX5_goesOn_78 (by first | exact Or.inl rfl | exact Or.inr rfl | omega) (Nat.le_refl _) (Nat.le_refl _) ?_
                  refine ⟨rfl, rfl, _, rfl, by omega, ?_⟩
                  rw [goesF, decide_eq_true_iff, ← hW]
                  cases pw <;> simp only [Bool.false_eq_true, false_iff, true_iff, reduceCtorEq, and_true, true_and, false_and, and_false, or_false] at hpw ⊢ <;> omega
      · refine x_iconst C dX5_goesOn_35 ⟨by decide, by decide⟩ ?_
        refine x_zret C hQ dX5_goesOn_36 (by first | exact Or.inl rfl | exact Or.inr rfl | omega) (Nat.le_refl _) (Nat.le_refl _) ?_
        refine ⟨rfl, rfl, _, rfl, by omega, ?_⟩
        rw [goesF, decide_eq_true_iff, ← hW]
        cases pw <;> simp only [Bool.false_eq_true, false_iff, true_iff, reduceCtorEq, and_true, true_and, false_and, and_false, or_false] at hpw ⊢ <;> omega
    · refine x_iconst C dX5_goesOn_18 ⟨by decide, by decide⟩ ?_
      refine x_zret C hQ dX5_goesOn_19 (by first | exact Or.inl rfl | exact Or.inr rfl | omega) (Nat.le_refl _) (Nat.le_refl _) ?_
      refine ⟨rfl, rfl, _, rfl, by omega, ?_⟩
      rw [goesF, decide_eq_true_iff, ← hW]
      cases pw <;> simp only [Bool.false_eq_true, false_iff, true_iff, reduceCtorEq, and_true, true_and, false_and, and_false, or_false] at hpw ⊢ <;> omega

set_option maxHeartbeats 1000000 in
set_option maxRecDepth 100000 in
theorem lp_X5_setScreen_113 {t : TX} {l : Launch} {n0 : Nat} {w0 : mW} {h : Nat} {mn fc hc mo wi nd tb pi lr lc um sm wp wr ac sz ra rn : Int} {M1 M2 M3 M4 M5 M6 M7 M8 M9 M10 M11 M12 M13 M14 M15 M16 M17 M18 M19 M20 M21 M22 M23 : List Int} (C : Cb t l cX5_setScreen RX5 5 none 3 0 0)  {w : mW} (hr : rM w h mn fc hc mo wi nd tb pi lr lc um sm wp wr ac sz ra rn M1 M2 M3 M4 M5 M6 M7 M8 M9 M10 M11 M12 M13 M14 M15 M16 M17 M18 M19 M20 M21 M22 M23) (hf : frR w0 w h (h + 23)) {r c sz9 k W : Int} (hk : 0 ≤ k ∧ k < 48) (hr0 : 0 ≤ r ∧ r < 89) (hcc : 0 ≤ c ∧ c ≤ 100000) (hW : 0 ≤ W ∧ W ≤ 8) (v11 : M11.getD k.toNat 0 = W) (kx1 : M7.getD k.toNat 0 ≠ 27 → ∀ w', rM w' h mn fc hc mo wi nd tb pi lr lc um sm wp wr ac sz ra rn M1 M2 M3 M4 M5 M6 M7 M8 (M9.set k.toNat r) (M10.set k.toNat c) M11 M12 M13 M14 M15 M16 M17 M18 M19 M20 M21 M22 M23 → frR w0 w' h (h + 23) → J t 0 0 20 [some (vr h), some (vi r), some (vi (c + W)), some (vi 1), some (vi (k + 1))] [] n0 w') (kx2 : M7.getD k.toNat 0 = 27 → ∀ w', rM w' h mn fc hc mo wi nd tb pi lr lc um sm wp wr ac sz ra rn M1 M2 M3 M4 M5 M6 M7 M8 (M9.set k.toNat r) (M10.set k.toNat c) M11 (M12.set r.toNat (c + W)) (M13.set (r + 1).toNat 1) M14 M15 M16 M17 M18 M19 M20 M21 M22 M23 → frR w0 w' h (h + 23) → J t 0 0 20 [some (vr h), some (vi (r + 1)), some (vi 0), some (vi 0), some (vi (k + 1))] [] n0 w') : J t 0 0 113 [some (vr h), some (vi r), some (vi c), some (vi sz9), some (vi k)] [] n0 w := by
  have l11 := hr.l11
  have l12 := hr.l12
  have l13 := hr.l13
  refine x_aload_n C dX5_setScreen_113 rfl ?_
  refine x_get C dX5_setScreen_114 kfX5_44 hr.o rfl ?_
  refine x_iload C dX5_setScreen_117 rfl ?_
  refine x_iload_n C dX5_setScreen_119 rfl ?_
  refine x_iast C dX5_setScreen_120 hr.a9 (by omega) (by rw [hr.l9]; omega) ?_
  refine ab_M_M9 hr hf (by rw [List.length_set]; exact hr.l9) (fun w hr hf => ?_)
  refine x_aload_n C dX5_setScreen_121 rfl ?_
  refine x_get C dX5_setScreen_122 kfX5_47 hr.o rfl ?_
  refine x_iload C dX5_setScreen_125 rfl ?_
  refine x_iload_n C dX5_setScreen_127 rfl ?_
  refine x_iast C dX5_setScreen_128 hr.a10 (by omega) (by rw [hr.l10]; omega) ?_
  refine ab_M_M10 hr hf (by rw [List.length_set]; exact hr.l10) (fun w hr hf => ?_)
  refine x_iload_n C dX5_setScreen_129 rfl ?_
  refine x_aload_n C dX5_setScreen_130 rfl ?_
  refine x_get C dX5_setScreen_131 kfX5_50 hr.o rfl ?_
  refine x_iload C dX5_setScreen_134 rfl ?_
  refine x_iald C dX5_setScreen_136 hr.a11 (by omega) (by rw [hr.l11]; omega) ?_
  rw [v11]
  refine x_iadd C dX5_setScreen_137 (by first | (unfold iR; omega) | exact ⟨by omega, by omega⟩) ?_
  refine s_ist5_2 C dX5_setScreen_138 rfl ?_
  refine x_iconst C dX5_setScreen_139 ⟨by decide, by decide⟩ ?_
  refine s_ist5_3 C dX5_setScreen_140 rfl ?_
  refine x_aload_n C dX5_setScreen_141 rfl ?_
  refine x_get C dX5_setScreen_142 kfX5_38 hr.o rfl ?_
  refine x_iload C dX5_setScreen_145 rfl ?_
  refine x_iald C dX5_setScreen_147 hr.a7 (by omega) (by rw [hr.l7]; omega) ?_
  refine x_bipush C dX5_setScreen_148 ⟨by decide, by decide⟩ ?_
  refine x_icmp_ne (tgt := 174) C dX5_setScreen_150 (by decide) (fun c150 => ?_) (fun c150 => ?_)
  · refine s_inc5_4 C dX5_setScreen_174 rfl (by first | (unfold iR; omega) | exact ⟨by omega, by omega⟩) ?_
    refine x_goto (tgt := 20) C dX5_setScreen_177 (by decide) ?_
    exact kx1 c150 _ hr hf
  · refine x_aload_n C dX5_setScreen_153 rfl ?_
    refine x_get C dX5_setScreen_154 kfX5_53 hr.o rfl ?_
    refine x_iload_n C dX5_setScreen_157 rfl ?_
    refine x_iload_n C dX5_setScreen_158 rfl ?_
    refine x_iast C dX5_setScreen_159 hr.a12 (by omega) (by rw [hr.l12]; omega) ?_
    refine ab_M_M12 hr hf (by rw [List.length_set]; exact hr.l12) (fun w hr hf => ?_)
    refine s_inc5_1 C dX5_setScreen_160 rfl (by first | (unfold iR; omega) | exact ⟨by omega, by omega⟩) ?_
    refine x_aload_n C dX5_setScreen_163 rfl ?_
    refine x_get C dX5_setScreen_164 kfX5_56 hr.o rfl ?_
    refine x_iload_n C dX5_setScreen_167 rfl ?_
    refine x_iconst C dX5_setScreen_168 ⟨by decide, by decide⟩ ?_
    refine x_iast C dX5_setScreen_169 hr.a13 (by omega) (by rw [hr.l13]; omega) ?_
    refine ab_M_M13 hr hf (by rw [List.length_set]; exact hr.l13) (fun w hr hf => ?_)
    refine x_iconst C dX5_setScreen_170 ⟨by decide, by decide⟩ ?_
    refine s_ist5_2 C dX5_setScreen_171 rfl ?_
    refine x_iconst C dX5_setScreen_172 ⟨by decide, by decide⟩ ?_
    refine s_ist5_3 C dX5_setScreen_173 rfl ?_
    refine s_inc5_4 C dX5_setScreen_174 rfl (by first | (unfold iR; omega) | exact ⟨by omega, by omega⟩) ?_
    refine x_goto (tgt := 20) C dX5_setScreen_177 (by decide) ?_
    exact kx2 c150 _ hr hf

set_option maxHeartbeats 1000000 in
set_option maxRecDepth 100000 in
theorem lp_X5_setScreen {t : TX} {l : Launch} {n0 : Nat} {w0 : mW} {h : Nat} {mn fc hc mo wi nd tb um sm wp wr ac sz ra rn : Int} {M1 M2 M3 M4 M5 M6 M14 M15 M16 M17 M18 M19 M20 M21 M22 M23 : List Int} (hmo : 0 ≤ mo ∧ mo ≤ 2) (hwi : 4 ≤ wi ∧ wi ≤ 20) (hnd : 0 ≤ nd ∧ nd ≤ 3) (htb : 1 ≤ tb ∧ tb ≤ 8) (C : Cb t l cX5_setScreen RX5 5 none 3 0 0) {Q : mW → Prop} (hQ : RQ t 0 0 (fun r n' w' => n' = n0 ∧ r = none ∧ Q w')) {PL : List mP} {RW : List (Int × Int)} (hfin : ∀ (w' : mW) (J7 J8 J9 J10 J11 J12 J13 : List Int), rM w' h mn fc hc mo wi nd tb PL.length ((RW.length : Int) - 1) (lastC RW) um sm wp wr ac sz ra rn M1 M2 M3 M4 M5 M6 (PL.map (fun q => q.1) ++ J7) (PL.map (fun q => q.2.1) ++ J8) (PL.map (fun q => q.2.2.1) ++ J9) (PL.map (fun q => q.2.2.2.1) ++ J10) (PL.map (fun q => q.2.2.2.2) ++ J11) (RW.map (fun q => q.1) ++ J12) (RW.map (fun q => q.2) ++ J13) M14 M15 M16 M17 M18 M19 M20 M21 M22 M23 → frR w0 w' h (h + 23) → Q w') : ∀ (R : List mI) (P : List mP) (rw : List (Int × Int)) (cs r c fz k : Int) (pw fl : Bool) (lr lc : Int) (J7 J8 J9 J10 J11 J12 J13 : List Int) (w : mW), rM w h mn fc hc mo wi nd tb (P.length + R.length) lr lc um sm wp wr ac sz ra rn M1 M2 M3 M4 M5 M6 (P.map (fun q => q.1) ++ (R.map (fun q => q.1) ++ J7)) (P.map (fun q => q.2.1) ++ (R.map (fun q => q.2.1) ++ J8)) (P.map (fun q => q.2.2.1) ++ J9) (P.map (fun q => q.2.2.2.1) ++ J10) (P.map (fun q => q.2.2.2.2) ++ (R.map (fun q => q.2.2) ++ J11)) (rw.map (fun q => q.1) ++ J12) (rw.map (fun q => q.2) ++ (cs :: J13)) M14 M15 M16 M17 M18 M19 M20 M21 M22 M23 → frR w0 w h (h + 23) → k = P.length → r = rw.length → ((fz = 1 ∧ fl = true) ∨ (fz = 0 ∧ fl = false)) → (pw = true ↔ 0 < k ∧ (P.map (fun q => q.1) ++ (R.map (fun q => q.1) ++ J7)).getD (k - 1).toNat 0 ≠ 26 ∧ (P.map (fun q => q.1) ++ (R.map (fun q => q.1) ++ J7)).getD (k - 1).toNat 0 ≠ 27) → (rw.length + fz ≤ P.length ∧ P.length + R.length ≤ 44) → (0 ≤ c ∧ c ≤ 3 + 8 * P.length) → (∀ x ∈ R, 0 ≤ x.2.2 ∧ x.2.2 ≤ 5) → (∀ x ∈ R, x.1 = 27 → x.2.2 = 0) → P ++ (flw mo wi nd tb R pw fl rw cs c).1 = PL → (flw mo wi nd tb R pw fl rw cs c).2 = RW → J t 0 0 20 [some (vr h), some (vi r), some (vi c), some (vi fz), some (vi k)] [] n0 w := by
  intro R
  induction R with
  | nil =>
    intro P rw cs r c fz k pw fl lr lc J7 J8 J9 J10 J11 J12 J13 w hr hf hk hr0 hfz hpw hrw hcol hb hE hPL hRW
    have l7 := hr.l7
    have l8 := hr.l8
    have l9 := hr.l9
    have l10 := hr.l10
    have l11 := hr.l11
    have l12 := hr.l12
    have l13 := hr.l13
    simp only [List.length_append, List.length_map, List.length_cons] at l7 l8 l9 l10 l11 l12 l13
    obtain ⟨x12, J12, rfl⟩ : ∃ u v, J12 = u :: v := List.exists_cons_of_length_pos (by omega)
    simp only [List.length_cons, List.length_nil] at l7 l12
    rw [show ((P.length : Int) + (([] : List mI).length : Int)) = P.length by simp] at hr
    refine x_iload C dX5_setScreen_20 rfl ?_
    refine x_aload_n C dX5_setScreen_22 rfl ?_
    refine x_get C dX5_setScreen_23 kfX5_117 hr.o rfl ?_
    refine x_icmp_ge (tgt := 180) C dX5_setScreen_26 (by decide) (fun c26 => ?_) (fun c26 => absurd c26 (by omega))
    refine x_aload_n C dX5_setScreen_180 rfl ?_
    refine x_get C dX5_setScreen_181 kfX5_53 hr.o rfl ?_
    refine x_iload_n C dX5_setScreen_184 rfl ?_
    refine x_iload_n C dX5_setScreen_185 rfl ?_
    refine x_iast C dX5_setScreen_186 hr.a12 (by omega) (by rw [hr.l12]; omega) ?_
    refine ab_M_M12 hr hf (by rw [List.length_set]; exact hr.l12) (fun w hr hf => ?_)
    refine x_aload_n C dX5_setScreen_187 rfl ?_
    refine x_iload_n C dX5_setScreen_188 rfl ?_
    refine x_put C dX5_setScreen_189 kfX5_144 kw_5_19 rfl rfl hr.o (Nat.le_of_ble_eq_true rfl) ?_
    refine ab_M_lr hr hf (fun w hr hf => ?_)
    refine x_aload_n C dX5_setScreen_192 rfl ?_
    refine x_iload_n C dX5_setScreen_193 rfl ?_
    refine x_put C dX5_setScreen_194 kfX5_147 kw_5_20 rfl rfl hr.o (Nat.le_of_ble_eq_true rfl) ?_
    refine ab_M_lc hr hf (fun w hr hf => ?_)
    refine x_vret C hQ dX5_setScreen_197 (Nat.le_refl _) (Nat.le_refl _) ?_
    refine ⟨rfl, rfl, hfin w J7 J8 J9 J10 J11 J12 J13 ?_ hf⟩
    rw [set_mid _ x12 _ J12 (by simp; omega)] at hr
    rw [← hPL, ← hRW]
    simp only [flw, List.append_nil]
    rw [lastC_app]
    rw [show (((rw ++ [(c, cs)]).length : Nat) : Int) - 1 = r by simp; omega]
    simpa using hr
  | cons q R ih =>
    intro P rw cs r c fz k pw fl lr lc J7 J8 J9 J10 J11 J12 J13 w hr hf hk hr0 hfz hpw hrw hcol hb hE hPL hRW
    have l7 := hr.l7
    have l8 := hr.l8
    have l9 := hr.l9
    have l10 := hr.l10
    have l11 := hr.l11
    have l12 := hr.l12
    have l13 := hr.l13
    simp only [List.length_append, List.length_map, List.length_cons] at l7 l8 l9 l10 l11 l12 l13
    obtain ⟨x9, J9, rfl⟩ : ∃ u v, J9 = u :: v := List.exists_cons_of_length_pos (by omega)
    obtain ⟨x10, J10, rfl⟩ : ∃ u v, J10 = u :: v := List.exists_cons_of_length_pos (by omega)
    obtain ⟨x12, J12, rfl⟩ : ∃ u v, J12 = u :: v := List.exists_cons_of_length_pos (by omega)
    obtain ⟨x13, J13, rfl⟩ : ∃ u v, J13 = u :: v := List.exists_cons_of_length_pos (by omega)
    have hqr : (q :: R).length = R.length + 1 := List.length_cons
    have hbq := hb q List.mem_cons_self
    have hEq := hE q List.mem_cons_self
    have v7 : (P.map (fun q => q.1) ++ ((q :: R).map (fun q => q.1) ++ J7)).getD k.toNat 0 = q.1 := gd_mid _ q.1 _ (by first | (simp; done) | (simp; omega) | omega)
    have hwf := widF_bd (c := q.1) htb hcol.1 hbq
    have hwf2 := widF_bd (c := q.1) htb hnd.1 hbq
    have hmw : P.length ≤ 44 := by omega
    simp only [List.length_cons] at l7 l8 l9 l10 l11 l12 l13
    refine x_iload C dX5_setScreen_20 rfl ?_
    refine x_aload_n C dX5_setScreen_22 rfl ?_
    refine x_get C dX5_setScreen_23 kfX5_117 hr.o rfl ?_
    refine x_icmp_ge (tgt := 180) C dX5_setScreen_26 (by decide) (fun c26 => absurd c26 (by omega)) (fun c26 => ?_)
    refine x_aload_n C dX5_setScreen_29 rfl ?_
    refine x_get C dX5_setScreen_30 kfX5_38 hr.o rfl ?_
    refine x_iload C dX5_setScreen_33 rfl ?_
    refine x_iald C dX5_setScreen_35 hr.a7 (by omega) (by rw [hr.l7]; omega) ?_
    rw [v7]
    refine x_bipush C dX5_setScreen_36 ⟨by decide, by decide⟩ ?_
    refine x_icmp_ne (tgt := 53) C dX5_setScreen_38 (by decide) (fun c38 => ?_) (fun c38 => ?_)
    · have hW9 : q.2.2 = widF tb c q.1 q.2.2 := by
        unfold widF
        by_cases h9 : q.1 = 27
        · rw [if_pos h9]; exact hEq h9
        · rw [if_neg h9, if_neg c38]
      have hr : rM w h mn fc hc mo wi nd tb (P.length + (q :: R).length) lr lc um sm wp wr ac sz ra rn M1 M2 M3 M4 M5 M6 (P.map (fun q => q.1) ++ ((q :: R).map (fun q => q.1) ++ J7)) (P.map (fun q => q.2.1) ++ ((q :: R).map (fun q => q.2.1) ++ J8)) (P.map (fun q => q.2.2.1) ++ (x9 :: J9)) (P.map (fun q => q.2.2.2.1) ++ (x10 :: J10)) (P.map (fun q => q.2.2.2.2) ++ (widF tb c q.1 q.2.2 :: (R.map (fun q => q.2.2) ++ J11))) (rw.map (fun q => q.1) ++ (x12 :: J12)) (rw.map (fun q => q.2) ++ (cs :: x13 :: J13)) M14 M15 M16 M17 M18 M19 M20 M21 M22 M23 := by rw [← hW9]; exact hr
      refine x_iload_n C dX5_setScreen_53 rfl ?_
      refine x_if_eq (tgt := 113) C dX5_setScreen_54 (by decide) (fun c54 => ?_) (fun c54 => ?_)
      · rw [flw, if_neg (by
          rw [Bool.and_eq_true]; intro h9
          rcases hfz with h8 | h8
          · omega
          · rw [h8.2] at h9; cases h9.1)] at hPL hRW
        simp only at hPL hRW
        refine lp_X5_setScreen_113 C hr hf (W := widF tb c q.1 q.2.2) (by omega) (by omega) (by omega) (by omega) (gd_mid _ _ _ (by first | (simp; done) | (simp; omega) | omega)) (fun h27 w9 hr hf => ?_) (fun h27 w9 hr hf => ?_)
        · rw [v7] at h27
          rw [if_neg h27] at hPL hRW
          rw [set_mid _ x9 _ J9 (by first | (simp; done) | (simp; omega) | omega), set_mid _ x10 _ J10 (by first | (simp; done) | (simp; omega) | omega)] at hr
          refine ih (P ++ [(q.1, q.2.1, (rw.length : Int), c, widF tb c q.1 q.2.2)]) rw cs r (c + widF tb c q.1 q.2.2) 1 (k + 1) (isWc q.1) true lr lc J7 J8 J9 J10 J11 (x12 :: J12) (x13 :: J13) w9 ?_ hf (by simp; omega) hr0 (Or.inl ⟨rfl, rfl⟩) ?_ (by simp; omega) (by simp; omega) (fun x hx => hb x (List.mem_cons_of_mem _ hx)) (fun x hx => hE x (List.mem_cons_of_mem _ hx)) (by rw [← hPL]; simp) hRW
          · rw [hr0] at hr
            simpa [Int.add_assoc, Int.add_comm, Int.add_left_comm] using hr
          · rw [show (k + 1 - 1) = k by omega, isWc, decide_eq_true_iff]
            have v9 : (((P ++ [(q.1, q.2.1, (rw.length : Int), c, widF tb c q.1 q.2.2)]).map (fun q => q.1) ++ (R.map (fun q => q.1) ++ J7)).getD k.toNat 0) = q.1 := by
              rw [List.map_append, List.append_assoc]
              exact gd_mid _ q.1 _ (by first | (simp; done) | (simp; omega) | omega)
            rw [v9]
            omega
        · rw [v7] at h27
          rw [if_pos h27] at hPL hRW
          rw [set_mid _ x9 _ J9 (by first | (simp; done) | (simp; omega) | omega), set_mid _ x10 _ J10 (by first | (simp; done) | (simp; omega) | omega), set_mid _ x12 _ J12 (by first | (simp; done) | (simp; omega) | omega), set_mid2 _ cs x13 1 J13 (by first | (simp; done) | (simp; omega) | omega)] at hr
          refine ih (P ++ [(q.1, q.2.1, (rw.length : Int), c, widF tb c q.1 q.2.2)]) (rw ++ [(c + widF tb c q.1 q.2.2, cs)]) 1 (r + 1) 0 0 (k + 1) false false lr lc J7 J8 J9 J10 J11 J12 J13 w9 ?_ hf (by simp; omega) (by simp; omega) (Or.inr ⟨rfl, rfl⟩) ?_ (by simp; omega) (by first | (simp; done) | (simp; omega) | omega) (fun x hx => hb x (List.mem_cons_of_mem _ hx)) (fun x hx => hE x (List.mem_cons_of_mem _ hx)) (by rw [← hPL]; simp) hRW
          · rw [hr0] at hr
            simpa [Int.add_assoc, Int.add_comm, Int.add_left_comm] using hr
          · rw [show (k + 1 - 1) = k by omega]
            have v9 : (((P ++ [(q.1, q.2.1, (rw.length : Int), c, widF tb c q.1 q.2.2)]).map (fun q => q.1) ++ (R.map (fun q => q.1) ++ J7)).getD k.toNat 0) = q.1 := by
              rw [List.map_append, List.append_assoc]
              exact gd_mid _ q.1 _ (by first | (simp; done) | (simp; omega) | omega)
            rw [v9]
            simp
            omega
      · refine x_aload_n C dX5_setScreen_57 rfl ?_
        refine x_iload C dX5_setScreen_58 rfl ?_
        refine x_iload_n C dX5_setScreen_60 rfl ?_
        refine y_p2 C dX5_setScreen_61 kyX5_goesOn knX5_goesOn kmX5_140 hr.o (c_X5_goesOn l hr k c pw (q := q) (R := R) rfl rfl rfl (by first | (simp; done) | (simp; omega) | omega) (by first | (simp; done) | (simp; omega) | omega) (by first | (simp; done) | (simp; omega) | omega) hb hpw (by omega) htb (by omega) (by omega) hmo) (by decide) (Nat.zero_le _) (Nat.zero_le _) (Nat.le_of_ble_eq_true rfl) (fun z61 q61 => ?_)
        refine x_if_eq (tgt := 113) C dX5_setScreen_64 (by decide) (fun c64 => ?_) (fun c64 => ?_)
        · rw [flw, if_neg (by
            rw [Bool.and_eq_true]; intro h9
            have := q61.2.mpr h9.2; omega)] at hPL hRW
          simp only at hPL hRW
          refine lp_X5_setScreen_113 C hr hf (W := widF tb c q.1 q.2.2) (by omega) (by omega) (by omega) (by omega) (gd_mid _ _ _ (by first | (simp; done) | (simp; omega) | omega)) (fun h27 w9 hr hf => ?_) (fun h27 w9 hr hf => ?_)
          · rw [v7] at h27
            rw [if_neg h27] at hPL hRW
            rw [set_mid _ x9 _ J9 (by first | (simp; done) | (simp; omega) | omega), set_mid _ x10 _ J10 (by first | (simp; done) | (simp; omega) | omega)] at hr
            refine ih (P ++ [(q.1, q.2.1, (rw.length : Int), c, widF tb c q.1 q.2.2)]) rw cs r (c + widF tb c q.1 q.2.2) 1 (k + 1) (isWc q.1) true lr lc J7 J8 J9 J10 J11 (x12 :: J12) (x13 :: J13) w9 ?_ hf (by simp; omega) hr0 (Or.inl ⟨rfl, rfl⟩) ?_ (by simp; omega) (by simp; omega) (fun x hx => hb x (List.mem_cons_of_mem _ hx)) (fun x hx => hE x (List.mem_cons_of_mem _ hx)) (by rw [← hPL]; simp) hRW
            · rw [hr0] at hr
              simpa [Int.add_assoc, Int.add_comm, Int.add_left_comm] using hr
            · rw [show (k + 1 - 1) = k by omega, isWc, decide_eq_true_iff]
              have v9 : (((P ++ [(q.1, q.2.1, (rw.length : Int), c, widF tb c q.1 q.2.2)]).map (fun q => q.1) ++ (R.map (fun q => q.1) ++ J7)).getD k.toNat 0) = q.1 := by
                rw [List.map_append, List.append_assoc]
                exact gd_mid _ q.1 _ (by first | (simp; done) | (simp; omega) | omega)
              rw [v9]
              omega
          · rw [v7] at h27
            rw [if_pos h27] at hPL hRW
            rw [set_mid _ x9 _ J9 (by first | (simp; done) | (simp; omega) | omega), set_mid _ x10 _ J10 (by first | (simp; done) | (simp; omega) | omega), set_mid _ x12 _ J12 (by first | (simp; done) | (simp; omega) | omega), set_mid2 _ cs x13 1 J13 (by first | (simp; done) | (simp; omega) | omega)] at hr
            refine ih (P ++ [(q.1, q.2.1, (rw.length : Int), c, widF tb c q.1 q.2.2)]) (rw ++ [(c + widF tb c q.1 q.2.2, cs)]) 1 (r + 1) 0 0 (k + 1) false false lr lc J7 J8 J9 J10 J11 J12 J13 w9 ?_ hf (by simp; omega) (by simp; omega) (Or.inr ⟨rfl, rfl⟩) ?_ (by simp; omega) (by first | (simp; done) | (simp; omega) | omega) (fun x hx => hb x (List.mem_cons_of_mem _ hx)) (fun x hx => hE x (List.mem_cons_of_mem _ hx)) (by rw [← hPL]; simp) hRW
            · rw [hr0] at hr
              simpa [Int.add_assoc, Int.add_comm, Int.add_left_comm] using hr
            · rw [show (k + 1 - 1) = k by omega]
              have v9 : (((P ++ [(q.1, q.2.1, (rw.length : Int), c, widF tb c q.1 q.2.2)]).map (fun q => q.1) ++ (R.map (fun q => q.1) ++ J7)).getD k.toNat 0) = q.1 := by
                rw [List.map_append, List.append_assoc]
                exact gd_mid _ q.1 _ (by first | (simp; done) | (simp; omega) | omega)
              rw [v9]
              simp
              omega
        · refine x_aload_n C dX5_setScreen_67 rfl ?_
          refine x_get C dX5_setScreen_68 kfX5_53 hr.o rfl ?_
          refine x_iload_n C dX5_setScreen_71 rfl ?_
          refine x_iload_n C dX5_setScreen_72 rfl ?_
          refine x_iast C dX5_setScreen_73 hr.a12 (by omega) (by rw [hr.l12]; omega) ?_
          refine ab_M_M12 hr hf (by rw [List.length_set]; exact hr.l12) (fun w hr hf => ?_)
          refine s_inc5_1 C dX5_setScreen_74 rfl (by first | (unfold iR; omega) | exact ⟨by omega, by omega⟩) ?_
          refine x_aload_n C dX5_setScreen_77 rfl ?_
          refine x_get C dX5_setScreen_78 kfX5_56 hr.o rfl ?_
          refine x_iload_n C dX5_setScreen_81 rfl ?_
          refine x_iconst C dX5_setScreen_82 ⟨by decide, by decide⟩ ?_
          refine x_iast C dX5_setScreen_83 hr.a13 (by omega) (by rw [hr.l13]; omega) ?_
          refine ab_M_M13 hr hf (by rw [List.length_set]; exact hr.l13) (fun w hr hf => ?_)
          refine x_aload_n C dX5_setScreen_84 rfl ?_
          refine x_get C dX5_setScreen_85 kfX5_100 hr.o rfl ?_
          refine s_ist5_2 C dX5_setScreen_88 rfl ?_
          refine x_aload_n C dX5_setScreen_89 rfl ?_
          refine x_get C dX5_setScreen_90 kfX5_38 hr.o rfl ?_
          refine x_iload C dX5_setScreen_93 rfl ?_
          refine x_iald C dX5_setScreen_95 hr.a7 (by omega) (by rw [hr.l7]; omega) ?_
          rw [v7]
          refine x_bipush C dX5_setScreen_96 ⟨by decide, by decide⟩ ?_
          refine x_icmp_ne (tgt := 113) C dX5_setScreen_98 (by decide) (fun c98 => ?_) (fun c98 => ?_)
          · rw [flw, if_pos (by rw [Bool.and_eq_true]; exact ⟨by rcases hfz with h9 | h9 <;> first | exact h9.2 | omega, q61.2.mp (by omega)⟩)] at hPL hRW
            simp only at hPL hRW
            have hq27 : q.1 ≠ 27 := by
              have h9 := q61.2.mp (by omega)
              rw [goesF, decide_eq_true_iff] at h9
              exact h9.2.1
            rw [set_mid _ x12 _ J12 (by first | (simp; done) | (simp; omega) | omega), set_mid2 _ cs x13 0 J13 (by first | (simp; done) | (simp; omega) | omega)] at hr
            have hW8 : widF tb c q.1 q.2.2 = widF tb nd q.1 q.2.2 := by
              unfold widF
              rw [if_neg hq27, if_neg hq27, if_neg c98, if_neg c98]
            rw [hW8] at hr
            refine lp_X5_setScreen_113 C hr hf (W := widF tb nd q.1 q.2.2) (by omega) (by omega) (by omega) (by omega) (gd_mid _ _ _ (by first | (simp; done) | (simp; omega) | omega)) (fun h27 w9 hr hf => ?_) (fun h27 w9 hr hf => absurd (v7.symm.trans h27) hq27)
            rw [set_mid _ x9 _ J9 (by first | (simp; done) | (simp; omega) | omega), set_mid _ x10 _ J10 (by first | (simp; done) | (simp; omega) | omega)] at hr
            refine ih (P ++ [(q.1, q.2.1, (rw.length : Int) + 1, nd, widF tb nd q.1 q.2.2)]) (rw ++ [(c, cs)]) 0 (r + 1) (nd + widF tb nd q.1 q.2.2) 1 (k + 1) (isWc q.1) true lr lc J7 J8 J9 J10 J11 J12 J13 w9 ?_ hf (by simp; omega) (by simp; omega) (Or.inl ⟨rfl, rfl⟩) ?_ (by simp; omega) (by simp; omega) (fun x hx => hb x (List.mem_cons_of_mem _ hx)) (fun x hx => hE x (List.mem_cons_of_mem _ hx)) (by rw [← hPL]; simp) hRW
            · rw [hr0] at hr
              simpa [Int.add_assoc, Int.add_comm, Int.add_left_comm] using hr
            · rw [show (k + 1 - 1) = k by omega, isWc, decide_eq_true_iff]
              have v9 : (((P ++ [(q.1, q.2.1, (rw.length : Int) + 1, nd, widF tb nd q.1 q.2.2)]).map (fun q => q.1) ++ (R.map (fun q => q.1) ++ J7)).getD k.toNat 0) = q.1 := by
                rw [List.map_append, List.append_assoc]
                exact gd_mid _ q.1 _ (by first | (simp; done) | (simp; omega) | omega)
              rw [v9]
              omega
          · refine x_aload_n C dX5_setScreen_101 rfl ?_
            refine x_get C dX5_setScreen_102 kfX5_50 hr.o rfl ?_
            refine x_iload C dX5_setScreen_105 rfl ?_
            refine x_aload_n C dX5_setScreen_107 rfl ?_
            refine x_iload_n C dX5_setScreen_108 rfl ?_
            refine y_p1 C dX5_setScreen_109 kyX5_toStop knX5_toStop kmX5_137 hr.o (c_X5_toStop l hr nd (by omega) htb) (by decide) (Nat.zero_le _) (Nat.zero_le _) (Nat.le_of_ble_eq_true rfl) (fun z109 q109 => ?_)
            refine x_iast C dX5_setScreen_112 hr.a11 (by omega) (by rw [hr.l11]; omega) ?_
            refine ab_M_M11 hr hf (by rw [List.length_set]; exact hr.l11) (fun w hr hf => ?_)
            rw [flw, if_pos (by rw [Bool.and_eq_true]; exact ⟨by rcases hfz with h9 | h9 <;> first | exact h9.2 | omega, q61.2.mp (by omega)⟩)] at hPL hRW
            simp only at hPL hRW
            have hq27 : q.1 ≠ 27 := by
              have h9 := q61.2.mp (by omega)
              rw [goesF, decide_eq_true_iff] at h9
              exact h9.2.1
            rw [set_mid _ x12 _ J12 (by first | (simp; done) | (simp; omega) | omega), set_mid2 _ cs x13 0 J13 (by first | (simp; done) | (simp; omega) | omega)] at hr
            have hW8 : tb - nd % tb = widF tb nd q.1 q.2.2 := by
              unfold widF
              rw [if_neg hq27, if_pos c98]
            rw [set_mid _ _ _ _ (by first | (simp; done) | (simp; omega) | omega), q109, hW8] at hr
            refine lp_X5_setScreen_113 C hr hf (W := widF tb nd q.1 q.2.2) (by omega) (by omega) (by omega) (by omega) (gd_mid _ _ _ (by first | (simp; done) | (simp; omega) | omega)) (fun h27 w9 hr hf => ?_) (fun h27 w9 hr hf => absurd (v7.symm.trans h27) hq27)
            rw [set_mid _ x9 _ J9 (by first | (simp; done) | (simp; omega) | omega), set_mid _ x10 _ J10 (by first | (simp; done) | (simp; omega) | omega)] at hr
            refine ih (P ++ [(q.1, q.2.1, (rw.length : Int) + 1, nd, widF tb nd q.1 q.2.2)]) (rw ++ [(c, cs)]) 0 (r + 1) (nd + widF tb nd q.1 q.2.2) 1 (k + 1) (isWc q.1) true lr lc J7 J8 J9 J10 J11 J12 J13 w9 ?_ hf (by simp; omega) (by simp; omega) (Or.inl ⟨rfl, rfl⟩) ?_ (by simp; omega) (by simp; omega) (fun x hx => hb x (List.mem_cons_of_mem _ hx)) (fun x hx => hE x (List.mem_cons_of_mem _ hx)) (by rw [← hPL]; simp) hRW
            · rw [hr0] at hr
              simpa [Int.add_assoc, Int.add_comm, Int.add_left_comm] using hr
            · rw [show (k + 1 - 1) = k by omega, isWc, decide_eq_true_iff]
              have v9 : (((P ++ [(q.1, q.2.1, (rw.length : Int) + 1, nd, widF tb nd q.1 q.2.2)]).map (fun q => q.1) ++ (R.map (fun q => q.1) ++ J7)).getD k.toNat 0) = q.1 := by
                rw [List.map_append, List.append_assoc]
                exact gd_mid _ q.1 _ (by first | (simp; done) | (simp; omega) | omega)
              rw [v9]
              omega
    · refine x_aload_n C dX5_setScreen_41 rfl ?_
      refine x_get C dX5_setScreen_42 kfX5_50 hr.o rfl ?_
      refine x_iload C dX5_setScreen_45 rfl ?_
      refine x_aload_n C dX5_setScreen_47 rfl ?_
      refine x_iload_n C dX5_setScreen_48 rfl ?_
      refine y_p1 C dX5_setScreen_49 kyX5_toStop knX5_toStop kmX5_137 hr.o (c_X5_toStop l hr c (by omega) htb) (by decide) (Nat.zero_le _) (Nat.zero_le _) (Nat.le_of_ble_eq_true rfl) (fun z49 q49 => ?_)
      refine x_iast C dX5_setScreen_52 hr.a11 (by omega) (by rw [hr.l11]; omega) ?_
      refine ab_M_M11 hr hf (by rw [List.length_set]; exact hr.l11) (fun w hr hf => ?_)
      have hW9 : tb - c % tb = widF tb c q.1 q.2.2 := by
        unfold widF
        rw [if_neg (by omega), if_pos c38]
      have hr : rM w h mn fc hc mo wi nd tb (P.length + (q :: R).length) lr lc um sm wp wr ac sz ra rn M1 M2 M3 M4 M5 M6 (P.map (fun q => q.1) ++ ((q :: R).map (fun q => q.1) ++ J7)) (P.map (fun q => q.2.1) ++ ((q :: R).map (fun q => q.2.1) ++ J8)) (P.map (fun q => q.2.2.1) ++ (x9 :: J9)) (P.map (fun q => q.2.2.2.1) ++ (x10 :: J10)) (P.map (fun q => q.2.2.2.2) ++ (widF tb c q.1 q.2.2 :: (R.map (fun q => q.2.2) ++ J11))) (rw.map (fun q => q.1) ++ (x12 :: J12)) (rw.map (fun q => q.2) ++ (cs :: x13 :: J13)) M14 M15 M16 M17 M18 M19 M20 M21 M22 M23 := by
        have e9 : (P.map (fun q => q.2.2.2.2) ++ ((q :: R).map (fun q => q.2.2) ++ J11)).set k.toNat z49 = P.map (fun q => q.2.2.2.2) ++ (widF tb c q.1 q.2.2 :: (R.map (fun q => q.2.2) ++ J11)) := by
          rw [q49, hW9]; exact set_mid _ q.2.2 _ _ (by first | (simp; done) | (simp; omega) | omega)
        rw [e9] at hr
        exact hr
      refine x_iload_n C dX5_setScreen_53 rfl ?_
      refine x_if_eq (tgt := 113) C dX5_setScreen_54 (by decide) (fun c54 => ?_) (fun c54 => ?_)
      · rw [flw, if_neg (by
          rw [Bool.and_eq_true]; intro h9
          rcases hfz with h8 | h8
          · omega
          · rw [h8.2] at h9; cases h9.1)] at hPL hRW
        simp only at hPL hRW
        refine lp_X5_setScreen_113 C hr hf (W := widF tb c q.1 q.2.2) (by omega) (by omega) (by omega) (by omega) (gd_mid _ _ _ (by first | (simp; done) | (simp; omega) | omega)) (fun h27 w9 hr hf => ?_) (fun h27 w9 hr hf => ?_)
        · rw [v7] at h27
          rw [if_neg h27] at hPL hRW
          rw [set_mid _ x9 _ J9 (by first | (simp; done) | (simp; omega) | omega), set_mid _ x10 _ J10 (by first | (simp; done) | (simp; omega) | omega)] at hr
          refine ih (P ++ [(q.1, q.2.1, (rw.length : Int), c, widF tb c q.1 q.2.2)]) rw cs r (c + widF tb c q.1 q.2.2) 1 (k + 1) (isWc q.1) true lr lc J7 J8 J9 J10 J11 (x12 :: J12) (x13 :: J13) w9 ?_ hf (by simp; omega) hr0 (Or.inl ⟨rfl, rfl⟩) ?_ (by simp; omega) (by simp; omega) (fun x hx => hb x (List.mem_cons_of_mem _ hx)) (fun x hx => hE x (List.mem_cons_of_mem _ hx)) (by rw [← hPL]; simp) hRW
          · rw [hr0] at hr
            simpa [Int.add_assoc, Int.add_comm, Int.add_left_comm] using hr
          · rw [show (k + 1 - 1) = k by omega, isWc, decide_eq_true_iff]
            have v9 : (((P ++ [(q.1, q.2.1, (rw.length : Int), c, widF tb c q.1 q.2.2)]).map (fun q => q.1) ++ (R.map (fun q => q.1) ++ J7)).getD k.toNat 0) = q.1 := by
              rw [List.map_append, List.append_assoc]
              exact gd_mid _ q.1 _ (by first | (simp; done) | (simp; omega) | omega)
            rw [v9]
            omega
        · rw [v7] at h27
          rw [if_pos h27] at hPL hRW
          rw [set_mid _ x9 _ J9 (by first | (simp; done) | (simp; omega) | omega), set_mid _ x10 _ J10 (by first | (simp; done) | (simp; omega) | omega), set_mid _ x12 _ J12 (by first | (simp; done) | (simp; omega) | omega), set_mid2 _ cs x13 1 J13 (by first | (simp; done) | (simp; omega) | omega)] at hr
          refine ih (P ++ [(q.1, q.2.1, (rw.length : Int), c, widF tb c q.1 q.2.2)]) (rw ++ [(c + widF tb c q.1 q.2.2, cs)]) 1 (r + 1) 0 0 (k + 1) false false lr lc J7 J8 J9 J10 J11 J12 J13 w9 ?_ hf (by simp; omega) (by simp; omega) (Or.inr ⟨rfl, rfl⟩) ?_ (by simp; omega) (by first | (simp; done) | (simp; omega) | omega) (fun x hx => hb x (List.mem_cons_of_mem _ hx)) (fun x hx => hE x (List.mem_cons_of_mem _ hx)) (by rw [← hPL]; simp) hRW
          · rw [hr0] at hr
            simpa [Int.add_assoc, Int.add_comm, Int.add_left_comm] using hr
          · rw [show (k + 1 - 1) = k by omega]
            have v9 : (((P ++ [(q.1, q.2.1, (rw.length : Int), c, widF tb c q.1 q.2.2)]).map (fun q => q.1) ++ (R.map (fun q => q.1) ++ J7)).getD k.toNat 0) = q.1 := by
              rw [List.map_append, List.append_assoc]
              exact gd_mid _ q.1 _ (by first | (simp; done) | (simp; omega) | omega)
            rw [v9]
            simp
            omega
      · refine x_aload_n C dX5_setScreen_57 rfl ?_
        refine x_iload C dX5_setScreen_58 rfl ?_
        refine x_iload_n C dX5_setScreen_60 rfl ?_
        refine y_p2 C dX5_setScreen_61 kyX5_goesOn knX5_goesOn kmX5_140 hr.o (c_X5_goesOn l hr k c pw (q := q) (R := R) rfl rfl rfl (by first | (simp; done) | (simp; omega) | omega) (by first | (simp; done) | (simp; omega) | omega) (by first | (simp; done) | (simp; omega) | omega) hb hpw (by omega) htb (by omega) (by omega) hmo) (by decide) (Nat.zero_le _) (Nat.zero_le _) (Nat.le_of_ble_eq_true rfl) (fun z61 q61 => ?_)
        refine x_if_eq (tgt := 113) C dX5_setScreen_64 (by decide) (fun c64 => ?_) (fun c64 => ?_)
        · rw [flw, if_neg (by
            rw [Bool.and_eq_true]; intro h9
            have := q61.2.mpr h9.2; omega)] at hPL hRW
          simp only at hPL hRW
          refine lp_X5_setScreen_113 C hr hf (W := widF tb c q.1 q.2.2) (by omega) (by omega) (by omega) (by omega) (gd_mid _ _ _ (by first | (simp; done) | (simp; omega) | omega)) (fun h27 w9 hr hf => ?_) (fun h27 w9 hr hf => ?_)
          · rw [v7] at h27
            rw [if_neg h27] at hPL hRW
            rw [set_mid _ x9 _ J9 (by first | (simp; done) | (simp; omega) | omega), set_mid _ x10 _ J10 (by first | (simp; done) | (simp; omega) | omega)] at hr
            refine ih (P ++ [(q.1, q.2.1, (rw.length : Int), c, widF tb c q.1 q.2.2)]) rw cs r (c + widF tb c q.1 q.2.2) 1 (k + 1) (isWc q.1) true lr lc J7 J8 J9 J10 J11 (x12 :: J12) (x13 :: J13) w9 ?_ hf (by simp; omega) hr0 (Or.inl ⟨rfl, rfl⟩) ?_ (by simp; omega) (by simp; omega) (fun x hx => hb x (List.mem_cons_of_mem _ hx)) (fun x hx => hE x (List.mem_cons_of_mem _ hx)) (by rw [← hPL]; simp) hRW
            · rw [hr0] at hr
              simpa [Int.add_assoc, Int.add_comm, Int.add_left_comm] using hr
            · rw [show (k + 1 - 1) = k by omega, isWc, decide_eq_true_iff]
              have v9 : (((P ++ [(q.1, q.2.1, (rw.length : Int), c, widF tb c q.1 q.2.2)]).map (fun q => q.1) ++ (R.map (fun q => q.1) ++ J7)).getD k.toNat 0) = q.1 := by
                rw [List.map_append, List.append_assoc]
                exact gd_mid _ q.1 _ (by first | (simp; done) | (simp; omega) | omega)
              rw [v9]
              omega
          · rw [v7] at h27
            rw [if_pos h27] at hPL hRW
            rw [set_mid _ x9 _ J9 (by first | (simp; done) | (simp; omega) | omega), set_mid _ x10 _ J10 (by first | (simp; done) | (simp; omega) | omega), set_mid _ x12 _ J12 (by first | (simp; done) | (simp; omega) | omega), set_mid2 _ cs x13 1 J13 (by first | (simp; done) | (simp; omega) | omega)] at hr
            refine ih (P ++ [(q.1, q.2.1, (rw.length : Int), c, widF tb c q.1 q.2.2)]) (rw ++ [(c + widF tb c q.1 q.2.2, cs)]) 1 (r + 1) 0 0 (k + 1) false false lr lc J7 J8 J9 J10 J11 J12 J13 w9 ?_ hf (by simp; omega) (by simp; omega) (Or.inr ⟨rfl, rfl⟩) ?_ (by simp; omega) (by first | (simp; done) | (simp; omega) | omega) (fun x hx => hb x (List.mem_cons_of_mem _ hx)) (fun x hx => hE x (List.mem_cons_of_mem _ hx)) (by rw [← hPL]; simp) hRW
            · rw [hr0] at hr
              simpa [Int.add_assoc, Int.add_comm, Int.add_left_comm] using hr
            · rw [show (k + 1 - 1) = k by omega]
              have v9 : (((P ++ [(q.1, q.2.1, (rw.length : Int), c, widF tb c q.1 q.2.2)]).map (fun q => q.1) ++ (R.map (fun q => q.1) ++ J7)).getD k.toNat 0) = q.1 := by
                rw [List.map_append, List.append_assoc]
                exact gd_mid _ q.1 _ (by first | (simp; done) | (simp; omega) | omega)
              rw [v9]
              simp
              omega
        · refine x_aload_n C dX5_setScreen_67 rfl ?_
          refine x_get C dX5_setScreen_68 kfX5_53 hr.o rfl ?_
          refine x_iload_n C dX5_setScreen_71 rfl ?_
          refine x_iload_n C dX5_setScreen_72 rfl ?_
          refine x_iast C dX5_setScreen_73 hr.a12 (by omega) (by rw [hr.l12]; omega) ?_
          refine ab_M_M12 hr hf (by rw [List.length_set]; exact hr.l12) (fun w hr hf => ?_)
          refine s_inc5_1 C dX5_setScreen_74 rfl (by first | (unfold iR; omega) | exact ⟨by omega, by omega⟩) ?_
          refine x_aload_n C dX5_setScreen_77 rfl ?_
          refine x_get C dX5_setScreen_78 kfX5_56 hr.o rfl ?_
          refine x_iload_n C dX5_setScreen_81 rfl ?_
          refine x_iconst C dX5_setScreen_82 ⟨by decide, by decide⟩ ?_
          refine x_iast C dX5_setScreen_83 hr.a13 (by omega) (by rw [hr.l13]; omega) ?_
          refine ab_M_M13 hr hf (by rw [List.length_set]; exact hr.l13) (fun w hr hf => ?_)
          refine x_aload_n C dX5_setScreen_84 rfl ?_
          refine x_get C dX5_setScreen_85 kfX5_100 hr.o rfl ?_
          refine s_ist5_2 C dX5_setScreen_88 rfl ?_
          refine x_aload_n C dX5_setScreen_89 rfl ?_
          refine x_get C dX5_setScreen_90 kfX5_38 hr.o rfl ?_
          refine x_iload C dX5_setScreen_93 rfl ?_
          refine x_iald C dX5_setScreen_95 hr.a7 (by omega) (by rw [hr.l7]; omega) ?_
          rw [v7]
          refine x_bipush C dX5_setScreen_96 ⟨by decide, by decide⟩ ?_
          refine x_icmp_ne (tgt := 113) C dX5_setScreen_98 (by decide) (fun c98 => ?_) (fun c98 => ?_)
          · rw [flw, if_pos (by rw [Bool.and_eq_true]; exact ⟨by rcases hfz with h9 | h9 <;> first | exact h9.2 | omega, q61.2.mp (by omega)⟩)] at hPL hRW
            simp only at hPL hRW
            have hq27 : q.1 ≠ 27 := by
              have h9 := q61.2.mp (by omega)
              rw [goesF, decide_eq_true_iff] at h9
              exact h9.2.1
            rw [set_mid _ x12 _ J12 (by first | (simp; done) | (simp; omega) | omega), set_mid2 _ cs x13 0 J13 (by first | (simp; done) | (simp; omega) | omega)] at hr
            have hW8 : widF tb c q.1 q.2.2 = widF tb nd q.1 q.2.2 := by
              unfold widF
              rw [if_neg hq27, if_neg hq27, if_neg c98, if_neg c98]
            rw [hW8] at hr
            refine lp_X5_setScreen_113 C hr hf (W := widF tb nd q.1 q.2.2) (by omega) (by omega) (by omega) (by omega) (gd_mid _ _ _ (by first | (simp; done) | (simp; omega) | omega)) (fun h27 w9 hr hf => ?_) (fun h27 w9 hr hf => absurd (v7.symm.trans h27) hq27)
            rw [set_mid _ x9 _ J9 (by first | (simp; done) | (simp; omega) | omega), set_mid _ x10 _ J10 (by first | (simp; done) | (simp; omega) | omega)] at hr
            refine ih (P ++ [(q.1, q.2.1, (rw.length : Int) + 1, nd, widF tb nd q.1 q.2.2)]) (rw ++ [(c, cs)]) 0 (r + 1) (nd + widF tb nd q.1 q.2.2) 1 (k + 1) (isWc q.1) true lr lc J7 J8 J9 J10 J11 J12 J13 w9 ?_ hf (by simp; omega) (by simp; omega) (Or.inl ⟨rfl, rfl⟩) ?_ (by simp; omega) (by simp; omega) (fun x hx => hb x (List.mem_cons_of_mem _ hx)) (fun x hx => hE x (List.mem_cons_of_mem _ hx)) (by rw [← hPL]; simp) hRW
            · rw [hr0] at hr
              simpa [Int.add_assoc, Int.add_comm, Int.add_left_comm] using hr
            · rw [show (k + 1 - 1) = k by omega, isWc, decide_eq_true_iff]
              have v9 : (((P ++ [(q.1, q.2.1, (rw.length : Int) + 1, nd, widF tb nd q.1 q.2.2)]).map (fun q => q.1) ++ (R.map (fun q => q.1) ++ J7)).getD k.toNat 0) = q.1 := by
                rw [List.map_append, List.append_assoc]
                exact gd_mid _ q.1 _ (by first | (simp; done) | (simp; omega) | omega)
              rw [v9]
              omega
          · refine x_aload_n C dX5_setScreen_101 rfl ?_
            refine x_get C dX5_setScreen_102 kfX5_50 hr.o rfl ?_
            refine x_iload C dX5_setScreen_105 rfl ?_
            refine x_aload_n C dX5_setScreen_107 rfl ?_
            refine x_iload_n C dX5_setScreen_108 rfl ?_
            refine y_p1 C dX5_setScreen_109 kyX5_toStop knX5_toStop kmX5_137 hr.o (c_X5_toStop l hr nd (by omega) htb) (by decide) (Nat.zero_le _) (Nat.zero_le _) (Nat.le_of_ble_eq_true rfl) (fun z109 q109 => ?_)
            refine x_iast C dX5_setScreen_112 hr.a11 (by omega) (by rw [hr.l11]; omega) ?_
            refine ab_M_M11 hr hf (by rw [List.length_set]; exact hr.l11) (fun w hr hf => ?_)
            rw [flw, if_pos (by rw [Bool.and_eq_true]; exact ⟨by rcases hfz with h9 | h9 <;> first | exact h9.2 | omega, q61.2.mp (by omega)⟩)] at hPL hRW
            simp only at hPL hRW
            have hq27 : q.1 ≠ 27 := by
              have h9 := q61.2.mp (by omega)
              rw [goesF, decide_eq_true_iff] at h9
              exact h9.2.1
            rw [set_mid _ x12 _ J12 (by first | (simp; done) | (simp; omega) | omega), set_mid2 _ cs x13 0 J13 (by first | (simp; done) | (simp; omega) | omega)] at hr
            have hW8 : tb - nd % tb = widF tb nd q.1 q.2.2 := by
              unfold widF
              rw [if_neg hq27, if_pos c98]
            rw [set_mid _ _ _ _ (by first | (simp; done) | (simp; omega) | omega), q109, hW8] at hr
            refine lp_X5_setScreen_113 C hr hf (W := widF tb nd q.1 q.2.2) (by omega) (by omega) (by omega) (by omega) (gd_mid _ _ _ (by first | (simp; done) | (simp; omega) | omega)) (fun h27 w9 hr hf => ?_) (fun h27 w9 hr hf => absurd (v7.symm.trans h27) hq27)
            rw [set_mid _ x9 _ J9 (by first | (simp; done) | (simp; omega) | omega), set_mid _ x10 _ J10 (by first | (simp; done) | (simp; omega) | omega)] at hr
            refine ih (P ++ [(q.1, q.2.1, (rw.length : Int) + 1, nd, widF tb nd q.1 q.2.2)]) (rw ++ [(c, cs)]) 0 (r + 1) (nd + widF tb nd q.1 q.2.2) 1 (k + 1) (isWc q.1) true lr lc J7 J8 J9 J10 J11 J12 J13 w9 ?_ hf (by simp; omega) (by simp; omega) (Or.inl ⟨rfl, rfl⟩) ?_ (by simp; omega) (by simp; omega) (fun x hx => hb x (List.mem_cons_of_mem _ hx)) (fun x hx => hE x (List.mem_cons_of_mem _ hx)) (by rw [← hPL]; simp) hRW
            · rw [hr0] at hr
              simpa [Int.add_assoc, Int.add_comm, Int.add_left_comm] using hr
            · rw [show (k + 1 - 1) = k by omega, isWc, decide_eq_true_iff]
              have v9 : (((P ++ [(q.1, q.2.1, (rw.length : Int) + 1, nd, widF tb nd q.1 q.2.2)]).map (fun q => q.1) ++ (R.map (fun q => q.1) ++ J7)).getD k.toNat 0) = q.1 := by
                rw [List.map_append, List.append_assoc]
                exact gd_mid _ q.1 _ (by first | (simp; done) | (simp; omega) | omega)
              rw [v9]
              omega
