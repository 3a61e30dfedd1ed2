/-! ===== DisplayMap: what changed ===== -/
theorem fmr.c {w : mW} {b : Nat} {ac : Int} {O : Option mF} (h : fmr w b ac O) : ∃ (ic rc lc : Int) (B1 B2 B3 B4 B5 B6 B7 : List Int), rC w b ic rc lc B1 B2 B3 B4 B5 B6 B7 ∧ (O = none → ac = 0) ∧ ∀ G, O = some G → ac = 1 ∧ rc = ((scr G).2.length : Int) ∧ isScr w b (scr G) := by
  cases O with
  | none =>
    obtain ⟨h1, _, _, _, _, _, _, _, _, _, _, hr⟩ := h
    exact ⟨_, _, _, _, _, _, _, _, _, _, hr, fun _ => h1, fun G hG => by cases hG⟩
  | some G =>
    obtain ⟨h1, h2⟩ := h
    have h3 := h2
    obtain ⟨_, _, _, _, _, _, _, hr⟩ := h2
    refine ⟨_, _, _, _, _, _, _, _, _, _, hr, fun h9 => (by cases h9), fun G' hG => ?_⟩
    cases hG
    exact ⟨h1, rfl, h3⟩

set_option maxHeartbeats 1000000 in
set_option maxRecDepth 100000 in
theorem c_X4_rowsToCompare (l : Launch) {w : mW} {h : Nat} {D : mD} (hX : isX w h D) : Cp l yX4_rowsToCompare cX4_rowsToCompare 1 (some .int) 1 [vr h] w (fun z => z = (chM D : Int)) := by
  refine Cp.of (ml := [some (vr h)]) kyX4_rowsToCompare rfl (Nat.le_of_ble_eq_true rfl) rfl ?_
  intro t n C hQ
  obtain ⟨hW, a, b, ac, hab, x0, hT, hF, hU, hK, hA, hB, hR, hZ⟩ := hX
  have hfA : frR w w h (h + 115) := frR.rf
  obtain ⟨j1, j2, j3, j4, j5, j6, hs⟩ := id hF
  obtain ⟨k1, k2, k3, k4, k5, k6, k7, hc⟩ := id hA
  have u0 := hU.o0
  have k0 := hK.o0
  obtain ⟨t1, t2, ht⟩ := id hT
  obtain ⟨_, _, _, _, _, _, _, _, _, _, _, _, _, hr7⟩ := id hR
  obtain ⟨_, _, _, _, _, _, _, _, _, _, hr8⟩ := id hZ
  have hlen := isSh.len hF
  have hlS := isSc.len hA
  obtain ⟨ic, rc, lc, B1, B2, B3, B4, B5, B6, B7, hd5, hn5, hs5⟩ := hB.c
  have f0 := hd5.o
  refine x_aload_n C dX4_rowsToCompare_0 rfl ?_
  refine x_get C dX4_rowsToCompare_1 kfX4_261 (x0) rfl ?_
  refine x_if_eq (tgt := 27) C dX4_rowsToCompare_4 (by decide) (fun c4 => ?_) (fun c4 => ?_)
  · refine x_iconst C dX4_rowsToCompare_27 ⟨by decide, by decide⟩ ?_
    refine x_iret C hQ dX4_rowsToCompare_28 (Nat.le_refl _) (Nat.le_refl _) ?_
    exact ⟨rfl, rfl, _, rfl, by
      unfold chM
      cases hO : D.O with
      | none => rfl
      | some G => have := (hs5 G hO).1; omega⟩
  · refine x_aload_n C dX4_rowsToCompare_7 rfl ?_
    refine x_get C dX4_rowsToCompare_8 kfX4_38 (x0) rfl ?_
    refine x_get C dX4_rowsToCompare_11 kfX4_252 hc.o rfl ?_
    refine x_aload_n C dX4_rowsToCompare_14 rfl ?_
    refine x_get C dX4_rowsToCompare_15 kfX4_42 (x0) rfl ?_
    refine x_get C dX4_rowsToCompare_18 kfX4_252 (f0) rfl ?_
    refine x_max C dX4_rowsToCompare_21 gk_max_X4 gk_max1 gk_max2 gk_max3 (by decide) (Nat.zero_le _) (Nat.zero_le _) (Nat.le_of_ble_eq_true rfl) ?_
    refine x_goto (tgt := 28) C dX4_rowsToCompare_24 (by decide) ?_
    refine x_iret C hQ dX4_rowsToCompare_28 (Nat.le_refl _) (Nat.le_refl _) ?_
    exact ⟨rfl, rfl, _, rfl, by
      unfold chM
      cases hO : D.O with
      | none => have := hn5 hO; omega
      | some G =>
        have := (hs5 G hO).2.1
        simp only
        rw [this]
        omega⟩

theorem chP_row {D : mD} {G : mF} {i : Nat} {z r : Int} (hO : D.O = some G) (hr : r = i) (hq : (z = 0 ∨ z = 1) ∧ (z = 1 ↔ (0 ≤ r ∧ r < (scr D.F).2.length) ∧ (0 ≤ r ∧ r < (scr G).2.length) ∧ rowL r (scr D.F).1 = rowL r (scr G).1)) : chP D i = true ↔ z = 0 := by
  subst hr
  unfold chP chg
  rw [hO]
  simp only [Bool.not_eq_true', decide_eq_false_iff_not]
  obtain ⟨h1, h2⟩ := hq
  constructor
  · intro h3
    rcases h1 with h4 | h4
    · exact h4
    · obtain ⟨g1, g2, g3⟩ := h2.mp h4
      exact absurd ⟨by omega, by omega, g3⟩ h3
  · intro h3 h4
    have : z = 1 := h2.mpr ⟨⟨by omega, by omega⟩, ⟨by omega, by omega⟩, h4.2.2⟩
    omega

set_option maxHeartbeats 1000000 in
set_option maxRecDepth 100000 in
theorem lp_X4_firstChanged {t : TX} {l : Launch} {n0 : Nat} (C : Cb t l cX4_firstChanged RX4 3 (some .int) 2 0 0) {w : mW} {h : Nat} {D : mD} (hX : isX w h D) (hQ : RQ t 0 0 (fun r n' w' => n' = n0 ∧ w' = w ∧ ∃ z, r = some (vi z) ∧ z = fN (chP D) (chM D))) : ∀ (m i : Nat) (r : Int), r = i → i + m = chM D → fN (chP D) i = -4 → J t 0 0 7 [some (vr h), some (vi (chM D : Int)), some (vi r)] [] n0 w := by
  obtain ⟨hW, a, b, ac, hab, x0, hT, hF, hU, hK, hA, hB, hR, hZ⟩ := hX
  obtain ⟨ic, rc, lc, B1, B2, B3, B4, B5, B6, B7, hd5, hn5, hs5⟩ := hB.c
  have f0 := hd5.o
  obtain ⟨k1, k2, k3, k4, k5, k6, k7, hc⟩ := id hA
  have hm90 : chM D ≤ 90 := by
    have h1 := isSc.len hA
    unfold chM
    cases hO : D.O with
    | none => simp
    | some G =>
      have h2 := isSc.len (hs5 G hO).2.2
      simp only
      omega
  intro m
  induction m with
  | zero =>
    intro i r hr hm hN
    refine x_iload_n C dX4_firstChanged_7 rfl ?_
    refine x_iload_n C dX4_firstChanged_8 rfl ?_
    refine x_icmp_ge (tgt := 35) C dX4_firstChanged_9 (by decide) (fun c9 => ?_) (fun c9 => absurd c9 (by omega))
    refine x_bipush C dX4_firstChanged_35 ⟨by decide, by decide⟩ ?_
    refine x_iret C hQ dX4_firstChanged_37 (Nat.le_refl _) (Nat.le_refl _) ?_
    exact ⟨rfl, rfl, _, rfl, by rw [show chM D = i by omega]; exact hN.symm⟩
  | succ m ih =>
    intro i r hr hm hN
    obtain ⟨G, hO⟩ : ∃ G, D.O = some G := by
      cases hO : D.O with
      | none => unfold chM at hm; rw [hO] at hm; simp at hm
      | some G => exact ⟨G, rfl⟩
    have hG := (hs5 G hO).2.2
    refine x_iload_n C dX4_firstChanged_7 rfl ?_
    refine x_iload_n C dX4_firstChanged_8 rfl ?_
    refine x_icmp_ge (tgt := 35) C dX4_firstChanged_9 (by decide) (fun c9 => absurd c9 (by omega)) (fun c9 => ?_)
    refine x_aload_n C dX4_firstChanged_12 rfl ?_
    refine x_get C dX4_firstChanged_13 kfX4_38 (x0) rfl ?_
    refine x_aload_n C dX4_firstChanged_16 rfl ?_
    refine x_get C dX4_firstChanged_17 kfX4_42 (x0) rfl ?_
    refine x_iload_n C dX4_firstChanged_20 rfl ?_
    refine y_p2 C dX4_firstChanged_21 kyX1_isRowAsIn knX1_isRowAsIn kmX4_288 hc.o (c_X1_isRowAsIn l hA hG r) (by decide) (Nat.zero_le _) (Nat.zero_le _) (Nat.le_of_ble_eq_true rfl) (fun z21 q21 => ?_)
    have hP := chP_row (i := i) hO hr q21
    refine x_if_ne (tgt := 29) C dX4_firstChanged_24 (by decide) (fun c24 => ?_) (fun c24 => ?_)
    · refine s_inc3_2 C dX4_firstChanged_29 rfl (by first | (unfold iR; omega) | exact ⟨by omega, by omega⟩) ?_
      refine x_goto (tgt := 7) C dX4_firstChanged_32 (by decide) ?_
      refine ih (i + 1) (r + 1) (by omega) (by omega) ?_
      rw [fN, if_neg (fun h9 => c24 (hP.mp h9.2)), hN]
    · refine x_iload_n C dX4_firstChanged_27 rfl ?_
      refine x_iret C hQ dX4_firstChanged_28 (Nat.le_refl _) (Nat.le_refl _) ?_
      exact ⟨rfl, rfl, _, rfl, by
        have h8 : fN (chP D) (i + 1) = (i : Int) := by rw [fN, if_pos ⟨hN, hP.mpr (by omega)⟩]
        have h9 := fN_keep (chP D) (m := i + 1) (by rw [h8]; omega) m
        rw [h8, show i + 1 + m = chM D by omega] at h9
        omega⟩


set_option maxHeartbeats 1000000 in
set_option maxRecDepth 100000 in
theorem c_X4_firstChanged (l : Launch) {w : mW} {h : Nat} {D : mD} (hX : isX w h D) : Cp l yX4_firstChanged cX4_firstChanged 3 (some .int) 2 [vr h] w (fun z => z = fN (chP D) (chM D)) := by
  refine Cp.of (ml := [some (vr h), none, none]) kyX4_firstChanged rfl (Nat.le_of_ble_eq_true rfl) rfl ?_
  intro t n C hQ
  have hX2 := hX
  obtain ⟨hW, a, b, ac, hab, x0, hT, hF, hU, hK, hA, hB, hR, hZ⟩ := hX
  have hfA : frR w w h (h + 115) := frR.rf
  obtain ⟨j1, j2, j3, j4, j5, j6, hs⟩ := id hF
  obtain ⟨k1, k2, k3, k4, k5, k6, k7, hc⟩ := id hA
  have u0 := hU.o0
  have k0 := hK.o0
  obtain ⟨t1, t2, ht⟩ := id hT
  obtain ⟨_, _, _, _, _, _, _, _, _, _, _, _, _, hr7⟩ := id hR
  obtain ⟨_, _, _, _, _, _, _, _, _, _, hr8⟩ := id hZ
  have hlen := isSh.len hF
  have hlS := isSc.len hA
  refine x_aload_n C dX4_firstChanged_0 rfl ?_
  refine y_p0 C dX4_firstChanged_1 kyX4_rowsToCompare knX4_rowsToCompare kmX4_285 (x0) (c_X4_rowsToCompare l hX2) (by decide) (Nat.zero_le _) (Nat.zero_le _) (Nat.le_of_ble_eq_true rfl) (fun z1 q1 => ?_)
  subst q1
  refine s_ist3_1 C dX4_firstChanged_4 rfl ?_
  refine x_iconst C dX4_firstChanged_5 ⟨by decide, by decide⟩ ?_
  refine s_ist3_2 C dX4_firstChanged_6 rfl ?_
  exact lp_X4_firstChanged C hX2 hQ (chM D) 0 0 rfl (by omega) rfl

set_option maxHeartbeats 1000000 in
set_option maxRecDepth 100000 in
theorem lp_X4_countChanged {t : TX} {l : Launch} {n0 : Nat} (C : Cb t l cX4_countChanged RX4 4 (some .int) 2 0 0) {w : mW} {h : Nat} {D : mD} (hX : isX w h D) (hQ : RQ t 0 0 (fun r n' w' => n' = n0 ∧ w' = w ∧ ∃ z, r = some (vi z) ∧ z = cN (chP D) (chM D))) : ∀ (m i : Nat) (r f : Int), r = i → i + m = chM D → f = cN (chP D) i → J t 0 0 9 [some (vr h), some (vi (chM D : Int)), some (vi f), some (vi r)] [] n0 w := by
  obtain ⟨hW, a, b, ac, hab, x0, hT, hF, hU, hK, hA, hB, hR, hZ⟩ := hX
  obtain ⟨ic, rc, lc, B1, B2, B3, B4, B5, B6, B7, hd5, hn5, hs5⟩ := hB.c
  have f0 := hd5.o
  obtain ⟨k1, k2, k3, k4, k5, k6, k7, hc⟩ := id hA
  have hm90 : chM D ≤ 90 := by
    have h1 := isSc.len hA
    unfold chM
    cases hO : D.O with
    | none => simp
    | some G =>
      have h2 := isSc.len (hs5 G hO).2.2
      simp only
      omega
  intro m
  induction m with
  | zero =>
    intro i r f hr hm hN
    refine x_iload_n C dX4_countChanged_9 rfl ?_
    refine x_iload_n C dX4_countChanged_10 rfl ?_
    refine x_icmp_ge (tgt := 38) C dX4_countChanged_11 (by decide) (fun c11 => ?_) (fun c11 => absurd c11 (by omega))
    refine x_iload_n C dX4_countChanged_38 rfl ?_
    refine x_iret C hQ dX4_countChanged_39 (Nat.le_refl _) (Nat.le_refl _) ?_
    exact ⟨rfl, rfl, _, rfl, by rw [show chM D = i by omega]; exact hN⟩
  | succ m ih =>
    intro i r f hr hm hN
    have hcn := cN_nn (chP D) i
    obtain ⟨G, hO⟩ : ∃ G, D.O = some G := by
      cases hO : D.O with
      | none => unfold chM at hm; rw [hO] at hm; simp at hm
      | some G => exact ⟨G, rfl⟩
    have hG := (hs5 G hO).2.2
    refine x_iload_n C dX4_countChanged_9 rfl ?_
    refine x_iload_n C dX4_countChanged_10 rfl ?_
    refine x_icmp_ge (tgt := 38) C dX4_countChanged_11 (by decide) (fun c11 => absurd c11 (by omega)) (fun c11 => ?_)
    refine x_aload_n C dX4_countChanged_14 rfl ?_
    refine x_get C dX4_countChanged_15 kfX4_38 (x0) rfl ?_
    refine x_aload_n C dX4_countChanged_18 rfl ?_
    refine x_get C dX4_countChanged_19 kfX4_42 (x0) rfl ?_
    refine x_iload_n C dX4_countChanged_22 rfl ?_
    refine y_p2 C dX4_countChanged_23 kyX1_isRowAsIn knX1_isRowAsIn kmX4_288 hc.o (c_X1_isRowAsIn l hA hG r) (by decide) (Nat.zero_le _) (Nat.zero_le _) (Nat.le_of_ble_eq_true rfl) (fun z23 q23 => ?_)
    have hP := chP_row (i := i) hO hr q23
    refine x_if_ne (tgt := 32) C dX4_countChanged_26 (by decide) (fun c26 => ?_) (fun c26 => ?_)
    · refine s_inc4_3 C dX4_countChanged_32 rfl (by first | (unfold iR; omega) | exact ⟨by omega, by omega⟩) ?_
      refine x_goto (tgt := 9) C dX4_countChanged_35 (by decide) ?_
      refine ih (i + 1) _ _ (by omega) (by omega) ?_
      rw [cN, if_neg (fun h9 => c26 (hP.mp h9)), hN]
      omega
    · refine s_inc4_2 C dX4_countChanged_29 rfl (by first | (unfold iR; omega) | exact ⟨by omega, by omega⟩) ?_
      refine s_inc4_3 C dX4_countChanged_32 rfl (by first | (unfold iR; omega) | exact ⟨by omega, by omega⟩) ?_
      refine x_goto (tgt := 9) C dX4_countChanged_35 (by decide) ?_
      refine ih (i + 1) _ _ (by omega) (by omega) ?_
      rw [cN, if_pos (hP.mpr (by omega)), hN]


set_option maxHeartbeats 1000000 in
set_option maxRecDepth 100000 in
theorem c_X4_countChanged (l : Launch) {w : mW} {h : Nat} {D : mD} (hX : isX w h D) : Cp l yX4_countChanged cX4_countChanged 4 (some .int) 2 [vr h] w (fun z => z = cN (chP D) (chM D)) := by
  refine Cp.of (ml := [some (vr h), none, none, none]) kyX4_countChanged rfl (Nat.le_of_ble_eq_true rfl) rfl ?_
  intro t n C hQ
  have hX2 := hX
  obtain ⟨hW, a, b, ac, hab, x0, hT, hF, hU, hK, hA, hB, hR, hZ⟩ := hX
  have hfA : frR w w h (h + 115) := frR.rf
  obtain ⟨j1, j2, j3, j4, j5, j6, hs⟩ := id hF
  obtain ⟨k1, k2, k3, k4, k5, k6, k7, hc⟩ := id hA
  have u0 := hU.o0
  have k0 := hK.o0
  obtain ⟨t1, t2, ht⟩ := id hT
  obtain ⟨_, _, _, _, _, _, _, _, _, _, _, _, _, hr7⟩ := id hR
  obtain ⟨_, _, _, _, _, _, _, _, _, _, hr8⟩ := id hZ
  have hlen := isSh.len hF
  have hlS := isSc.len hA
  refine x_aload_n C dX4_countChanged_0 rfl ?_
  refine y_p0 C dX4_countChanged_1 kyX4_rowsToCompare knX4_rowsToCompare kmX4_285 (x0) (c_X4_rowsToCompare l hX2) (by decide) (Nat.zero_le _) (Nat.zero_le _) (Nat.le_of_ble_eq_true rfl) (fun z1 q1 => ?_)
  subst q1
  refine s_ist4_1 C dX4_countChanged_4 rfl ?_
  refine x_iconst C dX4_countChanged_5 ⟨by decide, by decide⟩ ?_
  refine s_ist4_2 C dX4_countChanged_6 rfl ?_
  refine x_iconst C dX4_countChanged_7 ⟨by decide, by decide⟩ ?_
  refine s_ist4_3 C dX4_countChanged_8 rfl ?_
  exact lp_X4_countChanged C hX2 hQ (chM D) 0 0 0 rfl (by omega) rfl

set_option maxHeartbeats 1000000 in
set_option maxRecDepth 100000 in
theorem c_X4_changed (l : Launch) {w : mW} {h : Nat} {D : mD} (hX : isX w h D) (p : Int) : Cp l yX4_changed cX4_changed 2 (some .int) 3 [vr h, vi p] w (fun z => z = q_changed D p) := by
  refine Cp.of (ml := [some (vr h), some (vi p)]) kyX4_changed rfl (Nat.le_of_ble_eq_true rfl) rfl ?_
  intro t n C hQ
  have hX2 := hX
  obtain ⟨hW, a, b, ac, hab, x0, hT, hF, hU, hK, hA, hB, hR, hZ⟩ := hX
  have hfA : frR w w h (h + 115) := frR.rf
  obtain ⟨j1, j2, j3, j4, j5, j6, hs⟩ := id hF
  obtain ⟨k1, k2, k3, k4, k5, k6, k7, hc⟩ := id hA
  have u0 := hU.o0
  have k0 := hK.o0
  obtain ⟨t1, t2, ht⟩ := id hT
  obtain ⟨_, _, _, _, _, _, _, _, _, _, _, _, _, hr7⟩ := id hR
  obtain ⟨_, _, _, _, _, _, _, _, _, _, hr8⟩ := id hZ
  have hlen := isSh.len hF
  have hlS := isSc.len hA
  refine x_iload_n C dX4_changed_0 rfl ?_
  refine sw_X4_changed_1 C (fun c1 => ?_) (fun c1 => ?_) (fun c1 => ?_)
  · refine x_aload_n C dX4_changed_28 rfl ?_
    refine y_p0 C dX4_changed_29 kyX4_firstChanged knX4_firstChanged kmX4_226 (x0) (c_X4_firstChanged l hX2) (by decide) (Nat.zero_le _) (Nat.zero_le _) (Nat.le_of_ble_eq_true rfl) (fun z29 q29 => ?_)
    refine x_iret C hQ dX4_changed_32 (Nat.le_refl _) (Nat.le_refl _) ?_
    exact ⟨rfl, rfl, _, rfl, by rw [q29, q_changed, if_pos c1]⟩
  · refine x_aload_n C dX4_changed_33 rfl ?_
    refine y_p0 C dX4_changed_34 kyX4_countChanged knX4_countChanged kmX4_229 (x0) (c_X4_countChanged l hX2) (by decide) (Nat.zero_le _) (Nat.zero_le _) (Nat.le_of_ble_eq_true rfl) (fun z34 q34 => ?_)
    refine x_iret C hQ dX4_changed_37 (Nat.le_refl _) (Nat.le_refl _) ?_
    exact ⟨rfl, rfl, _, rfl, by rw [q34, q_changed, if_neg (by omega), if_pos c1]⟩
  · refine x_iconst C dX4_changed_38 ⟨by decide, by decide⟩ ?_
    refine x_iret C hQ dX4_changed_39 (Nat.le_refl _) (Nat.le_refl _) ?_
    exact ⟨rfl, rfl, _, rfl, by rw [q_changed, if_neg (by omega), if_neg (by omega)]⟩
