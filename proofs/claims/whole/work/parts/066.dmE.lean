/-! ===== DisplayMap: what would be ===== -/
set_option maxHeartbeats 1000000 in
set_option maxRecDepth 100000 in
theorem lp_X4_fit {t : TX} {l : Launch} {n0 : Nat} (C : Cb t l cX4_fit RX4 3 (some .int) 5 0 0) {w0 : mW} {h : Nat} {D : mD} {p : Int} (hp : 1 ≤ p ∧ p ≤ 40) (hQ : RQ t 0 0 (fun rr n' w' => n' = n0 ∧ ∃ z, rr = some (vi z) ∧ z = q_fit D.F p ∧ isX w' h D ∧ frR w0 w' h (h + 115))) : ∀ (m i : Nat) (v u : Int) (w : mW), v = 4 + (i : Int) → i + m = 17 → fN (fitP D.F p) i = -4 → isX w h D → isF w (h + 101) (widW D.F u) → frR w0 w h (h + 115) → J t 0 0 26 [some (vr h), some (vi p), some (vi v)] [] n0 w := by
  intro m
  induction m with
  | zero =>
    intro i v u w hv hm hN hX hG hfA
    obtain ⟨hW, a, b, ac, hab, x0, hT, hF, hU, hK, hA, hB, hR, hZ⟩ := hX
    obtain ⟨j1, j2, j3, j4, j5, j6, hs⟩ := id hF
    obtain ⟨k1, k2, k3, k4, k5, k6, k7, hc⟩ := id hA
    obtain ⟨_, _, _, _, _, _, _, _, _, _, _, _, _, hr7⟩ := id hR
    obtain ⟨_, _, _, _, _, _, _, _, _, _, hr8⟩ := id hZ
    have hlen := isSh.len hF
    have hlS := isSc.len hA
    have hwT := (wfF_iff D.F).mp hW.2.1
    have hsm := hW.2.1.sm
    refine x_iload_n C dX4_fit_26 rfl ?_
    refine x_bipush C dX4_fit_27 ⟨by decide, by decide⟩ ?_
    refine x_icmp_gt (tgt := 63) C dX4_fit_29 (by decide) (fun c29 => ?_) (fun c29 => absurd c29 (by omega))
    refine x_bipush C dX4_fit_63 ⟨by decide, by decide⟩ ?_
    refine x_iret C hQ dX4_fit_65 (Nat.le_refl _) (Nat.le_refl _) ?_
    exact ⟨rfl, _, rfl, by rw [q_fit, if_neg (by omega), if_pos (by rw [← hN, show i = 17 by omega])], ⟨hW, a, b, ac, hab, x0, hT, hF, hU, hK, hA, hB, hR, hZ⟩, hfA⟩
  | succ m ih =>
    intro i v u w hv hm hN hX hG hfA
    have hX2 := hX
    obtain ⟨hW, a, b, ac, hab, x0, hT, hF, hU, hK, hA, hB, hR, hZ⟩ := hX
    obtain ⟨j1, j2, j3, j4, j5, j6, hs⟩ := id hF
    obtain ⟨k1, k2, k3, k4, k5, k6, k7, hc⟩ := id hA
    obtain ⟨_, _, _, _, _, _, _, _, _, _, _, _, _, hr7⟩ := id hR
    obtain ⟨_, _, _, _, _, _, _, _, _, _, hr8⟩ := id hZ
    have hlen := isSh.len hF
    have hlS := isSc.len hA
    have hwT := (wfF_iff D.F).mp hW.2.1
    have hsm := hW.2.1.sm
    obtain ⟨g1, g2, g3, g4, g5, g6, hr7⟩ := id hG
    refine x_iload_n C dX4_fit_26 rfl ?_
    refine x_bipush C dX4_fit_27 ⟨by decide, by decide⟩ ?_
    refine x_icmp_gt (tgt := 63) C dX4_fit_29 (by decide) (fun c29 => absurd c29 (by omega)) (fun c29 => ?_)
    refine x_aload_n C dX4_fit_32 rfl ?_
    refine x_get C dX4_fit_33 kfX4_45 (x0) rfl ?_
    refine x_iload_n C dX4_fit_36 rfl ?_
    have hf7 : frR w w (h + 101) (h + 101 + 6) := frR.rf
    refine x_put C dX4_fit_37 kfX4_172 kw_2_10 rfl rfl hr7.o (Nat.le_of_ble_eq_true rfl) ?_
    refine ab_S_wi hr7 hf7 (fun w hr7 hf7 => ?_)
    have hG : isF w (h + 101) (widW D.F v) := ⟨g1, g2, g3, g4, g5, g6, hr7⟩
    have x0 := (hf7 _ (by omega)).trans x0
    have hT := hT.fr hf7 (by omega)
    have hF := hF.fr hf7 (by omega)
    have hU := hU.fr hf7 (by omega)
    have hK := hK.fr hf7 (by omega)
    have hA := hA.fr hf7 (by omega)
    have hB := hB.fr hf7 (by omega)
    have hZ := hZ.fr hf7 (by omega)
    have hfA := hfA.tr (hf7.wd (by omega) (by omega))
    have hR := hG.any
    obtain ⟨j1, j2, j3, j4, j5, j6, hs⟩ := id hF
    obtain ⟨k1, k2, k3, k4, k5, k6, k7, hc⟩ := id hA
    obtain ⟨_, _, _, _, _, _, _, _, _, _, hr8⟩ := id hZ
    have hwg : wfF (widW D.F v) := (wfF_iff _).mpr ⟨hwT.1, hwT.2.1, (by show 4 ≤ v ∧ v ≤ 20; omega), hwT.2.2.2⟩
    refine x_aload_n C dX4_fit_40 rfl ?_
    refine x_get C dX4_fit_41 kfX4_48 (x0) rfl ?_
    refine x_aload_n C dX4_fit_44 rfl ?_
    refine x_get C dX4_fit_45 kfX4_45 (x0) rfl ?_
    refine y_i1 C dX4_fit_48 kyX1_draw knX1_draw kmX4_74 hr8.o (c_X1_draw l hr8 hG (by omega) (hwg)) (by decide) (Nat.zero_le _) (Nat.zero_le _) (Nat.le_of_ble_eq_true rfl) (fun z48 w48 q48 => ?_)
    obtain ⟨q48a, hZ9, hf9⟩ := q48
    have q48a : z48 = rowsF (widW D.F v) := q48a
    have hZ9 : isScr w48 (h + 108) (scr (widW D.F v)) := hZ9
    have hZ := hZ9.any
    have hG := hG.fr hf9 (by omega)
    have x0 := (hf9 _ (by omega)).trans x0
    have hT := hT.fr hf9 (by omega)
    have hF := hF.fr hf9 (by omega)
    have hU := hU.fr hf9 (by omega)
    have hK := hK.fr hf9 (by omega)
    have hA := hA.fr hf9 (by omega)
    have hB := hB.fr hf9 (by omega)
    have hR := hR.fr hf9 (by omega)
    have hfA := hfA.tr (hf9.wd (by omega) (by omega))
    obtain ⟨g1, g2, g3, g4, g5, g6, hr7⟩ := id hG
    obtain ⟨j1, j2, j3, j4, j5, j6, hs⟩ := id hF
    obtain ⟨k1, k2, k3, k4, k5, k6, k7, hc⟩ := id hA
    obtain ⟨_, _, _, _, _, _, _, _, _, _, hr8⟩ := id hZ
    refine x_iload_n C dX4_fit_51 rfl ?_
    refine x_icmp_gt (tgt := 57) C dX4_fit_52 (by decide) (fun c52 => ?_) (fun c52 => ?_)
    · refine s_inc3_2 C dX4_fit_57 rfl (by first | (unfold iR; omega) | exact ⟨by omega, by omega⟩) ?_
      refine x_goto (tgt := 26) C dX4_fit_60 (by decide) ?_
      refine ih (i + 1) (v + 1) v _ (by omega) (by omega) ?_ ⟨hW, a, b, ac, hab, x0, hT, hF, hU, hK, hA, hB, hR, hZ⟩ hG hfA
      rw [fN, if_neg (fun h9 => ?_), hN]
      have h10 := h9.2
      unfold fitP at h10
      rw [← hv] at h10
      have := of_decide_eq_true h10
      omega
    · refine x_iload_n C dX4_fit_55 rfl ?_
      refine x_iret C hQ dX4_fit_56 (Nat.le_refl _) (Nat.le_refl _) ?_
      exact ⟨rfl, _, rfl, by
        have h8 : fN (fitP D.F p) (i + 1) = (i : Int) := by rw [fN, if_pos ⟨hN, by unfold fitP; rw [← hv]; exact decide_eq_true (by omega)⟩]
        have h9 := fN_keep (fitP D.F p) (m := i + 1) (by rw [h8]; omega) m
        rw [h8, show i + 1 + m = 17 by omega] at h9
        rw [q_fit, if_neg (by omega), h9, if_neg (by omega)]
        omega, ⟨hW, a, b, ac, hab, x0, hT, hF, hU, hK, hA, hB, hR, hZ⟩, hfA⟩


set_option maxHeartbeats 1000000 in
set_option maxRecDepth 100000 in
theorem c_X4_fit (l : Launch) {w : mW} {h : Nat} {D : mD} (hX : isX w h D) (p : Int) : Ci l yX4_fit cX4_fit 3 (some .int) 5 [vr h, vi p] w (fun z w' => z = q_fit D.F p ∧ isX w' h D ∧ frR w w' h (h + 115)) := by
  refine Ci.of (ml := [some (vr h), some (vi p), none]) kyX4_fit rfl (Nat.le_of_ble_eq_true rfl) rfl ?_
  intro t n C hQ
  have hX2 := hX
  obtain ⟨hW, a, b, ac, hab, x0, hT, hF, hU, hK, hA, hB, hR, hZ⟩ := hX
  have hfA : frR w w h (h + 115) := frR.rf
  obtain ⟨j1, j2, j3, j4, j5, j6, hs⟩ := id hF
  obtain ⟨k1, k2, k3, k4, k5, k6, k7, hc⟩ := id hA
  have u0 := hU.o0
  have k0 := hK.o0
  obtain ⟨t1, t2, ht⟩ := id hT
  obtain ⟨_, _, _, _, _, _, _, _, _, _, _, _, _, hr7⟩ := id hR
  obtain ⟨_, _, _, _, _, _, _, _, _, _, hr8⟩ := id hZ
  have hlen := isSh.len hF
  have hlS := isSc.len hA
  have hwT := (wfF_iff D.F).mp hW.2.1
  have hsm := hW.2.1.sm
  refine x_iload_n C dX4_fit_0 rfl ?_
  refine x_iconst C dX4_fit_1 ⟨by decide, by decide⟩ ?_
  refine x_icmp_lt (tgt := 11) C dX4_fit_2 (by decide) (fun c2 => ?_) (fun c2 => ?_)
  · refine x_iconst C dX4_fit_11 ⟨by decide, by decide⟩ ?_
    refine x_iret C hQ dX4_fit_12 (Nat.le_refl _) (Nat.le_refl _) ?_
    exact ⟨rfl, _, rfl, by rw [q_fit, if_pos (by omega)], hX2, frR.rf⟩
  · refine x_iload_n C dX4_fit_5 rfl ?_
    refine x_bipush C dX4_fit_6 ⟨by decide, by decide⟩ ?_
    refine x_icmp_le (tgt := 13) C dX4_fit_8 (by decide) (fun c8 => ?_) (fun c8 => ?_)
    · refine x_aload_n C dX4_fit_13 rfl ?_
      refine x_get C dX4_fit_14 kfX4_45 (x0) rfl ?_
      refine x_aload_n C dX4_fit_17 rfl ?_
      refine x_get C dX4_fit_18 kfX4_19 (x0) rfl ?_
      refine y_v1 C dX4_fit_21 kyX2_copyFrom knX2_copyFrom kmX4_232 hr7.o (c_X2_copyFrom l hr7 hs (by omega)) (by decide) (Nat.zero_le _) (Nat.zero_le _) (Nat.le_of_ble_eq_true rfl) (fun w21 q21 => ?_)
      obtain ⟨hr9, hf9⟩ := q21
      have hG : isF w21 (h + 101) D.F := ⟨_, _, _, _, _, _, hr9⟩
      have x0 := (hf9 _ (by omega)).trans x0
      have hT := hT.fr hf9 (by omega)
      have hF := hF.fr hf9 (by omega)
      have hU := hU.fr hf9 (by omega)
      have hK := hK.fr hf9 (by omega)
      have hA := hA.fr hf9 (by omega)
      have hB := hB.fr hf9 (by omega)
      have hZ := hZ.fr hf9 (by omega)
      have hfA := hfA.tr (hf9.wd (by omega) (by omega))
      have hR := hG.any
      obtain ⟨j1, j2, j3, j4, j5, j6, hs⟩ := id hF
      obtain ⟨k1, k2, k3, k4, k5, k6, k7, hc⟩ := id hA
      obtain ⟨_, _, _, _, _, _, _, _, _, _, hr8⟩ := id hZ
      obtain ⟨g1, g2, g3, g4, g5, g6, hr7⟩ := id hG
      refine x_iconst C dX4_fit_24 ⟨by decide, by decide⟩ ?_
      refine s_ist3_2 C dX4_fit_25 rfl ?_
      exact lp_X4_fit C (by omega) hQ 17 0 4 D.F.2.2.1 _ rfl rfl rfl ⟨hW, a, b, ac, hab, x0, hT, hF, hU, hK, hA, hB, hR, hZ⟩ hG hfA
    · refine x_iconst C dX4_fit_11 ⟨by decide, by decide⟩ ?_
      refine x_iret C hQ dX4_fit_12 (Nat.le_refl _) (Nat.le_refl _) ?_
      exact ⟨rfl, _, rfl, by rw [q_fit, if_pos (by omega)], hX2, frR.rf⟩

set_option maxHeartbeats 1000000 in
set_option maxRecDepth 100000 in
theorem lp_X4_saves {t : TX} {l : Launch} {n0 : Nat} (C : Cb t l cX4_saves RX4 6 (some .int) 5 0 0) {w0 : mW} {h : Nat} {D : mD} {p : Int} (hp : p = 0 ∨ p = 1) (hQ : RQ t 0 0 (fun rr n' w' => n' = n0 ∧ ∃ z, rr = some (vi z) ∧ z = q_saves D.F p ∧ isX w' h D ∧ frR w0 w' h (h + 115))) : ∀ (m i : Nat) (be fe f : Int) (x5 : Option mV) (w : mW), f = (i : Int) → i + m = D.F.1.2.1.length → (be, fe) = savN D.F i → isX w h D → frR w0 w h (h + 115) → J t 0 0 20 [some (vr h), some (vi p), some (vi be), some (vi fe), some (vi f), x5] [] n0 w := by
  intro m
  induction m with
  | zero =>
    intro i be fe f x5 w hv hm hN hX hfA
    obtain ⟨hW, a, b, ac, hab, x0, hT, hF, hU, hK, hA, hB, hR, hZ⟩ := hX
    obtain ⟨j1, j2, j3, j4, j5, j6, hs⟩ := id hF
    obtain ⟨k1, k2, k3, k4, k5, k6, k7, hc⟩ := id hA
    obtain ⟨_, _, _, _, _, _, _, _, _, _, _, _, _, hr7⟩ := id hR
    obtain ⟨_, _, _, _, _, _, _, _, _, _, hr8⟩ := id hZ
    have hlen := isSh.len hF
    have hlS := isSc.len hA
    have hwT := (wfF_iff D.F).mp hW.2.1
    have hsm := hW.2.1.sm
    refine x_iload C dX4_saves_20 rfl ?_
    refine x_aload_n C dX4_saves_22 rfl ?_
    refine x_get C dX4_saves_23 kfX4_19 (x0) rfl ?_
    refine x_get C dX4_saves_26 kfX4_153 hs.o rfl ?_
    refine x_icmp_ge (tgt := 105) C dX4_saves_29 (by decide) (fun c29 => ?_) (fun c29 => absurd c29 (by omega))
    refine x_iload_n C dX4_saves_105 rfl ?_
    refine x_if_ne (tgt := 113) C dX4_saves_106 (by decide) (fun c106 => ?_) (fun c106 => ?_)
    · refine x_iload_n C dX4_saves_113 rfl ?_
      refine x_iret C hQ dX4_saves_114 (Nat.le_refl _) (Nat.le_refl _) ?_
      exact ⟨rfl, _, rfl, by rw [q_saves, if_neg (by omega), if_pos (by omega), show D.F.1.2.1.length = i by omega, ← hN], ⟨hW, a, b, ac, hab, x0, hT, hF, hU, hK, hA, hB, hR, hZ⟩, hfA⟩
    · refine x_iload_n C dX4_saves_109 rfl ?_
      refine x_goto (tgt := 114) C dX4_saves_110 (by decide) ?_
      refine x_iret C hQ dX4_saves_114 (Nat.le_refl _) (Nat.le_refl _) ?_
      exact ⟨rfl, _, rfl, by rw [q_saves, if_pos (by omega), show D.F.1.2.1.length = i by omega, ← hN], ⟨hW, a, b, ac, hab, x0, hT, hF, hU, hK, hA, hB, hR, hZ⟩, hfA⟩
  | succ m ih =>
    intro i be fe f x5 w hv hm hN hX hfA
    have hX2 := hX
    obtain ⟨hW, a, b, ac, hab, x0, hT, hF, hU, hK, hA, hB, hR, hZ⟩ := hX
    obtain ⟨j1, j2, j3, j4, j5, j6, hs⟩ := id hF
    obtain ⟨k1, k2, k3, k4, k5, k6, k7, hc⟩ := id hA
    obtain ⟨_, _, _, _, _, _, _, _, _, _, _, _, _, hr7⟩ := id hR
    obtain ⟨_, _, _, _, _, _, _, _, _, _, hr8⟩ := id hZ
    have hlen := isSh.len hF
    have hlS := isSc.len hA
    have hwT := (wfF_iff D.F).mp hW.2.1
    have hsm := hW.2.1.sm
    have e41 : (D.F.1.2.1.map (fun q => q.2.2) ++ j4).getD f.toNat 0 = (D.F.1.2.1.map (fun q => q.2.2)).getD i 0 := by rw [gd_app_l (by rw [List.length_map]; omega), hv, Int.toNat_natCast]
    have hN1 : be = (savN D.F i).1 := by rw [← hN]
    have hN2 : fe = (savN D.F i).2 := by rw [← hN]
    refine x_iload C dX4_saves_20 rfl ?_
    refine x_aload_n C dX4_saves_22 rfl ?_
    refine x_get C dX4_saves_23 kfX4_19 (x0) rfl ?_
    refine x_get C dX4_saves_26 kfX4_153 hs.o rfl ?_
    refine x_icmp_ge (tgt := 105) C dX4_saves_29 (by decide) (fun c29 => absurd c29 (by omega)) (fun c29 => ?_)
    refine x_aload_n C dX4_saves_32 rfl ?_
    refine x_get C dX4_saves_33 kfX4_19 (x0) rfl ?_
    refine x_get C dX4_saves_36 kfX4_104 hs.o rfl ?_
    refine x_iload C dX4_saves_39 rfl ?_
    refine x_zaldB C dX4_saves_41 hs.a4 (by omega) (by rw [hs.l4]; omega) (fun b41 => ?_)
    refine x_if_eq (tgt := 48) C dX4_saves_42 (by decide) (fun c42 => ?_) (fun c42 => ?_)
    · refine x_aload_n C dX4_saves_48 rfl ?_
      refine x_get C dX4_saves_49 kfX4_45 (x0) rfl ?_
      refine x_aload_n C dX4_saves_52 rfl ?_
      refine x_get C dX4_saves_53 kfX4_19 (x0) rfl ?_
      refine y_v1 C dX4_saves_56 kyX2_copyFrom knX2_copyFrom kmX4_232 hr7.o (c_X2_copyFrom l hr7 hs (by omega)) (by decide) (Nat.zero_le _) (Nat.zero_le _) (Nat.le_of_ble_eq_true rfl) (fun w56 q56 => ?_)
      obtain ⟨hr9, hf9⟩ := q56
      have hG : isF w56 (h + 101) D.F := ⟨_, _, _, _, _, _, hr9⟩
      have x0 := (hf9 _ (by omega)).trans x0
      have hT := hT.fr hf9 (by omega)
      have hF := hF.fr hf9 (by omega)
      have hU := hU.fr hf9 (by omega)
      have hK := hK.fr hf9 (by omega)
      have hA := hA.fr hf9 (by omega)
      have hB := hB.fr hf9 (by omega)
      have hZ := hZ.fr hf9 (by omega)
      have hfA := hfA.tr (hf9.wd (by omega) (by omega))
      have hR := hG.any
      obtain ⟨j1, j2, j3, j4, j5, j6, hs⟩ := id hF
      obtain ⟨k1, k2, k3, k4, k5, k6, k7, hc⟩ := id hA
      obtain ⟨_, _, _, _, _, _, _, _, _, _, hr8⟩ := id hZ
      obtain ⟨g1, g2, g3, g4, g5, g6, hr7⟩ := id hG
      refine x_aload_n C dX4_saves_59 rfl ?_
      refine x_get C dX4_saves_60 kfX4_45 (x0) rfl ?_
      refine x_iload C dX4_saves_63 rfl ?_
      refine y_v1 C dX4_saves_65 kyX2_turn knX2_turn kmX4_140 hr7.o (c_X2_turn l hG f) (by decide) (Nat.zero_le _) (Nat.zero_le _) (Nat.le_of_ble_eq_true rfl) (fun w65 q65 => ?_)
      obtain ⟨hG, hf9⟩ := q65
      have hG : isF w65 (h + 101) (turF D.F f) := hG
      have x0 := (hf9 _ (by omega)).trans x0
      have hT := hT.fr hf9 (by omega)
      have hF := hF.fr hf9 (by omega)
      have hU := hU.fr hf9 (by omega)
      have hK := hK.fr hf9 (by omega)
      have hA := hA.fr hf9 (by omega)
      have hB := hB.fr hf9 (by omega)
      have hZ := hZ.fr hf9 (by omega)
      have hfA := hfA.tr (hf9.wd (by omega) (by omega))
      have hR := hG.any
      obtain ⟨j1, j2, j3, j4, j5, j6, hs⟩ := id hF
      obtain ⟨k1, k2, k3, k4, k5, k6, k7, hc⟩ := id hA
      obtain ⟨_, _, _, _, _, _, _, _, _, _, hr8⟩ := id hZ
      obtain ⟨g1, g2, g3, g4, g5, g6, hr7⟩ := id hG
      have hwg : wfF (turF D.F f) := (wfF_iff _).mpr ⟨wf_turn hwT.1 f, hwT.2⟩
      refine x_aload_n C dX4_saves_68 rfl ?_
      refine x_get C dX4_saves_69 kfX4_48 (x0) rfl ?_
      refine x_aload_n C dX4_saves_72 rfl ?_
      refine x_get C dX4_saves_73 kfX4_45 (x0) rfl ?_
      refine y_i1 C dX4_saves_76 kyX1_draw knX1_draw kmX4_74 hr8.o (c_X1_draw l hr8 hG (by omega) (hwg)) (by decide) (Nat.zero_le _) (Nat.zero_le _) (Nat.le_of_ble_eq_true rfl) (fun z76 w76 q76 => ?_)
      obtain ⟨q76a, hZ9, hf9⟩ := q76
      have q76a : z76 = rowsF (turF D.F f) := q76a
      have hZ9 : isScr w76 (h + 108) (scr (turF D.F f)) := hZ9
      have hZ := hZ9.any
      have hG := hG.fr hf9 (by omega)
      have x0 := (hf9 _ (by omega)).trans x0
      have hT := hT.fr hf9 (by omega)
      have hF := hF.fr hf9 (by omega)
      have hU := hU.fr hf9 (by omega)
      have hK := hK.fr hf9 (by omega)
      have hA := hA.fr hf9 (by omega)
      have hB := hB.fr hf9 (by omega)
      have hR := hR.fr hf9 (by omega)
      have hfA := hfA.tr (hf9.wd (by omega) (by omega))
      obtain ⟨g1, g2, g3, g4, g5, g6, hr7⟩ := id hG
      obtain ⟨j1, j2, j3, j4, j5, j6, hs⟩ := id hF
      obtain ⟨k1, k2, k3, k4, k5, k6, k7, hc⟩ := id hA
      obtain ⟨_, _, _, _, _, _, _, _, _, _, hr8⟩ := id hZ
      refine s_is6_5 C dX4_saves_79 rfl ?_
      refine x_iload_n C dX4_saves_81 rfl ?_
      refine x_bipush C dX4_saves_82 ⟨by decide, by decide⟩ ?_
      refine x_icmp_eq (tgt := 93) C dX4_saves_84 (by decide) (fun c84 => ?_) (fun c84 => ?_)
      · refine x_iload C dX4_saves_93 rfl ?_
        refine s_ist6_2 C dX4_saves_95 rfl ?_
        refine x_iload C dX4_saves_96 rfl ?_
        refine s_ist6_3 C dX4_saves_98 rfl ?_
        refine s_inc6_4 C dX4_saves_99 rfl (by first | (unfold iR; omega) | exact ⟨by omega, by omega⟩) ?_
        refine x_goto (tgt := 20) C dX4_saves_102 (by decide) ?_
        exact ih (i + 1) _ _ _ _ _ (by omega) (by omega) (by rw [savN, if_neg (by omega), if_pos (by rw [hv] at q76a; omega), q76a, hv]) ⟨hW, a, b, ac, hab, x0, hT, hF, hU, hK, hA, hB, hR, hZ⟩ hfA
      · skip
        refine x_iload C dX4_saves_87 rfl ?_
        refine x_iload_n C dX4_saves_89 rfl ?_
        refine x_icmp_ge (tgt := 99) C dX4_saves_90 (by decide) (fun c90 => ?_) (fun c90 => ?_)
        · refine s_inc6_4 C dX4_saves_99 rfl (by first | (unfold iR; omega) | exact ⟨by omega, by omega⟩) ?_
          refine x_goto (tgt := 20) C dX4_saves_102 (by decide) ?_
          exact ih (i + 1) _ _ _ _ _ (by omega) (by omega) (by rw [savN, if_neg (by omega), if_neg (by rw [hv] at q76a; omega)]; exact hN) ⟨hW, a, b, ac, hab, x0, hT, hF, hU, hK, hA, hB, hR, hZ⟩ hfA
        · refine x_iload C dX4_saves_93 rfl ?_
          refine s_ist6_2 C dX4_saves_95 rfl ?_
          refine x_iload C dX4_saves_96 rfl ?_
          refine s_ist6_3 C dX4_saves_98 rfl ?_
          refine s_inc6_4 C dX4_saves_99 rfl (by first | (unfold iR; omega) | exact ⟨by omega, by omega⟩) ?_
          refine x_goto (tgt := 20) C dX4_saves_102 (by decide) ?_
          exact ih (i + 1) _ _ _ _ _ (by omega) (by omega) (by rw [savN, if_neg (by omega), if_pos (by rw [hv] at q76a; omega), q76a, hv]) ⟨hW, a, b, ac, hab, x0, hT, hF, hU, hK, hA, hB, hR, hZ⟩ hfA
    · refine x_goto (tgt := 99) C dX4_saves_45 (by decide) ?_
      refine s_inc6_4 C dX4_saves_99 rfl (by first | (unfold iR; omega) | exact ⟨by omega, by omega⟩) ?_
      refine x_goto (tgt := 20) C dX4_saves_102 (by decide) ?_
      exact ih (i + 1) _ _ _ _ _ (by omega) (by omega) (by rw [savN, if_pos (by omega)]; exact hN) ⟨hW, a, b, ac, hab, x0, hT, hF, hU, hK, hA, hB, hR, hZ⟩ hfA


set_option maxHeartbeats 1000000 in
set_option maxRecDepth 100000 in
theorem c_X4_saves (l : Launch) {w : mW} {h : Nat} {D : mD} (hX : isX w h D) (p : Int) : Ci l yX4_saves cX4_saves 6 (some .int) 5 [vr h, vi p] w (fun z w' => z = q_saves D.F p ∧ isX w' h D ∧ frR w w' h (h + 115)) := by
  refine Ci.of (ml := [some (vr h), some (vi p), none, none, none, none]) kyX4_saves rfl (Nat.le_of_ble_eq_true rfl) rfl ?_
  intro t n C hQ
  have hX2 := hX
  obtain ⟨hW, a, b, ac, hab, x0, hT, hF, hU, hK, hA, hB, hR, hZ⟩ := hX
  have hfA : frR w w h (h + 115) := frR.rf
  obtain ⟨j1, j2, j3, j4, j5, j6, hs⟩ := id hF
  obtain ⟨k1, k2, k3, k4, k5, k6, k7, hc⟩ := id hA
  have u0 := hU.o0
  have k0 := hK.o0
  obtain ⟨t1, t2, ht⟩ := id hT
  obtain ⟨_, _, _, _, _, _, _, _, _, _, _, _, _, hr7⟩ := id hR
  obtain ⟨_, _, _, _, _, _, _, _, _, _, hr8⟩ := id hZ
  have hlen := isSh.len hF
  have hlS := isSc.len hA
  have hwT := (wfF_iff D.F).mp hW.2.1
  have hsm := hW.2.1.sm
  refine x_iload_n C dX4_saves_0 rfl ?_
  refine x_if_eq (tgt := 11) C dX4_saves_1 (by decide) (fun c1 => ?_) (fun c1 => ?_)
  · refine x_bipush C dX4_saves_11 ⟨by decide, by decide⟩ ?_
    refine s_ist6_2 C dX4_saves_13 rfl ?_
    refine x_bipush C dX4_saves_14 ⟨by decide, by decide⟩ ?_
    refine s_ist6_3 C dX4_saves_16 rfl ?_
    refine x_iconst C dX4_saves_17 ⟨by decide, by decide⟩ ?_
    refine s_is6_4 C dX4_saves_18 rfl ?_
    exact lp_X4_saves C (by omega) hQ _ 0 _ _ _ _ _ rfl (Nat.zero_add _) rfl hX2 frR.rf
  · refine x_iload_n C dX4_saves_4 rfl ?_
    refine x_iconst C dX4_saves_5 ⟨by decide, by decide⟩ ?_
    refine x_icmp_eq (tgt := 11) C dX4_saves_6 (by decide) (fun c6 => ?_) (fun c6 => ?_)
    · refine x_bipush C dX4_saves_11 ⟨by decide, by decide⟩ ?_
      refine s_ist6_2 C dX4_saves_13 rfl ?_
      refine x_bipush C dX4_saves_14 ⟨by decide, by decide⟩ ?_
      refine s_ist6_3 C dX4_saves_16 rfl ?_
      refine x_iconst C dX4_saves_17 ⟨by decide, by decide⟩ ?_
      refine s_is6_4 C dX4_saves_18 rfl ?_
      exact lp_X4_saves C (by omega) hQ _ 0 _ _ _ _ _ rfl (Nat.zero_add _) rfl hX2 frR.rf
    · refine x_iconst C dX4_saves_9 ⟨by decide, by decide⟩ ?_
      refine x_iret C hQ dX4_saves_10 (Nat.le_refl _) (Nat.le_refl _) ?_
      exact ⟨rfl, _, rfl, by rw [q_saves, if_neg (by omega), if_neg (by omega)], hX2, frR.rf⟩

set_option maxHeartbeats 1000000 in
set_option maxRecDepth 100000 in
theorem c_X4_isTight (l : Launch) {w : mW} {h : Nat} {D : mD} (hX : isX w h D) {i : Nat} (p : Int) (hi : p = (i : Int)) : Ci l yX4_isTight cX4_isTight 2 (some .boolean) 5 [vr h, vi p] w (fun z w' => (z = 0 ∨ z = 1) ∧ (z = 1 ↔ tgtF D.F i = true) ∧ isX w' h D ∧ frR w w' h (h + 115)) := by
  refine Ci.of (ml := [some (vr h), some (vi p)]) kyX4_isTight rfl (Nat.le_of_ble_eq_true rfl) rfl ?_
  intro t n C hQ
  have hX2 := hX
  obtain ⟨hW, a, b, ac, hab, x0, hT, hF, hU, hK, hA, hB, hR, hZ⟩ := hX
  have hfA : frR w w h (h + 115) := frR.rf
  obtain ⟨j1, j2, j3, j4, j5, j6, hs⟩ := id hF
  obtain ⟨k1, k2, k3, k4, k5, k6, k7, hc⟩ := id hA
  have u0 := hU.o0
  have k0 := hK.o0
  obtain ⟨t1, t2, ht⟩ := id hT
  obtain ⟨_, _, _, _, _, _, _, _, _, _, _, _, _, hr7⟩ := id hR
  obtain ⟨_, _, _, _, _, _, _, _, _, _, hr8⟩ := id hZ
  have hlen := isSh.len hF
  have hlS := isSc.len hA
  have hwT := (wfF_iff D.F).mp hW.2.1
  have hsm := hW.2.1.sm
  refine x_aload_n C dX4_isTight_0 rfl ?_
  refine x_get C dX4_isTight_1 kfX4_19 (x0) rfl ?_
  refine y_p0 C dX4_isTight_4 kyX2_hasRoom knX2_hasRoom kmX4_120 hs.o (c_X2_hasRoom l hs) (by decide) (Nat.zero_le _) (Nat.zero_le _) (Nat.le_of_ble_eq_true rfl) (fun z4 q4 => ?_)
  refine x_if_ne (tgt := 12) C dX4_isTight_7 (by decide) (fun c7 => ?_) (fun c7 => ?_)
  · refine x_aload_n C dX4_isTight_12 rfl ?_
    refine x_get C dX4_isTight_13 kfX4_45 (x0) rfl ?_
    refine x_aload_n C dX4_isTight_16 rfl ?_
    refine x_get C dX4_isTight_17 kfX4_19 (x0) rfl ?_
    refine y_v1 C dX4_isTight_20 kyX2_copyFrom knX2_copyFrom kmX4_232 hr7.o (c_X2_copyFrom l hr7 hs (by omega)) (by decide) (Nat.zero_le _) (Nat.zero_le _) (Nat.le_of_ble_eq_true rfl) (fun w20 q20 => ?_)
    obtain ⟨hr9, hf9⟩ := q20
    have hG : isF w20 (h + 101) D.F := ⟨_, _, _, _, _, _, hr9⟩
    have x0 := (hf9 _ (by omega)).trans x0
    have hT := hT.fr hf9 (by omega)
    have hF := hF.fr hf9 (by omega)
    have hU := hU.fr hf9 (by omega)
    have hK := hK.fr hf9 (by omega)
    have hA := hA.fr hf9 (by omega)
    have hB := hB.fr hf9 (by omega)
    have hZ := hZ.fr hf9 (by omega)
    have hfA := hfA.tr (hf9.wd (by omega) (by omega))
    have hR := hG.any
    obtain ⟨j1, j2, j3, j4, j5, j6, hs⟩ := id hF
    obtain ⟨k1, k2, k3, k4, k5, k6, k7, hc⟩ := id hA
    obtain ⟨_, _, _, _, _, _, _, _, _, _, hr8⟩ := id hZ
    obtain ⟨g1, g2, g3, g4, g5, g6, hr7⟩ := id hG
    refine x_aload_n C dX4_isTight_23 rfl ?_
    refine x_get C dX4_isTight_24 kfX4_45 (x0) rfl ?_
    refine x_iload_n C dX4_isTight_27 rfl ?_
    refine x_iconst C dX4_isTight_28 ⟨by decide, by decide⟩ ?_
    refine y_v2 C dX4_isTight_29 kyX2_putIn knX2_putIn kmX4_127 hr7.o (c_X2_putIn l hG p 0 hsm.1 hsm.2) (by decide) (Nat.zero_le _) (Nat.zero_le _) (Nat.le_of_ble_eq_true rfl) (fun w29 q29 => ?_)
    obtain ⟨hG, hf9⟩ := q29
    have hG : isF w29 (h + 101) (putF D.F p 0) := hG
    have x0 := (hf9 _ (by omega)).trans x0
    have hT := hT.fr hf9 (by omega)
    have hF := hF.fr hf9 (by omega)
    have hU := hU.fr hf9 (by omega)
    have hK := hK.fr hf9 (by omega)
    have hA := hA.fr hf9 (by omega)
    have hB := hB.fr hf9 (by omega)
    have hZ := hZ.fr hf9 (by omega)
    have hfA := hfA.tr (hf9.wd (by omega) (by omega))
    have hR := hG.any
    obtain ⟨j1, j2, j3, j4, j5, j6, hs⟩ := id hF
    obtain ⟨k1, k2, k3, k4, k5, k6, k7, hc⟩ := id hA
    obtain ⟨_, _, _, _, _, _, _, _, _, _, hr8⟩ := id hZ
    obtain ⟨g1, g2, g3, g4, g5, g6, hr7⟩ := id hG
    have hwg : wfF (putF D.F p 0) := (wfF_iff _).mpr ⟨wf_put hwT.1 p 0 (by omega), hwT.2⟩
    refine x_aload_n C dX4_isTight_32 rfl ?_
    refine x_get C dX4_isTight_33 kfX4_48 (x0) rfl ?_
    refine x_aload_n C dX4_isTight_36 rfl ?_
    refine x_get C dX4_isTight_37 kfX4_45 (x0) rfl ?_
    refine y_i1 C dX4_isTight_40 kyX1_draw knX1_draw kmX4_74 hr8.o (c_X1_draw l hr8 hG (by omega) (hwg)) (by decide) (Nat.zero_le _) (Nat.zero_le _) (Nat.le_of_ble_eq_true rfl) (fun z40 w40 q40 => ?_)
    obtain ⟨q40a, hZ9, hf9⟩ := q40
    have q40a : z40 = rowsF (putF D.F p 0) := q40a
    have hZ9 : isScr w40 (h + 108) (scr (putF D.F p 0)) := hZ9
    have hZ := hZ9.any
    have hG := hG.fr hf9 (by omega)
    have x0 := (hf9 _ (by omega)).trans x0
    have hT := hT.fr hf9 (by omega)
    have hF := hF.fr hf9 (by omega)
    have hU := hU.fr hf9 (by omega)
    have hK := hK.fr hf9 (by omega)
    have hA := hA.fr hf9 (by omega)
    have hB := hB.fr hf9 (by omega)
    have hR := hR.fr hf9 (by omega)
    have hfA := hfA.tr (hf9.wd (by omega) (by omega))
    obtain ⟨g1, g2, g3, g4, g5, g6, hr7⟩ := id hG
    obtain ⟨j1, j2, j3, j4, j5, j6, hs⟩ := id hF
    obtain ⟨k1, k2, k3, k4, k5, k6, k7, hc⟩ := id hA
    obtain ⟨_, _, _, _, _, _, _, _, _, _, hr8⟩ := id hZ
    refine x_aload_n C dX4_isTight_43 rfl ?_
    refine x_get C dX4_isTight_44 kfX4_38 (x0) rfl ?_
    refine x_get C dX4_isTight_47 kfX4_252 hc.o rfl ?_
    refine x_icmp_le (tgt := 57) C dX4_isTight_50 (by decide) (fun c50 => ?_) (fun c50 => ?_)
    · refine x_iconst C dX4_isTight_57 ⟨by decide, by decide⟩ ?_
      refine x_zret C hQ dX4_isTight_58 (by first | exact Or.inl rfl | exact Or.inr rfl | omega) (Nat.le_refl _) (Nat.le_refl _) ?_
      exact ⟨rfl, _, rfl, Or.inl rfl, ⟨fun h9 => by omega, fun h9 => by have := of_decide_eq_true h9; rw [← hi] at this; have := this.2; unfold rowsF at *; omega⟩, ⟨hW, a, b, ac, hab, x0, hT, hF, hU, hK, hA, hB, hR, hZ⟩, hfA⟩
    · refine x_iconst C dX4_isTight_53 ⟨by decide, by decide⟩ ?_
      refine x_goto (tgt := 58) C dX4_isTight_54 (by decide) ?_
      refine x_zret C hQ dX4_isTight_58 (by first | exact Or.inl rfl | exact Or.inr rfl | omega) (Nat.le_refl _) (Nat.le_refl _) ?_
      exact ⟨rfl, _, rfl, Or.inr rfl, ⟨fun h9 => decide_eq_true ⟨by omega, by rw [← hi]; unfold rowsF at *; omega⟩, fun h9 => rfl⟩, ⟨hW, a, b, ac, hab, x0, hT, hF, hU, hK, hA, hB, hR, hZ⟩, hfA⟩
  · refine x_iconst C dX4_isTight_10 ⟨by decide, by decide⟩ ?_
    refine x_zret C hQ dX4_isTight_11 (by first | exact Or.inl rfl | exact Or.inr rfl | omega) (Nat.le_refl _) (Nat.le_refl _) ?_
    exact ⟨rfl, _, rfl, Or.inl rfl, ⟨fun h9 => by omega, fun h9 => by have := of_decide_eq_true h9; omega⟩, hX2, frR.rf⟩

set_option maxHeartbeats 1000000 in
set_option maxRecDepth 100000 in
theorem lp_X4_tight {t : TX} {l : Launch} {n0 : Nat} (C : Cb t l cX4_tight RX4 4 (some .int) 6 0 0) {w0 : mW} {h : Nat} {D : mD} {p : Int} (hp : -1 ≤ p) (hQ : RQ t 0 0 (fun rr n' w' => n' = n0 ∧ ∃ z, rr = some (vi z) ∧ z = q_tight D.F p ∧ isX w' h D ∧ frR w0 w' h (h + 115))) : ∀ (m i : Nat) (f v : Int) (w : mW), v = (i : Int) → i + m = D.F.1.1.length + 1 → f = cN (tgtF D.F) i → nthN (tgtF D.F) p i = -4 → isX w h D → frR w0 w h (h + 115) → J t 0 0 11 [some (vr h), some (vi p), some (vi f), some (vi v)] [] n0 w := by
  intro m
  induction m with
  | zero =>
    intro i f v w hv hm hN hK9 hX hfA
    have hcn := cN_nn (tgtF D.F) i
    obtain ⟨hW, a, b, ac, hab, x0, hT, hF, hU, hK, hA, hB, hR, hZ⟩ := hX
    obtain ⟨j1, j2, j3, j4, j5, j6, hs⟩ := id hF
    obtain ⟨k1, k2, k3, k4, k5, k6, k7, hc⟩ := id hA
    obtain ⟨_, _, _, _, _, _, _, _, _, _, _, _, _, hr7⟩ := id hR
    obtain ⟨_, _, _, _, _, _, _, _, _, _, hr8⟩ := id hZ
    have hlen := isSh.len hF
    have hlS := isSc.len hA
    have hwT := (wfF_iff D.F).mp hW.2.1
    have hsm := hW.2.1.sm
    refine x_iload_n C dX4_tight_11 rfl ?_
    refine x_aload_n C dX4_tight_12 rfl ?_
    refine x_get C dX4_tight_13 kfX4_19 (x0) rfl ?_
    refine x_get C dX4_tight_16 kfX4_84 hs.o rfl ?_
    refine x_icmp_gt (tgt := 49) C dX4_tight_19 (by decide) (fun c19 => ?_) (fun c19 => absurd c19 (by omega))
    refine x_iload_n C dX4_tight_49 rfl ?_
    refine x_iconst C dX4_tight_50 ⟨by decide, by decide⟩ ?_
    refine x_icmp_ne (tgt := 58) C dX4_tight_51 (by decide) (fun c51 => ?_) (fun c51 => ?_)
    · refine x_bipush C dX4_tight_58 ⟨by decide, by decide⟩ ?_
      refine x_iret C hQ dX4_tight_60 (Nat.le_refl _) (Nat.le_refl _) ?_
      exact ⟨rfl, _, rfl, by rw [q_tight, if_neg (by omega), if_neg (by omega), ← hK9, show i = D.F.1.1.length + 1 by omega], ⟨hW, a, b, ac, hab, x0, hT, hF, hU, hK, hA, hB, hR, hZ⟩, hfA⟩
    · refine x_iload_n C dX4_tight_54 rfl ?_
      refine x_goto (tgt := 60) C dX4_tight_55 (by decide) ?_
      refine x_iret C hQ dX4_tight_60 (Nat.le_refl _) (Nat.le_refl _) ?_
      exact ⟨rfl, _, rfl, by rw [q_tight, if_neg (by omega), if_pos (by omega), hN, show i = D.F.1.1.length + 1 by omega], ⟨hW, a, b, ac, hab, x0, hT, hF, hU, hK, hA, hB, hR, hZ⟩, hfA⟩
  | succ m ih =>
    intro i f v w hv hm hN hK9 hX hfA
    have hcn := cN_nn (tgtF D.F) i
    have hX2 := hX
    obtain ⟨hW, a, b, ac, hab, x0, hT, hF, hU, hK, hA, hB, hR, hZ⟩ := hX
    obtain ⟨j1, j2, j3, j4, j5, j6, hs⟩ := id hF
    obtain ⟨k1, k2, k3, k4, k5, k6, k7, hc⟩ := id hA
    obtain ⟨_, _, _, _, _, _, _, _, _, _, _, _, _, hr7⟩ := id hR
    obtain ⟨_, _, _, _, _, _, _, _, _, _, hr8⟩ := id hZ
    have hlen := isSh.len hF
    have hlS := isSc.len hA
    have hwT := (wfF_iff D.F).mp hW.2.1
    have hsm := hW.2.1.sm
    refine x_iload_n C dX4_tight_11 rfl ?_
    refine x_aload_n C dX4_tight_12 rfl ?_
    refine x_get C dX4_tight_13 kfX4_19 (x0) rfl ?_
    refine x_get C dX4_tight_16 kfX4_84 hs.o rfl ?_
    refine x_icmp_gt (tgt := 49) C dX4_tight_19 (by decide) (fun c19 => absurd c19 (by omega)) (fun c19 => ?_)
    refine x_aload_n C dX4_tight_22 rfl ?_
    refine x_iload_n C dX4_tight_23 rfl ?_
    refine y_i1 C dX4_tight_24 kyX4_isTight knX4_isTight kmX4_235 (x0) (c_X4_isTight l hX2 v hv) (by decide) (Nat.zero_le _) (Nat.zero_le _) (Nat.le_of_ble_eq_true rfl) (fun z24 w24 q24 => ?_)
    obtain ⟨q24a, q24b, q24c, q24d⟩ := q24
    refine x_if_ne (tgt := 33) C dX4_tight_27 (by decide) (fun c27 => ?_) (fun c27 => ?_)
    · refine x_iload_n C dX4_tight_33 rfl ?_
      refine x_iload_n C dX4_tight_34 rfl ?_
      refine x_icmp_ne (tgt := 40) C dX4_tight_35 (by decide) (fun c35 => ?_) (fun c35 => ?_)
      · refine s_inc4_2 C dX4_tight_40 rfl (by first | (unfold iR; omega) | exact ⟨by omega, by omega⟩) ?_
        refine s_inc4_3 C dX4_tight_43 rfl (by first | (unfold iR; omega) | exact ⟨by omega, by omega⟩) ?_
        refine x_goto (tgt := 11) C dX4_tight_46 (by decide) ?_
        exact ih (i + 1) _ _ _ (by omega) (by omega) (by rw [cN, if_pos (q24b.mp (by omega)), hN]) (by rw [nthN, if_neg (fun h9 => by omega)]; exact hK9) q24c (hfA.tr q24d)
      · refine x_iload_n C dX4_tight_38 rfl ?_
        refine x_iret C hQ dX4_tight_39 (Nat.le_refl _) (Nat.le_refl _) ?_
        exact ⟨rfl, _, rfl, by
          have hpi := q24b.mp (by omega)
          have h8 : nthN (tgtF D.F) p (i + 1) = (i : Int) := by rw [nthN, if_pos ⟨hpi, by omega⟩]
          have h9 := nthN_keep (tgtF D.F) (k := p) (m := i + 1) (by rw [cN, if_pos hpi]; omega) m
          rw [h8, show i + 1 + m = D.F.1.1.length + 1 by omega] at h9
          rw [q_tight, if_neg (by omega), if_neg (by omega), h9]
          omega, q24c, hfA.tr q24d⟩
    · refine x_goto (tgt := 43) C dX4_tight_30 (by decide) ?_
      refine s_inc4_3 C dX4_tight_43 rfl (by first | (unfold iR; omega) | exact ⟨by omega, by omega⟩) ?_
      refine x_goto (tgt := 11) C dX4_tight_46 (by decide) ?_
      exact ih (i + 1) _ _ _ (by omega) (by omega) (by rw [cN, if_neg (fun h9 => by have := q24b.mpr h9; omega), hN]; omega) (by rw [nthN, if_neg (fun h9 => by have := q24b.mpr h9.1; omega)]; exact hK9) q24c (hfA.tr q24d)


set_option maxHeartbeats 1000000 in
set_option maxRecDepth 100000 in
theorem c_X4_tight (l : Launch) {w : mW} {h : Nat} {D : mD} (hX : isX w h D) (p : Int) : Ci l yX4_tight cX4_tight 4 (some .int) 6 [vr h, vi p] w (fun z w' => z = q_tight D.F p ∧ isX w' h D ∧ frR w w' h (h + 115)) := by
  refine Ci.of (ml := [some (vr h), some (vi p), none, none]) kyX4_tight rfl (Nat.le_of_ble_eq_true rfl) rfl ?_
  intro t n C hQ
  have hX2 := hX
  obtain ⟨hW, a, b, ac, hab, x0, hT, hF, hU, hK, hA, hB, hR, hZ⟩ := hX
  have hfA : frR w w h (h + 115) := frR.rf
  obtain ⟨j1, j2, j3, j4, j5, j6, hs⟩ := id hF
  obtain ⟨k1, k2, k3, k4, k5, k6, k7, hc⟩ := id hA
  have u0 := hU.o0
  have k0 := hK.o0
  obtain ⟨t1, t2, ht⟩ := id hT
  obtain ⟨_, _, _, _, _, _, _, _, _, _, _, _, _, hr7⟩ := id hR
  obtain ⟨_, _, _, _, _, _, _, _, _, _, hr8⟩ := id hZ
  have hlen := isSh.len hF
  have hlS := isSc.len hA
  have hwT := (wfF_iff D.F).mp hW.2.1
  have hsm := hW.2.1.sm
  refine x_iload_n C dX4_tight_0 rfl ?_
  refine x_iconst C dX4_tight_1 ⟨by decide, by decide⟩ ?_
  refine x_icmp_ge (tgt := 7) C dX4_tight_2 (by decide) (fun c2 => ?_) (fun c2 => ?_)
  · refine x_iconst C dX4_tight_7 ⟨by decide, by decide⟩ ?_
    refine s_ist4_2 C dX4_tight_8 rfl ?_
    refine x_iconst C dX4_tight_9 ⟨by decide, by decide⟩ ?_
    refine s_ist4_3 C dX4_tight_10 rfl ?_
    exact lp_X4_tight C (by omega) hQ _ 0 _ _ _ rfl (Nat.zero_add _) rfl rfl hX2 frR.rf
  · refine x_iconst C dX4_tight_5 ⟨by decide, by decide⟩ ?_
    refine x_iret C hQ dX4_tight_6 (Nat.le_refl _) (Nat.le_refl _) ?_
    exact ⟨rfl, _, rfl, by rw [q_tight, if_pos (by omega)], hX2, frR.rf⟩

theorem wf_livN {T : mS} (h : wfT T) (z : Int) : ∀ m, wfT (livN T z m)
  | 0 => h
  | m + 1 => wf_live (wf_livN h z m) _ (Int.emod_nonneg _ (by decide))

set_option maxHeartbeats 1000000 in
set_option maxRecDepth 100000 in
theorem lp_X4_day {t : TX} {l : Launch} {n0 : Nat} (C : Cb t l cX4_day RX4 5 (some .int) 5 0 0) {w0 : mW} {h : Nat} {D : mD} {p q r : Int} (hp : 0 ≤ p ∧ p ≤ 9999) (hq : 1 ≤ q ∧ q ≤ 40) (hr : 0 ≤ r ∧ r ≤ 2) (hQ : RQ t 0 0 (fun rr n' w' => n' = n0 ∧ ∃ z, rr = some (vi z) ∧ z = q_day D.F p q r ∧ isX w' h D ∧ frR w0 w' h (h + 115))) : ∀ (m i : Nat) (k : Int) (w : mW), k = (i : Int) → (i : Int) + m = q → isX w h D → isF w (h + 101) (livN D.F.1 p i, D.F.2) → frR w0 w h (h + 115) → J t 0 0 49 [some (vr h), some (vi p), some (vi q), some (vi r), some (vi k)] [] n0 w := by
  intro m
  induction m with
  | zero =>
    intro i k w hk hm hX hG hfA
    obtain ⟨hW, a, b, ac, hab, x0, hT, hF, hU, hK, hA, hB, hR, hZ⟩ := hX
    obtain ⟨j1, j2, j3, j4, j5, j6, hs⟩ := id hF
    obtain ⟨k1, k2, k3, k4, k5, k6, k7, hc⟩ := id hA
    obtain ⟨_, _, _, _, _, _, _, _, _, _, _, _, _, hr7⟩ := id hR
    obtain ⟨_, _, _, _, _, _, _, _, _, _, hr8⟩ := id hZ
    have hlen := isSh.len hF
    have hlS := isSc.len hA
    have hwT := (wfF_iff D.F).mp hW.2.1
    have hsm := hW.2.1.sm
    have hwg : wfF (livN D.F.1 p i, D.F.2) := (wfF_iff _).mpr ⟨wf_livN hwT.1 p i, hwT.2⟩
    obtain ⟨g1, g2, g3, g4, g5, g6, hr7⟩ := id hG
    have hqi : q.toNat = i := by omega
    refine x_iload C dX4_day_49 rfl ?_
    refine x_iload_n C dX4_day_51 rfl ?_
    refine x_icmp_ge (tgt := 74) C dX4_day_52 (by decide) (fun c52 => ?_) (fun c52 => absurd c52 (by omega))
    refine x_aload_n C dX4_day_74 rfl ?_
    refine x_get C dX4_day_75 kfX4_48 (x0) rfl ?_
    refine x_aload_n C dX4_day_78 rfl ?_
    refine x_get C dX4_day_79 kfX4_45 (x0) rfl ?_
    refine y_i1 C dX4_day_82 kyX1_draw knX1_draw kmX4_74 hr8.o (c_X1_draw l hr8 hG (by omega) (hwg)) (by decide) (Nat.zero_le _) (Nat.zero_le _) (Nat.le_of_ble_eq_true rfl) (fun z82 w82 q82 => ?_)
    obtain ⟨q82a, hZ9, hf9⟩ := q82
    have q82a : z82 = rowsF ((livN D.F.1 p i, D.F.2)) := q82a
    have hZ9 : isScr w82 (h + 108) (scr ((livN D.F.1 p i, D.F.2))) := hZ9
    have hZ := hZ9.any
    have hG := hG.fr hf9 (by omega)
    have x0 := (hf9 _ (by omega)).trans x0
    have hT := hT.fr hf9 (by omega)
    have hF := hF.fr hf9 (by omega)
    have hU := hU.fr hf9 (by omega)
    have hK := hK.fr hf9 (by omega)
    have hA := hA.fr hf9 (by omega)
    have hB := hB.fr hf9 (by omega)
    have hR := hR.fr hf9 (by omega)
    have hfA := hfA.tr (hf9.wd (by omega) (by omega))
    obtain ⟨g1, g2, g3, g4, g5, g6, hr7⟩ := id hG
    obtain ⟨j1, j2, j3, j4, j5, j6, hs⟩ := id hF
    obtain ⟨k1, k2, k3, k4, k5, k6, k7, hc⟩ := id hA
    obtain ⟨_, _, _, _, _, _, _, _, _, _, hr8⟩ := id hZ
    refine s_is5_4 C dX4_day_85 rfl ?_
    refine x_iload_n C dX4_day_87 rfl ?_
    refine sw_X4_day_88 C (fun c88 => ?_) (fun c88 => ?_) (fun c88 => ?_)
    · refine x_aload_n C dX4_day_116 rfl ?_
      refine x_get C dX4_day_117 kfX4_45 (x0) rfl ?_
      refine x_get C dX4_day_120 kfX4_84 hr7.o rfl ?_
      refine x_iret C hQ dX4_day_123 (Nat.le_refl _) (Nat.le_refl _) ?_
      exact ⟨rfl, _, rfl, by rw [q_day, if_neg (by omega), if_pos (by omega), hqi], ⟨hW, a, b, ac, hab, x0, hT, hF, hU, hK, hA, hB, hR, hZ⟩, hfA⟩
    · refine x_iload C dX4_day_124 rfl ?_
      refine x_iret C hQ dX4_day_126 (Nat.le_refl _) (Nat.le_refl _) ?_
      exact ⟨rfl, _, rfl, by rw [q_day, if_neg (by omega), if_neg (by omega), if_pos (by omega), hqi]; exact q82a, ⟨hW, a, b, ac, hab, x0, hT, hF, hU, hK, hA, hB, hR, hZ⟩, hfA⟩
    · refine x_aload_n C dX4_day_127 rfl ?_
      refine x_get C dX4_day_128 kfX4_48 (x0) rfl ?_
      refine y_p0 C dX4_day_131 kyX1_longestRow knX1_longestRow kmX4_243 hr8.o (c_X1_longestRow l hZ9) (by decide) (Nat.zero_le _) (Nat.zero_le _) (Nat.le_of_ble_eq_true rfl) (fun z131 q131 => ?_)
      refine x_iret C hQ dX4_day_134 (Nat.le_refl _) (Nat.le_refl _) ?_
      exact ⟨rfl, _, rfl, by rw [q_day, if_neg (by omega), if_neg (by omega), if_neg (by omega), hqi]; exact q131, ⟨hW, a, b, ac, hab, x0, hT, hF, hU, hK, hA, hB, hR, hZ⟩, hfA⟩
  | succ m ih =>
    intro i k w hk hm hX hG hfA
    obtain ⟨hW, a, b, ac, hab, x0, hT, hF, hU, hK, hA, hB, hR, hZ⟩ := hX
    obtain ⟨j1, j2, j3, j4, j5, j6, hs⟩ := id hF
    obtain ⟨k1, k2, k3, k4, k5, k6, k7, hc⟩ := id hA
    obtain ⟨_, _, _, _, _, _, _, _, _, _, _, _, _, hr7⟩ := id hR
    obtain ⟨_, _, _, _, _, _, _, _, _, _, hr8⟩ := id hZ
    have hlen := isSh.len hF
    have hlS := isSc.len hA
    have hwT := (wfF_iff D.F).mp hW.2.1
    have hsm := hW.2.1.sm
    have hwg : wfF (livN D.F.1 p i, D.F.2) := (wfF_iff _).mpr ⟨wf_livN hwT.1 p i, hwT.2⟩
    obtain ⟨g1, g2, g3, g4, g5, g6, hr7⟩ := id hG
    refine x_iload C dX4_day_49 rfl ?_
    refine x_iload_n C dX4_day_51 rfl ?_
    refine x_icmp_ge (tgt := 74) C dX4_day_52 (by decide) (fun c52 => absurd c52 (by omega)) (fun c52 => ?_)
    refine x_aload_n C dX4_day_55 rfl ?_
    refine x_get C dX4_day_56 kfX4_45 (x0) rfl ?_
    refine x_iload_n C dX4_day_59 rfl ?_
    refine x_iload C dX4_day_60 rfl ?_
    refine z_p2 C dX4_day_62 kyX4_draw ksX4_draw kmX4_238 (c_X4_draw l p k (by omega) (by omega)) (by decide) (Nat.zero_le _) (Nat.zero_le _) (Nat.le_of_ble_eq_true rfl) (fun z62 q62 => ?_)
    refine y_v1 C dX4_day_65 kyX2_live knX2_live kmX4_240 hr7.o (c_X2_live l hG z62 (by rw [q62]; exact Int.emod_nonneg _ (by decide)) hwg.sm.1 hwg.sm.2) (by decide) (Nat.zero_le _) (Nat.zero_le _) (Nat.le_of_ble_eq_true rfl) (fun w65 q65 => ?_)
    obtain ⟨hG, hf9⟩ := q65
    have hG : isF w65 (h + 101) (livN D.F.1 p (i + 1), D.F.2) := by rw [q62, hk] at hG; exact hG
    have x0 := (hf9 _ (by omega)).trans x0
    have hT := hT.fr hf9 (by omega)
    have hF := hF.fr hf9 (by omega)
    have hU := hU.fr hf9 (by omega)
    have hK := hK.fr hf9 (by omega)
    have hA := hA.fr hf9 (by omega)
    have hB := hB.fr hf9 (by omega)
    have hZ := hZ.fr hf9 (by omega)
    have hfA := hfA.tr (hf9.wd (by omega) (by omega))
    have hR := hG.any
    obtain ⟨j1, j2, j3, j4, j5, j6, hs⟩ := id hF
    obtain ⟨k1, k2, k3, k4, k5, k6, k7, hc⟩ := id hA
    obtain ⟨_, _, _, _, _, _, _, _, _, _, hr8⟩ := id hZ
    refine s_inc5_4 C dX4_day_68 rfl (by first | (unfold iR; omega) | exact ⟨by omega, by omega⟩) ?_
    refine x_goto (tgt := 49) C dX4_day_71 (by decide) ?_
    exact ih (i + 1) _ _ (by omega) (by omega) ⟨hW, a, b, ac, hab, x0, hT, hF, hU, hK, hA, hB, hR, hZ⟩ hG hfA


set_option maxHeartbeats 1000000 in
set_option maxRecDepth 100000 in
theorem c_X4_day (l : Launch) {w : mW} {h : Nat} {D : mD} (hX : isX w h D) (p q r : Int) : Ci l yX4_day cX4_day 5 (some .int) 5 [vr h, vi p, vi q, vi r] w (fun z w' => z = q_day D.F p q r ∧ isX w' h D ∧ frR w w' h (h + 115)) := by
  refine Ci.of (ml := [some (vr h), some (vi p), some (vi q), some (vi r), none]) kyX4_day rfl (Nat.le_of_ble_eq_true rfl) rfl ?_
  intro t n C hQ
  have hX2 := hX
  obtain ⟨hW, a, b, ac, hab, x0, hT, hF, hU, hK, hA, hB, hR, hZ⟩ := hX
  have hfA : frR w w h (h + 115) := frR.rf
  obtain ⟨j1, j2, j3, j4, j5, j6, hs⟩ := id hF
  obtain ⟨k1, k2, k3, k4, k5, k6, k7, hc⟩ := id hA
  have u0 := hU.o0
  have k0 := hK.o0
  obtain ⟨t1, t2, ht⟩ := id hT
  obtain ⟨_, _, _, _, _, _, _, _, _, _, _, _, _, hr7⟩ := id hR
  obtain ⟨_, _, _, _, _, _, _, _, _, _, hr8⟩ := id hZ
  have hlen := isSh.len hF
  have hlS := isSc.len hA
  have hwT := (wfF_iff D.F).mp hW.2.1
  have hsm := hW.2.1.sm
  refine x_iload_n C dX4_day_0 rfl ?_
  refine x_if_lt (tgt := 22) C dX4_day_1 (by decide) (fun c1 => ?_) (fun c1 => ?_)
  · refine x_iconst C dX4_day_22 ⟨by decide, by decide⟩ ?_
    refine x_iret C hQ dX4_day_23 (Nat.le_refl _) (Nat.le_refl _) ?_
    exact ⟨rfl, _, rfl, by rw [q_day, if_pos (by omega)], hX2, frR.rf⟩
  · refine x_iload_n C dX4_day_4 rfl ?_
    refine x_sipush C dX4_day_5 ⟨by decide, by decide⟩ ?_
    refine x_icmp_gt (tgt := 22) C dX4_day_8 (by decide) (fun c8 => ?_) (fun c8 => ?_)
    · refine x_iconst C dX4_day_22 ⟨by decide, by decide⟩ ?_
      refine x_iret C hQ dX4_day_23 (Nat.le_refl _) (Nat.le_refl _) ?_
      exact ⟨rfl, _, rfl, by rw [q_day, if_pos (by omega)], hX2, frR.rf⟩
    · refine x_iload_n C dX4_day_11 rfl ?_
      refine x_iconst C dX4_day_12 ⟨by decide, by decide⟩ ?_
      refine x_icmp_lt (tgt := 22) C dX4_day_13 (by decide) (fun c13 => ?_) (fun c13 => ?_)
      · refine x_iconst C dX4_day_22 ⟨by decide, by decide⟩ ?_
        refine x_iret C hQ dX4_day_23 (Nat.le_refl _) (Nat.le_refl _) ?_
        exact ⟨rfl, _, rfl, by rw [q_day, if_pos (by omega)], hX2, frR.rf⟩
      · refine x_iload_n C dX4_day_16 rfl ?_
        refine x_bipush C dX4_day_17 ⟨by decide, by decide⟩ ?_
        refine x_icmp_le (tgt := 24) C dX4_day_19 (by decide) (fun c19 => ?_) (fun c19 => ?_)
        · refine x_iload_n C dX4_day_24 rfl ?_
          refine x_if_lt (tgt := 33) C dX4_day_25 (by decide) (fun c25 => ?_) (fun c25 => ?_)
          · refine x_iconst C dX4_day_33 ⟨by decide, by decide⟩ ?_
            refine x_iret C hQ dX4_day_34 (Nat.le_refl _) (Nat.le_refl _) ?_
            exact ⟨rfl, _, rfl, by rw [q_day, if_pos (by omega)], hX2, frR.rf⟩
          · refine x_iload_n C dX4_day_28 rfl ?_
            refine x_iconst C dX4_day_29 ⟨by decide, by decide⟩ ?_
            refine x_icmp_le (tgt := 35) C dX4_day_30 (by decide) (fun c30 => ?_) (fun c30 => ?_)
            · refine x_aload_n C dX4_day_35 rfl ?_
              refine x_get C dX4_day_36 kfX4_45 (x0) rfl ?_
              refine x_aload_n C dX4_day_39 rfl ?_
              refine x_get C dX4_day_40 kfX4_19 (x0) rfl ?_
              refine y_v1 C dX4_day_43 kyX2_copyFrom knX2_copyFrom kmX4_232 hr7.o (c_X2_copyFrom l hr7 hs (by omega)) (by decide) (Nat.zero_le _) (Nat.zero_le _) (Nat.le_of_ble_eq_true rfl) (fun w43 q43 => ?_)
              obtain ⟨hr9, hf9⟩ := q43
              have hG : isF w43 (h + 101) D.F := ⟨_, _, _, _, _, _, hr9⟩
              have x0 := (hf9 _ (by omega)).trans x0
              have hT := hT.fr hf9 (by omega)
              have hF := hF.fr hf9 (by omega)
              have hU := hU.fr hf9 (by omega)
              have hK := hK.fr hf9 (by omega)
              have hA := hA.fr hf9 (by omega)
              have hB := hB.fr hf9 (by omega)
              have hZ := hZ.fr hf9 (by omega)
              have hfA := hfA.tr (hf9.wd (by omega) (by omega))
              have hR := hG.any
              obtain ⟨j1, j2, j3, j4, j5, j6, hs⟩ := id hF
              obtain ⟨k1, k2, k3, k4, k5, k6, k7, hc⟩ := id hA
              obtain ⟨_, _, _, _, _, _, _, _, _, _, hr8⟩ := id hZ
              obtain ⟨g1, g2, g3, g4, g5, g6, hr7⟩ := id hG
              refine x_iconst C dX4_day_46 ⟨by decide, by decide⟩ ?_
              refine s_is5_4 C dX4_day_47 rfl ?_
              exact lp_X4_day C (by omega) (by omega) (by omega) hQ q.toNat 0 _ _ rfl (by omega) ⟨hW, a, b, ac, hab, x0, hT, hF, hU, hK, hA, hB, hR, hZ⟩ hG hfA
            · refine x_iconst C dX4_day_33 ⟨by decide, by decide⟩ ?_
              refine x_iret C hQ dX4_day_34 (Nat.le_refl _) (Nat.le_refl _) ?_
              exact ⟨rfl, _, rfl, by rw [q_day, if_pos (by omega)], hX2, frR.rf⟩
        · refine x_iconst C dX4_day_22 ⟨by decide, by decide⟩ ?_
          refine x_iret C hQ dX4_day_23 (Nat.le_refl _) (Nat.le_refl _) ?_
          exact ⟨rfl, _, rfl, by rw [q_day, if_pos (by omega)], hX2, frR.rf⟩
