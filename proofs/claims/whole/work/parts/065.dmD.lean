/-! ===== DisplayMap: texts, undo, keep ===== -/
set_option maxHeartbeats 1000000 in
set_option maxRecDepth 100000 in
theorem c_X4_write (l : Launch) {w : mW} {h : Nat} {D : mD} (hX : isX w h D) (p : Int) : Ci l yX4_write cX4_write 2 (some .int) 1 [vr h, vi p] w (fun z w' => z = (f_write D p).1 ∧ isX w' h (f_write D p).2 ∧ frR w w' h (h + 115)) := by
  refine Ci.of (ml := [some (vr h), some (vi p)]) kyX4_write rfl (Nat.le_of_ble_eq_true rfl) rfl ?_
  intro t n C hQ
  have hX2 := hX
  obtain ⟨hW, a, b, ac, hab, x0, hT, hF, hU, hK, hA, hB, hR, hZ⟩ := hX
  have hfA : frR w w h (h + 115) := frR.rf
  obtain ⟨j1, j2, j3, j4, j5, j6, hs⟩ := id hF
  obtain ⟨k1, k2, k3, k4, k5, k6, k7, hc⟩ := id hA
  have u0 := hU.o0
  have k0 := hK.o0
  obtain ⟨t1, t2, ht⟩ := id hT
  obtain ⟨_, _, _, _, _, _, _, _, _, _, _, _, _, hr7⟩ := id hR
  obtain ⟨_, _, _, _, _, _, _, _, _, _, hr8⟩ := id hZ
  have hlen := isSh.len hF
  have hlS := isSc.len hA
  have hwT := (wfF_iff D.F).mp hW.2.1
  have hsm := hW.2.1.sm
  refine x_iload_n C dX4_write_0 rfl ?_
  refine x_bipush C dX4_write_1 ⟨by decide, by decide⟩ ?_
  refine x_icmp_lt (tgt := 12) C dX4_write_3 (by decide) (fun c3 => ?_) (fun c3 => ?_)
  · refine x_iconst C dX4_write_12 ⟨by decide, by decide⟩ ?_
    refine x_iret C hQ dX4_write_13 (Nat.le_refl _) (Nat.le_refl _) ?_
    exact ⟨rfl, _, rfl, by rw [f_write, if_pos (by omega)]; exact ⟨by first | rfl | assumption, hX2, frR.rf⟩⟩
  · refine x_iload_n C dX4_write_6 rfl ?_
    refine x_bipush C dX4_write_7 ⟨by decide, by decide⟩ ?_
    refine x_icmp_le (tgt := 14) C dX4_write_9 (by decide) (fun c9 => ?_) (fun c9 => ?_)
    · refine x_aload_n C dX4_write_14 rfl ?_
      refine x_get C dX4_write_15 kfX4_12 (x0) rfl ?_
      refine x_iload_n C dX4_write_18 rfl ?_
      refine y_i1 C dX4_write_19 kyX3_append knX3_append kmX4_63 ht.o (c_X3_append l hT p) (by decide) (Nat.zero_le _) (Nat.zero_le _) (Nat.le_of_ble_eq_true rfl) (fun z19 w19 q19 => ?_)
      obtain ⟨q19a, q19b, hT, hf9⟩ := q19
      have x0 := (hf9 _ (by omega)).trans x0
      have hF := hF.fr hf9 (by omega)
      have hU := hU.fr hf9 (by omega)
      have hK := hK.fr hf9 (by omega)
      have hA := hA.fr hf9 (by omega)
      have hB := hB.fr hf9 (by omega)
      have hR := hR.fr hf9 (by omega)
      have hZ := hZ.fr hf9 (by omega)
      have hfA := hfA.tr (hf9.wd (by omega) (by omega))
      obtain ⟨j1, j2, j3, j4, j5, j6, hs⟩ := id hF
      obtain ⟨k1, k2, k3, k4, k5, k6, k7, hc⟩ := id hA
      have u0 := hU.o0
      have k0 := hK.o0
      obtain ⟨t1, t2, ht⟩ := id hT
      obtain ⟨_, _, _, _, _, _, _, _, _, _, _, _, _, hr7⟩ := id hR
      obtain ⟨_, _, _, _, _, _, _, _, _, _, hr8⟩ := id hZ
      refine x_if_eq (tgt := 35) C dX4_write_22 (by decide) (fun c22 => ?_) (fun c22 => ?_)
      · refine x_bipush C dX4_write_35 ⟨by decide, by decide⟩ ?_
        refine x_iret C hQ dX4_write_37 (Nat.le_refl _) (Nat.le_refl _) ?_
        exact ⟨rfl, _, rfl, by
          rw [if_neg (by omega)] at hT
          have e9 : f_write D p = (-3, D) := by rw [f_write, if_neg (by omega), if_neg (by omega)]
          rw [e9]; exact ⟨rfl, ⟨hW, a, b, ac, hab, x0, hT, hF, hU, hK, hA, hB, hR, hZ⟩, hfA⟩⟩
      · refine x_aload_n C dX4_write_25 rfl ?_
        refine x_get C dX4_write_26 kfX4_12 (x0) rfl ?_
        refine x_get C dX4_write_29 kfX4_71 ht.o rfl ?_
        refine x_goto (tgt := 37) C dX4_write_32 (by decide) ?_
        refine x_iret C hQ dX4_write_37 (Nat.le_refl _) (Nat.le_refl _) ?_
        exact ⟨rfl, _, rfl, by
          rw [if_pos (by omega)] at hT
          have e9 : f_write D p = ((D.tx.length : Int) + 1, (D.tx ++ [p], D.F, D.U, D.K, D.O)) := by rw [f_write, if_neg (by omega), if_pos (by omega)]
          rw [e9]; exact ⟨by rw [if_pos (by omega)]; simp, ⟨⟨fun c hc9 => by
            rcases List.mem_append.mp hc9 with h9 | h9
            · exact hW.1 c h9
            · have : c = p := by simpa using h9
              omega, hW.2⟩, a, b, ac, hab, x0, hT, hF, hU, hK, hA, hB, hR, hZ⟩, hfA⟩⟩
    · refine x_iconst C dX4_write_12 ⟨by decide, by decide⟩ ?_
      refine x_iret C hQ dX4_write_13 (Nat.le_refl _) (Nat.le_refl _) ?_
      exact ⟨rfl, _, rfl, by rw [f_write, if_pos (by omega)]; exact ⟨by first | rfl | assumption, hX2, frR.rf⟩⟩

set_option maxHeartbeats 1000000 in
set_option maxRecDepth 100000 in
theorem c_X4_wipe (l : Launch) {w : mW} {h : Nat} {D : mD} (hX : isX w h D) : Ci l yX4_wipe cX4_wipe 2 (some .int) 0 [vr h] w (fun z w' => z = (f_wipe D).1 ∧ isX w' h (f_wipe D).2 ∧ frR w w' h (h + 115)) := by
  refine Ci.of (ml := [some (vr h), none]) kyX4_wipe rfl (Nat.le_of_ble_eq_true rfl) rfl ?_
  intro t n C hQ
  have hX2 := hX
  obtain ⟨hW, a, b, ac, hab, x0, hT, hF, hU, hK, hA, hB, hR, hZ⟩ := hX
  have hfA : frR w w h (h + 115) := frR.rf
  obtain ⟨j1, j2, j3, j4, j5, j6, hs⟩ := id hF
  obtain ⟨k1, k2, k3, k4, k5, k6, k7, hc⟩ := id hA
  have u0 := hU.o0
  have k0 := hK.o0
  obtain ⟨t1, t2, ht⟩ := id hT
  obtain ⟨_, _, _, _, _, _, _, _, _, _, _, _, _, hr7⟩ := id hR
  obtain ⟨_, _, _, _, _, _, _, _, _, _, hr8⟩ := id hZ
  have hlen := isSh.len hF
  have hlS := isSc.len hA
  have hwT := (wfF_iff D.F).mp hW.2.1
  have hsm := hW.2.1.sm
  refine x_aload_n C dX4_wipe_0 rfl ?_
  refine x_get C dX4_wipe_1 kfX4_12 (x0) rfl ?_
  refine x_get C dX4_wipe_4 kfX4_71 ht.o rfl ?_
  refine s_ist2_1 C dX4_wipe_7 rfl ?_
  refine x_aload_n C dX4_wipe_8 rfl ?_
  refine x_get C dX4_wipe_9 kfX4_12 (x0) rfl ?_
  refine x_iconst C dX4_wipe_12 ⟨by decide, by decide⟩ ?_
  have hf0 : frR w w (h + 1) (h + 1 + 2) := frR.rf
  refine x_put C dX4_wipe_13 kfX4_71 kw_3_1 rfl rfl ht.o (Nat.le_of_ble_eq_true rfl) ?_
  refine ab_T_tl ht hf0 (fun w16 ht hf0 => ?_)
  have hT : isTx w16 (h + 1) [] := ⟨_, _, ht⟩
  have x0 := (hf0 _ (by omega)).trans x0
  have hF := hF.fr hf0 (by omega)
  have hU := hU.fr hf0 (by omega)
  have hK := hK.fr hf0 (by omega)
  have hA := hA.fr hf0 (by omega)
  have hB := hB.fr hf0 (by omega)
  have hR := hR.fr hf0 (by omega)
  have hZ := hZ.fr hf0 (by omega)
  have hfA := hfA.tr (hf0.wd (by omega) (by omega))
  obtain ⟨j1, j2, j3, j4, j5, j6, hs⟩ := id hF
  obtain ⟨k1, k2, k3, k4, k5, k6, k7, hc⟩ := id hA
  have u0 := hU.o0
  have k0 := hK.o0
  obtain ⟨t1, t2, ht⟩ := id hT
  obtain ⟨_, _, _, _, _, _, _, _, _, _, _, _, _, hr7⟩ := id hR
  obtain ⟨_, _, _, _, _, _, _, _, _, _, hr8⟩ := id hZ
  refine x_iload_n C dX4_wipe_16 rfl ?_
  refine x_iret C hQ dX4_wipe_17 (Nat.le_refl _) (Nat.le_refl _) ?_
  exact ⟨rfl, _, rfl, rfl, ⟨⟨fun c hc9 => absurd hc9 List.not_mem_nil, hW.2⟩, a, b, ac, hab, x0, hT, hF, hU, hK, hA, hB, hR, hZ⟩, hfA⟩

set_option maxHeartbeats 1000000 in
set_option maxRecDepth 100000 in
theorem c_X4_fault (l : Launch) {w : mW} {h : Nat} {D : mD} (hX : isX w h D) : Ci l yX4_fault cX4_fault 1 (some .int) 5 [vr h] w (fun z w' => z = (rdD D).1 ∧ isX w' h D ∧ frR w w' h (h + 115)) := by
  refine Ci.of (ml := [some (vr h)]) kyX4_fault rfl (Nat.le_of_ble_eq_true rfl) rfl ?_
  intro t n C hQ
  have hX2 := hX
  obtain ⟨hW, a, b, ac, hab, x0, hT, hF, hU, hK, hA, hB, hR, hZ⟩ := hX
  have hfA : frR w w h (h + 115) := frR.rf
  obtain ⟨j1, j2, j3, j4, j5, j6, hs⟩ := id hF
  obtain ⟨k1, k2, k3, k4, k5, k6, k7, hc⟩ := id hA
  have u0 := hU.o0
  have k0 := hK.o0
  obtain ⟨t1, t2, ht⟩ := id hT
  obtain ⟨_, _, _, _, _, _, _, _, _, _, _, _, _, hr7⟩ := id hR
  obtain ⟨_, _, _, _, _, _, _, _, _, _, hr8⟩ := id hZ
  have hlen := isSh.len hF
  have hlS := isSc.len hA
  have hwT := (wfF_iff D.F).mp hW.2.1
  have hsm := hW.2.1.sm
  refine x_aload_n C dX4_fault_0 rfl ?_
  refine x_get C dX4_fault_1 kfX4_12 (x0) rfl ?_
  refine x_aload_n C dX4_fault_4 rfl ?_
  refine x_get C dX4_fault_5 kfX4_45 (x0) rfl ?_
  refine y_i1 C dX4_fault_8 kyX3_readInto knX3_readInto kmX4_67 ht.o (c_X3_readInto l hT (by omega) hR) (by decide) (Nat.zero_le _) (Nat.zero_le _) (Nat.le_of_ble_eq_true rfl) (fun z8 w8 q8 => ?_)
  obtain ⟨hf2, hT, q8a, q8b, hR⟩ := q8
  obtain ⟨w1, hg1, hg2⟩ := hf2.split
  have x0 := (hg2 _ (by omega)).trans ((hg1 _ (by omega)).trans x0)
  have hF := (hF.fr hg1 (by omega)).fr hg2 (by omega)
  have hU := (hU.fr hg1 (by omega)).fr hg2 (by omega)
  have hK := (hK.fr hg1 (by omega)).fr hg2 (by omega)
  have hA := (hA.fr hg1 (by omega)).fr hg2 (by omega)
  have hB := (hB.fr hg1 (by omega)).fr hg2 (by omega)
  have hZ := (hZ.fr hg1 (by omega)).fr hg2 (by omega)
  have hfA := (hfA.tr (hg1.wd (by omega) (by omega))).tr (hg2.wd (by omega) (by omega))
  obtain ⟨j1, j2, j3, j4, j5, j6, hs⟩ := id hF
  obtain ⟨k1, k2, k3, k4, k5, k6, k7, hc⟩ := id hA
  have u0 := hU.o0
  have k0 := hK.o0
  obtain ⟨t1, t2, ht⟩ := id hT
  obtain ⟨_, _, _, _, _, _, _, _, _, _, _, _, _, hr7⟩ := id hR
  obtain ⟨_, _, _, _, _, _, _, _, _, _, hr8⟩ := id hZ
  refine x_iret C hQ dX4_fault_11 (Nat.le_refl _) (Nat.le_refl _) ?_
  exact ⟨rfl, _, rfl, q8a, ⟨hW, a, b, ac, hab, x0, hT, hF, hU, hK, hA, hB, hR, hZ⟩, hfA⟩

set_option maxHeartbeats 1000000 in
set_option maxRecDepth 100000 in
theorem c_X4_lay (l : Launch) {w : mW} {h : Nat} {D : mD} (hX : isX w h D) : Ci l yX4_lay cX4_lay 1 (some .int) 6 [vr h] w (fun z w' => z = (f_lay D).1 ∧ isX w' h (f_lay D).2 ∧ frR w w' h (h + 115)) := by
  refine Ci.of (ml := [some (vr h)]) kyX4_lay rfl (Nat.le_of_ble_eq_true rfl) rfl ?_
  intro t n C hQ
  have hX2 := hX
  obtain ⟨hW, a, b, ac, hab, x0, hT, hF, hU, hK, hA, hB, hR, hZ⟩ := hX
  have hfA : frR w w h (h + 115) := frR.rf
  obtain ⟨j1, j2, j3, j4, j5, j6, hs⟩ := id hF
  obtain ⟨k1, k2, k3, k4, k5, k6, k7, hc⟩ := id hA
  have u0 := hU.o0
  have k0 := hK.o0
  obtain ⟨t1, t2, ht⟩ := id hT
  obtain ⟨_, _, _, _, _, _, _, _, _, _, _, _, _, hr7⟩ := id hR
  obtain ⟨_, _, _, _, _, _, _, _, _, _, hr8⟩ := id hZ
  have hlen := isSh.len hF
  have hlS := isSc.len hA
  have hwT := (wfF_iff D.F).mp hW.2.1
  have hsm := hW.2.1.sm
  refine x_aload_n C dX4_lay_0 rfl ?_
  refine x_get C dX4_lay_1 kfX4_12 (x0) rfl ?_
  refine x_aload_n C dX4_lay_4 rfl ?_
  refine x_get C dX4_lay_5 kfX4_45 (x0) rfl ?_
  refine y_i1 C dX4_lay_8 kyX3_readInto knX3_readInto kmX4_67 ht.o (c_X3_readInto l hT (by omega) hR) (by decide) (Nat.zero_le _) (Nat.zero_le _) (Nat.le_of_ble_eq_true rfl) (fun z8 w8 q8 => ?_)
  obtain ⟨hf2, hT, q8a, q8b, hR⟩ := q8
  obtain ⟨w1, hg1, hg2⟩ := hf2.split
  have x0 := (hg2 _ (by omega)).trans ((hg1 _ (by omega)).trans x0)
  have hF := (hF.fr hg1 (by omega)).fr hg2 (by omega)
  have hU := (hU.fr hg1 (by omega)).fr hg2 (by omega)
  have hK := (hK.fr hg1 (by omega)).fr hg2 (by omega)
  have hA := (hA.fr hg1 (by omega)).fr hg2 (by omega)
  have hB := (hB.fr hg1 (by omega)).fr hg2 (by omega)
  have hZ := (hZ.fr hg1 (by omega)).fr hg2 (by omega)
  have hfA := (hfA.tr (hg1.wd (by omega) (by omega))).tr (hg2.wd (by omega) (by omega))
  obtain ⟨j1, j2, j3, j4, j5, j6, hs⟩ := id hF
  obtain ⟨k1, k2, k3, k4, k5, k6, k7, hc⟩ := id hA
  have u0 := hU.o0
  have k0 := hK.o0
  obtain ⟨t1, t2, ht⟩ := id hT
  obtain ⟨_, _, _, _, _, _, _, _, _, _, _, _, _, hr7⟩ := id hR
  obtain ⟨_, _, _, _, _, _, _, _, _, _, hr8⟩ := id hZ
  refine x_bipush C dX4_lay_11 ⟨by decide, by decide⟩ ?_
  refine x_icmp_eq (tgt := 19) C dX4_lay_13 (by decide) (fun c13 => ?_) (fun c13 => ?_)
  · refine x_aload_n C dX4_lay_19 rfl ?_
    refine x_get C dX4_lay_20 kfX4_32 (x0) rfl ?_
    refine x_iconst C dX4_lay_23 ⟨by decide, by decide⟩ ?_
    refine x_put C dX4_lay_24 kfX4_77 kw_0_1 rfl rfl (k0) (Nat.le_of_ble_eq_true rfl) ?_
    have hGF := q8b (by omega)
    have hwG : wfF (rdD D).2 := wf_rdT _ _ _ _ (by omega) wf_00 (fun _ => ⟨rfl, rfl⟩)
    show J t 0 0 27 [some (vr h)] [] n (mu w8 (h + 69) (co 0 [vr (h + 69 + 1), vi 0]))
    have hK := hK.zero
    have hf3 : frR w8 (mu w8 (h + 69) (co 0 [vr (h + 69 + 1), vi 0])) (h + 69) (h + 69) := fun q hq => mu_ne _ _ (by omega)
    generalize (mu w8 (h + 69) (co 0 [vr (h + 69 + 1), vi 0])) = w6 at hf3 hK ⊢
    have hGF := isF.fr hGF hf3 (by omega)
    have x0 := (hf3 _ (by omega)).trans x0
    have hT := hT.fr hf3 (by omega)
    have hF := hF.fr hf3 (by omega)
    have hU := hU.fr hf3 (by omega)
    have hA := hA.fr hf3 (by omega)
    have hB := hB.fr hf3 (by omega)
    have hR := hR.fr hf3 (by omega)
    have hZ := hZ.fr hf3 (by omega)
    have hfA := hfA.tr (hf3.wd (by omega) (by omega))
    obtain ⟨j1, j2, j3, j4, j5, j6, hs⟩ := id hF
    obtain ⟨k1, k2, k3, k4, k5, k6, k7, hc⟩ := id hA
    have u0 := hU.o0
    have k0 := hK.o0
    obtain ⟨t1, t2, ht⟩ := id hT
    obtain ⟨_, _, _, _, _, _, _, _, _, _, _, _, _, hr7⟩ := id hR
    obtain ⟨_, _, _, _, _, _, _, _, _, _, hr8⟩ := id hZ
    refine x_aload_n C dX4_lay_27 rfl ?_
    refine x_aload_n C dX4_lay_28 rfl ?_
    refine x_get C dX4_lay_29 kfX4_45 (x0) rfl ?_
    refine y_v1 C dX4_lay_32 kyX4_startAnew knX4_startAnew kmX4_80 (x0) (c_X4_startAnew l (D := (D.tx, D.F, D.U, [], D.O)) (G := (rdD D).2) ⟨a, b, ac, hab, x0, hT, hF, hU, hK, hA, hB, hR, hZ⟩ hGF hwG) (by decide) (Nat.zero_le _) (Nat.zero_le _) (Nat.le_of_ble_eq_true rfl) (fun w32 q32 => ?_)
    have hfB := hfA.tr q32.2
    obtain ⟨a, b, ac, hab, x0, hT, hF, hU, hK, hA, hB, hR, hZ⟩ := id q32.1
    obtain ⟨j1, j2, j3, j4, j5, j6, hs⟩ := id hF
    obtain ⟨k1, k2, k3, k4, k5, k6, k7, hc⟩ := id hA
    have u0 := hU.o0
    have k0 := hK.o0
    obtain ⟨t1, t2, ht⟩ := id hT
    obtain ⟨_, _, _, _, _, _, _, _, _, _, _, _, _, hr7⟩ := id hR
    obtain ⟨_, _, _, _, _, _, _, _, _, _, hr8⟩ := id hZ
    refine x_aload_n C dX4_lay_35 rfl ?_
    refine x_get C dX4_lay_36 kfX4_19 (x0) rfl ?_
    refine x_get C dX4_lay_39 kfX4_84 hs.o rfl ?_
    refine x_iret C hQ dX4_lay_42 (Nat.le_refl _) (Nat.le_refl _) ?_
    exact ⟨rfl, _, rfl, by rw [f_lay, if_neg (by rw [rdD, ← q8a]; omega)]; exact ⟨rfl, ⟨⟨hW.1, hwG, fun G hG => absurd hG List.not_mem_nil, fun G hG => absurd hG List.not_mem_nil, fun G hG => by cases hG⟩, q32.1⟩, hfB⟩⟩
  · refine x_bipush C dX4_lay_16 ⟨by decide, by decide⟩ ?_
    refine x_iret C hQ dX4_lay_18 (Nat.le_refl _) (Nat.le_refl _) ?_
    exact ⟨rfl, _, rfl, by rw [f_lay, if_pos (by rw [rdD, ← q8a]; omega)]; exact ⟨rfl, ⟨hW, a, b, ac, hab, x0, hT, hF, hU, hK, hA, hB, hR, hZ⟩, hfA⟩⟩

theorem last_cases {α : Type} (L : List α) : L = [] ∨ ∃ P x, L = P ++ [x] := by
  rcases List.eq_nil_or_concat L with h | ⟨P, x, h⟩
  · exact Or.inl h
  · exact Or.inr ⟨P, x, by simpa using h⟩

theorem f_undo_c {D : mD} {L0 : List mF} {G : mF} (hL : D.U = L0 ++ [G]) : f_undo D = ((L0.length : Int), (D.tx, G, L0, D.K, some D.F)) := by
  unfold f_undo
  rw [hL]
  simp
theorem f_back_c {D : mD} {L0 : List mF} {G : mF} (hL : D.K = L0 ++ [G]) : f_back D = ((L0.length : Int), (D.tx, G, [], L0, none)) := by
  unfold f_back
  rw [hL]
  simp

set_option maxHeartbeats 1000000 in
set_option maxRecDepth 100000 in
theorem c_X4_undo (l : Launch) {w : mW} {h : Nat} {D : mD} (hX : isX w h D) : Ci l yX4_undo cX4_undo 1 (some .int) 6 [vr h] w (fun z w' => z = (f_undo D).1 ∧ isX w' h (f_undo D).2 ∧ frR w w' h (h + 115)) := by
  refine Ci.of (ml := [some (vr h)]) kyX4_undo rfl (Nat.le_of_ble_eq_true rfl) rfl ?_
  intro t n C hQ
  have hX2 := hX
  obtain ⟨hW, a, b, ac, hab, x0, hT, hF, hU, hK, hA, hB, hR, hZ⟩ := hX
  have hfA : frR w w h (h + 115) := frR.rf
  obtain ⟨j1, j2, j3, j4, j5, j6, hs⟩ := id hF
  obtain ⟨k1, k2, k3, k4, k5, k6, k7, hc⟩ := id hA
  have u0 := hU.o0
  have k0 := hK.o0
  obtain ⟨t1, t2, ht⟩ := id hT
  obtain ⟨_, _, _, _, _, _, _, _, _, _, _, _, _, hr7⟩ := id hR
  obtain ⟨_, _, _, _, _, _, _, _, _, _, hr8⟩ := id hZ
  have hlen := isSh.len hF
  have hlS := isSc.len hA
  have hwT := (wfF_iff D.F).mp hW.2.1
  have hsm := hW.2.1.sm
  rcases last_cases D.U with hL | ⟨L0, G, hL⟩
  · refine x_aload_n C dX4_undo_0 rfl ?_
    refine x_get C dX4_undo_1 kfX4_28 (x0) rfl ?_
    refine x_aload_n C dX4_undo_4 rfl ?_
    refine x_get C dX4_undo_5 kfX4_19 (x0) rfl ?_
    refine y_p1 C dX4_undo_8 kyX0_popInto knX0_popInto kmX4_188 (u0) (c_X0_popInto0 l (hL ▸ hU)) (by decide) (Nat.zero_le _) (Nat.zero_le _) (Nat.le_of_ble_eq_true rfl) (fun z8 q8 => ?_)
    refine x_if_ne (tgt := 17) C dX4_undo_11 (by decide) (fun c11 => absurd c11 (by omega)) (fun c11 => ?_)
    refine x_bipush C dX4_undo_14 ⟨by decide, by decide⟩ ?_
    refine x_iret C hQ dX4_undo_16 (Nat.le_refl _) (Nat.le_refl _) ?_
    exact ⟨rfl, _, rfl, by rw [f_undo, hL]; exact ⟨rfl, hX2, frR.rf⟩⟩
  · refine x_aload_n C dX4_undo_0 rfl ?_
    refine x_get C dX4_undo_1 kfX4_28 (x0) rfl ?_
    refine x_aload_n C dX4_undo_4 rfl ?_
    refine x_get C dX4_undo_5 kfX4_19 (x0) rfl ?_
    refine y_i1 C dX4_undo_8 kyX0_popInto knX0_popInto kmX4_188 (u0) (c_X0_popInto1 l (hL ▸ hU) (by omega) hF.any (by omega)) (by decide) (Nat.zero_le _) (Nat.zero_le _) (Nat.le_of_ble_eq_true rfl) (fun z8 w8 q8 => ?_)
    obtain ⟨q8a, w1, hg1, hg2, hU, hF9⟩ := q8
    have x0 := (hg2 _ (by omega)).trans ((hg1 _ (by omega)).trans x0)
    have hT := (hT.fr hg1 (by omega)).fr hg2 (by omega)
    have hF := hF9
    have hK := (hK.fr hg1 (by omega)).fr hg2 (by omega)
    have hA := (hA.fr hg1 (by omega)).fr hg2 (by omega)
    have hB := (hB.fr hg1 (by omega)).fr hg2 (by omega)
    have hR := (hR.fr hg1 (by omega)).fr hg2 (by omega)
    have hZ := (hZ.fr hg1 (by omega)).fr hg2 (by omega)
    have hfA := (hfA.tr (hg1.wd (by omega) (by omega))).tr (hg2.wd (by omega) (by omega))
    have hwf : wfF G := hW.2.2.1 G (by rw [hL]; simp)
    obtain ⟨j1, j2, j3, j4, j5, j6, hs⟩ := id hF
    obtain ⟨k1, k2, k3, k4, k5, k6, k7, hc⟩ := id hA
    have u0 := hU.o0
    have k0 := hK.o0
    obtain ⟨t1, t2, ht⟩ := id hT
    obtain ⟨_, _, _, _, _, _, _, _, _, _, _, _, _, hr7⟩ := id hR
    obtain ⟨_, _, _, _, _, _, _, _, _, _, hr8⟩ := id hZ
    refine x_if_ne (tgt := 17) C dX4_undo_11 (by decide) (fun c11 => ?_) (fun c11 => absurd c11 (by omega))
    refine x_aload_n C dX4_undo_17 rfl ?_
    refine y_v0 C dX4_undo_18 kyX4_redraw knX4_redraw kmX4_131 (x0) (c_X4_redraw l (tx := D.tx) (F := G) (G := D.F) (U := L0) (K := D.K) ⟨a, b, ac, hab, x0, hT, hF, hU, hK, hA, hB.any, hR, hZ⟩ hwf) (by decide) (Nat.zero_le _) (Nat.zero_le _) (Nat.le_of_ble_eq_true rfl) (fun w18 q18 => ?_)
    have hfB := hfA.tr q18.2
    obtain ⟨a, b, ac, hab, x0, hT, hF, hU, hK, hA, hB, hR, hZ⟩ := id q18.1
    obtain ⟨j1, j2, j3, j4, j5, j6, hs⟩ := id hF
    obtain ⟨k1, k2, k3, k4, k5, k6, k7, hc⟩ := id hA
    have u0 := hU.o0
    have k0 := hK.o0
    obtain ⟨t1, t2, ht⟩ := id hT
    obtain ⟨_, _, _, _, _, _, _, _, _, _, _, _, _, hr7⟩ := id hR
    obtain ⟨_, _, _, _, _, _, _, _, _, _, hr8⟩ := id hZ
    refine x_aload_n C dX4_undo_21 rfl ?_
    refine x_get C dX4_undo_22 kfX4_28 (x0) rfl ?_
    refine x_get C dX4_undo_25 kfX4_77 (u0) rfl ?_
    refine x_iret C hQ dX4_undo_28 (Nat.le_refl _) (Nat.le_refl _) ?_
    exact ⟨rfl, _, rfl, by rw [f_undo_c hL]; exact ⟨rfl, ⟨⟨hW.1, hwf, fun G' hG' => hW.2.2.1 G' (by rw [hL]; simp [hG']), hW.2.2.2.1, fun G' hG' => by cases hG'; exact hW.2.1⟩, q18.1⟩, hfB⟩⟩

set_option maxHeartbeats 1000000 in
set_option maxRecDepth 100000 in
theorem c_X4_keep (l : Launch) {w : mW} {h : Nat} {D : mD} (hX : isX w h D) : Ci l yX4_keep cX4_keep 1 (some .int) 3 [vr h] w (fun z w' => z = (f_keep D).1 ∧ isX w' h (f_keep D).2 ∧ frR w w' h (h + 115)) := by
  refine Ci.of (ml := [some (vr h)]) kyX4_keep rfl (Nat.le_of_ble_eq_true rfl) rfl ?_
  intro t n C hQ
  have hX2 := hX
  obtain ⟨hW, a, b, ac, hab, x0, hT, hF, hU, hK, hA, hB, hR, hZ⟩ := hX
  have hfA : frR w w h (h + 115) := frR.rf
  obtain ⟨j1, j2, j3, j4, j5, j6, hs⟩ := id hF
  obtain ⟨k1, k2, k3, k4, k5, k6, k7, hc⟩ := id hA
  have u0 := hU.o0
  have k0 := hK.o0
  obtain ⟨t1, t2, ht⟩ := id hT
  obtain ⟨_, _, _, _, _, _, _, _, _, _, _, _, _, hr7⟩ := id hR
  obtain ⟨_, _, _, _, _, _, _, _, _, _, hr8⟩ := id hZ
  have hlen := isSh.len hF
  have hlS := isSc.len hA
  have hwT := (wfF_iff D.F).mp hW.2.1
  have hsm := hW.2.1.sm
  obtain ⟨hs9, hp9, p90, p91, hlK, -⟩ := id hK
  have hp9l := hp9.1
  refine x_aload_n C dX4_keep_0 rfl ?_
  refine x_get C dX4_keep_1 kfX4_32 (x0) rfl ?_
  refine y_p0 C dX4_keep_4 kyX0_isFull knX0_isFull kmX4_246 (k0) (c_X0_isFull l p90 p91 (by omega)) (by decide) (Nat.zero_le _) (Nat.zero_le _) (Nat.le_of_ble_eq_true rfl) (fun z4 q4 => ?_)
  refine x_if_eq (tgt := 13) C dX4_keep_7 (by decide) (fun c7 => ?_) (fun c7 => ?_)
  · refine x_aload_n C dX4_keep_13 rfl ?_
    refine x_get C dX4_keep_14 kfX4_32 (x0) rfl ?_
    refine x_aload_n C dX4_keep_17 rfl ?_
    refine x_get C dX4_keep_18 kfX4_19 (x0) rfl ?_
    refine y_v1 C dX4_keep_21 kyX0_push knX0_push kmX4_124 (k0) (c_X0_push l hK (by omega) hF (by omega)) (by decide) (Nat.zero_le _) (Nat.zero_le _) (Nat.le_of_ble_eq_true rfl) (fun w21 q21 => ?_)
    obtain ⟨hK, hf9⟩ := q21
    rw [pushL, if_pos (by omega)] at hK
    have x0 := (hf9 _ (by omega)).trans x0
    have hT := hT.fr hf9 (by omega)
    have hF := hF.fr hf9 (by omega)
    have hU := hU.fr hf9 (by omega)
    have hA := hA.fr hf9 (by omega)
    have hB := hB.fr hf9 (by omega)
    have hR := hR.fr hf9 (by omega)
    have hZ := hZ.fr hf9 (by omega)
    have hfA := hfA.tr (hf9.wd (by omega) (by omega))
    obtain ⟨j1, j2, j3, j4, j5, j6, hs⟩ := id hF
    obtain ⟨k1, k2, k3, k4, k5, k6, k7, hc⟩ := id hA
    have u0 := hU.o0
    have k0 := hK.o0
    obtain ⟨t1, t2, ht⟩ := id hT
    obtain ⟨_, _, _, _, _, _, _, _, _, _, _, _, _, hr7⟩ := id hR
    obtain ⟨_, _, _, _, _, _, _, _, _, _, hr8⟩ := id hZ
    refine x_aload_n C dX4_keep_24 rfl ?_
    refine x_get C dX4_keep_25 kfX4_32 (x0) rfl ?_
    refine x_get C dX4_keep_28 kfX4_77 (k0) rfl ?_
    refine x_iret C hQ dX4_keep_31 (Nat.le_refl _) (Nat.le_refl _) ?_
    exact ⟨rfl, _, rfl, by rw [f_keep, if_neg (by omega)]; exact ⟨by simp, ⟨⟨hW.1, hW.2.1, hW.2.2.1, fun G hG => by rcases List.mem_append.mp hG with h9 | h9; exact hW.2.2.2.1 G h9; rw [show G = D.F by simpa using h9]; exact hW.2.1, hW.2.2.2.2⟩, a, b, ac, hab, x0, hT, hF, hU, hK, hA, hB, hR, hZ⟩, hfA⟩⟩
  · refine x_bipush C dX4_keep_10 ⟨by decide, by decide⟩ ?_
    refine x_iret C hQ dX4_keep_12 (Nat.le_refl _) (Nat.le_refl _) ?_
    exact ⟨rfl, _, rfl, by rw [f_keep, if_pos (by omega)]; exact ⟨by first | rfl | assumption, hX2, frR.rf⟩⟩

set_option maxHeartbeats 1000000 in
set_option maxRecDepth 100000 in
theorem c_X4_back (l : Launch) {w : mW} {h : Nat} {D : mD} (hX : isX w h D) : Ci l yX4_back cX4_back 1 (some .int) 6 [vr h] w (fun z w' => z = (f_back D).1 ∧ isX w' h (f_back D).2 ∧ frR w w' h (h + 115)) := by
  refine Ci.of (ml := [some (vr h)]) kyX4_back rfl (Nat.le_of_ble_eq_true rfl) rfl ?_
  intro t n C hQ
  have hX2 := hX
  obtain ⟨hW, a, b, ac, hab, x0, hT, hF, hU, hK, hA, hB, hR, hZ⟩ := hX
  have hfA : frR w w h (h + 115) := frR.rf
  obtain ⟨j1, j2, j3, j4, j5, j6, hs⟩ := id hF
  obtain ⟨k1, k2, k3, k4, k5, k6, k7, hc⟩ := id hA
  have u0 := hU.o0
  have k0 := hK.o0
  obtain ⟨t1, t2, ht⟩ := id hT
  obtain ⟨_, _, _, _, _, _, _, _, _, _, _, _, _, hr7⟩ := id hR
  obtain ⟨_, _, _, _, _, _, _, _, _, _, hr8⟩ := id hZ
  have hlen := isSh.len hF
  have hlS := isSc.len hA
  have hwT := (wfF_iff D.F).mp hW.2.1
  have hsm := hW.2.1.sm
  rcases last_cases D.K with hL | ⟨L0, G, hL⟩
  · refine x_aload_n C dX4_back_0 rfl ?_
    refine x_get C dX4_back_1 kfX4_32 (x0) rfl ?_
    refine x_aload_n C dX4_back_4 rfl ?_
    refine x_get C dX4_back_5 kfX4_45 (x0) rfl ?_
    refine y_p1 C dX4_back_8 kyX0_popInto knX0_popInto kmX4_188 (k0) (c_X0_popInto0 l (hL ▸ hK)) (by decide) (Nat.zero_le _) (Nat.zero_le _) (Nat.le_of_ble_eq_true rfl) (fun z8 q8 => ?_)
    refine x_if_ne (tgt := 17) C dX4_back_11 (by decide) (fun c11 => absurd c11 (by omega)) (fun c11 => ?_)
    refine x_bipush C dX4_back_14 ⟨by decide, by decide⟩ ?_
    refine x_iret C hQ dX4_back_16 (Nat.le_refl _) (Nat.le_refl _) ?_
    exact ⟨rfl, _, rfl, by rw [f_back, hL]; exact ⟨rfl, hX2, frR.rf⟩⟩
  · refine x_aload_n C dX4_back_0 rfl ?_
    refine x_get C dX4_back_1 kfX4_32 (x0) rfl ?_
    refine x_aload_n C dX4_back_4 rfl ?_
    refine x_get C dX4_back_5 kfX4_45 (x0) rfl ?_
    refine y_i1 C dX4_back_8 kyX0_popInto knX0_popInto kmX4_188 (k0) (c_X0_popInto1 l (hL ▸ hK) (by omega) hR (by omega)) (by decide) (Nat.zero_le _) (Nat.zero_le _) (Nat.le_of_ble_eq_true rfl) (fun z8 w8 q8 => ?_)
    obtain ⟨q8a, w1, hg1, hg2, hK, hGF⟩ := q8
    have x0 := (hg2 _ (by omega)).trans ((hg1 _ (by omega)).trans x0)
    have hT := (hT.fr hg1 (by omega)).fr hg2 (by omega)
    have hF := (hF.fr hg1 (by omega)).fr hg2 (by omega)
    have hU := (hU.fr hg1 (by omega)).fr hg2 (by omega)
    have hA := (hA.fr hg1 (by omega)).fr hg2 (by omega)
    have hB := (hB.fr hg1 (by omega)).fr hg2 (by omega)
    have hR := hGF.any
    have hZ := (hZ.fr hg1 (by omega)).fr hg2 (by omega)
    have hfA := (hfA.tr (hg1.wd (by omega) (by omega))).tr (hg2.wd (by omega) (by omega))
    have hwf : wfF G := hW.2.2.2.1 G (by rw [hL]; simp)
    obtain ⟨j1, j2, j3, j4, j5, j6, hs⟩ := id hF
    obtain ⟨k1, k2, k3, k4, k5, k6, k7, hc⟩ := id hA
    have u0 := hU.o0
    have k0 := hK.o0
    obtain ⟨t1, t2, ht⟩ := id hT
    obtain ⟨_, _, _, _, _, _, _, _, _, _, _, _, _, hr7⟩ := id hR
    obtain ⟨_, _, _, _, _, _, _, _, _, _, hr8⟩ := id hZ
    refine x_if_ne (tgt := 17) C dX4_back_11 (by decide) (fun c11 => ?_) (fun c11 => absurd c11 (by omega))
    refine x_aload_n C dX4_back_17 rfl ?_
    refine x_aload_n C dX4_back_18 rfl ?_
    refine x_get C dX4_back_19 kfX4_45 (x0) rfl ?_
    refine y_v1 C dX4_back_22 kyX4_startAnew knX4_startAnew kmX4_80 (x0) (c_X4_startAnew l (D := (D.tx, D.F, D.U, L0, D.O)) (G := G) ⟨a, b, ac, hab, x0, hT, hF, hU, hK, hA, hB, hR, hZ⟩ hGF hwf) (by decide) (Nat.zero_le _) (Nat.zero_le _) (Nat.le_of_ble_eq_true rfl) (fun w22 q22 => ?_)
    have hfB := hfA.tr q22.2
    obtain ⟨a, b, ac, hab, x0, hT, hF, hU, hK, hA, hB, hR, hZ⟩ := id q22.1
    obtain ⟨j1, j2, j3, j4, j5, j6, hs⟩ := id hF
    obtain ⟨k1, k2, k3, k4, k5, k6, k7, hc⟩ := id hA
    have u0 := hU.o0
    have k0 := hK.o0
    obtain ⟨t1, t2, ht⟩ := id hT
    obtain ⟨_, _, _, _, _, _, _, _, _, _, _, _, _, hr7⟩ := id hR
    obtain ⟨_, _, _, _, _, _, _, _, _, _, hr8⟩ := id hZ
    refine x_aload_n C dX4_back_25 rfl ?_
    refine x_get C dX4_back_26 kfX4_32 (x0) rfl ?_
    refine x_get C dX4_back_29 kfX4_77 (k0) rfl ?_
    refine x_iret C hQ dX4_back_32 (Nat.le_refl _) (Nat.le_refl _) ?_
    exact ⟨rfl, _, rfl, by rw [f_back_c hL]; exact ⟨rfl, ⟨⟨hW.1, hwf, fun G' hG' => absurd hG' List.not_mem_nil, fun G' hG' => hW.2.2.2.1 G' (by rw [hL]; simp [hG']), fun G' hG' => by cases hG'⟩, q22.1⟩, hfB⟩⟩
