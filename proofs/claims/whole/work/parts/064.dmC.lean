/-! ===== DisplayMap: acts ===== -/
set_option maxHeartbeats 1000000 in
set_option maxRecDepth 100000 in
theorem c_X4_redraw (l : Launch) {w : mW} {h : Nat} {tx : List Int} {F G : mF} {U K : List mF} (hY : isY w h tx F U K (scr G)) (hW : wfF F) : Cv l yX4_redraw cX4_redraw 2 5 [vr h] w (fun w' => isXo w' h (tx, F, U, K, some G) ∧ frR w w' h (h + 115)) := by
  refine Cv.of (ml := [some (vr h), none]) kyX4_redraw rfl (Nat.le_of_ble_eq_true rfl) rfl ?_
  intro t n C hQ
  obtain ⟨a, b, ac, hab, x0, hT, hF, hU, hK, hA, hB, hR, hZ⟩ := hY
  have hfA : frR w w h (h + 115) := frR.rf
  obtain ⟨j1, j2, j3, j4, j5, j6, hs⟩ := id hF
  obtain ⟨_, _, _, _, _, _, _, _, _, _, hc⟩ := id hB
  have ha0 : ∃ fs, w a = some (co 1 fs) := by
    obtain ⟨_, _, _, _, _, _, _, hr⟩ := id hA
    exact ⟨_, hr.o⟩
  refine x_aload_n C dX4_redraw_0 rfl ?_
  refine x_get C dX4_redraw_1 kfX4_42 (x0) rfl ?_
  refine s_ast2_1 C dX4_redraw_4 rfl ?_
  refine x_aload_n C dX4_redraw_5 rfl ?_
  refine x_aload_n C dX4_redraw_6 rfl ?_
  refine x_get C dX4_redraw_7 kfX4_38 (x0) rfl ?_
  refine x_put C dX4_redraw_10 kfX4_42 kw_4_5 rfl rfl (x0) (Nat.le_of_ble_eq_true rfl) ?_
  refine x_aload_n C dX4_redraw_13 rfl ?_
  refine x_aload_n C dX4_redraw_14 rfl ?_
  refine x_putU C dX4_redraw_15 kfX4_38 kw_4_4 rfl rfl (Nat.le_of_ble_eq_true rfl) ?_
  show J t 0 0 18 [some (vr h), some (vr b)] [] n (mu w h (co 4 [vr (h + 1), vr (h + 4), vr (h + 11), vr (h + 69), vr b, vr a, vi ac, vr (h + 101), vr (h + 108)]))
  have hf3 : frR w (mu w h (co 4 [vr (h + 1), vr (h + 4), vr (h + 11), vr (h + 69), vr b, vr a, vi ac, vr (h + 101), vr (h + 108)])) h h := fun q hq => mu_ne _ _ (by omega)
  have x0 : (mu w h (co 4 [vr (h + 1), vr (h + 4), vr (h + 11), vr (h + 69), vr b, vr a, vi ac, vr (h + 101), vr (h + 108)])) h = some (co 4 [vr (h + 1), vr (h + 4), vr (h + 11), vr (h + 69), vr b, vr a, vi ac, vr (h + 101), vr (h + 108)]) := mu_eq _ _ _
  generalize (mu w h (co 4 [vr (h + 1), vr (h + 4), vr (h + 11), vr (h + 69), vr b, vr a, vi ac, vr (h + 101), vr (h + 108)])) = w3 at hf3 x0 ⊢
  have hT := hT.fr hf3 (by omega)
  have hF := hF.fr hf3 (by omega)
  have hU := hU.fr hf3 (by omega)
  have hK := hK.fr hf3 (by omega)
  have hA := hA.fr hf3 (by omega)
  have hB := hB.fr hf3 (by omega)
  have hR := hR.fr hf3 (by omega)
  have hZ := hZ.fr hf3 (by omega)
  have hfA := hfA.tr (hf3.wd (by omega) (by omega))
  obtain ⟨j1, j2, j3, j4, j5, j6, hs⟩ := id hF
  obtain ⟨_, _, _, _, _, _, _, _, _, _, hc⟩ := id hB
  refine x_aload_n C dX4_redraw_18 rfl ?_
  refine x_get C dX4_redraw_19 kfX4_38 (x0) rfl ?_
  refine x_aload_n C dX4_redraw_22 rfl ?_
  refine x_get C dX4_redraw_23 kfX4_19 (x0) rfl ?_
  refine y_i1 C dX4_redraw_26 kyX1_draw knX1_draw kmX4_74 (hc.o) (c_X1_draw l hc hF (by omega) hW) (by decide) (Nat.zero_le _) (Nat.zero_le _) (Nat.le_of_ble_eq_true rfl) (fun z26 w26 q26 => ?_)
  obtain ⟨-, hS9, hf9⟩ := q26
  have x0 := (hf9 _ (by omega)).trans x0
  have hT := hT.fr hf9 (by omega)
  have hF := hF.fr hf9 (by omega)
  have hU := hU.fr hf9 (by omega)
  have hK := hK.fr hf9 (by omega)
  have hA := hA.fr hf9 (by omega)
  have hR := hR.fr hf9 (by omega)
  have hZ := hZ.fr hf9 (by omega)
  have hfA := hfA.tr (hf9.wd (by omega) (by omega))
  refine x_pop C dX4_redraw_29 rfl ?_
  refine x_aload_n C dX4_redraw_30 rfl ?_
  refine x_iconst C dX4_redraw_31 ⟨by decide, by decide⟩ ?_
  refine x_put C dX4_redraw_32 kfX4_261 kw_4_6 (nar_z (by first | exact Or.inl rfl | exact Or.inr rfl | assumption | omega)).1 (nar_z (by first | exact Or.inl rfl | exact Or.inr rfl | assumption | omega)).2 (x0) (Nat.le_of_ble_eq_true rfl) ?_
  refine x_vret C hQ dX4_redraw_35 (Nat.le_refl _) (Nat.le_refl _) ?_
  have hf5 : frR w26 (mu w26 h (co 4 [vr (h + 1), vr (h + 4), vr (h + 11), vr (h + 69), vr b, vr a, vi 1, vr (h + 101), vr (h + 108)])) h h := fun q hq => mu_ne _ _ (by omega)
  refine ⟨rfl, rfl, ⟨b, a, 1, by omega, mu_eq _ _ _, hT.fr hf5 (by omega), hF.fr hf5 (by omega), hU.fr hf5 (by omega), hK.fr hf5 (by omega), isScr.fr hS9 hf5 (by omega), ⟨rfl, hA.fr hf5 (by omega)⟩, hR.fr hf5 (by omega), hZ.fr hf5 (by omega)⟩, hfA.tr (hf5.wd (by omega) (by omega))⟩

set_option maxHeartbeats 1000000 in
set_option maxRecDepth 100000 in
theorem c_X4_startAnew (l : Launch) {w : mW} {h : Nat} {D : mD} {G : mF} (hX : isXo w h D) (hG : isF w (h + 101) G) (hW : wfF G) : Cv l yX4_startAnew cX4_startAnew 2 5 [vr h, vr (h + 101)] w (fun w' => isXo w' h (D.tx, G, [], D.K, none) ∧ frR w w' h (h + 115)) := by
  refine Cv.of (ml := [some (vr h), some (vr (h + 101))]) kyX4_startAnew rfl (Nat.le_of_ble_eq_true rfl) rfl ?_
  intro t n C hQ
  obtain ⟨a, b, ac, hab, x0, hT, hF, hU, hK, hA, hB, hR, hZ⟩ := hX
  have hfA : frR w w h (h + 115) := frR.rf
  obtain ⟨j1, j2, j3, j4, j5, j6, hs⟩ := id hF
  obtain ⟨i1, i2, i3, i4, i5, i6, hg⟩ := id hG
  refine x_aload_n C dX4_startAnew_0 rfl ?_
  refine x_get C dX4_startAnew_1 kfX4_19 (x0) rfl ?_
  refine x_aload_n C dX4_startAnew_4 rfl ?_
  refine y_v1 C dX4_startAnew_5 kyX2_copyFrom knX2_copyFrom kmX4_232 (hs.o) (c_X2_copyFrom l hs hg (by omega)) (by decide) (Nat.zero_le _) (Nat.zero_le _) (Nat.le_of_ble_eq_true rfl) (fun w5 q5 => ?_)
  obtain ⟨hr5, hf5⟩ := q5
  have hF : isF w5 (h + 4) G := ⟨_, _, _, _, _, _, hr5⟩
  have x0 := (hf5 _ (by omega)).trans x0
  have hT := hT.fr hf5 (by omega)
  have hU := hU.fr hf5 (by omega)
  have hK := hK.fr hf5 (by omega)
  have hA := hA.fr hf5 (by omega)
  have hB := hB.fr hf5 (by omega)
  have hR := hR.fr hf5 (by omega)
  have hZ := hZ.fr hf5 (by omega)
  have hfA := hfA.tr (hf5.wd (by omega) (by omega))
  have u0 := hU.o0
  refine x_aload_n C dX4_startAnew_8 rfl ?_
  refine x_get C dX4_startAnew_9 kfX4_28 (x0) rfl ?_
  refine x_iconst C dX4_startAnew_12 ⟨by decide, by decide⟩ ?_
  refine x_put C dX4_startAnew_13 kfX4_77 kw_0_1 rfl rfl (u0) (Nat.le_of_ble_eq_true rfl) ?_
  show J t 0 0 16 [some (vr h), some (vr (h + 101))] [] n (mu w5 (h + 11) (co 0 [vr (h + 11 + 1), vi 0]))
  have hU := hU.zero
  have hf3 : frR w5 (mu w5 (h + 11) (co 0 [vr (h + 11 + 1), vi 0])) (h + 11) (h + 11) := fun q hq => mu_ne _ _ (by omega)
  generalize (mu w5 (h + 11) (co 0 [vr (h + 11 + 1), vi 0])) = w6 at hf3 hU ⊢
  have x0 := (hf3 _ (by omega)).trans x0
  have hT := hT.fr hf3 (by omega)
  have hF := hF.fr hf3 (by omega)
  have hK := hK.fr hf3 (by omega)
  have hA := hA.fr hf3 (by omega)
  have hB := hB.fr hf3 (by omega)
  have hR := hR.fr hf3 (by omega)
  have hZ := hZ.fr hf3 (by omega)
  have hfA := hfA.tr (hf3.wd (by omega) (by omega))
  refine x_aload_n C dX4_startAnew_16 rfl ?_
  refine x_iconst C dX4_startAnew_17 ⟨by decide, by decide⟩ ?_
  refine x_put C dX4_startAnew_18 kfX4_261 kw_4_6 (nar_z (by first | exact Or.inl rfl | exact Or.inr rfl | assumption | omega)).1 (nar_z (by first | exact Or.inl rfl | exact Or.inr rfl | assumption | omega)).2 (x0) (Nat.le_of_ble_eq_true rfl) ?_
  show J t 0 0 21 [some (vr h), some (vr (h + 101))] [] n (mu w6 h (co 4 [vr (h + 1), vr (h + 4), vr (h + 11), vr (h + 69), vr a, vr b, vi 0, vr (h + 101), vr (h + 108)]))
  have hf3 : frR w6 (mu w6 h (co 4 [vr (h + 1), vr (h + 4), vr (h + 11), vr (h + 69), vr a, vr b, vi 0, vr (h + 101), vr (h + 108)])) h h := fun q hq => mu_ne _ _ (by omega)
  have x0 : (mu w6 h (co 4 [vr (h + 1), vr (h + 4), vr (h + 11), vr (h + 69), vr a, vr b, vi 0, vr (h + 101), vr (h + 108)])) h = some (co 4 [vr (h + 1), vr (h + 4), vr (h + 11), vr (h + 69), vr a, vr b, vi 0, vr (h + 101), vr (h + 108)]) := mu_eq _ _ _
  generalize (mu w6 h (co 4 [vr (h + 1), vr (h + 4), vr (h + 11), vr (h + 69), vr a, vr b, vi 0, vr (h + 101), vr (h + 108)])) = w3 at hf3 x0 ⊢
  have hT := hT.fr hf3 (by omega)
  have hF := hF.fr hf3 (by omega)
  have hU := hU.fr hf3 (by omega)
  have hK := hK.fr hf3 (by omega)
  have hA := hA.fr hf3 (by omega)
  have hB := hB.fr hf3 (by omega)
  have hR := hR.fr hf3 (by omega)
  have hZ := hZ.fr hf3 (by omega)
  have hfA := hfA.tr (hf3.wd (by omega) (by omega))
  obtain ⟨_, _, _, _, _, _, _, hc⟩ := id hA
  obtain ⟨j1, j2, j3, j4, j5, j6, hs⟩ := id hF
  refine x_aload_n C dX4_startAnew_21 rfl ?_
  refine x_get C dX4_startAnew_22 kfX4_38 (x0) rfl ?_
  refine x_aload_n C dX4_startAnew_25 rfl ?_
  refine x_get C dX4_startAnew_26 kfX4_19 (x0) rfl ?_
  refine y_i1 C dX4_startAnew_29 kyX1_draw knX1_draw kmX4_74 (hc.o) (c_X1_draw l hc hF (by omega) hW) (by decide) (Nat.zero_le _) (Nat.zero_le _) (Nat.le_of_ble_eq_true rfl) (fun z29 w29 q29 => ?_)
  obtain ⟨-, hS9, hf9⟩ := q29
  refine x_pop C dX4_startAnew_32 rfl ?_
  refine x_vret C hQ dX4_startAnew_33 (Nat.le_refl _) (Nat.le_refl _) ?_
  exact ⟨rfl, rfl, ⟨a, b, 0, hab, (hf9 _ (by omega)).trans x0, hT.fr hf9 (by omega), hF.fr hf9 (by omega), hU.fr hf9 (by omega), hK.fr hf9 (by omega), hS9, ⟨rfl, hB.any.fr hf9 (by omega)⟩, hR.fr hf9 (by omega), hZ.fr hf9 (by omega)⟩, hfA.tr (hf9.wd (by omega) (by omega))⟩

set_option maxHeartbeats 1000000 in
set_option maxRecDepth 100000 in
theorem c_X4_insert (l : Launch) {w : mW} {h : Nat} {D : mD} (hX : isX w h D) (p q : Int) : Ci l yX4_insert cX4_insert 3 (some .int) 6 [vr h, vi p, vi q] w (fun z w' => z = (f_insert D p q).1 ∧ isX w' h (f_insert D p q).2 ∧ frR w w' h (h + 115)) := by
  refine Ci.of (ml := [some (vr h), some (vi p), some (vi q)]) kyX4_insert rfl (Nat.le_of_ble_eq_true rfl) rfl ?_
  intro t n C hQ
  have hX2 := hX
  obtain ⟨hW, a, b, ac, hab, x0, hT, hF, hU, hK, hA, hB, hR, hZ⟩ := hX
  have hfA : frR w w h (h + 115) := frR.rf
  obtain ⟨j1, j2, j3, j4, j5, j6, hs⟩ := id hF
  obtain ⟨k1, k2, k3, k4, k5, k6, k7, hc⟩ := id hA
  have u0 := hU.o0
  have k0 := hK.o0
  obtain ⟨t1, t2, ht⟩ := id hT
  obtain ⟨_, _, _, _, _, _, _, _, _, _, _, _, _, hr7⟩ := id hR
  obtain ⟨_, _, _, _, _, _, _, _, _, _, hr8⟩ := id hZ
  have hlen := isSh.len hF
  have hlS := isSc.len hA
  have hwT := (wfF_iff D.F).mp hW.2.1
  have hsm := hW.2.1.sm
  refine x_aload_n C dX4_insert_0 rfl ?_
  refine x_get C dX4_insert_1 kfX4_19 (x0) rfl ?_
  refine x_iload_n C dX4_insert_4 rfl ?_
  refine y_p1 C dX4_insert_5 kyX2_hasPlace knX2_hasPlace kmX4_87 hs.o (c_X2_hasPlace l hs p) (by decide) (Nat.zero_le _) (Nat.zero_le _) (Nat.le_of_ble_eq_true rfl) (fun z5 q5 => ?_)
  refine x_if_eq (tgt := 21) C dX4_insert_8 (by decide) (fun c8 => ?_) (fun c8 => ?_)
  · refine x_iconst C dX4_insert_21 ⟨by decide, by decide⟩ ?_
    refine x_iret C hQ dX4_insert_22 (Nat.le_refl _) (Nat.le_refl _) ?_
    exact ⟨rfl, _, rfl, by rw [f_insert, if_pos (by omega)]; exact ⟨by first | rfl | assumption, hX2, frR.rf⟩⟩
  · refine x_iload_n C dX4_insert_11 rfl ?_
    refine x_if_lt (tgt := 21) C dX4_insert_12 (by decide) (fun c12 => ?_) (fun c12 => ?_)
    · refine x_iconst C dX4_insert_21 ⟨by decide, by decide⟩ ?_
      refine x_iret C hQ dX4_insert_22 (Nat.le_refl _) (Nat.le_refl _) ?_
      exact ⟨rfl, _, rfl, by rw [f_insert, if_pos (by omega)]; exact ⟨by first | rfl | assumption, hX2, frR.rf⟩⟩
    · refine x_iload_n C dX4_insert_15 rfl ?_
      refine x_bipush C dX4_insert_16 ⟨by decide, by decide⟩ ?_
      refine x_icmp_le (tgt := 23) C dX4_insert_18 (by decide) (fun c18 => ?_) (fun c18 => ?_)
      · refine x_aload_n C dX4_insert_23 rfl ?_
        refine x_get C dX4_insert_24 kfX4_19 (x0) rfl ?_
        refine y_p0 C dX4_insert_27 kyX2_hasRoom knX2_hasRoom kmX4_120 hs.o (c_X2_hasRoom l hs) (by decide) (Nat.zero_le _) (Nat.zero_le _) (Nat.le_of_ble_eq_true rfl) (fun z27 q27 => ?_)
        refine x_if_ne (tgt := 36) C dX4_insert_30 (by decide) (fun c30 => ?_) (fun c30 => ?_)
        · refine x_aload_n C dX4_insert_36 rfl ?_
          refine x_get C dX4_insert_37 kfX4_28 (x0) rfl ?_
          refine x_aload_n C dX4_insert_40 rfl ?_
          refine x_get C dX4_insert_41 kfX4_19 (x0) rfl ?_
          refine y_v1 C dX4_insert_44 kyX0_push knX0_push kmX4_124 (u0) (c_X0_push l hU (by omega) hF (by omega)) (by decide) (Nat.zero_le _) (Nat.zero_le _) (Nat.le_of_ble_eq_true rfl) (fun w44 q44 => ?_)
          obtain ⟨hU, hf9⟩ := q44
          have x0 := (hf9 _ (by omega)).trans x0
          have hT := hT.fr hf9 (by omega)
          have hF := hF.fr hf9 (by omega)
          have hK := hK.fr hf9 (by omega)
          have hA := hA.fr hf9 (by omega)
          have hB := hB.fr hf9 (by omega)
          have hR := hR.fr hf9 (by omega)
          have hZ := hZ.fr hf9 (by omega)
          have hfA := hfA.tr (hf9.wd (by omega) (by omega))
          obtain ⟨j1, j2, j3, j4, j5, j6, hs⟩ := id hF
          obtain ⟨k1, k2, k3, k4, k5, k6, k7, hc⟩ := id hA
          have u0 := hU.o0
          have k0 := hK.o0
          obtain ⟨t1, t2, ht⟩ := id hT
          obtain ⟨_, _, _, _, _, _, _, _, _, _, _, _, _, hr7⟩ := id hR
          obtain ⟨_, _, _, _, _, _, _, _, _, _, hr8⟩ := id hZ
          refine x_aload_n C dX4_insert_47 rfl ?_
          refine x_get C dX4_insert_48 kfX4_19 (x0) rfl ?_
          refine x_iload_n C dX4_insert_51 rfl ?_
          refine x_iload_n C dX4_insert_52 rfl ?_
          refine y_v2 C dX4_insert_53 kyX2_putIn knX2_putIn kmX4_127 hs.o (c_X2_putIn l hF p q hsm.1 hsm.2) (by decide) (Nat.zero_le _) (Nat.zero_le _) (Nat.le_of_ble_eq_true rfl) (fun w53 q53 => ?_)
          obtain ⟨hF, hf9⟩ := q53
          have x0 := (hf9 _ (by omega)).trans x0
          have hT := hT.fr hf9 (by omega)
          have hU := hU.fr hf9 (by omega)
          have hK := hK.fr hf9 (by omega)
          have hA := hA.fr hf9 (by omega)
          have hB := hB.fr hf9 (by omega)
          have hR := hR.fr hf9 (by omega)
          have hZ := hZ.fr hf9 (by omega)
          have hfA := hfA.tr (hf9.wd (by omega) (by omega))
          obtain ⟨j1, j2, j3, j4, j5, j6, hs⟩ := id hF
          obtain ⟨k1, k2, k3, k4, k5, k6, k7, hc⟩ := id hA
          have u0 := hU.o0
          have k0 := hK.o0
          obtain ⟨t1, t2, ht⟩ := id hT
          obtain ⟨_, _, _, _, _, _, _, _, _, _, _, _, _, hr7⟩ := id hR
          obtain ⟨_, _, _, _, _, _, _, _, _, _, hr8⟩ := id hZ
          refine x_aload_n C dX4_insert_56 rfl ?_
          refine y_v0 C dX4_insert_57 kyX4_redraw knX4_redraw kmX4_131 (x0) (c_X4_redraw l (tx := D.tx) (F := putF D.F p q) (G := D.F) (U := pushL 8 D.U D.F) (K := D.K) ⟨a, b, ac, hab, x0, hT, hF, hU, hK, hA, hB.any, hR, hZ⟩ ((wfF_iff _).mpr ⟨wf_put hwT.1 p q (by omega), hwT.2⟩)) (by decide) (Nat.zero_le _) (Nat.zero_le _) (Nat.le_of_ble_eq_true rfl) (fun w57 q57 => ?_)
          have hwf : wfF (putF D.F p q) := (wfF_iff _).mpr ⟨wf_put hwT.1 p q (by omega), hwT.2⟩
          have hfB := hfA.tr q57.2
          obtain ⟨a, b, ac, hab, x0, hT, hF, hU, hK, hA, hB, hR, hZ⟩ := id q57.1
          obtain ⟨j1, j2, j3, j4, j5, j6, hs⟩ := id hF
          obtain ⟨k1, k2, k3, k4, k5, k6, k7, hc⟩ := id hA
          have u0 := hU.o0
          have k0 := hK.o0
          obtain ⟨t1, t2, ht⟩ := id hT
          obtain ⟨_, _, _, _, _, _, _, _, _, _, _, _, _, hr7⟩ := id hR
          obtain ⟨_, _, _, _, _, _, _, _, _, _, hr8⟩ := id hZ
          refine x_aload_n C dX4_insert_60 rfl ?_
          refine x_get C dX4_insert_61 kfX4_19 (x0) rfl ?_
          refine x_get C dX4_insert_64 kfX4_84 hs.o rfl ?_
          refine x_iret C hQ dX4_insert_67 (Nat.le_refl _) (Nat.le_refl _) ?_
          exact ⟨rfl, _, rfl, by rw [f_insert, if_neg (by omega), if_neg (by omega)]; exact ⟨by rw [putF, putS, if_pos (by omega)]; show ((insI D.F.1.1 p q).length : Int) = _; unfold insI; simp; omega, ⟨hW.act hwf, q57.1⟩, hfB⟩⟩
        · refine x_bipush C dX4_insert_33 ⟨by decide, by decide⟩ ?_
          refine x_iret C hQ dX4_insert_35 (Nat.le_refl _) (Nat.le_refl _) ?_
          exact ⟨rfl, _, rfl, by rw [f_insert, if_neg (by omega), if_pos (by omega)]; exact ⟨by first | rfl | assumption, hX2, frR.rf⟩⟩
      · refine x_iconst C dX4_insert_21 ⟨by decide, by decide⟩ ?_
        refine x_iret C hQ dX4_insert_22 (Nat.le_refl _) (Nat.le_refl _) ?_
        exact ⟨rfl, _, rfl, by rw [f_insert, if_pos (by omega)]; exact ⟨by first | rfl | assumption, hX2, frR.rf⟩⟩

set_option maxHeartbeats 1000000 in
set_option maxRecDepth 100000 in
theorem c_X4_erase (l : Launch) {w : mW} {h : Nat} {D : mD} (hX : isX w h D) (p : Int) : Ci l yX4_erase cX4_erase 3 (some .int) 6 [vr h, vi p] w (fun z w' => z = (f_erase D p).1 ∧ isX w' h (f_erase D p).2 ∧ frR w w' h (h + 115)) := by
  refine Ci.of (ml := [some (vr h), some (vi p), none]) kyX4_erase rfl (Nat.le_of_ble_eq_true rfl) rfl ?_
  intro t n C hQ
  have hX2 := hX
  obtain ⟨hW, a, b, ac, hab, x0, hT, hF, hU, hK, hA, hB, hR, hZ⟩ := hX
  have hfA : frR w w h (h + 115) := frR.rf
  obtain ⟨j1, j2, j3, j4, j5, j6, hs⟩ := id hF
  obtain ⟨k1, k2, k3, k4, k5, k6, k7, hc⟩ := id hA
  have u0 := hU.o0
  have k0 := hK.o0
  obtain ⟨t1, t2, ht⟩ := id hT
  obtain ⟨_, _, _, _, _, _, _, _, _, _, _, _, _, hr7⟩ := id hR
  obtain ⟨_, _, _, _, _, _, _, _, _, _, hr8⟩ := id hZ
  have hlen := isSh.len hF
  have hlS := isSc.len hA
  have hwT := (wfF_iff D.F).mp hW.2.1
  have hsm := hW.2.1.sm
  refine x_aload_n C dX4_erase_0 rfl ?_
  refine x_get C dX4_erase_1 kfX4_19 (x0) rfl ?_
  refine x_iload_n C dX4_erase_4 rfl ?_
  refine y_p1 C dX4_erase_5 kyX2_hasSign knX2_hasSign kmX4_134 hs.o (c_X2_hasSign l hs p) (by decide) (Nat.zero_le _) (Nat.zero_le _) (Nat.le_of_ble_eq_true rfl) (fun z5 q5 => ?_)
  refine x_if_ne (tgt := 13) C dX4_erase_8 (by decide) (fun c8 => ?_) (fun c8 => ?_)
  · refine x_aload_n C dX4_erase_13 rfl ?_
    refine x_get C dX4_erase_14 kfX4_19 (x0) rfl ?_
    refine x_iload_n C dX4_erase_17 rfl ?_
    refine y_p1 C dX4_erase_18 kyX2_signAt knX2_signAt kmX4_90 hs.o (c_X2_signAt l hF p) (by decide) (Nat.zero_le _) (Nat.zero_le _) (Nat.le_of_ble_eq_true rfl) (fun z18 q18 => ?_)
    refine s_ist3_2 C dX4_erase_21 rfl ?_
    refine x_aload_n C dX4_erase_22 rfl ?_
    refine x_get C dX4_erase_23 kfX4_28 (x0) rfl ?_
    refine x_aload_n C dX4_erase_26 rfl ?_
    refine x_get C dX4_erase_27 kfX4_19 (x0) rfl ?_
    refine y_v1 C dX4_erase_30 kyX0_push knX0_push kmX4_124 (u0) (c_X0_push l hU (by omega) hF (by omega)) (by decide) (Nat.zero_le _) (Nat.zero_le _) (Nat.le_of_ble_eq_true rfl) (fun w30 q30 => ?_)
    obtain ⟨hU, hf9⟩ := q30
    have x0 := (hf9 _ (by omega)).trans x0
    have hT := hT.fr hf9 (by omega)
    have hF := hF.fr hf9 (by omega)
    have hK := hK.fr hf9 (by omega)
    have hA := hA.fr hf9 (by omega)
    have hB := hB.fr hf9 (by omega)
    have hR := hR.fr hf9 (by omega)
    have hZ := hZ.fr hf9 (by omega)
    have hfA := hfA.tr (hf9.wd (by omega) (by omega))
    obtain ⟨j1, j2, j3, j4, j5, j6, hs⟩ := id hF
    obtain ⟨k1, k2, k3, k4, k5, k6, k7, hc⟩ := id hA
    have u0 := hU.o0
    have k0 := hK.o0
    obtain ⟨t1, t2, ht⟩ := id hT
    obtain ⟨_, _, _, _, _, _, _, _, _, _, _, _, _, hr7⟩ := id hR
    obtain ⟨_, _, _, _, _, _, _, _, _, _, hr8⟩ := id hZ
    refine x_aload_n C dX4_erase_33 rfl ?_
    refine x_get C dX4_erase_34 kfX4_19 (x0) rfl ?_
    refine x_iload_n C dX4_erase_37 rfl ?_
    refine y_v1 C dX4_erase_38 kyX2_takeOut knX2_takeOut kmX4_137 hs.o (c_X2_takeOut l hF p hsm.1 hsm.2) (by decide) (Nat.zero_le _) (Nat.zero_le _) (Nat.le_of_ble_eq_true rfl) (fun w38 q38 => ?_)
    obtain ⟨hF, hf9⟩ := q38
    have x0 := (hf9 _ (by omega)).trans x0
    have hT := hT.fr hf9 (by omega)
    have hU := hU.fr hf9 (by omega)
    have hK := hK.fr hf9 (by omega)
    have hA := hA.fr hf9 (by omega)
    have hB := hB.fr hf9 (by omega)
    have hR := hR.fr hf9 (by omega)
    have hZ := hZ.fr hf9 (by omega)
    have hfA := hfA.tr (hf9.wd (by omega) (by omega))
    obtain ⟨j1, j2, j3, j4, j5, j6, hs⟩ := id hF
    obtain ⟨k1, k2, k3, k4, k5, k6, k7, hc⟩ := id hA
    have u0 := hU.o0
    have k0 := hK.o0
    obtain ⟨t1, t2, ht⟩ := id hT
    obtain ⟨_, _, _, _, _, _, _, _, _, _, _, _, _, hr7⟩ := id hR
    obtain ⟨_, _, _, _, _, _, _, _, _, _, hr8⟩ := id hZ
    refine x_aload_n C dX4_erase_41 rfl ?_
    refine y_v0 C dX4_erase_42 kyX4_redraw knX4_redraw kmX4_131 (x0) (c_X4_redraw l (tx := D.tx) (F := (delS D.F.1 p, D.F.2)) (G := D.F) (U := pushL 8 D.U D.F) (K := D.K) ⟨a, b, ac, hab, x0, hT, hF, hU, hK, hA, hB.any, hR, hZ⟩ ((wfF_iff _).mpr ⟨wf_del hwT.1 p, hwT.2⟩)) (by decide) (Nat.zero_le _) (Nat.zero_le _) (Nat.le_of_ble_eq_true rfl) (fun w42 q42 => ?_)
    have hwf : wfF ((delS D.F.1 p, D.F.2)) := (wfF_iff _).mpr ⟨wf_del hwT.1 p, hwT.2⟩
    have hfB := hfA.tr q42.2
    obtain ⟨a, b, ac, hab, x0, hT, hF, hU, hK, hA, hB, hR, hZ⟩ := id q42.1
    obtain ⟨j1, j2, j3, j4, j5, j6, hs⟩ := id hF
    obtain ⟨k1, k2, k3, k4, k5, k6, k7, hc⟩ := id hA
    have u0 := hU.o0
    have k0 := hK.o0
    obtain ⟨t1, t2, ht⟩ := id hT
    obtain ⟨_, _, _, _, _, _, _, _, _, _, _, _, _, hr7⟩ := id hR
    obtain ⟨_, _, _, _, _, _, _, _, _, _, hr8⟩ := id hZ
    refine x_iload_n C dX4_erase_45 rfl ?_
    refine x_iret C hQ dX4_erase_46 (Nat.le_refl _) (Nat.le_refl _) ?_
    exact ⟨rfl, _, rfl, by rw [f_erase, if_neg (by omega)]; exact ⟨by omega, ⟨hW.act hwf, q42.1⟩, hfB⟩⟩
  · refine x_iconst C dX4_erase_11 ⟨by decide, by decide⟩ ?_
    refine x_iret C hQ dX4_erase_12 (Nat.le_refl _) (Nat.le_refl _) ?_
    exact ⟨rfl, _, rfl, by rw [f_erase, if_pos (by omega)]; exact ⟨by first | rfl | assumption, hX2, frR.rf⟩⟩

theorem turnF_at {fo : List (Int × Int × Int)} {p : Int} (hp : 0 ≤ p ∧ p < fo.length) (hb : ∀ f ∈ fo, f.2.2 = 0 ∨ f.2.2 = 1) : ((turnF fo p).map (fun q => q.2.2)).getD p.toNat 0 = 1 - (fo.map (fun q => q.2.2)).getD p.toNat 0 ∧ (turnF fo p).length = fo.length := by
  obtain ⟨P, x, R, rfl, hP⟩ := spl fo p.toNat (by omega)
  have hx := hb x (by simp)
  rw [turnF, if_pos hp, ← hP, modify_at]
  refine ⟨?_, by simp⟩
  have e1 := gmap_at (fun q : Int × Int × Int => q.2.2) P R (flip x) [] (k := P.length) rfl
  have e2 := gmap_at (fun q : Int × Int × Int => q.2.2) P R x [] (k := P.length) rfl
  simp only [List.append_nil, Int.toNat_natCast] at e1 e2
  rw [e1, e2]
  unfold flip
  simp only
  split <;> omega

set_option maxHeartbeats 1000000 in
set_option maxRecDepth 100000 in
theorem c_X4_toggle (l : Launch) {w : mW} {h : Nat} {D : mD} (hX : isX w h D) (p : Int) : Ci l yX4_toggle cX4_toggle 2 (some .int) 6 [vr h, vi p] w (fun z w' => z = (f_toggle D p).1 ∧ isX w' h (f_toggle D p).2 ∧ frR w w' h (h + 115)) := by
  refine Ci.of (ml := [some (vr h), some (vi p)]) kyX4_toggle rfl (Nat.le_of_ble_eq_true rfl) rfl ?_
  intro t n C hQ
  have hX2 := hX
  obtain ⟨hW, a, b, ac, hab, x0, hT, hF, hU, hK, hA, hB, hR, hZ⟩ := hX
  have hfA : frR w w h (h + 115) := frR.rf
  obtain ⟨j1, j2, j3, j4, j5, j6, hs⟩ := id hF
  obtain ⟨k1, k2, k3, k4, k5, k6, k7, hc⟩ := id hA
  have u0 := hU.o0
  have k0 := hK.o0
  obtain ⟨t1, t2, ht⟩ := id hT
  obtain ⟨_, _, _, _, _, _, _, _, _, _, _, _, _, hr7⟩ := id hR
  obtain ⟨_, _, _, _, _, _, _, _, _, _, hr8⟩ := id hZ
  have hlen := isSh.len hF
  have hlS := isSc.len hA
  have hwT := (wfF_iff D.F).mp hW.2.1
  have hsm := hW.2.1.sm
  refine x_aload_n C dX4_toggle_0 rfl ?_
  refine x_get C dX4_toggle_1 kfX4_19 (x0) rfl ?_
  refine x_iload_n C dX4_toggle_4 rfl ?_
  refine y_p1 C dX4_toggle_5 kyX2_hasFold knX2_hasFold kmX4_94 hs.o (c_X2_hasFold l hs p) (by decide) (Nat.zero_le _) (Nat.zero_le _) (Nat.le_of_ble_eq_true rfl) (fun z5 q5 => ?_)
  refine x_if_ne (tgt := 13) C dX4_toggle_8 (by decide) (fun c8 => ?_) (fun c8 => ?_)
  · refine x_aload_n C dX4_toggle_13 rfl ?_
    refine x_get C dX4_toggle_14 kfX4_28 (x0) rfl ?_
    refine x_aload_n C dX4_toggle_17 rfl ?_
    refine x_get C dX4_toggle_18 kfX4_19 (x0) rfl ?_
    refine y_v1 C dX4_toggle_21 kyX0_push knX0_push kmX4_124 (u0) (c_X0_push l hU (by omega) hF (by omega)) (by decide) (Nat.zero_le _) (Nat.zero_le _) (Nat.le_of_ble_eq_true rfl) (fun w21 q21 => ?_)
    obtain ⟨hU, hf9⟩ := q21
    have x0 := (hf9 _ (by omega)).trans x0
    have hT := hT.fr hf9 (by omega)
    have hF := hF.fr hf9 (by omega)
    have hK := hK.fr hf9 (by omega)
    have hA := hA.fr hf9 (by omega)
    have hB := hB.fr hf9 (by omega)
    have hR := hR.fr hf9 (by omega)
    have hZ := hZ.fr hf9 (by omega)
    have hfA := hfA.tr (hf9.wd (by omega) (by omega))
    obtain ⟨j1, j2, j3, j4, j5, j6, hs⟩ := id hF
    obtain ⟨k1, k2, k3, k4, k5, k6, k7, hc⟩ := id hA
    have u0 := hU.o0
    have k0 := hK.o0
    obtain ⟨t1, t2, ht⟩ := id hT
    obtain ⟨_, _, _, _, _, _, _, _, _, _, _, _, _, hr7⟩ := id hR
    obtain ⟨_, _, _, _, _, _, _, _, _, _, hr8⟩ := id hZ
    refine x_aload_n C dX4_toggle_24 rfl ?_
    refine x_get C dX4_toggle_25 kfX4_19 (x0) rfl ?_
    refine x_iload_n C dX4_toggle_28 rfl ?_
    refine y_v1 C dX4_toggle_29 kyX2_turn knX2_turn kmX4_140 hs.o (c_X2_turn l hF p) (by decide) (Nat.zero_le _) (Nat.zero_le _) (Nat.le_of_ble_eq_true rfl) (fun w29 q29 => ?_)
    obtain ⟨hF, hf9⟩ := q29
    have x0 := (hf9 _ (by omega)).trans x0
    have hT := hT.fr hf9 (by omega)
    have hU := hU.fr hf9 (by omega)
    have hK := hK.fr hf9 (by omega)
    have hA := hA.fr hf9 (by omega)
    have hB := hB.fr hf9 (by omega)
    have hR := hR.fr hf9 (by omega)
    have hZ := hZ.fr hf9 (by omega)
    have hfA := hfA.tr (hf9.wd (by omega) (by omega))
    obtain ⟨j1, j2, j3, j4, j5, j6, hs⟩ := id hF
    obtain ⟨k1, k2, k3, k4, k5, k6, k7, hc⟩ := id hA
    have u0 := hU.o0
    have k0 := hK.o0
    obtain ⟨t1, t2, ht⟩ := id hT
    obtain ⟨_, _, _, _, _, _, _, _, _, _, _, _, _, hr7⟩ := id hR
    obtain ⟨_, _, _, _, _, _, _, _, _, _, hr8⟩ := id hZ
    refine x_aload_n C dX4_toggle_32 rfl ?_
    refine y_v0 C dX4_toggle_33 kyX4_redraw knX4_redraw kmX4_131 (x0) (c_X4_redraw l (tx := D.tx) (F := turF D.F p) (G := D.F) (U := pushL 8 D.U D.F) (K := D.K) ⟨a, b, ac, hab, x0, hT, hF, hU, hK, hA, hB.any, hR, hZ⟩ ((wfF_iff _).mpr ⟨wf_turn hwT.1 p, hwT.2⟩)) (by decide) (Nat.zero_le _) (Nat.zero_le _) (Nat.le_of_ble_eq_true rfl) (fun w33 q33 => ?_)
    have hwf : wfF (turF D.F p) := (wfF_iff _).mpr ⟨wf_turn hwT.1 p, hwT.2⟩
    have hfB := hfA.tr q33.2
    obtain ⟨a, b, ac, hab, x0, hT, hF, hU, hK, hA, hB, hR, hZ⟩ := id q33.1
    obtain ⟨j1, j2, j3, j4, j5, j6, hs⟩ := id hF
    obtain ⟨k1, k2, k3, k4, k5, k6, k7, hc⟩ := id hA
    have u0 := hU.o0
    have k0 := hK.o0
    obtain ⟨t1, t2, ht⟩ := id hT
    obtain ⟨_, _, _, _, _, _, _, _, _, _, _, _, _, hr7⟩ := id hR
    obtain ⟨_, _, _, _, _, _, _, _, _, _, hr8⟩ := id hZ
    obtain ⟨e1, e2⟩ := turnF_at (p := p) (fo := D.F.1.2.1) (by omega) (fun f hf => (hwT.1.2.2.2.1 f hf).2.2.2)
    have e3 := gd_app_l (xs := (turnF D.F.1.2.1 p).map (fun q => q.2.2)) (ys := j4) (i := p.toNat) (by rw [List.length_map]; omega)
    rw [e1] at e3
    refine x_aload_n C dX4_toggle_36 rfl ?_
    refine x_get C dX4_toggle_37 kfX4_19 (x0) rfl ?_
    refine x_get C dX4_toggle_40 kfX4_104 hs.o rfl ?_
    refine x_iload_n C dX4_toggle_43 rfl ?_
    refine x_zaldB C dX4_toggle_44 hs.a4 (by omega) (by rw [hs.l4]; omega) (fun b44 => ?_)
    refine x_if_eq (tgt := 52) C dX4_toggle_45 (by decide) (fun c45 => ?_) (fun c45 => ?_)
    · refine x_iconst C dX4_toggle_52 ⟨by decide, by decide⟩ ?_
      refine x_iret C hQ dX4_toggle_53 (Nat.le_refl _) (Nat.le_refl _) ?_
      have c45 : (List.map (fun q => q.2.2) (turnF D.F.1.2.1 p) ++ j4).getD p.toNat 0 = 0 := c45
      have b44 : (List.map (fun q => q.2.2) (turnF D.F.1.2.1 p) ++ j4).getD p.toNat 0 = 0 ∨ (List.map (fun q => q.2.2) (turnF D.F.1.2.1 p) ++ j4).getD p.toNat 0 = 1 := b44
      exact ⟨rfl, _, rfl, by rw [f_toggle, if_neg (by omega)]; exact ⟨by simp only; omega, ⟨hW.act hwf, q33.1⟩, hfB⟩⟩
    · refine x_iconst C dX4_toggle_48 ⟨by decide, by decide⟩ ?_
      refine x_goto (tgt := 53) C dX4_toggle_49 (by decide) ?_
      refine x_iret C hQ dX4_toggle_53 (Nat.le_refl _) (Nat.le_refl _) ?_
      have c45 : ¬ (List.map (fun q => q.2.2) (turnF D.F.1.2.1 p) ++ j4).getD p.toNat 0 = 0 := c45
      have b44 : (List.map (fun q => q.2.2) (turnF D.F.1.2.1 p) ++ j4).getD p.toNat 0 = 0 ∨ (List.map (fun q => q.2.2) (turnF D.F.1.2.1 p) ++ j4).getD p.toNat 0 = 1 := b44
      exact ⟨rfl, _, rfl, by rw [f_toggle, if_neg (by omega)]; exact ⟨by simp only; omega, ⟨hW.act hwf, q33.1⟩, hfB⟩⟩
  · refine x_iconst C dX4_toggle_11 ⟨by decide, by decide⟩ ?_
    refine x_iret C hQ dX4_toggle_12 (Nat.le_refl _) (Nat.le_refl _) ?_
    exact ⟨rfl, _, rfl, by rw [f_toggle, if_pos (by omega)]; exact ⟨by first | rfl | assumption, hX2, frR.rf⟩⟩

theorem dropI_at {α : Type} {l : List α} {p : Int} (hp : 0 ≤ p ∧ p < l.length) : ((dropI l p).length : Int) = l.length - 1 := by
  rw [dropI, if_pos hp, List.length_eraseIdx_of_lt (by omega)]
  omega

set_option maxHeartbeats 1000000 in
set_option maxRecDepth 100000 in
theorem c_X4_make (l : Launch) {w : mW} {h : Nat} {D : mD} (hX : isX w h D) (p q : Int) : Ci l yX4_make cX4_make 5 (some .int) 6 [vr h, vi p, vi q] w (fun z w' => z = (f_make D p q).1 ∧ isX w' h (f_make D p q).2 ∧ frR w w' h (h + 115)) := by
  refine Ci.of (ml := [some (vr h), some (vi p), some (vi q), none, none]) kyX4_make rfl (Nat.le_of_ble_eq_true rfl) rfl ?_
  intro t n C hQ
  have hX2 := hX
  obtain ⟨hW, a, b, ac, hab, x0, hT, hF, hU, hK, hA, hB, hR, hZ⟩ := hX
  have hfA : frR w w h (h + 115) := frR.rf
  obtain ⟨j1, j2, j3, j4, j5, j6, hs⟩ := id hF
  obtain ⟨k1, k2, k3, k4, k5, k6, k7, hc⟩ := id hA
  have u0 := hU.o0
  have k0 := hK.o0
  obtain ⟨t1, t2, ht⟩ := id hT
  obtain ⟨_, _, _, _, _, _, _, _, _, _, _, _, _, hr7⟩ := id hR
  obtain ⟨_, _, _, _, _, _, _, _, _, _, hr8⟩ := id hZ
  have hlen := isSh.len hF
  have hlS := isSc.len hA
  have hwT := (wfF_iff D.F).mp hW.2.1
  have hsm := hW.2.1.sm
  refine x_aload_n C dX4_make_0 rfl ?_
  refine x_get C dX4_make_1 kfX4_19 (x0) rfl ?_
  refine x_iload_n C dX4_make_4 rfl ?_
  refine x_iload_n C dX4_make_5 rfl ?_
  refine y_p2 C dX4_make_6 kyX2_foldRefusal knX2_foldRefusal kmX4_143 hs.o (c_X2_foldRefusal l hF p q) (by decide) (Nat.zero_le _) (Nat.zero_le _) (Nat.le_of_ble_eq_true rfl) (fun z6 q6 => ?_)
  refine s_ist5_3 C dX4_make_9 rfl ?_
  refine x_iload_n C dX4_make_10 rfl ?_
  refine x_if_eq (tgt := 16) C dX4_make_11 (by decide) (fun c11 => ?_) (fun c11 => ?_)
  · refine x_aload_n C dX4_make_16 rfl ?_
    refine x_get C dX4_make_17 kfX4_28 (x0) rfl ?_
    refine x_aload_n C dX4_make_20 rfl ?_
    refine x_get C dX4_make_21 kfX4_19 (x0) rfl ?_
    refine y_v1 C dX4_make_24 kyX0_push knX0_push kmX4_124 (u0) (c_X0_push l hU (by omega) hF (by omega)) (by decide) (Nat.zero_le _) (Nat.zero_le _) (Nat.le_of_ble_eq_true rfl) (fun w24 q24 => ?_)
    obtain ⟨hU, hf9⟩ := q24
    have x0 := (hf9 _ (by omega)).trans x0
    have hT := hT.fr hf9 (by omega)
    have hF := hF.fr hf9 (by omega)
    have hK := hK.fr hf9 (by omega)
    have hA := hA.fr hf9 (by omega)
    have hB := hB.fr hf9 (by omega)
    have hR := hR.fr hf9 (by omega)
    have hZ := hZ.fr hf9 (by omega)
    have hfA := hfA.tr (hf9.wd (by omega) (by omega))
    obtain ⟨j1, j2, j3, j4, j5, j6, hs⟩ := id hF
    obtain ⟨k1, k2, k3, k4, k5, k6, k7, hc⟩ := id hA
    have u0 := hU.o0
    have k0 := hK.o0
    obtain ⟨t1, t2, ht⟩ := id hT
    obtain ⟨_, _, _, _, _, _, _, _, _, _, _, _, _, hr7⟩ := id hR
    obtain ⟨_, _, _, _, _, _, _, _, _, _, hr8⟩ := id hZ
    refine x_aload_n C dX4_make_27 rfl ?_
    refine x_get C dX4_make_28 kfX4_19 (x0) rfl ?_
    refine x_iload_n C dX4_make_31 rfl ?_
    refine x_iload_n C dX4_make_32 rfl ?_
    refine y_i2 C dX4_make_33 kyX2_addFold knX2_addFold kmX4_147 hs.o (c_X2_addFold l hF p q (refF_0 (n := D.F.1.1.length) (a := p) (b := q) (by omega)).2.2) (by decide) (Nat.zero_le _) (Nat.zero_le _) (Nat.le_of_ble_eq_true rfl) (fun z33 w33 q33 => ?_)
    obtain ⟨l9, hK9, hF, hf9⟩ := q33
    have eK := insK_fun hK9
    rw [eK.1] at hF
    have x0 := (hf9 _ (by omega)).trans x0
    have hT := hT.fr hf9 (by omega)
    have hU := hU.fr hf9 (by omega)
    have hK := hK.fr hf9 (by omega)
    have hA := hA.fr hf9 (by omega)
    have hB := hB.fr hf9 (by omega)
    have hR := hR.fr hf9 (by omega)
    have hZ := hZ.fr hf9 (by omega)
    have hfA := hfA.tr (hf9.wd (by omega) (by omega))
    obtain ⟨j1, j2, j3, j4, j5, j6, hs⟩ := id hF
    obtain ⟨k1, k2, k3, k4, k5, k6, k7, hc⟩ := id hA
    have u0 := hU.o0
    have k0 := hK.o0
    obtain ⟨t1, t2, ht⟩ := id hT
    obtain ⟨_, _, _, _, _, _, _, _, _, _, _, _, _, hr7⟩ := id hR
    obtain ⟨_, _, _, _, _, _, _, _, _, _, hr8⟩ := id hZ
    refine s_is5_4 C dX4_make_36 rfl ?_
    refine x_aload_n C dX4_make_38 rfl ?_
    refine y_v0 C dX4_make_39 kyX4_redraw knX4_redraw kmX4_131 (x0) (c_X4_redraw l (tx := D.tx) (F := ((D.F.1.1, insL (fun q => q.1) (p, q, 1) D.F.1.2.1, D.F.1.2.2), D.F.2)) (G := D.F) (U := pushL 8 D.U D.F) (K := D.K) ⟨a, b, ac, hab, x0, hT, hF, hU, hK, hA, hB.any, hR, hZ⟩ ((wfF_iff _).mpr ⟨wf_insF hwT.1 (by omega), hwT.2⟩)) (by decide) (Nat.zero_le _) (Nat.zero_le _) (Nat.le_of_ble_eq_true rfl) (fun w39 q39 => ?_)
    have hwf : wfF (((D.F.1.1, insL (fun q => q.1) (p, q, 1) D.F.1.2.1, D.F.1.2.2), D.F.2)) := (wfF_iff _).mpr ⟨wf_insF hwT.1 (by omega), hwT.2⟩
    have hfB := hfA.tr q39.2
    obtain ⟨a, b, ac, hab, x0, hT, hF, hU, hK, hA, hB, hR, hZ⟩ := id q39.1
    obtain ⟨j1, j2, j3, j4, j5, j6, hs⟩ := id hF
    obtain ⟨k1, k2, k3, k4, k5, k6, k7, hc⟩ := id hA
    have u0 := hU.o0
    have k0 := hK.o0
    obtain ⟨t1, t2, ht⟩ := id hT
    obtain ⟨_, _, _, _, _, _, _, _, _, _, _, _, _, hr7⟩ := id hR
    obtain ⟨_, _, _, _, _, _, _, _, _, _, hr8⟩ := id hZ
    refine x_iload C dX4_make_42 rfl ?_
    refine x_iret C hQ dX4_make_44 (Nat.le_refl _) (Nat.le_refl _) ?_
    exact ⟨rfl, _, rfl, by rw [f_make, if_neg (by omega)]; exact ⟨eK.2, ⟨hW.act hwf, q39.1⟩, hfB⟩⟩
  · refine x_iload_n C dX4_make_14 rfl ?_
    refine x_iret C hQ dX4_make_15 (Nat.le_refl _) (Nat.le_refl _) ?_
    exact ⟨rfl, _, rfl, by rw [f_make, if_pos (by omega)]; exact ⟨q6, hX2, frR.rf⟩⟩

set_option maxHeartbeats 1000000 in
set_option maxRecDepth 100000 in
theorem c_X4_set (l : Launch) {w : mW} {h : Nat} {D : mD} (hX : isX w h D) (p q : Int) : Ci l yX4_set cX4_set 5 (some .int) 6 [vr h, vi p, vi q] w (fun z w' => z = (f_set D p q).1 ∧ isX w' h (f_set D p q).2 ∧ frR w w' h (h + 115)) := by
  refine Ci.of (ml := [some (vr h), some (vi p), some (vi q), none, none]) kyX4_set rfl (Nat.le_of_ble_eq_true rfl) rfl ?_
  intro t n C hQ
  have hX2 := hX
  obtain ⟨hW, a, b, ac, hab, x0, hT, hF, hU, hK, hA, hB, hR, hZ⟩ := hX
  have hfA : frR w w h (h + 115) := frR.rf
  obtain ⟨j1, j2, j3, j4, j5, j6, hs⟩ := id hF
  obtain ⟨k1, k2, k3, k4, k5, k6, k7, hc⟩ := id hA
  have u0 := hU.o0
  have k0 := hK.o0
  obtain ⟨t1, t2, ht⟩ := id hT
  obtain ⟨_, _, _, _, _, _, _, _, _, _, _, _, _, hr7⟩ := id hR
  obtain ⟨_, _, _, _, _, _, _, _, _, _, hr8⟩ := id hZ
  have hlen := isSh.len hF
  have hlS := isSc.len hA
  have hwT := (wfF_iff D.F).mp hW.2.1
  have hsm := hW.2.1.sm
  refine x_aload_n C dX4_set_0 rfl ?_
  refine x_get C dX4_set_1 kfX4_19 (x0) rfl ?_
  refine x_iload_n C dX4_set_4 rfl ?_
  refine x_iload_n C dX4_set_5 rfl ?_
  refine y_p2 C dX4_set_6 kyX2_hintRefusal knX2_hintRefusal kmX4_156 hs.o (c_X2_hintRefusal l hF p q) (by decide) (Nat.zero_le _) (Nat.zero_le _) (Nat.le_of_ble_eq_true rfl) (fun z6 q6 => ?_)
  refine s_ist5_3 C dX4_set_9 rfl ?_
  refine x_iload_n C dX4_set_10 rfl ?_
  refine x_if_eq (tgt := 16) C dX4_set_11 (by decide) (fun c11 => ?_) (fun c11 => ?_)
  · refine x_aload_n C dX4_set_16 rfl ?_
    refine x_get C dX4_set_17 kfX4_28 (x0) rfl ?_
    refine x_aload_n C dX4_set_20 rfl ?_
    refine x_get C dX4_set_21 kfX4_19 (x0) rfl ?_
    refine y_v1 C dX4_set_24 kyX0_push knX0_push kmX4_124 (u0) (c_X0_push l hU (by omega) hF (by omega)) (by decide) (Nat.zero_le _) (Nat.zero_le _) (Nat.le_of_ble_eq_true rfl) (fun w24 q24 => ?_)
    obtain ⟨hU, hf9⟩ := q24
    have x0 := (hf9 _ (by omega)).trans x0
    have hT := hT.fr hf9 (by omega)
    have hF := hF.fr hf9 (by omega)
    have hK := hK.fr hf9 (by omega)
    have hA := hA.fr hf9 (by omega)
    have hB := hB.fr hf9 (by omega)
    have hR := hR.fr hf9 (by omega)
    have hZ := hZ.fr hf9 (by omega)
    have hfA := hfA.tr (hf9.wd (by omega) (by omega))
    obtain ⟨j1, j2, j3, j4, j5, j6, hs⟩ := id hF
    obtain ⟨k1, k2, k3, k4, k5, k6, k7, hc⟩ := id hA
    have u0 := hU.o0
    have k0 := hK.o0
    obtain ⟨t1, t2, ht⟩ := id hT
    obtain ⟨_, _, _, _, _, _, _, _, _, _, _, _, _, hr7⟩ := id hR
    obtain ⟨_, _, _, _, _, _, _, _, _, _, hr8⟩ := id hZ
    refine x_aload_n C dX4_set_27 rfl ?_
    refine x_get C dX4_set_28 kfX4_19 (x0) rfl ?_
    refine x_iload_n C dX4_set_31 rfl ?_
    refine x_iload_n C dX4_set_32 rfl ?_
    refine y_i2 C dX4_set_33 kyX2_addHint knX2_addHint kmX4_159 hs.o (c_X2_addHint l hF p q (refH_0 (n := D.F.1.1.length) (a := p) (b := q) (by omega)).2.2) (by decide) (Nat.zero_le _) (Nat.zero_le _) (Nat.le_of_ble_eq_true rfl) (fun z33 w33 q33 => ?_)
    obtain ⟨l9, hK9, hF, hf9⟩ := q33
    have eK := insK_fun hK9
    rw [eK.1] at hF
    have x0 := (hf9 _ (by omega)).trans x0
    have hT := hT.fr hf9 (by omega)
    have hU := hU.fr hf9 (by omega)
    have hK := hK.fr hf9 (by omega)
    have hA := hA.fr hf9 (by omega)
    have hB := hB.fr hf9 (by omega)
    have hR := hR.fr hf9 (by omega)
    have hZ := hZ.fr hf9 (by omega)
    have hfA := hfA.tr (hf9.wd (by omega) (by omega))
    obtain ⟨j1, j2, j3, j4, j5, j6, hs⟩ := id hF
    obtain ⟨k1, k2, k3, k4, k5, k6, k7, hc⟩ := id hA
    have u0 := hU.o0
    have k0 := hK.o0
    obtain ⟨t1, t2, ht⟩ := id hT
    obtain ⟨_, _, _, _, _, _, _, _, _, _, _, _, _, hr7⟩ := id hR
    obtain ⟨_, _, _, _, _, _, _, _, _, _, hr8⟩ := id hZ
    refine s_is5_4 C dX4_set_36 rfl ?_
    refine x_aload_n C dX4_set_38 rfl ?_
    refine y_v0 C dX4_set_39 kyX4_redraw knX4_redraw kmX4_131 (x0) (c_X4_redraw l (tx := D.tx) (F := ((D.F.1.1, D.F.1.2.1, insL (fun q => q.1) (p, q) D.F.1.2.2), D.F.2)) (G := D.F) (U := pushL 8 D.U D.F) (K := D.K) ⟨a, b, ac, hab, x0, hT, hF, hU, hK, hA, hB.any, hR, hZ⟩ ((wfF_iff _).mpr ⟨wf_insH hwT.1 (by omega), hwT.2⟩)) (by decide) (Nat.zero_le _) (Nat.zero_le _) (Nat.le_of_ble_eq_true rfl) (fun w39 q39 => ?_)
    have hwf : wfF (((D.F.1.1, D.F.1.2.1, insL (fun q => q.1) (p, q) D.F.1.2.2), D.F.2)) := (wfF_iff _).mpr ⟨wf_insH hwT.1 (by omega), hwT.2⟩
    have hfB := hfA.tr q39.2
    obtain ⟨a, b, ac, hab, x0, hT, hF, hU, hK, hA, hB, hR, hZ⟩ := id q39.1
    obtain ⟨j1, j2, j3, j4, j5, j6, hs⟩ := id hF
    obtain ⟨k1, k2, k3, k4, k5, k6, k7, hc⟩ := id hA
    have u0 := hU.o0
    have k0 := hK.o0
    obtain ⟨t1, t2, ht⟩ := id hT
    obtain ⟨_, _, _, _, _, _, _, _, _, _, _, _, _, hr7⟩ := id hR
    obtain ⟨_, _, _, _, _, _, _, _, _, _, hr8⟩ := id hZ
    refine x_iload C dX4_set_42 rfl ?_
    refine x_iret C hQ dX4_set_44 (Nat.le_refl _) (Nat.le_refl _) ?_
    exact ⟨rfl, _, rfl, by rw [f_set, if_neg (by omega)]; exact ⟨eK.2, ⟨hW.act hwf, q39.1⟩, hfB⟩⟩
  · refine x_iload_n C dX4_set_14 rfl ?_
    refine x_iret C hQ dX4_set_15 (Nat.le_refl _) (Nat.le_refl _) ?_
    exact ⟨rfl, _, rfl, by rw [f_set, if_pos (by omega)]; exact ⟨q6, hX2, frR.rf⟩⟩

set_option maxHeartbeats 1000000 in
set_option maxRecDepth 100000 in
theorem c_X4_unfold (l : Launch) {w : mW} {h : Nat} {D : mD} (hX : isX w h D) (p : Int) : Ci l yX4_unfold cX4_unfold 2 (some .int) 6 [vr h, vi p] w (fun z w' => z = (f_unfold D p).1 ∧ isX w' h (f_unfold D p).2 ∧ frR w w' h (h + 115)) := by
  refine Ci.of (ml := [some (vr h), some (vi p)]) kyX4_unfold rfl (Nat.le_of_ble_eq_true rfl) rfl ?_
  intro t n C hQ
  have hX2 := hX
  obtain ⟨hW, a, b, ac, hab, x0, hT, hF, hU, hK, hA, hB, hR, hZ⟩ := hX
  have hfA : frR w w h (h + 115) := frR.rf
  obtain ⟨j1, j2, j3, j4, j5, j6, hs⟩ := id hF
  obtain ⟨k1, k2, k3, k4, k5, k6, k7, hc⟩ := id hA
  have u0 := hU.o0
  have k0 := hK.o0
  obtain ⟨t1, t2, ht⟩ := id hT
  obtain ⟨_, _, _, _, _, _, _, _, _, _, _, _, _, hr7⟩ := id hR
  obtain ⟨_, _, _, _, _, _, _, _, _, _, hr8⟩ := id hZ
  have hlen := isSh.len hF
  have hlS := isSc.len hA
  have hwT := (wfF_iff D.F).mp hW.2.1
  have hsm := hW.2.1.sm
  refine x_aload_n C dX4_unfold_0 rfl ?_
  refine x_get C dX4_unfold_1 kfX4_19 (x0) rfl ?_
  refine x_iload_n C dX4_unfold_4 rfl ?_
  refine y_p1 C dX4_unfold_5 kyX2_hasFold knX2_hasFold kmX4_94 hs.o (c_X2_hasFold l hs p) (by decide) (Nat.zero_le _) (Nat.zero_le _) (Nat.le_of_ble_eq_true rfl) (fun z5 q5 => ?_)
  refine x_if_ne (tgt := 13) C dX4_unfold_8 (by decide) (fun c8 => ?_) (fun c8 => ?_)
  · refine x_aload_n C dX4_unfold_13 rfl ?_
    refine x_get C dX4_unfold_14 kfX4_28 (x0) rfl ?_
    refine x_aload_n C dX4_unfold_17 rfl ?_
    refine x_get C dX4_unfold_18 kfX4_19 (x0) rfl ?_
    refine y_v1 C dX4_unfold_21 kyX0_push knX0_push kmX4_124 (u0) (c_X0_push l hU (by omega) hF (by omega)) (by decide) (Nat.zero_le _) (Nat.zero_le _) (Nat.le_of_ble_eq_true rfl) (fun w21 q21 => ?_)
    obtain ⟨hU, hf9⟩ := q21
    have x0 := (hf9 _ (by omega)).trans x0
    have hT := hT.fr hf9 (by omega)
    have hF := hF.fr hf9 (by omega)
    have hK := hK.fr hf9 (by omega)
    have hA := hA.fr hf9 (by omega)
    have hB := hB.fr hf9 (by omega)
    have hR := hR.fr hf9 (by omega)
    have hZ := hZ.fr hf9 (by omega)
    have hfA := hfA.tr (hf9.wd (by omega) (by omega))
    obtain ⟨j1, j2, j3, j4, j5, j6, hs⟩ := id hF
    obtain ⟨k1, k2, k3, k4, k5, k6, k7, hc⟩ := id hA
    have u0 := hU.o0
    have k0 := hK.o0
    obtain ⟨t1, t2, ht⟩ := id hT
    obtain ⟨_, _, _, _, _, _, _, _, _, _, _, _, _, hr7⟩ := id hR
    obtain ⟨_, _, _, _, _, _, _, _, _, _, hr8⟩ := id hZ
    refine x_aload_n C dX4_unfold_24 rfl ?_
    refine x_get C dX4_unfold_25 kfX4_19 (x0) rfl ?_
    refine x_iload_n C dX4_unfold_28 rfl ?_
    refine y_v1 C dX4_unfold_29 kyX2_dropFold knX2_dropFold kmX4_150 hs.o (c_X2_dropFold l hF p) (by decide) (Nat.zero_le _) (Nat.zero_le _) (Nat.le_of_ble_eq_true rfl) (fun w29 q29 => ?_)
    obtain ⟨hF, hf9⟩ := q29
    have x0 := (hf9 _ (by omega)).trans x0
    have hT := hT.fr hf9 (by omega)
    have hU := hU.fr hf9 (by omega)
    have hK := hK.fr hf9 (by omega)
    have hA := hA.fr hf9 (by omega)
    have hB := hB.fr hf9 (by omega)
    have hR := hR.fr hf9 (by omega)
    have hZ := hZ.fr hf9 (by omega)
    have hfA := hfA.tr (hf9.wd (by omega) (by omega))
    obtain ⟨j1, j2, j3, j4, j5, j6, hs⟩ := id hF
    obtain ⟨k1, k2, k3, k4, k5, k6, k7, hc⟩ := id hA
    have u0 := hU.o0
    have k0 := hK.o0
    obtain ⟨t1, t2, ht⟩ := id hT
    obtain ⟨_, _, _, _, _, _, _, _, _, _, _, _, _, hr7⟩ := id hR
    obtain ⟨_, _, _, _, _, _, _, _, _, _, hr8⟩ := id hZ
    refine x_aload_n C dX4_unfold_32 rfl ?_
    refine y_v0 C dX4_unfold_33 kyX4_redraw knX4_redraw kmX4_131 (x0) (c_X4_redraw l (tx := D.tx) (F := ((D.F.1.1, dropI D.F.1.2.1 p, D.F.1.2.2), D.F.2)) (G := D.F) (U := pushL 8 D.U D.F) (K := D.K) ⟨a, b, ac, hab, x0, hT, hF, hU, hK, hA, hB.any, hR, hZ⟩ ((wfF_iff _).mpr ⟨wf_dropF hwT.1 p, hwT.2⟩)) (by decide) (Nat.zero_le _) (Nat.zero_le _) (Nat.le_of_ble_eq_true rfl) (fun w33 q33 => ?_)
    have hwf : wfF (((D.F.1.1, dropI D.F.1.2.1 p, D.F.1.2.2), D.F.2)) := (wfF_iff _).mpr ⟨wf_dropF hwT.1 p, hwT.2⟩
    have hfB := hfA.tr q33.2
    obtain ⟨a, b, ac, hab, x0, hT, hF, hU, hK, hA, hB, hR, hZ⟩ := id q33.1
    obtain ⟨j1, j2, j3, j4, j5, j6, hs⟩ := id hF
    obtain ⟨k1, k2, k3, k4, k5, k6, k7, hc⟩ := id hA
    have u0 := hU.o0
    have k0 := hK.o0
    obtain ⟨t1, t2, ht⟩ := id hT
    obtain ⟨_, _, _, _, _, _, _, _, _, _, _, _, _, hr7⟩ := id hR
    obtain ⟨_, _, _, _, _, _, _, _, _, _, hr8⟩ := id hZ
    refine x_aload_n C dX4_unfold_36 rfl ?_
    refine x_get C dX4_unfold_37 kfX4_19 (x0) rfl ?_
    refine x_get C dX4_unfold_40 kfX4_153 hs.o rfl ?_
    refine x_iret C hQ dX4_unfold_43 (Nat.le_refl _) (Nat.le_refl _) ?_
    exact ⟨rfl, _, rfl, by rw [f_unfold, if_neg (by omega)]; exact ⟨dropI_at (by omega), ⟨hW.act hwf, q33.1⟩, hfB⟩⟩
  · refine x_iconst C dX4_unfold_11 ⟨by decide, by decide⟩ ?_
    refine x_iret C hQ dX4_unfold_12 (Nat.le_refl _) (Nat.le_refl _) ?_
    exact ⟨rfl, _, rfl, by rw [f_unfold, if_pos (by omega)]; exact ⟨by first | rfl | assumption, hX2, frR.rf⟩⟩

set_option maxHeartbeats 1000000 in
set_option maxRecDepth 100000 in
theorem c_X4_unset (l : Launch) {w : mW} {h : Nat} {D : mD} (hX : isX w h D) (p : Int) : Ci l yX4_unset cX4_unset 3 (some .int) 6 [vr h, vi p] w (fun z w' => z = (f_unset D p).1 ∧ isX w' h (f_unset D p).2 ∧ frR w w' h (h + 115)) := by
  refine Ci.of (ml := [some (vr h), some (vi p), none]) kyX4_unset rfl (Nat.le_of_ble_eq_true rfl) rfl ?_
  intro t n C hQ
  have hX2 := hX
  obtain ⟨hW, a, b, ac, hab, x0, hT, hF, hU, hK, hA, hB, hR, hZ⟩ := hX
  have hfA : frR w w h (h + 115) := frR.rf
  obtain ⟨j1, j2, j3, j4, j5, j6, hs⟩ := id hF
  obtain ⟨k1, k2, k3, k4, k5, k6, k7, hc⟩ := id hA
  have u0 := hU.o0
  have k0 := hK.o0
  obtain ⟨t1, t2, ht⟩ := id hT
  obtain ⟨_, _, _, _, _, _, _, _, _, _, _, _, _, hr7⟩ := id hR
  obtain ⟨_, _, _, _, _, _, _, _, _, _, hr8⟩ := id hZ
  have hlen := isSh.len hF
  have hlS := isSc.len hA
  have hwT := (wfF_iff D.F).mp hW.2.1
  have hsm := hW.2.1.sm
  refine x_aload_n C dX4_unset_0 rfl ?_
  refine x_get C dX4_unset_1 kfX4_19 (x0) rfl ?_
  refine x_iload_n C dX4_unset_4 rfl ?_
  refine y_p1 C dX4_unset_5 kyX2_hasHint knX2_hasHint kmX4_108 hs.o (c_X2_hasHint l hs p) (by decide) (Nat.zero_le _) (Nat.zero_le _) (Nat.le_of_ble_eq_true rfl) (fun z5 q5 => ?_)
  refine x_if_ne (tgt := 13) C dX4_unset_8 (by decide) (fun c8 => ?_) (fun c8 => ?_)
  · refine x_aload_n C dX4_unset_13 rfl ?_
    refine x_get C dX4_unset_14 kfX4_19 (x0) rfl ?_
    refine x_get C dX4_unset_17 kfX4_114 hs.o rfl ?_
    refine x_iload_n C dX4_unset_20 rfl ?_
    refine x_iald C dX4_unset_21 hs.a6 (by omega) (by rw [hs.l6]; omega) ?_
    refine s_ist3_2 C dX4_unset_22 rfl ?_
    refine x_aload_n C dX4_unset_23 rfl ?_
    refine x_get C dX4_unset_24 kfX4_28 (x0) rfl ?_
    refine x_aload_n C dX4_unset_27 rfl ?_
    refine x_get C dX4_unset_28 kfX4_19 (x0) rfl ?_
    refine y_v1 C dX4_unset_31 kyX0_push knX0_push kmX4_124 (u0) (c_X0_push l hU (by omega) hF (by omega)) (by decide) (Nat.zero_le _) (Nat.zero_le _) (Nat.le_of_ble_eq_true rfl) (fun w31 q31 => ?_)
    obtain ⟨hU, hf9⟩ := q31
    have x0 := (hf9 _ (by omega)).trans x0
    have hT := hT.fr hf9 (by omega)
    have hF := hF.fr hf9 (by omega)
    have hK := hK.fr hf9 (by omega)
    have hA := hA.fr hf9 (by omega)
    have hB := hB.fr hf9 (by omega)
    have hR := hR.fr hf9 (by omega)
    have hZ := hZ.fr hf9 (by omega)
    have hfA := hfA.tr (hf9.wd (by omega) (by omega))
    obtain ⟨j1, j2, j3, j4, j5, j6, hs⟩ := id hF
    obtain ⟨k1, k2, k3, k4, k5, k6, k7, hc⟩ := id hA
    have u0 := hU.o0
    have k0 := hK.o0
    obtain ⟨t1, t2, ht⟩ := id hT
    obtain ⟨_, _, _, _, _, _, _, _, _, _, _, _, _, hr7⟩ := id hR
    obtain ⟨_, _, _, _, _, _, _, _, _, _, hr8⟩ := id hZ
    refine x_aload_n C dX4_unset_34 rfl ?_
    refine x_get C dX4_unset_35 kfX4_19 (x0) rfl ?_
    refine x_iload_n C dX4_unset_38 rfl ?_
    refine y_v1 C dX4_unset_39 kyX2_dropHint knX2_dropHint kmX4_162 hs.o (c_X2_dropHint l hF p) (by decide) (Nat.zero_le _) (Nat.zero_le _) (Nat.le_of_ble_eq_true rfl) (fun w39 q39 => ?_)
    obtain ⟨hF, hf9⟩ := q39
    have x0 := (hf9 _ (by omega)).trans x0
    have hT := hT.fr hf9 (by omega)
    have hU := hU.fr hf9 (by omega)
    have hK := hK.fr hf9 (by omega)
    have hA := hA.fr hf9 (by omega)
    have hB := hB.fr hf9 (by omega)
    have hR := hR.fr hf9 (by omega)
    have hZ := hZ.fr hf9 (by omega)
    have hfA := hfA.tr (hf9.wd (by omega) (by omega))
    obtain ⟨j1, j2, j3, j4, j5, j6, hs⟩ := id hF
    obtain ⟨k1, k2, k3, k4, k5, k6, k7, hc⟩ := id hA
    have u0 := hU.o0
    have k0 := hK.o0
    obtain ⟨t1, t2, ht⟩ := id hT
    obtain ⟨_, _, _, _, _, _, _, _, _, _, _, _, _, hr7⟩ := id hR
    obtain ⟨_, _, _, _, _, _, _, _, _, _, hr8⟩ := id hZ
    refine x_aload_n C dX4_unset_42 rfl ?_
    refine y_v0 C dX4_unset_43 kyX4_redraw knX4_redraw kmX4_131 (x0) (c_X4_redraw l (tx := D.tx) (F := ((D.F.1.1, D.F.1.2.1, dropI D.F.1.2.2 p), D.F.2)) (G := D.F) (U := pushL 8 D.U D.F) (K := D.K) ⟨a, b, ac, hab, x0, hT, hF, hU, hK, hA, hB.any, hR, hZ⟩ ((wfF_iff _).mpr ⟨wf_dropH hwT.1 p, hwT.2⟩)) (by decide) (Nat.zero_le _) (Nat.zero_le _) (Nat.le_of_ble_eq_true rfl) (fun w43 q43 => ?_)
    have hwf : wfF (((D.F.1.1, D.F.1.2.1, dropI D.F.1.2.2 p), D.F.2)) := (wfF_iff _).mpr ⟨wf_dropH hwT.1 p, hwT.2⟩
    have hfB := hfA.tr q43.2
    obtain ⟨a, b, ac, hab, x0, hT, hF, hU, hK, hA, hB, hR, hZ⟩ := id q43.1
    obtain ⟨j1, j2, j3, j4, j5, j6, hs⟩ := id hF
    obtain ⟨k1, k2, k3, k4, k5, k6, k7, hc⟩ := id hA
    have u0 := hU.o0
    have k0 := hK.o0
    obtain ⟨t1, t2, ht⟩ := id hT
    obtain ⟨_, _, _, _, _, _, _, _, _, _, _, _, _, hr7⟩ := id hR
    obtain ⟨_, _, _, _, _, _, _, _, _, _, hr8⟩ := id hZ
    refine x_iload_n C dX4_unset_46 rfl ?_
    refine x_iret C hQ dX4_unset_47 (Nat.le_refl _) (Nat.le_refl _) ?_
    exact ⟨rfl, _, rfl, by rw [f_unset, if_neg (by omega)]; exact ⟨gd_app_l (by rw [List.length_map]; omega), ⟨hW.act hwf, q43.1⟩, hfB⟩⟩
  · refine x_iconst C dX4_unset_11 ⟨by decide, by decide⟩ ?_
    refine x_iret C hQ dX4_unset_12 (Nat.le_refl _) (Nat.le_refl _) ?_
    exact ⟨rfl, _, rfl, by rw [f_unset, if_pos (by omega)]; exact ⟨by first | rfl | assumption, hX2, frR.rf⟩⟩

set_option maxHeartbeats 1000000 in
set_option maxRecDepth 100000 in
theorem c_X4_wide (l : Launch) {w : mW} {h : Nat} {D : mD} (hX : isX w h D) (p q r : Int) : Ci l yX4_wide cX4_wide 4 (some .int) 6 [vr h, vi p, vi q, vi r] w (fun z w' => z = (f_wide D p q r).1 ∧ isX w' h (f_wide D p q r).2 ∧ frR w w' h (h + 115)) := by
  refine Ci.of (ml := [some (vr h), some (vi p), some (vi q), some (vi r)]) kyX4_wide rfl (Nat.le_of_ble_eq_true rfl) rfl ?_
  intro t n C hQ
  have hX2 := hX
  obtain ⟨hW, a, b, ac, hab, x0, hT, hF, hU, hK, hA, hB, hR, hZ⟩ := hX
  have hfA : frR w w h (h + 115) := frR.rf
  obtain ⟨j1, j2, j3, j4, j5, j6, hs⟩ := id hF
  obtain ⟨k1, k2, k3, k4, k5, k6, k7, hc⟩ := id hA
  have u0 := hU.o0
  have k0 := hK.o0
  obtain ⟨t1, t2, ht⟩ := id hT
  obtain ⟨_, _, _, _, _, _, _, _, _, _, _, _, _, hr7⟩ := id hR
  obtain ⟨_, _, _, _, _, _, _, _, _, _, hr8⟩ := id hZ
  have hlen := isSh.len hF
  have hlS := isSc.len hA
  have hwT := (wfF_iff D.F).mp hW.2.1
  have hsm := hW.2.1.sm
  refine x_iload_n C dX4_wide_0 rfl ?_
  refine x_iload_n C dX4_wide_1 rfl ?_
  refine x_iload_n C dX4_wide_2 rfl ?_
  refine z_p3 C dX4_wide_3 kyX2_isFlow ksX2_isFlow kmX4_165 (c_X2_isFlow l p q r) (by decide) (Nat.zero_le _) (Nat.zero_le _) (Nat.le_of_ble_eq_true rfl) (fun z3 q3 => ?_)
  refine x_if_ne (tgt := 11) C dX4_wide_6 (by decide) (fun c6 => ?_) (fun c6 => ?_)
  · refine x_aload_n C dX4_wide_11 rfl ?_
    refine x_get C dX4_wide_12 kfX4_19 (x0) rfl ?_
    refine x_get C dX4_wide_15 kfX4_169 hs.o rfl ?_
    refine x_iload_n C dX4_wide_18 rfl ?_
    refine x_icmp_ne (tgt := 47) C dX4_wide_19 (by decide) (fun c19 => ?_) (fun c19 => ?_)
    · refine x_aload_n C dX4_wide_47 rfl ?_
      refine x_get C dX4_wide_48 kfX4_28 (x0) rfl ?_
      refine x_aload_n C dX4_wide_51 rfl ?_
      refine x_get C dX4_wide_52 kfX4_19 (x0) rfl ?_
      refine y_v1 C dX4_wide_55 kyX0_push knX0_push kmX4_124 (u0) (c_X0_push l hU (by omega) hF (by omega)) (by decide) (Nat.zero_le _) (Nat.zero_le _) (Nat.le_of_ble_eq_true rfl) (fun w55 q55 => ?_)
      obtain ⟨hU, hf9⟩ := q55
      have x0 := (hf9 _ (by omega)).trans x0
      have hT := hT.fr hf9 (by omega)
      have hF := hF.fr hf9 (by omega)
      have hK := hK.fr hf9 (by omega)
      have hA := hA.fr hf9 (by omega)
      have hB := hB.fr hf9 (by omega)
      have hR := hR.fr hf9 (by omega)
      have hZ := hZ.fr hf9 (by omega)
      have hfA := hfA.tr (hf9.wd (by omega) (by omega))
      obtain ⟨j1, j2, j3, j4, j5, j6, hs⟩ := id hF
      obtain ⟨k1, k2, k3, k4, k5, k6, k7, hc⟩ := id hA
      have u0 := hU.o0
      have k0 := hK.o0
      obtain ⟨t1, t2, ht⟩ := id hT
      obtain ⟨_, _, _, _, _, _, _, _, _, _, _, _, _, hr7⟩ := id hR
      obtain ⟨_, _, _, _, _, _, _, _, _, _, hr8⟩ := id hZ
      refine x_aload_n C dX4_wide_58 rfl ?_
      refine x_get C dX4_wide_59 kfX4_19 (x0) rfl ?_
      refine x_iload_n C dX4_wide_62 rfl ?_
      refine x_iload_n C dX4_wide_63 rfl ?_
      refine x_iload_n C dX4_wide_64 rfl ?_
      refine y_v3 C dX4_wide_65 kyX2_setFlow knX2_setFlow kmX4_178 hs.o (c_X2_setFlow l hs p q r) (by decide) (Nat.zero_le _) (Nat.zero_le _) (Nat.le_of_ble_eq_true rfl) (fun w65 q65 => ?_)
      obtain ⟨hr9, hf9⟩ := q65
      have hF : isF w65 (h + 4) (D.F.1, p, q, r, D.F.2.2.2.2) := ⟨j1, j2, j3, j4, j5, j6, hr9⟩
      have x0 := (hf9 _ (by omega)).trans x0
      have hT := hT.fr hf9 (by omega)
      have hU := hU.fr hf9 (by omega)
      have hK := hK.fr hf9 (by omega)
      have hA := hA.fr hf9 (by omega)
      have hB := hB.fr hf9 (by omega)
      have hR := hR.fr hf9 (by omega)
      have hZ := hZ.fr hf9 (by omega)
      have hfA := hfA.tr (hf9.wd (by omega) (by omega))
      obtain ⟨j1, j2, j3, j4, j5, j6, hs⟩ := id hF
      obtain ⟨k1, k2, k3, k4, k5, k6, k7, hc⟩ := id hA
      have u0 := hU.o0
      have k0 := hK.o0
      obtain ⟨t1, t2, ht⟩ := id hT
      obtain ⟨_, _, _, _, _, _, _, _, _, _, _, _, _, hr7⟩ := id hR
      obtain ⟨_, _, _, _, _, _, _, _, _, _, hr8⟩ := id hZ
      refine x_aload_n C dX4_wide_68 rfl ?_
      refine y_v0 C dX4_wide_69 kyX4_redraw knX4_redraw kmX4_131 (x0) (c_X4_redraw l (tx := D.tx) (F := (D.F.1, p, q, r, D.F.2.2.2.2)) (G := D.F) (U := pushL 8 D.U D.F) (K := D.K) ⟨a, b, ac, hab, x0, hT, hF, hU, hK, hA, hB.any, hR, hZ⟩ ((wfF_iff _).mpr ⟨hwT.1, (by show 0 ≤ p ∧ p ≤ 2; omega), (by show 4 ≤ q ∧ q ≤ 20; omega), (by show 0 ≤ r ∧ r ≤ 3; omega), hwT.2.2.2.2⟩)) (by decide) (Nat.zero_le _) (Nat.zero_le _) (Nat.le_of_ble_eq_true rfl) (fun w69 q69 => ?_)
      have hwf : wfF ((D.F.1, p, q, r, D.F.2.2.2.2)) := (wfF_iff _).mpr ⟨hwT.1, (by show 0 ≤ p ∧ p ≤ 2; omega), (by show 4 ≤ q ∧ q ≤ 20; omega), (by show 0 ≤ r ∧ r ≤ 3; omega), hwT.2.2.2.2⟩
      have hfB := hfA.tr q69.2
      obtain ⟨a, b, ac, hab, x0, hT, hF, hU, hK, hA, hB, hR, hZ⟩ := id q69.1
      obtain ⟨j1, j2, j3, j4, j5, j6, hs⟩ := id hF
      obtain ⟨k1, k2, k3, k4, k5, k6, k7, hc⟩ := id hA
      have u0 := hU.o0
      have k0 := hK.o0
      obtain ⟨t1, t2, ht⟩ := id hT
      obtain ⟨_, _, _, _, _, _, _, _, _, _, _, _, _, hr7⟩ := id hR
      obtain ⟨_, _, _, _, _, _, _, _, _, _, hr8⟩ := id hZ
      refine x_iconst C dX4_wide_72 ⟨by decide, by decide⟩ ?_
      refine x_iret C hQ dX4_wide_73 (Nat.le_refl _) (Nat.le_refl _) ?_
      exact ⟨rfl, _, rfl, by rw [f_wide, if_neg (by omega), if_neg (by omega)]; exact ⟨by first | rfl | assumption | omega, ⟨hW.act hwf, q69.1⟩, hfB⟩⟩
    · refine x_aload_n C dX4_wide_22 rfl ?_
      refine x_get C dX4_wide_23 kfX4_19 (x0) rfl ?_
      refine x_get C dX4_wide_26 kfX4_172 hs.o rfl ?_
      refine x_iload_n C dX4_wide_29 rfl ?_
      refine x_icmp_ne (tgt := 47) C dX4_wide_30 (by decide) (fun c30 => ?_) (fun c30 => ?_)
      · refine x_aload_n C dX4_wide_47 rfl ?_
        refine x_get C dX4_wide_48 kfX4_28 (x0) rfl ?_
        refine x_aload_n C dX4_wide_51 rfl ?_
        refine x_get C dX4_wide_52 kfX4_19 (x0) rfl ?_
        refine y_v1 C dX4_wide_55 kyX0_push knX0_push kmX4_124 (u0) (c_X0_push l hU (by omega) hF (by omega)) (by decide) (Nat.zero_le _) (Nat.zero_le _) (Nat.le_of_ble_eq_true rfl) (fun w55 q55 => ?_)
        obtain ⟨hU, hf9⟩ := q55
        have x0 := (hf9 _ (by omega)).trans x0
        have hT := hT.fr hf9 (by omega)
        have hF := hF.fr hf9 (by omega)
        have hK := hK.fr hf9 (by omega)
        have hA := hA.fr hf9 (by omega)
        have hB := hB.fr hf9 (by omega)
        have hR := hR.fr hf9 (by omega)
        have hZ := hZ.fr hf9 (by omega)
        have hfA := hfA.tr (hf9.wd (by omega) (by omega))
        obtain ⟨j1, j2, j3, j4, j5, j6, hs⟩ := id hF
        obtain ⟨k1, k2, k3, k4, k5, k6, k7, hc⟩ := id hA
        have u0 := hU.o0
        have k0 := hK.o0
        obtain ⟨t1, t2, ht⟩ := id hT
        obtain ⟨_, _, _, _, _, _, _, _, _, _, _, _, _, hr7⟩ := id hR
        obtain ⟨_, _, _, _, _, _, _, _, _, _, hr8⟩ := id hZ
        refine x_aload_n C dX4_wide_58 rfl ?_
        refine x_get C dX4_wide_59 kfX4_19 (x0) rfl ?_
        refine x_iload_n C dX4_wide_62 rfl ?_
        refine x_iload_n C dX4_wide_63 rfl ?_
        refine x_iload_n C dX4_wide_64 rfl ?_
        refine y_v3 C dX4_wide_65 kyX2_setFlow knX2_setFlow kmX4_178 hs.o (c_X2_setFlow l hs p q r) (by decide) (Nat.zero_le _) (Nat.zero_le _) (Nat.le_of_ble_eq_true rfl) (fun w65 q65 => ?_)
        obtain ⟨hr9, hf9⟩ := q65
        have hF : isF w65 (h + 4) (D.F.1, p, q, r, D.F.2.2.2.2) := ⟨j1, j2, j3, j4, j5, j6, hr9⟩
        have x0 := (hf9 _ (by omega)).trans x0
        have hT := hT.fr hf9 (by omega)
        have hU := hU.fr hf9 (by omega)
        have hK := hK.fr hf9 (by omega)
        have hA := hA.fr hf9 (by omega)
        have hB := hB.fr hf9 (by omega)
        have hR := hR.fr hf9 (by omega)
        have hZ := hZ.fr hf9 (by omega)
        have hfA := hfA.tr (hf9.wd (by omega) (by omega))
        obtain ⟨j1, j2, j3, j4, j5, j6, hs⟩ := id hF
        obtain ⟨k1, k2, k3, k4, k5, k6, k7, hc⟩ := id hA
        have u0 := hU.o0
        have k0 := hK.o0
        obtain ⟨t1, t2, ht⟩ := id hT
        obtain ⟨_, _, _, _, _, _, _, _, _, _, _, _, _, hr7⟩ := id hR
        obtain ⟨_, _, _, _, _, _, _, _, _, _, hr8⟩ := id hZ
        refine x_aload_n C dX4_wide_68 rfl ?_
        refine y_v0 C dX4_wide_69 kyX4_redraw knX4_redraw kmX4_131 (x0) (c_X4_redraw l (tx := D.tx) (F := (D.F.1, p, q, r, D.F.2.2.2.2)) (G := D.F) (U := pushL 8 D.U D.F) (K := D.K) ⟨a, b, ac, hab, x0, hT, hF, hU, hK, hA, hB.any, hR, hZ⟩ ((wfF_iff _).mpr ⟨hwT.1, (by show 0 ≤ p ∧ p ≤ 2; omega), (by show 4 ≤ q ∧ q ≤ 20; omega), (by show 0 ≤ r ∧ r ≤ 3; omega), hwT.2.2.2.2⟩)) (by decide) (Nat.zero_le _) (Nat.zero_le _) (Nat.le_of_ble_eq_true rfl) (fun w69 q69 => ?_)
        have hwf : wfF ((D.F.1, p, q, r, D.F.2.2.2.2)) := (wfF_iff _).mpr ⟨hwT.1, (by show 0 ≤ p ∧ p ≤ 2; omega), (by show 4 ≤ q ∧ q ≤ 20; omega), (by show 0 ≤ r ∧ r ≤ 3; omega), hwT.2.2.2.2⟩
        have hfB := hfA.tr q69.2
        obtain ⟨a, b, ac, hab, x0, hT, hF, hU, hK, hA, hB, hR, hZ⟩ := id q69.1
        obtain ⟨j1, j2, j3, j4, j5, j6, hs⟩ := id hF
        obtain ⟨k1, k2, k3, k4, k5, k6, k7, hc⟩ := id hA
        have u0 := hU.o0
        have k0 := hK.o0
        obtain ⟨t1, t2, ht⟩ := id hT
        obtain ⟨_, _, _, _, _, _, _, _, _, _, _, _, _, hr7⟩ := id hR
        obtain ⟨_, _, _, _, _, _, _, _, _, _, hr8⟩ := id hZ
        refine x_iconst C dX4_wide_72 ⟨by decide, by decide⟩ ?_
        refine x_iret C hQ dX4_wide_73 (Nat.le_refl _) (Nat.le_refl _) ?_
        exact ⟨rfl, _, rfl, by rw [f_wide, if_neg (by omega), if_neg (by omega)]; exact ⟨by first | rfl | assumption | omega, ⟨hW.act hwf, q69.1⟩, hfB⟩⟩
      · refine x_aload_n C dX4_wide_33 rfl ?_
        refine x_get C dX4_wide_34 kfX4_19 (x0) rfl ?_
        refine x_get C dX4_wide_37 kfX4_175 hs.o rfl ?_
        refine x_iload_n C dX4_wide_40 rfl ?_
        refine x_icmp_ne (tgt := 47) C dX4_wide_41 (by decide) (fun c41 => ?_) (fun c41 => ?_)
        · refine x_aload_n C dX4_wide_47 rfl ?_
          refine x_get C dX4_wide_48 kfX4_28 (x0) rfl ?_
          refine x_aload_n C dX4_wide_51 rfl ?_
          refine x_get C dX4_wide_52 kfX4_19 (x0) rfl ?_
          refine y_v1 C dX4_wide_55 kyX0_push knX0_push kmX4_124 (u0) (c_X0_push l hU (by omega) hF (by omega)) (by decide) (Nat.zero_le _) (Nat.zero_le _) (Nat.le_of_ble_eq_true rfl) (fun w55 q55 => ?_)
          obtain ⟨hU, hf9⟩ := q55
          have x0 := (hf9 _ (by omega)).trans x0
          have hT := hT.fr hf9 (by omega)
          have hF := hF.fr hf9 (by omega)
          have hK := hK.fr hf9 (by omega)
          have hA := hA.fr hf9 (by omega)
          have hB := hB.fr hf9 (by omega)
          have hR := hR.fr hf9 (by omega)
          have hZ := hZ.fr hf9 (by omega)
          have hfA := hfA.tr (hf9.wd (by omega) (by omega))
          obtain ⟨j1, j2, j3, j4, j5, j6, hs⟩ := id hF
          obtain ⟨k1, k2, k3, k4, k5, k6, k7, hc⟩ := id hA
          have u0 := hU.o0
          have k0 := hK.o0
          obtain ⟨t1, t2, ht⟩ := id hT
          obtain ⟨_, _, _, _, _, _, _, _, _, _, _, _, _, hr7⟩ := id hR
          obtain ⟨_, _, _, _, _, _, _, _, _, _, hr8⟩ := id hZ
          refine x_aload_n C dX4_wide_58 rfl ?_
          refine x_get C dX4_wide_59 kfX4_19 (x0) rfl ?_
          refine x_iload_n C dX4_wide_62 rfl ?_
          refine x_iload_n C dX4_wide_63 rfl ?_
          refine x_iload_n C dX4_wide_64 rfl ?_
          refine y_v3 C dX4_wide_65 kyX2_setFlow knX2_setFlow kmX4_178 hs.o (c_X2_setFlow l hs p q r) (by decide) (Nat.zero_le _) (Nat.zero_le _) (Nat.le_of_ble_eq_true rfl) (fun w65 q65 => ?_)
          obtain ⟨hr9, hf9⟩ := q65
          have hF : isF w65 (h + 4) (D.F.1, p, q, r, D.F.2.2.2.2) := ⟨j1, j2, j3, j4, j5, j6, hr9⟩
          have x0 := (hf9 _ (by omega)).trans x0
          have hT := hT.fr hf9 (by omega)
          have hU := hU.fr hf9 (by omega)
          have hK := hK.fr hf9 (by omega)
          have hA := hA.fr hf9 (by omega)
          have hB := hB.fr hf9 (by omega)
          have hR := hR.fr hf9 (by omega)
          have hZ := hZ.fr hf9 (by omega)
          have hfA := hfA.tr (hf9.wd (by omega) (by omega))
          obtain ⟨j1, j2, j3, j4, j5, j6, hs⟩ := id hF
          obtain ⟨k1, k2, k3, k4, k5, k6, k7, hc⟩ := id hA
          have u0 := hU.o0
          have k0 := hK.o0
          obtain ⟨t1, t2, ht⟩ := id hT
          obtain ⟨_, _, _, _, _, _, _, _, _, _, _, _, _, hr7⟩ := id hR
          obtain ⟨_, _, _, _, _, _, _, _, _, _, hr8⟩ := id hZ
          refine x_aload_n C dX4_wide_68 rfl ?_
          refine y_v0 C dX4_wide_69 kyX4_redraw knX4_redraw kmX4_131 (x0) (c_X4_redraw l (tx := D.tx) (F := (D.F.1, p, q, r, D.F.2.2.2.2)) (G := D.F) (U := pushL 8 D.U D.F) (K := D.K) ⟨a, b, ac, hab, x0, hT, hF, hU, hK, hA, hB.any, hR, hZ⟩ ((wfF_iff _).mpr ⟨hwT.1, (by show 0 ≤ p ∧ p ≤ 2; omega), (by show 4 ≤ q ∧ q ≤ 20; omega), (by show 0 ≤ r ∧ r ≤ 3; omega), hwT.2.2.2.2⟩)) (by decide) (Nat.zero_le _) (Nat.zero_le _) (Nat.le_of_ble_eq_true rfl) (fun w69 q69 => ?_)
          have hwf : wfF ((D.F.1, p, q, r, D.F.2.2.2.2)) := (wfF_iff _).mpr ⟨hwT.1, (by show 0 ≤ p ∧ p ≤ 2; omega), (by show 4 ≤ q ∧ q ≤ 20; omega), (by show 0 ≤ r ∧ r ≤ 3; omega), hwT.2.2.2.2⟩
          have hfB := hfA.tr q69.2
          obtain ⟨a, b, ac, hab, x0, hT, hF, hU, hK, hA, hB, hR, hZ⟩ := id q69.1
          obtain ⟨j1, j2, j3, j4, j5, j6, hs⟩ := id hF
          obtain ⟨k1, k2, k3, k4, k5, k6, k7, hc⟩ := id hA
          have u0 := hU.o0
          have k0 := hK.o0
          obtain ⟨t1, t2, ht⟩ := id hT
          obtain ⟨_, _, _, _, _, _, _, _, _, _, _, _, _, hr7⟩ := id hR
          obtain ⟨_, _, _, _, _, _, _, _, _, _, hr8⟩ := id hZ
          refine x_iconst C dX4_wide_72 ⟨by decide, by decide⟩ ?_
          refine x_iret C hQ dX4_wide_73 (Nat.le_refl _) (Nat.le_refl _) ?_
          exact ⟨rfl, _, rfl, by rw [f_wide, if_neg (by omega), if_neg (by omega)]; exact ⟨by first | rfl | assumption | omega, ⟨hW.act hwf, q69.1⟩, hfB⟩⟩
        · refine x_bipush C dX4_wide_44 ⟨by decide, by decide⟩ ?_
          refine x_iret C hQ dX4_wide_46 (Nat.le_refl _) (Nat.le_refl _) ?_
          exact ⟨rfl, _, rfl, by rw [f_wide, if_neg (by omega), if_pos (by omega)]; exact ⟨by first | rfl | assumption, hX2, frR.rf⟩⟩
  · refine x_iconst C dX4_wide_9 ⟨by decide, by decide⟩ ?_
    refine x_iret C hQ dX4_wide_10 (Nat.le_refl _) (Nat.le_refl _) ?_
    exact ⟨rfl, _, rfl, by rw [f_wide, if_pos (by omega)]; exact ⟨by first | rfl | assumption, hX2, frR.rf⟩⟩

set_option maxHeartbeats 1000000 in
set_option maxRecDepth 100000 in
theorem c_X4_tabs (l : Launch) {w : mW} {h : Nat} {D : mD} (hX : isX w h D) (p : Int) : Ci l yX4_tabs cX4_tabs 3 (some .int) 6 [vr h, vi p] w (fun z w' => z = (f_tabs D p).1 ∧ isX w' h (f_tabs D p).2 ∧ frR w w' h (h + 115)) := by
  refine Ci.of (ml := [some (vr h), some (vi p), none]) kyX4_tabs rfl (Nat.le_of_ble_eq_true rfl) rfl ?_
  intro t n C hQ
  have hX2 := hX
  obtain ⟨hW, a, b, ac, hab, x0, hT, hF, hU, hK, hA, hB, hR, hZ⟩ := hX
  have hfA : frR w w h (h + 115) := frR.rf
  obtain ⟨j1, j2, j3, j4, j5, j6, hs⟩ := id hF
  obtain ⟨k1, k2, k3, k4, k5, k6, k7, hc⟩ := id hA
  have u0 := hU.o0
  have k0 := hK.o0
  obtain ⟨t1, t2, ht⟩ := id hT
  obtain ⟨_, _, _, _, _, _, _, _, _, _, _, _, _, hr7⟩ := id hR
  obtain ⟨_, _, _, _, _, _, _, _, _, _, hr8⟩ := id hZ
  have hlen := isSh.len hF
  have hlS := isSc.len hA
  have hwT := (wfF_iff D.F).mp hW.2.1
  have hsm := hW.2.1.sm
  refine x_iload_n C dX4_tabs_0 rfl ?_
  refine z_p1 C dX4_tabs_1 kyX2_isTabStep ksX2_isTabStep kmX4_182 (c_X2_isTabStep l p) (by decide) (Nat.zero_le _) (Nat.zero_le _) (Nat.le_of_ble_eq_true rfl) (fun z1 q1 => ?_)
  refine x_if_ne (tgt := 9) C dX4_tabs_4 (by decide) (fun c4 => ?_) (fun c4 => ?_)
  · refine x_aload_n C dX4_tabs_9 rfl ?_
    refine x_get C dX4_tabs_10 kfX4_19 (x0) rfl ?_
    refine x_get C dX4_tabs_13 kfX4_185 hs.o rfl ?_
    refine x_iload_n C dX4_tabs_16 rfl ?_
    refine x_icmp_ne (tgt := 23) C dX4_tabs_17 (by decide) (fun c17 => ?_) (fun c17 => ?_)
    · refine x_aload_n C dX4_tabs_23 rfl ?_
      refine x_get C dX4_tabs_24 kfX4_19 (x0) rfl ?_
      refine x_get C dX4_tabs_27 kfX4_185 hs.o rfl ?_
      refine s_ist3_2 C dX4_tabs_30 rfl ?_
      refine x_aload_n C dX4_tabs_31 rfl ?_
      refine x_get C dX4_tabs_32 kfX4_28 (x0) rfl ?_
      refine x_aload_n C dX4_tabs_35 rfl ?_
      refine x_get C dX4_tabs_36 kfX4_19 (x0) rfl ?_
      refine y_v1 C dX4_tabs_39 kyX0_push knX0_push kmX4_124 (u0) (c_X0_push l hU (by omega) hF (by omega)) (by decide) (Nat.zero_le _) (Nat.zero_le _) (Nat.le_of_ble_eq_true rfl) (fun w39 q39 => ?_)
      obtain ⟨hU, hf9⟩ := q39
      have x0 := (hf9 _ (by omega)).trans x0
      have hT := hT.fr hf9 (by omega)
      have hF := hF.fr hf9 (by omega)
      have hK := hK.fr hf9 (by omega)
      have hA := hA.fr hf9 (by omega)
      have hB := hB.fr hf9 (by omega)
      have hR := hR.fr hf9 (by omega)
      have hZ := hZ.fr hf9 (by omega)
      have hfA := hfA.tr (hf9.wd (by omega) (by omega))
      obtain ⟨j1, j2, j3, j4, j5, j6, hs⟩ := id hF
      obtain ⟨k1, k2, k3, k4, k5, k6, k7, hc⟩ := id hA
      have u0 := hU.o0
      have k0 := hK.o0
      obtain ⟨t1, t2, ht⟩ := id hT
      obtain ⟨_, _, _, _, _, _, _, _, _, _, _, _, _, hr7⟩ := id hR
      obtain ⟨_, _, _, _, _, _, _, _, _, _, hr8⟩ := id hZ
      refine x_aload_n C dX4_tabs_42 rfl ?_
      refine x_get C dX4_tabs_43 kfX4_19 (x0) rfl ?_
      refine x_iload_n C dX4_tabs_46 rfl ?_
      have hf1 : frR w39 w39 (h + 4) (h + 4 + 6) := frR.rf
      refine x_put C dX4_tabs_47 kfX4_185 kw_2_12 rfl rfl hs.o (Nat.le_of_ble_eq_true rfl) ?_
      refine ab_S_tb hs hf1 (fun w50 hs hf1 => ?_)
      have hf9 := hf1
      have hF : isF w50 (h + 4) (D.F.1, D.F.2.1, D.F.2.2.1, D.F.2.2.2.1, p) := ⟨j1, j2, j3, j4, j5, j6, hs⟩
      have x0 := (hf9 _ (by omega)).trans x0
      have hT := hT.fr hf9 (by omega)
      have hU := hU.fr hf9 (by omega)
      have hK := hK.fr hf9 (by omega)
      have hA := hA.fr hf9 (by omega)
      have hB := hB.fr hf9 (by omega)
      have hR := hR.fr hf9 (by omega)
      have hZ := hZ.fr hf9 (by omega)
      have hfA := hfA.tr (hf9.wd (by omega) (by omega))
      obtain ⟨j1, j2, j3, j4, j5, j6, hs⟩ := id hF
      obtain ⟨k1, k2, k3, k4, k5, k6, k7, hc⟩ := id hA
      have u0 := hU.o0
      have k0 := hK.o0
      obtain ⟨t1, t2, ht⟩ := id hT
      obtain ⟨_, _, _, _, _, _, _, _, _, _, _, _, _, hr7⟩ := id hR
      obtain ⟨_, _, _, _, _, _, _, _, _, _, hr8⟩ := id hZ
      refine x_aload_n C dX4_tabs_50 rfl ?_
      refine y_v0 C dX4_tabs_51 kyX4_redraw knX4_redraw kmX4_131 (x0) (c_X4_redraw l (tx := D.tx) (F := (D.F.1, D.F.2.1, D.F.2.2.1, D.F.2.2.2.1, p)) (G := D.F) (U := pushL 8 D.U D.F) (K := D.K) ⟨a, b, ac, hab, x0, hT, hF, hU, hK, hA, hB.any, hR, hZ⟩ ((wfF_iff _).mpr ⟨hwT.1, hwT.2.1, hwT.2.2.1, hwT.2.2.2.1, (by show 1 ≤ p ∧ p ≤ 8; omega)⟩)) (by decide) (Nat.zero_le _) (Nat.zero_le _) (Nat.le_of_ble_eq_true rfl) (fun w51 q51 => ?_)
      have hwf : wfF ((D.F.1, D.F.2.1, D.F.2.2.1, D.F.2.2.2.1, p)) := (wfF_iff _).mpr ⟨hwT.1, hwT.2.1, hwT.2.2.1, hwT.2.2.2.1, (by show 1 ≤ p ∧ p ≤ 8; omega)⟩
      have hfB := hfA.tr q51.2
      obtain ⟨a, b, ac, hab, x0, hT, hF, hU, hK, hA, hB, hR, hZ⟩ := id q51.1
      obtain ⟨j1, j2, j3, j4, j5, j6, hs⟩ := id hF
      obtain ⟨k1, k2, k3, k4, k5, k6, k7, hc⟩ := id hA
      have u0 := hU.o0
      have k0 := hK.o0
      obtain ⟨t1, t2, ht⟩ := id hT
      obtain ⟨_, _, _, _, _, _, _, _, _, _, _, _, _, hr7⟩ := id hR
      obtain ⟨_, _, _, _, _, _, _, _, _, _, hr8⟩ := id hZ
      refine x_iload_n C dX4_tabs_54 rfl ?_
      refine x_iret C hQ dX4_tabs_55 (Nat.le_refl _) (Nat.le_refl _) ?_
      exact ⟨rfl, _, rfl, by rw [f_tabs, if_neg (by omega), if_neg (by omega)]; exact ⟨by first | rfl | assumption | omega, ⟨hW.act hwf, q51.1⟩, hfB⟩⟩
    · refine x_bipush C dX4_tabs_20 ⟨by decide, by decide⟩ ?_
      refine x_iret C hQ dX4_tabs_22 (Nat.le_refl _) (Nat.le_refl _) ?_
      exact ⟨rfl, _, rfl, by rw [f_tabs, if_neg (by omega), if_pos (by omega)]; exact ⟨by first | rfl | assumption, hX2, frR.rf⟩⟩
  · refine x_iconst C dX4_tabs_7 ⟨by decide, by decide⟩ ?_
    refine x_iret C hQ dX4_tabs_8 (Nat.le_refl _) (Nat.le_refl _) ?_
    exact ⟨rfl, _, rfl, by rw [f_tabs, if_pos (by omega)]; exact ⟨by first | rfl | assumption, hX2, frR.rf⟩⟩
