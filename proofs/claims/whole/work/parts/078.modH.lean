/-! ===== the reference: undo, keep, back, texts ===== -/
set_option maxHeartbeats 1000000 in
set_option maxRecDepth 100000 in
theorem c_X5_undo (l : Launch) {w : mW} {h : Nat} {D : mD} (hM : isM w h D) (hD : wfD D) : Ci l yX5_undo cX5_undo 1 (some .int) 5 [vr h] w (fun z w' => z = (f_undo D).1 ∧ isM w' h (f_undo D).2 ∧ frR w w' h (h + 23)) := by
  refine Ci.of (ml := [some (vr h)]) kyX5_undo rfl (Nat.le_of_ble_eq_true rfl) rfl ?_
  intro t n C hQ
  have hM2 := hM
  obtain ⟨wp, wr, ac, ra, rn, M14, M15, M16, M17, M18, M19, M20, M21, M22, M23, hN, hU, hK, hlU, hlK, ⟨jt, ht⟩, hO⟩ := hM
  have hfA : frR w w h (h + 23) := frR.rf
  have hN2 := hN
  obtain ⟨j1, j2, j3, j4, j5, j6, pi, lr, lc, M7, M8, M9, M10, M11, M12, M13, hr⟩ := hN
  obtain ⟨f1, f2, f3, f4, f5, f6, f7, f8, f9, f10, f11, f12⟩ := id hD.2.1
  have hw : ∀ f ∈ D.F.1.2.1, (0 ≤ f.1 ∧ f.1 ≤ 100) ∧ (0 ≤ f.2.1 ∧ f.2.1 ≤ 100) ∧ (f.2.2 = 0 ∨ f.2.2 = 1) := fun f hf9 => by have := f4 f hf9; omega
  have hsm := hD.2.1.sm
  have hwT := (wfF_iff D.F).mp hD.2.1
  rcases last_cases D.U with hL | ⟨L0, G, hL⟩
  · have hul : (D.U.length : Int) = 0 := by rw [hL]; rfl
    refine x_aload_n C dX5_undo_0 rfl ?_
    refine x_get C dX5_undo_1 kfX5_178 hr.o rfl ?_
    refine x_if_ne (tgt := 10) C dX5_undo_4 (by decide) (fun c4 => absurd c4 (by omega)) (fun c4 => ?_)
    refine x_bipush C dX5_undo_7 ⟨by decide, by decide⟩ ?_
    refine x_iret C hQ dX5_undo_9 (Nat.le_refl _) (Nat.le_refl _) ?_
    exact ⟨rfl, _, rfl, by rw [f_undo, hL]; exact ⟨rfl, hM2, frR.rf⟩⟩
  · have hul : (D.U.length : Int) = L0.length + 1 := by rw [hL]; simp
    refine x_aload_n C dX5_undo_0 rfl ?_
    refine x_get C dX5_undo_1 kfX5_178 hr.o rfl ?_
    refine x_if_ne (tgt := 10) C dX5_undo_4 (by decide) (fun c4 => ?_) (fun c4 => absurd c4 (by omega))
    refine x_aload_n C dX5_undo_10 rfl ?_
    refine y_v0 C dX5_undo_11 kyX5_remembers knX5_remembers kmX5_175 hr.o (c_X5_remembers l hN2 hD.2.1) (by decide) (Nat.zero_le _) (Nat.zero_le _) (Nat.le_of_ble_eq_true rfl) (fun w11 q11 => ?_)
    obtain ⟨j17, j18, j19, j20, hN, hf9⟩ := q11
    have hfA := hfA.tr hf9
    have hf : frR w11 w11 h (h + 23) := frR.rf
    obtain ⟨j1, j2, j3, j4, j5, j6, pi, lr, lc, M7, M8, M9, M10, M11, M12, M13, hr⟩ := hN
    have l14 := hr.l14
    have hwG : wfF G := hD.2.2.1 G (by rw [hL]; simp)
    have hnG : noteF M14 (68 * L0.length) G := (hL ▸ hU) L0.length G (by simp)
    refine x_aload_n C dX5_undo_14 rfl ?_
    refine x_dup C dX5_undo_15 rfl ?_
    refine x_get C dX5_undo_16 kfX5_178 hr.o rfl ?_
    refine x_iconst C dX5_undo_19 ⟨by decide, by decide⟩ ?_
    refine x_isub C dX5_undo_20 (by first | (unfold iR; omega) | exact ⟨by omega, by omega⟩) ?_
    refine x_put C dX5_undo_21 kfX5_178 kw_5_24 rfl rfl hr.o (Nat.le_of_ble_eq_true rfl) ?_
    refine ab_M_um hr hf (fun w hr hf => ?_)
    rw [show (D.U.length : Int) - 1 = L0.length by omega] at hr
    refine x_aload_n C dX5_undo_24 rfl ?_
    refine x_aload_n C dX5_undo_25 rfl ?_
    refine x_get C dX5_undo_26 kfX5_59 hr.o rfl ?_
    refine x_bipush C dX5_undo_29 ⟨by decide, by decide⟩ ?_
    refine x_aload_n C dX5_undo_31 rfl ?_
    refine x_get C dX5_undo_32 kfX5_178 hr.o rfl ?_
    refine x_imul C dX5_undo_35 (by first | (unfold iR; omega) | exact ⟨by omega, by omega⟩) ?_
    refine y_v2 C dX5_undo_36 kyX5_takes knX5_takes kmX5_211 hr.o (c_X5_takes l hr (ad := h + 14) (b := 68 * L0.length) (B := 68 * (L0.length : Int)) (L := M14) (by omega) (fun hr => hr.a14) (by omega) (by omega)) (by decide) (Nat.zero_le _) (Nat.zero_le _) (Nat.le_of_ble_eq_true rfl) (fun w36 q36 => ?_)
    obtain ⟨M1, M2, M3, M4, M5, M6, hr, hf9, g5, g1⟩ := q36
    have hfA := hfA.tr (hf.tr hf9)
    have hN2 := takesF (w := w36) (lenF hwG) hnG hr g5 g1
    obtain ⟨j1, j2, j3, j4, j5, j6, pi, lr, lc, M7, M8, M9, M10, M11, M12, M13, hr⟩ := id hN2
    refine x_aload_n C dX5_undo_39 rfl ?_
    refine x_get C dX5_undo_40 kfX5_178 hr.o rfl ?_
    refine x_iret C hQ dX5_undo_43 (Nat.le_refl _) (Nat.le_refl _) ?_
    exact ⟨rfl, _, rfl, by rw [f_undo_c hL]; exact ⟨rfl, ⟨_, _, _, _, _, _, _, _, _, _, _, _, _, _, _, hN2, nts_sub (hL ▸ hU), hK, (by show L0.length ≤ 8; omega), hlK, ⟨jt, ht⟩, ⟨rfl, rfl, rfl, j17, j18, j19, j20, rfl, rfl, rfl, rfl⟩⟩, hfA⟩⟩

set_option maxHeartbeats 1000000 in
set_option maxRecDepth 100000 in
theorem c_X5_keep (l : Launch) {w : mW} {h : Nat} {D : mD} (hM : isM w h D) (hD : wfD D) : Ci l yX5_keep cX5_keep 1 (some .int) 1 [vr h] w (fun z w' => z = (f_keep D).1 ∧ isM w' h (f_keep D).2 ∧ frR w w' h (h + 23)) := by
  refine Ci.of (ml := [some (vr h)]) kyX5_keep rfl (Nat.le_of_ble_eq_true rfl) rfl ?_
  intro t n C hQ
  have hM2 := hM
  obtain ⟨wp, wr, ac, ra, rn, M14, M15, M16, M17, M18, M19, M20, M21, M22, M23, hN, hU, hK, hlU, hlK, ⟨jt, ht⟩, hO⟩ := hM
  have hfA : frR w w h (h + 23) := frR.rf
  have hN2 := hN
  obtain ⟨j1, j2, j3, j4, j5, j6, pi, lr, lc, M7, M8, M9, M10, M11, M12, M13, hr⟩ := hN
  obtain ⟨f1, f2, f3, f4, f5, f6, f7, f8, f9, f10, f11, f12⟩ := id hD.2.1
  have hw : ∀ f ∈ D.F.1.2.1, (0 ≤ f.1 ∧ f.1 ≤ 100) ∧ (0 ≤ f.2.1 ∧ f.2.1 ≤ 100) ∧ (f.2.2 = 0 ∨ f.2.2 = 1) := fun f hf9 => by have := f4 f hf9; omega
  have hsm := hD.2.1.sm
  have hwT := (wfF_iff D.F).mp hD.2.1
  have hf : frR w w h (h + 23) := frR.rf
  have l15 := hr.l15
  refine x_aload_n C dX5_keep_0 rfl ?_
  refine x_get C dX5_keep_1 kfX5_214 hr.o rfl ?_
  refine x_iconst C dX5_keep_4 ⟨by decide, by decide⟩ ?_
  refine x_icmp_ne (tgt := 11) C dX5_keep_5 (by decide) (fun c5 => ?_) (fun c5 => ?_)
  · refine x_aload_n C dX5_keep_11 rfl ?_
    refine x_aload_n C dX5_keep_12 rfl ?_
    refine x_get C dX5_keep_13 kfX5_62 hr.o rfl ?_
    refine x_bipush C dX5_keep_16 ⟨by decide, by decide⟩ ?_
    refine x_aload_n C dX5_keep_18 rfl ?_
    refine x_get C dX5_keep_19 kfX5_214 hr.o rfl ?_
    refine x_imul C dX5_keep_22 (by first | (unfold iR; omega) | exact ⟨by omega, by omega⟩) ?_
    refine y_v2 C dX5_keep_23 kyX5_lays knX5_lays kmX5_181 hr.o (c_X5_lays l hr (ad := h + 15) (b := 68 * D.K.length) (B := 68 * (D.K.length : Int)) (by omega) (by omega) hr.a15 (by omega) (by omega)) (by decide) (Nat.zero_le _) (Nat.zero_le _) (Nat.le_of_ble_eq_true rfl) (fun w23 q23 => ?_)
    obtain ⟨L9, e9, n9, nr9, fr9⟩ := q23
    subst e9
    refine ab_M_M15 hr hf (by rw [n9]; exact hr.l15) (fun w23 hr hf => ?_)
    refine x_aload_n C dX5_keep_26 rfl ?_
    refine x_dup C dX5_keep_27 rfl ?_
    refine x_get C dX5_keep_28 kfX5_214 hr.o rfl ?_
    refine x_iconst C dX5_keep_31 ⟨by decide, by decide⟩ ?_
    refine x_iadd C dX5_keep_32 (by first | (unfold iR; omega) | exact ⟨by omega, by omega⟩) ?_
    refine x_put C dX5_keep_33 kfX5_214 kw_5_26 rfl rfl hr.o (Nat.le_of_ble_eq_true rfl) ?_
    refine ab_M_sm hr hf (fun w hr hf => ?_)
    refine x_aload_n C dX5_keep_36 rfl ?_
    refine x_get C dX5_keep_37 kfX5_214 hr.o rfl ?_
    refine x_iret C hQ dX5_keep_40 (Nat.le_refl _) (Nat.le_refl _) ?_
    rw [show (D.K.length : Int) + 1 = ((D.K ++ [D.F]).length : Nat) by simp] at hr
    exact ⟨rfl, _, rfl, by rw [f_keep, if_neg (by omega)]; exact ⟨rfl, ⟨_, _, _, _, _, _, _, _, _, _, _, _, _, _, _, ⟨j1, j2, j3, j4, j5, j6, pi, lr, lc, M7, M8, M9, M10, M11, M12, M13, hr⟩, hU, nts_snoc hK hD.2.2.2.1 (nr9.f (lenF hD.2.1)) fr9, hlU, (by show (D.K ++ [D.F]).length ≤ 2; simp; omega), ⟨jt, ht⟩, hO⟩, hf⟩⟩
  · refine x_bipush C dX5_keep_8 ⟨by decide, by decide⟩ ?_
    refine x_iret C hQ dX5_keep_10 (Nat.le_refl _) (Nat.le_refl _) ?_
    exact ⟨rfl, _, rfl, by rw [f_keep, if_pos (by omega)]; exact ⟨by first | rfl | assumption, hM2, frR.rf⟩⟩

set_option maxHeartbeats 1000000 in
set_option maxRecDepth 100000 in
theorem c_X5_back (l : Launch) {w : mW} {h : Nat} {D : mD} (hM : isM w h D) (hD : wfD D) : Ci l yX5_back cX5_back 1 (some .int) 1 [vr h] w (fun z w' => z = (f_back D).1 ∧ isM w' h (f_back D).2 ∧ frR w w' h (h + 23)) := by
  refine Ci.of (ml := [some (vr h)]) kyX5_back rfl (Nat.le_of_ble_eq_true rfl) rfl ?_
  intro t n C hQ
  have hM2 := hM
  obtain ⟨wp, wr, ac, ra, rn, M14, M15, M16, M17, M18, M19, M20, M21, M22, M23, hN, hU, hK, hlU, hlK, ⟨jt, ht⟩, hO⟩ := hM
  have hfA : frR w w h (h + 23) := frR.rf
  have hN2 := hN
  obtain ⟨j1, j2, j3, j4, j5, j6, pi, lr, lc, M7, M8, M9, M10, M11, M12, M13, hr⟩ := hN
  obtain ⟨f1, f2, f3, f4, f5, f6, f7, f8, f9, f10, f11, f12⟩ := id hD.2.1
  have hw : ∀ f ∈ D.F.1.2.1, (0 ≤ f.1 ∧ f.1 ≤ 100) ∧ (0 ≤ f.2.1 ∧ f.2.1 ≤ 100) ∧ (f.2.2 = 0 ∨ f.2.2 = 1) := fun f hf9 => by have := f4 f hf9; omega
  have hsm := hD.2.1.sm
  have hwT := (wfF_iff D.F).mp hD.2.1
  rcases last_cases D.K with hL | ⟨L0, G, hL⟩
  · have hul : (D.K.length : Int) = 0 := by rw [hL]; rfl
    refine x_aload_n C dX5_back_0 rfl ?_
    refine x_get C dX5_back_1 kfX5_214 hr.o rfl ?_
    refine x_if_ne (tgt := 10) C dX5_back_4 (by decide) (fun c4 => absurd c4 (by omega)) (fun c4 => ?_)
    refine x_bipush C dX5_back_7 ⟨by decide, by decide⟩ ?_
    refine x_iret C hQ dX5_back_9 (Nat.le_refl _) (Nat.le_refl _) ?_
    exact ⟨rfl, _, rfl, by rw [f_back, hL]; exact ⟨rfl, hM2, frR.rf⟩⟩
  · have hul : (D.K.length : Int) = L0.length + 1 := by rw [hL]; simp
    have hf : frR w w h (h + 23) := frR.rf
    have l15 := hr.l15
    have hwG : wfF G := hD.2.2.2.1 G (by rw [hL]; simp)
    have hnG : noteF M15 (68 * L0.length) G := (hL ▸ hK) L0.length G (by simp)
    refine x_aload_n C dX5_back_0 rfl ?_
    refine x_get C dX5_back_1 kfX5_214 hr.o rfl ?_
    refine x_if_ne (tgt := 10) C dX5_back_4 (by decide) (fun c4 => ?_) (fun c4 => absurd c4 (by omega))
    refine x_aload_n C dX5_back_10 rfl ?_
    refine x_dup C dX5_back_11 rfl ?_
    refine x_get C dX5_back_12 kfX5_214 hr.o rfl ?_
    refine x_iconst C dX5_back_15 ⟨by decide, by decide⟩ ?_
    refine x_isub C dX5_back_16 (by first | (unfold iR; omega) | exact ⟨by omega, by omega⟩) ?_
    refine x_put C dX5_back_17 kfX5_214 kw_5_26 rfl rfl hr.o (Nat.le_of_ble_eq_true rfl) ?_
    refine ab_M_sm hr hf (fun w hr hf => ?_)
    rw [show (D.K.length : Int) - 1 = L0.length by omega] at hr
    refine x_aload_n C dX5_back_20 rfl ?_
    refine x_aload_n C dX5_back_21 rfl ?_
    refine x_get C dX5_back_22 kfX5_62 hr.o rfl ?_
    refine x_bipush C dX5_back_25 ⟨by decide, by decide⟩ ?_
    refine x_aload_n C dX5_back_27 rfl ?_
    refine x_get C dX5_back_28 kfX5_214 hr.o rfl ?_
    refine x_imul C dX5_back_31 (by first | (unfold iR; omega) | exact ⟨by omega, by omega⟩) ?_
    refine y_v2 C dX5_back_32 kyX5_takes knX5_takes kmX5_211 hr.o (c_X5_takes l hr (ad := h + 15) (b := 68 * L0.length) (B := 68 * (L0.length : Int)) (L := M15) (by omega) (fun hr => hr.a15) (by omega) (by omega)) (by decide) (Nat.zero_le _) (Nat.zero_le _) (Nat.le_of_ble_eq_true rfl) (fun w32 q32 => ?_)
    obtain ⟨M1, M2, M3, M4, M5, M6, hr, hf9, g5, g1⟩ := q32
    have hfA := hfA.tr (hf.tr hf9)
    have hN2 := takesF (w := w32) (lenF hwG) hnG hr g5 g1
    obtain ⟨j1, j2, j3, j4, j5, j6, pi, lr, lc, M7, M8, M9, M10, M11, M12, M13, hr⟩ := id hN2
    have hf : frR w32 w32 h (h + 23) := frR.rf
    refine x_aload_n C dX5_back_35 rfl ?_
    refine x_iconst C dX5_back_36 ⟨by decide, by decide⟩ ?_
    refine x_put C dX5_back_37 kfX5_178 kw_5_24 rfl rfl hr.o (Nat.le_of_ble_eq_true rfl) ?_
    refine ab_M_um hr hf (fun w hr hf => ?_)
    refine x_aload_n C dX5_back_40 rfl ?_
    refine x_iconst C dX5_back_41 ⟨by decide, by decide⟩ ?_
    refine x_put C dX5_back_42 kfX5_171 kw_5_34 (nar_z (by first | exact Or.inl rfl | exact Or.inr rfl | assumption | omega)).1 (nar_z (by first | exact Or.inl rfl | exact Or.inr rfl | assumption | omega)).2 hr.o (Nat.le_of_ble_eq_true rfl) ?_
    refine ab_M_ac hr hf (fun w hr hf => ?_)
    refine x_aload_n C dX5_back_45 rfl ?_
    refine x_get C dX5_back_46 kfX5_214 hr.o rfl ?_
    refine x_iret C hQ dX5_back_49 (Nat.le_refl _) (Nat.le_refl _) ?_
    exact ⟨rfl, _, rfl, by rw [f_back_c hL]; exact ⟨rfl, ⟨_, _, _, _, _, _, _, _, _, _, _, _, _, _, _, ⟨j1, j2, j3, j4, j5, j6, pi, lr, lc, M7, M8, M9, M10, M11, M12, M13, hr⟩, (fun i G9 hG => by have h9 : ([] : List mF)[i]? = some G9 := hG; simp at h9), nts_sub (hL ▸ hK), (by show ([] : List mF).length ≤ 8; simp), (by show L0.length ≤ 2; omega), ⟨jt, ht⟩, rfl⟩, hfA.tr hf⟩⟩

set_option maxHeartbeats 1000000 in
set_option maxRecDepth 100000 in
theorem c_X5_write (l : Launch) {w : mW} {h : Nat} {D : mD} (hM : isM w h D) (hD : wfD D) (p : Int) : Ci l yX5_write cX5_write 2 (some .int) 1 [vr h, vi p] w (fun z w' => z = (f_write D p).1 ∧ isM w' h (f_write D p).2 ∧ frR w w' h (h + 23)) := by
  refine Ci.of (ml := [some (vr h), some (vi p)]) kyX5_write rfl (Nat.le_of_ble_eq_true rfl) rfl ?_
  intro t n C hQ
  have hM2 := hM
  obtain ⟨wp, wr, ac, ra, rn, M14, M15, M16, M17, M18, M19, M20, M21, M22, M23, hN, hU, hK, hlU, hlK, ⟨jt, ht⟩, hO⟩ := hM
  have hfA : frR w w h (h + 23) := frR.rf
  have hN2 := hN
  obtain ⟨j1, j2, j3, j4, j5, j6, pi, lr, lc, M7, M8, M9, M10, M11, M12, M13, hr⟩ := hN
  obtain ⟨f1, f2, f3, f4, f5, f6, f7, f8, f9, f10, f11, f12⟩ := id hD.2.1
  have hw : ∀ f ∈ D.F.1.2.1, (0 ≤ f.1 ∧ f.1 ≤ 100) ∧ (0 ≤ f.2.1 ∧ f.2.1 ≤ 100) ∧ (f.2.2 = 0 ∨ f.2.2 = 1) := fun f hf9 => by have := f4 f hf9; omega
  have hsm := hD.2.1.sm
  have hwT := (wfF_iff D.F).mp hD.2.1
  have hf : frR w w h (h + 23) := frR.rf
  have l22 := hr.l22
  subst ht
  simp only [List.length_append] at l22
  refine x_iload_n C dX5_write_0 rfl ?_
  refine x_bipush C dX5_write_1 ⟨by decide, by decide⟩ ?_
  refine x_bipush C dX5_write_3 ⟨by decide, by decide⟩ ?_
  refine z_p3 C dX5_write_5 kyX5_in ksX5_in kmX5_103 (c_X5_in l p 32 126) (by decide) (Nat.zero_le _) (Nat.zero_le _) (Nat.le_of_ble_eq_true rfl) (fun z5 q5 => ?_)
  refine x_if_ne (tgt := 13) C dX5_write_8 (by decide) (fun c8 => ?_) (fun c8 => ?_)
  · refine x_aload_n C dX5_write_13 rfl ?_
    refine x_get C dX5_write_14 kfX5_261 hr.o rfl ?_
    refine x_sipush C dX5_write_17 ⟨by decide, by decide⟩ ?_
    refine x_icmp_ne (tgt := 26) C dX5_write_20 (by decide) (fun c20 => ?_) (fun c20 => ?_)
    · obtain ⟨x9, jt, rfl⟩ : ∃ u v, jt = u :: v := List.exists_cons_of_length_pos (by omega)
      refine x_aload_n C dX5_write_26 rfl ?_
      refine x_get C dX5_write_27 kfX5_83 hr.o rfl ?_
      refine x_aload_n C dX5_write_30 rfl ?_
      refine x_get C dX5_write_31 kfX5_261 hr.o rfl ?_
      refine x_iload_n C dX5_write_34 rfl ?_
      refine x_iast C dX5_write_35 hr.a22 (by omega) (by rw [hr.l22]; omega) ?_
      refine ab_M_M22 hr hf (by rw [List.length_set]; exact hr.l22) (fun w hr hf => ?_)
      refine x_aload_n C dX5_write_36 rfl ?_
      refine x_dup C dX5_write_37 rfl ?_
      refine x_get C dX5_write_38 kfX5_261 hr.o rfl ?_
      refine x_iconst C dX5_write_41 ⟨by decide, by decide⟩ ?_
      refine x_iadd C dX5_write_42 (by first | (unfold iR; omega) | exact ⟨by omega, by omega⟩) ?_
      refine x_put C dX5_write_43 kfX5_261 kw_5_37 rfl rfl hr.o (Nat.le_of_ble_eq_true rfl) ?_
      refine ab_M_sz hr hf (fun w hr hf => ?_)
      refine x_aload_n C dX5_write_46 rfl ?_
      refine x_get C dX5_write_47 kfX5_261 hr.o rfl ?_
      refine x_iret C hQ dX5_write_50 (Nat.le_refl _) (Nat.le_refl _) ?_
      rw [set_mid _ x9 _ jt (by omega)] at hr
      have e9 : f_write D p = ((D.tx.length : Int) + 1, (D.tx ++ [p], D.F, D.U, D.K, D.O)) := by rw [f_write, if_neg (by omega), if_pos (by omega)]
      rw [show (D.tx.length : Int) + 1 = ((D.tx ++ [p]).length : Nat) by simp] at hr
      exact ⟨rfl, _, rfl, by rw [e9]; exact ⟨rfl, ⟨_, _, _, _, _, _, _, _, _, _, _, _, _, _, _, ⟨j1, j2, j3, j4, j5, j6, pi, lr, lc, M7, M8, M9, M10, M11, M12, M13, hr⟩, hU, hK, hlU, hlK, ⟨jt, (by show D.tx ++ p :: jt = (D.tx ++ [p]) ++ jt; simp)⟩, hO⟩, hf⟩⟩
    · refine x_bipush C dX5_write_23 ⟨by decide, by decide⟩ ?_
      refine x_iret C hQ dX5_write_25 (Nat.le_refl _) (Nat.le_refl _) ?_
      exact ⟨rfl, _, rfl, by rw [f_write, if_neg (by omega), if_neg (by omega)]; exact ⟨by first | rfl | assumption, hM2, frR.rf⟩⟩
  · refine x_iconst C dX5_write_11 ⟨by decide, by decide⟩ ?_
    refine x_iret C hQ dX5_write_12 (Nat.le_refl _) (Nat.le_refl _) ?_
    exact ⟨rfl, _, rfl, by rw [f_write, if_pos (by omega)]; exact ⟨by first | rfl | assumption, hM2, frR.rf⟩⟩

set_option maxHeartbeats 1000000 in
set_option maxRecDepth 100000 in
theorem c_X5_wipe (l : Launch) {w : mW} {h : Nat} {D : mD} (hM : isM w h D) (hD : wfD D) : Ci l yX5_wipe cX5_wipe 2 (some .int) 0 [vr h] w (fun z w' => z = (f_wipe D).1 ∧ isM w' h (f_wipe D).2 ∧ frR w w' h (h + 23)) := by
  refine Ci.of (ml := [some (vr h), none]) kyX5_wipe rfl (Nat.le_of_ble_eq_true rfl) rfl ?_
  intro t n C hQ
  have hM2 := hM
  obtain ⟨wp, wr, ac, ra, rn, M14, M15, M16, M17, M18, M19, M20, M21, M22, M23, hN, hU, hK, hlU, hlK, ⟨jt, ht⟩, hO⟩ := hM
  have hfA : frR w w h (h + 23) := frR.rf
  have hN2 := hN
  obtain ⟨j1, j2, j3, j4, j5, j6, pi, lr, lc, M7, M8, M9, M10, M11, M12, M13, hr⟩ := hN
  obtain ⟨f1, f2, f3, f4, f5, f6, f7, f8, f9, f10, f11, f12⟩ := id hD.2.1
  have hw : ∀ f ∈ D.F.1.2.1, (0 ≤ f.1 ∧ f.1 ≤ 100) ∧ (0 ≤ f.2.1 ∧ f.2.1 ≤ 100) ∧ (f.2.2 = 0 ∨ f.2.2 = 1) := fun f hf9 => by have := f4 f hf9; omega
  have hsm := hD.2.1.sm
  have hwT := (wfF_iff D.F).mp hD.2.1
  have hf : frR w w h (h + 23) := frR.rf
  refine x_aload_n C dX5_wipe_0 rfl ?_
  refine x_get C dX5_wipe_1 kfX5_261 hr.o rfl ?_
  refine s_ist2_1 C dX5_wipe_4 rfl ?_
  refine x_aload_n C dX5_wipe_5 rfl ?_
  refine x_iconst C dX5_wipe_6 ⟨by decide, by decide⟩ ?_
  refine x_put C dX5_wipe_7 kfX5_261 kw_5_37 rfl rfl hr.o (Nat.le_of_ble_eq_true rfl) ?_
  refine ab_M_sz hr hf (fun w hr hf => ?_)
  refine x_iload_n C dX5_wipe_10 rfl ?_
  refine x_iret C hQ dX5_wipe_11 (Nat.le_refl _) (Nat.le_refl _) ?_
  exact ⟨rfl, _, rfl, rfl, ⟨_, _, _, _, _, _, _, _, _, _, _, _, _, _, _, ⟨j1, j2, j3, j4, j5, j6, pi, lr, lc, M7, M8, M9, M10, M11, M12, M13, hr⟩, hU, hK, hlU, hlK, ⟨M22, rfl⟩, hO⟩, hf⟩
