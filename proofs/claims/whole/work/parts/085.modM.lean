/-! ===== the reference: fault, lay ===== -/
set_option maxHeartbeats 1000000 in
set_option maxRecDepth 100000 in
theorem c_X5_fault (l : Launch) {w : mW} {h : Nat} {D : mD} (hM : isM w h D) (hD : wfD D) : Ci l yX5_fault cX5_fault 2 (some .int) 6 [vr h] w (fun z w' => z = (rdD D).1 ∧ isM w' h D ∧ frR w w' h (h + 23)) := by
  refine Ci.of (ml := [some (vr h), none]) kyX5_fault rfl (Nat.le_of_ble_eq_true rfl) rfl ?_
  intro t n C hQ
  have hM2 := hM
  obtain ⟨wp, wr, ac, ra, rn, M14, M15, M16, M17, M18, M19, M20, M21, M22, M23, hN, hU, hK, hlU, hlK, ⟨jt, ht⟩, hO⟩ := hM
  have hfA : frR w w h (h + 23) := frR.rf
  have hN2 := hN
  obtain ⟨j1, j2, j3, j4, j5, j6, pi, lr, lc, M7, M8, M9, M10, M11, M12, M13, hr⟩ := hN
  obtain ⟨f1, f2, f3, f4, f5, f6, f7, f8, f9, f10, f11, f12⟩ := id hD.2.1
  have hw : ∀ f ∈ D.F.1.2.1, (0 ≤ f.1 ∧ f.1 ≤ 100) ∧ (0 ≤ f.2.1 ∧ f.2.1 ≤ 100) ∧ (f.2.2 = 0 ∨ f.2.2 = 1) := fun f hf9 => by have := f4 f hf9; omega
  have hsm := hD.2.1.sm
  have hwT := (wfF_iff D.F).mp hD.2.1
  have hf : frR w w h (h + 23) := frR.rf
  have l23 := hr.l23
  refine x_aload_n C dX5_fault_0 rfl ?_
  refine x_aload_n C dX5_fault_1 rfl ?_
  refine x_get C dX5_fault_2 kfX5_86 hr.o rfl ?_
  refine x_iconst C dX5_fault_5 ⟨by decide, by decide⟩ ?_
  refine y_v2 C dX5_fault_6 kyX5_lays knX5_lays kmX5_181 hr.o (c_X5_lays l hr (ad := h + 23) (b := 0) (B := 0) rfl (by omega) hr.a23 (by omega) (by omega)) (by decide) (Nat.zero_le _) (Nat.zero_le _) (Nat.le_of_ble_eq_true rfl) (fun w6 q6 => ?_)
  obtain ⟨L9, e9, n9, nr9, fr9⟩ := q6
  subst e9
  refine ab_M_M23 hr hf (by rw [n9]; exact hr.l23) (fun w6 hr hf => ?_)
  have n9 : L9.length = 68 := by rw [n9]; omega
  subst ht
  refine x_aload_n C dX5_fault_9 rfl ?_
  refine y_i0 C dX5_fault_10 kyX5_readsAll knX5_readsAll kmX5_299 hr.o (c_X5_readsAll l (F := D.F) (tx := D.tx) (jt := jt) ⟨j1, j2, j3, j4, j5, j6, pi, lr, lc, M7, M8, M9, M10, M11, M12, M13, hr⟩ hD.1) (by decide) (Nat.zero_le _) (Nat.zero_le _) (Nat.le_of_ble_eq_true rfl) (fun z10 w10 q10 => ?_)
  obtain ⟨G, ra9, rn9, qz, qG, hN9, hf9⟩ := q10
  have qz : z10 = (rdD D).1 := qz
  have hf := hf.tr hf9
  obtain ⟨j1, j2, j3, j4, j5, j6, pi, lr, lc, M7, M8, M9, M10, M11, M12, M13, hr⟩ := id hN9
  refine s_ist2_1 C dX5_fault_13 rfl ?_
  refine x_aload_n C dX5_fault_14 rfl ?_
  refine x_aload_n C dX5_fault_15 rfl ?_
  refine x_get C dX5_fault_16 kfX5_86 hr.o rfl ?_
  refine x_iconst C dX5_fault_19 ⟨by decide, by decide⟩ ?_
  refine y_v2 C dX5_fault_20 kyX5_takes knX5_takes kmX5_211 hr.o (c_X5_takes l hr (ad := h + 23) (b := 0) (B := 0) (L := L9) rfl (fun hr => hr.a23) (by omega) (by omega)) (by decide) (Nat.zero_le _) (Nat.zero_le _) (Nat.le_of_ble_eq_true rfl) (fun w20 q20 => ?_)
  obtain ⟨M1, M2, M3, M4, M5, M6, hr, hf9, g5, g1⟩ := q20
  have hf := hf.tr hf9
  have hN2 := takesF (w := w20) (lenF hD.2.1) (nr9.f (lenF hD.2.1)) hr g5 g1
  obtain ⟨j1, j2, j3, j4, j5, j6, pi, lr, lc, M7, M8, M9, M10, M11, M12, M13, hr⟩ := id hN2
  refine x_iload_n C dX5_fault_23 rfl ?_
  refine x_iret C hQ dX5_fault_24 (Nat.le_refl _) (Nat.le_refl _) ?_
  exact ⟨rfl, _, rfl, qz, ⟨_, _, _, _, _, _, _, _, _, _, _, _, _, _, _, hN2, hU, hK, hlU, hlK, ⟨jt, rfl⟩, hO⟩, hf⟩

set_option maxHeartbeats 1000000 in
set_option maxRecDepth 100000 in
theorem c_X5_lay (l : Launch) {w : mW} {h : Nat} {D : mD} (hM : isM w h D) (hD : wfD D) : Ci l yX5_lay cX5_lay 1 (some .int) 6 [vr h] w (fun z w' => z = (f_lay D).1 ∧ isM w' h (f_lay D).2 ∧ frR w w' h (h + 23)) := by
  refine Ci.of (ml := [some (vr h)]) kyX5_lay rfl (Nat.le_of_ble_eq_true rfl) rfl ?_
  intro t n C hQ
  have hM2 := hM
  obtain ⟨wp, wr, ac, ra, rn, M14, M15, M16, M17, M18, M19, M20, M21, M22, M23, hN, hU, hK, hlU, hlK, ⟨jt, ht⟩, hO⟩ := hM
  have hfA : frR w w h (h + 23) := frR.rf
  have hN2 := hN
  obtain ⟨j1, j2, j3, j4, j5, j6, pi, lr, lc, M7, M8, M9, M10, M11, M12, M13, hr⟩ := hN
  obtain ⟨f1, f2, f3, f4, f5, f6, f7, f8, f9, f10, f11, f12⟩ := id hD.2.1
  have hw : ∀ f ∈ D.F.1.2.1, (0 ≤ f.1 ∧ f.1 ≤ 100) ∧ (0 ≤ f.2.1 ∧ f.2.1 ≤ 100) ∧ (f.2.2 = 0 ∨ f.2.2 = 1) := fun f hf9 => by have := f4 f hf9; omega
  have hsm := hD.2.1.sm
  have hwT := (wfF_iff D.F).mp hD.2.1
  have hf : frR w w h (h + 23) := frR.rf
  have l23 := hr.l23
  refine x_aload_n C dX5_lay_0 rfl ?_
  refine x_aload_n C dX5_lay_1 rfl ?_
  refine x_get C dX5_lay_2 kfX5_86 hr.o rfl ?_
  refine x_iconst C dX5_lay_5 ⟨by decide, by decide⟩ ?_
  refine y_v2 C dX5_lay_6 kyX5_lays knX5_lays kmX5_181 hr.o (c_X5_lays l hr (ad := h + 23) (b := 0) (B := 0) rfl (by omega) hr.a23 (by omega) (by omega)) (by decide) (Nat.zero_le _) (Nat.zero_le _) (Nat.le_of_ble_eq_true rfl) (fun w6 q6 => ?_)
  obtain ⟨L9, e9, n9, nr9, fr9⟩ := q6
  subst e9
  refine ab_M_M23 hr hf (by rw [n9]; exact hr.l23) (fun w6 hr hf => ?_)
  have n9 : L9.length = 68 := by rw [n9]; omega
  subst ht
  refine x_aload_n C dX5_lay_9 rfl ?_
  refine y_i0 C dX5_lay_10 kyX5_readsAll knX5_readsAll kmX5_299 hr.o (c_X5_readsAll l (F := D.F) (tx := D.tx) (jt := jt) ⟨j1, j2, j3, j4, j5, j6, pi, lr, lc, M7, M8, M9, M10, M11, M12, M13, hr⟩ hD.1) (by decide) (Nat.zero_le _) (Nat.zero_le _) (Nat.le_of_ble_eq_true rfl) (fun z10 w10 q10 => ?_)
  obtain ⟨G, ra9, rn9, qz, qG, hN9, hf9⟩ := q10
  have qz : z10 = (rdD D).1 := qz
  have hf := hf.tr hf9
  obtain ⟨j1, j2, j3, j4, j5, j6, pi, lr, lc, M7, M8, M9, M10, M11, M12, M13, hr⟩ := id hN9
  refine x_bipush C dX5_lay_13 ⟨by decide, by decide⟩ ?_
  refine x_icmp_eq (tgt := 30) C dX5_lay_15 (by decide) (fun c15 => ?_) (fun c15 => ?_)
  · refine x_aload_n C dX5_lay_30 rfl ?_
    refine x_iconst C dX5_lay_31 ⟨by decide, by decide⟩ ?_
    refine x_put C dX5_lay_32 kfX5_178 kw_5_24 rfl rfl hr.o (Nat.le_of_ble_eq_true rfl) ?_
    refine ab_M_um hr hf (fun w hr hf => ?_)
    refine x_aload_n C dX5_lay_35 rfl ?_
    refine x_iconst C dX5_lay_36 ⟨by decide, by decide⟩ ?_
    refine x_put C dX5_lay_37 kfX5_214 kw_5_26 rfl rfl hr.o (Nat.le_of_ble_eq_true rfl) ?_
    refine ab_M_sm hr hf (fun w hr hf => ?_)
    refine x_aload_n C dX5_lay_40 rfl ?_
    refine x_iconst C dX5_lay_41 ⟨by decide, by decide⟩ ?_
    refine x_put C dX5_lay_42 kfX5_171 kw_5_34 (nar_z (by first | exact Or.inl rfl | exact Or.inr rfl | assumption | omega)).1 (nar_z (by first | exact Or.inl rfl | exact Or.inr rfl | assumption | omega)).2 hr.o (Nat.le_of_ble_eq_true rfl) ?_
    refine ab_M_ac hr hf (fun w hr hf => ?_)
    refine x_aload_n C dX5_lay_45 rfl ?_
    refine x_get C dX5_lay_46 kfX5_89 hr.o rfl ?_
    refine x_iret C hQ dX5_lay_49 (Nat.le_refl _) (Nat.le_refl _) ?_
    have eG := qG (by omega)
    have e9 : f_lay D = (((rdD D).2.1.1.length : Int), (D.tx, (rdD D).2, [], [], none)) := by rw [f_lay, if_neg (fun h9 => h9 (by rw [← qz]; omega))]
    have eG : G = (rdD D).2 := eG
    subst eG
    exact ⟨rfl, _, rfl, by rw [e9]; exact ⟨rfl, ⟨_, _, _, _, _, _, _, _, _, _, _, _, _, _, _, ⟨j1, j2, j3, j4, j5, j6, pi, lr, lc, M7, M8, M9, M10, M11, M12, M13, hr⟩, (fun i G9 hG => by have h9 : ([] : List mF)[i]? = some G9 := hG; simp at h9), (fun i G9 hG => by have h9 : ([] : List mF)[i]? = some G9 := hG; simp at h9), (by show ([] : List mF).length ≤ 8; simp), (by show ([] : List mF).length ≤ 2; simp), ⟨jt, rfl⟩, rfl⟩, hf⟩⟩
  · refine x_aload_n C dX5_lay_18 rfl ?_
    refine x_aload_n C dX5_lay_19 rfl ?_
    refine x_get C dX5_lay_20 kfX5_86 hr.o rfl ?_
    refine x_iconst C dX5_lay_23 ⟨by decide, by decide⟩ ?_
    refine y_v2 C dX5_lay_24 kyX5_takes knX5_takes kmX5_211 hr.o (c_X5_takes l hr (ad := h + 23) (b := 0) (B := 0) (L := L9) rfl (fun hr => hr.a23) (by omega) (by omega)) (by decide) (Nat.zero_le _) (Nat.zero_le _) (Nat.le_of_ble_eq_true rfl) (fun w24 q24 => ?_)
    obtain ⟨M1, M2, M3, M4, M5, M6, hr, hf9, g5, g1⟩ := q24
    have hf := hf.tr hf9
    have hN2 := takesF (w := w24) (lenF hD.2.1) (nr9.f (lenF hD.2.1)) hr g5 g1
    obtain ⟨j1, j2, j3, j4, j5, j6, pi, lr, lc, M7, M8, M9, M10, M11, M12, M13, hr⟩ := id hN2
    refine x_bipush C dX5_lay_27 ⟨by decide, by decide⟩ ?_
    refine x_iret C hQ dX5_lay_29 (Nat.le_refl _) (Nat.le_refl _) ?_
    exact ⟨rfl, _, rfl, by rw [f_lay, if_pos (by rw [← qz]; omega)]; exact ⟨rfl, ⟨_, _, _, _, _, _, _, _, _, _, _, _, _, _, _, hN2, hU, hK, hlU, hlK, ⟨jt, rfl⟩, hO⟩, hf⟩⟩
