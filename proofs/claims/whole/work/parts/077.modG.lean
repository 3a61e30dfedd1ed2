/-! ===== the reference: its state ===== -/
def wereO (wp wr ac : Int) (M17 M18 M19 M20 : List Int) (O : Option mF) : Prop := match O with
  | none => ac = 0
  | some G => ac = 1 ∧ wp = (scr G).1.length ∧ wr = (scr G).2.length ∧ ∃ j17 j18 j19 j20 : List Int, M17 = (scr G).1.map (fun q => q.1) ++ j17 ∧ M18 = (scr G).1.map (fun q => q.2.2.1) ++ j18 ∧ M19 = (scr G).1.map (fun q => q.2.2.2.1) ++ j19 ∧ M20 = (scr G).1.map (fun q => q.2.2.2.2) ++ j20
def isM (w : mW) (h : Nat) (D : mD) : Prop := ∃ (wp wr ac ra rn : Int) (M14 M15 M16 M17 M18 M19 M20 M21 M22 M23 : List Int), isN w h D.F D.U.length D.K.length wp wr ac D.tx.length ra rn M14 M15 M16 M17 M18 M19 M20 M21 M22 M23 ∧ nts M14 D.U ∧ nts M15 D.K ∧ D.U.length ≤ 8 ∧ D.K.length ≤ 2 ∧ (∃ j, M22 = D.tx ++ j) ∧ wereO wp wr ac M17 M18 M19 M20 D.O
theorem isM.frM {w w' : mW} {h lo up : Nat} {D : mD} (hM : isM w h D) (hf : frR w w' lo up) (hd : h + 23 < lo ∨ up < h) : isM w' h D := by
  obtain ⟨wp, wr, ac, ra, rn, M14, M15, M16, M17, M18, M19, M20, M21, M22, M23, hN, hR⟩ := hM
  exact ⟨wp, wr, ac, ra, rn, M14, M15, M16, M17, M18, M19, M20, M21, M22, M23, hN.frN hf hd, hR⟩
theorem pushL_len {L : List mF} {F : mF} (h : L.length ≤ 8) : (pushL 8 L F).length ≤ 8 := by
  unfold pushL
  split
  · simp; omega
  · simp; omega
theorem turn_maps {fo : List (Int × Int × Int)} {p : Int} (hp : 0 ≤ p ∧ p < fo.length) (hb : ∀ f ∈ fo, f.2.2 = 0 ∨ f.2.2 = 1) (j : List Int) : (turnF fo p).map (fun f => f.1) = fo.map (fun f => f.1) ∧ (turnF fo p).map (fun f => f.2.1) = fo.map (fun f => f.2.1) ∧ (fo.map (fun f => f.2.2) ++ j).set p.toNat (1 - (fo.map (fun f => f.2.2) ++ j).getD p.toNat 0) = (turnF fo p).map (fun f => f.2.2) ++ j ∧ (turnF fo p).length = fo.length ∧ ((fo.map (fun f => f.2.2) ++ j).getD p.toNat 0 = (fo.map (fun f => f.2.2)).getD p.toNat 0) ∧ ((fo.map (fun f => f.2.2)).getD p.toNat 0 = 0 ∨ (fo.map (fun f => f.2.2)).getD p.toNat 0 = 1) := by
  obtain ⟨P, x, R, rfl, hP⟩ := spl fo p.toNat (by omega)
  have hx := hb x (by simp)
  have e1 := gmap_at (fun q : Int × Int × Int => q.2.2) P R x j (k := p) (by omega)
  have e2 := gmap_at (fun q : Int × Int × Int => q.2.2) P R x [] (k := p) (by omega)
  rw [List.append_nil] at e2
  rw [e1, e2, mset_at _ P R x j _ (by omega), turnF, if_pos hp, ← hP, modify_at]
  have ef : flip x = (x.1, x.2.1, 1 - x.2.2) := by
    unfold flip
    congr 2
    split <;> omega
  rw [ef]
  exact ⟨by simp, by simp, by simp, by simp, rfl, hx⟩

set_option maxHeartbeats 1000000 in
set_option maxRecDepth 100000 in
theorem c_X5_insert (l : Launch) {w : mW} {h : Nat} {D : mD} (hM : isM w h D) (hD : wfD D) (p q : Int) : Ci l yX5_insert cX5_insert 3 (some .int) 6 [vr h, vi p, vi q] w (fun z w' => z = (f_insert D p q).1 ∧ isM w' h (f_insert D p q).2 ∧ frR w w' h (h + 23)) := by
  refine Ci.of (ml := [some (vr h), some (vi p), some (vi q)]) kyX5_insert rfl (Nat.le_of_ble_eq_true rfl) rfl ?_
  intro t n C hQ
  have hM2 := hM
  obtain ⟨wp, wr, ac, ra, rn, M14, M15, M16, M17, M18, M19, M20, M21, M22, M23, hN, hU, hK, hlU, hlK, ⟨jt, ht⟩, hO⟩ := hM
  have hfA : frR w w h (h + 23) := frR.rf
  have hN2 := hN
  obtain ⟨j1, j2, j3, j4, j5, j6, pi, lr, lc, M7, M8, M9, M10, M11, M12, M13, hr⟩ := hN
  obtain ⟨f1, f2, f3, f4, f5, f6, f7, f8, f9, f10, f11, f12⟩ := id hD.2.1
  have hw : ∀ f ∈ D.F.1.2.1, (0 ≤ f.1 ∧ f.1 ≤ 100) ∧ (0 ≤ f.2.1 ∧ f.2.1 ≤ 100) ∧ (f.2.2 = 0 ∨ f.2.2 = 1) := fun f hf9 => by have := f4 f hf9; omega
  have hsm := hD.2.1.sm
  have hwT := (wfF_iff D.F).mp hD.2.1
  refine x_aload_n C dX5_insert_0 rfl ?_
  refine x_iload_n C dX5_insert_1 rfl ?_
  refine y_p1 C dX5_insert_2 kyX5_isPlace knX5_isPlace kmX5_153 hr.o (c_X5_isPlace l hr p) (by decide) (Nat.zero_le _) (Nat.zero_le _) (Nat.le_of_ble_eq_true rfl) (fun z2 q2 => ?_)
  refine x_if_eq (tgt := 18) C dX5_insert_5 (by decide) (fun c5 => ?_) (fun c5 => ?_)
  · refine x_iconst C dX5_insert_18 ⟨by decide, by decide⟩ ?_
    refine x_iret C hQ dX5_insert_19 (Nat.le_refl _) (Nat.le_refl _) ?_
    exact ⟨rfl, _, rfl, by rw [f_insert, if_pos (by omega)]; exact ⟨by first | rfl | assumption, hM2, frR.rf⟩⟩
  · refine x_iload_n C dX5_insert_8 rfl ?_
    refine x_iconst C dX5_insert_9 ⟨by decide, by decide⟩ ?_
    refine x_bipush C dX5_insert_10 ⟨by decide, by decide⟩ ?_
    refine z_p3 C dX5_insert_12 kyX5_in ksX5_in kmX5_103 (c_X5_in l q 0 27) (by decide) (Nat.zero_le _) (Nat.zero_le _) (Nat.le_of_ble_eq_true rfl) (fun z12 q12 => ?_)
    refine x_if_ne (tgt := 20) C dX5_insert_15 (by decide) (fun c15 => ?_) (fun c15 => ?_)
    · refine x_aload_n C dX5_insert_20 rfl ?_
      refine x_get C dX5_insert_21 kfX5_89 hr.o rfl ?_
      refine x_bipush C dX5_insert_24 ⟨by decide, by decide⟩ ?_
      refine x_icmp_ne (tgt := 32) C dX5_insert_26 (by decide) (fun c26 => ?_) (fun c26 => ?_)
      · refine x_aload_n C dX5_insert_32 rfl ?_
        refine y_v0 C dX5_insert_33 kyX5_notes knX5_notes kmX5_192 hr.o (c_X5_notes l hN2 hD.2.1 hU hD.2.2.1 hlU) (by decide) (Nat.zero_le _) (Nat.zero_le _) (Nat.le_of_ble_eq_true rfl) (fun w33 q33 => ?_)
        obtain ⟨M14, j17, j18, j19, j20, hN, hf9, hU⟩ := q33
        have hfA := hfA.tr hf9
        have hN2 := hN
        obtain ⟨j1, j2, j3, j4, j5, j6, pi, lr, lc, M7, M8, M9, M10, M11, M12, M13, hr⟩ := hN
        have hlU := pushL_len hlU (F := D.F)
        refine x_aload_n C dX5_insert_36 rfl ?_
        refine x_iload_n C dX5_insert_37 rfl ?_
        refine x_iload_n C dX5_insert_38 rfl ?_
        refine y_v2 C dX5_insert_39 kyX5_putsIn knX5_putsIn kmX5_195 hr.o (c_X5_putsIn l hN2 p q hsm.1 hsm.2 (by omega)) (by decide) (Nat.zero_le _) (Nat.zero_le _) (Nat.le_of_ble_eq_true rfl) (fun w39 q39 => ?_)
        obtain ⟨hN2, hf9⟩ := q39
        have hfA := hfA.tr hf9
        obtain ⟨j1, j2, j3, j4, j5, j6, pi, lr, lc, M7, M8, M9, M10, M11, M12, M13, hr⟩ := id hN2
        refine x_aload_n C dX5_insert_42 rfl ?_
        refine x_get C dX5_insert_43 kfX5_89 hr.o rfl ?_
        refine x_iret C hQ dX5_insert_46 (Nat.le_refl _) (Nat.le_refl _) ?_
        exact ⟨rfl, _, rfl, by rw [f_insert, if_neg (by omega), if_neg (by omega)]; exact ⟨by rw [putF, putS, if_pos (by omega)]; show ((insI D.F.1.1 p q).length : Int) = _; unfold insI; simp; omega, ⟨_, _, _, _, _, _, _, _, _, _, _, _, _, _, _, hN2, hU, hK, hlU, hlK, ⟨jt, ht⟩, ⟨rfl, rfl, rfl, j17, j18, j19, j20, rfl, rfl, rfl, rfl⟩⟩, hfA⟩⟩
      · refine x_bipush C dX5_insert_29 ⟨by decide, by decide⟩ ?_
        refine x_iret C hQ dX5_insert_31 (Nat.le_refl _) (Nat.le_refl _) ?_
        exact ⟨rfl, _, rfl, by rw [f_insert, if_neg (by omega), if_pos (by omega)]; exact ⟨by first | rfl | assumption, hM2, frR.rf⟩⟩
    · refine x_iconst C dX5_insert_18 ⟨by decide, by decide⟩ ?_
      refine x_iret C hQ dX5_insert_19 (Nat.le_refl _) (Nat.le_refl _) ?_
      exact ⟨rfl, _, rfl, by rw [f_insert, if_pos (by omega)]; exact ⟨by first | rfl | assumption, hM2, frR.rf⟩⟩

set_option maxHeartbeats 1000000 in
set_option maxRecDepth 100000 in
theorem c_X5_erase (l : Launch) {w : mW} {h : Nat} {D : mD} (hM : isM w h D) (hD : wfD D) (p : Int) : Ci l yX5_erase cX5_erase 3 (some .int) 6 [vr h, vi p] w (fun z w' => z = (f_erase D p).1 ∧ isM w' h (f_erase D p).2 ∧ frR w w' h (h + 23)) := by
  refine Ci.of (ml := [some (vr h), some (vi p), none]) kyX5_erase rfl (Nat.le_of_ble_eq_true rfl) rfl ?_
  intro t n C hQ
  have hM2 := hM
  obtain ⟨wp, wr, ac, ra, rn, M14, M15, M16, M17, M18, M19, M20, M21, M22, M23, hN, hU, hK, hlU, hlK, ⟨jt, ht⟩, hO⟩ := hM
  have hfA : frR w w h (h + 23) := frR.rf
  have hN2 := hN
  obtain ⟨j1, j2, j3, j4, j5, j6, pi, lr, lc, M7, M8, M9, M10, M11, M12, M13, hr⟩ := hN
  obtain ⟨f1, f2, f3, f4, f5, f6, f7, f8, f9, f10, f11, f12⟩ := id hD.2.1
  have hw : ∀ f ∈ D.F.1.2.1, (0 ≤ f.1 ∧ f.1 ≤ 100) ∧ (0 ≤ f.2.1 ∧ f.2.1 ≤ 100) ∧ (f.2.2 = 0 ∨ f.2.2 = 1) := fun f hf9 => by have := f4 f hf9; omega
  have hsm := hD.2.1.sm
  have hwT := (wfF_iff D.F).mp hD.2.1
  refine x_aload_n C dX5_erase_0 rfl ?_
  refine x_iload_n C dX5_erase_1 rfl ?_
  refine y_p1 C dX5_erase_2 kyX5_isSign knX5_isSign kmX5_199 hr.o (c_X5_isSign l hr (by omega) p) (by decide) (Nat.zero_le _) (Nat.zero_le _) (Nat.le_of_ble_eq_true rfl) (fun z2 q2 => ?_)
  refine x_if_ne (tgt := 10) C dX5_erase_5 (by decide) (fun c5 => ?_) (fun c5 => ?_)
  · refine x_aload_n C dX5_erase_10 rfl ?_
    refine y_v0 C dX5_erase_11 kyX5_notes knX5_notes kmX5_192 hr.o (c_X5_notes l hN2 hD.2.1 hU hD.2.2.1 hlU) (by decide) (Nat.zero_le _) (Nat.zero_le _) (Nat.le_of_ble_eq_true rfl) (fun w11 q11 => ?_)
    obtain ⟨M14, j17, j18, j19, j20, hN, hf9, hU⟩ := q11
    have hfA := hfA.tr hf9
    have hN2 := hN
    obtain ⟨j1, j2, j3, j4, j5, j6, pi, lr, lc, M7, M8, M9, M10, M11, M12, M13, hr⟩ := hN
    have hlU := pushL_len hlU (F := D.F)
    refine x_aload_n C dX5_erase_14 rfl ?_
    refine x_get C dX5_erase_15 kfX5_7 hr.o rfl ?_
    refine x_iload_n C dX5_erase_18 rfl ?_
    refine x_iald C dX5_erase_19 hr.a1 (by omega) (by rw [hr.l1]; omega) ?_
    refine s_ist3_2 C dX5_erase_20 rfl ?_
    refine x_aload_n C dX5_erase_21 rfl ?_
    refine x_iload_n C dX5_erase_22 rfl ?_
    refine y_v1 C dX5_erase_23 kyX5_takesOut knX5_takesOut kmX5_202 hr.o (c_X5_takesOut l hN2 p hD.2.1 (by omega)) (by decide) (Nat.zero_le _) (Nat.zero_le _) (Nat.le_of_ble_eq_true rfl) (fun w23 q23 => ?_)
    obtain ⟨hN2, hf9⟩ := q23
    have hfA := hfA.tr hf9
    obtain ⟨j1, j2, j3, j4, j5, j6, pi, lr, lc, M7, M8, M9, M10, M11, M12, M13, hr⟩ := id hN2
    refine x_iload_n C dX5_erase_26 rfl ?_
    refine x_iret C hQ dX5_erase_27 (Nat.le_refl _) (Nat.le_refl _) ?_
    exact ⟨rfl, _, rfl, by rw [f_erase, if_neg (by omega)]; exact ⟨gd_app_l (by omega), ⟨_, _, _, _, _, _, _, _, _, _, _, _, _, _, _, hN2, hU, hK, hlU, hlK, ⟨jt, ht⟩, ⟨rfl, rfl, rfl, j17, j18, j19, j20, rfl, rfl, rfl, rfl⟩⟩, hfA⟩⟩
  · refine x_iconst C dX5_erase_8 ⟨by decide, by decide⟩ ?_
    refine x_iret C hQ dX5_erase_9 (Nat.le_refl _) (Nat.le_refl _) ?_
    exact ⟨rfl, _, rfl, by rw [f_erase, if_pos (by omega)]; exact ⟨by first | rfl | assumption, hM2, frR.rf⟩⟩

set_option maxHeartbeats 1000000 in
set_option maxRecDepth 100000 in
theorem c_X5_toggle (l : Launch) {w : mW} {h : Nat} {D : mD} (hM : isM w h D) (hD : wfD D) (p : Int) : Ci l yX5_toggle cX5_toggle 2 (some .int) 6 [vr h, vi p] w (fun z w' => z = (f_toggle D p).1 ∧ isM w' h (f_toggle D p).2 ∧ frR w w' h (h + 23)) := by
  refine Ci.of (ml := [some (vr h), some (vi p)]) kyX5_toggle rfl (Nat.le_of_ble_eq_true rfl) rfl ?_
  intro t n C hQ
  have hM2 := hM
  obtain ⟨wp, wr, ac, ra, rn, M14, M15, M16, M17, M18, M19, M20, M21, M22, M23, hN, hU, hK, hlU, hlK, ⟨jt, ht⟩, hO⟩ := hM
  have hfA : frR w w h (h + 23) := frR.rf
  have hN2 := hN
  obtain ⟨j1, j2, j3, j4, j5, j6, pi, lr, lc, M7, M8, M9, M10, M11, M12, M13, hr⟩ := hN
  obtain ⟨f1, f2, f3, f4, f5, f6, f7, f8, f9, f10, f11, f12⟩ := id hD.2.1
  have hw : ∀ f ∈ D.F.1.2.1, (0 ≤ f.1 ∧ f.1 ≤ 100) ∧ (0 ≤ f.2.1 ∧ f.2.1 ≤ 100) ∧ (f.2.2 = 0 ∨ f.2.2 = 1) := fun f hf9 => by have := f4 f hf9; omega
  have hsm := hD.2.1.sm
  have hwT := (wfF_iff D.F).mp hD.2.1
  refine x_aload_n C dX5_toggle_0 rfl ?_
  refine x_iload_n C dX5_toggle_1 rfl ?_
  refine y_p1 C dX5_toggle_2 kyX5_isFold knX5_isFold kmX5_156 hr.o (c_X5_isFold l hr (by omega) p) (by decide) (Nat.zero_le _) (Nat.zero_le _) (Nat.le_of_ble_eq_true rfl) (fun z2 q2 => ?_)
  refine x_if_ne (tgt := 10) C dX5_toggle_5 (by decide) (fun c5 => ?_) (fun c5 => ?_)
  · refine x_aload_n C dX5_toggle_10 rfl ?_
    refine y_v0 C dX5_toggle_11 kyX5_notes knX5_notes kmX5_192 hr.o (c_X5_notes l hN2 hD.2.1 hU hD.2.2.1 hlU) (by decide) (Nat.zero_le _) (Nat.zero_le _) (Nat.le_of_ble_eq_true rfl) (fun w11 q11 => ?_)
    obtain ⟨M14, j17, j18, j19, j20, hN, hf9, hU⟩ := q11
    have hfA := hfA.tr hf9
    have hN2 := hN
    obtain ⟨j1, j2, j3, j4, j5, j6, pi, lr, lc, M7, M8, M9, M10, M11, M12, M13, hr⟩ := hN
    have hlU := pushL_len hlU (F := D.F)
    obtain ⟨u1, u2, u3, u4, u5, u6⟩ := turn_maps (p := p) (fo := D.F.1.2.1) (by omega) (fun f hf => (hw f hf).2.2) j4
    have hf : frR w11 w11 h (h + 23) := frR.rf
    have l4 := hr.l4
    simp only [List.length_append, List.length_map] at l4
    refine x_aload_n C dX5_toggle_14 rfl ?_
    refine x_get C dX5_toggle_15 kfX5_19 hr.o rfl ?_
    refine x_iload_n C dX5_toggle_18 rfl ?_
    refine x_iconst C dX5_toggle_19 ⟨by decide, by decide⟩ ?_
    refine x_aload_n C dX5_toggle_20 rfl ?_
    refine x_get C dX5_toggle_21 kfX5_19 hr.o rfl ?_
    refine x_iload_n C dX5_toggle_24 rfl ?_
    refine x_iald C dX5_toggle_25 hr.a4 (by omega) (by rw [hr.l4]; omega) ?_
    have u7 : (D.F.1.2.1.map (fun f => f.2.2) ++ j4).getD p.toNat 0 = 0 ∨ (D.F.1.2.1.map (fun f => f.2.2) ++ j4).getD p.toNat 0 = 1 := by rw [u5]; exact u6
    refine x_isub C dX5_toggle_26 (by first | (unfold iR; omega) | exact ⟨by omega, by omega⟩) ?_
    refine x_iast C dX5_toggle_27 hr.a4 (by omega) (by rw [hr.l4]; omega) ?_
    refine ab_M_M4 hr hf (by rw [List.length_set]; exact hr.l4) (fun w hr hf => ?_)
    rw [u3, ← u1, ← u2, ← u4] at hr
    have hN2 : isN w h (turF D.F p) (pushL 8 D.U D.F).length D.K.length (scr D.F).1.length (scr D.F).2.length 1 D.tx.length ra rn M14 M15 M16 ((scr D.F).1.map (fun q => q.1) ++ j17) ((scr D.F).1.map (fun q => q.2.2.1) ++ j18) ((scr D.F).1.map (fun q => q.2.2.2.1) ++ j19) ((scr D.F).1.map (fun q => q.2.2.2.2) ++ j20) M21 M22 M23 := ⟨j1, j2, j3, j4, j5, j6, pi, lr, lc, M7, M8, M9, M10, M11, M12, M13, hr⟩
    have hfA := hfA.tr hf
    obtain ⟨t1, t2⟩ := turnF_at (p := p) (fo := D.F.1.2.1) (by omega) (fun f hf => (hw f hf).2.2)
    have e3 : ((turnF D.F.1.2.1 p).map (fun f => f.2.2) ++ j4).getD p.toNat 0 = ((turnF D.F.1.2.1 p).map (fun f => f.2.2)).getD p.toNat 0 := gd_app_l (by simp; omega)
    have e4 := t1
    refine x_aload_n C dX5_toggle_28 rfl ?_
    refine x_get C dX5_toggle_29 kfX5_19 hr.o rfl ?_
    refine x_iload_n C dX5_toggle_32 rfl ?_
    refine x_iald C dX5_toggle_33 hr.a4 (by omega) (by rw [hr.l4]; omega) ?_
    refine x_iret C hQ dX5_toggle_34 (Nat.le_refl _) (Nat.le_refl _) ?_
    exact ⟨rfl, _, rfl, by rw [f_toggle, if_neg (by omega)]; exact ⟨by rw [e3, e4], ⟨_, _, _, _, _, _, _, _, _, _, _, _, _, _, _, hN2, hU, hK, hlU, hlK, ⟨jt, ht⟩, ⟨rfl, rfl, rfl, j17, j18, j19, j20, rfl, rfl, rfl, rfl⟩⟩, hfA⟩⟩
  · refine x_iconst C dX5_toggle_8 ⟨by decide, by decide⟩ ?_
    refine x_iret C hQ dX5_toggle_9 (Nat.le_refl _) (Nat.le_refl _) ?_
    exact ⟨rfl, _, rfl, by rw [f_toggle, if_pos (by omega)]; exact ⟨by first | rfl | assumption, hM2, frR.rf⟩⟩

theorem refF_c {n : Int} {fo : List (Int × Int × Int)} {a b : Int} : (¬ (0 ≤ a ∧ a < b ∧ b ≤ n) → refF n fo a b = -1) ∧ ((0 ≤ a ∧ a < b ∧ b ≤ n) → (fo.any (fun q => decide (a < q.2.1 ∧ q.1 < b)) = true → refF n fo a b = -2) ∧ (fo.any (fun q => decide (a < q.2.1 ∧ q.1 < b)) ≠ true → (fo.length < 4 → refF n fo a b = 0) ∧ (¬ fo.length < 4 → refF n fo a b = -3))) := by
  unfold refF
  refine ⟨fun h => if_pos h, fun h => ⟨fun h1 => by rw [if_neg (fun h9 => h9 h), if_pos h1], fun h1 => ⟨fun h2 => by rw [if_neg (fun h9 => h9 h), if_neg h1, if_pos h2], fun h2 => by rw [if_neg (fun h9 => h9 h), if_neg h1, if_neg h2]⟩⟩⟩
theorem refH_c {n : Int} {hi : List (Int × Int)} {a b : Int} : (¬ ((0 ≤ a ∧ a ≤ n) ∧ 1 ≤ b ∧ b ≤ 5) → refH n hi a b = -1) ∧ (((0 ≤ a ∧ a ≤ n) ∧ 1 ≤ b ∧ b ≤ 5) → (hi.any (pH a) = true → refH n hi a b = -2) ∧ (hi.any (pH a) ≠ true → (hi.length < 4 → refH n hi a b = 0) ∧ (¬ hi.length < 4 → refH n hi a b = -3))) := by
  unfold refH
  refine ⟨fun h => if_pos h, fun h => ⟨fun h1 => by rw [if_neg (fun h9 => h9 h), if_pos h1], fun h1 => ⟨fun h2 => by rw [if_neg (fun h9 => h9 h), if_neg h1, if_pos h2], fun h2 => by rw [if_neg (fun h9 => h9 h), if_neg h1, if_neg h2]⟩⟩⟩

set_option maxHeartbeats 1000000 in
set_option maxRecDepth 100000 in
theorem c_X5_make (l : Launch) {w : mW} {h : Nat} {D : mD} (hM : isM w h D) (hD : wfD D) (p q : Int) : Ci l yX5_make cX5_make 3 (some .int) 6 [vr h, vi p, vi q] w (fun z w' => z = (f_make D p q).1 ∧ isM w' h (f_make D p q).2 ∧ frR w w' h (h + 23)) := by
  refine Ci.of (ml := [some (vr h), some (vi p), some (vi q)]) kyX5_make rfl (Nat.le_of_ble_eq_true rfl) rfl ?_
  intro t n C hQ
  have hM2 := hM
  obtain ⟨wp, wr, ac, ra, rn, M14, M15, M16, M17, M18, M19, M20, M21, M22, M23, hN, hU, hK, hlU, hlK, ⟨jt, ht⟩, hO⟩ := hM
  have hfA : frR w w h (h + 23) := frR.rf
  have hN2 := hN
  obtain ⟨j1, j2, j3, j4, j5, j6, pi, lr, lc, M7, M8, M9, M10, M11, M12, M13, hr⟩ := hN
  obtain ⟨f1, f2, f3, f4, f5, f6, f7, f8, f9, f10, f11, f12⟩ := id hD.2.1
  have hw : ∀ f ∈ D.F.1.2.1, (0 ≤ f.1 ∧ f.1 ≤ 100) ∧ (0 ≤ f.2.1 ∧ f.2.1 ≤ 100) ∧ (f.2.2 = 0 ∨ f.2.2 = 1) := fun f hf9 => by have := f4 f hf9; omega
  have hsm := hD.2.1.sm
  have hwT := (wfF_iff D.F).mp hD.2.1
  refine x_iload_n C dX5_make_0 rfl ?_
  refine x_iconst C dX5_make_1 ⟨by decide, by decide⟩ ?_
  refine x_aload_n C dX5_make_2 rfl ?_
  refine x_get C dX5_make_3 kfX5_89 hr.o rfl ?_
  refine z_p3 C dX5_make_6 kyX5_in ksX5_in kmX5_103 (c_X5_in l p 0 D.F.1.1.length) (by decide) (Nat.zero_le _) (Nat.zero_le _) (Nat.le_of_ble_eq_true rfl) (fun z6 q6 => ?_)
  refine x_if_eq (tgt := 25) C dX5_make_9 (by decide) (fun c9 => ?_) (fun c9 => ?_)
  · refine x_iconst C dX5_make_25 ⟨by decide, by decide⟩ ?_
    refine x_iret C hQ dX5_make_26 (Nat.le_refl _) (Nat.le_refl _) ?_
    have er := (refF_c (n := D.F.1.1.length) (fo := D.F.1.2.1) (a := p) (b := q)).1 (by omega)
    exact ⟨rfl, _, rfl, by rw [f_make, if_pos (by rw [er]; decide)]; exact ⟨er.symm, hM2, frR.rf⟩⟩
  · refine x_iload_n C dX5_make_12 rfl ?_
    refine x_iload_n C dX5_make_13 rfl ?_
    refine x_icmp_le (tgt := 25) C dX5_make_14 (by decide) (fun c14 => ?_) (fun c14 => ?_)
    · refine x_iconst C dX5_make_25 ⟨by decide, by decide⟩ ?_
      refine x_iret C hQ dX5_make_26 (Nat.le_refl _) (Nat.le_refl _) ?_
      have er := (refF_c (n := D.F.1.1.length) (fo := D.F.1.2.1) (a := p) (b := q)).1 (by omega)
      exact ⟨rfl, _, rfl, by rw [f_make, if_pos (by rw [er]; decide)]; exact ⟨er.symm, hM2, frR.rf⟩⟩
    · refine x_iload_n C dX5_make_17 rfl ?_
      refine x_aload_n C dX5_make_18 rfl ?_
      refine x_get C dX5_make_19 kfX5_89 hr.o rfl ?_
      refine x_icmp_le (tgt := 27) C dX5_make_22 (by decide) (fun c22 => ?_) (fun c22 => ?_)
      · refine x_aload_n C dX5_make_27 rfl ?_
        refine x_iload_n C dX5_make_28 rfl ?_
        refine x_iload_n C dX5_make_29 rfl ?_
        refine y_p2 C dX5_make_30 kyX5_isApart knX5_isApart kmX5_205 hr.o (c_X5_isApart l hr p q) (by decide) (Nat.zero_le _) (Nat.zero_le _) (Nat.le_of_ble_eq_true rfl) (fun z30 q30 => ?_)
        refine x_if_ne (tgt := 39) C dX5_make_33 (by decide) (fun c33 => ?_) (fun c33 => ?_)
        · have ha9 : D.F.1.2.1.any (fun q9 => decide (p < q9.2.1 ∧ q9.1 < q)) ≠ true := by
            intro h9
            rw [h9, if_pos rfl] at q30; omega
          refine x_aload_n C dX5_make_39 rfl ?_
          refine x_get C dX5_make_40 kfX5_107 hr.o rfl ?_
          refine x_iconst C dX5_make_43 ⟨by decide, by decide⟩ ?_
          refine x_icmp_ne (tgt := 50) C dX5_make_44 (by decide) (fun c44 => ?_) (fun c44 => ?_)
          · have er := (((refF_c (n := D.F.1.1.length) (fo := D.F.1.2.1) (a := p) (b := q)).2 (by omega)).2 ha9).1 (by omega)
            refine x_aload_n C dX5_make_50 rfl ?_
            refine y_v0 C dX5_make_51 kyX5_notes knX5_notes kmX5_192 hr.o (c_X5_notes l hN2 hD.2.1 hU hD.2.2.1 hlU) (by decide) (Nat.zero_le _) (Nat.zero_le _) (Nat.le_of_ble_eq_true rfl) (fun w51 q51 => ?_)
            obtain ⟨M14, j17, j18, j19, j20, hN, hf9, hU⟩ := q51
            have hfA := hfA.tr hf9
            have hN2 := hN
            obtain ⟨j1, j2, j3, j4, j5, j6, pi, lr, lc, M7, M8, M9, M10, M11, M12, M13, hr⟩ := hN
            have hlU := pushL_len hlU (F := D.F)
            refine x_aload_n C dX5_make_54 rfl ?_
            refine x_iload_n C dX5_make_55 rfl ?_
            refine x_iload_n C dX5_make_56 rfl ?_
            refine x_iconst C dX5_make_57 ⟨by decide, by decide⟩ ?_
            refine y_i3 C dX5_make_58 kyX5_comesFold knX5_comesFold kmX5_92 hr.o (c_X5_comesFold l hr p q 1 (by omega)) (by decide) (Nat.zero_le _) (Nat.zero_le _) (Nat.le_of_ble_eq_true rfl) (fun z58 w58 q58 => ?_)
            obtain ⟨l9, j2, j3, j4, hK9, hr, hf9⟩ := q58
            have eK := insK_fun hK9
            rw [eK.1] at hr
            have hfA := hfA.tr hf9
            have hN2 : isN w58 h ((D.F.1.1, insL (fun q => q.1) (p, q, 1) D.F.1.2.1, D.F.1.2.2), D.F.2) (pushL 8 D.U D.F).length D.K.length (scr D.F).1.length (scr D.F).2.length 1 D.tx.length ra rn M14 M15 M16 ((scr D.F).1.map (fun q => q.1) ++ j17) ((scr D.F).1.map (fun q => q.2.2.1) ++ j18) ((scr D.F).1.map (fun q => q.2.2.2.1) ++ j19) ((scr D.F).1.map (fun q => q.2.2.2.2) ++ j20) M21 M22 M23 := ⟨j1, j2, j3, j4, j5, j6, pi, lr, lc, M7, M8, M9, M10, M11, M12, M13, hr⟩
            refine x_iret C hQ dX5_make_61 (Nat.le_refl _) (Nat.le_refl _) ?_
            exact ⟨rfl, _, rfl, by rw [f_make, if_neg (by rw [er]; decide)]; exact ⟨eK.2, ⟨_, _, _, _, _, _, _, _, _, _, _, _, _, _, _, hN2, hU, hK, hlU, hlK, ⟨jt, ht⟩, ⟨rfl, rfl, rfl, j17, j18, j19, j20, rfl, rfl, rfl, rfl⟩⟩, hfA⟩⟩
          · refine x_bipush C dX5_make_47 ⟨by decide, by decide⟩ ?_
            refine x_iret C hQ dX5_make_49 (Nat.le_refl _) (Nat.le_refl _) ?_
            have er := (((refF_c (n := D.F.1.1.length) (fo := D.F.1.2.1) (a := p) (b := q)).2 (by omega)).2 ha9).2 (by omega)
            exact ⟨rfl, _, rfl, by rw [f_make, if_pos (by rw [er]; decide)]; exact ⟨er.symm, hM2, frR.rf⟩⟩
        · refine x_bipush C dX5_make_36 ⟨by decide, by decide⟩ ?_
          refine x_iret C hQ dX5_make_38 (Nat.le_refl _) (Nat.le_refl _) ?_
          have ha9 : D.F.1.2.1.any (fun q9 => decide (p < q9.2.1 ∧ q9.1 < q)) = true := by
            cases h9 : D.F.1.2.1.any (fun q9 => decide (p < q9.2.1 ∧ q9.1 < q)) with
            | true => rfl
            | false => rw [h9, if_neg (by decide)] at q30; omega
          have er := ((refF_c (n := D.F.1.1.length) (fo := D.F.1.2.1) (a := p) (b := q)).2 (by omega)).1 ha9
          exact ⟨rfl, _, rfl, by rw [f_make, if_pos (by rw [er]; decide)]; exact ⟨er.symm, hM2, frR.rf⟩⟩
      · refine x_iconst C dX5_make_25 ⟨by decide, by decide⟩ ?_
        refine x_iret C hQ dX5_make_26 (Nat.le_refl _) (Nat.le_refl _) ?_
        have er := (refF_c (n := D.F.1.1.length) (fo := D.F.1.2.1) (a := p) (b := q)).1 (by omega)
        exact ⟨rfl, _, rfl, by rw [f_make, if_pos (by rw [er]; decide)]; exact ⟨er.symm, hM2, frR.rf⟩⟩

set_option maxHeartbeats 1000000 in
set_option maxRecDepth 100000 in
theorem c_X5_unfold (l : Launch) {w : mW} {h : Nat} {D : mD} (hM : isM w h D) (hD : wfD D) (p : Int) : Ci l yX5_unfold cX5_unfold 2 (some .int) 6 [vr h, vi p] w (fun z w' => z = (f_unfold D p).1 ∧ isM w' h (f_unfold D p).2 ∧ frR w w' h (h + 23)) := by
  refine Ci.of (ml := [some (vr h), some (vi p)]) kyX5_unfold rfl (Nat.le_of_ble_eq_true rfl) rfl ?_
  intro t n C hQ
  have hM2 := hM
  obtain ⟨wp, wr, ac, ra, rn, M14, M15, M16, M17, M18, M19, M20, M21, M22, M23, hN, hU, hK, hlU, hlK, ⟨jt, ht⟩, hO⟩ := hM
  have hfA : frR w w h (h + 23) := frR.rf
  have hN2 := hN
  obtain ⟨j1, j2, j3, j4, j5, j6, pi, lr, lc, M7, M8, M9, M10, M11, M12, M13, hr⟩ := hN
  obtain ⟨f1, f2, f3, f4, f5, f6, f7, f8, f9, f10, f11, f12⟩ := id hD.2.1
  have hw : ∀ f ∈ D.F.1.2.1, (0 ≤ f.1 ∧ f.1 ≤ 100) ∧ (0 ≤ f.2.1 ∧ f.2.1 ≤ 100) ∧ (f.2.2 = 0 ∨ f.2.2 = 1) := fun f hf9 => by have := f4 f hf9; omega
  have hsm := hD.2.1.sm
  have hwT := (wfF_iff D.F).mp hD.2.1
  refine x_aload_n C dX5_unfold_0 rfl ?_
  refine x_iload_n C dX5_unfold_1 rfl ?_
  refine y_p1 C dX5_unfold_2 kyX5_isFold knX5_isFold kmX5_156 hr.o (c_X5_isFold l hr (by omega) p) (by decide) (Nat.zero_le _) (Nat.zero_le _) (Nat.le_of_ble_eq_true rfl) (fun z2 q2 => ?_)
  refine x_if_ne (tgt := 10) C dX5_unfold_5 (by decide) (fun c5 => ?_) (fun c5 => ?_)
  · refine x_aload_n C dX5_unfold_10 rfl ?_
    refine y_v0 C dX5_unfold_11 kyX5_notes knX5_notes kmX5_192 hr.o (c_X5_notes l hN2 hD.2.1 hU hD.2.2.1 hlU) (by decide) (Nat.zero_le _) (Nat.zero_le _) (Nat.le_of_ble_eq_true rfl) (fun w11 q11 => ?_)
    obtain ⟨M14, j17, j18, j19, j20, hN, hf9, hU⟩ := q11
    have hfA := hfA.tr hf9
    have hN2 := hN
    obtain ⟨j1, j2, j3, j4, j5, j6, pi, lr, lc, M7, M8, M9, M10, M11, M12, M13, hr⟩ := hN
    have hlU := pushL_len hlU (F := D.F)
    refine x_aload_n C dX5_unfold_14 rfl ?_
    refine x_iload_n C dX5_unfold_15 rfl ?_
    refine y_v1 C dX5_unfold_16 kyX5_goesFold knX5_goesFold kmX5_185 hr.o (c_X5_goesFold l hr p (by omega)) (by decide) (Nat.zero_le _) (Nat.zero_le _) (Nat.le_of_ble_eq_true rfl) (fun w16 q16 => ?_)
    obtain ⟨j2, j3, j4, hr, hf9⟩ := q16
    have hfA := hfA.tr hf9
    have hN2 : isN w16 h ((D.F.1.1, dropI D.F.1.2.1 p, D.F.1.2.2), D.F.2) (pushL 8 D.U D.F).length D.K.length (scr D.F).1.length (scr D.F).2.length 1 D.tx.length ra rn M14 M15 M16 ((scr D.F).1.map (fun q => q.1) ++ j17) ((scr D.F).1.map (fun q => q.2.2.1) ++ j18) ((scr D.F).1.map (fun q => q.2.2.2.1) ++ j19) ((scr D.F).1.map (fun q => q.2.2.2.2) ++ j20) M21 M22 M23 := ⟨j1, j2, j3, j4, j5, j6, pi, lr, lc, M7, M8, M9, M10, M11, M12, M13, hr⟩
    refine x_aload_n C dX5_unfold_19 rfl ?_
    refine x_get C dX5_unfold_20 kfX5_107 hr.o rfl ?_
    refine x_iret C hQ dX5_unfold_23 (Nat.le_refl _) (Nat.le_refl _) ?_
    exact ⟨rfl, _, rfl, by rw [f_unfold, if_neg (by omega)]; exact ⟨dropI_at (by omega), ⟨_, _, _, _, _, _, _, _, _, _, _, _, _, _, _, hN2, hU, hK, hlU, hlK, ⟨jt, ht⟩, ⟨rfl, rfl, rfl, j17, j18, j19, j20, rfl, rfl, rfl, rfl⟩⟩, hfA⟩⟩
  · refine x_iconst C dX5_unfold_8 ⟨by decide, by decide⟩ ?_
    refine x_iret C hQ dX5_unfold_9 (Nat.le_refl _) (Nat.le_refl _) ?_
    exact ⟨rfl, _, rfl, by rw [f_unfold, if_pos (by omega)]; exact ⟨by first | rfl | assumption, hM2, frR.rf⟩⟩

set_option maxHeartbeats 1000000 in
set_option maxRecDepth 100000 in
theorem c_X5_set (l : Launch) {w : mW} {h : Nat} {D : mD} (hM : isM w h D) (hD : wfD D) (p q : Int) : Ci l yX5_set cX5_set 3 (some .int) 6 [vr h, vi p, vi q] w (fun z w' => z = (f_set D p q).1 ∧ isM w' h (f_set D p q).2 ∧ frR w w' h (h + 23)) := by
  refine Ci.of (ml := [some (vr h), some (vi p), some (vi q)]) kyX5_set rfl (Nat.le_of_ble_eq_true rfl) rfl ?_
  intro t n C hQ
  have hM2 := hM
  obtain ⟨wp, wr, ac, ra, rn, M14, M15, M16, M17, M18, M19, M20, M21, M22, M23, hN, hU, hK, hlU, hlK, ⟨jt, ht⟩, hO⟩ := hM
  have hfA : frR w w h (h + 23) := frR.rf
  have hN2 := hN
  obtain ⟨j1, j2, j3, j4, j5, j6, pi, lr, lc, M7, M8, M9, M10, M11, M12, M13, hr⟩ := hN
  obtain ⟨f1, f2, f3, f4, f5, f6, f7, f8, f9, f10, f11, f12⟩ := id hD.2.1
  have hw : ∀ f ∈ D.F.1.2.1, (0 ≤ f.1 ∧ f.1 ≤ 100) ∧ (0 ≤ f.2.1 ∧ f.2.1 ≤ 100) ∧ (f.2.2 = 0 ∨ f.2.2 = 1) := fun f hf9 => by have := f4 f hf9; omega
  have hsm := hD.2.1.sm
  have hwT := (wfF_iff D.F).mp hD.2.1
  refine x_aload_n C dX5_set_0 rfl ?_
  refine x_iload_n C dX5_set_1 rfl ?_
  refine y_p1 C dX5_set_2 kyX5_isPlace knX5_isPlace kmX5_153 hr.o (c_X5_isPlace l hr p) (by decide) (Nat.zero_le _) (Nat.zero_le _) (Nat.le_of_ble_eq_true rfl) (fun z2 q2 => ?_)
  refine x_if_eq (tgt := 17) C dX5_set_5 (by decide) (fun c5 => ?_) (fun c5 => ?_)
  · refine x_iconst C dX5_set_17 ⟨by decide, by decide⟩ ?_
    refine x_iret C hQ dX5_set_18 (Nat.le_refl _) (Nat.le_refl _) ?_
    have er := (refH_c (n := D.F.1.1.length) (hi := D.F.1.2.2) (a := p) (b := q)).1 (by omega)
    exact ⟨rfl, _, rfl, by rw [f_set, if_pos (by rw [er]; decide)]; exact ⟨er.symm, hM2, frR.rf⟩⟩
  · refine x_iload_n C dX5_set_8 rfl ?_
    refine x_iconst C dX5_set_9 ⟨by decide, by decide⟩ ?_
    refine x_iconst C dX5_set_10 ⟨by decide, by decide⟩ ?_
    refine z_p3 C dX5_set_11 kyX5_in ksX5_in kmX5_103 (c_X5_in l q 1 5) (by decide) (Nat.zero_le _) (Nat.zero_le _) (Nat.le_of_ble_eq_true rfl) (fun z11 q11 => ?_)
    refine x_if_ne (tgt := 19) C dX5_set_14 (by decide) (fun c14 => ?_) (fun c14 => ?_)
    · refine x_aload_n C dX5_set_19 rfl ?_
      refine x_iload_n C dX5_set_20 rfl ?_
      refine y_p1 C dX5_set_21 kyX5_hintOf knX5_hintOf kmX5_120 hr.o (c_X5_hintOf l hr f8 p) (by decide) (Nat.zero_le _) (Nat.zero_le _) (Nat.le_of_ble_eq_true rfl) (fun z21 q21 => ?_)
      subst q21
      have hi9 := fI4_i (pH p) D.F.1.2.2
      refine x_bipush C dX5_set_24 ⟨by decide, by decide⟩ ?_
      refine x_icmp_eq (tgt := 32) C dX5_set_26 (by decide) (fun c26 => ?_) (fun c26 => ?_)
      · have ha9 : D.F.1.2.2.any (pH p) ≠ true := by
          intro h9
          have := (any_fIdx _ _).mp h9
          have := hi9.1.mp c26
          omega
        refine x_aload_n C dX5_set_32 rfl ?_
        refine x_get C dX5_set_33 kfX5_110 hr.o rfl ?_
        refine x_iconst C dX5_set_36 ⟨by decide, by decide⟩ ?_
        refine x_icmp_ne (tgt := 43) C dX5_set_37 (by decide) (fun c37 => ?_) (fun c37 => ?_)
        · have er := (((refH_c (n := D.F.1.1.length) (hi := D.F.1.2.2) (a := p) (b := q)).2 (by omega)).2 ha9).1 (by omega)
          refine x_aload_n C dX5_set_43 rfl ?_
          refine y_v0 C dX5_set_44 kyX5_notes knX5_notes kmX5_192 hr.o (c_X5_notes l hN2 hD.2.1 hU hD.2.2.1 hlU) (by decide) (Nat.zero_le _) (Nat.zero_le _) (Nat.le_of_ble_eq_true rfl) (fun w44 q44 => ?_)
          obtain ⟨M14, j17, j18, j19, j20, hN, hf9, hU⟩ := q44
          have hfA := hfA.tr hf9
          have hN2 := hN
          obtain ⟨j1, j2, j3, j4, j5, j6, pi, lr, lc, M7, M8, M9, M10, M11, M12, M13, hr⟩ := hN
          have hlU := pushL_len hlU (F := D.F)
          refine x_aload_n C dX5_set_47 rfl ?_
          refine x_iload_n C dX5_set_48 rfl ?_
          refine x_iload_n C dX5_set_49 rfl ?_
          refine y_i2 C dX5_set_50 kyX5_comesHint knX5_comesHint kmX5_96 hr.o (c_X5_comesHint l hr p q (by omega)) (by decide) (Nat.zero_le _) (Nat.zero_le _) (Nat.le_of_ble_eq_true rfl) (fun z50 w50 q50 => ?_)
          obtain ⟨l9, j5, j6, hK9, hr, hf9⟩ := q50
          have eK := insK_fun hK9
          rw [eK.1] at hr
          have hfA := hfA.tr hf9
          have hN2 : isN w50 h ((D.F.1.1, D.F.1.2.1, insL (fun q => q.1) (p, q) D.F.1.2.2), D.F.2) (pushL 8 D.U D.F).length D.K.length (scr D.F).1.length (scr D.F).2.length 1 D.tx.length ra rn M14 M15 M16 ((scr D.F).1.map (fun q => q.1) ++ j17) ((scr D.F).1.map (fun q => q.2.2.1) ++ j18) ((scr D.F).1.map (fun q => q.2.2.2.1) ++ j19) ((scr D.F).1.map (fun q => q.2.2.2.2) ++ j20) M21 M22 M23 := ⟨j1, j2, j3, j4, j5, j6, pi, lr, lc, M7, M8, M9, M10, M11, M12, M13, hr⟩
          refine x_iret C hQ dX5_set_53 (Nat.le_refl _) (Nat.le_refl _) ?_
          exact ⟨rfl, _, rfl, by rw [f_set, if_neg (by rw [er]; decide)]; exact ⟨eK.2, ⟨_, _, _, _, _, _, _, _, _, _, _, _, _, _, _, hN2, hU, hK, hlU, hlK, ⟨jt, ht⟩, ⟨rfl, rfl, rfl, j17, j18, j19, j20, rfl, rfl, rfl, rfl⟩⟩, hfA⟩⟩
        · refine x_bipush C dX5_set_40 ⟨by decide, by decide⟩ ?_
          refine x_iret C hQ dX5_set_42 (Nat.le_refl _) (Nat.le_refl _) ?_
          have er := (((refH_c (n := D.F.1.1.length) (hi := D.F.1.2.2) (a := p) (b := q)).2 (by omega)).2 ha9).2 (by omega)
          exact ⟨rfl, _, rfl, by rw [f_set, if_pos (by rw [er]; decide)]; exact ⟨er.symm, hM2, frR.rf⟩⟩
      · refine x_bipush C dX5_set_29 ⟨by decide, by decide⟩ ?_
        refine x_iret C hQ dX5_set_31 (Nat.le_refl _) (Nat.le_refl _) ?_
        have ha9 : D.F.1.2.2.any (pH p) = true := (any_fIdx _ _).mpr (hi9.2 (by omega)).2
        have er := ((refH_c (n := D.F.1.1.length) (hi := D.F.1.2.2) (a := p) (b := q)).2 (by omega)).1 ha9
        exact ⟨rfl, _, rfl, by rw [f_set, if_pos (by rw [er]; decide)]; exact ⟨er.symm, hM2, frR.rf⟩⟩
    · refine x_iconst C dX5_set_17 ⟨by decide, by decide⟩ ?_
      refine x_iret C hQ dX5_set_18 (Nat.le_refl _) (Nat.le_refl _) ?_
      have er := (refH_c (n := D.F.1.1.length) (hi := D.F.1.2.2) (a := p) (b := q)).1 (by omega)
      exact ⟨rfl, _, rfl, by rw [f_set, if_pos (by rw [er]; decide)]; exact ⟨er.symm, hM2, frR.rf⟩⟩

set_option maxHeartbeats 1000000 in
set_option maxRecDepth 100000 in
theorem c_X5_unset (l : Launch) {w : mW} {h : Nat} {D : mD} (hM : isM w h D) (hD : wfD D) (p : Int) : Ci l yX5_unset cX5_unset 3 (some .int) 6 [vr h, vi p] w (fun z w' => z = (f_unset D p).1 ∧ isM w' h (f_unset D p).2 ∧ frR w w' h (h + 23)) := by
  refine Ci.of (ml := [some (vr h), some (vi p), none]) kyX5_unset rfl (Nat.le_of_ble_eq_true rfl) rfl ?_
  intro t n C hQ
  have hM2 := hM
  obtain ⟨wp, wr, ac, ra, rn, M14, M15, M16, M17, M18, M19, M20, M21, M22, M23, hN, hU, hK, hlU, hlK, ⟨jt, ht⟩, hO⟩ := hM
  have hfA : frR w w h (h + 23) := frR.rf
  have hN2 := hN
  obtain ⟨j1, j2, j3, j4, j5, j6, pi, lr, lc, M7, M8, M9, M10, M11, M12, M13, hr⟩ := hN
  obtain ⟨f1, f2, f3, f4, f5, f6, f7, f8, f9, f10, f11, f12⟩ := id hD.2.1
  have hw : ∀ f ∈ D.F.1.2.1, (0 ≤ f.1 ∧ f.1 ≤ 100) ∧ (0 ≤ f.2.1 ∧ f.2.1 ≤ 100) ∧ (f.2.2 = 0 ∨ f.2.2 = 1) := fun f hf9 => by have := f4 f hf9; omega
  have hsm := hD.2.1.sm
  have hwT := (wfF_iff D.F).mp hD.2.1
  refine x_aload_n C dX5_unset_0 rfl ?_
  refine x_iload_n C dX5_unset_1 rfl ?_
  refine y_p1 C dX5_unset_2 kyX5_isHint knX5_isHint kmX5_159 hr.o (c_X5_isHint l hr (by omega) p) (by decide) (Nat.zero_le _) (Nat.zero_le _) (Nat.le_of_ble_eq_true rfl) (fun z2 q2 => ?_)
  refine x_if_ne (tgt := 10) C dX5_unset_5 (by decide) (fun c5 => ?_) (fun c5 => ?_)
  · refine x_aload_n C dX5_unset_10 rfl ?_
    refine y_v0 C dX5_unset_11 kyX5_notes knX5_notes kmX5_192 hr.o (c_X5_notes l hN2 hD.2.1 hU hD.2.2.1 hlU) (by decide) (Nat.zero_le _) (Nat.zero_le _) (Nat.le_of_ble_eq_true rfl) (fun w11 q11 => ?_)
    obtain ⟨M14, j17, j18, j19, j20, hN, hf9, hU⟩ := q11
    have hfA := hfA.tr hf9
    have hN2 := hN
    obtain ⟨j1, j2, j3, j4, j5, j6, pi, lr, lc, M7, M8, M9, M10, M11, M12, M13, hr⟩ := hN
    have hlU := pushL_len hlU (F := D.F)
    refine x_aload_n C dX5_unset_14 rfl ?_
    refine x_get C dX5_unset_15 kfX5_25 hr.o rfl ?_
    refine x_iload_n C dX5_unset_18 rfl ?_
    refine x_iald C dX5_unset_19 hr.a6 (by omega) (by rw [hr.l6]; omega) ?_
    refine s_ist3_2 C dX5_unset_20 rfl ?_
    refine x_aload_n C dX5_unset_21 rfl ?_
    refine x_iload_n C dX5_unset_22 rfl ?_
    refine y_v1 C dX5_unset_23 kyX5_goesHint knX5_goesHint kmX5_189 hr.o (c_X5_goesHint l hr p (by omega)) (by decide) (Nat.zero_le _) (Nat.zero_le _) (Nat.le_of_ble_eq_true rfl) (fun w23 q23 => ?_)
    obtain ⟨j5, j6, hr, hf9⟩ := q23
    have hfA := hfA.tr hf9
    have hN2 : isN w23 h ((D.F.1.1, D.F.1.2.1, dropI D.F.1.2.2 p), D.F.2) (pushL 8 D.U D.F).length D.K.length (scr D.F).1.length (scr D.F).2.length 1 D.tx.length ra rn M14 M15 M16 ((scr D.F).1.map (fun q => q.1) ++ j17) ((scr D.F).1.map (fun q => q.2.2.1) ++ j18) ((scr D.F).1.map (fun q => q.2.2.2.1) ++ j19) ((scr D.F).1.map (fun q => q.2.2.2.2) ++ j20) M21 M22 M23 := ⟨j1, j2, j3, j4, j5, j6, pi, lr, lc, M7, M8, M9, M10, M11, M12, M13, hr⟩
    refine x_iload_n C dX5_unset_26 rfl ?_
    refine x_iret C hQ dX5_unset_27 (Nat.le_refl _) (Nat.le_refl _) ?_
    exact ⟨rfl, _, rfl, by rw [f_unset, if_neg (by omega)]; exact ⟨gd_app_l (by simp; omega), ⟨_, _, _, _, _, _, _, _, _, _, _, _, _, _, _, hN2, hU, hK, hlU, hlK, ⟨jt, ht⟩, ⟨rfl, rfl, rfl, j17, j18, j19, j20, rfl, rfl, rfl, rfl⟩⟩, hfA⟩⟩
  · refine x_iconst C dX5_unset_8 ⟨by decide, by decide⟩ ?_
    refine x_iret C hQ dX5_unset_9 (Nat.le_refl _) (Nat.le_refl _) ?_
    exact ⟨rfl, _, rfl, by rw [f_unset, if_pos (by omega)]; exact ⟨by first | rfl | assumption, hM2, frR.rf⟩⟩

set_option maxHeartbeats 1000000 in
set_option maxRecDepth 100000 in
theorem c_X5_isWide (l : Launch) {w : mW} (p q r : Int) : Cp l yX5_isWide cX5_isWide 3 (some .boolean) 1 [vi p, vi q, vi r] w (fun z => (z = 0 ∨ z = 1) ∧ (z = 1 ↔ (0 ≤ p ∧ p ≤ 2) ∧ (4 ≤ q ∧ q ≤ 20) ∧ (0 ≤ r ∧ r ≤ 3))) := by
  refine Cp.of (ml := [some (vi p), some (vi q), some (vi r)]) kyX5_isWide rfl (Nat.le_of_ble_eq_true rfl) rfl ?_
  intro t n C hQ
  refine x_iload_n C dX5_isWide_0 rfl ?_
  refine x_iconst C dX5_isWide_1 ⟨by decide, by decide⟩ ?_
  refine x_iconst C dX5_isWide_2 ⟨by decide, by decide⟩ ?_
  refine z_p3 C dX5_isWide_3 kyX5_in ksX5_in kmX5_103 (c_X5_in l p 0 2) (by decide) (Nat.zero_le _) (Nat.zero_le _) (Nat.le_of_ble_eq_true rfl) (fun z3 q3 => ?_)
  refine x_if_eq (tgt := 32) C dX5_isWide_6 (by decide) (fun c6 => ?_) (fun c6 => ?_)
  · refine x_iconst C dX5_isWide_32 ⟨by decide, by decide⟩ ?_
    refine x_zret C hQ dX5_isWide_33 (by first | exact Or.inl rfl | exact Or.inr rfl | omega) (Nat.le_refl _) (Nat.le_refl _) ?_
    exact ⟨rfl, rfl, _, rfl, by omega⟩
  · refine x_iload_n C dX5_isWide_9 rfl ?_
    refine x_iconst C dX5_isWide_10 ⟨by decide, by decide⟩ ?_
    refine x_bipush C dX5_isWide_11 ⟨by decide, by decide⟩ ?_
    refine z_p3 C dX5_isWide_13 kyX5_in ksX5_in kmX5_103 (c_X5_in l q 4 20) (by decide) (Nat.zero_le _) (Nat.zero_le _) (Nat.le_of_ble_eq_true rfl) (fun z13 q13 => ?_)
    refine x_if_eq (tgt := 32) C dX5_isWide_16 (by decide) (fun c16 => ?_) (fun c16 => ?_)
    · refine x_iconst C dX5_isWide_32 ⟨by decide, by decide⟩ ?_
      refine x_zret C hQ dX5_isWide_33 (by first | exact Or.inl rfl | exact Or.inr rfl | omega) (Nat.le_refl _) (Nat.le_refl _) ?_
      exact ⟨rfl, rfl, _, rfl, by omega⟩
    · refine x_iload_n C dX5_isWide_19 rfl ?_
      refine x_iconst C dX5_isWide_20 ⟨by decide, by decide⟩ ?_
      refine x_iconst C dX5_isWide_21 ⟨by decide, by decide⟩ ?_
      refine z_p3 C dX5_isWide_22 kyX5_in ksX5_in kmX5_103 (c_X5_in l r 0 3) (by decide) (Nat.zero_le _) (Nat.zero_le _) (Nat.le_of_ble_eq_true rfl) (fun z22 q22 => ?_)
      refine x_if_eq (tgt := 32) C dX5_isWide_25 (by decide) (fun c25 => ?_) (fun c25 => ?_)
      · refine x_iconst C dX5_isWide_32 ⟨by decide, by decide⟩ ?_
        refine x_zret C hQ dX5_isWide_33 (by first | exact Or.inl rfl | exact Or.inr rfl | omega) (Nat.le_refl _) (Nat.le_refl _) ?_
        exact ⟨rfl, rfl, _, rfl, by omega⟩
      · refine x_iconst C dX5_isWide_28 ⟨by decide, by decide⟩ ?_
        refine x_goto (tgt := 33) C dX5_isWide_29 (by decide) ?_
        refine x_zret C hQ dX5_isWide_33 (by first | exact Or.inl rfl | exact Or.inr rfl | omega) (Nat.le_refl _) (Nat.le_refl _) ?_
        exact ⟨rfl, rfl, _, rfl, by omega⟩

set_option maxHeartbeats 1000000 in
set_option maxRecDepth 100000 in
theorem c_X5_wide (l : Launch) {w : mW} {h : Nat} {D : mD} (hM : isM w h D) (hD : wfD D) (p q r : Int) : Ci l yX5_wide cX5_wide 4 (some .int) 6 [vr h, vi p, vi q, vi r] w (fun z w' => z = (f_wide D p q r).1 ∧ isM w' h (f_wide D p q r).2 ∧ frR w w' h (h + 23)) := by
  refine Ci.of (ml := [some (vr h), some (vi p), some (vi q), some (vi r)]) kyX5_wide rfl (Nat.le_of_ble_eq_true rfl) rfl ?_
  intro t n C hQ
  have hM2 := hM
  obtain ⟨wp, wr, ac, ra, rn, M14, M15, M16, M17, M18, M19, M20, M21, M22, M23, hN, hU, hK, hlU, hlK, ⟨jt, ht⟩, hO⟩ := hM
  have hfA : frR w w h (h + 23) := frR.rf
  have hN2 := hN
  obtain ⟨j1, j2, j3, j4, j5, j6, pi, lr, lc, M7, M8, M9, M10, M11, M12, M13, hr⟩ := hN
  obtain ⟨f1, f2, f3, f4, f5, f6, f7, f8, f9, f10, f11, f12⟩ := id hD.2.1
  have hw : ∀ f ∈ D.F.1.2.1, (0 ≤ f.1 ∧ f.1 ≤ 100) ∧ (0 ≤ f.2.1 ∧ f.2.1 ≤ 100) ∧ (f.2.2 = 0 ∨ f.2.2 = 1) := fun f hf9 => by have := f4 f hf9; omega
  have hsm := hD.2.1.sm
  have hwT := (wfF_iff D.F).mp hD.2.1
  refine x_iload_n C dX5_wide_0 rfl ?_
  refine x_iload_n C dX5_wide_1 rfl ?_
  refine x_iload_n C dX5_wide_2 rfl ?_
  refine z_p3 C dX5_wide_3 kyX5_isWide ksX5_isWide kmX5_208 (c_X5_isWide l p q r) (by decide) (Nat.zero_le _) (Nat.zero_le _) (Nat.le_of_ble_eq_true rfl) (fun z3 q3 => ?_)
  refine x_if_ne (tgt := 11) C dX5_wide_6 (by decide) (fun c6 => ?_) (fun c6 => ?_)
  · refine x_aload_n C dX5_wide_11 rfl ?_
    refine x_get C dX5_wide_12 kfX5_28 hr.o rfl ?_
    refine x_iload_n C dX5_wide_15 rfl ?_
    refine x_icmp_ne (tgt := 38) C dX5_wide_16 (by decide) (fun c16 => ?_) (fun c16 => ?_)
    · refine x_aload_n C dX5_wide_38 rfl ?_
      refine y_v0 C dX5_wide_39 kyX5_notes knX5_notes kmX5_192 hr.o (c_X5_notes l hN2 hD.2.1 hU hD.2.2.1 hlU) (by decide) (Nat.zero_le _) (Nat.zero_le _) (Nat.le_of_ble_eq_true rfl) (fun w39 q39 => ?_)
      obtain ⟨M14, j17, j18, j19, j20, hN, hf9, hU⟩ := q39
      have hfA := hfA.tr hf9
      have hN2 := hN
      obtain ⟨j1, j2, j3, j4, j5, j6, pi, lr, lc, M7, M8, M9, M10, M11, M12, M13, hr⟩ := hN
      have hlU := pushL_len hlU (F := D.F)
      have hf : frR w39 w39 h (h + 23) := frR.rf
      refine x_aload_n C dX5_wide_42 rfl ?_
      refine x_iload_n C dX5_wide_43 rfl ?_
      refine x_put C dX5_wide_44 kfX5_28 kw_5_9 rfl rfl hr.o (Nat.le_of_ble_eq_true rfl) ?_
      refine ab_M_mo hr hf (fun w hr hf => ?_)
      refine x_aload_n C dX5_wide_47 rfl ?_
      refine x_iload_n C dX5_wide_48 rfl ?_
      refine x_put C dX5_wide_49 kfX5_32 kw_5_10 rfl rfl hr.o (Nat.le_of_ble_eq_true rfl) ?_
      refine ab_M_wi hr hf (fun w hr hf => ?_)
      refine x_aload_n C dX5_wide_52 rfl ?_
      refine x_iload_n C dX5_wide_53 rfl ?_
      refine x_put C dX5_wide_54 kfX5_100 kw_5_11 rfl rfl hr.o (Nat.le_of_ble_eq_true rfl) ?_
      refine ab_M_nd hr hf (fun w hr hf => ?_)
      refine x_iconst C dX5_wide_57 ⟨by decide, by decide⟩ ?_
      refine x_iret C hQ dX5_wide_58 (Nat.le_refl _) (Nat.le_refl _) ?_
      have hfA := hfA.tr hf
      have hN2 : isN w h (D.F.1, p, q, r, D.F.2.2.2.2) (pushL 8 D.U D.F).length D.K.length (scr D.F).1.length (scr D.F).2.length 1 D.tx.length ra rn M14 M15 M16 ((scr D.F).1.map (fun q => q.1) ++ j17) ((scr D.F).1.map (fun q => q.2.2.1) ++ j18) ((scr D.F).1.map (fun q => q.2.2.2.1) ++ j19) ((scr D.F).1.map (fun q => q.2.2.2.2) ++ j20) M21 M22 M23 := ⟨j1, j2, j3, j4, j5, j6, pi, lr, lc, M7, M8, M9, M10, M11, M12, M13, hr⟩
      exact ⟨rfl, _, rfl, by rw [f_wide, if_neg (by omega), if_neg (by omega)]; exact ⟨rfl, ⟨_, _, _, _, _, _, _, _, _, _, _, _, _, _, _, hN2, hU, hK, hlU, hlK, ⟨jt, ht⟩, ⟨rfl, rfl, rfl, j17, j18, j19, j20, rfl, rfl, rfl, rfl⟩⟩, hfA⟩⟩
    · refine x_aload_n C dX5_wide_19 rfl ?_
      refine x_get C dX5_wide_20 kfX5_32 hr.o rfl ?_
      refine x_iload_n C dX5_wide_23 rfl ?_
      refine x_icmp_ne (tgt := 38) C dX5_wide_24 (by decide) (fun c24 => ?_) (fun c24 => ?_)
      · refine x_aload_n C dX5_wide_38 rfl ?_
        refine y_v0 C dX5_wide_39 kyX5_notes knX5_notes kmX5_192 hr.o (c_X5_notes l hN2 hD.2.1 hU hD.2.2.1 hlU) (by decide) (Nat.zero_le _) (Nat.zero_le _) (Nat.le_of_ble_eq_true rfl) (fun w39 q39 => ?_)
        obtain ⟨M14, j17, j18, j19, j20, hN, hf9, hU⟩ := q39
        have hfA := hfA.tr hf9
        have hN2 := hN
        obtain ⟨j1, j2, j3, j4, j5, j6, pi, lr, lc, M7, M8, M9, M10, M11, M12, M13, hr⟩ := hN
        have hlU := pushL_len hlU (F := D.F)
        have hf : frR w39 w39 h (h + 23) := frR.rf
        refine x_aload_n C dX5_wide_42 rfl ?_
        refine x_iload_n C dX5_wide_43 rfl ?_
        refine x_put C dX5_wide_44 kfX5_28 kw_5_9 rfl rfl hr.o (Nat.le_of_ble_eq_true rfl) ?_
        refine ab_M_mo hr hf (fun w hr hf => ?_)
        refine x_aload_n C dX5_wide_47 rfl ?_
        refine x_iload_n C dX5_wide_48 rfl ?_
        refine x_put C dX5_wide_49 kfX5_32 kw_5_10 rfl rfl hr.o (Nat.le_of_ble_eq_true rfl) ?_
        refine ab_M_wi hr hf (fun w hr hf => ?_)
        refine x_aload_n C dX5_wide_52 rfl ?_
        refine x_iload_n C dX5_wide_53 rfl ?_
        refine x_put C dX5_wide_54 kfX5_100 kw_5_11 rfl rfl hr.o (Nat.le_of_ble_eq_true rfl) ?_
        refine ab_M_nd hr hf (fun w hr hf => ?_)
        refine x_iconst C dX5_wide_57 ⟨by decide, by decide⟩ ?_
        refine x_iret C hQ dX5_wide_58 (Nat.le_refl _) (Nat.le_refl _) ?_
        have hfA := hfA.tr hf
        have hN2 : isN w h (D.F.1, p, q, r, D.F.2.2.2.2) (pushL 8 D.U D.F).length D.K.length (scr D.F).1.length (scr D.F).2.length 1 D.tx.length ra rn M14 M15 M16 ((scr D.F).1.map (fun q => q.1) ++ j17) ((scr D.F).1.map (fun q => q.2.2.1) ++ j18) ((scr D.F).1.map (fun q => q.2.2.2.1) ++ j19) ((scr D.F).1.map (fun q => q.2.2.2.2) ++ j20) M21 M22 M23 := ⟨j1, j2, j3, j4, j5, j6, pi, lr, lc, M7, M8, M9, M10, M11, M12, M13, hr⟩
        exact ⟨rfl, _, rfl, by rw [f_wide, if_neg (by omega), if_neg (by omega)]; exact ⟨rfl, ⟨_, _, _, _, _, _, _, _, _, _, _, _, _, _, _, hN2, hU, hK, hlU, hlK, ⟨jt, ht⟩, ⟨rfl, rfl, rfl, j17, j18, j19, j20, rfl, rfl, rfl, rfl⟩⟩, hfA⟩⟩
      · refine x_aload_n C dX5_wide_27 rfl ?_
        refine x_get C dX5_wide_28 kfX5_100 hr.o rfl ?_
        refine x_iload_n C dX5_wide_31 rfl ?_
        refine x_icmp_ne (tgt := 38) C dX5_wide_32 (by decide) (fun c32 => ?_) (fun c32 => ?_)
        · refine x_aload_n C dX5_wide_38 rfl ?_
          refine y_v0 C dX5_wide_39 kyX5_notes knX5_notes kmX5_192 hr.o (c_X5_notes l hN2 hD.2.1 hU hD.2.2.1 hlU) (by decide) (Nat.zero_le _) (Nat.zero_le _) (Nat.le_of_ble_eq_true rfl) (fun w39 q39 => ?_)
          obtain ⟨M14, j17, j18, j19, j20, hN, hf9, hU⟩ := q39
          have hfA := hfA.tr hf9
          have hN2 := hN
          obtain ⟨j1, j2, j3, j4, j5, j6, pi, lr, lc, M7, M8, M9, M10, M11, M12, M13, hr⟩ := hN
          have hlU := pushL_len hlU (F := D.F)
          have hf : frR w39 w39 h (h + 23) := frR.rf
          refine x_aload_n C dX5_wide_42 rfl ?_
          refine x_iload_n C dX5_wide_43 rfl ?_
          refine x_put C dX5_wide_44 kfX5_28 kw_5_9 rfl rfl hr.o (Nat.le_of_ble_eq_true rfl) ?_
          refine ab_M_mo hr hf (fun w hr hf => ?_)
          refine x_aload_n C dX5_wide_47 rfl ?_
          refine x_iload_n C dX5_wide_48 rfl ?_
          refine x_put C dX5_wide_49 kfX5_32 kw_5_10 rfl rfl hr.o (Nat.le_of_ble_eq_true rfl) ?_
          refine ab_M_wi hr hf (fun w hr hf => ?_)
          refine x_aload_n C dX5_wide_52 rfl ?_
          refine x_iload_n C dX5_wide_53 rfl ?_
          refine x_put C dX5_wide_54 kfX5_100 kw_5_11 rfl rfl hr.o (Nat.le_of_ble_eq_true rfl) ?_
          refine ab_M_nd hr hf (fun w hr hf => ?_)
          refine x_iconst C dX5_wide_57 ⟨by decide, by decide⟩ ?_
          refine x_iret C hQ dX5_wide_58 (Nat.le_refl _) (Nat.le_refl _) ?_
          have hfA := hfA.tr hf
          have hN2 : isN w h (D.F.1, p, q, r, D.F.2.2.2.2) (pushL 8 D.U D.F).length D.K.length (scr D.F).1.length (scr D.F).2.length 1 D.tx.length ra rn M14 M15 M16 ((scr D.F).1.map (fun q => q.1) ++ j17) ((scr D.F).1.map (fun q => q.2.2.1) ++ j18) ((scr D.F).1.map (fun q => q.2.2.2.1) ++ j19) ((scr D.F).1.map (fun q => q.2.2.2.2) ++ j20) M21 M22 M23 := ⟨j1, j2, j3, j4, j5, j6, pi, lr, lc, M7, M8, M9, M10, M11, M12, M13, hr⟩
          exact ⟨rfl, _, rfl, by rw [f_wide, if_neg (by omega), if_neg (by omega)]; exact ⟨rfl, ⟨_, _, _, _, _, _, _, _, _, _, _, _, _, _, _, hN2, hU, hK, hlU, hlK, ⟨jt, ht⟩, ⟨rfl, rfl, rfl, j17, j18, j19, j20, rfl, rfl, rfl, rfl⟩⟩, hfA⟩⟩
        · refine x_bipush C dX5_wide_35 ⟨by decide, by decide⟩ ?_
          refine x_iret C hQ dX5_wide_37 (Nat.le_refl _) (Nat.le_refl _) ?_
          exact ⟨rfl, _, rfl, by rw [f_wide, if_neg (by omega), if_pos (by omega)]; exact ⟨by first | rfl | assumption, hM2, frR.rf⟩⟩
  · refine x_iconst C dX5_wide_9 ⟨by decide, by decide⟩ ?_
    refine x_iret C hQ dX5_wide_10 (Nat.le_refl _) (Nat.le_refl _) ?_
    exact ⟨rfl, _, rfl, by rw [f_wide, if_pos (by omega)]; exact ⟨by first | rfl | assumption, hM2, frR.rf⟩⟩

set_option maxHeartbeats 1000000 in
set_option maxRecDepth 100000 in
theorem c_X5_tabs (l : Launch) {w : mW} {h : Nat} {D : mD} (hM : isM w h D) (hD : wfD D) (p : Int) : Ci l yX5_tabs cX5_tabs 3 (some .int) 6 [vr h, vi p] w (fun z w' => z = (f_tabs D p).1 ∧ isM w' h (f_tabs D p).2 ∧ frR w w' h (h + 23)) := by
  refine Ci.of (ml := [some (vr h), some (vi p), none]) kyX5_tabs rfl (Nat.le_of_ble_eq_true rfl) rfl ?_
  intro t n C hQ
  have hM2 := hM
  obtain ⟨wp, wr, ac, ra, rn, M14, M15, M16, M17, M18, M19, M20, M21, M22, M23, hN, hU, hK, hlU, hlK, ⟨jt, ht⟩, hO⟩ := hM
  have hfA : frR w w h (h + 23) := frR.rf
  have hN2 := hN
  obtain ⟨j1, j2, j3, j4, j5, j6, pi, lr, lc, M7, M8, M9, M10, M11, M12, M13, hr⟩ := hN
  obtain ⟨f1, f2, f3, f4, f5, f6, f7, f8, f9, f10, f11, f12⟩ := id hD.2.1
  have hw : ∀ f ∈ D.F.1.2.1, (0 ≤ f.1 ∧ f.1 ≤ 100) ∧ (0 ≤ f.2.1 ∧ f.2.1 ≤ 100) ∧ (f.2.2 = 0 ∨ f.2.2 = 1) := fun f hf9 => by have := f4 f hf9; omega
  have hsm := hD.2.1.sm
  have hwT := (wfF_iff D.F).mp hD.2.1
  refine x_iload_n C dX5_tabs_0 rfl ?_
  refine x_iconst C dX5_tabs_1 ⟨by decide, by decide⟩ ?_
  refine x_bipush C dX5_tabs_2 ⟨by decide, by decide⟩ ?_
  refine z_p3 C dX5_tabs_4 kyX5_in ksX5_in kmX5_103 (c_X5_in l p 1 8) (by decide) (Nat.zero_le _) (Nat.zero_le _) (Nat.le_of_ble_eq_true rfl) (fun z4 q4 => ?_)
  refine x_if_ne (tgt := 12) C dX5_tabs_7 (by decide) (fun c7 => ?_) (fun c7 => ?_)
  · refine x_aload_n C dX5_tabs_12 rfl ?_
    refine x_get C dX5_tabs_13 kfX5_35 hr.o rfl ?_
    refine s_ist3_2 C dX5_tabs_16 rfl ?_
    refine x_iload_n C dX5_tabs_17 rfl ?_
    refine x_iload_n C dX5_tabs_18 rfl ?_
    refine x_icmp_ne (tgt := 25) C dX5_tabs_19 (by decide) (fun c19 => ?_) (fun c19 => ?_)
    · refine x_aload_n C dX5_tabs_25 rfl ?_
      refine y_v0 C dX5_tabs_26 kyX5_notes knX5_notes kmX5_192 hr.o (c_X5_notes l hN2 hD.2.1 hU hD.2.2.1 hlU) (by decide) (Nat.zero_le _) (Nat.zero_le _) (Nat.le_of_ble_eq_true rfl) (fun w26 q26 => ?_)
      obtain ⟨M14, j17, j18, j19, j20, hN, hf9, hU⟩ := q26
      have hfA := hfA.tr hf9
      have hN2 := hN
      obtain ⟨j1, j2, j3, j4, j5, j6, pi, lr, lc, M7, M8, M9, M10, M11, M12, M13, hr⟩ := hN
      have hlU := pushL_len hlU (F := D.F)
      have hf : frR w26 w26 h (h + 23) := frR.rf
      refine x_aload_n C dX5_tabs_29 rfl ?_
      refine x_iload_n C dX5_tabs_30 rfl ?_
      refine x_put C dX5_tabs_31 kfX5_35 kw_5_12 rfl rfl hr.o (Nat.le_of_ble_eq_true rfl) ?_
      refine ab_M_tb hr hf (fun w hr hf => ?_)
      refine x_iload_n C dX5_tabs_34 rfl ?_
      refine x_iret C hQ dX5_tabs_35 (Nat.le_refl _) (Nat.le_refl _) ?_
      have hfA := hfA.tr hf
      have hN2 : isN w h (D.F.1, D.F.2.1, D.F.2.2.1, D.F.2.2.2.1, p) (pushL 8 D.U D.F).length D.K.length (scr D.F).1.length (scr D.F).2.length 1 D.tx.length ra rn M14 M15 M16 ((scr D.F).1.map (fun q => q.1) ++ j17) ((scr D.F).1.map (fun q => q.2.2.1) ++ j18) ((scr D.F).1.map (fun q => q.2.2.2.1) ++ j19) ((scr D.F).1.map (fun q => q.2.2.2.2) ++ j20) M21 M22 M23 := ⟨j1, j2, j3, j4, j5, j6, pi, lr, lc, M7, M8, M9, M10, M11, M12, M13, hr⟩
      exact ⟨rfl, _, rfl, by rw [f_tabs, if_neg (by omega), if_neg (by omega)]; exact ⟨rfl, ⟨_, _, _, _, _, _, _, _, _, _, _, _, _, _, _, hN2, hU, hK, hlU, hlK, ⟨jt, ht⟩, ⟨rfl, rfl, rfl, j17, j18, j19, j20, rfl, rfl, rfl, rfl⟩⟩, hfA⟩⟩
    · refine x_bipush C dX5_tabs_22 ⟨by decide, by decide⟩ ?_
      refine x_iret C hQ dX5_tabs_24 (Nat.le_refl _) (Nat.le_refl _) ?_
      exact ⟨rfl, _, rfl, by rw [f_tabs, if_neg (by omega), if_pos (by omega)]; exact ⟨by first | rfl | assumption, hM2, frR.rf⟩⟩
  · refine x_iconst C dX5_tabs_10 ⟨by decide, by decide⟩ ?_
    refine x_iret C hQ dX5_tabs_11 (Nat.le_refl _) (Nat.le_refl _) ?_
    exact ⟨rfl, _, rfl, by rw [f_tabs, if_pos (by omega)]; exact ⟨by first | rfl | assumption, hM2, frR.rf⟩⟩

set_option maxHeartbeats 1000000 in
set_option maxRecDepth 100000 in
theorem c_X5_sign (l : Launch) {w : mW} {h : Nat} {D : mD} (hM : isM w h D) (hD : wfD D) (p : Int) : Cp l yX5_sign cX5_sign 2 (some .int) 2 [vr h, vi p] w (fun z => z = q_sign D.F p) := by
  refine Cp.of (ml := [some (vr h), some (vi p)]) kyX5_sign rfl (Nat.le_of_ble_eq_true rfl) rfl ?_
  intro t n C hQ
  have hM2 := hM
  obtain ⟨wp, wr, ac, ra, rn, M14, M15, M16, M17, M18, M19, M20, M21, M22, M23, hN, hU, hK, hlU, hlK, ⟨jt, ht⟩, hO⟩ := hM
  have hfA : frR w w h (h + 23) := frR.rf
  have hN2 := hN
  obtain ⟨j1, j2, j3, j4, j5, j6, pi, lr, lc, M7, M8, M9, M10, M11, M12, M13, hr⟩ := hN
  obtain ⟨f1, f2, f3, f4, f5, f6, f7, f8, f9, f10, f11, f12⟩ := id hD.2.1
  have hw : ∀ f ∈ D.F.1.2.1, (0 ≤ f.1 ∧ f.1 ≤ 100) ∧ (0 ≤ f.2.1 ∧ f.2.1 ≤ 100) ∧ (f.2.2 = 0 ∨ f.2.2 = 1) := fun f hf9 => by have := f4 f hf9; omega
  have hsm := hD.2.1.sm
  have hwT := (wfF_iff D.F).mp hD.2.1
  refine x_aload_n C dX5_sign_0 rfl ?_
  refine x_iload_n C dX5_sign_1 rfl ?_
  refine y_p1 C dX5_sign_2 kyX5_isPlace knX5_isPlace kmX5_153 hr.o (c_X5_isPlace l hr p) (by decide) (Nat.zero_le _) (Nat.zero_le _) (Nat.le_of_ble_eq_true rfl) (fun z2 q2 => ?_)
  refine x_if_ne (tgt := 10) C dX5_sign_5 (by decide) (fun c5 => ?_) (fun c5 => ?_)
  · refine x_iload_n C dX5_sign_10 rfl ?_
    refine x_aload_n C dX5_sign_11 rfl ?_
    refine x_get C dX5_sign_12 kfX5_89 hr.o rfl ?_
    refine x_icmp_ne (tgt := 23) C dX5_sign_15 (by decide) (fun c15 => ?_) (fun c15 => ?_)
    · have l1 := hr.l1
      simp only [List.length_append] at l1
      refine x_aload_n C dX5_sign_23 rfl ?_
      refine x_get C dX5_sign_24 kfX5_7 hr.o rfl ?_
      refine x_iload_n C dX5_sign_27 rfl ?_
      refine x_iald C dX5_sign_28 hr.a1 (by omega) (by rw [hr.l1]; omega) ?_
      refine x_iret C hQ dX5_sign_29 (Nat.le_refl _) (Nat.le_refl _) ?_
      have e := gd_app_l (xs := D.F.1.1) (ys := j1) (i := p.toNat) (by first | omega | (rw [List.length_map]; omega))
      exact ⟨rfl, rfl, _, rfl, by unfold q_sign; (repeat' split) <;> omega⟩
    · refine x_bipush C dX5_sign_18 ⟨by decide, by decide⟩ ?_
      refine x_goto (tgt := 29) C dX5_sign_20 (by decide) ?_
      refine x_iret C hQ dX5_sign_29 (Nat.le_refl _) (Nat.le_refl _) ?_
      exact ⟨rfl, rfl, _, rfl, by unfold q_sign; (repeat' split) <;> omega⟩
  · refine x_iconst C dX5_sign_8 ⟨by decide, by decide⟩ ?_
    refine x_iret C hQ dX5_sign_9 (Nat.le_refl _) (Nat.le_refl _) ?_
    exact ⟨rfl, rfl, _, rfl, by unfold q_sign; (repeat' split) <;> omega⟩

set_option maxHeartbeats 1000000 in
set_option maxRecDepth 100000 in
theorem c_X5_fold (l : Launch) {w : mW} {h : Nat} {D : mD} (hM : isM w h D) (hD : wfD D) (p q : Int) : Cp l yX5_fold cX5_fold 3 (some .int) 2 [vr h, vi p, vi q] w (fun z => z = q_fold D.F p q) := by
  refine Cp.of (ml := [some (vr h), some (vi p), some (vi q)]) kyX5_fold rfl (Nat.le_of_ble_eq_true rfl) rfl ?_
  intro t n C hQ
  have hM2 := hM
  obtain ⟨wp, wr, ac, ra, rn, M14, M15, M16, M17, M18, M19, M20, M21, M22, M23, hN, hU, hK, hlU, hlK, ⟨jt, ht⟩, hO⟩ := hM
  have hfA : frR w w h (h + 23) := frR.rf
  have hN2 := hN
  obtain ⟨j1, j2, j3, j4, j5, j6, pi, lr, lc, M7, M8, M9, M10, M11, M12, M13, hr⟩ := hN
  obtain ⟨f1, f2, f3, f4, f5, f6, f7, f8, f9, f10, f11, f12⟩ := id hD.2.1
  have hw : ∀ f ∈ D.F.1.2.1, (0 ≤ f.1 ∧ f.1 ≤ 100) ∧ (0 ≤ f.2.1 ∧ f.2.1 ≤ 100) ∧ (f.2.2 = 0 ∨ f.2.2 = 1) := fun f hf9 => by have := f4 f hf9; omega
  have hsm := hD.2.1.sm
  have hwT := (wfF_iff D.F).mp hD.2.1
  refine x_aload_n C dX5_fold_0 rfl ?_
  refine x_iload_n C dX5_fold_1 rfl ?_
  refine y_p1 C dX5_fold_2 kyX5_isFold knX5_isFold kmX5_156 hr.o (c_X5_isFold l hr (by omega) p) (by decide) (Nat.zero_le _) (Nat.zero_le _) (Nat.le_of_ble_eq_true rfl) (fun z2 q2 => ?_)
  refine x_if_eq (tgt := 17) C dX5_fold_5 (by decide) (fun c5 => ?_) (fun c5 => ?_)
  · refine x_iconst C dX5_fold_17 ⟨by decide, by decide⟩ ?_
    refine x_iret C hQ dX5_fold_18 (Nat.le_refl _) (Nat.le_refl _) ?_
    exact ⟨rfl, rfl, _, rfl, by unfold q_fold; (repeat' split) <;> omega⟩
  · refine x_iload_n C dX5_fold_8 rfl ?_
    refine x_iconst C dX5_fold_9 ⟨by decide, by decide⟩ ?_
    refine x_iconst C dX5_fold_10 ⟨by decide, by decide⟩ ?_
    refine z_p3 C dX5_fold_11 kyX5_in ksX5_in kmX5_103 (c_X5_in l q 0 2) (by decide) (Nat.zero_le _) (Nat.zero_le _) (Nat.le_of_ble_eq_true rfl) (fun z11 q11 => ?_)
    refine x_if_ne (tgt := 19) C dX5_fold_14 (by decide) (fun c14 => ?_) (fun c14 => ?_)
    · have l2 := hr.l2
      have l3 := hr.l3
      have l4 := hr.l4
      have l5 := hr.l5
      have l6 := hr.l6
      simp only [List.length_append, List.length_map] at l2 l3 l4 l5 l6
      refine x_iload_n C dX5_fold_19 rfl ?_
      refine x_if_ne (tgt := 32) C dX5_fold_20 (by decide) (fun c20 => ?_) (fun c20 => ?_)
      · refine x_iload_n C dX5_fold_32 rfl ?_
        refine x_iconst C dX5_fold_33 ⟨by decide, by decide⟩ ?_
        refine x_icmp_ne (tgt := 46) C dX5_fold_34 (by decide) (fun c34 => ?_) (fun c34 => ?_)
        · refine x_aload_n C dX5_fold_46 rfl ?_
          refine x_get C dX5_fold_47 kfX5_19 hr.o rfl ?_
          refine x_iload_n C dX5_fold_50 rfl ?_
          refine x_iald C dX5_fold_51 hr.a4 (by omega) (by rw [hr.l4]; omega) ?_
          refine x_iret C hQ dX5_fold_52 (Nat.le_refl _) (Nat.le_refl _) ?_
          have e := gd_app_l (xs := D.F.1.2.1.map (fun q => q.2.2)) (ys := j4) (i := p.toNat) (by first | omega | (rw [List.length_map]; omega))
          exact ⟨rfl, rfl, _, rfl, by unfold q_fold; (repeat' split) <;> omega⟩
        · refine x_aload_n C dX5_fold_37 rfl ?_
          refine x_get C dX5_fold_38 kfX5_16 hr.o rfl ?_
          refine x_iload_n C dX5_fold_41 rfl ?_
          refine x_iald C dX5_fold_42 hr.a3 (by omega) (by rw [hr.l3]; omega) ?_
          refine x_goto (tgt := 52) C dX5_fold_43 (by decide) ?_
          refine x_iret C hQ dX5_fold_52 (Nat.le_refl _) (Nat.le_refl _) ?_
          have e := gd_app_l (xs := D.F.1.2.1.map (fun q => q.2.1)) (ys := j3) (i := p.toNat) (by first | omega | (rw [List.length_map]; omega))
          exact ⟨rfl, rfl, _, rfl, by unfold q_fold; (repeat' split) <;> omega⟩
      · refine x_aload_n C dX5_fold_23 rfl ?_
        refine x_get C dX5_fold_24 kfX5_13 hr.o rfl ?_
        refine x_iload_n C dX5_fold_27 rfl ?_
        refine x_iald C dX5_fold_28 hr.a2 (by omega) (by rw [hr.l2]; omega) ?_
        refine x_goto (tgt := 52) C dX5_fold_29 (by decide) ?_
        refine x_iret C hQ dX5_fold_52 (Nat.le_refl _) (Nat.le_refl _) ?_
        have e := gd_app_l (xs := D.F.1.2.1.map (fun q => q.1)) (ys := j2) (i := p.toNat) (by first | omega | (rw [List.length_map]; omega))
        exact ⟨rfl, rfl, _, rfl, by unfold q_fold; (repeat' split) <;> omega⟩
    · refine x_iconst C dX5_fold_17 ⟨by decide, by decide⟩ ?_
      refine x_iret C hQ dX5_fold_18 (Nat.le_refl _) (Nat.le_refl _) ?_
      exact ⟨rfl, rfl, _, rfl, by unfold q_fold; (repeat' split) <;> omega⟩

set_option maxHeartbeats 1000000 in
set_option maxRecDepth 100000 in
theorem c_X5_hint (l : Launch) {w : mW} {h : Nat} {D : mD} (hM : isM w h D) (hD : wfD D) (p q : Int) : Cp l yX5_hint cX5_hint 3 (some .int) 3 [vr h, vi p, vi q] w (fun z => z = q_hint D.F p q) := by
  refine Cp.of (ml := [some (vr h), some (vi p), some (vi q)]) kyX5_hint rfl (Nat.le_of_ble_eq_true rfl) rfl ?_
  intro t n C hQ
  have hM2 := hM
  obtain ⟨wp, wr, ac, ra, rn, M14, M15, M16, M17, M18, M19, M20, M21, M22, M23, hN, hU, hK, hlU, hlK, ⟨jt, ht⟩, hO⟩ := hM
  have hfA : frR w w h (h + 23) := frR.rf
  have hN2 := hN
  obtain ⟨j1, j2, j3, j4, j5, j6, pi, lr, lc, M7, M8, M9, M10, M11, M12, M13, hr⟩ := hN
  obtain ⟨f1, f2, f3, f4, f5, f6, f7, f8, f9, f10, f11, f12⟩ := id hD.2.1
  have hw : ∀ f ∈ D.F.1.2.1, (0 ≤ f.1 ∧ f.1 ≤ 100) ∧ (0 ≤ f.2.1 ∧ f.2.1 ≤ 100) ∧ (f.2.2 = 0 ∨ f.2.2 = 1) := fun f hf9 => by have := f4 f hf9; omega
  have hsm := hD.2.1.sm
  have hwT := (wfF_iff D.F).mp hD.2.1
  refine x_aload_n C dX5_hint_0 rfl ?_
  refine x_iload_n C dX5_hint_1 rfl ?_
  refine y_p1 C dX5_hint_2 kyX5_isHint knX5_isHint kmX5_159 hr.o (c_X5_isHint l hr (by omega) p) (by decide) (Nat.zero_le _) (Nat.zero_le _) (Nat.le_of_ble_eq_true rfl) (fun z2 q2 => ?_)
  refine x_if_eq (tgt := 17) C dX5_hint_5 (by decide) (fun c5 => ?_) (fun c5 => ?_)
  · refine x_iconst C dX5_hint_17 ⟨by decide, by decide⟩ ?_
    refine x_iret C hQ dX5_hint_18 (Nat.le_refl _) (Nat.le_refl _) ?_
    exact ⟨rfl, rfl, _, rfl, by unfold q_hint; (repeat' split) <;> omega⟩
  · refine x_iload_n C dX5_hint_8 rfl ?_
    refine x_iconst C dX5_hint_9 ⟨by decide, by decide⟩ ?_
    refine x_iconst C dX5_hint_10 ⟨by decide, by decide⟩ ?_
    refine z_p3 C dX5_hint_11 kyX5_in ksX5_in kmX5_103 (c_X5_in l q 0 2) (by decide) (Nat.zero_le _) (Nat.zero_le _) (Nat.le_of_ble_eq_true rfl) (fun z11 q11 => ?_)
    refine x_if_ne (tgt := 19) C dX5_hint_14 (by decide) (fun c14 => ?_) (fun c14 => ?_)
    · have l2 := hr.l2
      have l3 := hr.l3
      have l4 := hr.l4
      have l5 := hr.l5
      have l6 := hr.l6
      simp only [List.length_append, List.length_map] at l2 l3 l4 l5 l6
      refine x_iload_n C dX5_hint_19 rfl ?_
      refine x_if_ne (tgt := 32) C dX5_hint_20 (by decide) (fun c20 => ?_) (fun c20 => ?_)
      · refine x_iload_n C dX5_hint_32 rfl ?_
        refine x_iconst C dX5_hint_33 ⟨by decide, by decide⟩ ?_
        refine x_icmp_ne (tgt := 46) C dX5_hint_34 (by decide) (fun c34 => ?_) (fun c34 => ?_)
        · refine x_aload_n C dX5_hint_46 rfl ?_
          refine x_aload_n C dX5_hint_47 rfl ?_
          refine x_get C dX5_hint_48 kfX5_22 hr.o rfl ?_
          refine x_iload_n C dX5_hint_51 rfl ?_
          refine x_iald C dX5_hint_52 hr.a5 (by omega) (by rw [hr.l5]; omega) ?_
          refine y_p1 C dX5_hint_53 kyX5_isShown knX5_isShown kmX5_162 hr.o (c_X5_isShown l hr hw f5 _) (by decide) (Nat.zero_le _) (Nat.zero_le _) (Nat.le_of_ble_eq_true rfl) (fun z53 q53 => ?_)
          rw [gd_app_l (by rw [List.length_map]; omega)] at q53
          refine x_if_eq (tgt := 63) C dX5_hint_56 (by decide) (fun c56 => ?_) (fun c56 => ?_)
          · refine x_iconst C dX5_hint_63 ⟨by decide, by decide⟩ ?_
            refine x_iret C hQ dX5_hint_64 (Nat.le_refl _) (Nat.le_refl _) ?_
            exact ⟨rfl, rfl, _, rfl, by unfold q_hint; (repeat' split) <;> omega⟩
          · refine x_iconst C dX5_hint_59 ⟨by decide, by decide⟩ ?_
            refine x_goto (tgt := 64) C dX5_hint_60 (by decide) ?_
            refine x_iret C hQ dX5_hint_64 (Nat.le_refl _) (Nat.le_refl _) ?_
            exact ⟨rfl, rfl, _, rfl, by unfold q_hint; (repeat' split) <;> omega⟩
        · refine x_aload_n C dX5_hint_37 rfl ?_
          refine x_get C dX5_hint_38 kfX5_25 hr.o rfl ?_
          refine x_iload_n C dX5_hint_41 rfl ?_
          refine x_iald C dX5_hint_42 hr.a6 (by omega) (by rw [hr.l6]; omega) ?_
          refine x_goto (tgt := 64) C dX5_hint_43 (by decide) ?_
          refine x_iret C hQ dX5_hint_64 (Nat.le_refl _) (Nat.le_refl _) ?_
          have e := gd_app_l (xs := D.F.1.2.2.map (fun q => q.2)) (ys := j6) (i := p.toNat) (by first | omega | (rw [List.length_map]; omega))
          exact ⟨rfl, rfl, _, rfl, by unfold q_hint; (repeat' split) <;> omega⟩
      · refine x_aload_n C dX5_hint_23 rfl ?_
        refine x_get C dX5_hint_24 kfX5_22 hr.o rfl ?_
        refine x_iload_n C dX5_hint_27 rfl ?_
        refine x_iald C dX5_hint_28 hr.a5 (by omega) (by rw [hr.l5]; omega) ?_
        refine x_goto (tgt := 64) C dX5_hint_29 (by decide) ?_
        refine x_iret C hQ dX5_hint_64 (Nat.le_refl _) (Nat.le_refl _) ?_
        have e := gd_app_l (xs := D.F.1.2.2.map (fun q => q.1)) (ys := j5) (i := p.toNat) (by first | omega | (rw [List.length_map]; omega))
        exact ⟨rfl, rfl, _, rfl, by unfold q_hint; (repeat' split) <;> omega⟩
    · refine x_iconst C dX5_hint_17 ⟨by decide, by decide⟩ ?_
      refine x_iret C hQ dX5_hint_18 (Nat.le_refl _) (Nat.le_refl _) ?_
      exact ⟨rfl, rfl, _, rfl, by unfold q_hint; (repeat' split) <;> omega⟩

set_option maxHeartbeats 1000000 in
set_option maxRecDepth 100000 in
theorem c_X5_count (l : Launch) {w : mW} {h : Nat} {D : mD} (hM : isM w h D) (hD : wfD D) (p : Int) : Ci l yX5_count cX5_count 2 (some .int) 5 [vr h, vi p] w (fun z w' => z = q_count D p ∧ isM w' h D ∧ frR w w' h (h + 23)) := by
  refine Ci.of (ml := [some (vr h), some (vi p)]) kyX5_count rfl (Nat.le_of_ble_eq_true rfl) rfl ?_
  intro t n C hQ
  have hM2 := hM
  obtain ⟨wp, wr, ac, ra, rn, M14, M15, M16, M17, M18, M19, M20, M21, M22, M23, hN, hU, hK, hlU, hlK, ⟨jt, ht⟩, hO⟩ := hM
  have hfA : frR w w h (h + 23) := frR.rf
  have hN2 := hN
  obtain ⟨j1, j2, j3, j4, j5, j6, pi, lr, lc, M7, M8, M9, M10, M11, M12, M13, hr⟩ := hN
  obtain ⟨f1, f2, f3, f4, f5, f6, f7, f8, f9, f10, f11, f12⟩ := id hD.2.1
  have hw : ∀ f ∈ D.F.1.2.1, (0 ≤ f.1 ∧ f.1 ≤ 100) ∧ (0 ≤ f.2.1 ∧ f.2.1 ≤ 100) ∧ (f.2.2 = 0 ∨ f.2.2 = 1) := fun f hf9 => by have := f4 f hf9; omega
  have hsm := hD.2.1.sm
  have hwT := (wfF_iff D.F).mp hD.2.1
  refine x_iload_n C dX5_count_0 rfl ?_
  refine x_iconst C dX5_count_1 ⟨by decide, by decide⟩ ?_
  refine x_bipush C dX5_count_2 ⟨by decide, by decide⟩ ?_
  refine z_p3 C dX5_count_4 kyX5_in ksX5_in kmX5_103 (c_X5_in l p 0 11) (by decide) (Nat.zero_le _) (Nat.zero_le _) (Nat.le_of_ble_eq_true rfl) (fun z4 q4 => ?_)
  refine x_if_ne (tgt := 12) C dX5_count_7 (by decide) (fun c7 => ?_) (fun c7 => ?_)
  · refine x_iload_n C dX5_count_12 rfl ?_
    refine sw_X5_count_13 C (fun c13 => ?_) (fun c13 => ?_) (fun c13 => ?_) (fun c13 => ?_) (fun c13 => ?_) (fun c13 => ?_) (fun c13 => ?_) (fun c13 => ?_) (fun c13 => ?_) (fun c13 => ?_) (fun c13 => ?_) (fun c13 => ?_)
    · refine x_aload_n C dX5_count_72 rfl ?_
      refine x_get C dX5_count_73 kfX5_89 hr.o rfl ?_
      refine x_iret C hQ dX5_count_76 (Nat.le_refl _) (Nat.le_refl _) ?_
      exact ⟨rfl, _, rfl, by subst c13; rfl, hM2, frR.rf⟩
    · refine x_aload_n C dX5_count_77 rfl ?_
      refine x_get C dX5_count_78 kfX5_107 hr.o rfl ?_
      refine x_iret C hQ dX5_count_81 (Nat.le_refl _) (Nat.le_refl _) ?_
      exact ⟨rfl, _, rfl, by subst c13; rfl, hM2, frR.rf⟩
    · refine x_aload_n C dX5_count_82 rfl ?_
      refine x_get C dX5_count_83 kfX5_110 hr.o rfl ?_
      refine x_iret C hQ dX5_count_86 (Nat.le_refl _) (Nat.le_refl _) ?_
      exact ⟨rfl, _, rfl, by subst c13; rfl, hM2, frR.rf⟩
    · refine x_aload_n C dX5_count_87 rfl ?_
      refine y_i0 C dX5_count_88 kyX5_rows knX5_rows kmX5_241 hr.o (c_X5_rows l hN2 hD.2.1) (by decide) (Nat.zero_le _) (Nat.zero_le _) (Nat.le_of_ble_eq_true rfl) (fun z88 w88 q88 => ?_)
      obtain ⟨qa, hNs, hf9⟩ := q88
      have hN2 := hNs.n
      have hfA := hfA.tr hf9
      refine x_iret C hQ dX5_count_91 (Nat.le_refl _) (Nat.le_refl _) ?_
      exact ⟨rfl, _, rfl, by subst c13; exact qa, ⟨_, _, _, _, _, _, _, _, _, _, _, _, _, _, _, hN2, hU, hK, hlU, hlK, ⟨jt, ht⟩, hO⟩, hfA⟩
    · refine x_aload_n C dX5_count_92 rfl ?_
      refine y_i0 C dX5_count_93 kyX5_longest knX5_longest kmX5_258 hr.o (c_X5_longest l hN2 hD.2.1) (by decide) (Nat.zero_le _) (Nat.zero_le _) (Nat.le_of_ble_eq_true rfl) (fun z93 w93 q93 => ?_)
      obtain ⟨qa, hNs, hf9⟩ := q93
      have hN2 := hNs.n
      have hfA := hfA.tr hf9
      refine x_iret C hQ dX5_count_96 (Nat.le_refl _) (Nat.le_refl _) ?_
      exact ⟨rfl, _, rfl, by subst c13; exact qa, ⟨_, _, _, _, _, _, _, _, _, _, _, _, _, _, _, hN2, hU, hK, hlU, hlK, ⟨jt, ht⟩, hO⟩, hfA⟩
    · refine x_aload_n C dX5_count_97 rfl ?_
      refine x_get C dX5_count_98 kfX5_28 hr.o rfl ?_
      refine x_iret C hQ dX5_count_101 (Nat.le_refl _) (Nat.le_refl _) ?_
      exact ⟨rfl, _, rfl, by subst c13; rfl, hM2, frR.rf⟩
    · refine x_aload_n C dX5_count_102 rfl ?_
      refine x_get C dX5_count_103 kfX5_32 hr.o rfl ?_
      refine x_iret C hQ dX5_count_106 (Nat.le_refl _) (Nat.le_refl _) ?_
      exact ⟨rfl, _, rfl, by subst c13; rfl, hM2, frR.rf⟩
    · refine x_aload_n C dX5_count_107 rfl ?_
      refine x_get C dX5_count_108 kfX5_100 hr.o rfl ?_
      refine x_iret C hQ dX5_count_111 (Nat.le_refl _) (Nat.le_refl _) ?_
      exact ⟨rfl, _, rfl, by subst c13; rfl, hM2, frR.rf⟩
    · refine x_aload_n C dX5_count_112 rfl ?_
      refine x_get C dX5_count_113 kfX5_35 hr.o rfl ?_
      refine x_iret C hQ dX5_count_116 (Nat.le_refl _) (Nat.le_refl _) ?_
      exact ⟨rfl, _, rfl, by subst c13; rfl, hM2, frR.rf⟩
    · refine x_aload_n C dX5_count_117 rfl ?_
      refine x_get C dX5_count_118 kfX5_178 hr.o rfl ?_
      refine x_iret C hQ dX5_count_121 (Nat.le_refl _) (Nat.le_refl _) ?_
      exact ⟨rfl, _, rfl, by subst c13; rfl, hM2, frR.rf⟩
    · refine x_aload_n C dX5_count_122 rfl ?_
      refine x_get C dX5_count_123 kfX5_214 hr.o rfl ?_
      refine x_iret C hQ dX5_count_126 (Nat.le_refl _) (Nat.le_refl _) ?_
      exact ⟨rfl, _, rfl, by subst c13; rfl, hM2, frR.rf⟩
    · refine x_aload_n C dX5_count_127 rfl ?_
      refine x_get C dX5_count_128 kfX5_261 hr.o rfl ?_
      refine x_iret C hQ dX5_count_131 (Nat.le_refl _) (Nat.le_refl _) ?_
      exact ⟨rfl, _, rfl, by rw [show p = 11 by omega]; rfl, hM2, frR.rf⟩
  · refine x_iconst C dX5_count_10 ⟨by decide, by decide⟩ ?_
    refine x_iret C hQ dX5_count_11 (Nat.le_refl _) (Nat.le_refl _) ?_
    exact ⟨rfl, _, rfl, by unfold q_count; rw [if_neg (by omega), if_neg (by omega), if_neg (by omega), if_neg (by omega), if_neg (by omega), if_neg (by omega), if_neg (by omega), if_neg (by omega), if_neg (by omega), if_neg (by omega), if_neg (by omega), if_neg (by omega)], hM2, frR.rf⟩
